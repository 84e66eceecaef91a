set_option maxRecDepth 100000 in
def lb_X12_law_121  (g : Gh) (M0 : Mem) (a0 : Nat) (post : Int32 → Mem → Prop) (bk65 : Int32 × Mem → Prop) (x1 : Int32)  (M : Mem) : Prop :=
  ∃ q1, mR M a0 33 = some q1 ∧ (∃ q3, mR M a0 38 = some q3 ∧ (okc (gB g) M0 q3 17 ∧ (vp_in x1 (mN M0 q3) ∧ (okc (gB g) M0 q1 17 ∧ (vp_in x1 (mN M0 q1) ∧ (∀ M9, M9 = uI M q1 (Int32.toNatClampNeg x1) (vp_nar .boolean (mI M q3 (Int32.toNatClampNeg x1))) → (∃ q11, mR M9 a0 29 = some q11 ∧ (okc (gB g) M0 q11 14 ∧ (vp_in x1 (mN M0 q11) ∧ (∀ M15, M15 = uI M9 a0 40 ((mI M9 a0 40) + (mI M9 q11 (Int32.toNatClampNeg x1))) → (bk65 ((x1 + 1), M15))))))))))))
set_option maxRecDepth 100000 in
def bd_X12_law_65  (g : Gh) (M0 : Mem) (a0 : Nat) (post : Int32 → Mem → Prop)  (bk65 : Int32 × Mem → Prop) (x1 : Int32)  (M : Mem) : Prop :=
  (((mI M a0 39) ≤ x1) → post (mI M a0 40) M) ∧ (¬ ((mI M a0 39) ≤ x1) → ∃ q18, mR M a0 29 = some q18 ∧ (∃ q20, mR M a0 34 = some q20 ∧ (okc (gB g) M0 q20 14 ∧ (vp_in x1 (mN M0 q20) ∧ (okc (gB g) M0 q18 14 ∧ (vp_in x1 (mN M0 q18) ∧ (∀ M26, M26 = uI M q18 (Int32.toNatClampNeg x1) (mI M q20 (Int32.toNatClampNeg x1)) → (∃ q28, mR M26 a0 30 = some q28 ∧ (∃ q30, mR M26 a0 35 = some q30 ∧ (okc (gB g) M0 q30 14 ∧ (vp_in x1 (mN M0 q30) ∧ (okc (gB g) M0 q28 14 ∧ (vp_in x1 (mN M0 q28) ∧ (∀ M36, M36 = uI M26 q28 (Int32.toNatClampNeg x1) (mI M26 q30 (Int32.toNatClampNeg x1)) → (∃ q38, mR M36 a0 31 = some q38 ∧ (∃ q40, mR M36 a0 36 = some q40 ∧ (okc (gB g) M0 q40 14 ∧ (vp_in x1 (mN M0 q40) ∧ (okc (gB g) M0 q38 14 ∧ (vp_in x1 (mN M0 q38) ∧ (∀ M46, M46 = uI M36 q38 (Int32.toNatClampNeg x1) (mI M36 q40 (Int32.toNatClampNeg x1)) → (∃ q48, mR M46 a0 32 = some q48 ∧ (∃ q50, mR M46 a0 37 = some q50 ∧ (okc (gB g) M0 q50 14 ∧ (vp_in x1 (mN M0 q50) ∧ (okc (gB g) M0 q48 14 ∧ (vp_in x1 (mN M0 q48) ∧ (∀ M56, M56 = uI M46 q48 (Int32.toNatClampNeg x1) (mI M46 q50 (Int32.toNatClampNeg x1)) → (lb_X12_law_121  g M0 a0 post bk65 x1 M56)))))))))))))))))))))))))))))
set_option maxRecDepth 100000 in
def lb_X12_law_58  (g : Gh) (M0 : Mem) (a0 : Nat) (post : Int32 → Mem → Prop)    (M : Mem) : Prop :=
  ∀ M58, M58 = uI M a0 40 0 → ((∃ n : Nat, lfp (fun bk z => bd_X12_law_65  g M0 a0 post  bk z.1 z.2) n (0, M58)))
set_option maxRecDepth 100000 in
def wp_X12_law  (g : Gh) (M0 : Mem) (a0 : Nat) (post : Int32 → Mem → Prop) : Prop :=
  okc (gB g) M0 a0 12 ∧ (∀ M60, M60 = uI M0 a0 0 0 → (∀ M62, M62 = uI M60 a0 3 (mI M60 a0 2) → (∀ M64, M64 = uI M62 a0 2 0 → ((((mI M64 a0 48) = 0) → ∀ M67, M67 = uI M64 a0 4 0 → (∀ M69, M69 = uI M67 a0 9 0 → (wp_X12_go g M69 a0 0 (fun M72 => wp_X12_readLaw g M72 a0 (fun v73 M74 => ((v73 = 0) → post ((-1) - (mI M74 a0 10)) M74) ∧ (¬ (v73 = 0) → lb_X12_law_58  g M0 a0 post   M74)))))) ∧ (¬ ((mI M64 a0 48) = 0) → post (-300) M64)))))
set_option maxHeartbeats 4000000 in
set_option maxRecDepth 100000 in
theorem lt_X12_law_121 {l : Launch} {g : Gh} {p : Program} {e : Env} {s : State} {m : MethodId} {args : Array Value} {below : List Frame} {meth : Method} {c : Code} {H : Heap} {locs : List Loc} {ls : Array Slot} {M0 M : Mem} {a0 : Nat} {post : Int32 → Mem → Prop} {x1 : Int32}   (C : Cx g p s m args c cX12_law 2 RX12) (hr : meth.sig.returnType = (some .int)) (hlk : meth.locks = false) (hn : meth.name = "law") (h0 : okc (gB g) M0 a0 12) {bk65 : Int32 × Mem → Prop} (hk65 : ∀ (x1 : Int32) (M : Mem) (H : Heap) (locs : List Loc) (ls : Array Slot), bk65 (x1, M) → Wd g s M0 M H locs → lv_has ls 2 [(0, .ref a0), (1, .int x1)] → W p l e (rmo 5 0 0) s m args below meth c H locs 0 0 (MQ below (Cq g M0 (pI post)) args s 0 0 (gA g)) (F0 m 65 ls [])) (hq : lb_X12_law_121  g M0 a0 post bk65 x1 M) (hw : Wd g s M0 M H locs) (hl : lv_has ls 2 [(0, .ref a0), (1, .int x1)]) : W p l e (rmo 5 0 0) s m args below meth c H locs 0 0 (MQ below (Cq g M0 (pI post)) args s 0 0 (gA g)) (F0 m 121 ls []) := by
  have hx := C.1.1
  have hb := C.1.2.1
  unfold lb_X12_law_121 at hq
  refine lv_aload_n hx hb dX12_law_121 rfl (lv_at hl 0 rfl) ?_
  obtain ⟨q1, e2, hq⟩ := hq
  refine gfX12_66 C hw hw.2.2.1 h0 e2 dX12_law_122 ?_
  refine lv_iload_n hx hb dX12_law_125 rfl (lv_at hl 1 rfl) ?_
  refine lv_aload_n hx hb dX12_law_126 rfl (lv_at hl 0 rfl) ?_
  obtain ⟨q3, e4, hq⟩ := hq
  refine gfX12_81 C hw hw.2.2.1 h0 e4 dX12_law_127 ?_
  refine lv_iload_n hx hb dX12_law_130 rfl (lv_at hl 1 rfl) ?_
  obtain ⟨h5, hq⟩ := hq
  obtain ⟨h6, hq⟩ := hq
  refine q_zald C hw hw.2.2.1 h5 h6 dX12_law_131 ?_
  obtain ⟨h7, hq⟩ := hq
  obtain ⟨h8, hq⟩ := hq
  refine q_zast C hw hw.2.2.1 h7 h8 dX12_law_132 (fun H locs hw => ?_)
  generalize e10 : uI M q1 (Int32.toNatClampNeg x1) (vp_nar .boolean (mI M q3 (Int32.toNatClampNeg x1))) = M9 at hw
  replace hq := hq M9 e10.symm
  have e2 : mR M9 a0 33 = some q1 := by rw [← e10, mR_uI]; exact e2
  have e4 : mR M9 a0 38 = some q3 := by rw [← e10, mR_uI]; exact e4
  refine lv_aload_n hx hb dX12_law_133 rfl (lv_at hl 0 rfl) ?_
  refine lv_dup hx hb dX12_law_134 rfl ?_
  refine gfX12_270 C hw hw.2.2.1 h0 dX12_law_135 ?_
  refine lv_aload_n hx hb dX12_law_138 rfl (lv_at hl 0 rfl) ?_
  obtain ⟨q11, e12, hq⟩ := hq
  refine gfX12_54 C hw hw.2.2.1 h0 e12 dX12_law_139 ?_
  refine lv_iload_n hx hb dX12_law_142 rfl (lv_at hl 1 rfl) ?_
  obtain ⟨h13, hq⟩ := hq
  obtain ⟨h14, hq⟩ := hq
  refine q_iald C hw hw.2.2.1 h13 h14 dX12_law_143 ?_
  refine lv_iadd hx hb dX12_law_144 ?_
  refine pfX12_270 C hw hw.2.2.1 h0 dX12_law_145 (fun H locs hw => ?_)
  generalize e16 : uI M9 a0 40 ((mI M9 a0 40) + (mI M9 q11 (Int32.toNatClampNeg x1))) = M15 at hw
  replace hq := hq M15 e16.symm
  have e2 : mR M15 a0 33 = some q1 := by rw [← e16, mR_uI]; exact e2
  have e4 : mR M15 a0 38 = some q3 := by rw [← e16, mR_uI]; exact e4
  have e12 : mR M15 a0 29 = some q11 := by rw [← e16, mR_uI]; exact e12
  refine lv_iinc (v := (x1 + 1)) (lv' := [(1, .int (x1 + 1)), (0, .ref a0)]) hx hb dX12_law_148 hl (k := 1) rfl rfl (by decide) rfl (fun ls hl => ?_)
  refine lv_goto (tgt := 65) hx hb dX12_law_151 (by decide) ?_
  exact hk65 _ _ _ _ _ hq hw (lv_sub hl [1, 0] rfl)
set_option maxHeartbeats 4000000 in
set_option maxRecDepth 100000 in
theorem lp_X12_law_65 {l : Launch} {g : Gh} {p : Program} {e : Env} {s : State} {m : MethodId} {args : Array Value} {below : List Frame} {meth : Method} {c : Code} {M0 : Mem} {a0 : Nat} {post : Int32 → Mem → Prop}  (C : Cx g p s m args c cX12_law 2 RX12) (hr : meth.sig.returnType = (some .int)) (hlk : meth.locks = false) (hn : meth.name = "law") (h0 : okc (gB g) M0 a0 12)  : ∀ (nf : Nat) (x1 : Int32)  (M : Mem) (H : Heap) (locs : List Loc) (ls : Array Slot), lfp (fun bk z => bd_X12_law_65  g M0 a0 post  bk z.1 z.2) nf (x1, M) → Wd g s M0 M H locs → lv_has ls 2 [(0, .ref a0), (1, .int x1)] → W p l e (rmo 5 0 0) s m args below meth c H locs 0 0 (MQ below (Cq g M0 (pI post)) args s 0 0 (gA g)) (F0 m 65 ls []) := by
  have hx := C.1.1
  have hb := C.1.2.1
  intro nf
  induction nf with
  | zero => intro _ _ H locs ls hq; exact hq.elim
  | succ nf hk65 =>
    intro x1 M H locs ls hq hw hl
    replace hq : bd_X12_law_65  g M0 a0 post  (lfp (fun bk z => bd_X12_law_65  g M0 a0 post  bk z.1 z.2) nf) x1 M := hq
    unfold bd_X12_law_65 at hq
    refine lv_iload_n hx hb dX12_law_65 rfl (lv_at hl 1 rfl) ?_
    refine lv_aload_n hx hb dX12_law_66 rfl (lv_at hl 0 rfl) ?_
    refine gfX12_264 C hw hw.2.2.1 h0 dX12_law_67 ?_
    refine lv_icmp_ge (tgt := 154) hx hb dX12_law_70 (by decide) (fun c17 => ?_) (fun c17 => ?_)
    · replace hq := hq.1 c17
      refine lv_aload_n hx hb dX12_law_154 rfl (lv_at hl 0 rfl) ?_
      refine gfX12_270 C hw hw.2.2.1 h0 dX12_law_155 ?_
      exact r_iret C hr hlk hw dX12_law_158 (Nat.le_refl _) (Nat.le_refl _) ⟨_, rfl, hq⟩
    · replace hq := hq.2 c17
      refine lv_aload_n hx hb dX12_law_73 rfl (lv_at hl 0 rfl) ?_
      obtain ⟨q18, e19, hq⟩ := hq
      refine gfX12_54 C hw hw.2.2.1 h0 e19 dX12_law_74 ?_
      refine lv_iload_n hx hb dX12_law_77 rfl (lv_at hl 1 rfl) ?_
      refine lv_aload_n hx hb dX12_law_78 rfl (lv_at hl 0 rfl) ?_
      obtain ⟨q20, e21, hq⟩ := hq
      refine gfX12_69 C hw hw.2.2.1 h0 e21 dX12_law_79 ?_
      refine lv_iload_n hx hb dX12_law_82 rfl (lv_at hl 1 rfl) ?_
      obtain ⟨h22, hq⟩ := hq
      obtain ⟨h23, hq⟩ := hq
      refine q_iald C hw hw.2.2.1 h22 h23 dX12_law_83 ?_
      obtain ⟨h24, hq⟩ := hq
      obtain ⟨h25, hq⟩ := hq
      refine q_iast C hw hw.2.2.1 h24 h25 dX12_law_84 (fun H locs hw => ?_)
      generalize e27 : uI M q18 (Int32.toNatClampNeg x1) (mI M q20 (Int32.toNatClampNeg x1)) = M26 at hw
      replace hq := hq M26 e27.symm
      have e19 : mR M26 a0 29 = some q18 := by rw [← e27, mR_uI]; exact e19
      have e21 : mR M26 a0 34 = some q20 := by rw [← e27, mR_uI]; exact e21
      refine lv_aload_n hx hb dX12_law_85 rfl (lv_at hl 0 rfl) ?_
      obtain ⟨q28, e29, hq⟩ := hq
      refine gfX12_57 C hw hw.2.2.1 h0 e29 dX12_law_86 ?_
      refine lv_iload_n hx hb dX12_law_89 rfl (lv_at hl 1 rfl) ?_
      refine lv_aload_n hx hb dX12_law_90 rfl (lv_at hl 0 rfl) ?_
      obtain ⟨q30, e31, hq⟩ := hq
      refine gfX12_72 C hw hw.2.2.1 h0 e31 dX12_law_91 ?_
      refine lv_iload_n hx hb dX12_law_94 rfl (lv_at hl 1 rfl) ?_
      obtain ⟨h32, hq⟩ := hq
      obtain ⟨h33, hq⟩ := hq
      refine q_iald C hw hw.2.2.1 h32 h33 dX12_law_95 ?_
      obtain ⟨h34, hq⟩ := hq
      obtain ⟨h35, hq⟩ := hq
      refine q_iast C hw hw.2.2.1 h34 h35 dX12_law_96 (fun H locs hw => ?_)
      generalize e37 : uI M26 q28 (Int32.toNatClampNeg x1) (mI M26 q30 (Int32.toNatClampNeg x1)) = M36 at hw
      replace hq := hq M36 e37.symm
      have e19 : mR M36 a0 29 = some q18 := by rw [← e37, mR_uI]; exact e19
      have e21 : mR M36 a0 34 = some q20 := by rw [← e37, mR_uI]; exact e21
      have e29 : mR M36 a0 30 = some q28 := by rw [← e37, mR_uI]; exact e29
      have e31 : mR M36 a0 35 = some q30 := by rw [← e37, mR_uI]; exact e31
      refine lv_aload_n hx hb dX12_law_97 rfl (lv_at hl 0 rfl) ?_
      obtain ⟨q38, e39, hq⟩ := hq
      refine gfX12_60 C hw hw.2.2.1 h0 e39 dX12_law_98 ?_
      refine lv_iload_n hx hb dX12_law_101 rfl (lv_at hl 1 rfl) ?_
      refine lv_aload_n hx hb dX12_law_102 rfl (lv_at hl 0 rfl) ?_
      obtain ⟨q40, e41, hq⟩ := hq
      refine gfX12_75 C hw hw.2.2.1 h0 e41 dX12_law_103 ?_
      refine lv_iload_n hx hb dX12_law_106 rfl (lv_at hl 1 rfl) ?_
      obtain ⟨h42, hq⟩ := hq
      obtain ⟨h43, hq⟩ := hq
      refine q_iald C hw hw.2.2.1 h42 h43 dX12_law_107 ?_
      obtain ⟨h44, hq⟩ := hq
      obtain ⟨h45, hq⟩ := hq
      refine q_iast C hw hw.2.2.1 h44 h45 dX12_law_108 (fun H locs hw => ?_)
      generalize e47 : uI M36 q38 (Int32.toNatClampNeg x1) (mI M36 q40 (Int32.toNatClampNeg x1)) = M46 at hw
      replace hq := hq M46 e47.symm
      have e19 : mR M46 a0 29 = some q18 := by rw [← e47, mR_uI]; exact e19
      have e21 : mR M46 a0 34 = some q20 := by rw [← e47, mR_uI]; exact e21
      have e29 : mR M46 a0 30 = some q28 := by rw [← e47, mR_uI]; exact e29
      have e31 : mR M46 a0 35 = some q30 := by rw [← e47, mR_uI]; exact e31
      have e39 : mR M46 a0 31 = some q38 := by rw [← e47, mR_uI]; exact e39
      have e41 : mR M46 a0 36 = some q40 := by rw [← e47, mR_uI]; exact e41
      refine lv_aload_n hx hb dX12_law_109 rfl (lv_at hl 0 rfl) ?_
      obtain ⟨q48, e49, hq⟩ := hq
      refine gfX12_63 C hw hw.2.2.1 h0 e49 dX12_law_110 ?_
      refine lv_iload_n hx hb dX12_law_113 rfl (lv_at hl 1 rfl) ?_
      refine lv_aload_n hx hb dX12_law_114 rfl (lv_at hl 0 rfl) ?_
      obtain ⟨q50, e51, hq⟩ := hq
      refine gfX12_78 C hw hw.2.2.1 h0 e51 dX12_law_115 ?_
      refine lv_iload_n hx hb dX12_law_118 rfl (lv_at hl 1 rfl) ?_
      obtain ⟨h52, hq⟩ := hq
      obtain ⟨h53, hq⟩ := hq
      refine q_iald C hw hw.2.2.1 h52 h53 dX12_law_119 ?_
      obtain ⟨h54, hq⟩ := hq
      obtain ⟨h55, hq⟩ := hq
      refine q_iast C hw hw.2.2.1 h54 h55 dX12_law_120 (fun H locs hw => ?_)
      generalize e57 : uI M46 q48 (Int32.toNatClampNeg x1) (mI M46 q50 (Int32.toNatClampNeg x1)) = M56 at hw
      replace hq := hq M56 e57.symm
      have e19 : mR M56 a0 29 = some q18 := by rw [← e57, mR_uI]; exact e19
      have e21 : mR M56 a0 34 = some q20 := by rw [← e57, mR_uI]; exact e21
      have e29 : mR M56 a0 30 = some q28 := by rw [← e57, mR_uI]; exact e29
      have e31 : mR M56 a0 35 = some q30 := by rw [← e57, mR_uI]; exact e31
      have e39 : mR M56 a0 31 = some q38 := by rw [← e57, mR_uI]; exact e39
      have e41 : mR M56 a0 36 = some q40 := by rw [← e57, mR_uI]; exact e41
      have e49 : mR M56 a0 32 = some q48 := by rw [← e57, mR_uI]; exact e49
      have e51 : mR M56 a0 37 = some q50 := by rw [← e57, mR_uI]; exact e51
      exact lt_X12_law_121  C hr hlk hn h0 hk65 hq hw (lv_sub hl [0, 1] rfl)
set_option maxHeartbeats 4000000 in
set_option maxRecDepth 100000 in
theorem lt_X12_law_58 {l : Launch} {g : Gh} {p : Program} {e : Env} {s : State} {m : MethodId} {args : Array Value} {below : List Frame} {meth : Method} {c : Code} {H : Heap} {locs : List Loc} {ls : Array Slot} {M0 M : Mem} {a0 : Nat} {post : Int32 → Mem → Prop}    (C : Cx g p s m args c cX12_law 2 RX12) (hr : meth.sig.returnType = (some .int)) (hlk : meth.locks = false) (hn : meth.name = "law") (h0 : okc (gB g) M0 a0 12)  (hq : lb_X12_law_58  g M0 a0 post   M) (hw : Wd g s M0 M H locs) (hl : lv_has ls 2 [(0, .ref a0)]) : W p l e (rmo 5 0 0) s m args below meth c H locs 0 0 (MQ below (Cq g M0 (pI post)) args s 0 0 (gA g)) (F0 m 58 ls []) := by
  have hx := C.1.1
  have hb := C.1.2.1
  unfold lb_X12_law_58 at hq
  refine lv_aload_n hx hb dX12_law_58 rfl (lv_at hl 0 rfl) ?_
  refine lv_iconst (v := 0) hx hb dX12_law_59 (by decide) ?_
  refine pfX12_270 C hw hw.2.2.1 h0 dX12_law_60 (fun H locs hw => ?_)
  generalize e59 : uI M a0 40 0 = M58 at hw
  replace hq := hq M58 e59.symm
  refine lv_iconst (v := 0) hx hb dX12_law_63 (by decide) ?_
  refine lv_istore_n (lv' := [(1, .int 0), (0, .ref a0)]) hx hb dX12_law_64 rfl hl (by decide) rfl (fun ls hl => ?_)
  obtain ⟨nf, hq⟩ := hq
  exact lp_X12_law_65  C hr hlk hn h0  nf _ _ _ _ _ hq hw (lv_sub hl [1, 0] rfl)
set_option maxHeartbeats 4000000 in
set_option maxRecDepth 100000 in
theorem ct_X12_law {l : Launch} {g : Gh} {M0 : Mem} {a0 : Nat} {post : Int32 → Mem → Prop}  (hq : wp_X12_law  g M0 a0 post) : Ct l g yX12_law cX12_law 2 (some .int) 5 0 0 [.ref a0] M0 (pI post) := by
  unfold wp_X12_law at hq
  obtain ⟨h0, hq⟩ := hq
  refine Ct.of (by decide) (Nat.le_of_ble_eq_true rfl) ?_
  intro p e s m below meth c ls C hr hlk hn hl hw
  have hx := C.1.1
  have hb := C.1.2.1
  have hl : lv_has ls 2 [(0, .ref a0)] := hl
  refine lv_aload_n hx hb dX12_law_0 rfl (lv_at hl 0 rfl) ?_
  refine lv_iconst (v := 0) hx hb dX12_law_1 (by decide) ?_
  refine pfX12_123 C hw hw.2.2.1 h0 dX12_law_2 (fun H locs hw => ?_)
  generalize e61 : uI M0 a0 0 0 = M60 at hw
  replace hq := hq M60 e61.symm
  refine lv_aload_n hx hb dX12_law_5 rfl (lv_at hl 0 rfl) ?_
  refine lv_aload_n hx hb dX12_law_6 rfl (lv_at hl 0 rfl) ?_
  refine gfX12_127 C hw hw.2.2.1 h0 dX12_law_7 ?_
  refine pfX12_134 C hw hw.2.2.1 h0 dX12_law_10 (fun H locs hw => ?_)
  generalize e63 : uI M60 a0 3 (mI M60 a0 2) = M62 at hw
  replace hq := hq M62 e63.symm
  refine lv_aload_n hx hb dX12_law_13 rfl (lv_at hl 0 rfl) ?_
  refine lv_iconst (v := 0) hx hb dX12_law_14 (by decide) ?_
  refine pfX12_127 C hw hw.2.2.1 h0 dX12_law_15 (fun H locs hw => ?_)
  generalize e65 : uI M62 a0 2 0 = M64 at hw
  replace hq := hq M64 e65.symm
  refine lv_aload_n hx hb dX12_law_18 rfl (lv_at hl 0 rfl) ?_
  refine gfX12_247 C hw hw.2.2.1 h0 dX12_law_19 ?_
  refine lv_if_eq (tgt := 29) hx hb dX12_law_22 (by decide) (fun c66 => ?_) (fun c66 => ?_)
  · replace hq := hq.1 c66
    refine lv_aload_n hx hb dX12_law_29 rfl (lv_at hl 0 rfl) ?_
    refine lv_iconst (v := 0) hx hb dX12_law_30 (by decide) ?_
    refine pfX12_137 C hw hw.2.2.1 h0 dX12_law_31 (fun H locs hw => ?_)
    generalize e68 : uI M64 a0 4 0 = M67 at hw
    replace hq := hq M67 e68.symm
    refine lv_aload_n hx hb dX12_law_34 rfl (lv_at hl 0 rfl) ?_
    refine lv_iconst (v := 0) hx hb dX12_law_35 (by decide) ?_
    refine pfX12_175 C hw hw.2.2.1 h0 dX12_law_36 (fun H locs hw => ?_)
    generalize e70 : uI M67 a0 9 0 = M69 at hw
    replace hq := hq M69 e70.symm
    refine lv_aload_n hx hb dX12_law_39 rfl (lv_at hl 0 rfl) ?_
    refine lv_iconst (v := 0) hx hb dX12_law_40 (by decide) ?_
    refine r_callV (T := TX12) (N := 67) (ci := 12) (index := 202) (n := 1) (d2 := 2) (mc := 0) (ms := 0) (As := [.int 0]) (rest := []) C hw (ct_X12_go hq) kvX12_202 hq.1 (by decide) rfl ⟨by decide, by decide⟩ ⟨by decide, by decide⟩ rfl hl.1 rfl (Nat.le_of_ble_eq_true rfl) dX12_law_41 (fun r M72 H locs hp hle hw => ?_)
    obtain ⟨rfl, hq⟩ := hp
    refine W.eq (g2 := F0 m 44 ls []) rfl ?_
    refine lv_aload_n hx hb dX12_law_44 rfl (lv_at hl 0 rfl) ?_
    refine r_callV (T := TX12) (N := 67) (ci := 12) (index := 267) (n := 0) (d2 := 4) (mc := 0) (ms := 0) (As := []) (rest := []) C hw (ct_X12_readLaw hq) kvX12_267 hq.1 (by decide) rfl ⟨by decide, by decide⟩ ⟨by decide, by decide⟩ rfl hl.1 rfl (Nat.le_of_ble_eq_true rfl) dX12_law_45 (fun r M74 H locs hp hle hw => ?_)
    obtain ⟨v73, rfl, hq⟩ := hp
    refine W.eq (g2 := F0 m 48 ls [.int v73]) rfl ?_
    refine lv_if_ne (tgt := 58) hx hb dX12_law_48 (by decide) (fun c75 => ?_) (fun c75 => ?_)
    · replace hq := hq.2 c75
      exact lt_X12_law_58  C hr hlk hn h0  hq hw (lv_sub hl [0] rfl)
    · replace hq := hq.1 c75
      refine lv_iconst (v := (-1)) hx hb dX12_law_51 (by decide) ?_
      refine lv_aload_n hx hb dX12_law_52 rfl (lv_at hl 0 rfl) ?_
      refine gfX12_178 C hw hw.2.2.1 h0 dX12_law_53 ?_
      refine lv_isub hx hb dX12_law_56 ?_
      exact r_iret C hr hlk hw dX12_law_57 (Nat.le_refl _) (Nat.le_refl _) ⟨_, rfl, hq⟩
  · replace hq := hq.2 c66
    refine lv_sipush (v := (-300)) hx hb dX12_law_25 (by decide) ?_
    exact r_iret C hr hlk hw dX12_law_28 (Nat.le_refl _) (Nat.le_refl _) ⟨_, rfl, hq⟩

set_option maxRecDepth 100000 in
def wp_X12_fault  (g : Gh) (M0 : Mem) (a0 : Nat) (post : Int32 → Mem → Prop) : Prop :=
  okc (gB g) M0 a0 12 ∧ (∀ M1, M1 = uI M0 a0 0 0 → (post (mI M1 a0 9) M1))
set_option maxHeartbeats 4000000 in
set_option maxRecDepth 100000 in
theorem ct_X12_fault {l : Launch} {g : Gh} {M0 : Mem} {a0 : Nat} {post : Int32 → Mem → Prop}  (hq : wp_X12_fault  g M0 a0 post) : Ct l g yX12_fault cX12_fault 1 (some .int) 0 0 0 [.ref a0] M0 (pI post) := by
  unfold wp_X12_fault at hq
  obtain ⟨h0, hq⟩ := hq
  refine Ct.of (by decide) (Nat.le_of_ble_eq_true rfl) ?_
  intro p e s m below meth c ls C hr hlk hn hl hw
  have hx := C.1.1
  have hb := C.1.2.1
  have hl : lv_has ls 1 [(0, .ref a0)] := hl
  refine lv_aload_n hx hb dX12_fault_0 rfl (lv_at hl 0 rfl) ?_
  refine lv_iconst (v := 0) hx hb dX12_fault_1 (by decide) ?_
  refine pfX12_123 C hw hw.2.2.1 h0 dX12_fault_2 (fun H locs hw => ?_)
  generalize e2 : uI M0 a0 0 0 = M1 at hw
  replace hq := hq M1 e2.symm
  refine lv_aload_n hx hb dX12_fault_5 rfl (lv_at hl 0 rfl) ?_
  refine gfX12_175 C hw hw.2.2.1 h0 dX12_fault_6 ?_
  exact r_iret C hr hlk hw dX12_fault_9 (Nat.le_refl _) (Nat.le_refl _) ⟨_, rfl, hq⟩

set_option maxRecDepth 100000 in
def lb_X12_mayCome_51  (g : Gh) (M0 : Mem) (a0 : Nat) (p1 : Int32) (p2 : Int32) (p3 : Int32) (p4 : Int32) (post : Int32 → Mem → Prop)    (M : Mem) : Prop :=
  post 1 M
set_option maxRecDepth 100000 in
def wp_X12_mayCome  (g : Gh) (M0 : Mem) (a0 : Nat) (p1 : Int32) (p2 : Int32) (p3 : Int32) (p4 : Int32) (post : Int32 → Mem → Prop) : Prop :=
  okc (gB g) M0 a0 12 ∧ (∃ q1, mR M0 a0 23 = some q1 ∧ (okc (gB g) M0 q1 17 ∧ (vp_in p1 (mN M0 q1) ∧ ((((mI M0 q1 (Int32.toNatClampNeg p1)) = 0) → ∃ q6, mR M0 a0 22 = some q6 ∧ (okc (gB g) M0 q6 14 ∧ (vp_in p1 (mN M0 q6) ∧ ((((((mI M0 q6 (Int32.toNatClampNeg p1)) >>> (p2 &&& 31)) &&& 1) = 0) → (((((mI M0 q6 (Int32.toNatClampNeg p1)) >>> (p3 &&& 31)) &&& 1) = 0) → ∃ q12, mR M0 a0 43 = some q12 ∧ (∃ q14, mR M0 a0 19 = some q14 ∧ (okc (gB g) M0 q14 14 ∧ (vp_in p1 (mN M0 q14) ∧ (okc (gB g) M0 q12 14 ∧ (vp_in (mI M0 q14 (Int32.toNatClampNeg p1)) (mN M0 q12) ∧ (((p4 ≤ (mI M0 q12 (Int32.toNatClampNeg (mI M0 q14 (Int32.toNatClampNeg p1))))) → post 0 M0) ∧ (¬ (p4 ≤ (mI M0 q12 (Int32.toNatClampNeg (mI M0 q14 (Int32.toNatClampNeg p1))))) → lb_X12_mayCome_51  g M0 a0 p1 p2 p3 p4 post   M0)))))))) ∧ (¬ ((((mI M0 q6 (Int32.toNatClampNeg p1)) >>> (p3 &&& 31)) &&& 1) = 0) → post 0 M0)) ∧ (¬ ((((mI M0 q6 (Int32.toNatClampNeg p1)) >>> (p2 &&& 31)) &&& 1) = 0) → post 0 M0))))) ∧ (¬ ((mI M0 q1 (Int32.toNatClampNeg p1)) = 0) → post 0 M0)))))
set_option maxHeartbeats 4000000 in
set_option maxRecDepth 100000 in
theorem lt_X12_mayCome_51 {l : Launch} {g : Gh} {p : Program} {e : Env} {s : State} {m : MethodId} {args : Array Value} {below : List Frame} {meth : Method} {c : Code} {H : Heap} {locs : List Loc} {ls : Array Slot} {M0 M : Mem} {a0 : Nat} {p1 : Int32} {p2 : Int32} {p3 : Int32} {p4 : Int32} {post : Int32 → Mem → Prop}    (C : Cx g p s m args c cX12_mayCome 5 RX12) (hr : meth.sig.returnType = (some .boolean)) (hlk : meth.locks = false) (hn : meth.name = "mayCome") (h0 : okc (gB g) M0 a0 12)  (hq : lb_X12_mayCome_51  g M0 a0 p1 p2 p3 p4 post   M) (hw : Wd g s M0 M H locs) (hl : lv_has ls 5 [(0, .ref a0), (1, .int p1), (2, .int p2), (3, .int p3), (4, .int p4)]) : W p l e (rmo 0 0 0) s m args below meth c H locs 0 0 (MQ below (Cq g M0 (pI post)) args s 0 0 (gA g)) (F0 m 51 ls []) := by
  have hx := C.1.1
  have hb := C.1.2.1
  unfold lb_X12_mayCome_51 at hq
  refine lv_iconst (v := 1) hx hb dX12_mayCome_51 (by decide) ?_
  refine lv_goto (tgt := 56) hx hb dX12_mayCome_52 (by decide) ?_
  exact r_zret C hr hlk hw dX12_mayCome_56 (Nat.le_refl _) (Nat.le_refl _) (by decide) ⟨_, rfl, hq⟩
set_option maxHeartbeats 4000000 in
set_option maxRecDepth 100000 in
theorem ct_X12_mayCome {l : Launch} {g : Gh} {M0 : Mem} {a0 : Nat} {p1 : Int32} {p2 : Int32} {p3 : Int32} {p4 : Int32} {post : Int32 → Mem → Prop}  (hq : wp_X12_mayCome  g M0 a0 p1 p2 p3 p4 post) : Ct l g yX12_mayCome cX12_mayCome 5 (some .boolean) 0 0 0 [.ref a0, .int p1, .int p2, .int p3, .int p4] M0 (pI post) := by
  unfold wp_X12_mayCome at hq
  obtain ⟨h0, hq⟩ := hq
  refine Ct.of (by decide) (Nat.le_of_ble_eq_true rfl) ?_
  intro p e s m below meth c ls C hr hlk hn hl hw
  have hx := C.1.1
  have hb := C.1.2.1
  have hl : lv_has ls 5 [(0, .ref a0), (1, .int p1), (2, .int p2), (3, .int p3), (4, .int p4)] := hl
  refine lv_aload_n hx hb dX12_mayCome_0 rfl (lv_at hl 0 rfl) ?_
  obtain ⟨q1, e2, hq⟩ := hq
  refine gfX12_41 C hw hw.2.2.1 h0 e2 dX12_mayCome_1 ?_
  refine lv_iload_n hx hb dX12_mayCome_4 rfl (lv_at hl 1 rfl) ?_
  obtain ⟨h3, hq⟩ := hq
  obtain ⟨h4, hq⟩ := hq
  refine q_zald C hw hw.2.2.1 h3 h4 dX12_mayCome_5 ?_
  refine lv_if_ne (tgt := 55) hx hb dX12_mayCome_6 (by decide) (fun c5 => ?_) (fun c5 => ?_)
  · replace hq := hq.2 c5
    refine lv_iconst (v := 0) hx hb dX12_mayCome_55 (by decide) ?_
    exact r_zret C hr hlk hw dX12_mayCome_56 (Nat.le_refl _) (Nat.le_refl _) (by decide) ⟨_, rfl, hq⟩
  · replace hq := hq.1 c5
    refine lv_aload_n hx hb dX12_mayCome_9 rfl (lv_at hl 0 rfl) ?_
    obtain ⟨q6, e7, hq⟩ := hq
    refine gfX12_38 C hw hw.2.2.1 h0 e7 dX12_mayCome_10 ?_
    refine lv_iload_n hx hb dX12_mayCome_13 rfl (lv_at hl 1 rfl) ?_
    obtain ⟨h8, hq⟩ := hq
    obtain ⟨h9, hq⟩ := hq
    refine q_iald C hw hw.2.2.1 h8 h9 dX12_mayCome_14 ?_
    refine lv_iload_n hx hb dX12_mayCome_15 rfl (lv_at hl 2 rfl) ?_
    refine lv_ishr hx hb dX12_mayCome_16 ?_
    refine lv_iconst (v := 1) hx hb dX12_mayCome_17 (by decide) ?_
    refine lv_iand hx hb dX12_mayCome_18 ?_
    refine lv_if_ne (tgt := 55) hx hb dX12_mayCome_19 (by decide) (fun c10 => ?_) (fun c10 => ?_)
    · replace hq := hq.2 c10
      refine lv_iconst (v := 0) hx hb dX12_mayCome_55 (by decide) ?_
      exact r_zret C hr hlk hw dX12_mayCome_56 (Nat.le_refl _) (Nat.le_refl _) (by decide) ⟨_, rfl, hq⟩
    · replace hq := hq.1 c10
      refine lv_aload_n hx hb dX12_mayCome_22 rfl (lv_at hl 0 rfl) ?_
      refine gfX12_38 C hw hw.2.2.1 h0 e7 dX12_mayCome_23 ?_
      refine lv_iload_n hx hb dX12_mayCome_26 rfl (lv_at hl 1 rfl) ?_
      refine q_iald C hw hw.2.2.1 h8 h9 dX12_mayCome_27 ?_
      refine lv_iload_n hx hb dX12_mayCome_28 rfl (lv_at hl 3 rfl) ?_
      refine lv_ishr hx hb dX12_mayCome_29 ?_
      refine lv_iconst (v := 1) hx hb dX12_mayCome_30 (by decide) ?_
      refine lv_iand hx hb dX12_mayCome_31 ?_
      refine lv_if_ne (tgt := 55) hx hb dX12_mayCome_32 (by decide) (fun c11 => ?_) (fun c11 => ?_)
      · replace hq := hq.2 c11
        refine lv_iconst (v := 0) hx hb dX12_mayCome_55 (by decide) ?_
        exact r_zret C hr hlk hw dX12_mayCome_56 (Nat.le_refl _) (Nat.le_refl _) (by decide) ⟨_, rfl, hq⟩
      · replace hq := hq.1 c11
        refine lv_aload_n hx hb dX12_mayCome_35 rfl (lv_at hl 0 rfl) ?_
        obtain ⟨q12, e13, hq⟩ := hq
        refine gfX12_90 C hw hw.2.2.1 h0 e13 dX12_mayCome_36 ?_
        refine lv_aload_n hx hb dX12_mayCome_39 rfl (lv_at hl 0 rfl) ?_
        obtain ⟨q14, e15, hq⟩ := hq
        refine gfX12_29 C hw hw.2.2.1 h0 e15 dX12_mayCome_40 ?_
        refine lv_iload_n hx hb dX12_mayCome_43 rfl (lv_at hl 1 rfl) ?_
        obtain ⟨h16, hq⟩ := hq
        obtain ⟨h17, hq⟩ := hq
        refine q_iald C hw hw.2.2.1 h16 h17 dX12_mayCome_44 ?_
        obtain ⟨h18, hq⟩ := hq
        obtain ⟨h19, hq⟩ := hq
        refine q_iald C hw hw.2.2.1 h18 h19 dX12_mayCome_45 ?_
        refine lv_iload hx hb dX12_mayCome_46 (lv_at hl 4 rfl) ?_
        refine lv_icmp_ge (tgt := 55) hx hb dX12_mayCome_48 (by decide) (fun c20 => ?_) (fun c20 => ?_)
        · replace hq := hq.1 c20
          refine lv_iconst (v := 0) hx hb dX12_mayCome_55 (by decide) ?_
          exact r_zret C hr hlk hw dX12_mayCome_56 (Nat.le_refl _) (Nat.le_refl _) (by decide) ⟨_, rfl, hq⟩
        · replace hq := hq.2 c20
          exact lt_X12_mayCome_51  C hr hlk hn h0  hq hw (lv_sub hl [0, 1, 2, 3, 4] rfl)
