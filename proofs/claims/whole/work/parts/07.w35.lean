set_option maxRecDepth 100000 in
def lb_X12_through_114  (g : Gh) (M0 : Mem) (a0 : Nat) (post : Mem → Prop) (bk22 : Int32 × Mem → Prop) (x1 : Int32) (s0 : Nat) (s1 : Int32) (s2 : Int32) (M : Mem) : Prop :=
  okc (gB g) M0 s0 17 ∧ (vp_in s1 (mN M0 s0) ∧ (∀ M3, M3 = uI M s0 (Int32.toNatClampNeg s1) (vp_nar .boolean s2) → (∃ q5, mR M3 a0 61 = some q5 ∧ (okc (gB g) M0 q5 17 ∧ (vp_in x1 (mN M0 q5) ∧ ((((mI M3 q5 (Int32.toNatClampNeg x1)) = 0) → wp_X12_roundOf g M3 a0 (mI M3 a0 50) (fun v10 M11 => wp_X12_happens g M11 a0 x1 v10 (fun M13 => bk22 ((x1 + 1), M13)))) ∧ (¬ ((mI M3 q5 (Int32.toNatClampNeg x1)) = 0) → ∀ M14, M14 = uI M3 a0 55 ((mI M3 a0 55) + 1) → (bk22 ((x1 + 1), M14)))))))))
set_option maxRecDepth 100000 in
def lb_X12_through_60  (g : Gh) (M0 : Mem) (a0 : Nat) (post : Mem → Prop) (bk22 : Int32 × Mem → Prop) (x1 : Int32)  (M : Mem) : Prop :=
  ∃ q16, mR M a0 61 = some q16 ∧ (∃ q18, mR M a0 56 = some q18 ∧ (okc (gB g) M0 q18 14 ∧ (vp_in x1 (mN M0 q18) ∧ ((((mI M q18 (Int32.toNatClampNeg x1)) < (mI M a0 50)) → lb_X12_through_114  g M0 a0 post bk22 x1 q16 x1 1 M) ∧ (¬ ((mI M q18 (Int32.toNatClampNeg x1)) < (mI M a0 50)) → ∃ q23, mR M a0 57 = some q23 ∧ (okc (gB g) M0 q23 14 ∧ (vp_in x1 (mN M0 q23) ∧ (((2 ≤ (mI M q23 (Int32.toNatClampNeg x1))) → lb_X12_through_114  g M0 a0 post bk22 x1 q16 x1 0 M) ∧ (¬ (2 ≤ (mI M q23 (Int32.toNatClampNeg x1))) → (((mI M a0 51) = 2) → lb_X12_through_114  g M0 a0 post bk22 x1 q16 x1 0 M) ∧ (¬ ((mI M a0 51) = 2) → ∃ q29, mR M a0 58 = some q29 ∧ (okc (gB g) M0 q29 14 ∧ (vp_in x1 (mN M0 q29) ∧ ((((mI M a0 51) = (mI M q29 (Int32.toNatClampNeg x1))) → lb_X12_through_114  g M0 a0 post bk22 x1 q16 x1 0 M) ∧ (¬ ((mI M a0 51) = (mI M q29 (Int32.toNatClampNeg x1))) → lb_X12_through_114  g M0 a0 post bk22 x1 q16 x1 1 M))))))))))))))
set_option maxRecDepth 100000 in
def bd_X12_through_22  (g : Gh) (M0 : Mem) (a0 : Nat) (post : Mem → Prop)  (bk22 : Int32 × Mem → Prop) (x1 : Int32)  (M : Mem) : Prop :=
  (((mI M a0 49) ≤ x1) → post M) ∧ (¬ ((mI M a0 49) ≤ x1) → ∃ q35, mR M a0 59 = some q35 ∧ (okc (gB g) M0 q35 14 ∧ (vp_in x1 (mN M0 q35) ∧ (∀ M39, M39 = uI M q35 (Int32.toNatClampNeg x1) 0 → (∃ q41, mR M39 a0 56 = some q41 ∧ (okc (gB g) M0 q41 14 ∧ (vp_in x1 (mN M0 q41) ∧ ((((mI M39 q41 (Int32.toNatClampNeg x1)) ≤ (mI M39 a0 50)) → lb_X12_through_60  g M0 a0 post bk22 x1 M39) ∧ (¬ ((mI M39 q41 (Int32.toNatClampNeg x1)) ≤ (mI M39 a0 50)) → wp_X12_hands g M39 a0 (mI M39 q41 (Int32.toNatClampNeg x1)) (fun M47 => lb_X12_through_60  g M0 a0 post bk22 x1 M47))))))))))
set_option maxRecDepth 100000 in
def wp_X12_through  (g : Gh) (M0 : Mem) (a0 : Nat) (post : Mem → Prop) : Prop :=
  okc (gB g) M0 a0 12 ∧ (wp_X12_hands g M0 a0 0 (fun M49 => ∀ M50, M50 = uI M49 a0 53 0 → (∀ M52, M52 = uI M50 a0 54 0 → (∀ M54, M54 = uI M52 a0 55 0 → ((∃ n : Nat, lfp (fun bk z => bd_X12_through_22  g M0 a0 post  bk z.1 z.2) n (0, M54)))))))
set_option maxHeartbeats 4000000 in
set_option maxRecDepth 100000 in
theorem lt_X12_through_114 {l : Launch} {g : Gh} {p : Program} {e : Env} {s : State} {m : MethodId} {args : Array Value} {below : List Frame} {meth : Method} {c : Code} {H : Heap} {locs : List Loc} {ls : Array Slot} {M0 M : Mem} {a0 : Nat} {post : Mem → Prop} {x1 : Int32} {s0 : Nat} {s1 : Int32} {s2 : Int32}  (C : Cx g p s m args c cX12_through 2 RX12) (hr : meth.sig.returnType = none) (hlk : meth.locks = false) (hn : meth.name = "through") (h0 : okc (gB g) M0 a0 12) {bk22 : Int32 × Mem → Prop} (hk22 : ∀ (x1 : Int32) (M : Mem) (H : Heap) (locs : List Loc) (ls : Array Slot), bk22 (x1, M) → Wd g s M0 M H locs → lv_has ls 2 [(0, .ref a0), (1, .int x1)] → W p l e (rmo 3 0 0) s m args below meth c H locs 0 0 (MQ below (Cq g M0 (pV post)) args s 0 0 (gA g)) (F0 m 22 ls [])) (hq : lb_X12_through_114  g M0 a0 post bk22 x1 s0 s1 s2 M) (hw : Wd g s M0 M H locs) (hl : lv_has ls 2 [(0, .ref a0), (1, .int x1)]) : W p l e (rmo 3 0 0) s m args below meth c H locs 0 0 (MQ below (Cq g M0 (pV post)) args s 0 0 (gA g)) (F0 m 114 ls [.int s2, .int s1, .ref s0]) := by
  have hx := C.1.1
  have hb := C.1.2.1
  unfold lb_X12_through_114 at hq
  obtain ⟨h1, hq⟩ := hq
  obtain ⟨h2, hq⟩ := hq
  refine q_zast C hw hw.2.2.1 h1 h2 dX12_through_114 (fun H locs hw => ?_)
  generalize e4 : uI M s0 (Int32.toNatClampNeg s1) (vp_nar .boolean s2) = M3 at hw
  replace hq := hq M3 e4.symm
  refine lv_aload_n hx hb dX12_through_115 rfl (lv_at hl 0 rfl) ?_
  obtain ⟨q5, e6, hq⟩ := hq
  refine gfX12_108 C hw hw.2.2.1 h0 e6 dX12_through_116 ?_
  refine lv_iload_n hx hb dX12_through_119 rfl (lv_at hl 1 rfl) ?_
  obtain ⟨h7, hq⟩ := hq
  obtain ⟨h8, hq⟩ := hq
  refine q_zald C hw hw.2.2.1 h7 h8 dX12_through_120 ?_
  refine lv_if_eq (tgt := 137) hx hb dX12_through_121 (by decide) (fun c9 => ?_) (fun c9 => ?_)
  · replace hq := hq.1 c9
    refine lv_aload_n hx hb dX12_through_137 rfl (lv_at hl 0 rfl) ?_
    refine lv_iload_n hx hb dX12_through_138 rfl (lv_at hl 1 rfl) ?_
    refine lv_aload_n hx hb dX12_through_139 rfl (lv_at hl 0 rfl) ?_
    refine lv_aload_n hx hb dX12_through_140 rfl (lv_at hl 0 rfl) ?_
    refine gfX12_296 C hw hw.2.2.1 h0 dX12_through_141 ?_
    refine r_callV (T := TX12) (N := 67) (ci := 12) (index := 302) (n := 1) (d2 := 0) (mc := 0) (ms := 0) (As := [.int (mI M3 a0 50)]) (rest := [.int x1, .ref a0]) C hw (ct_X12_roundOf hq) kvX12_302 hq.1 (by decide) rfl ⟨by decide, by decide⟩ ⟨by decide, by decide⟩ rfl hl.1 rfl (Nat.le_of_ble_eq_true rfl) dX12_through_144 (fun r M11 H locs hp hle hw => ?_)
    obtain ⟨v10, rfl, hq⟩ := hp
    refine W.eq (g2 := F0 m 147 ls [.int v10, .int x1, .ref a0]) rfl ?_
    refine r_callV (T := TX12) (N := 67) (ci := 12) (index := 320) (n := 2) (d2 := 2) (mc := 0) (ms := 0) (As := [.int x1, .int v10]) (rest := []) C hw (ct_X12_happens hq) kvX12_320 hq.1 (by decide) rfl ⟨by decide, by decide⟩ ⟨by decide, by decide⟩ rfl hl.1 rfl (Nat.le_of_ble_eq_true rfl) dX12_through_147 (fun r M13 H locs hp hle hw => ?_)
    obtain ⟨rfl, hq⟩ := hp
    refine W.eq (g2 := F0 m 150 ls []) rfl ?_
    refine lv_iinc (v := (x1 + 1)) (lv' := [(1, .int (x1 + 1)), (0, .ref a0)]) hx hb dX12_through_150 hl (k := 1) rfl rfl (by decide) rfl (fun ls hl => ?_)
    refine lv_goto (tgt := 22) hx hb dX12_through_153 (by decide) ?_
    exact hk22 _ _ _ _ _ hq hw (lv_sub hl [1, 0] rfl)
  · replace hq := hq.2 c9
    refine lv_aload_n hx hb dX12_through_124 rfl (lv_at hl 0 rfl) ?_
    refine lv_dup hx hb dX12_through_125 rfl ?_
    refine gfX12_317 C hw hw.2.2.1 h0 dX12_through_126 ?_
    refine lv_iconst (v := 1) hx hb dX12_through_129 (by decide) ?_
    refine lv_iadd hx hb dX12_through_130 ?_
    refine pfX12_317 C hw hw.2.2.1 h0 dX12_through_131 (fun H locs hw => ?_)
    generalize e15 : uI M3 a0 55 ((mI M3 a0 55) + 1) = M14 at hw
    replace hq := hq M14 e15.symm
    have e6 : mR M14 a0 61 = some q5 := by rw [← e15, mR_uI]; exact e6
    refine lv_goto (tgt := 150) hx hb dX12_through_134 (by decide) ?_
    refine lv_iinc (v := (x1 + 1)) (lv' := [(1, .int (x1 + 1)), (0, .ref a0)]) hx hb dX12_through_150 hl (k := 1) rfl rfl (by decide) rfl (fun ls hl => ?_)
    refine lv_goto (tgt := 22) hx hb dX12_through_153 (by decide) ?_
    exact hk22 _ _ _ _ _ hq hw (lv_sub hl [1, 0] rfl)
set_option maxHeartbeats 4000000 in
set_option maxRecDepth 100000 in
theorem lt_X12_through_60 {l : Launch} {g : Gh} {p : Program} {e : Env} {s : State} {m : MethodId} {args : Array Value} {below : List Frame} {meth : Method} {c : Code} {H : Heap} {locs : List Loc} {ls : Array Slot} {M0 M : Mem} {a0 : Nat} {post : Mem → Prop} {x1 : Int32}   (C : Cx g p s m args c cX12_through 2 RX12) (hr : meth.sig.returnType = none) (hlk : meth.locks = false) (hn : meth.name = "through") (h0 : okc (gB g) M0 a0 12) {bk22 : Int32 × Mem → Prop} (hk22 : ∀ (x1 : Int32) (M : Mem) (H : Heap) (locs : List Loc) (ls : Array Slot), bk22 (x1, M) → Wd g s M0 M H locs → lv_has ls 2 [(0, .ref a0), (1, .int x1)] → W p l e (rmo 3 0 0) s m args below meth c H locs 0 0 (MQ below (Cq g M0 (pV post)) args s 0 0 (gA g)) (F0 m 22 ls [])) (hq : lb_X12_through_60  g M0 a0 post bk22 x1 M) (hw : Wd g s M0 M H locs) (hl : lv_has ls 2 [(0, .ref a0), (1, .int x1)]) : W p l e (rmo 3 0 0) s m args below meth c H locs 0 0 (MQ below (Cq g M0 (pV post)) args s 0 0 (gA g)) (F0 m 60 ls []) := by
  have hx := C.1.1
  have hb := C.1.2.1
  unfold lb_X12_through_60 at hq
  refine lv_aload_n hx hb dX12_through_60 rfl (lv_at hl 0 rfl) ?_
  obtain ⟨q16, e17, hq⟩ := hq
  refine gfX12_108 C hw hw.2.2.1 h0 e17 dX12_through_61 ?_
  refine lv_iload_n hx hb dX12_through_64 rfl (lv_at hl 1 rfl) ?_
  refine lv_aload_n hx hb dX12_through_65 rfl (lv_at hl 0 rfl) ?_
  obtain ⟨q18, e19, hq⟩ := hq
  refine gfX12_93 C hw hw.2.2.1 h0 e19 dX12_through_66 ?_
  refine lv_iload_n hx hb dX12_through_69 rfl (lv_at hl 1 rfl) ?_
  obtain ⟨h20, hq⟩ := hq
  obtain ⟨h21, hq⟩ := hq
  refine q_iald C hw hw.2.2.1 h20 h21 dX12_through_70 ?_
  refine lv_aload_n hx hb dX12_through_71 rfl (lv_at hl 0 rfl) ?_
  refine gfX12_296 C hw hw.2.2.1 h0 dX12_through_72 ?_
  refine lv_icmp_lt (tgt := 109) hx hb dX12_through_75 (by decide) (fun c22 => ?_) (fun c22 => ?_)
  · replace hq := hq.1 c22
    refine lv_iconst (v := 1) hx hb dX12_through_109 (by decide) ?_
    refine lv_goto (tgt := 114) hx hb dX12_through_110 (by decide) ?_
    exact lt_X12_through_114  C hr hlk hn h0 hk22 hq hw (lv_sub hl [0, 1] rfl)
  · replace hq := hq.2 c22
    refine lv_aload_n hx hb dX12_through_78 rfl (lv_at hl 0 rfl) ?_
    obtain ⟨q23, e24, hq⟩ := hq
    refine gfX12_96 C hw hw.2.2.1 h0 e24 dX12_through_79 ?_
    refine lv_iload_n hx hb dX12_through_82 rfl (lv_at hl 1 rfl) ?_
    obtain ⟨h25, hq⟩ := hq
    obtain ⟨h26, hq⟩ := hq
    refine q_iald C hw hw.2.2.1 h25 h26 dX12_through_83 ?_
    refine lv_iconst (v := 2) hx hb dX12_through_84 (by decide) ?_
    refine lv_icmp_ge (tgt := 113) hx hb dX12_through_85 (by decide) (fun c27 => ?_) (fun c27 => ?_)
    · replace hq := hq.1 c27
      refine lv_iconst (v := 0) hx hb dX12_through_113 (by decide) ?_
      exact lt_X12_through_114  C hr hlk hn h0 hk22 hq hw (lv_sub hl [0, 1] rfl)
    · replace hq := hq.2 c27
      refine lv_aload_n hx hb dX12_through_88 rfl (lv_at hl 0 rfl) ?_
      refine gfX12_305 C hw hw.2.2.1 h0 dX12_through_89 ?_
      refine lv_iconst (v := 2) hx hb dX12_through_92 (by decide) ?_
      refine lv_icmp_eq (tgt := 113) hx hb dX12_through_93 (by decide) (fun c28 => ?_) (fun c28 => ?_)
      · replace hq := hq.1 c28
        refine lv_iconst (v := 0) hx hb dX12_through_113 (by decide) ?_
        exact lt_X12_through_114  C hr hlk hn h0 hk22 hq hw (lv_sub hl [0, 1] rfl)
      · replace hq := hq.2 c28
        refine lv_aload_n hx hb dX12_through_96 rfl (lv_at hl 0 rfl) ?_
        refine gfX12_305 C hw hw.2.2.1 h0 dX12_through_97 ?_
        refine lv_aload_n hx hb dX12_through_100 rfl (lv_at hl 0 rfl) ?_
        obtain ⟨q29, e30, hq⟩ := hq
        refine gfX12_99 C hw hw.2.2.1 h0 e30 dX12_through_101 ?_
        refine lv_iload_n hx hb dX12_through_104 rfl (lv_at hl 1 rfl) ?_
        obtain ⟨h31, hq⟩ := hq
        obtain ⟨h32, hq⟩ := hq
        refine q_iald C hw hw.2.2.1 h31 h32 dX12_through_105 ?_
        refine lv_icmp_eq (tgt := 113) hx hb dX12_through_106 (by decide) (fun c33 => ?_) (fun c33 => ?_)
        · replace hq := hq.1 c33
          refine lv_iconst (v := 0) hx hb dX12_through_113 (by decide) ?_
          exact lt_X12_through_114  C hr hlk hn h0 hk22 hq hw (lv_sub hl [0, 1] rfl)
        · replace hq := hq.2 c33
          refine lv_iconst (v := 1) hx hb dX12_through_109 (by decide) ?_
          refine lv_goto (tgt := 114) hx hb dX12_through_110 (by decide) ?_
          exact lt_X12_through_114  C hr hlk hn h0 hk22 hq hw (lv_sub hl [0, 1] rfl)
set_option maxHeartbeats 4000000 in
set_option maxRecDepth 100000 in
theorem lp_X12_through_22 {l : Launch} {g : Gh} {p : Program} {e : Env} {s : State} {m : MethodId} {args : Array Value} {below : List Frame} {meth : Method} {c : Code} {M0 : Mem} {a0 : Nat} {post : Mem → Prop}  (C : Cx g p s m args c cX12_through 2 RX12) (hr : meth.sig.returnType = none) (hlk : meth.locks = false) (hn : meth.name = "through") (h0 : okc (gB g) M0 a0 12)  : ∀ (nf : Nat) (x1 : Int32)  (M : Mem) (H : Heap) (locs : List Loc) (ls : Array Slot), lfp (fun bk z => bd_X12_through_22  g M0 a0 post  bk z.1 z.2) nf (x1, M) → Wd g s M0 M H locs → lv_has ls 2 [(0, .ref a0), (1, .int x1)] → W p l e (rmo 3 0 0) s m args below meth c H locs 0 0 (MQ below (Cq g M0 (pV post)) args s 0 0 (gA g)) (F0 m 22 ls []) := by
  have hx := C.1.1
  have hb := C.1.2.1
  intro nf
  induction nf with
  | zero => intro _ _ H locs ls hq; exact hq.elim
  | succ nf hk22 =>
    intro x1 M H locs ls hq hw hl
    replace hq : bd_X12_through_22  g M0 a0 post  (lfp (fun bk z => bd_X12_through_22  g M0 a0 post  bk z.1 z.2) nf) x1 M := hq
    unfold bd_X12_through_22 at hq
    refine lv_iload_n hx hb dX12_through_22 rfl (lv_at hl 1 rfl) ?_
    refine lv_aload_n hx hb dX12_through_23 rfl (lv_at hl 0 rfl) ?_
    refine gfX12_290 C hw hw.2.2.1 h0 dX12_through_24 ?_
    refine lv_icmp_ge (tgt := 156) hx hb dX12_through_27 (by decide) (fun c34 => ?_) (fun c34 => ?_)
    · replace hq := hq.1 c34
      exact r_vret C hr hlk hw dX12_through_156 (Nat.le_refl _) (Nat.le_refl _) ⟨rfl, hq⟩
    · replace hq := hq.2 c34
      refine lv_aload_n hx hb dX12_through_30 rfl (lv_at hl 0 rfl) ?_
      obtain ⟨q35, e36, hq⟩ := hq
      refine gfX12_102 C hw hw.2.2.1 h0 e36 dX12_through_31 ?_
      refine lv_iload_n hx hb dX12_through_34 rfl (lv_at hl 1 rfl) ?_
      refine lv_iconst (v := 0) hx hb dX12_through_35 (by decide) ?_
      obtain ⟨h37, hq⟩ := hq
      obtain ⟨h38, hq⟩ := hq
      refine q_iast C hw hw.2.2.1 h37 h38 dX12_through_36 (fun H locs hw => ?_)
      generalize e40 : uI M q35 (Int32.toNatClampNeg x1) 0 = M39 at hw
      replace hq := hq M39 e40.symm
      have e36 : mR M39 a0 59 = some q35 := by rw [← e40, mR_uI]; exact e36
      refine lv_aload_n hx hb dX12_through_37 rfl (lv_at hl 0 rfl) ?_
      obtain ⟨q41, e42, hq⟩ := hq
      refine gfX12_93 C hw hw.2.2.1 h0 e42 dX12_through_38 ?_
      refine lv_iload_n hx hb dX12_through_41 rfl (lv_at hl 1 rfl) ?_
      obtain ⟨h43, hq⟩ := hq
      obtain ⟨h44, hq⟩ := hq
      refine q_iald C hw hw.2.2.1 h43 h44 dX12_through_42 ?_
      refine lv_aload_n hx hb dX12_through_43 rfl (lv_at hl 0 rfl) ?_
      refine gfX12_296 C hw hw.2.2.1 h0 dX12_through_44 ?_
      refine lv_icmp_le (tgt := 60) hx hb dX12_through_47 (by decide) (fun c45 => ?_) (fun c45 => ?_)
      · replace hq := hq.1 c45
        exact lt_X12_through_60  C hr hlk hn h0 hk22 hq hw (lv_sub hl [0, 1] rfl)
      · replace hq := hq.2 c45
        refine lv_aload_n hx hb dX12_through_50 rfl (lv_at hl 0 rfl) ?_
        refine lv_aload_n hx hb dX12_through_51 rfl (lv_at hl 0 rfl) ?_
        refine gfX12_93 C hw hw.2.2.1 h0 e42 dX12_through_52 ?_
        refine lv_iload_n hx hb dX12_through_55 rfl (lv_at hl 1 rfl) ?_
        refine q_iald C hw hw.2.2.1 h43 h44 dX12_through_56 ?_
        refine r_callV (T := TX12) (N := 67) (ci := 12) (index := 308) (n := 1) (d2 := 1) (mc := 0) (ms := 0) (As := [.int (mI M39 q41 (Int32.toNatClampNeg x1))]) (rest := []) C hw (ct_X12_hands hq) kvX12_308 hq.1 (by decide) rfl ⟨by decide, by decide⟩ ⟨by decide, by decide⟩ rfl hl.1 rfl (Nat.le_of_ble_eq_true rfl) dX12_through_57 (fun r M47 H locs hp hle hw => ?_)
        obtain ⟨rfl, hq⟩ := hp
        refine W.eq (g2 := F0 m 60 ls []) rfl ?_
        exact lt_X12_through_60  C hr hlk hn h0 hk22 hq hw (lv_sub hl [0, 1] rfl)
set_option maxHeartbeats 4000000 in
set_option maxRecDepth 100000 in
theorem ct_X12_through {l : Launch} {g : Gh} {M0 : Mem} {a0 : Nat} {post : Mem → Prop}  (hq : wp_X12_through  g M0 a0 post) : Ct l g yX12_through cX12_through 2 none 3 0 0 [.ref a0] M0 (pV post) := by
  unfold wp_X12_through at hq
  obtain ⟨h0, hq⟩ := hq
  refine Ct.of (by decide) (Nat.le_of_ble_eq_true rfl) ?_
  intro p e s m below meth c ls C hr hlk hn hl hw
  have hx := C.1.1
  have hb := C.1.2.1
  have hl : lv_has ls 2 [(0, .ref a0)] := hl
  refine lv_aload_n hx hb dX12_through_0 rfl (lv_at hl 0 rfl) ?_
  refine lv_iconst (v := 0) hx hb dX12_through_1 (by decide) ?_
  refine r_callV (T := TX12) (N := 67) (ci := 12) (index := 308) (n := 1) (d2 := 1) (mc := 0) (ms := 0) (As := [.int 0]) (rest := []) C hw (ct_X12_hands hq) kvX12_308 hq.1 (by decide) rfl ⟨by decide, by decide⟩ ⟨by decide, by decide⟩ rfl hl.1 rfl (Nat.le_of_ble_eq_true rfl) dX12_through_2 (fun r M49 H locs hp hle hw => ?_)
  obtain ⟨rfl, hq⟩ := hp
  refine W.eq (g2 := F0 m 5 ls []) rfl ?_
  refine lv_aload_n hx hb dX12_through_5 rfl (lv_at hl 0 rfl) ?_
  refine lv_iconst (v := 0) hx hb dX12_through_6 (by decide) ?_
  refine pfX12_311 C hw hw.2.2.1 h0 dX12_through_7 (fun H locs hw => ?_)
  generalize e51 : uI M49 a0 53 0 = M50 at hw
  replace hq := hq M50 e51.symm
  refine lv_aload_n hx hb dX12_through_10 rfl (lv_at hl 0 rfl) ?_
  refine lv_iconst (v := 0) hx hb dX12_through_11 (by decide) ?_
  refine pfX12_314 C hw hw.2.2.1 h0 dX12_through_12 (fun H locs hw => ?_)
  generalize e53 : uI M50 a0 54 0 = M52 at hw
  replace hq := hq M52 e53.symm
  refine lv_aload_n hx hb dX12_through_15 rfl (lv_at hl 0 rfl) ?_
  refine lv_iconst (v := 0) hx hb dX12_through_16 (by decide) ?_
  refine pfX12_317 C hw hw.2.2.1 h0 dX12_through_17 (fun H locs hw => ?_)
  generalize e55 : uI M52 a0 55 0 = M54 at hw
  replace hq := hq M54 e55.symm
  refine lv_iconst (v := 0) hx hb dX12_through_20 (by decide) ?_
  refine lv_istore_n (lv' := [(1, .int 0), (0, .ref a0)]) hx hb dX12_through_21 rfl hl (by decide) rfl (fun ls hl => ?_)
  obtain ⟨nf, hq⟩ := hq
  exact lp_X12_through_22  C hr hlk hn h0  nf _ _ _ _ _ hq hw (lv_sub hl [1, 0] rfl)

set_option maxRecDepth 100000 in
def lb_X12_begin_108  (g : Gh) (M0 : Mem) (a0 : Nat) (post : Int32 → Mem → Prop)    (M : Mem) : Prop :=
  ∀ M1, M1 = uI M a0 48 1 → (∀ M3, M3 = uI M1 a0 49 0 → (wp_X12_through g M3 a0 (fun M6 => post 1 M6)))
set_option maxRecDepth 100000 in
def lb_X12_begin_102  (g : Gh) (M0 : Mem) (a0 : Nat) (post : Int32 → Mem → Prop) (bk34 : Int32 × Mem → Prop) (x1 : Int32)  (M : Mem) : Prop :=
  bk34 ((x1 + 1), M)
set_option maxRecDepth 100000 in
def bd_X12_begin_34  (g : Gh) (M0 : Mem) (a0 : Nat) (post : Int32 → Mem → Prop)  (bk34 : Int32 × Mem → Prop) (x1 : Int32)  (M : Mem) : Prop :=
  (((mI M a0 44) ≤ x1) → lb_X12_begin_108  g M0 a0 post   M) ∧ (¬ ((mI M a0 44) ≤ x1) → ∃ q8, mR M a0 23 = some q8 ∧ (∃ q10, mR M a0 41 = some q10 ∧ (okc (gB g) M0 q10 14 ∧ (vp_in x1 (mN M0 q10) ∧ (okc (gB g) M0 q8 17 ∧ (vp_in (mI M q10 (Int32.toNatClampNeg x1)) (mN M0 q8) ∧ ((((mI M q8 (Int32.toNatClampNeg (mI M q10 (Int32.toNatClampNeg x1)))) = 0) → ∃ q17, mR M a0 22 = some q17 ∧ (okc (gB g) M0 q17 14 ∧ (vp_in (mI M q10 (Int32.toNatClampNeg x1)) (mN M0 q17) ∧ ((((((mI M q17 (Int32.toNatClampNeg (mI M q10 (Int32.toNatClampNeg x1)))) >>> ((mI M a0 46) &&& 31)) &&& 1) = 1) → post 0 M) ∧ (¬ ((((mI M q17 (Int32.toNatClampNeg (mI M q10 (Int32.toNatClampNeg x1)))) >>> ((mI M a0 46) &&& 31)) &&& 1) = 1) → (((((mI M q17 (Int32.toNatClampNeg (mI M q10 (Int32.toNatClampNeg x1)))) >>> ((mI M a0 47) &&& 31)) &&& 1) = 1) → post 0 M) ∧ (¬ ((((mI M q17 (Int32.toNatClampNeg (mI M q10 (Int32.toNatClampNeg x1)))) >>> ((mI M a0 47) &&& 31)) &&& 1) = 1) → lb_X12_begin_102  g M0 a0 post bk34 x1 M)))))) ∧ (¬ ((mI M q8 (Int32.toNatClampNeg (mI M q10 (Int32.toNatClampNeg x1)))) = 0) → post 0 M))))))))
set_option maxRecDepth 100000 in
def wp_X12_begin  (g : Gh) (M0 : Mem) (a0 : Nat) (post : Int32 → Mem → Prop) : Prop :=
  okc (gB g) M0 a0 12 ∧ (∀ M23, M23 = uI M0 a0 0 0 → ((((mI M23 a0 44) = 0) → post 0 M23) ∧ (¬ ((mI M23 a0 44) = 0) → (((mI M23 a0 48) = 0) → (((mI M23 a0 40) = (mI M23 a0 44)) → (∃ n : Nat, lfp (fun bk z => bd_X12_begin_34  g M0 a0 post  bk z.1 z.2) n (0, M23))) ∧ (¬ ((mI M23 a0 40) = (mI M23 a0 44)) → post 0 M23)) ∧ (¬ ((mI M23 a0 48) = 0) → post 0 M23))))
set_option maxHeartbeats 4000000 in
set_option maxRecDepth 100000 in
theorem lt_X12_begin_108 {l : Launch} {g : Gh} {p : Program} {e : Env} {s : State} {m : MethodId} {args : Array Value} {below : List Frame} {meth : Method} {c : Code} {H : Heap} {locs : List Loc} {ls : Array Slot} {M0 M : Mem} {a0 : Nat} {post : Int32 → Mem → Prop}    (C : Cx g p s m args c cX12_begin 2 RX12) (hr : meth.sig.returnType = (some .boolean)) (hlk : meth.locks = false) (hn : meth.name = "begin") (h0 : okc (gB g) M0 a0 12)  (hq : lb_X12_begin_108  g M0 a0 post   M) (hw : Wd g s M0 M H locs) (hl : lv_has ls 2 [(0, .ref a0)]) : W p l e (rmo 4 0 0) s m args below meth c H locs 0 0 (MQ below (Cq g M0 (pI post)) args s 0 0 (gA g)) (F0 m 108 ls []) := by
  have hx := C.1.1
  have hb := C.1.2.1
  unfold lb_X12_begin_108 at hq
  refine lv_aload_n hx hb dX12_begin_108 rfl (lv_at hl 0 rfl) ?_
  refine lv_iconst (v := 1) hx hb dX12_begin_109 (by decide) ?_
  refine pfX12_247 C hw hw.2.2.1 h0 (by decide) dX12_begin_110 (fun H locs hw => ?_)
  generalize e2 : uI M a0 48 1 = M1 at hw
  replace hq := hq M1 e2.symm
  refine lv_aload_n hx hb dX12_begin_113 rfl (lv_at hl 0 rfl) ?_
  refine lv_iconst (v := 0) hx hb dX12_begin_114 (by decide) ?_
  refine pfX12_290 C hw hw.2.2.1 h0 dX12_begin_115 (fun H locs hw => ?_)
  generalize e4 : uI M1 a0 49 0 = M3 at hw
  replace hq := hq M3 e4.symm
  refine lv_aload_n hx hb dX12_begin_118 rfl (lv_at hl 0 rfl) ?_
  refine r_callV (T := TX12) (N := 67) (ci := 12) (index := 293) (n := 0) (d2 := 3) (mc := 0) (ms := 0) (As := []) (rest := []) C hw (ct_X12_through hq) kvX12_293 hq.1 (by decide) rfl ⟨by decide, by decide⟩ ⟨by decide, by decide⟩ rfl hl.1 rfl (Nat.le_of_ble_eq_true rfl) dX12_begin_119 (fun r M6 H locs hp hle hw => ?_)
  obtain ⟨rfl, hq⟩ := hp
  refine W.eq (g2 := F0 m 122 ls []) rfl ?_
  refine lv_iconst (v := 1) hx hb dX12_begin_122 (by decide) ?_
  exact r_zret C hr hlk hw dX12_begin_123 (Nat.le_refl _) (Nat.le_refl _) (by decide) ⟨_, rfl, hq⟩
set_option maxHeartbeats 4000000 in
set_option maxRecDepth 100000 in
theorem lt_X12_begin_102 {l : Launch} {g : Gh} {p : Program} {e : Env} {s : State} {m : MethodId} {args : Array Value} {below : List Frame} {meth : Method} {c : Code} {H : Heap} {locs : List Loc} {ls : Array Slot} {M0 M : Mem} {a0 : Nat} {post : Int32 → Mem → Prop} {x1 : Int32}   (C : Cx g p s m args c cX12_begin 2 RX12) (hr : meth.sig.returnType = (some .boolean)) (hlk : meth.locks = false) (hn : meth.name = "begin") (h0 : okc (gB g) M0 a0 12) {bk34 : Int32 × Mem → Prop} (hk34 : ∀ (x1 : Int32) (M : Mem) (H : Heap) (locs : List Loc) (ls : Array Slot), bk34 (x1, M) → Wd g s M0 M H locs → lv_has ls 2 [(0, .ref a0), (1, .int x1)] → W p l e (rmo 4 0 0) s m args below meth c H locs 0 0 (MQ below (Cq g M0 (pI post)) args s 0 0 (gA g)) (F0 m 34 ls [])) (hq : lb_X12_begin_102  g M0 a0 post bk34 x1 M) (hw : Wd g s M0 M H locs) (hl : lv_has ls 2 [(0, .ref a0), (1, .int x1)]) : W p l e (rmo 4 0 0) s m args below meth c H locs 0 0 (MQ below (Cq g M0 (pI post)) args s 0 0 (gA g)) (F0 m 102 ls []) := by
  have hx := C.1.1
  have hb := C.1.2.1
  unfold lb_X12_begin_102 at hq
  refine lv_iinc (v := (x1 + 1)) (lv' := [(1, .int (x1 + 1)), (0, .ref a0)]) hx hb dX12_begin_102 hl (k := 1) rfl rfl (by decide) rfl (fun ls hl => ?_)
  refine lv_goto (tgt := 34) hx hb dX12_begin_105 (by decide) ?_
  exact hk34 _ _ _ _ _ hq hw (lv_sub hl [1, 0] rfl)
set_option maxHeartbeats 4000000 in
set_option maxRecDepth 100000 in
theorem lp_X12_begin_34 {l : Launch} {g : Gh} {p : Program} {e : Env} {s : State} {m : MethodId} {args : Array Value} {below : List Frame} {meth : Method} {c : Code} {M0 : Mem} {a0 : Nat} {post : Int32 → Mem → Prop}  (C : Cx g p s m args c cX12_begin 2 RX12) (hr : meth.sig.returnType = (some .boolean)) (hlk : meth.locks = false) (hn : meth.name = "begin") (h0 : okc (gB g) M0 a0 12)  : ∀ (nf : Nat) (x1 : Int32)  (M : Mem) (H : Heap) (locs : List Loc) (ls : Array Slot), lfp (fun bk z => bd_X12_begin_34  g M0 a0 post  bk z.1 z.2) nf (x1, M) → Wd g s M0 M H locs → lv_has ls 2 [(0, .ref a0), (1, .int x1)] → W p l e (rmo 4 0 0) s m args below meth c H locs 0 0 (MQ below (Cq g M0 (pI post)) args s 0 0 (gA g)) (F0 m 34 ls []) := by
  have hx := C.1.1
  have hb := C.1.2.1
  intro nf
  induction nf with
  | zero => intro _ _ H locs ls hq; exact hq.elim
  | succ nf hk34 =>
    intro x1 M H locs ls hq hw hl
    replace hq : bd_X12_begin_34  g M0 a0 post  (lfp (fun bk z => bd_X12_begin_34  g M0 a0 post  bk z.1 z.2) nf) x1 M := hq
    unfold bd_X12_begin_34 at hq
    refine lv_iload_n hx hb dX12_begin_34 rfl (lv_at hl 1 rfl) ?_
    refine lv_aload_n hx hb dX12_begin_35 rfl (lv_at hl 0 rfl) ?_
    refine gfX12_274 C hw hw.2.2.1 h0 dX12_begin_36 ?_
    refine lv_icmp_ge (tgt := 108) hx hb dX12_begin_39 (by decide) (fun c7 => ?_) (fun c7 => ?_)
    · replace hq := hq.1 c7
      exact lt_X12_begin_108  C hr hlk hn h0  hq hw (lv_sub hl [0] rfl)
    · replace hq := hq.2 c7
      refine lv_aload_n hx hb dX12_begin_42 rfl (lv_at hl 0 rfl) ?_
      obtain ⟨q8, e9, hq⟩ := hq
      refine gfX12_41 C hw hw.2.2.1 h0 e9 dX12_begin_43 ?_
      refine lv_aload_n hx hb dX12_begin_46 rfl (lv_at hl 0 rfl) ?_
      obtain ⟨q10, e11, hq⟩ := hq
      refine gfX12_84 C hw hw.2.2.1 h0 e11 dX12_begin_47 ?_
      refine lv_iload_n hx hb dX12_begin_50 rfl (lv_at hl 1 rfl) ?_
      obtain ⟨h12, hq⟩ := hq
      obtain ⟨h13, hq⟩ := hq
      refine q_iald C hw hw.2.2.1 h12 h13 dX12_begin_51 ?_
      obtain ⟨h14, hq⟩ := hq
      obtain ⟨h15, hq⟩ := hq
      refine q_zald C hw hw.2.2.1 h14 h15 dX12_begin_52 ?_
      refine lv_if_ne (tgt := 100) hx hb dX12_begin_53 (by decide) (fun c16 => ?_) (fun c16 => ?_)
      · replace hq := hq.2 c16
        refine lv_iconst (v := 0) hx hb dX12_begin_100 (by decide) ?_
        exact r_zret C hr hlk hw dX12_begin_101 (Nat.le_refl _) (Nat.le_refl _) (by decide) ⟨_, rfl, hq⟩
      · replace hq := hq.1 c16
        refine lv_aload_n hx hb dX12_begin_56 rfl (lv_at hl 0 rfl) ?_
        obtain ⟨q17, e18, hq⟩ := hq
        refine gfX12_38 C hw hw.2.2.1 h0 e18 dX12_begin_57 ?_
        refine lv_aload_n hx hb dX12_begin_60 rfl (lv_at hl 0 rfl) ?_
        refine gfX12_84 C hw hw.2.2.1 h0 e11 dX12_begin_61 ?_
        refine lv_iload_n hx hb dX12_begin_64 rfl (lv_at hl 1 rfl) ?_
        refine q_iald C hw hw.2.2.1 h12 h13 dX12_begin_65 ?_
        obtain ⟨h19, hq⟩ := hq
        obtain ⟨h20, hq⟩ := hq
        refine q_iald C hw hw.2.2.1 h19 h20 dX12_begin_66 ?_
        refine lv_aload_n hx hb dX12_begin_67 rfl (lv_at hl 0 rfl) ?_
        refine gfX12_284 C hw hw.2.2.1 h0 dX12_begin_68 ?_
        refine lv_ishr hx hb dX12_begin_71 ?_
        refine lv_iconst (v := 1) hx hb dX12_begin_72 (by decide) ?_
        refine lv_iand hx hb dX12_begin_73 ?_
        refine lv_iconst (v := 1) hx hb dX12_begin_74 (by decide) ?_
        refine lv_icmp_eq (tgt := 100) hx hb dX12_begin_75 (by decide) (fun c21 => ?_) (fun c21 => ?_)
        · replace hq := hq.1 c21
          refine lv_iconst (v := 0) hx hb dX12_begin_100 (by decide) ?_
          exact r_zret C hr hlk hw dX12_begin_101 (Nat.le_refl _) (Nat.le_refl _) (by decide) ⟨_, rfl, hq⟩
        · replace hq := hq.2 c21
          refine lv_aload_n hx hb dX12_begin_78 rfl (lv_at hl 0 rfl) ?_
          refine gfX12_38 C hw hw.2.2.1 h0 e18 dX12_begin_79 ?_
          refine lv_aload_n hx hb dX12_begin_82 rfl (lv_at hl 0 rfl) ?_
          refine gfX12_84 C hw hw.2.2.1 h0 e11 dX12_begin_83 ?_
          refine lv_iload_n hx hb dX12_begin_86 rfl (lv_at hl 1 rfl) ?_
          refine q_iald C hw hw.2.2.1 h12 h13 dX12_begin_87 ?_
          refine q_iald C hw hw.2.2.1 h19 h20 dX12_begin_88 ?_
          refine lv_aload_n hx hb dX12_begin_89 rfl (lv_at hl 0 rfl) ?_
          refine gfX12_287 C hw hw.2.2.1 h0 dX12_begin_90 ?_
          refine lv_ishr hx hb dX12_begin_93 ?_
          refine lv_iconst (v := 1) hx hb dX12_begin_94 (by decide) ?_
          refine lv_iand hx hb dX12_begin_95 ?_
          refine lv_iconst (v := 1) hx hb dX12_begin_96 (by decide) ?_
          refine lv_icmp_ne (tgt := 102) hx hb dX12_begin_97 (by decide) (fun c22 => ?_) (fun c22 => ?_)
          · replace hq := hq.2 c22
            exact lt_X12_begin_102  C hr hlk hn h0 hk34 hq hw (lv_sub hl [0, 1] rfl)
          · replace hq := hq.1 c22
            refine lv_iconst (v := 0) hx hb dX12_begin_100 (by decide) ?_
            exact r_zret C hr hlk hw dX12_begin_101 (Nat.le_refl _) (Nat.le_refl _) (by decide) ⟨_, rfl, hq⟩
set_option maxHeartbeats 4000000 in
set_option maxRecDepth 100000 in
theorem ct_X12_begin {l : Launch} {g : Gh} {M0 : Mem} {a0 : Nat} {post : Int32 → Mem → Prop}  (hq : wp_X12_begin  g M0 a0 post) : Ct l g yX12_begin cX12_begin 2 (some .boolean) 4 0 0 [.ref a0] M0 (pI post) := by
  unfold wp_X12_begin at hq
  obtain ⟨h0, hq⟩ := hq
  refine Ct.of (by decide) (Nat.le_of_ble_eq_true rfl) ?_
  intro p e s m below meth c ls C hr hlk hn hl hw
  have hx := C.1.1
  have hb := C.1.2.1
  have hl : lv_has ls 2 [(0, .ref a0)] := hl
  refine lv_aload_n hx hb dX12_begin_0 rfl (lv_at hl 0 rfl) ?_
  refine lv_iconst (v := 0) hx hb dX12_begin_1 (by decide) ?_
  refine pfX12_123 C hw hw.2.2.1 h0 dX12_begin_2 (fun H locs hw => ?_)
  generalize e24 : uI M0 a0 0 0 = M23 at hw
  replace hq := hq M23 e24.symm
  refine lv_aload_n hx hb dX12_begin_5 rfl (lv_at hl 0 rfl) ?_
  refine gfX12_274 C hw hw.2.2.1 h0 dX12_begin_6 ?_
  refine lv_if_eq (tgt := 30) hx hb dX12_begin_9 (by decide) (fun c25 => ?_) (fun c25 => ?_)
  · replace hq := hq.1 c25
    refine lv_iconst (v := 0) hx hb dX12_begin_30 (by decide) ?_
    exact r_zret C hr hlk hw dX12_begin_31 (Nat.le_refl _) (Nat.le_refl _) (by decide) ⟨_, rfl, hq⟩
  · replace hq := hq.2 c25
    refine lv_aload_n hx hb dX12_begin_12 rfl (lv_at hl 0 rfl) ?_
    refine gfX12_247 C hw hw.2.2.1 h0 dX12_begin_13 ?_
    refine lv_if_ne (tgt := 30) hx hb dX12_begin_16 (by decide) (fun c26 => ?_) (fun c26 => ?_)
    · replace hq := hq.2 c26
      refine lv_iconst (v := 0) hx hb dX12_begin_30 (by decide) ?_
      exact r_zret C hr hlk hw dX12_begin_31 (Nat.le_refl _) (Nat.le_refl _) (by decide) ⟨_, rfl, hq⟩
    · replace hq := hq.1 c26
      refine lv_aload_n hx hb dX12_begin_19 rfl (lv_at hl 0 rfl) ?_
      refine gfX12_270 C hw hw.2.2.1 h0 dX12_begin_20 ?_
      refine lv_aload_n hx hb dX12_begin_23 rfl (lv_at hl 0 rfl) ?_
      refine gfX12_274 C hw hw.2.2.1 h0 dX12_begin_24 ?_
      refine lv_icmp_eq (tgt := 32) hx hb dX12_begin_27 (by decide) (fun c27 => ?_) (fun c27 => ?_)
      · replace hq := hq.1 c27
        refine lv_iconst (v := 0) hx hb dX12_begin_32 (by decide) ?_
        refine lv_istore_n (lv' := [(1, .int 0), (0, .ref a0)]) hx hb dX12_begin_33 rfl hl (by decide) rfl (fun ls hl => ?_)
        obtain ⟨nf, hq⟩ := hq
        exact lp_X12_begin_34  C hr hlk hn h0  nf _ _ _ _ _ hq hw (lv_sub hl [1, 0] rfl)
      · replace hq := hq.2 c27
        refine lv_iconst (v := 0) hx hb dX12_begin_30 (by decide) ?_
        exact r_zret C hr hlk hw dX12_begin_31 (Nat.le_refl _) (Nat.le_refl _) (by decide) ⟨_, rfl, hq⟩

set_option maxRecDepth 100000 in
def wp_X12_canCome  (g : Gh) (M0 : Mem) (a0 : Nat) (p1 : Int32) (post : Int32 → Mem → Prop) : Prop :=
  okc (gB g) M0 a0 12 ∧ ((((mI M0 a0 48) = 0) → post 0 M0) ∧ (¬ ((mI M0 a0 48) = 0) → ((3 ≤ (mI M0 a0 51)) → post 0 M0) ∧ (¬ (3 ≤ (mI M0 a0 51)) → ((120 ≤ (mI M0 a0 49)) → post 0 M0) ∧ (¬ (120 ≤ (mI M0 a0 49)) → ((p1 < 0) → post 0 M0) ∧ (¬ (p1 < 0) → ((1 < p1) → post 0 M0) ∧ (¬ (1 < p1) → (((mI M0 a0 51) = 2) → post 1 M0) ∧ (¬ ((mI M0 a0 51) = 2) → (((mI M0 a0 51) = p1) → post 1 M0) ∧ (¬ ((mI M0 a0 51) = p1) → post 0 M0))))))))
set_option maxHeartbeats 4000000 in
set_option maxRecDepth 100000 in
theorem ct_X12_canCome {l : Launch} {g : Gh} {M0 : Mem} {a0 : Nat} {p1 : Int32} {post : Int32 → Mem → Prop}  (hq : wp_X12_canCome  g M0 a0 p1 post) : Ct l g yX12_canCome cX12_canCome 2 (some .boolean) 0 0 0 [.ref a0, .int p1] M0 (pI post) := by
  unfold wp_X12_canCome at hq
  obtain ⟨h0, hq⟩ := hq
  refine Ct.of (by decide) (Nat.le_of_ble_eq_true rfl) ?_
  intro p e s m below meth c ls C hr hlk hn hl hw
  have hx := C.1.1
  have hb := C.1.2.1
  have hl : lv_has ls 2 [(0, .ref a0), (1, .int p1)] := hl
  refine lv_aload_n hx hb dX12_canCome_0 rfl (lv_at hl 0 rfl) ?_
  refine gfX12_247 C hw hw.2.2.1 h0 dX12_canCome_1 ?_
  refine lv_if_eq (tgt := 53) hx hb dX12_canCome_4 (by decide) (fun c1 => ?_) (fun c1 => ?_)
  · replace hq := hq.1 c1
    refine lv_iconst (v := 0) hx hb dX12_canCome_53 (by decide) ?_
    exact r_zret C hr hlk hw dX12_canCome_54 (Nat.le_refl _) (Nat.le_refl _) (by decide) ⟨_, rfl, hq⟩
  · replace hq := hq.2 c1
    refine lv_aload_n hx hb dX12_canCome_7 rfl (lv_at hl 0 rfl) ?_
    refine gfX12_305 C hw hw.2.2.1 h0 dX12_canCome_8 ?_
    refine lv_iconst (v := 3) hx hb dX12_canCome_11 (by decide) ?_
    refine lv_icmp_ge (tgt := 53) hx hb dX12_canCome_12 (by decide) (fun c2 => ?_) (fun c2 => ?_)
    · replace hq := hq.1 c2
      refine lv_iconst (v := 0) hx hb dX12_canCome_53 (by decide) ?_
      exact r_zret C hr hlk hw dX12_canCome_54 (Nat.le_refl _) (Nat.le_refl _) (by decide) ⟨_, rfl, hq⟩
    · replace hq := hq.2 c2
      refine lv_aload_n hx hb dX12_canCome_15 rfl (lv_at hl 0 rfl) ?_
      refine gfX12_290 C hw hw.2.2.1 h0 dX12_canCome_16 ?_
      refine lv_bipush (v := 120) hx hb dX12_canCome_19 (by decide) ?_
      refine lv_icmp_ge (tgt := 53) hx hb dX12_canCome_21 (by decide) (fun c3 => ?_) (fun c3 => ?_)
      · replace hq := hq.1 c3
        refine lv_iconst (v := 0) hx hb dX12_canCome_53 (by decide) ?_
        exact r_zret C hr hlk hw dX12_canCome_54 (Nat.le_refl _) (Nat.le_refl _) (by decide) ⟨_, rfl, hq⟩
      · replace hq := hq.2 c3
        refine lv_iload_n hx hb dX12_canCome_24 rfl (lv_at hl 1 rfl) ?_
        refine lv_if_lt (tgt := 53) hx hb dX12_canCome_25 (by decide) (fun c4 => ?_) (fun c4 => ?_)
        · replace hq := hq.1 c4
          refine lv_iconst (v := 0) hx hb dX12_canCome_53 (by decide) ?_
          exact r_zret C hr hlk hw dX12_canCome_54 (Nat.le_refl _) (Nat.le_refl _) (by decide) ⟨_, rfl, hq⟩
        · replace hq := hq.2 c4
          refine lv_iload_n hx hb dX12_canCome_28 rfl (lv_at hl 1 rfl) ?_
          refine lv_iconst (v := 1) hx hb dX12_canCome_29 (by decide) ?_
          refine lv_icmp_gt (tgt := 53) hx hb dX12_canCome_30 (by decide) (fun c5 => ?_) (fun c5 => ?_)
          · replace hq := hq.1 c5
            refine lv_iconst (v := 0) hx hb dX12_canCome_53 (by decide) ?_
            exact r_zret C hr hlk hw dX12_canCome_54 (Nat.le_refl _) (Nat.le_refl _) (by decide) ⟨_, rfl, hq⟩
          · replace hq := hq.2 c5
            refine lv_aload_n hx hb dX12_canCome_33 rfl (lv_at hl 0 rfl) ?_
            refine gfX12_305 C hw hw.2.2.1 h0 dX12_canCome_34 ?_
            refine lv_iconst (v := 2) hx hb dX12_canCome_37 (by decide) ?_
            refine lv_icmp_eq (tgt := 49) hx hb dX12_canCome_38 (by decide) (fun c6 => ?_) (fun c6 => ?_)
            · replace hq := hq.1 c6
              refine lv_iconst (v := 1) hx hb dX12_canCome_49 (by decide) ?_
              refine lv_goto (tgt := 54) hx hb dX12_canCome_50 (by decide) ?_
              exact r_zret C hr hlk hw dX12_canCome_54 (Nat.le_refl _) (Nat.le_refl _) (by decide) ⟨_, rfl, hq⟩
            · replace hq := hq.2 c6
              refine lv_aload_n hx hb dX12_canCome_41 rfl (lv_at hl 0 rfl) ?_
              refine gfX12_305 C hw hw.2.2.1 h0 dX12_canCome_42 ?_
              refine lv_iload_n hx hb dX12_canCome_45 rfl (lv_at hl 1 rfl) ?_
              refine lv_icmp_ne (tgt := 53) hx hb dX12_canCome_46 (by decide) (fun c7 => ?_) (fun c7 => ?_)
              · replace hq := hq.2 c7
                refine lv_iconst (v := 0) hx hb dX12_canCome_53 (by decide) ?_
                exact r_zret C hr hlk hw dX12_canCome_54 (Nat.le_refl _) (Nat.le_refl _) (by decide) ⟨_, rfl, hq⟩
              · replace hq := hq.1 c7
                refine lv_iconst (v := 1) hx hb dX12_canCome_49 (by decide) ?_
                refine lv_goto (tgt := 54) hx hb dX12_canCome_50 (by decide) ?_
                exact r_zret C hr hlk hw dX12_canCome_54 (Nat.le_refl _) (Nat.le_refl _) (by decide) ⟨_, rfl, hq⟩

set_option maxRecDepth 100000 in
def lb_X12_tells_53  (g : Gh) (M0 : Mem) (a0 : Nat) (p1 : Int32) (p2 : Int32) (p3 : Int32) (post : Mem → Prop)    (M : Mem) : Prop :=
  wp_X12_through g M a0 (fun M2 => post M2)
set_option maxRecDepth 100000 in
def wp_X12_tells  (g : Gh) (M0 : Mem) (a0 : Nat) (p1 : Int32) (p2 : Int32) (p3 : Int32) (post : Mem → Prop) : Prop :=
  okc (gB g) M0 a0 12 ∧ (∃ q3, mR M0 a0 56 = some q3 ∧ (okc (gB g) M0 q3 14 ∧ (vp_in (mI M0 a0 49) (mN M0 q3) ∧ (∀ M7, M7 = uI M0 q3 (Int32.toNatClampNeg (mI M0 a0 49)) (mI M0 a0 50) → (∃ q9, mR M7 a0 57 = some q9 ∧ (okc (gB g) M0 q9 14 ∧ (vp_in (mI M7 a0 49) (mN M0 q9) ∧ (∀ M13, M13 = uI M7 q9 (Int32.toNatClampNeg (mI M7 a0 49)) p1 → (∃ q15, mR M13 a0 58 = some q15 ∧ (okc (gB g) M0 q15 14 ∧ (vp_in (mI M13 a0 49) (mN M0 q15) ∧ (∀ M19, M19 = uI M13 q15 (Int32.toNatClampNeg (mI M13 a0 49)) p2 → (∃ q21, mR M19 a0 60 = some q21 ∧ (okc (gB g) M0 q21 17 ∧ (vp_in (mI M19 a0 49) (mN M0 q21) ∧ (∀ M25, M25 = uI M19 q21 (Int32.toNatClampNeg (mI M19 a0 49)) (vp_nar .boolean p3) → (∀ M27, M27 = uI M25 a0 49 ((mI M25 a0 49) + 1) → (lb_X12_tells_53  g M0 a0 p1 p2 p3 post   M27))))))))))))))))))
set_option maxHeartbeats 4000000 in
set_option maxRecDepth 100000 in
theorem lt_X12_tells_53 {l : Launch} {g : Gh} {p : Program} {e : Env} {s : State} {m : MethodId} {args : Array Value} {below : List Frame} {meth : Method} {c : Code} {H : Heap} {locs : List Loc} {ls : Array Slot} {M0 M : Mem} {a0 : Nat} {p1 : Int32} {p2 : Int32} {p3 : Int32} {post : Mem → Prop}    (C : Cx g p s m args c cX12_tells 4 RX12) (hr : meth.sig.returnType = none) (hlk : meth.locks = false) (hn : meth.name = "tells") (h0 : okc (gB g) M0 a0 12)  (hq : lb_X12_tells_53  g M0 a0 p1 p2 p3 post   M) (hw : Wd g s M0 M H locs) (hl : lv_has ls 4 [(0, .ref a0), (1, .int p1), (2, .int p2), (3, .int p3)]) : W p l e (rmo 4 0 0) s m args below meth c H locs 0 0 (MQ below (Cq g M0 (pV post)) args s 0 0 (gA g)) (F0 m 53 ls []) := by
  have hx := C.1.1
  have hb := C.1.2.1
  unfold lb_X12_tells_53 at hq
  refine lv_aload_n hx hb dX12_tells_53 rfl (lv_at hl 0 rfl) ?_
  refine r_callV (T := TX12) (N := 67) (ci := 12) (index := 293) (n := 0) (d2 := 3) (mc := 0) (ms := 0) (As := []) (rest := []) C hw (ct_X12_through hq) kvX12_293 hq.1 (by decide) rfl ⟨by decide, by decide⟩ ⟨by decide, by decide⟩ rfl hl.1 rfl (Nat.le_of_ble_eq_true rfl) dX12_tells_54 (fun r M2 H locs hp hle hw => ?_)
  obtain ⟨rfl, hq⟩ := hp
  refine W.eq (g2 := F0 m 57 ls []) rfl ?_
  exact r_vret C hr hlk hw dX12_tells_57 (Nat.le_refl _) (Nat.le_refl _) ⟨rfl, hq⟩
set_option maxHeartbeats 4000000 in
set_option maxRecDepth 100000 in
theorem ct_X12_tells {l : Launch} {g : Gh} {M0 : Mem} {a0 : Nat} {p1 : Int32} {p2 : Int32} {p3 : Int32} {post : Mem → Prop}  (hq : wp_X12_tells  g M0 a0 p1 p2 p3 post) : Ct l g yX12_tells cX12_tells 4 none 4 0 0 [.ref a0, .int p1, .int p2, .int p3] M0 (pV post) := by
  unfold wp_X12_tells at hq
  obtain ⟨h0, hq⟩ := hq
  refine Ct.of (by decide) (Nat.le_of_ble_eq_true rfl) ?_
  intro p e s m below meth c ls C hr hlk hn hl hw
  have hx := C.1.1
  have hb := C.1.2.1
  have hl : lv_has ls 4 [(0, .ref a0), (1, .int p1), (2, .int p2), (3, .int p3)] := hl
  refine lv_aload_n hx hb dX12_tells_0 rfl (lv_at hl 0 rfl) ?_
  obtain ⟨q3, e4, hq⟩ := hq
  refine gfX12_93 C hw hw.2.2.1 h0 e4 dX12_tells_1 ?_
  refine lv_aload_n hx hb dX12_tells_4 rfl (lv_at hl 0 rfl) ?_
  refine gfX12_290 C hw hw.2.2.1 h0 dX12_tells_5 ?_
  refine lv_aload_n hx hb dX12_tells_8 rfl (lv_at hl 0 rfl) ?_
  refine gfX12_296 C hw hw.2.2.1 h0 dX12_tells_9 ?_
  obtain ⟨h5, hq⟩ := hq
  obtain ⟨h6, hq⟩ := hq
  refine q_iast C hw hw.2.2.1 h5 h6 dX12_tells_12 (fun H locs hw => ?_)
  generalize e8 : uI M0 q3 (Int32.toNatClampNeg (mI M0 a0 49)) (mI M0 a0 50) = M7 at hw
  replace hq := hq M7 e8.symm
  have e4 : mR M7 a0 56 = some q3 := by rw [← e8, mR_uI]; exact e4
  refine lv_aload_n hx hb dX12_tells_13 rfl (lv_at hl 0 rfl) ?_
  obtain ⟨q9, e10, hq⟩ := hq
  refine gfX12_96 C hw hw.2.2.1 h0 e10 dX12_tells_14 ?_
  refine lv_aload_n hx hb dX12_tells_17 rfl (lv_at hl 0 rfl) ?_
  refine gfX12_290 C hw hw.2.2.1 h0 dX12_tells_18 ?_
  refine lv_iload_n hx hb dX12_tells_21 rfl (lv_at hl 1 rfl) ?_
  obtain ⟨h11, hq⟩ := hq
  obtain ⟨h12, hq⟩ := hq
  refine q_iast C hw hw.2.2.1 h11 h12 dX12_tells_22 (fun H locs hw => ?_)
  generalize e14 : uI M7 q9 (Int32.toNatClampNeg (mI M7 a0 49)) p1 = M13 at hw
  replace hq := hq M13 e14.symm
  have e4 : mR M13 a0 56 = some q3 := by rw [← e14, mR_uI]; exact e4
  have e10 : mR M13 a0 57 = some q9 := by rw [← e14, mR_uI]; exact e10
  refine lv_aload_n hx hb dX12_tells_23 rfl (lv_at hl 0 rfl) ?_
  obtain ⟨q15, e16, hq⟩ := hq
  refine gfX12_99 C hw hw.2.2.1 h0 e16 dX12_tells_24 ?_
  refine lv_aload_n hx hb dX12_tells_27 rfl (lv_at hl 0 rfl) ?_
  refine gfX12_290 C hw hw.2.2.1 h0 dX12_tells_28 ?_
  refine lv_iload_n hx hb dX12_tells_31 rfl (lv_at hl 2 rfl) ?_
  obtain ⟨h17, hq⟩ := hq
  obtain ⟨h18, hq⟩ := hq
  refine q_iast C hw hw.2.2.1 h17 h18 dX12_tells_32 (fun H locs hw => ?_)
  generalize e20 : uI M13 q15 (Int32.toNatClampNeg (mI M13 a0 49)) p2 = M19 at hw
  replace hq := hq M19 e20.symm
  have e4 : mR M19 a0 56 = some q3 := by rw [← e20, mR_uI]; exact e4
  have e10 : mR M19 a0 57 = some q9 := by rw [← e20, mR_uI]; exact e10
  have e16 : mR M19 a0 58 = some q15 := by rw [← e20, mR_uI]; exact e16
  refine lv_aload_n hx hb dX12_tells_33 rfl (lv_at hl 0 rfl) ?_
  obtain ⟨q21, e22, hq⟩ := hq
  refine gfX12_105 C hw hw.2.2.1 h0 e22 dX12_tells_34 ?_
  refine lv_aload_n hx hb dX12_tells_37 rfl (lv_at hl 0 rfl) ?_
  refine gfX12_290 C hw hw.2.2.1 h0 dX12_tells_38 ?_
  refine lv_iload_n hx hb dX12_tells_41 rfl (lv_at hl 3 rfl) ?_
  obtain ⟨h23, hq⟩ := hq
  obtain ⟨h24, hq⟩ := hq
  refine q_zast C hw hw.2.2.1 h23 h24 dX12_tells_42 (fun H locs hw => ?_)
  generalize e26 : uI M19 q21 (Int32.toNatClampNeg (mI M19 a0 49)) (vp_nar .boolean p3) = M25 at hw
  replace hq := hq M25 e26.symm
  have e4 : mR M25 a0 56 = some q3 := by rw [← e26, mR_uI]; exact e4
  have e10 : mR M25 a0 57 = some q9 := by rw [← e26, mR_uI]; exact e10
  have e16 : mR M25 a0 58 = some q15 := by rw [← e26, mR_uI]; exact e16
  have e22 : mR M25 a0 60 = some q21 := by rw [← e26, mR_uI]; exact e22
  refine lv_aload_n hx hb dX12_tells_43 rfl (lv_at hl 0 rfl) ?_
  refine lv_dup hx hb dX12_tells_44 rfl ?_
  refine gfX12_290 C hw hw.2.2.1 h0 dX12_tells_45 ?_
  refine lv_iconst (v := 1) hx hb dX12_tells_48 (by decide) ?_
  refine lv_iadd hx hb dX12_tells_49 ?_
  refine pfX12_290 C hw hw.2.2.1 h0 dX12_tells_50 (fun H locs hw => ?_)
  generalize e28 : uI M25 a0 49 ((mI M25 a0 49) + 1) = M27 at hw
  replace hq := hq M27 e28.symm
  have e4 : mR M27 a0 56 = some q3 := by rw [← e28, mR_uI]; exact e4
  have e10 : mR M27 a0 57 = some q9 := by rw [← e28, mR_uI]; exact e10
  have e16 : mR M27 a0 58 = some q15 := by rw [← e28, mR_uI]; exact e16
  have e22 : mR M27 a0 60 = some q21 := by rw [← e28, mR_uI]; exact e22
  exact lt_X12_tells_53  C hr hlk hn h0  hq hw (lv_sub hl [0, 1, 2, 3] rfl)
