set_option maxRecDepth 100000 in
def bd_X12_asked_119  (g : Gh) (M0 : Mem) (a0 : Nat) (p1 : Int32) (p2 : Int32) (post : Int32 → Mem → Prop)  (bk119 : Int32 × Int32 × Mem → Prop) (x3 : Int32) (x4 : Int32)  (M : Mem) : Prop :=
  ((12 ≤ x4) → post x3 M) ∧ (¬ (12 ≤ x4) → ∃ q2, mR M a0 22 = some q2 ∧ (okc (gB g) M0 q2 14 ∧ (vp_in p1 (mN M0 q2) ∧ (bk119 ((x3 + (((mI M q2 (Int32.toNatClampNeg p1)) >>> (x4 &&& 31)) &&& 1)), (x4 + 1), M)))))
set_option maxRecDepth 100000 in
def lb_X12_asked_23  (g : Gh) (M0 : Mem) (a0 : Nat) (p1 : Int32) (p2 : Int32) (post : Int32 → Mem → Prop)   (s0 : Nat) (s1 : Int32) (M : Mem) : Prop :=
  okc (gB g) M0 s0 12 ∧ (∀ M7, M7 = uI M s0 0 s1 → ((((mI M7 a0 0) ≤ 0) → ((p2 = 0) → ∃ q11, mR M7 a0 19 = some q11 ∧ (okc (gB g) M0 q11 14 ∧ (vp_in p1 (mN M0 q11) ∧ (post (mI M7 q11 (Int32.toNatClampNeg p1)) M7)))) ∧ ((p2 = 1) → ∃ q15, mR M7 a0 20 = some q15 ∧ (okc (gB g) M0 q15 14 ∧ (vp_in p1 (mN M0 q15) ∧ (post (mI M7 q15 (Int32.toNatClampNeg p1)) M7)))) ∧ ((p2 = 2) → ∃ q19, mR M7 a0 21 = some q19 ∧ (okc (gB g) M0 q19 14 ∧ (vp_in p1 (mN M0 q19) ∧ (post (mI M7 q19 (Int32.toNatClampNeg p1)) M7)))) ∧ ((p2 = 3) → wp_X12_hard g M7 a0 p1 (fun v23 M24 => post v23 M24)) ∧ ((p2 = 4) → ∃ q25, mR M7 a0 23 = some q25 ∧ (okc (gB g) M0 q25 17 ∧ (vp_in p1 (mN M0 q25) ∧ ((((mI M7 q25 (Int32.toNatClampNeg p1)) = 0) → post 0 M7) ∧ (¬ ((mI M7 q25 (Int32.toNatClampNeg p1)) = 0) → post 1 M7))))) ∧ ((¬ (p2 = 0) ∧ ¬ (p2 = 1) ∧ ¬ (p2 = 2) ∧ ¬ (p2 = 3) ∧ ¬ (p2 = 4)) → (∃ n : Nat, lfp (fun bk z => bd_X12_asked_119  g M0 a0 p1 p2 post  bk z.1 z.2.1 z.2.2) n (0, 0, M7)))) ∧ (¬ ((mI M7 a0 0) ≤ 0) → post 0 M7)))
set_option maxRecDepth 100000 in
def wp_X12_asked  (g : Gh) (M0 : Mem) (a0 : Nat) (p1 : Int32) (p2 : Int32) (post : Int32 → Mem → Prop) : Prop :=
  okc (gB g) M0 a0 12 ∧ (wp_X12_isQuestion g M0 a0 p1 (fun v35 M36 => ((v35 = 0) → lb_X12_asked_23  g M0 a0 p1 p2 post  a0 1 M36) ∧ (¬ (v35 = 0) → ((p2 < 0) → lb_X12_asked_23  g M0 a0 p1 p2 post  a0 1 M36) ∧ (¬ (p2 < 0) → ((p2 ≤ 5) → lb_X12_asked_23  g M0 a0 p1 p2 post  a0 0 M36) ∧ (¬ (p2 ≤ 5) → lb_X12_asked_23  g M0 a0 p1 p2 post  a0 1 M36)))))
set_option maxHeartbeats 4000000 in
set_option maxRecDepth 100000 in
theorem lp_X12_asked_119 {l : Launch} {g : Gh} {p : Program} {e : Env} {s : State} {m : MethodId} {args : Array Value} {below : List Frame} {meth : Method} {c : Code} {M0 : Mem} {a0 : Nat} {p1 : Int32} {p2 : Int32} {post : Int32 → Mem → Prop}  (C : Cx g p s m args c cX12_asked 5 RX12) (hr : meth.sig.returnType = (some .int)) (hlk : meth.locks = false) (hn : meth.name = "asked") (h0 : okc (gB g) M0 a0 12)  : ∀ (nf : Nat) (x3 : Int32) (x4 : Int32)  (M : Mem) (H : Heap) (locs : List Loc) (ls : Array Slot), lfp (fun bk z => bd_X12_asked_119  g M0 a0 p1 p2 post  bk z.1 z.2.1 z.2.2) nf (x3, x4, M) → Wd g s M0 M H locs → lv_has ls 5 [(0, .ref a0), (1, .int p1), (2, .int p2), (3, .int x3), (4, .int x4)] → W p l e (rmo 1 0 0) s m args below meth c H locs 0 0 (MQ below (Cq g M0 (pI post)) args s 0 0 (gA g)) (F0 m 119 ls []) := by
  have hx := C.1.1
  have hb := C.1.2.1
  intro nf
  induction nf with
  | zero => intro _ _ _ H locs ls hq; exact hq.elim
  | succ nf hk119 =>
    intro x3 x4 M H locs ls hq hw hl
    replace hq : bd_X12_asked_119  g M0 a0 p1 p2 post  (lfp (fun bk z => bd_X12_asked_119  g M0 a0 p1 p2 post  bk z.1 z.2.1 z.2.2) nf) x3 x4 M := hq
    unfold bd_X12_asked_119 at hq
    refine lv_iload hx hb dX12_asked_119 (lv_at hl 4 rfl) ?_
    refine lv_bipush (v := 12) hx hb dX12_asked_121 (by decide) ?_
    refine lv_icmp_ge (tgt := 146) hx hb dX12_asked_123 (by decide) (fun c1 => ?_) (fun c1 => ?_)
    · replace hq := hq.1 c1
      refine lv_iload_n hx hb dX12_asked_146 rfl (lv_at hl 3 rfl) ?_
      exact r_iret C hr hlk hw dX12_asked_147 (Nat.le_refl _) (Nat.le_refl _) ⟨_, rfl, hq⟩
    · replace hq := hq.2 c1
      refine lv_iload_n hx hb dX12_asked_126 rfl (lv_at hl 3 rfl) ?_
      refine lv_aload_n hx hb dX12_asked_127 rfl (lv_at hl 0 rfl) ?_
      obtain ⟨q2, e3, hq⟩ := hq
      refine gfX12_38 C hw hw.2.2.1 h0 e3 dX12_asked_128 ?_
      refine lv_iload_n hx hb dX12_asked_131 rfl (lv_at hl 1 rfl) ?_
      obtain ⟨h4, hq⟩ := hq
      obtain ⟨h5, hq⟩ := hq
      refine q_iald C hw hw.2.2.1 h4 h5 dX12_asked_132 ?_
      refine lv_iload hx hb dX12_asked_133 (lv_at hl 4 rfl) ?_
      refine lv_ishr hx hb dX12_asked_135 ?_
      refine lv_iconst (v := 1) hx hb dX12_asked_136 (by decide) ?_
      refine lv_iand hx hb dX12_asked_137 ?_
      refine lv_iadd hx hb dX12_asked_138 ?_
      refine lv_istore_n (lv' := [(3, .int (x3 + (((mI M q2 (Int32.toNatClampNeg p1)) >>> (x4 &&& 31)) &&& 1))), (0, .ref a0), (1, .int p1), (2, .int p2), (4, .int x4)]) hx hb dX12_asked_139 rfl hl (by decide) rfl (fun ls hl => ?_)
      refine lv_iinc (v := (x4 + 1)) (lv' := [(4, .int (x4 + 1)), (3, .int (x3 + (((mI M q2 (Int32.toNatClampNeg p1)) >>> (x4 &&& 31)) &&& 1))), (0, .ref a0), (1, .int p1), (2, .int p2)]) hx hb dX12_asked_140 hl (k := 4) rfl rfl (by decide) rfl (fun ls hl => ?_)
      refine lv_goto (tgt := 119) hx hb dX12_asked_143 (by decide) ?_
      exact hk119 _ _ _ _ _ _ hq hw (lv_sub hl [2, 3, 4, 1, 0] rfl)
set_option maxHeartbeats 4000000 in
set_option maxRecDepth 100000 in
theorem lt_X12_asked_23 {l : Launch} {g : Gh} {p : Program} {e : Env} {s : State} {m : MethodId} {args : Array Value} {below : List Frame} {meth : Method} {c : Code} {H : Heap} {locs : List Loc} {ls : Array Slot} {M0 M : Mem} {a0 : Nat} {p1 : Int32} {p2 : Int32} {post : Int32 → Mem → Prop}  {s0 : Nat} {s1 : Int32}  (C : Cx g p s m args c cX12_asked 5 RX12) (hr : meth.sig.returnType = (some .int)) (hlk : meth.locks = false) (hn : meth.name = "asked") (h0 : okc (gB g) M0 a0 12)  (hq : lb_X12_asked_23  g M0 a0 p1 p2 post  s0 s1 M) (hw : Wd g s M0 M H locs) (hl : lv_has ls 5 [(0, .ref a0), (1, .int p1), (2, .int p2)]) : W p l e (rmo 1 0 0) s m args below meth c H locs 0 0 (MQ below (Cq g M0 (pI post)) args s 0 0 (gA g)) (F0 m 23 ls [.int s1, .ref s0]) := by
  have hx := C.1.1
  have hb := C.1.2.1
  unfold lb_X12_asked_23 at hq
  obtain ⟨h6, hq⟩ := hq
  refine pfX12_123 C hw hw.2.2.1 h6 dX12_asked_23 (fun H locs hw => ?_)
  generalize e8 : uI M s0 0 s1 = M7 at hw
  replace hq := hq M7 e8.symm
  refine lv_aload_n hx hb dX12_asked_26 rfl (lv_at hl 0 rfl) ?_
  refine gfX12_123 C hw hw.2.2.1 h0 dX12_asked_27 ?_
  refine lv_if_le (tgt := 35) hx hb dX12_asked_30 (by decide) (fun c9 => ?_) (fun c9 => ?_)
  · replace hq := hq.1 c9
    refine lv_iload_n hx hb dX12_asked_35 rfl (lv_at hl 2 rfl) ?_
    by_cases c30 : p2 = 0
    · refine r_table (v := 0) (off := 36) (tgt := 72) hx hb dX12_asked_36 c30 (by decide) (by decide) rfl (by decide) ?_
      replace hq := hq.1 c30
      refine lv_aload_n hx hb dX12_asked_72 rfl (lv_at hl 0 rfl) ?_
      obtain ⟨q11, e12, hq⟩ := hq
      refine gfX12_29 C hw hw.2.2.1 h0 e12 dX12_asked_73 ?_
      refine lv_iload_n hx hb dX12_asked_76 rfl (lv_at hl 1 rfl) ?_
      obtain ⟨h13, hq⟩ := hq
      obtain ⟨h14, hq⟩ := hq
      refine q_iald C hw hw.2.2.1 h13 h14 dX12_asked_77 ?_
      exact r_iret C hr hlk hw dX12_asked_78 (Nat.le_refl _) (Nat.le_refl _) ⟨_, rfl, hq⟩
    by_cases c31 : p2 = 1
    · refine r_table (v := 1) (off := 43) (tgt := 79) hx hb dX12_asked_36 c31 (by decide) (by decide) rfl (by decide) ?_
      replace hq := hq.2.1 c31
      refine lv_aload_n hx hb dX12_asked_79 rfl (lv_at hl 0 rfl) ?_
      obtain ⟨q15, e16, hq⟩ := hq
      refine gfX12_32 C hw hw.2.2.1 h0 e16 dX12_asked_80 ?_
      refine lv_iload_n hx hb dX12_asked_83 rfl (lv_at hl 1 rfl) ?_
      obtain ⟨h17, hq⟩ := hq
      obtain ⟨h18, hq⟩ := hq
      refine q_iald C hw hw.2.2.1 h17 h18 dX12_asked_84 ?_
      exact r_iret C hr hlk hw dX12_asked_85 (Nat.le_refl _) (Nat.le_refl _) ⟨_, rfl, hq⟩
    by_cases c32 : p2 = 2
    · refine r_table (v := 2) (off := 50) (tgt := 86) hx hb dX12_asked_36 c32 (by decide) (by decide) rfl (by decide) ?_
      replace hq := hq.2.2.1 c32
      refine lv_aload_n hx hb dX12_asked_86 rfl (lv_at hl 0 rfl) ?_
      obtain ⟨q19, e20, hq⟩ := hq
      refine gfX12_35 C hw hw.2.2.1 h0 e20 dX12_asked_87 ?_
      refine lv_iload_n hx hb dX12_asked_90 rfl (lv_at hl 1 rfl) ?_
      obtain ⟨h21, hq⟩ := hq
      obtain ⟨h22, hq⟩ := hq
      refine q_iald C hw hw.2.2.1 h21 h22 dX12_asked_91 ?_
      exact r_iret C hr hlk hw dX12_asked_92 (Nat.le_refl _) (Nat.le_refl _) ⟨_, rfl, hq⟩
    by_cases c33 : p2 = 3
    · refine r_table (v := 3) (off := 57) (tgt := 93) hx hb dX12_asked_36 c33 (by decide) (by decide) rfl (by decide) ?_
      replace hq := hq.2.2.2.1 c33
      refine lv_aload_n hx hb dX12_asked_93 rfl (lv_at hl 0 rfl) ?_
      refine lv_iload_n hx hb dX12_asked_94 rfl (lv_at hl 1 rfl) ?_
      refine r_callV (T := TX12) (N := 67) (ci := 12) (index := 251) (n := 1) (d2 := 0) (mc := 0) (ms := 0) (As := [.int p1]) (rest := []) C hw (ct_X12_hard hq) kvX12_251 hq.1 (by decide) rfl ⟨by decide, by decide⟩ ⟨by decide, by decide⟩ rfl hl.1 rfl (Nat.le_of_ble_eq_true rfl) dX12_asked_95 (fun r M24 H locs hp hle hw => ?_)
      obtain ⟨v23, rfl, hq⟩ := hp
      refine W.eq (g2 := F0 m 98 ls [.int v23]) rfl ?_
      exact r_iret C hr hlk hw dX12_asked_98 (Nat.le_refl _) (Nat.le_refl _) ⟨_, rfl, hq⟩
    by_cases c34 : p2 = 4
    · refine r_table (v := 4) (off := 63) (tgt := 99) hx hb dX12_asked_36 c34 (by decide) (by decide) rfl (by decide) ?_
      replace hq := hq.2.2.2.2.1 c34
      refine lv_aload_n hx hb dX12_asked_99 rfl (lv_at hl 0 rfl) ?_
      obtain ⟨q25, e26, hq⟩ := hq
      refine gfX12_41 C hw hw.2.2.1 h0 e26 dX12_asked_100 ?_
      refine lv_iload_n hx hb dX12_asked_103 rfl (lv_at hl 1 rfl) ?_
      obtain ⟨h27, hq⟩ := hq
      obtain ⟨h28, hq⟩ := hq
      refine q_zald C hw hw.2.2.1 h27 h28 dX12_asked_104 ?_
      refine lv_if_eq (tgt := 112) hx hb dX12_asked_105 (by decide) (fun c29 => ?_) (fun c29 => ?_)
      · replace hq := hq.1 c29
        refine lv_iconst (v := 0) hx hb dX12_asked_112 (by decide) ?_
        exact r_iret C hr hlk hw dX12_asked_113 (Nat.le_refl _) (Nat.le_refl _) ⟨_, rfl, hq⟩
      · replace hq := hq.2 c29
        refine lv_iconst (v := 1) hx hb dX12_asked_108 (by decide) ?_
        refine lv_goto (tgt := 113) hx hb dX12_asked_109 (by decide) ?_
        exact r_iret C hr hlk hw dX12_asked_113 (Nat.le_refl _) (Nat.le_refl _) ⟨_, rfl, hq⟩
    refine r_tableOut (tgt := 114) (k := 4) hx hb dX12_asked_36 (by decide) (fun j hj => by rcases (show j = 0 ∨ j = 1 ∨ j = 2 ∨ j = 3 ∨ j = 4 by omega) with rfl | rfl | rfl | rfl | rfl <;> assumption) (by decide) ?_
    replace hq := hq.2.2.2.2.2 ⟨c30, c31, c32, c33, c34⟩
    refine lv_iconst (v := 0) hx hb dX12_asked_114 (by decide) ?_
    refine lv_istore_n (lv' := [(3, .int 0), (0, .ref a0), (1, .int p1), (2, .int p2)]) hx hb dX12_asked_115 rfl hl (by decide) rfl (fun ls hl => ?_)
    refine lv_iconst (v := 0) hx hb dX12_asked_116 (by decide) ?_
    refine lv_istore (lv' := [(4, .int 0), (3, .int 0), (0, .ref a0), (1, .int p1), (2, .int p2)]) hx hb dX12_asked_117 hl (by decide) rfl (fun ls hl => ?_)
    obtain ⟨nf, hq⟩ := hq
    exact lp_X12_asked_119  C hr hlk hn h0  nf _ _ _ _ _ _ hq hw (lv_sub hl [2, 3, 4, 1, 0] rfl)
  · replace hq := hq.2 c9
    refine lv_iconst (v := 0) hx hb dX12_asked_33 (by decide) ?_
    exact r_iret C hr hlk hw dX12_asked_34 (Nat.le_refl _) (Nat.le_refl _) ⟨_, rfl, hq⟩
set_option maxHeartbeats 4000000 in
set_option maxRecDepth 100000 in
theorem ct_X12_asked {l : Launch} {g : Gh} {M0 : Mem} {a0 : Nat} {p1 : Int32} {p2 : Int32} {post : Int32 → Mem → Prop}  (hq : wp_X12_asked  g M0 a0 p1 p2 post) : Ct l g yX12_asked cX12_asked 5 (some .int) 1 0 0 [.ref a0, .int p1, .int p2] M0 (pI post) := by
  unfold wp_X12_asked at hq
  obtain ⟨h0, hq⟩ := hq
  refine Ct.of (by decide) (Nat.le_of_ble_eq_true rfl) ?_
  intro p e s m below meth c ls C hr hlk hn hl hw
  have hx := C.1.1
  have hb := C.1.2.1
  have hl : lv_has ls 5 [(0, .ref a0), (1, .int p1), (2, .int p2)] := hl
  refine lv_aload_n hx hb dX12_asked_0 rfl (lv_at hl 0 rfl) ?_
  refine lv_aload_n hx hb dX12_asked_1 rfl (lv_at hl 0 rfl) ?_
  refine lv_iload_n hx hb dX12_asked_2 rfl (lv_at hl 1 rfl) ?_
  refine r_callV (T := TX12) (N := 67) (ci := 12) (index := 241) (n := 1) (d2 := 0) (mc := 0) (ms := 0) (As := [.int p1]) (rest := [.ref a0]) C hw (ct_X12_isQuestion hq) kvX12_241 hq.1 (by decide) rfl ⟨by decide, by decide⟩ ⟨by decide, by decide⟩ rfl hl.1 rfl (Nat.le_of_ble_eq_true rfl) dX12_asked_3 (fun r M36 H locs hp hle hw => ?_)
  obtain ⟨v35, rfl, hq⟩ := hp
  refine W.eq (g2 := F0 m 6 ls [.int v35, .ref a0]) rfl ?_
  refine lv_if_eq (tgt := 18) hx hb dX12_asked_6 (by decide) (fun c37 => ?_) (fun c37 => ?_)
  · replace hq := hq.1 c37
    refine lv_iconst (v := 1) hx hb dX12_asked_18 (by decide) ?_
    refine lv_goto (tgt := 23) hx hb dX12_asked_19 (by decide) ?_
    exact lt_X12_asked_23  C hr hlk hn h0  hq hw (lv_sub hl [0, 1, 2] rfl)
  · replace hq := hq.2 c37
    refine lv_iload_n hx hb dX12_asked_9 rfl (lv_at hl 2 rfl) ?_
    refine lv_if_lt (tgt := 18) hx hb dX12_asked_10 (by decide) (fun c38 => ?_) (fun c38 => ?_)
    · replace hq := hq.1 c38
      refine lv_iconst (v := 1) hx hb dX12_asked_18 (by decide) ?_
      refine lv_goto (tgt := 23) hx hb dX12_asked_19 (by decide) ?_
      exact lt_X12_asked_23  C hr hlk hn h0  hq hw (lv_sub hl [0, 1, 2] rfl)
    · replace hq := hq.2 c38
      refine lv_iload_n hx hb dX12_asked_13 rfl (lv_at hl 2 rfl) ?_
      refine lv_iconst (v := 5) hx hb dX12_asked_14 (by decide) ?_
      refine lv_icmp_le (tgt := 22) hx hb dX12_asked_15 (by decide) (fun c39 => ?_) (fun c39 => ?_)
      · replace hq := hq.1 c39
        refine lv_iconst (v := 0) hx hb dX12_asked_22 (by decide) ?_
        exact lt_X12_asked_23  C hr hlk hn h0  hq hw (lv_sub hl [0, 1, 2] rfl)
      · replace hq := hq.2 c39
        refine lv_iconst (v := 1) hx hb dX12_asked_18 (by decide) ?_
        refine lv_goto (tgt := 23) hx hb dX12_asked_19 (by decide) ?_
        exact lt_X12_asked_23  C hr hlk hn h0  hq hw (lv_sub hl [0, 1, 2] rfl)

set_option maxRecDepth 100000 in
def wp_X12_isTeam  (g : Gh) (M0 : Mem) (p0 : Int32) (post : Int32 → Mem → Prop) : Prop :=
  ((p0 < 0) → post 0 M0) ∧ (¬ (p0 < 0) → ((12 ≤ p0) → post 0 M0) ∧ (¬ (12 ≤ p0) → post 1 M0))
set_option maxHeartbeats 4000000 in
set_option maxRecDepth 100000 in
theorem ct_X12_isTeam {l : Launch} {g : Gh} {M0 : Mem} {p0 : Int32} {post : Int32 → Mem → Prop}  (hq : wp_X12_isTeam  g M0 p0 post) : Ct l g yX12_isTeam cX12_isTeam 1 (some .boolean) 0 0 0 [.int p0] M0 (pI post) := by
  unfold wp_X12_isTeam at hq
  refine Ct.of (by decide) (Nat.le_of_ble_eq_true rfl) ?_
  intro p e s m below meth c ls C hr hlk hn hl hw
  have hx := C.1.1
  have hb := C.1.2.1
  have hl : lv_has ls 1 [(0, .int p0)] := hl
  refine lv_iload_n hx hb dX12_isTeam_0 rfl (lv_at hl 0 rfl) ?_
  refine lv_if_lt (tgt := 14) hx hb dX12_isTeam_1 (by decide) (fun c1 => ?_) (fun c1 => ?_)
  · replace hq := hq.1 c1
    refine lv_iconst (v := 0) hx hb dX12_isTeam_14 (by decide) ?_
    exact r_zret C hr hlk hw dX12_isTeam_15 (Nat.le_refl _) (Nat.le_refl _) (by decide) ⟨_, rfl, hq⟩
  · replace hq := hq.2 c1
    refine lv_iload_n hx hb dX12_isTeam_4 rfl (lv_at hl 0 rfl) ?_
    refine lv_bipush (v := 12) hx hb dX12_isTeam_5 (by decide) ?_
    refine lv_icmp_ge (tgt := 14) hx hb dX12_isTeam_7 (by decide) (fun c2 => ?_) (fun c2 => ?_)
    · replace hq := hq.1 c2
      refine lv_iconst (v := 0) hx hb dX12_isTeam_14 (by decide) ?_
      exact r_zret C hr hlk hw dX12_isTeam_15 (Nat.le_refl _) (Nat.le_refl _) (by decide) ⟨_, rfl, hq⟩
    · replace hq := hq.2 c2
      refine lv_iconst (v := 1) hx hb dX12_isTeam_10 (by decide) ?_
      refine lv_goto (tgt := 15) hx hb dX12_isTeam_11 (by decide) ?_
      exact r_zret C hr hlk hw dX12_isTeam_15 (Nat.le_refl _) (Nat.le_refl _) (by decide) ⟨_, rfl, hq⟩

set_option maxRecDepth 100000 in
def wp_X12_seen  (g : Gh) (M0 : Mem) (a0 : Nat) (p1 : Int32) (p2 : Int32) (post : Int32 → Mem → Prop) : Prop :=
  okc (gB g) M0 a0 12 ∧ (∀ M1, M1 = uI M0 a0 0 0 → (wp_X12_isTeam g M1 p1 (fun v3 M4 => ((v3 = 0) → post 0 M4) ∧ (¬ (v3 = 0) → wp_X12_isQuestion g M4 a0 p2 (fun v6 M7 => ((v6 = 0) → post 0 M7) ∧ (¬ (v6 = 0) → ∃ q9, mR M7 a0 22 = some q9 ∧ (okc (gB g) M0 q9 14 ∧ (vp_in p2 (mN M0 q9) ∧ ((((((mI M7 q9 (Int32.toNatClampNeg p2)) >>> (p1 &&& 31)) &&& 1) = 1) → post 1 M7) ∧ (¬ ((((mI M7 q9 (Int32.toNatClampNeg p2)) >>> (p1 &&& 31)) &&& 1) = 1) → post 0 M7))))))))))
set_option maxHeartbeats 4000000 in
set_option maxRecDepth 100000 in
theorem ct_X12_seen {l : Launch} {g : Gh} {M0 : Mem} {a0 : Nat} {p1 : Int32} {p2 : Int32} {post : Int32 → Mem → Prop}  (hq : wp_X12_seen  g M0 a0 p1 p2 post) : Ct l g yX12_seen cX12_seen 3 (some .boolean) 1 0 0 [.ref a0, .int p1, .int p2] M0 (pI post) := by
  unfold wp_X12_seen at hq
  obtain ⟨h0, hq⟩ := hq
  refine Ct.of (by decide) (Nat.le_of_ble_eq_true rfl) ?_
  intro p e s m below meth c ls C hr hlk hn hl hw
  have hx := C.1.1
  have hb := C.1.2.1
  have hl : lv_has ls 3 [(0, .ref a0), (1, .int p1), (2, .int p2)] := hl
  refine lv_aload_n hx hb dX12_seen_0 rfl (lv_at hl 0 rfl) ?_
  refine lv_iconst (v := 0) hx hb dX12_seen_1 (by decide) ?_
  refine pfX12_123 C hw hw.2.2.1 h0 dX12_seen_2 (fun H locs hw => ?_)
  generalize e2 : uI M0 a0 0 0 = M1 at hw
  replace hq := hq M1 e2.symm
  refine lv_iload_n hx hb dX12_seen_5 rfl (lv_at hl 1 rfl) ?_
  refine r_callS (index := 254) (n := 1) (d2 := 0) (mc := 0) (ms := 0) (As := [.int p1]) (rest := []) C hw (ct_X12_isTeam hq) ksX12_254 ⟨by decide, by decide⟩ ⟨by decide, by decide⟩ rfl hl.1 rfl (Nat.le_of_ble_eq_true rfl) dX12_seen_6 (fun r M4 H locs hp hle hw => ?_)
  obtain ⟨v3, rfl, hq⟩ := hp
  refine W.eq (g2 := F0 m 9 ls [.int v3]) rfl ?_
  refine lv_if_eq (tgt := 38) hx hb dX12_seen_9 (by decide) (fun c5 => ?_) (fun c5 => ?_)
  · replace hq := hq.1 c5
    refine lv_iconst (v := 0) hx hb dX12_seen_38 (by decide) ?_
    exact r_zret C hr hlk hw dX12_seen_39 (Nat.le_refl _) (Nat.le_refl _) (by decide) ⟨_, rfl, hq⟩
  · replace hq := hq.2 c5
    refine lv_aload_n hx hb dX12_seen_12 rfl (lv_at hl 0 rfl) ?_
    refine lv_iload_n hx hb dX12_seen_13 rfl (lv_at hl 2 rfl) ?_
    refine r_callV (T := TX12) (N := 67) (ci := 12) (index := 241) (n := 1) (d2 := 0) (mc := 0) (ms := 0) (As := [.int p2]) (rest := []) C hw (ct_X12_isQuestion hq) kvX12_241 hq.1 (by decide) rfl ⟨by decide, by decide⟩ ⟨by decide, by decide⟩ rfl hl.1 rfl (Nat.le_of_ble_eq_true rfl) dX12_seen_14 (fun r M7 H locs hp hle hw => ?_)
    obtain ⟨v6, rfl, hq⟩ := hp
    refine W.eq (g2 := F0 m 17 ls [.int v6]) rfl ?_
    refine lv_if_eq (tgt := 38) hx hb dX12_seen_17 (by decide) (fun c8 => ?_) (fun c8 => ?_)
    · replace hq := hq.1 c8
      refine lv_iconst (v := 0) hx hb dX12_seen_38 (by decide) ?_
      exact r_zret C hr hlk hw dX12_seen_39 (Nat.le_refl _) (Nat.le_refl _) (by decide) ⟨_, rfl, hq⟩
    · replace hq := hq.2 c8
      refine lv_aload_n hx hb dX12_seen_20 rfl (lv_at hl 0 rfl) ?_
      obtain ⟨q9, e10, hq⟩ := hq
      refine gfX12_38 C hw hw.2.2.1 h0 e10 dX12_seen_21 ?_
      refine lv_iload_n hx hb dX12_seen_24 rfl (lv_at hl 2 rfl) ?_
      obtain ⟨h11, hq⟩ := hq
      obtain ⟨h12, hq⟩ := hq
      refine q_iald C hw hw.2.2.1 h11 h12 dX12_seen_25 ?_
      refine lv_iload_n hx hb dX12_seen_26 rfl (lv_at hl 1 rfl) ?_
      refine lv_ishr hx hb dX12_seen_27 ?_
      refine lv_iconst (v := 1) hx hb dX12_seen_28 (by decide) ?_
      refine lv_iand hx hb dX12_seen_29 ?_
      refine lv_iconst (v := 1) hx hb dX12_seen_30 (by decide) ?_
      refine lv_icmp_ne (tgt := 38) hx hb dX12_seen_31 (by decide) (fun c13 => ?_) (fun c13 => ?_)
      · replace hq := hq.2 c13
        refine lv_iconst (v := 0) hx hb dX12_seen_38 (by decide) ?_
        exact r_zret C hr hlk hw dX12_seen_39 (Nat.le_refl _) (Nat.le_refl _) (by decide) ⟨_, rfl, hq⟩
      · replace hq := hq.1 c13
        refine lv_iconst (v := 1) hx hb dX12_seen_34 (by decide) ?_
        refine lv_goto (tgt := 39) hx hb dX12_seen_35 (by decide) ?_
        exact r_zret C hr hlk hw dX12_seen_39 (Nat.le_refl _) (Nat.le_refl _) (by decide) ⟨_, rfl, hq⟩

set_option maxRecDepth 100000 in
def lb_X12_isKey_95  (g : Gh) (M0 : Mem) (a0 : Nat) (p1 : Int32) (p2 : Int32) (p3 : Int32) (p4 : Int32) (p5 : Int32) (post : Int32 → Mem → Prop)  (x6 : Int64)  (M : Mem) : Prop :=
  (((mI M a0 6) = 2) → (((lg_cmp (mJ M a0 8) x6) = 0) → post 1 M) ∧ (¬ ((lg_cmp (mJ M a0 8) x6) = 0) → post 0 M)) ∧ (¬ ((mI M a0 6) = 2) → post 0 M)
set_option maxRecDepth 100000 in
def lb_X12_isKey_74  (g : Gh) (M0 : Mem) (a0 : Nat) (p1 : Int32) (p2 : Int32) (p3 : Int32) (p4 : Int32) (p5 : Int32) (post : Int32 → Mem → Prop)  (x6 : Int64)  (M : Mem) : Prop :=
  ((p5 ≤ 0) → lb_X12_isKey_95  g M0 a0 p1 p2 p3 p4 p5 post  x6 M) ∧ (¬ (p5 ≤ 0) → lb_X12_isKey_95  g M0 a0 p1 p2 p3 p4 p5 post  (((27 * x6) + (Int32.toInt64 p5)) - 96) M)
set_option maxRecDepth 100000 in
def lb_X12_isKey_53  (g : Gh) (M0 : Mem) (a0 : Nat) (p1 : Int32) (p2 : Int32) (p3 : Int32) (p4 : Int32) (p5 : Int32) (post : Int32 → Mem → Prop)  (x6 : Int64)  (M : Mem) : Prop :=
  ((p4 ≤ 0) → lb_X12_isKey_74  g M0 a0 p1 p2 p3 p4 p5 post  x6 M) ∧ (¬ (p4 ≤ 0) → lb_X12_isKey_74  g M0 a0 p1 p2 p3 p4 p5 post  (((27 * x6) + (Int32.toInt64 p4)) - 96) M)
set_option maxRecDepth 100000 in
def lb_X12_isKey_34  (g : Gh) (M0 : Mem) (a0 : Nat) (p1 : Int32) (p2 : Int32) (p3 : Int32) (p4 : Int32) (p5 : Int32) (post : Int32 → Mem → Prop)  (x6 : Int64)  (M : Mem) : Prop :=
  ((p3 ≤ 0) → lb_X12_isKey_53  g M0 a0 p1 p2 p3 p4 p5 post  x6 M) ∧ (¬ (p3 ≤ 0) → lb_X12_isKey_53  g M0 a0 p1 p2 p3 p4 p5 post  (((27 * x6) + (Int32.toInt64 p3)) - 96) M)
set_option maxRecDepth 100000 in
def lb_X12_isKey_15  (g : Gh) (M0 : Mem) (a0 : Nat) (p1 : Int32) (p2 : Int32) (p3 : Int32) (p4 : Int32) (p5 : Int32) (post : Int32 → Mem → Prop)  (x6 : Int64)  (M : Mem) : Prop :=
  ((p2 ≤ 0) → lb_X12_isKey_34  g M0 a0 p1 p2 p3 p4 p5 post  x6 M) ∧ (¬ (p2 ≤ 0) → lb_X12_isKey_34  g M0 a0 p1 p2 p3 p4 p5 post  (((27 * x6) + (Int32.toInt64 p2)) - 96) M)
set_option maxRecDepth 100000 in
def wp_X12_isKey  (g : Gh) (M0 : Mem) (a0 : Nat) (p1 : Int32) (p2 : Int32) (p3 : Int32) (p4 : Int32) (p5 : Int32) (post : Int32 → Mem → Prop) : Prop :=
  okc (gB g) M0 a0 12 ∧ (((p1 ≤ 0) → lb_X12_isKey_15  g M0 a0 p1 p2 p3 p4 p5 post  0 M0) ∧ (¬ (p1 ≤ 0) → lb_X12_isKey_15  g M0 a0 p1 p2 p3 p4 p5 post  ((Int32.toInt64 p1) - 96) M0))
set_option maxHeartbeats 4000000 in
set_option maxRecDepth 100000 in
theorem lt_X12_isKey_95 {l : Launch} {g : Gh} {p : Program} {e : Env} {s : State} {m : MethodId} {args : Array Value} {below : List Frame} {meth : Method} {c : Code} {H : Heap} {locs : List Loc} {ls : Array Slot} {M0 M : Mem} {a0 : Nat} {p1 : Int32} {p2 : Int32} {p3 : Int32} {p4 : Int32} {p5 : Int32} {post : Int32 → Mem → Prop} {x6 : Int64}   (C : Cx g p s m args c cX12_isKey 8 RX12) (hr : meth.sig.returnType = (some .boolean)) (hlk : meth.locks = false) (hn : meth.name = "isKey") (h0 : okc (gB g) M0 a0 12)  (hq : lb_X12_isKey_95  g M0 a0 p1 p2 p3 p4 p5 post  x6 M) (hw : Wd g s M0 M H locs) (hl : lv_has ls 8 [(0, .ref a0), (1, .int p1), (2, .int p2), (3, .int p3), (4, .int p4), (5, .int p5), (6, .long x6)]) : W p l e (rmo 0 0 0) s m args below meth c H locs 0 0 (MQ below (Cq g M0 (pI post)) args s 0 0 (gA g)) (F0 m 95 ls []) := by
  have hx := C.1.1
  have hb := C.1.2.1
  unfold lb_X12_isKey_95 at hq
  refine lv_aload_n hx hb dX12_isKey_95 rfl (lv_at hl 0 rfl) ?_
  refine gfX12_143 C hw hw.2.2.1 h0 dX12_isKey_96 ?_
  refine lv_iconst (v := 2) hx hb dX12_isKey_99 (by decide) ?_
  refine lv_icmp_ne (tgt := 117) hx hb dX12_isKey_100 (by decide) (fun c1 => ?_) (fun c1 => ?_)
  · replace hq := hq.2 c1
    refine lv_iconst (v := 0) hx hb dX12_isKey_117 (by decide) ?_
    exact r_zret C hr hlk hw dX12_isKey_118 (Nat.le_refl _) (Nat.le_refl _) (by decide) ⟨_, rfl, hq⟩
  · replace hq := hq.1 c1
    refine lv_aload_n hx hb dX12_isKey_103 rfl (lv_at hl 0 rfl) ?_
    refine gfX12_163 C hw hw.2.2.1 h0 dX12_isKey_104 ?_
    refine lv_lload hx hb dX12_isKey_107 (lv_at hl 6 rfl) ?_
    refine W.lcmp hx hb dX12_isKey_109 ?_
    refine lv_if_ne (tgt := 117) hx hb dX12_isKey_110 (by decide) (fun c2 => ?_) (fun c2 => ?_)
    · replace hq := hq.2 c2
      refine lv_iconst (v := 0) hx hb dX12_isKey_117 (by decide) ?_
      exact r_zret C hr hlk hw dX12_isKey_118 (Nat.le_refl _) (Nat.le_refl _) (by decide) ⟨_, rfl, hq⟩
    · replace hq := hq.1 c2
      refine lv_iconst (v := 1) hx hb dX12_isKey_113 (by decide) ?_
      refine lv_goto (tgt := 118) hx hb dX12_isKey_114 (by decide) ?_
      exact r_zret C hr hlk hw dX12_isKey_118 (Nat.le_refl _) (Nat.le_refl _) (by decide) ⟨_, rfl, hq⟩
set_option maxHeartbeats 4000000 in
set_option maxRecDepth 100000 in
theorem lt_X12_isKey_74 {l : Launch} {g : Gh} {p : Program} {e : Env} {s : State} {m : MethodId} {args : Array Value} {below : List Frame} {meth : Method} {c : Code} {H : Heap} {locs : List Loc} {ls : Array Slot} {M0 M : Mem} {a0 : Nat} {p1 : Int32} {p2 : Int32} {p3 : Int32} {p4 : Int32} {p5 : Int32} {post : Int32 → Mem → Prop} {x6 : Int64}   (C : Cx g p s m args c cX12_isKey 8 RX12) (hr : meth.sig.returnType = (some .boolean)) (hlk : meth.locks = false) (hn : meth.name = "isKey") (h0 : okc (gB g) M0 a0 12)  (hq : lb_X12_isKey_74  g M0 a0 p1 p2 p3 p4 p5 post  x6 M) (hw : Wd g s M0 M H locs) (hl : lv_has ls 8 [(0, .ref a0), (1, .int p1), (2, .int p2), (3, .int p3), (4, .int p4), (5, .int p5), (6, .long x6)]) : W p l e (rmo 0 0 0) s m args below meth c H locs 0 0 (MQ below (Cq g M0 (pI post)) args s 0 0 (gA g)) (F0 m 74 ls []) := by
  have hx := C.1.1
  have hb := C.1.2.1
  unfold lb_X12_isKey_74 at hq
  refine lv_iload hx hb dX12_isKey_74 (lv_at hl 5 rfl) ?_
  refine lv_if_le (tgt := 95) hx hb dX12_isKey_76 (by decide) (fun c3 => ?_) (fun c3 => ?_)
  · replace hq := hq.1 c3
    exact lt_X12_isKey_95  C hr hlk hn h0  hq hw (lv_sub hl [0, 1, 2, 3, 4, 5, 6] rfl)
  · replace hq := hq.2 c3
    refine lv_ldc2 (v := 27) hx hb C.1.2.2.2.1 (C.1.2.2.2.2 _ w_1393) dX12_isKey_79 ?_
    refine lv_lload hx hb dX12_isKey_82 (lv_at hl 6 rfl) ?_
    refine lv_lmul hx hb dX12_isKey_84 ?_
    refine lv_iload hx hb dX12_isKey_85 (lv_at hl 5 rfl) ?_
    refine lv_i2l (v := (Int32.toInt64 p5)) hx hb dX12_isKey_87 rfl ?_
    refine lv_ladd hx hb dX12_isKey_88 ?_
    refine lv_ldc2 (v := 96) hx hb C.1.2.2.2.1 (C.1.2.2.2.2 _ w_1394) dX12_isKey_89 ?_
    refine lv_lsub hx hb dX12_isKey_92 ?_
    refine lv_lstore (lv' := [(6, .long (((27 * x6) + (Int32.toInt64 p5)) - 96)), (0, .ref a0), (1, .int p1), (2, .int p2), (3, .int p3), (4, .int p4), (5, .int p5)]) hx hb dX12_isKey_93 hl (by decide) rfl (fun ls hl => ?_)
    exact lt_X12_isKey_95  C hr hlk hn h0  hq hw (lv_sub hl [1, 2, 3, 4, 5, 6, 0] rfl)
set_option maxHeartbeats 4000000 in
set_option maxRecDepth 100000 in
theorem lt_X12_isKey_53 {l : Launch} {g : Gh} {p : Program} {e : Env} {s : State} {m : MethodId} {args : Array Value} {below : List Frame} {meth : Method} {c : Code} {H : Heap} {locs : List Loc} {ls : Array Slot} {M0 M : Mem} {a0 : Nat} {p1 : Int32} {p2 : Int32} {p3 : Int32} {p4 : Int32} {p5 : Int32} {post : Int32 → Mem → Prop} {x6 : Int64}   (C : Cx g p s m args c cX12_isKey 8 RX12) (hr : meth.sig.returnType = (some .boolean)) (hlk : meth.locks = false) (hn : meth.name = "isKey") (h0 : okc (gB g) M0 a0 12)  (hq : lb_X12_isKey_53  g M0 a0 p1 p2 p3 p4 p5 post  x6 M) (hw : Wd g s M0 M H locs) (hl : lv_has ls 8 [(0, .ref a0), (1, .int p1), (2, .int p2), (3, .int p3), (4, .int p4), (5, .int p5), (6, .long x6)]) : W p l e (rmo 0 0 0) s m args below meth c H locs 0 0 (MQ below (Cq g M0 (pI post)) args s 0 0 (gA g)) (F0 m 53 ls []) := by
  have hx := C.1.1
  have hb := C.1.2.1
  unfold lb_X12_isKey_53 at hq
  refine lv_iload hx hb dX12_isKey_53 (lv_at hl 4 rfl) ?_
  refine lv_if_le (tgt := 74) hx hb dX12_isKey_55 (by decide) (fun c4 => ?_) (fun c4 => ?_)
  · replace hq := hq.1 c4
    exact lt_X12_isKey_74  C hr hlk hn h0  hq hw (lv_sub hl [0, 1, 2, 3, 4, 5, 6] rfl)
  · replace hq := hq.2 c4
    refine lv_ldc2 (v := 27) hx hb C.1.2.2.2.1 (C.1.2.2.2.2 _ w_1393) dX12_isKey_58 ?_
    refine lv_lload hx hb dX12_isKey_61 (lv_at hl 6 rfl) ?_
    refine lv_lmul hx hb dX12_isKey_63 ?_
    refine lv_iload hx hb dX12_isKey_64 (lv_at hl 4 rfl) ?_
    refine lv_i2l (v := (Int32.toInt64 p4)) hx hb dX12_isKey_66 rfl ?_
    refine lv_ladd hx hb dX12_isKey_67 ?_
    refine lv_ldc2 (v := 96) hx hb C.1.2.2.2.1 (C.1.2.2.2.2 _ w_1394) dX12_isKey_68 ?_
    refine lv_lsub hx hb dX12_isKey_71 ?_
    refine lv_lstore (lv' := [(6, .long (((27 * x6) + (Int32.toInt64 p4)) - 96)), (0, .ref a0), (1, .int p1), (2, .int p2), (3, .int p3), (4, .int p4), (5, .int p5)]) hx hb dX12_isKey_72 hl (by decide) rfl (fun ls hl => ?_)
    exact lt_X12_isKey_74  C hr hlk hn h0  hq hw (lv_sub hl [1, 2, 3, 4, 5, 6, 0] rfl)
set_option maxHeartbeats 4000000 in
set_option maxRecDepth 100000 in
theorem lt_X12_isKey_34 {l : Launch} {g : Gh} {p : Program} {e : Env} {s : State} {m : MethodId} {args : Array Value} {below : List Frame} {meth : Method} {c : Code} {H : Heap} {locs : List Loc} {ls : Array Slot} {M0 M : Mem} {a0 : Nat} {p1 : Int32} {p2 : Int32} {p3 : Int32} {p4 : Int32} {p5 : Int32} {post : Int32 → Mem → Prop} {x6 : Int64}   (C : Cx g p s m args c cX12_isKey 8 RX12) (hr : meth.sig.returnType = (some .boolean)) (hlk : meth.locks = false) (hn : meth.name = "isKey") (h0 : okc (gB g) M0 a0 12)  (hq : lb_X12_isKey_34  g M0 a0 p1 p2 p3 p4 p5 post  x6 M) (hw : Wd g s M0 M H locs) (hl : lv_has ls 8 [(0, .ref a0), (1, .int p1), (2, .int p2), (3, .int p3), (4, .int p4), (5, .int p5), (6, .long x6)]) : W p l e (rmo 0 0 0) s m args below meth c H locs 0 0 (MQ below (Cq g M0 (pI post)) args s 0 0 (gA g)) (F0 m 34 ls []) := by
  have hx := C.1.1
  have hb := C.1.2.1
  unfold lb_X12_isKey_34 at hq
  refine lv_iload_n hx hb dX12_isKey_34 rfl (lv_at hl 3 rfl) ?_
  refine lv_if_le (tgt := 53) hx hb dX12_isKey_35 (by decide) (fun c5 => ?_) (fun c5 => ?_)
  · replace hq := hq.1 c5
    exact lt_X12_isKey_53  C hr hlk hn h0  hq hw (lv_sub hl [0, 1, 2, 3, 4, 5, 6] rfl)
  · replace hq := hq.2 c5
    refine lv_ldc2 (v := 27) hx hb C.1.2.2.2.1 (C.1.2.2.2.2 _ w_1393) dX12_isKey_38 ?_
    refine lv_lload hx hb dX12_isKey_41 (lv_at hl 6 rfl) ?_
    refine lv_lmul hx hb dX12_isKey_43 ?_
    refine lv_iload_n hx hb dX12_isKey_44 rfl (lv_at hl 3 rfl) ?_
    refine lv_i2l (v := (Int32.toInt64 p3)) hx hb dX12_isKey_45 rfl ?_
    refine lv_ladd hx hb dX12_isKey_46 ?_
    refine lv_ldc2 (v := 96) hx hb C.1.2.2.2.1 (C.1.2.2.2.2 _ w_1394) dX12_isKey_47 ?_
    refine lv_lsub hx hb dX12_isKey_50 ?_
    refine lv_lstore (lv' := [(6, .long (((27 * x6) + (Int32.toInt64 p3)) - 96)), (0, .ref a0), (1, .int p1), (2, .int p2), (3, .int p3), (4, .int p4), (5, .int p5)]) hx hb dX12_isKey_51 hl (by decide) rfl (fun ls hl => ?_)
    exact lt_X12_isKey_53  C hr hlk hn h0  hq hw (lv_sub hl [1, 2, 3, 4, 5, 6, 0] rfl)
set_option maxHeartbeats 4000000 in
set_option maxRecDepth 100000 in
theorem lt_X12_isKey_15 {l : Launch} {g : Gh} {p : Program} {e : Env} {s : State} {m : MethodId} {args : Array Value} {below : List Frame} {meth : Method} {c : Code} {H : Heap} {locs : List Loc} {ls : Array Slot} {M0 M : Mem} {a0 : Nat} {p1 : Int32} {p2 : Int32} {p3 : Int32} {p4 : Int32} {p5 : Int32} {post : Int32 → Mem → Prop} {x6 : Int64}   (C : Cx g p s m args c cX12_isKey 8 RX12) (hr : meth.sig.returnType = (some .boolean)) (hlk : meth.locks = false) (hn : meth.name = "isKey") (h0 : okc (gB g) M0 a0 12)  (hq : lb_X12_isKey_15  g M0 a0 p1 p2 p3 p4 p5 post  x6 M) (hw : Wd g s M0 M H locs) (hl : lv_has ls 8 [(0, .ref a0), (1, .int p1), (2, .int p2), (3, .int p3), (4, .int p4), (5, .int p5), (6, .long x6)]) : W p l e (rmo 0 0 0) s m args below meth c H locs 0 0 (MQ below (Cq g M0 (pI post)) args s 0 0 (gA g)) (F0 m 15 ls []) := by
  have hx := C.1.1
  have hb := C.1.2.1
  unfold lb_X12_isKey_15 at hq
  refine lv_iload_n hx hb dX12_isKey_15 rfl (lv_at hl 2 rfl) ?_
  refine lv_if_le (tgt := 34) hx hb dX12_isKey_16 (by decide) (fun c6 => ?_) (fun c6 => ?_)
  · replace hq := hq.1 c6
    exact lt_X12_isKey_34  C hr hlk hn h0  hq hw (lv_sub hl [0, 1, 2, 3, 4, 5, 6] rfl)
  · replace hq := hq.2 c6
    refine lv_ldc2 (v := 27) hx hb C.1.2.2.2.1 (C.1.2.2.2.2 _ w_1393) dX12_isKey_19 ?_
    refine lv_lload hx hb dX12_isKey_22 (lv_at hl 6 rfl) ?_
    refine lv_lmul hx hb dX12_isKey_24 ?_
    refine lv_iload_n hx hb dX12_isKey_25 rfl (lv_at hl 2 rfl) ?_
    refine lv_i2l (v := (Int32.toInt64 p2)) hx hb dX12_isKey_26 rfl ?_
    refine lv_ladd hx hb dX12_isKey_27 ?_
    refine lv_ldc2 (v := 96) hx hb C.1.2.2.2.1 (C.1.2.2.2.2 _ w_1394) dX12_isKey_28 ?_
    refine lv_lsub hx hb dX12_isKey_31 ?_
    refine lv_lstore (lv' := [(6, .long (((27 * x6) + (Int32.toInt64 p2)) - 96)), (0, .ref a0), (1, .int p1), (2, .int p2), (3, .int p3), (4, .int p4), (5, .int p5)]) hx hb dX12_isKey_32 hl (by decide) rfl (fun ls hl => ?_)
    exact lt_X12_isKey_34  C hr hlk hn h0  hq hw (lv_sub hl [1, 2, 3, 4, 5, 6, 0] rfl)
set_option maxHeartbeats 4000000 in
set_option maxRecDepth 100000 in
theorem ct_X12_isKey {l : Launch} {g : Gh} {M0 : Mem} {a0 : Nat} {p1 : Int32} {p2 : Int32} {p3 : Int32} {p4 : Int32} {p5 : Int32} {post : Int32 → Mem → Prop}  (hq : wp_X12_isKey  g M0 a0 p1 p2 p3 p4 p5 post) : Ct l g yX12_isKey cX12_isKey 8 (some .boolean) 0 0 0 [.ref a0, .int p1, .int p2, .int p3, .int p4, .int p5] M0 (pI post) := by
  unfold wp_X12_isKey at hq
  obtain ⟨h0, hq⟩ := hq
  refine Ct.of (by decide) (Nat.le_of_ble_eq_true rfl) ?_
  intro p e s m below meth c ls C hr hlk hn hl hw
  have hx := C.1.1
  have hb := C.1.2.1
  have hl : lv_has ls 8 [(0, .ref a0), (1, .int p1), (2, .int p2), (3, .int p3), (4, .int p4), (5, .int p5)] := hl
  refine lv_lconst (v := 0) hx hb dX12_isKey_0 (by decide) ?_
  refine lv_lstore (lv' := [(6, .long 0), (0, .ref a0), (1, .int p1), (2, .int p2), (3, .int p3), (4, .int p4), (5, .int p5)]) hx hb dX12_isKey_1 hl (by decide) rfl (fun ls hl => ?_)
  refine lv_iload_n hx hb dX12_isKey_3 rfl (lv_at hl 2 rfl) ?_
  refine lv_if_le (tgt := 15) hx hb dX12_isKey_4 (by decide) (fun c7 => ?_) (fun c7 => ?_)
  · replace hq := hq.1 c7
    exact lt_X12_isKey_15  C hr hlk hn h0  hq hw (lv_sub hl [1, 2, 3, 4, 5, 6, 0] rfl)
  · replace hq := hq.2 c7
    refine lv_iload_n hx hb dX12_isKey_7 rfl (lv_at hl 2 rfl) ?_
    refine lv_i2l (v := (Int32.toInt64 p1)) hx hb dX12_isKey_8 rfl ?_
    refine lv_ldc2 (v := 96) hx hb C.1.2.2.2.1 (C.1.2.2.2.2 _ w_1394) dX12_isKey_9 ?_
    refine lv_lsub hx hb dX12_isKey_12 ?_
    refine lv_lstore (lv' := [(6, .long ((Int32.toInt64 p1) - 96)), (0, .ref a0), (1, .int p1), (2, .int p2), (3, .int p3), (4, .int p4), (5, .int p5)]) hx hb dX12_isKey_13 hl (by decide) rfl (fun ls hl => ?_)
    exact lt_X12_isKey_15  C hr hlk hn h0  hq hw (lv_sub hl [1, 2, 3, 4, 5, 6, 0] rfl)

set_option maxRecDepth 100000 in
def wp_X12_number  (g : Gh) (M0 : Mem) (a0 : Nat) (p1 : Int32) (p2 : Int32) (post : Int32 → Mem → Prop) : Prop :=
  okc (gB g) M0 a0 12 ∧ ((((mI M0 a0 6) = 3) → (((lg_cmp (mJ M0 a0 8) (Int32.toInt64 p1)) < 0) → wp_X12_none g M0 a0 2 (fun v3 M4 => post v3 M4)) ∧ (¬ ((lg_cmp (mJ M0 a0 8) (Int32.toInt64 p1)) < 0) → (((lg_cmp (mJ M0 a0 8) (Int32.toInt64 p2)) ≤ 0) → wp_X12_go g M0 a0 0 (fun M7 => post (Int64.toInt32 (mJ M0 a0 8)) M7)) ∧ (¬ ((lg_cmp (mJ M0 a0 8) (Int32.toInt64 p2)) ≤ 0) → wp_X12_none g M0 a0 2 (fun v8 M9 => post v8 M9)))) ∧ (¬ ((mI M0 a0 6) = 3) → wp_X12_none g M0 a0 1 (fun v10 M11 => post v10 M11)))
set_option maxHeartbeats 4000000 in
set_option maxRecDepth 100000 in
theorem ct_X12_number {l : Launch} {g : Gh} {M0 : Mem} {a0 : Nat} {p1 : Int32} {p2 : Int32} {post : Int32 → Mem → Prop}  (hq : wp_X12_number  g M0 a0 p1 p2 post) : Ct l g yX12_number cX12_number 4 (some .int) 3 0 0 [.ref a0, .int p1, .int p2] M0 (pI post) := by
  unfold wp_X12_number at hq
  obtain ⟨h0, hq⟩ := hq
  refine Ct.of (by decide) (Nat.le_of_ble_eq_true rfl) ?_
  intro p e s m below meth c ls C hr hlk hn hl hw
  have hx := C.1.1
  have hb := C.1.2.1
  have hl : lv_has ls 4 [(0, .ref a0), (1, .int p1), (2, .int p2)] := hl
  refine lv_aload_n hx hb dX12_number_0 rfl (lv_at hl 0 rfl) ?_
  refine gfX12_143 C hw hw.2.2.1 h0 dX12_number_1 ?_
  refine lv_iconst (v := 3) hx hb dX12_number_4 (by decide) ?_
  refine lv_icmp_eq (tgt := 14) hx hb dX12_number_5 (by decide) (fun c1 => ?_) (fun c1 => ?_)
  · replace hq := hq.1 c1
    refine lv_aload_n hx hb dX12_number_14 rfl (lv_at hl 0 rfl) ?_
    refine gfX12_163 C hw hw.2.2.1 h0 dX12_number_15 ?_
    refine lv_iload_n hx hb dX12_number_18 rfl (lv_at hl 1 rfl) ?_
    refine lv_i2l (v := (Int32.toInt64 p1)) hx hb dX12_number_19 rfl ?_
    refine W.lcmp hx hb dX12_number_20 ?_
    refine lv_if_lt (tgt := 34) hx hb dX12_number_21 (by decide) (fun c2 => ?_) (fun c2 => ?_)
    · replace hq := hq.1 c2
      refine lv_aload_n hx hb dX12_number_34 rfl (lv_at hl 0 rfl) ?_
      refine lv_iconst (v := 2) hx hb dX12_number_35 (by decide) ?_
      refine r_callV (T := TX12) (N := 67) (ci := 12) (index := 216) (n := 1) (d2 := 1) (mc := 0) (ms := 0) (As := [.int 2]) (rest := []) C hw (ct_X12_none hq) kvX12_216 hq.1 (by decide) rfl ⟨by decide, by decide⟩ ⟨by decide, by decide⟩ rfl hl.1 rfl (Nat.le_of_ble_eq_true rfl) dX12_number_36 (fun r M4 H locs hp hle hw => ?_)
      obtain ⟨v3, rfl, hq⟩ := hp
      refine W.eq (g2 := F0 m 39 ls [.int v3]) rfl ?_
      exact r_iret C hr hlk hw dX12_number_39 (Nat.le_refl _) (Nat.le_refl _) ⟨_, rfl, hq⟩
    · replace hq := hq.2 c2
      refine lv_aload_n hx hb dX12_number_24 rfl (lv_at hl 0 rfl) ?_
      refine gfX12_163 C hw hw.2.2.1 h0 dX12_number_25 ?_
      refine lv_iload_n hx hb dX12_number_28 rfl (lv_at hl 2 rfl) ?_
      refine lv_i2l (v := (Int32.toInt64 p2)) hx hb dX12_number_29 rfl ?_
      refine W.lcmp hx hb dX12_number_30 ?_
      refine lv_if_le (tgt := 40) hx hb dX12_number_31 (by decide) (fun c5 => ?_) (fun c5 => ?_)
      · replace hq := hq.1 c5
        refine lv_aload_n hx hb dX12_number_40 rfl (lv_at hl 0 rfl) ?_
        refine gfX12_163 C hw hw.2.2.1 h0 dX12_number_41 ?_
        refine lv_l2i (v := (Int64.toInt32 (mJ M0 a0 8))) hx hb dX12_number_44 rfl ?_
        refine lv_istore_n (lv' := [(3, .int (Int64.toInt32 (mJ M0 a0 8))), (0, .ref a0), (1, .int p1), (2, .int p2)]) hx hb dX12_number_45 rfl hl (by decide) rfl (fun ls hl => ?_)
        refine lv_aload_n hx hb dX12_number_46 rfl (lv_at hl 1 rfl) ?_
        refine lv_iconst (v := 0) hx hb dX12_number_47 (by decide) ?_
        refine r_callV (T := TX12) (N := 67) (ci := 12) (index := 202) (n := 1) (d2 := 2) (mc := 0) (ms := 0) (As := [.int 0]) (rest := []) C hw (ct_X12_go hq) kvX12_202 hq.1 (by decide) rfl ⟨by decide, by decide⟩ ⟨by decide, by decide⟩ rfl hl.1 rfl (Nat.le_of_ble_eq_true rfl) dX12_number_48 (fun r M7 H locs hp hle hw => ?_)
        obtain ⟨rfl, hq⟩ := hp
        refine W.eq (g2 := F0 m 51 ls []) rfl ?_
        refine lv_iload_n hx hb dX12_number_51 rfl (lv_at hl 0 rfl) ?_
        exact r_iret C hr hlk hw dX12_number_52 (Nat.le_refl _) (Nat.le_refl _) ⟨_, rfl, hq⟩
      · replace hq := hq.2 c5
        refine lv_aload_n hx hb dX12_number_34 rfl (lv_at hl 0 rfl) ?_
        refine lv_iconst (v := 2) hx hb dX12_number_35 (by decide) ?_
        refine r_callV (T := TX12) (N := 67) (ci := 12) (index := 216) (n := 1) (d2 := 1) (mc := 0) (ms := 0) (As := [.int 2]) (rest := []) C hw (ct_X12_none hq) kvX12_216 hq.1 (by decide) rfl ⟨by decide, by decide⟩ ⟨by decide, by decide⟩ rfl hl.1 rfl (Nat.le_of_ble_eq_true rfl) dX12_number_36 (fun r M9 H locs hp hle hw => ?_)
        obtain ⟨v8, rfl, hq⟩ := hp
        refine W.eq (g2 := F0 m 39 ls [.int v8]) rfl ?_
        exact r_iret C hr hlk hw dX12_number_39 (Nat.le_refl _) (Nat.le_refl _) ⟨_, rfl, hq⟩
  · replace hq := hq.2 c1
    refine lv_aload_n hx hb dX12_number_8 rfl (lv_at hl 0 rfl) ?_
    refine lv_iconst (v := 1) hx hb dX12_number_9 (by decide) ?_
    refine r_callV (T := TX12) (N := 67) (ci := 12) (index := 216) (n := 1) (d2 := 1) (mc := 0) (ms := 0) (As := [.int 1]) (rest := []) C hw (ct_X12_none hq) kvX12_216 hq.1 (by decide) rfl ⟨by decide, by decide⟩ ⟨by decide, by decide⟩ rfl hl.1 rfl (Nat.le_of_ble_eq_true rfl) dX12_number_10 (fun r M11 H locs hp hle hw => ?_)
    obtain ⟨v10, rfl, hq⟩ := hp
    refine W.eq (g2 := F0 m 13 ls [.int v10]) rfl ?_
    exact r_iret C hr hlk hw dX12_number_13 (Nat.le_refl _) (Nat.le_refl _) ⟨_, rfl, hq⟩

set_option maxRecDepth 100000 in
def lb_X12_readLaw_322  (g : Gh) (M0 : Mem) (a0 : Nat) (post : Int32 → Mem → Prop)  (x1 : Int32)  (M : Mem) : Prop :=
  ∀ M1, M1 = uI M a0 39 x1 → (post 1 M1)
set_option maxRecDepth 100000 in
def lb_X12_readLaw_301  (g : Gh) (M0 : Mem) (a0 : Nat) (post : Int32 → Mem → Prop)    (M : Mem) : Prop :=
  wp_X12_bad g M a0 1 (fun v3 M4 => (v3 = 0 ∨ v3 = 1) ∧ (post v3 M4))
set_option maxRecDepth 100000 in
def lb_X12_readLaw_292  (g : Gh) (M0 : Mem) (a0 : Nat) (post : Int32 → Mem → Prop) (bk2 : Int32 × Mem → Prop) (x1 : Int32)  (M : Mem) : Prop :=
  wp_X12_isSign g M a0 59 (fun v6 M7 => ((v6 = 0) → lb_X12_readLaw_301  g M0 a0 post   M7) ∧ (¬ (v6 = 0) → wp_X12_go g M7 a0 0 (fun M10 => (((mI M10 a0 6) = 0) → lb_X12_readLaw_322  g M0 a0 post  (x1 + 1) M10) ∧ (¬ ((mI M10 a0 6) = 0) → bk2 ((x1 + 1), M10)))))
set_option maxRecDepth 100000 in
def lb_X12_readLaw_238  (g : Gh) (M0 : Mem) (a0 : Nat) (post : Int32 → Mem → Prop) (bk2 : Int32 × Mem → Prop) (x1 : Int32)  (M : Mem) : Prop :=
  ∃ q12, mR M a0 37 = some q12 ∧ (okc (gB g) M0 q12 14 ∧ (vp_in x1 (mN M0 q12) ∧ (∀ M16, M16 = uI M q12 (Int32.toNatClampNeg x1) 0 → (wp_X12_isKey g M16 a0 119 114 111 110 103 (fun v18 M19 => ((v18 = 0) → lb_X12_readLaw_292  g M0 a0 post bk2 x1 M19) ∧ (¬ (v18 = 0) → wp_X12_go g M19 a0 0 (fun M22 => ∃ q23, mR M22 a0 37 = some q23 ∧ (wp_X12_number g M22 a0 0 20 (fun v25 M26 => okc (gB g) M0 q23 14 ∧ (vp_in x1 (mN M0 q23) ∧ (∀ M29, M29 = uI M26 q23 (Int32.toNatClampNeg x1) v25 → (∃ q31, mR M29 a0 37 = some q31 ∧ (okc (gB g) M0 q31 14 ∧ (vp_in x1 (mN M0 q31) ∧ ((((mI M29 q31 (Int32.toNatClampNeg x1)) = (-1)) → post 0 M29) ∧ (¬ ((mI M29 q31 (Int32.toNatClampNeg x1)) = (-1)) → lb_X12_readLaw_292  g M0 a0 post bk2 x1 M29))))))))))))))))
set_option maxRecDepth 100000 in
def lb_X12_readLaw_140  (g : Gh) (M0 : Mem) (a0 : Nat) (post : Int32 → Mem → Prop)    (M : Mem) : Prop :=
  wp_X12_bad g M a0 1 (fun v36 M37 => (v36 = 0 ∨ v36 = 1) ∧ (post v36 M37))
set_option maxRecDepth 100000 in
def lb_X12_readLaw_118  (g : Gh) (M0 : Mem) (a0 : Nat) (post : Int32 → Mem → Prop) (bk2 : Int32 × Mem → Prop) (x1 : Int32)  (M : Mem) : Prop :=
  wp_X12_go g M a0 0 (fun M40 => wp_X12_isKey g M40 a0 114 105 103 104 116 (fun v41 M42 => ((v41 = 0) → lb_X12_readLaw_140  g M0 a0 post   M42) ∧ (¬ (v41 = 0) → wp_X12_go g M42 a0 0 (fun M45 => ∃ q46, mR M45 a0 35 = some q46 ∧ (wp_X12_number g M45 a0 0 20 (fun v48 M49 => okc (gB g) M0 q46 14 ∧ (vp_in x1 (mN M0 q46) ∧ (∀ M52, M52 = uI M49 q46 (Int32.toNatClampNeg x1) v48 → (∃ q54, mR M52 a0 35 = some q54 ∧ (okc (gB g) M0 q54 14 ∧ (vp_in x1 (mN M0 q54) ∧ ((((mI M52 q54 (Int32.toNatClampNeg x1)) = (-1)) → post 0 M52) ∧ (¬ ((mI M52 q54 (Int32.toNatClampNeg x1)) = (-1)) → ∃ q59, mR M52 a0 36 = some q59 ∧ (okc (gB g) M0 q59 14 ∧ (vp_in x1 (mN M0 q59) ∧ (∀ M63, M63 = uI M52 q59 (Int32.toNatClampNeg x1) (-1) → (∃ q65, mR M63 a0 38 = some q65 ∧ (okc (gB g) M0 q65 17 ∧ (vp_in x1 (mN M0 q65) ∧ ((((mI M63 q65 (Int32.toNatClampNeg x1)) = 0) → wp_X12_isKey g M63 a0 112 97 115 115 0 (fun v70 M71 => ((v70 = 0) → lb_X12_readLaw_238  g M0 a0 post bk2 x1 M71) ∧ (¬ (v70 = 0) → wp_X12_go g M71 a0 0 (fun M74 => ∃ q75, mR M74 a0 36 = some q75 ∧ (wp_X12_number g M74 a0 0 20 (fun v77 M78 => okc (gB g) M0 q75 14 ∧ (vp_in x1 (mN M0 q75) ∧ (∀ M81, M81 = uI M78 q75 (Int32.toNatClampNeg x1) v77 → (∃ q83, mR M81 a0 36 = some q83 ∧ (okc (gB g) M0 q83 14 ∧ (vp_in x1 (mN M0 q83) ∧ ((((mI M81 q83 (Int32.toNatClampNeg x1)) = (-1)) → post 0 M81) ∧ (¬ ((mI M81 q83 (Int32.toNatClampNeg x1)) = (-1)) → lb_X12_readLaw_238  g M0 a0 post bk2 x1 M81))))))))))))) ∧ (¬ ((mI M63 q65 (Int32.toNatClampNeg x1)) = 0) → lb_X12_readLaw_238  g M0 a0 post bk2 x1 M63)))))))))))))))))))))
set_option maxRecDepth 100000 in
def lb_X12_readLaw_112  (g : Gh) (M0 : Mem) (a0 : Nat) (post : Int32 → Mem → Prop)    (M : Mem) : Prop :=
  wp_X12_bad g M a0 1 (fun v88 M89 => (v88 = 0 ∨ v88 = 1) ∧ (post v88 M89))
set_option maxRecDepth 100000 in
def lb_X12_readLaw_31  (g : Gh) (M0 : Mem) (a0 : Nat) (post : Int32 → Mem → Prop)    (M : Mem) : Prop :=
  wp_X12_bad g M a0 3 (fun v91 M92 => (v91 = 0 ∨ v91 = 1) ∧ (post v91 M92))
set_option maxRecDepth 100000 in
def lb_X12_readLaw_19  (g : Gh) (M0 : Mem) (a0 : Nat) (post : Int32 → Mem → Prop)    (M : Mem) : Prop :=
  wp_X12_bad g M a0 1 (fun v94 M95 => (v94 = 0 ∨ v94 = 1) ∧ (post v94 M95))
set_option maxRecDepth 100000 in
def bd_X12_readLaw_2  (g : Gh) (M0 : Mem) (a0 : Nat) (post : Int32 → Mem → Prop)  (bk2 : Int32 × Mem → Prop) (x1 : Int32)  (M : Mem) : Prop :=
  wp_X12_isKey g M a0 114 111 117 110 100 (fun v97 M98 => ((v97 = 0) → lb_X12_readLaw_19  g M0 a0 post   M98) ∧ (¬ (v97 = 0) → ((x1 = 6) → lb_X12_readLaw_31  g M0 a0 post   M98) ∧ (¬ (x1 = 6) → wp_X12_go g M98 a0 0 (fun M102 => ∃ q103, mR M102 a0 34 = some q103 ∧ (wp_X12_number g M102 a0 1 8 (fun v105 M106 => okc (gB g) M0 q103 14 ∧ (vp_in x1 (mN M0 q103) ∧ (∀ M109, M109 = uI M106 q103 (Int32.toNatClampNeg x1) v105 → (∃ q111, mR M109 a0 34 = some q111 ∧ (okc (gB g) M0 q111 14 ∧ (vp_in x1 (mN M0 q111) ∧ ((((mI M109 q111 (Int32.toNatClampNeg x1)) = (-1)) → post 0 M109) ∧ (¬ ((mI M109 q111 (Int32.toNatClampNeg x1)) = (-1)) → ∃ q116, mR M109 a0 38 = some q116 ∧ (wp_X12_isKey g M109 a0 98 117 122 122 0 (fun v118 M119 => okc (gB g) M0 q116 17 ∧ (vp_in x1 (mN M0 q116) ∧ (∀ M122, M122 = uI M119 q116 (Int32.toNatClampNeg x1) (vp_nar .boolean v118) → (∃ q124, mR M122 a0 38 = some q124 ∧ (okc (gB g) M0 q124 17 ∧ (vp_in x1 (mN M0 q124) ∧ ((((mI M122 q124 (Int32.toNatClampNeg x1)) = 0) → wp_X12_isKey g M122 a0 116 117 114 110 115 (fun v129 M130 => ((v129 = 0) → lb_X12_readLaw_112  g M0 a0 post   M130) ∧ (¬ (v129 = 0) → lb_X12_readLaw_118  g M0 a0 post bk2 x1 M130))) ∧ (¬ ((mI M122 q124 (Int32.toNatClampNeg x1)) = 0) → lb_X12_readLaw_118  g M0 a0 post bk2 x1 M122))))))))))))))))))))))
set_option maxRecDepth 100000 in
def wp_X12_readLaw  (g : Gh) (M0 : Mem) (a0 : Nat) (post : Int32 → Mem → Prop) : Prop :=
  okc (gB g) M0 a0 12 ∧ ((∃ n : Nat, lfp (fun bk z => bd_X12_readLaw_2  g M0 a0 post  bk z.1 z.2) n (0, M0)))
set_option maxHeartbeats 4000000 in
set_option maxRecDepth 100000 in
theorem lt_X12_readLaw_322 {l : Launch} {g : Gh} {p : Program} {e : Env} {s : State} {m : MethodId} {args : Array Value} {below : List Frame} {meth : Method} {c : Code} {H : Heap} {locs : List Loc} {ls : Array Slot} {M0 M : Mem} {a0 : Nat} {post : Int32 → Mem → Prop} {x1 : Int32}   (C : Cx g p s m args c cX12_readLaw 2 RX12) (hr : meth.sig.returnType = (some .boolean)) (hlk : meth.locks = false) (hn : meth.name = "readLaw") (h0 : okc (gB g) M0 a0 12)  (hq : lb_X12_readLaw_322  g M0 a0 post  x1 M) (hw : Wd g s M0 M H locs) (hl : lv_has ls 2 [(0, .ref a0), (1, .int x1)]) : W p l e (rmo 4 0 0) s m args below meth c H locs 0 0 (MQ below (Cq g M0 (pI post)) args s 0 0 (gA g)) (F0 m 322 ls []) := by
  have hx := C.1.1
  have hb := C.1.2.1
  unfold lb_X12_readLaw_322 at hq
  refine lv_aload_n hx hb dX12_readLaw_322 rfl (lv_at hl 0 rfl) ?_
  refine lv_iload_n hx hb dX12_readLaw_323 rfl (lv_at hl 1 rfl) ?_
  refine pfX12_264 C hw hw.2.2.1 h0 dX12_readLaw_324 (fun H locs hw => ?_)
  generalize e2 : uI M a0 39 x1 = M1 at hw
  replace hq := hq M1 e2.symm
  refine lv_iconst (v := 1) hx hb dX12_readLaw_327 (by decide) ?_
  exact r_zret C hr hlk hw dX12_readLaw_328 (Nat.le_refl _) (Nat.le_refl _) (by decide) ⟨_, rfl, hq⟩
set_option maxHeartbeats 4000000 in
set_option maxRecDepth 100000 in
theorem lt_X12_readLaw_301 {l : Launch} {g : Gh} {p : Program} {e : Env} {s : State} {m : MethodId} {args : Array Value} {below : List Frame} {meth : Method} {c : Code} {H : Heap} {locs : List Loc} {ls : Array Slot} {M0 M : Mem} {a0 : Nat} {post : Int32 → Mem → Prop}    (C : Cx g p s m args c cX12_readLaw 2 RX12) (hr : meth.sig.returnType = (some .boolean)) (hlk : meth.locks = false) (hn : meth.name = "readLaw") (h0 : okc (gB g) M0 a0 12)  (hq : lb_X12_readLaw_301  g M0 a0 post   M) (hw : Wd g s M0 M H locs) (hl : lv_has ls 2 [(0, .ref a0)]) : W p l e (rmo 4 0 0) s m args below meth c H locs 0 0 (MQ below (Cq g M0 (pI post)) args s 0 0 (gA g)) (F0 m 301 ls []) := by
  have hx := C.1.1
  have hb := C.1.2.1
  unfold lb_X12_readLaw_301 at hq
  refine lv_aload_n hx hb dX12_readLaw_301 rfl (lv_at hl 0 rfl) ?_
  refine lv_iconst (v := 1) hx hb dX12_readLaw_302 (by decide) ?_
  refine r_callV (T := TX12) (N := 67) (ci := 12) (index := 213) (n := 1) (d2 := 0) (mc := 0) (ms := 0) (As := [.int 1]) (rest := []) C hw (ct_X12_bad hq) kvX12_213 hq.1 (by decide) rfl ⟨by decide, by decide⟩ ⟨by decide, by decide⟩ rfl hl.1 rfl (Nat.le_of_ble_eq_true rfl) dX12_readLaw_303 (fun r M4 H locs hp hle hw => ?_)
  obtain ⟨v3, rfl, hq⟩ := hp
  refine W.eq (g2 := F0 m 306 ls [.int v3]) rfl ?_
  obtain ⟨h5, hq⟩ := hq
  exact r_zret C hr hlk hw dX12_readLaw_306 (Nat.le_refl _) (Nat.le_refl _) h5 ⟨_, rfl, hq⟩
set_option maxHeartbeats 4000000 in
set_option maxRecDepth 100000 in
theorem lt_X12_readLaw_292 {l : Launch} {g : Gh} {p : Program} {e : Env} {s : State} {m : MethodId} {args : Array Value} {below : List Frame} {meth : Method} {c : Code} {H : Heap} {locs : List Loc} {ls : Array Slot} {M0 M : Mem} {a0 : Nat} {post : Int32 → Mem → Prop} {x1 : Int32}   (C : Cx g p s m args c cX12_readLaw 2 RX12) (hr : meth.sig.returnType = (some .boolean)) (hlk : meth.locks = false) (hn : meth.name = "readLaw") (h0 : okc (gB g) M0 a0 12) {bk2 : Int32 × Mem → Prop} (hk2 : ∀ (x1 : Int32) (M : Mem) (H : Heap) (locs : List Loc) (ls : Array Slot), bk2 (x1, M) → Wd g s M0 M H locs → lv_has ls 2 [(0, .ref a0), (1, .int x1)] → W p l e (rmo 4 0 0) s m args below meth c H locs 0 0 (MQ below (Cq g M0 (pI post)) args s 0 0 (gA g)) (F0 m 2 ls [])) (hq : lb_X12_readLaw_292  g M0 a0 post bk2 x1 M) (hw : Wd g s M0 M H locs) (hl : lv_has ls 2 [(0, .ref a0), (1, .int x1)]) : W p l e (rmo 4 0 0) s m args below meth c H locs 0 0 (MQ below (Cq g M0 (pI post)) args s 0 0 (gA g)) (F0 m 292 ls []) := by
  have hx := C.1.1
  have hb := C.1.2.1
  unfold lb_X12_readLaw_292 at hq
  refine lv_aload_n hx hb dX12_readLaw_292 rfl (lv_at hl 0 rfl) ?_
  refine lv_bipush (v := 59) hx hb dX12_readLaw_293 (by decide) ?_
  refine r_callV (T := TX12) (N := 67) (ci := 12) (index := 187) (n := 1) (d2 := 0) (mc := 0) (ms := 0) (As := [.int 59]) (rest := []) C hw (ct_X12_isSign hq) kvX12_187 hq.1 (by decide) rfl ⟨by decide, by decide⟩ ⟨by decide, by decide⟩ rfl hl.1 rfl (Nat.le_of_ble_eq_true rfl) dX12_readLaw_295 (fun r M7 H locs hp hle hw => ?_)
  obtain ⟨v6, rfl, hq⟩ := hp
  refine W.eq (g2 := F0 m 298 ls [.int v6]) rfl ?_
  refine lv_if_ne (tgt := 307) hx hb dX12_readLaw_298 (by decide) (fun c8 => ?_) (fun c8 => ?_)
  · replace hq := hq.2 c8
    refine lv_aload_n hx hb dX12_readLaw_307 rfl (lv_at hl 0 rfl) ?_
    refine lv_iconst (v := 0) hx hb dX12_readLaw_308 (by decide) ?_
    refine r_callV (T := TX12) (N := 67) (ci := 12) (index := 202) (n := 1) (d2 := 2) (mc := 0) (ms := 0) (As := [.int 0]) (rest := []) C hw (ct_X12_go hq) kvX12_202 hq.1 (by decide) rfl ⟨by decide, by decide⟩ ⟨by decide, by decide⟩ rfl hl.1 rfl (Nat.le_of_ble_eq_true rfl) dX12_readLaw_309 (fun r M10 H locs hp hle hw => ?_)
    obtain ⟨rfl, hq⟩ := hp
    refine W.eq (g2 := F0 m 312 ls []) rfl ?_
    refine lv_iinc (v := (x1 + 1)) (lv' := [(1, .int (x1 + 1)), (0, .ref a0)]) hx hb dX12_readLaw_312 hl (k := 1) rfl rfl (by decide) rfl (fun ls hl => ?_)
    refine lv_aload_n hx hb dX12_readLaw_315 rfl (lv_at hl 1 rfl) ?_
    refine gfX12_143 C hw hw.2.2.1 h0 dX12_readLaw_316 ?_
    refine lv_if_ne (tgt := 2) hx hb dX12_readLaw_319 (by decide) (fun c11 => ?_) (fun c11 => ?_)
    · replace hq := hq.2 c11
      exact hk2 _ _ _ _ _ hq hw (lv_sub hl [1, 0] rfl)
    · replace hq := hq.1 c11
      exact lt_X12_readLaw_322  C hr hlk hn h0  hq hw (lv_sub hl [1, 0] rfl)
  · replace hq := hq.1 c8
    exact lt_X12_readLaw_301  C hr hlk hn h0  hq hw (lv_sub hl [0] rfl)
set_option maxHeartbeats 4000000 in
set_option maxRecDepth 100000 in
theorem lt_X12_readLaw_238 {l : Launch} {g : Gh} {p : Program} {e : Env} {s : State} {m : MethodId} {args : Array Value} {below : List Frame} {meth : Method} {c : Code} {H : Heap} {locs : List Loc} {ls : Array Slot} {M0 M : Mem} {a0 : Nat} {post : Int32 → Mem → Prop} {x1 : Int32}   (C : Cx g p s m args c cX12_readLaw 2 RX12) (hr : meth.sig.returnType = (some .boolean)) (hlk : meth.locks = false) (hn : meth.name = "readLaw") (h0 : okc (gB g) M0 a0 12) {bk2 : Int32 × Mem → Prop} (hk2 : ∀ (x1 : Int32) (M : Mem) (H : Heap) (locs : List Loc) (ls : Array Slot), bk2 (x1, M) → Wd g s M0 M H locs → lv_has ls 2 [(0, .ref a0), (1, .int x1)] → W p l e (rmo 4 0 0) s m args below meth c H locs 0 0 (MQ below (Cq g M0 (pI post)) args s 0 0 (gA g)) (F0 m 2 ls [])) (hq : lb_X12_readLaw_238  g M0 a0 post bk2 x1 M) (hw : Wd g s M0 M H locs) (hl : lv_has ls 2 [(0, .ref a0), (1, .int x1)]) : W p l e (rmo 4 0 0) s m args below meth c H locs 0 0 (MQ below (Cq g M0 (pI post)) args s 0 0 (gA g)) (F0 m 238 ls []) := by
  have hx := C.1.1
  have hb := C.1.2.1
  unfold lb_X12_readLaw_238 at hq
  refine lv_aload_n hx hb dX12_readLaw_238 rfl (lv_at hl 0 rfl) ?_
  obtain ⟨q12, e13, hq⟩ := hq
  refine gfX12_78 C hw hw.2.2.1 h0 e13 dX12_readLaw_239 ?_
  refine lv_iload_n hx hb dX12_readLaw_242 rfl (lv_at hl 1 rfl) ?_
  refine lv_iconst (v := 0) hx hb dX12_readLaw_243 (by decide) ?_
  obtain ⟨h14, hq⟩ := hq
  obtain ⟨h15, hq⟩ := hq
  refine q_iast C hw hw.2.2.1 h14 h15 dX12_readLaw_244 (fun H locs hw => ?_)
  generalize e17 : uI M q12 (Int32.toNatClampNeg x1) 0 = M16 at hw
  replace hq := hq M16 e17.symm
  have e13 : mR M16 a0 37 = some q12 := by rw [← e17, mR_uI]; exact e13
  refine lv_aload_n hx hb dX12_readLaw_245 rfl (lv_at hl 0 rfl) ?_
  refine lv_bipush (v := 119) hx hb dX12_readLaw_246 (by decide) ?_
  refine lv_bipush (v := 114) hx hb dX12_readLaw_248 (by decide) ?_
  refine lv_bipush (v := 111) hx hb dX12_readLaw_250 (by decide) ?_
  refine lv_bipush (v := 110) hx hb dX12_readLaw_252 (by decide) ?_
  refine lv_bipush (v := 103) hx hb dX12_readLaw_254 (by decide) ?_
  refine r_callV (T := TX12) (N := 67) (ci := 12) (index := 257) (n := 5) (d2 := 0) (mc := 0) (ms := 0) (As := [.int 119, .int 114, .int 111, .int 110, .int 103]) (rest := []) C hw (ct_X12_isKey hq) kvX12_257 hq.1 (by decide) rfl ⟨by decide, by decide⟩ ⟨by decide, by decide⟩ rfl hl.1 rfl (Nat.le_of_ble_eq_true rfl) dX12_readLaw_256 (fun r M19 H locs hp hle hw => ?_)
  obtain ⟨v18, rfl, hq⟩ := hp
  refine W.eq (g2 := F0 m 259 ls [.int v18]) rfl ?_
  refine lv_if_eq (tgt := 292) hx hb dX12_readLaw_259 (by decide) (fun c20 => ?_) (fun c20 => ?_)
  · replace hq := hq.1 c20
    exact lt_X12_readLaw_292  C hr hlk hn h0 hk2 hq hw (lv_sub hl [0, 1] rfl)
  · replace hq := hq.2 c20
    refine lv_aload_n hx hb dX12_readLaw_262 rfl (lv_at hl 0 rfl) ?_
    refine lv_iconst (v := 0) hx hb dX12_readLaw_263 (by decide) ?_
    refine r_callV (T := TX12) (N := 67) (ci := 12) (index := 202) (n := 1) (d2 := 2) (mc := 0) (ms := 0) (As := [.int 0]) (rest := []) C hw (ct_X12_go hq) kvX12_202 hq.1 (by decide) rfl ⟨by decide, by decide⟩ ⟨by decide, by decide⟩ rfl hl.1 rfl (Nat.le_of_ble_eq_true rfl) dX12_readLaw_264 (fun r M22 H locs hp hle hw => ?_)
    obtain ⟨rfl, hq⟩ := hp
    refine W.eq (g2 := F0 m 267 ls []) rfl ?_
    refine lv_aload_n hx hb dX12_readLaw_267 rfl (lv_at hl 0 rfl) ?_
    obtain ⟨q23, e24, hq⟩ := hq
    refine gfX12_78 C hw hw.2.2.1 h0 e24 dX12_readLaw_268 ?_
    refine lv_iload_n hx hb dX12_readLaw_271 rfl (lv_at hl 1 rfl) ?_
    refine lv_aload_n hx hb dX12_readLaw_272 rfl (lv_at hl 0 rfl) ?_
    refine lv_iconst (v := 0) hx hb dX12_readLaw_273 (by decide) ?_
    refine lv_bipush (v := 20) hx hb dX12_readLaw_274 (by decide) ?_
    refine r_callV (T := TX12) (N := 67) (ci := 12) (index := 261) (n := 2) (d2 := 3) (mc := 0) (ms := 0) (As := [.int 0, .int 20]) (rest := [.int x1, .ref q23]) C hw (ct_X12_number hq) kvX12_261 hq.1 (by decide) rfl ⟨by decide, by decide⟩ ⟨by decide, by decide⟩ rfl hl.1 rfl (Nat.le_of_ble_eq_true rfl) dX12_readLaw_276 (fun r M26 H locs hp hle hw => ?_)
    obtain ⟨v25, rfl, hq⟩ := hp
    refine W.eq (g2 := F0 m 279 ls [.int v25, .int x1, .ref q23]) rfl ?_
    obtain ⟨h27, hq⟩ := hq
    obtain ⟨h28, hq⟩ := hq
    refine q_iast C hw hw.2.2.1 h27 h28 dX12_readLaw_279 (fun H locs hw => ?_)
    generalize e30 : uI M26 q23 (Int32.toNatClampNeg x1) v25 = M29 at hw
    replace hq := hq M29 e30.symm
    refine lv_aload_n hx hb dX12_readLaw_280 rfl (lv_at hl 0 rfl) ?_
    obtain ⟨q31, e32, hq⟩ := hq
    refine gfX12_78 C hw hw.2.2.1 h0 e32 dX12_readLaw_281 ?_
    refine lv_iload_n hx hb dX12_readLaw_284 rfl (lv_at hl 1 rfl) ?_
    obtain ⟨h33, hq⟩ := hq
    obtain ⟨h34, hq⟩ := hq
    refine q_iald C hw hw.2.2.1 h33 h34 dX12_readLaw_285 ?_
    refine lv_iconst (v := (-1)) hx hb dX12_readLaw_286 (by decide) ?_
    refine lv_icmp_ne (tgt := 292) hx hb dX12_readLaw_287 (by decide) (fun c35 => ?_) (fun c35 => ?_)
    · replace hq := hq.2 c35
      exact lt_X12_readLaw_292  C hr hlk hn h0 hk2 hq hw (lv_sub hl [0, 1] rfl)
    · replace hq := hq.1 c35
      refine lv_iconst (v := 0) hx hb dX12_readLaw_290 (by decide) ?_
      exact r_zret C hr hlk hw dX12_readLaw_291 (Nat.le_refl _) (Nat.le_refl _) (by decide) ⟨_, rfl, hq⟩
set_option maxHeartbeats 4000000 in
set_option maxRecDepth 100000 in
theorem lt_X12_readLaw_140 {l : Launch} {g : Gh} {p : Program} {e : Env} {s : State} {m : MethodId} {args : Array Value} {below : List Frame} {meth : Method} {c : Code} {H : Heap} {locs : List Loc} {ls : Array Slot} {M0 M : Mem} {a0 : Nat} {post : Int32 → Mem → Prop}    (C : Cx g p s m args c cX12_readLaw 2 RX12) (hr : meth.sig.returnType = (some .boolean)) (hlk : meth.locks = false) (hn : meth.name = "readLaw") (h0 : okc (gB g) M0 a0 12)  (hq : lb_X12_readLaw_140  g M0 a0 post   M) (hw : Wd g s M0 M H locs) (hl : lv_has ls 2 [(0, .ref a0)]) : W p l e (rmo 4 0 0) s m args below meth c H locs 0 0 (MQ below (Cq g M0 (pI post)) args s 0 0 (gA g)) (F0 m 140 ls []) := by
  have hx := C.1.1
  have hb := C.1.2.1
  unfold lb_X12_readLaw_140 at hq
  refine lv_aload_n hx hb dX12_readLaw_140 rfl (lv_at hl 0 rfl) ?_
  refine lv_iconst (v := 1) hx hb dX12_readLaw_141 (by decide) ?_
  refine r_callV (T := TX12) (N := 67) (ci := 12) (index := 213) (n := 1) (d2 := 0) (mc := 0) (ms := 0) (As := [.int 1]) (rest := []) C hw (ct_X12_bad hq) kvX12_213 hq.1 (by decide) rfl ⟨by decide, by decide⟩ ⟨by decide, by decide⟩ rfl hl.1 rfl (Nat.le_of_ble_eq_true rfl) dX12_readLaw_142 (fun r M37 H locs hp hle hw => ?_)
  obtain ⟨v36, rfl, hq⟩ := hp
  refine W.eq (g2 := F0 m 145 ls [.int v36]) rfl ?_
  obtain ⟨h38, hq⟩ := hq
  exact r_zret C hr hlk hw dX12_readLaw_145 (Nat.le_refl _) (Nat.le_refl _) h38 ⟨_, rfl, hq⟩
set_option maxHeartbeats 4000000 in
set_option maxRecDepth 100000 in
theorem lt_X12_readLaw_118 {l : Launch} {g : Gh} {p : Program} {e : Env} {s : State} {m : MethodId} {args : Array Value} {below : List Frame} {meth : Method} {c : Code} {H : Heap} {locs : List Loc} {ls : Array Slot} {M0 M : Mem} {a0 : Nat} {post : Int32 → Mem → Prop} {x1 : Int32}   (C : Cx g p s m args c cX12_readLaw 2 RX12) (hr : meth.sig.returnType = (some .boolean)) (hlk : meth.locks = false) (hn : meth.name = "readLaw") (h0 : okc (gB g) M0 a0 12) {bk2 : Int32 × Mem → Prop} (hk2 : ∀ (x1 : Int32) (M : Mem) (H : Heap) (locs : List Loc) (ls : Array Slot), bk2 (x1, M) → Wd g s M0 M H locs → lv_has ls 2 [(0, .ref a0), (1, .int x1)] → W p l e (rmo 4 0 0) s m args below meth c H locs 0 0 (MQ below (Cq g M0 (pI post)) args s 0 0 (gA g)) (F0 m 2 ls [])) (hq : lb_X12_readLaw_118  g M0 a0 post bk2 x1 M) (hw : Wd g s M0 M H locs) (hl : lv_has ls 2 [(0, .ref a0), (1, .int x1)]) : W p l e (rmo 4 0 0) s m args below meth c H locs 0 0 (MQ below (Cq g M0 (pI post)) args s 0 0 (gA g)) (F0 m 118 ls []) := by
  have hx := C.1.1
  have hb := C.1.2.1
  unfold lb_X12_readLaw_118 at hq
  refine lv_aload_n hx hb dX12_readLaw_118 rfl (lv_at hl 0 rfl) ?_
  refine lv_iconst (v := 0) hx hb dX12_readLaw_119 (by decide) ?_
  refine r_callV (T := TX12) (N := 67) (ci := 12) (index := 202) (n := 1) (d2 := 2) (mc := 0) (ms := 0) (As := [.int 0]) (rest := []) C hw (ct_X12_go hq) kvX12_202 hq.1 (by decide) rfl ⟨by decide, by decide⟩ ⟨by decide, by decide⟩ rfl hl.1 rfl (Nat.le_of_ble_eq_true rfl) dX12_readLaw_120 (fun r M40 H locs hp hle hw => ?_)
  obtain ⟨rfl, hq⟩ := hp
  refine W.eq (g2 := F0 m 123 ls []) rfl ?_
  refine lv_aload_n hx hb dX12_readLaw_123 rfl (lv_at hl 0 rfl) ?_
  refine lv_bipush (v := 114) hx hb dX12_readLaw_124 (by decide) ?_
  refine lv_bipush (v := 105) hx hb dX12_readLaw_126 (by decide) ?_
  refine lv_bipush (v := 103) hx hb dX12_readLaw_128 (by decide) ?_
  refine lv_bipush (v := 104) hx hb dX12_readLaw_130 (by decide) ?_
  refine lv_bipush (v := 116) hx hb dX12_readLaw_132 (by decide) ?_
  refine r_callV (T := TX12) (N := 67) (ci := 12) (index := 257) (n := 5) (d2 := 0) (mc := 0) (ms := 0) (As := [.int 114, .int 105, .int 103, .int 104, .int 116]) (rest := []) C hw (ct_X12_isKey hq) kvX12_257 hq.1 (by decide) rfl ⟨by decide, by decide⟩ ⟨by decide, by decide⟩ rfl hl.1 rfl (Nat.le_of_ble_eq_true rfl) dX12_readLaw_134 (fun r M42 H locs hp hle hw => ?_)
  obtain ⟨v41, rfl, hq⟩ := hp
  refine W.eq (g2 := F0 m 137 ls [.int v41]) rfl ?_
  refine lv_if_ne (tgt := 146) hx hb dX12_readLaw_137 (by decide) (fun c43 => ?_) (fun c43 => ?_)
  · replace hq := hq.2 c43
    refine lv_aload_n hx hb dX12_readLaw_146 rfl (lv_at hl 0 rfl) ?_
    refine lv_iconst (v := 0) hx hb dX12_readLaw_147 (by decide) ?_
    refine r_callV (T := TX12) (N := 67) (ci := 12) (index := 202) (n := 1) (d2 := 2) (mc := 0) (ms := 0) (As := [.int 0]) (rest := []) C hw (ct_X12_go hq) kvX12_202 hq.1 (by decide) rfl ⟨by decide, by decide⟩ ⟨by decide, by decide⟩ rfl hl.1 rfl (Nat.le_of_ble_eq_true rfl) dX12_readLaw_148 (fun r M45 H locs hp hle hw => ?_)
    obtain ⟨rfl, hq⟩ := hp
    refine W.eq (g2 := F0 m 151 ls []) rfl ?_
    refine lv_aload_n hx hb dX12_readLaw_151 rfl (lv_at hl 0 rfl) ?_
    obtain ⟨q46, e47, hq⟩ := hq
    refine gfX12_72 C hw hw.2.2.1 h0 e47 dX12_readLaw_152 ?_
    refine lv_iload_n hx hb dX12_readLaw_155 rfl (lv_at hl 1 rfl) ?_
    refine lv_aload_n hx hb dX12_readLaw_156 rfl (lv_at hl 0 rfl) ?_
    refine lv_iconst (v := 0) hx hb dX12_readLaw_157 (by decide) ?_
    refine lv_bipush (v := 20) hx hb dX12_readLaw_158 (by decide) ?_
    refine r_callV (T := TX12) (N := 67) (ci := 12) (index := 261) (n := 2) (d2 := 3) (mc := 0) (ms := 0) (As := [.int 0, .int 20]) (rest := [.int x1, .ref q46]) C hw (ct_X12_number hq) kvX12_261 hq.1 (by decide) rfl ⟨by decide, by decide⟩ ⟨by decide, by decide⟩ rfl hl.1 rfl (Nat.le_of_ble_eq_true rfl) dX12_readLaw_160 (fun r M49 H locs hp hle hw => ?_)
    obtain ⟨v48, rfl, hq⟩ := hp
    refine W.eq (g2 := F0 m 163 ls [.int v48, .int x1, .ref q46]) rfl ?_
    obtain ⟨h50, hq⟩ := hq
    obtain ⟨h51, hq⟩ := hq
    refine q_iast C hw hw.2.2.1 h50 h51 dX12_readLaw_163 (fun H locs hw => ?_)
    generalize e53 : uI M49 q46 (Int32.toNatClampNeg x1) v48 = M52 at hw
    replace hq := hq M52 e53.symm
    refine lv_aload_n hx hb dX12_readLaw_164 rfl (lv_at hl 0 rfl) ?_
    obtain ⟨q54, e55, hq⟩ := hq
    refine gfX12_72 C hw hw.2.2.1 h0 e55 dX12_readLaw_165 ?_
    refine lv_iload_n hx hb dX12_readLaw_168 rfl (lv_at hl 1 rfl) ?_
    obtain ⟨h56, hq⟩ := hq
    obtain ⟨h57, hq⟩ := hq
    refine q_iald C hw hw.2.2.1 h56 h57 dX12_readLaw_169 ?_
    refine lv_iconst (v := (-1)) hx hb dX12_readLaw_170 (by decide) ?_
    refine lv_icmp_ne (tgt := 176) hx hb dX12_readLaw_171 (by decide) (fun c58 => ?_) (fun c58 => ?_)
    · replace hq := hq.2 c58
      refine lv_aload_n hx hb dX12_readLaw_176 rfl (lv_at hl 0 rfl) ?_
      obtain ⟨q59, e60, hq⟩ := hq
      refine gfX12_75 C hw hw.2.2.1 h0 e60 dX12_readLaw_177 ?_
      refine lv_iload_n hx hb dX12_readLaw_180 rfl (lv_at hl 1 rfl) ?_
      refine lv_iconst (v := (-1)) hx hb dX12_readLaw_181 (by decide) ?_
      obtain ⟨h61, hq⟩ := hq
      obtain ⟨h62, hq⟩ := hq
      refine q_iast C hw hw.2.2.1 h61 h62 dX12_readLaw_182 (fun H locs hw => ?_)
      generalize e64 : uI M52 q59 (Int32.toNatClampNeg x1) (-1) = M63 at hw
      replace hq := hq M63 e64.symm
      have e55 : mR M63 a0 35 = some q54 := by rw [← e64, mR_uI]; exact e55
      have e60 : mR M63 a0 36 = some q59 := by rw [← e64, mR_uI]; exact e60
      refine lv_aload_n hx hb dX12_readLaw_183 rfl (lv_at hl 0 rfl) ?_
      obtain ⟨q65, e66, hq⟩ := hq
      refine gfX12_81 C hw hw.2.2.1 h0 e66 dX12_readLaw_184 ?_
      refine lv_iload_n hx hb dX12_readLaw_187 rfl (lv_at hl 1 rfl) ?_
      obtain ⟨h67, hq⟩ := hq
      obtain ⟨h68, hq⟩ := hq
      refine q_zald C hw hw.2.2.1 h67 h68 dX12_readLaw_188 ?_
      refine lv_if_ne (tgt := 238) hx hb dX12_readLaw_189 (by decide) (fun c69 => ?_) (fun c69 => ?_)
      · replace hq := hq.2 c69
        exact lt_X12_readLaw_238  C hr hlk hn h0 hk2 hq hw (lv_sub hl [0, 1] rfl)
      · replace hq := hq.1 c69
        refine lv_aload_n hx hb dX12_readLaw_192 rfl (lv_at hl 0 rfl) ?_
        refine lv_bipush (v := 112) hx hb dX12_readLaw_193 (by decide) ?_
        refine lv_bipush (v := 97) hx hb dX12_readLaw_195 (by decide) ?_
        refine lv_bipush (v := 115) hx hb dX12_readLaw_197 (by decide) ?_
        refine lv_bipush (v := 115) hx hb dX12_readLaw_199 (by decide) ?_
        refine lv_iconst (v := 0) hx hb dX12_readLaw_201 (by decide) ?_
        refine r_callV (T := TX12) (N := 67) (ci := 12) (index := 257) (n := 5) (d2 := 0) (mc := 0) (ms := 0) (As := [.int 112, .int 97, .int 115, .int 115, .int 0]) (rest := []) C hw (ct_X12_isKey hq) kvX12_257 hq.1 (by decide) rfl ⟨by decide, by decide⟩ ⟨by decide, by decide⟩ rfl hl.1 rfl (Nat.le_of_ble_eq_true rfl) dX12_readLaw_202 (fun r M71 H locs hp hle hw => ?_)
        obtain ⟨v70, rfl, hq⟩ := hp
        refine W.eq (g2 := F0 m 205 ls [.int v70]) rfl ?_
        refine lv_if_eq (tgt := 238) hx hb dX12_readLaw_205 (by decide) (fun c72 => ?_) (fun c72 => ?_)
        · replace hq := hq.1 c72
          exact lt_X12_readLaw_238  C hr hlk hn h0 hk2 hq hw (lv_sub hl [0, 1] rfl)
        · replace hq := hq.2 c72
          refine lv_aload_n hx hb dX12_readLaw_208 rfl (lv_at hl 0 rfl) ?_
          refine lv_iconst (v := 0) hx hb dX12_readLaw_209 (by decide) ?_
          refine r_callV (T := TX12) (N := 67) (ci := 12) (index := 202) (n := 1) (d2 := 2) (mc := 0) (ms := 0) (As := [.int 0]) (rest := []) C hw (ct_X12_go hq) kvX12_202 hq.1 (by decide) rfl ⟨by decide, by decide⟩ ⟨by decide, by decide⟩ rfl hl.1 rfl (Nat.le_of_ble_eq_true rfl) dX12_readLaw_210 (fun r M74 H locs hp hle hw => ?_)
          obtain ⟨rfl, hq⟩ := hp
          refine W.eq (g2 := F0 m 213 ls []) rfl ?_
          refine lv_aload_n hx hb dX12_readLaw_213 rfl (lv_at hl 0 rfl) ?_
          obtain ⟨q75, e76, hq⟩ := hq
          refine gfX12_75 C hw hw.2.2.1 h0 e76 dX12_readLaw_214 ?_
          refine lv_iload_n hx hb dX12_readLaw_217 rfl (lv_at hl 1 rfl) ?_
          refine lv_aload_n hx hb dX12_readLaw_218 rfl (lv_at hl 0 rfl) ?_
          refine lv_iconst (v := 0) hx hb dX12_readLaw_219 (by decide) ?_
          refine lv_bipush (v := 20) hx hb dX12_readLaw_220 (by decide) ?_
          refine r_callV (T := TX12) (N := 67) (ci := 12) (index := 261) (n := 2) (d2 := 3) (mc := 0) (ms := 0) (As := [.int 0, .int 20]) (rest := [.int x1, .ref q75]) C hw (ct_X12_number hq) kvX12_261 hq.1 (by decide) rfl ⟨by decide, by decide⟩ ⟨by decide, by decide⟩ rfl hl.1 rfl (Nat.le_of_ble_eq_true rfl) dX12_readLaw_222 (fun r M78 H locs hp hle hw => ?_)
          obtain ⟨v77, rfl, hq⟩ := hp
          refine W.eq (g2 := F0 m 225 ls [.int v77, .int x1, .ref q75]) rfl ?_
          obtain ⟨h79, hq⟩ := hq
          obtain ⟨h80, hq⟩ := hq
          refine q_iast C hw hw.2.2.1 h79 h80 dX12_readLaw_225 (fun H locs hw => ?_)
          generalize e82 : uI M78 q75 (Int32.toNatClampNeg x1) v77 = M81 at hw
          replace hq := hq M81 e82.symm
          refine lv_aload_n hx hb dX12_readLaw_226 rfl (lv_at hl 0 rfl) ?_
          obtain ⟨q83, e84, hq⟩ := hq
          refine gfX12_75 C hw hw.2.2.1 h0 e84 dX12_readLaw_227 ?_
          refine lv_iload_n hx hb dX12_readLaw_230 rfl (lv_at hl 1 rfl) ?_
          obtain ⟨h85, hq⟩ := hq
          obtain ⟨h86, hq⟩ := hq
          refine q_iald C hw hw.2.2.1 h85 h86 dX12_readLaw_231 ?_
          refine lv_iconst (v := (-1)) hx hb dX12_readLaw_232 (by decide) ?_
          refine lv_icmp_ne (tgt := 238) hx hb dX12_readLaw_233 (by decide) (fun c87 => ?_) (fun c87 => ?_)
          · replace hq := hq.2 c87
            exact lt_X12_readLaw_238  C hr hlk hn h0 hk2 hq hw (lv_sub hl [0, 1] rfl)
          · replace hq := hq.1 c87
            refine lv_iconst (v := 0) hx hb dX12_readLaw_236 (by decide) ?_
            exact r_zret C hr hlk hw dX12_readLaw_237 (Nat.le_refl _) (Nat.le_refl _) (by decide) ⟨_, rfl, hq⟩
    · replace hq := hq.1 c58
      refine lv_iconst (v := 0) hx hb dX12_readLaw_174 (by decide) ?_
      exact r_zret C hr hlk hw dX12_readLaw_175 (Nat.le_refl _) (Nat.le_refl _) (by decide) ⟨_, rfl, hq⟩
  · replace hq := hq.1 c43
    exact lt_X12_readLaw_140  C hr hlk hn h0  hq hw (lv_sub hl [0] rfl)
set_option maxHeartbeats 4000000 in
set_option maxRecDepth 100000 in
theorem lt_X12_readLaw_112 {l : Launch} {g : Gh} {p : Program} {e : Env} {s : State} {m : MethodId} {args : Array Value} {below : List Frame} {meth : Method} {c : Code} {H : Heap} {locs : List Loc} {ls : Array Slot} {M0 M : Mem} {a0 : Nat} {post : Int32 → Mem → Prop}    (C : Cx g p s m args c cX12_readLaw 2 RX12) (hr : meth.sig.returnType = (some .boolean)) (hlk : meth.locks = false) (hn : meth.name = "readLaw") (h0 : okc (gB g) M0 a0 12)  (hq : lb_X12_readLaw_112  g M0 a0 post   M) (hw : Wd g s M0 M H locs) (hl : lv_has ls 2 [(0, .ref a0)]) : W p l e (rmo 4 0 0) s m args below meth c H locs 0 0 (MQ below (Cq g M0 (pI post)) args s 0 0 (gA g)) (F0 m 112 ls []) := by
  have hx := C.1.1
  have hb := C.1.2.1
  unfold lb_X12_readLaw_112 at hq
  refine lv_aload_n hx hb dX12_readLaw_112 rfl (lv_at hl 0 rfl) ?_
  refine lv_iconst (v := 1) hx hb dX12_readLaw_113 (by decide) ?_
  refine r_callV (T := TX12) (N := 67) (ci := 12) (index := 213) (n := 1) (d2 := 0) (mc := 0) (ms := 0) (As := [.int 1]) (rest := []) C hw (ct_X12_bad hq) kvX12_213 hq.1 (by decide) rfl ⟨by decide, by decide⟩ ⟨by decide, by decide⟩ rfl hl.1 rfl (Nat.le_of_ble_eq_true rfl) dX12_readLaw_114 (fun r M89 H locs hp hle hw => ?_)
  obtain ⟨v88, rfl, hq⟩ := hp
  refine W.eq (g2 := F0 m 117 ls [.int v88]) rfl ?_
  obtain ⟨h90, hq⟩ := hq
  exact r_zret C hr hlk hw dX12_readLaw_117 (Nat.le_refl _) (Nat.le_refl _) h90 ⟨_, rfl, hq⟩
set_option maxHeartbeats 4000000 in
set_option maxRecDepth 100000 in
theorem lt_X12_readLaw_31 {l : Launch} {g : Gh} {p : Program} {e : Env} {s : State} {m : MethodId} {args : Array Value} {below : List Frame} {meth : Method} {c : Code} {H : Heap} {locs : List Loc} {ls : Array Slot} {M0 M : Mem} {a0 : Nat} {post : Int32 → Mem → Prop}    (C : Cx g p s m args c cX12_readLaw 2 RX12) (hr : meth.sig.returnType = (some .boolean)) (hlk : meth.locks = false) (hn : meth.name = "readLaw") (h0 : okc (gB g) M0 a0 12)  (hq : lb_X12_readLaw_31  g M0 a0 post   M) (hw : Wd g s M0 M H locs) (hl : lv_has ls 2 [(0, .ref a0)]) : W p l e (rmo 4 0 0) s m args below meth c H locs 0 0 (MQ below (Cq g M0 (pI post)) args s 0 0 (gA g)) (F0 m 31 ls []) := by
  have hx := C.1.1
  have hb := C.1.2.1
  unfold lb_X12_readLaw_31 at hq
  refine lv_aload_n hx hb dX12_readLaw_31 rfl (lv_at hl 0 rfl) ?_
  refine lv_iconst (v := 3) hx hb dX12_readLaw_32 (by decide) ?_
  refine r_callV (T := TX12) (N := 67) (ci := 12) (index := 213) (n := 1) (d2 := 0) (mc := 0) (ms := 0) (As := [.int 3]) (rest := []) C hw (ct_X12_bad hq) kvX12_213 hq.1 (by decide) rfl ⟨by decide, by decide⟩ ⟨by decide, by decide⟩ rfl hl.1 rfl (Nat.le_of_ble_eq_true rfl) dX12_readLaw_33 (fun r M92 H locs hp hle hw => ?_)
  obtain ⟨v91, rfl, hq⟩ := hp
  refine W.eq (g2 := F0 m 36 ls [.int v91]) rfl ?_
  obtain ⟨h93, hq⟩ := hq
  exact r_zret C hr hlk hw dX12_readLaw_36 (Nat.le_refl _) (Nat.le_refl _) h93 ⟨_, rfl, hq⟩
set_option maxHeartbeats 4000000 in
set_option maxRecDepth 100000 in
theorem lt_X12_readLaw_19 {l : Launch} {g : Gh} {p : Program} {e : Env} {s : State} {m : MethodId} {args : Array Value} {below : List Frame} {meth : Method} {c : Code} {H : Heap} {locs : List Loc} {ls : Array Slot} {M0 M : Mem} {a0 : Nat} {post : Int32 → Mem → Prop}    (C : Cx g p s m args c cX12_readLaw 2 RX12) (hr : meth.sig.returnType = (some .boolean)) (hlk : meth.locks = false) (hn : meth.name = "readLaw") (h0 : okc (gB g) M0 a0 12)  (hq : lb_X12_readLaw_19  g M0 a0 post   M) (hw : Wd g s M0 M H locs) (hl : lv_has ls 2 [(0, .ref a0)]) : W p l e (rmo 4 0 0) s m args below meth c H locs 0 0 (MQ below (Cq g M0 (pI post)) args s 0 0 (gA g)) (F0 m 19 ls []) := by
  have hx := C.1.1
  have hb := C.1.2.1
  unfold lb_X12_readLaw_19 at hq
  refine lv_aload_n hx hb dX12_readLaw_19 rfl (lv_at hl 0 rfl) ?_
  refine lv_iconst (v := 1) hx hb dX12_readLaw_20 (by decide) ?_
  refine r_callV (T := TX12) (N := 67) (ci := 12) (index := 213) (n := 1) (d2 := 0) (mc := 0) (ms := 0) (As := [.int 1]) (rest := []) C hw (ct_X12_bad hq) kvX12_213 hq.1 (by decide) rfl ⟨by decide, by decide⟩ ⟨by decide, by decide⟩ rfl hl.1 rfl (Nat.le_of_ble_eq_true rfl) dX12_readLaw_21 (fun r M95 H locs hp hle hw => ?_)
  obtain ⟨v94, rfl, hq⟩ := hp
  refine W.eq (g2 := F0 m 24 ls [.int v94]) rfl ?_
  obtain ⟨h96, hq⟩ := hq
  exact r_zret C hr hlk hw dX12_readLaw_24 (Nat.le_refl _) (Nat.le_refl _) h96 ⟨_, rfl, hq⟩
set_option maxHeartbeats 4000000 in
set_option maxRecDepth 100000 in
theorem lp_X12_readLaw_2 {l : Launch} {g : Gh} {p : Program} {e : Env} {s : State} {m : MethodId} {args : Array Value} {below : List Frame} {meth : Method} {c : Code} {M0 : Mem} {a0 : Nat} {post : Int32 → Mem → Prop}  (C : Cx g p s m args c cX12_readLaw 2 RX12) (hr : meth.sig.returnType = (some .boolean)) (hlk : meth.locks = false) (hn : meth.name = "readLaw") (h0 : okc (gB g) M0 a0 12)  : ∀ (nf : Nat) (x1 : Int32)  (M : Mem) (H : Heap) (locs : List Loc) (ls : Array Slot), lfp (fun bk z => bd_X12_readLaw_2  g M0 a0 post  bk z.1 z.2) nf (x1, M) → Wd g s M0 M H locs → lv_has ls 2 [(0, .ref a0), (1, .int x1)] → W p l e (rmo 4 0 0) s m args below meth c H locs 0 0 (MQ below (Cq g M0 (pI post)) args s 0 0 (gA g)) (F0 m 2 ls []) := by
  have hx := C.1.1
  have hb := C.1.2.1
  intro nf
  induction nf with
  | zero => intro _ _ H locs ls hq; exact hq.elim
  | succ nf hk2 =>
    intro x1 M H locs ls hq hw hl
    replace hq : bd_X12_readLaw_2  g M0 a0 post  (lfp (fun bk z => bd_X12_readLaw_2  g M0 a0 post  bk z.1 z.2) nf) x1 M := hq
    unfold bd_X12_readLaw_2 at hq
    refine lv_aload_n hx hb dX12_readLaw_2 rfl (lv_at hl 0 rfl) ?_
    refine lv_bipush (v := 114) hx hb dX12_readLaw_3 (by decide) ?_
    refine lv_bipush (v := 111) hx hb dX12_readLaw_5 (by decide) ?_
    refine lv_bipush (v := 117) hx hb dX12_readLaw_7 (by decide) ?_
    refine lv_bipush (v := 110) hx hb dX12_readLaw_9 (by decide) ?_
    refine lv_bipush (v := 100) hx hb dX12_readLaw_11 (by decide) ?_
    refine r_callV (T := TX12) (N := 67) (ci := 12) (index := 257) (n := 5) (d2 := 0) (mc := 0) (ms := 0) (As := [.int 114, .int 111, .int 117, .int 110, .int 100]) (rest := []) C hw (ct_X12_isKey hq) kvX12_257 hq.1 (by decide) rfl ⟨by decide, by decide⟩ ⟨by decide, by decide⟩ rfl hl.1 rfl (Nat.le_of_ble_eq_true rfl) dX12_readLaw_13 (fun r M98 H locs hp hle hw => ?_)
    obtain ⟨v97, rfl, hq⟩ := hp
    refine W.eq (g2 := F0 m 16 ls [.int v97]) rfl ?_
    refine lv_if_ne (tgt := 25) hx hb dX12_readLaw_16 (by decide) (fun c99 => ?_) (fun c99 => ?_)
    · replace hq := hq.2 c99
      refine lv_iload_n hx hb dX12_readLaw_25 rfl (lv_at hl 1 rfl) ?_
      refine lv_bipush (v := 6) hx hb dX12_readLaw_26 (by decide) ?_
      refine lv_icmp_ne (tgt := 37) hx hb dX12_readLaw_28 (by decide) (fun c100 => ?_) (fun c100 => ?_)
      · replace hq := hq.2 c100
        refine lv_aload_n hx hb dX12_readLaw_37 rfl (lv_at hl 0 rfl) ?_
        refine lv_iconst (v := 0) hx hb dX12_readLaw_38 (by decide) ?_
        refine r_callV (T := TX12) (N := 67) (ci := 12) (index := 202) (n := 1) (d2 := 2) (mc := 0) (ms := 0) (As := [.int 0]) (rest := []) C hw (ct_X12_go hq) kvX12_202 hq.1 (by decide) rfl ⟨by decide, by decide⟩ ⟨by decide, by decide⟩ rfl hl.1 rfl (Nat.le_of_ble_eq_true rfl) dX12_readLaw_39 (fun r M102 H locs hp hle hw => ?_)
        obtain ⟨rfl, hq⟩ := hp
        refine W.eq (g2 := F0 m 42 ls []) rfl ?_
        refine lv_aload_n hx hb dX12_readLaw_42 rfl (lv_at hl 0 rfl) ?_
        obtain ⟨q103, e104, hq⟩ := hq
        refine gfX12_69 C hw hw.2.2.1 h0 e104 dX12_readLaw_43 ?_
        refine lv_iload_n hx hb dX12_readLaw_46 rfl (lv_at hl 1 rfl) ?_
        refine lv_aload_n hx hb dX12_readLaw_47 rfl (lv_at hl 0 rfl) ?_
        refine lv_iconst (v := 1) hx hb dX12_readLaw_48 (by decide) ?_
        refine lv_bipush (v := 8) hx hb dX12_readLaw_49 (by decide) ?_
        refine r_callV (T := TX12) (N := 67) (ci := 12) (index := 261) (n := 2) (d2 := 3) (mc := 0) (ms := 0) (As := [.int 1, .int 8]) (rest := [.int x1, .ref q103]) C hw (ct_X12_number hq) kvX12_261 hq.1 (by decide) rfl ⟨by decide, by decide⟩ ⟨by decide, by decide⟩ rfl hl.1 rfl (Nat.le_of_ble_eq_true rfl) dX12_readLaw_51 (fun r M106 H locs hp hle hw => ?_)
        obtain ⟨v105, rfl, hq⟩ := hp
        refine W.eq (g2 := F0 m 54 ls [.int v105, .int x1, .ref q103]) rfl ?_
        obtain ⟨h107, hq⟩ := hq
        obtain ⟨h108, hq⟩ := hq
        refine q_iast C hw hw.2.2.1 h107 h108 dX12_readLaw_54 (fun H locs hw => ?_)
        generalize e110 : uI M106 q103 (Int32.toNatClampNeg x1) v105 = M109 at hw
        replace hq := hq M109 e110.symm
        refine lv_aload_n hx hb dX12_readLaw_55 rfl (lv_at hl 0 rfl) ?_
        obtain ⟨q111, e112, hq⟩ := hq
        refine gfX12_69 C hw hw.2.2.1 h0 e112 dX12_readLaw_56 ?_
        refine lv_iload_n hx hb dX12_readLaw_59 rfl (lv_at hl 1 rfl) ?_
        obtain ⟨h113, hq⟩ := hq
        obtain ⟨h114, hq⟩ := hq
        refine q_iald C hw hw.2.2.1 h113 h114 dX12_readLaw_60 ?_
        refine lv_iconst (v := (-1)) hx hb dX12_readLaw_61 (by decide) ?_
        refine lv_icmp_ne (tgt := 67) hx hb dX12_readLaw_62 (by decide) (fun c115 => ?_) (fun c115 => ?_)
        · replace hq := hq.2 c115
          refine lv_aload_n hx hb dX12_readLaw_67 rfl (lv_at hl 0 rfl) ?_
          obtain ⟨q116, e117, hq⟩ := hq
          refine gfX12_81 C hw hw.2.2.1 h0 e117 dX12_readLaw_68 ?_
          refine lv_iload_n hx hb dX12_readLaw_71 rfl (lv_at hl 1 rfl) ?_
          refine lv_aload_n hx hb dX12_readLaw_72 rfl (lv_at hl 0 rfl) ?_
          refine lv_bipush (v := 98) hx hb dX12_readLaw_73 (by decide) ?_
          refine lv_bipush (v := 117) hx hb dX12_readLaw_75 (by decide) ?_
          refine lv_bipush (v := 122) hx hb dX12_readLaw_77 (by decide) ?_
          refine lv_bipush (v := 122) hx hb dX12_readLaw_79 (by decide) ?_
          refine lv_iconst (v := 0) hx hb dX12_readLaw_81 (by decide) ?_
          refine r_callV (T := TX12) (N := 67) (ci := 12) (index := 257) (n := 5) (d2 := 0) (mc := 0) (ms := 0) (As := [.int 98, .int 117, .int 122, .int 122, .int 0]) (rest := [.int x1, .ref q116]) C hw (ct_X12_isKey hq) kvX12_257 hq.1 (by decide) rfl ⟨by decide, by decide⟩ ⟨by decide, by decide⟩ rfl hl.1 rfl (Nat.le_of_ble_eq_true rfl) dX12_readLaw_82 (fun r M119 H locs hp hle hw => ?_)
          obtain ⟨v118, rfl, hq⟩ := hp
          refine W.eq (g2 := F0 m 85 ls [.int v118, .int x1, .ref q116]) rfl ?_
          obtain ⟨h120, hq⟩ := hq
          obtain ⟨h121, hq⟩ := hq
          refine q_zast C hw hw.2.2.1 h120 h121 dX12_readLaw_85 (fun H locs hw => ?_)
          generalize e123 : uI M119 q116 (Int32.toNatClampNeg x1) (vp_nar .boolean v118) = M122 at hw
          replace hq := hq M122 e123.symm
          refine lv_aload_n hx hb dX12_readLaw_86 rfl (lv_at hl 0 rfl) ?_
          obtain ⟨q124, e125, hq⟩ := hq
          refine gfX12_81 C hw hw.2.2.1 h0 e125 dX12_readLaw_87 ?_
          refine lv_iload_n hx hb dX12_readLaw_90 rfl (lv_at hl 1 rfl) ?_
          obtain ⟨h126, hq⟩ := hq
          obtain ⟨h127, hq⟩ := hq
          refine q_zald C hw hw.2.2.1 h126 h127 dX12_readLaw_91 ?_
          refine lv_if_ne (tgt := 118) hx hb dX12_readLaw_92 (by decide) (fun c128 => ?_) (fun c128 => ?_)
          · replace hq := hq.2 c128
            exact lt_X12_readLaw_118  C hr hlk hn h0 hk2 hq hw (lv_sub hl [0, 1] rfl)
          · replace hq := hq.1 c128
            refine lv_aload_n hx hb dX12_readLaw_95 rfl (lv_at hl 0 rfl) ?_
            refine lv_bipush (v := 116) hx hb dX12_readLaw_96 (by decide) ?_
            refine lv_bipush (v := 117) hx hb dX12_readLaw_98 (by decide) ?_
            refine lv_bipush (v := 114) hx hb dX12_readLaw_100 (by decide) ?_
            refine lv_bipush (v := 110) hx hb dX12_readLaw_102 (by decide) ?_
            refine lv_bipush (v := 115) hx hb dX12_readLaw_104 (by decide) ?_
            refine r_callV (T := TX12) (N := 67) (ci := 12) (index := 257) (n := 5) (d2 := 0) (mc := 0) (ms := 0) (As := [.int 116, .int 117, .int 114, .int 110, .int 115]) (rest := []) C hw (ct_X12_isKey hq) kvX12_257 hq.1 (by decide) rfl ⟨by decide, by decide⟩ ⟨by decide, by decide⟩ rfl hl.1 rfl (Nat.le_of_ble_eq_true rfl) dX12_readLaw_106 (fun r M130 H locs hp hle hw => ?_)
            obtain ⟨v129, rfl, hq⟩ := hp
            refine W.eq (g2 := F0 m 109 ls [.int v129]) rfl ?_
            refine lv_if_ne (tgt := 118) hx hb dX12_readLaw_109 (by decide) (fun c131 => ?_) (fun c131 => ?_)
            · replace hq := hq.2 c131
              exact lt_X12_readLaw_118  C hr hlk hn h0 hk2 hq hw (lv_sub hl [0, 1] rfl)
            · replace hq := hq.1 c131
              exact lt_X12_readLaw_112  C hr hlk hn h0  hq hw (lv_sub hl [0] rfl)
        · replace hq := hq.1 c115
          refine lv_iconst (v := 0) hx hb dX12_readLaw_65 (by decide) ?_
          exact r_zret C hr hlk hw dX12_readLaw_66 (Nat.le_refl _) (Nat.le_refl _) (by decide) ⟨_, rfl, hq⟩
      · replace hq := hq.1 c100
        exact lt_X12_readLaw_31  C hr hlk hn h0  hq hw (lv_sub hl [0] rfl)
    · replace hq := hq.1 c99
      exact lt_X12_readLaw_19  C hr hlk hn h0  hq hw (lv_sub hl [0] rfl)
set_option maxHeartbeats 4000000 in
set_option maxRecDepth 100000 in
theorem ct_X12_readLaw {l : Launch} {g : Gh} {M0 : Mem} {a0 : Nat} {post : Int32 → Mem → Prop}  (hq : wp_X12_readLaw  g M0 a0 post) : Ct l g yX12_readLaw cX12_readLaw 2 (some .boolean) 4 0 0 [.ref a0] M0 (pI post) := by
  unfold wp_X12_readLaw at hq
  obtain ⟨h0, hq⟩ := hq
  refine Ct.of (by decide) (Nat.le_of_ble_eq_true rfl) ?_
  intro p e s m below meth c ls C hr hlk hn hl hw
  have hx := C.1.1
  have hb := C.1.2.1
  have hl : lv_has ls 2 [(0, .ref a0)] := hl
  refine lv_iconst (v := 0) hx hb dX12_readLaw_0 (by decide) ?_
  refine lv_istore_n (lv' := [(1, .int 0), (0, .ref a0)]) hx hb dX12_readLaw_1 rfl hl (by decide) rfl (fun ls hl => ?_)
  obtain ⟨nf, hq⟩ := hq
  exact lp_X12_readLaw_2  C hr hlk hn h0  nf _ _ _ _ _ hq hw (lv_sub hl [1, 0] rfl)

set_option maxRecDepth 100000 in
def bd_X12_law_65  (g : Gh) (M0 : Mem) (a0 : Nat) (post : Int32 → Mem → Prop)  (bk65 : Int32 × Mem → Prop) (x1 : Int32)  (M : Mem) : Prop :=
  (((mI M a0 39) ≤ x1) → post (mI M a0 40) M) ∧ (¬ ((mI M a0 39) ≤ x1) → ∃ q2, mR M a0 29 = some q2 ∧ (∃ q4, mR M a0 34 = some q4 ∧ (okc (gB g) M0 q4 14 ∧ (vp_in x1 (mN M0 q4) ∧ (okc (gB g) M0 q2 14 ∧ (vp_in x1 (mN M0 q2) ∧ (∀ M10, M10 = uI M q2 (Int32.toNatClampNeg x1) (mI M q4 (Int32.toNatClampNeg x1)) → (∃ q12, mR M10 a0 30 = some q12 ∧ (∃ q14, mR M10 a0 35 = some q14 ∧ (okc (gB g) M0 q14 14 ∧ (vp_in x1 (mN M0 q14) ∧ (okc (gB g) M0 q12 14 ∧ (vp_in x1 (mN M0 q12) ∧ (∀ M20, M20 = uI M10 q12 (Int32.toNatClampNeg x1) (mI M10 q14 (Int32.toNatClampNeg x1)) → (∃ q22, mR M20 a0 31 = some q22 ∧ (∃ q24, mR M20 a0 36 = some q24 ∧ (okc (gB g) M0 q24 14 ∧ (vp_in x1 (mN M0 q24) ∧ (okc (gB g) M0 q22 14 ∧ (vp_in x1 (mN M0 q22) ∧ (∀ M30, M30 = uI M20 q22 (Int32.toNatClampNeg x1) (mI M20 q24 (Int32.toNatClampNeg x1)) → (∃ q32, mR M30 a0 32 = some q32 ∧ (∃ q34, mR M30 a0 37 = some q34 ∧ (okc (gB g) M0 q34 14 ∧ (vp_in x1 (mN M0 q34) ∧ (okc (gB g) M0 q32 14 ∧ (vp_in x1 (mN M0 q32) ∧ (∀ M40, M40 = uI M30 q32 (Int32.toNatClampNeg x1) (mI M30 q34 (Int32.toNatClampNeg x1)) → (∃ q42, mR M40 a0 33 = some q42 ∧ (∃ q44, mR M40 a0 38 = some q44 ∧ (okc (gB g) M0 q44 17 ∧ (vp_in x1 (mN M0 q44) ∧ (okc (gB g) M0 q42 17 ∧ (vp_in x1 (mN M0 q42) ∧ (∀ M50, M50 = uI M40 q42 (Int32.toNatClampNeg x1) (vp_nar .boolean (mI M40 q44 (Int32.toNatClampNeg x1))) → (∀ M52, M52 = uI M50 a0 40 ((mI M50 a0 40) + (mI M50 q2 (Int32.toNatClampNeg x1))) → (bk65 ((x1 + 1), M52))))))))))))))))))))))))))))))))))))))
set_option maxRecDepth 100000 in
def wp_X12_law  (g : Gh) (M0 : Mem) (a0 : Nat) (post : Int32 → Mem → Prop) : Prop :=
  okc (gB g) M0 a0 12 ∧ (∀ M54, M54 = uI M0 a0 0 0 → (∀ M56, M56 = uI M54 a0 3 (mI M54 a0 2) → (∀ M58, M58 = uI M56 a0 2 0 → ((((mI M58 a0 48) = 0) → ∀ M61, M61 = uI M58 a0 4 0 → (∀ M63, M63 = uI M61 a0 9 0 → (wp_X12_go g M63 a0 0 (fun M66 => wp_X12_readLaw g M66 a0 (fun v67 M68 => ((v67 = 0) → post ((-1) - (mI M68 a0 10)) M68) ∧ (¬ (v67 = 0) → ∀ M70, M70 = uI M68 a0 40 0 → ((∃ n : Nat, lfp (fun bk z => bd_X12_law_65  g M0 a0 post  bk z.1 z.2) n (0, M70))))))))) ∧ (¬ ((mI M58 a0 48) = 0) → post (-300) M58)))))
set_option maxHeartbeats 4000000 in
set_option maxRecDepth 100000 in
theorem lp_X12_law_65 {l : Launch} {g : Gh} {p : Program} {e : Env} {s : State} {m : MethodId} {args : Array Value} {below : List Frame} {meth : Method} {c : Code} {M0 : Mem} {a0 : Nat} {post : Int32 → Mem → Prop}  (C : Cx g p s m args c cX12_law 2 RX12) (hr : meth.sig.returnType = (some .int)) (hlk : meth.locks = false) (hn : meth.name = "law") (h0 : okc (gB g) M0 a0 12)  : ∀ (nf : Nat) (x1 : Int32)  (M : Mem) (H : Heap) (locs : List Loc) (ls : Array Slot), lfp (fun bk z => bd_X12_law_65  g M0 a0 post  bk z.1 z.2) nf (x1, M) → Wd g s M0 M H locs → lv_has ls 2 [(0, .ref a0), (1, .int x1)] → W p l e (rmo 5 0 0) s m args below meth c H locs 0 0 (MQ below (Cq g M0 (pI post)) args s 0 0 (gA g)) (F0 m 65 ls []) := by
  have hx := C.1.1
  have hb := C.1.2.1
  intro nf
  induction nf with
  | zero => intro _ _ H locs ls hq; exact hq.elim
  | succ nf hk65 =>
    intro x1 M H locs ls hq hw hl
    replace hq : bd_X12_law_65  g M0 a0 post  (lfp (fun bk z => bd_X12_law_65  g M0 a0 post  bk z.1 z.2) nf) x1 M := hq
    unfold bd_X12_law_65 at hq
    refine lv_iload_n hx hb dX12_law_65 rfl (lv_at hl 1 rfl) ?_
    refine lv_aload_n hx hb dX12_law_66 rfl (lv_at hl 0 rfl) ?_
    refine gfX12_264 C hw hw.2.2.1 h0 dX12_law_67 ?_
    refine lv_icmp_ge (tgt := 154) hx hb dX12_law_70 (by decide) (fun c1 => ?_) (fun c1 => ?_)
    · replace hq := hq.1 c1
      refine lv_aload_n hx hb dX12_law_154 rfl (lv_at hl 0 rfl) ?_
      refine gfX12_270 C hw hw.2.2.1 h0 dX12_law_155 ?_
      exact r_iret C hr hlk hw dX12_law_158 (Nat.le_refl _) (Nat.le_refl _) ⟨_, rfl, hq⟩
    · replace hq := hq.2 c1
      refine lv_aload_n hx hb dX12_law_73 rfl (lv_at hl 0 rfl) ?_
      obtain ⟨q2, e3, hq⟩ := hq
      refine gfX12_54 C hw hw.2.2.1 h0 e3 dX12_law_74 ?_
      refine lv_iload_n hx hb dX12_law_77 rfl (lv_at hl 1 rfl) ?_
      refine lv_aload_n hx hb dX12_law_78 rfl (lv_at hl 0 rfl) ?_
      obtain ⟨q4, e5, hq⟩ := hq
      refine gfX12_69 C hw hw.2.2.1 h0 e5 dX12_law_79 ?_
      refine lv_iload_n hx hb dX12_law_82 rfl (lv_at hl 1 rfl) ?_
      obtain ⟨h6, hq⟩ := hq
      obtain ⟨h7, hq⟩ := hq
      refine q_iald C hw hw.2.2.1 h6 h7 dX12_law_83 ?_
      obtain ⟨h8, hq⟩ := hq
      obtain ⟨h9, hq⟩ := hq
      refine q_iast C hw hw.2.2.1 h8 h9 dX12_law_84 (fun H locs hw => ?_)
      generalize e11 : uI M q2 (Int32.toNatClampNeg x1) (mI M q4 (Int32.toNatClampNeg x1)) = M10 at hw
      replace hq := hq M10 e11.symm
      have e3 : mR M10 a0 29 = some q2 := by rw [← e11, mR_uI]; exact e3
      have e5 : mR M10 a0 34 = some q4 := by rw [← e11, mR_uI]; exact e5
      refine lv_aload_n hx hb dX12_law_85 rfl (lv_at hl 0 rfl) ?_
      obtain ⟨q12, e13, hq⟩ := hq
      refine gfX12_57 C hw hw.2.2.1 h0 e13 dX12_law_86 ?_
      refine lv_iload_n hx hb dX12_law_89 rfl (lv_at hl 1 rfl) ?_
      refine lv_aload_n hx hb dX12_law_90 rfl (lv_at hl 0 rfl) ?_
      obtain ⟨q14, e15, hq⟩ := hq
      refine gfX12_72 C hw hw.2.2.1 h0 e15 dX12_law_91 ?_
      refine lv_iload_n hx hb dX12_law_94 rfl (lv_at hl 1 rfl) ?_
      obtain ⟨h16, hq⟩ := hq
      obtain ⟨h17, hq⟩ := hq
      refine q_iald C hw hw.2.2.1 h16 h17 dX12_law_95 ?_
      obtain ⟨h18, hq⟩ := hq
      obtain ⟨h19, hq⟩ := hq
      refine q_iast C hw hw.2.2.1 h18 h19 dX12_law_96 (fun H locs hw => ?_)
      generalize e21 : uI M10 q12 (Int32.toNatClampNeg x1) (mI M10 q14 (Int32.toNatClampNeg x1)) = M20 at hw
      replace hq := hq M20 e21.symm
      have e3 : mR M20 a0 29 = some q2 := by rw [← e21, mR_uI]; exact e3
      have e5 : mR M20 a0 34 = some q4 := by rw [← e21, mR_uI]; exact e5
      have e13 : mR M20 a0 30 = some q12 := by rw [← e21, mR_uI]; exact e13
      have e15 : mR M20 a0 35 = some q14 := by rw [← e21, mR_uI]; exact e15
      refine lv_aload_n hx hb dX12_law_97 rfl (lv_at hl 0 rfl) ?_
      obtain ⟨q22, e23, hq⟩ := hq
      refine gfX12_60 C hw hw.2.2.1 h0 e23 dX12_law_98 ?_
      refine lv_iload_n hx hb dX12_law_101 rfl (lv_at hl 1 rfl) ?_
      refine lv_aload_n hx hb dX12_law_102 rfl (lv_at hl 0 rfl) ?_
      obtain ⟨q24, e25, hq⟩ := hq
      refine gfX12_75 C hw hw.2.2.1 h0 e25 dX12_law_103 ?_
      refine lv_iload_n hx hb dX12_law_106 rfl (lv_at hl 1 rfl) ?_
      obtain ⟨h26, hq⟩ := hq
      obtain ⟨h27, hq⟩ := hq
      refine q_iald C hw hw.2.2.1 h26 h27 dX12_law_107 ?_
      obtain ⟨h28, hq⟩ := hq
      obtain ⟨h29, hq⟩ := hq
      refine q_iast C hw hw.2.2.1 h28 h29 dX12_law_108 (fun H locs hw => ?_)
      generalize e31 : uI M20 q22 (Int32.toNatClampNeg x1) (mI M20 q24 (Int32.toNatClampNeg x1)) = M30 at hw
      replace hq := hq M30 e31.symm
      have e3 : mR M30 a0 29 = some q2 := by rw [← e31, mR_uI]; exact e3
      have e5 : mR M30 a0 34 = some q4 := by rw [← e31, mR_uI]; exact e5
      have e13 : mR M30 a0 30 = some q12 := by rw [← e31, mR_uI]; exact e13
      have e15 : mR M30 a0 35 = some q14 := by rw [← e31, mR_uI]; exact e15
      have e23 : mR M30 a0 31 = some q22 := by rw [← e31, mR_uI]; exact e23
      have e25 : mR M30 a0 36 = some q24 := by rw [← e31, mR_uI]; exact e25
      refine lv_aload_n hx hb dX12_law_109 rfl (lv_at hl 0 rfl) ?_
      obtain ⟨q32, e33, hq⟩ := hq
      refine gfX12_63 C hw hw.2.2.1 h0 e33 dX12_law_110 ?_
      refine lv_iload_n hx hb dX12_law_113 rfl (lv_at hl 1 rfl) ?_
      refine lv_aload_n hx hb dX12_law_114 rfl (lv_at hl 0 rfl) ?_
      obtain ⟨q34, e35, hq⟩ := hq
      refine gfX12_78 C hw hw.2.2.1 h0 e35 dX12_law_115 ?_
      refine lv_iload_n hx hb dX12_law_118 rfl (lv_at hl 1 rfl) ?_
      obtain ⟨h36, hq⟩ := hq
      obtain ⟨h37, hq⟩ := hq
      refine q_iald C hw hw.2.2.1 h36 h37 dX12_law_119 ?_
      obtain ⟨h38, hq⟩ := hq
      obtain ⟨h39, hq⟩ := hq
      refine q_iast C hw hw.2.2.1 h38 h39 dX12_law_120 (fun H locs hw => ?_)
      generalize e41 : uI M30 q32 (Int32.toNatClampNeg x1) (mI M30 q34 (Int32.toNatClampNeg x1)) = M40 at hw
      replace hq := hq M40 e41.symm
      have e3 : mR M40 a0 29 = some q2 := by rw [← e41, mR_uI]; exact e3
      have e5 : mR M40 a0 34 = some q4 := by rw [← e41, mR_uI]; exact e5
      have e13 : mR M40 a0 30 = some q12 := by rw [← e41, mR_uI]; exact e13
      have e15 : mR M40 a0 35 = some q14 := by rw [← e41, mR_uI]; exact e15
      have e23 : mR M40 a0 31 = some q22 := by rw [← e41, mR_uI]; exact e23
      have e25 : mR M40 a0 36 = some q24 := by rw [← e41, mR_uI]; exact e25
      have e33 : mR M40 a0 32 = some q32 := by rw [← e41, mR_uI]; exact e33
      have e35 : mR M40 a0 37 = some q34 := by rw [← e41, mR_uI]; exact e35
      refine lv_aload_n hx hb dX12_law_121 rfl (lv_at hl 0 rfl) ?_
      obtain ⟨q42, e43, hq⟩ := hq
      refine gfX12_66 C hw hw.2.2.1 h0 e43 dX12_law_122 ?_
      refine lv_iload_n hx hb dX12_law_125 rfl (lv_at hl 1 rfl) ?_
      refine lv_aload_n hx hb dX12_law_126 rfl (lv_at hl 0 rfl) ?_
      obtain ⟨q44, e45, hq⟩ := hq
      refine gfX12_81 C hw hw.2.2.1 h0 e45 dX12_law_127 ?_
      refine lv_iload_n hx hb dX12_law_130 rfl (lv_at hl 1 rfl) ?_
      obtain ⟨h46, hq⟩ := hq
      obtain ⟨h47, hq⟩ := hq
      refine q_zald C hw hw.2.2.1 h46 h47 dX12_law_131 ?_
      obtain ⟨h48, hq⟩ := hq
      obtain ⟨h49, hq⟩ := hq
      refine q_zast C hw hw.2.2.1 h48 h49 dX12_law_132 (fun H locs hw => ?_)
      generalize e51 : uI M40 q42 (Int32.toNatClampNeg x1) (vp_nar .boolean (mI M40 q44 (Int32.toNatClampNeg x1))) = M50 at hw
      replace hq := hq M50 e51.symm
      have e3 : mR M50 a0 29 = some q2 := by rw [← e51, mR_uI]; exact e3
      have e5 : mR M50 a0 34 = some q4 := by rw [← e51, mR_uI]; exact e5
      have e13 : mR M50 a0 30 = some q12 := by rw [← e51, mR_uI]; exact e13
      have e15 : mR M50 a0 35 = some q14 := by rw [← e51, mR_uI]; exact e15
      have e23 : mR M50 a0 31 = some q22 := by rw [← e51, mR_uI]; exact e23
      have e25 : mR M50 a0 36 = some q24 := by rw [← e51, mR_uI]; exact e25
      have e33 : mR M50 a0 32 = some q32 := by rw [← e51, mR_uI]; exact e33
      have e35 : mR M50 a0 37 = some q34 := by rw [← e51, mR_uI]; exact e35
      have e43 : mR M50 a0 33 = some q42 := by rw [← e51, mR_uI]; exact e43
      have e45 : mR M50 a0 38 = some q44 := by rw [← e51, mR_uI]; exact e45
      refine lv_aload_n hx hb dX12_law_133 rfl (lv_at hl 0 rfl) ?_
      refine lv_dup hx hb dX12_law_134 rfl ?_
      refine gfX12_270 C hw hw.2.2.1 h0 dX12_law_135 ?_
      refine lv_aload_n hx hb dX12_law_138 rfl (lv_at hl 0 rfl) ?_
      refine gfX12_54 C hw hw.2.2.1 h0 e3 dX12_law_139 ?_
      refine lv_iload_n hx hb dX12_law_142 rfl (lv_at hl 1 rfl) ?_
      refine q_iald C hw hw.2.2.1 h8 h9 dX12_law_143 ?_
      refine lv_iadd hx hb dX12_law_144 ?_
      refine pfX12_270 C hw hw.2.2.1 h0 dX12_law_145 (fun H locs hw => ?_)
      generalize e53 : uI M50 a0 40 ((mI M50 a0 40) + (mI M50 q2 (Int32.toNatClampNeg x1))) = M52 at hw
      replace hq := hq M52 e53.symm
      have e3 : mR M52 a0 29 = some q2 := by rw [← e53, mR_uI]; exact e3
      have e5 : mR M52 a0 34 = some q4 := by rw [← e53, mR_uI]; exact e5
      have e13 : mR M52 a0 30 = some q12 := by rw [← e53, mR_uI]; exact e13
      have e15 : mR M52 a0 35 = some q14 := by rw [← e53, mR_uI]; exact e15
      have e23 : mR M52 a0 31 = some q22 := by rw [← e53, mR_uI]; exact e23
      have e25 : mR M52 a0 36 = some q24 := by rw [← e53, mR_uI]; exact e25
      have e33 : mR M52 a0 32 = some q32 := by rw [← e53, mR_uI]; exact e33
      have e35 : mR M52 a0 37 = some q34 := by rw [← e53, mR_uI]; exact e35
      have e43 : mR M52 a0 33 = some q42 := by rw [← e53, mR_uI]; exact e43
      have e45 : mR M52 a0 38 = some q44 := by rw [← e53, mR_uI]; exact e45
      refine lv_iinc (v := (x1 + 1)) (lv' := [(1, .int (x1 + 1)), (0, .ref a0)]) hx hb dX12_law_148 hl (k := 1) rfl rfl (by decide) rfl (fun ls hl => ?_)
      refine lv_goto (tgt := 65) hx hb dX12_law_151 (by decide) ?_
      exact hk65 _ _ _ _ _ hq hw (lv_sub hl [1, 0] rfl)
set_option maxHeartbeats 4000000 in
set_option maxRecDepth 100000 in
theorem ct_X12_law {l : Launch} {g : Gh} {M0 : Mem} {a0 : Nat} {post : Int32 → Mem → Prop}  (hq : wp_X12_law  g M0 a0 post) : Ct l g yX12_law cX12_law 2 (some .int) 5 0 0 [.ref a0] M0 (pI post) := by
  unfold wp_X12_law at hq
  obtain ⟨h0, hq⟩ := hq
  refine Ct.of (by decide) (Nat.le_of_ble_eq_true rfl) ?_
  intro p e s m below meth c ls C hr hlk hn hl hw
  have hx := C.1.1
  have hb := C.1.2.1
  have hl : lv_has ls 2 [(0, .ref a0)] := hl
  refine lv_aload_n hx hb dX12_law_0 rfl (lv_at hl 0 rfl) ?_
  refine lv_iconst (v := 0) hx hb dX12_law_1 (by decide) ?_
  refine pfX12_123 C hw hw.2.2.1 h0 dX12_law_2 (fun H locs hw => ?_)
  generalize e55 : uI M0 a0 0 0 = M54 at hw
  replace hq := hq M54 e55.symm
  refine lv_aload_n hx hb dX12_law_5 rfl (lv_at hl 0 rfl) ?_
  refine lv_aload_n hx hb dX12_law_6 rfl (lv_at hl 0 rfl) ?_
  refine gfX12_127 C hw hw.2.2.1 h0 dX12_law_7 ?_
  refine pfX12_134 C hw hw.2.2.1 h0 dX12_law_10 (fun H locs hw => ?_)
  generalize e57 : uI M54 a0 3 (mI M54 a0 2) = M56 at hw
  replace hq := hq M56 e57.symm
  refine lv_aload_n hx hb dX12_law_13 rfl (lv_at hl 0 rfl) ?_
  refine lv_iconst (v := 0) hx hb dX12_law_14 (by decide) ?_
  refine pfX12_127 C hw hw.2.2.1 h0 dX12_law_15 (fun H locs hw => ?_)
  generalize e59 : uI M56 a0 2 0 = M58 at hw
  replace hq := hq M58 e59.symm
  refine lv_aload_n hx hb dX12_law_18 rfl (lv_at hl 0 rfl) ?_
  refine gfX12_247 C hw hw.2.2.1 h0 dX12_law_19 ?_
  refine lv_if_eq (tgt := 29) hx hb dX12_law_22 (by decide) (fun c60 => ?_) (fun c60 => ?_)
  · replace hq := hq.1 c60
    refine lv_aload_n hx hb dX12_law_29 rfl (lv_at hl 0 rfl) ?_
    refine lv_iconst (v := 0) hx hb dX12_law_30 (by decide) ?_
    refine pfX12_137 C hw hw.2.2.1 h0 dX12_law_31 (fun H locs hw => ?_)
    generalize e62 : uI M58 a0 4 0 = M61 at hw
    replace hq := hq M61 e62.symm
    refine lv_aload_n hx hb dX12_law_34 rfl (lv_at hl 0 rfl) ?_
    refine lv_iconst (v := 0) hx hb dX12_law_35 (by decide) ?_
    refine pfX12_175 C hw hw.2.2.1 h0 dX12_law_36 (fun H locs hw => ?_)
    generalize e64 : uI M61 a0 9 0 = M63 at hw
    replace hq := hq M63 e64.symm
    refine lv_aload_n hx hb dX12_law_39 rfl (lv_at hl 0 rfl) ?_
    refine lv_iconst (v := 0) hx hb dX12_law_40 (by decide) ?_
    refine r_callV (T := TX12) (N := 67) (ci := 12) (index := 202) (n := 1) (d2 := 2) (mc := 0) (ms := 0) (As := [.int 0]) (rest := []) C hw (ct_X12_go hq) kvX12_202 hq.1 (by decide) rfl ⟨by decide, by decide⟩ ⟨by decide, by decide⟩ rfl hl.1 rfl (Nat.le_of_ble_eq_true rfl) dX12_law_41 (fun r M66 H locs hp hle hw => ?_)
    obtain ⟨rfl, hq⟩ := hp
    refine W.eq (g2 := F0 m 44 ls []) rfl ?_
    refine lv_aload_n hx hb dX12_law_44 rfl (lv_at hl 0 rfl) ?_
    refine r_callV (T := TX12) (N := 67) (ci := 12) (index := 267) (n := 0) (d2 := 4) (mc := 0) (ms := 0) (As := []) (rest := []) C hw (ct_X12_readLaw hq) kvX12_267 hq.1 (by decide) rfl ⟨by decide, by decide⟩ ⟨by decide, by decide⟩ rfl hl.1 rfl (Nat.le_of_ble_eq_true rfl) dX12_law_45 (fun r M68 H locs hp hle hw => ?_)
    obtain ⟨v67, rfl, hq⟩ := hp
    refine W.eq (g2 := F0 m 48 ls [.int v67]) rfl ?_
    refine lv_if_ne (tgt := 58) hx hb dX12_law_48 (by decide) (fun c69 => ?_) (fun c69 => ?_)
    · replace hq := hq.2 c69
      refine lv_aload_n hx hb dX12_law_58 rfl (lv_at hl 0 rfl) ?_
      refine lv_iconst (v := 0) hx hb dX12_law_59 (by decide) ?_
      refine pfX12_270 C hw hw.2.2.1 h0 dX12_law_60 (fun H locs hw => ?_)
      generalize e71 : uI M68 a0 40 0 = M70 at hw
      replace hq := hq M70 e71.symm
      refine lv_iconst (v := 0) hx hb dX12_law_63 (by decide) ?_
      refine lv_istore_n (lv' := [(1, .int 0), (0, .ref a0)]) hx hb dX12_law_64 rfl hl (by decide) rfl (fun ls hl => ?_)
      obtain ⟨nf, hq⟩ := hq
      exact lp_X12_law_65  C hr hlk hn h0  nf _ _ _ _ _ hq hw (lv_sub hl [1, 0] rfl)
    · replace hq := hq.1 c69
      refine lv_iconst (v := (-1)) hx hb dX12_law_51 (by decide) ?_
      refine lv_aload_n hx hb dX12_law_52 rfl (lv_at hl 0 rfl) ?_
      refine gfX12_178 C hw hw.2.2.1 h0 dX12_law_53 ?_
      refine lv_isub hx hb dX12_law_56 ?_
      exact r_iret C hr hlk hw dX12_law_57 (Nat.le_refl _) (Nat.le_refl _) ⟨_, rfl, hq⟩
  · replace hq := hq.2 c60
    refine lv_sipush (v := (-300)) hx hb dX12_law_25 (by decide) ?_
    exact r_iret C hr hlk hw dX12_law_28 (Nat.le_refl _) (Nat.le_refl _) ⟨_, rfl, hq⟩

set_option maxRecDepth 100000 in
def wp_X12_fault  (g : Gh) (M0 : Mem) (a0 : Nat) (post : Int32 → Mem → Prop) : Prop :=
  okc (gB g) M0 a0 12 ∧ (∀ M1, M1 = uI M0 a0 0 0 → (post (mI M1 a0 9) M1))
set_option maxHeartbeats 4000000 in
set_option maxRecDepth 100000 in
theorem ct_X12_fault {l : Launch} {g : Gh} {M0 : Mem} {a0 : Nat} {post : Int32 → Mem → Prop}  (hq : wp_X12_fault  g M0 a0 post) : Ct l g yX12_fault cX12_fault 1 (some .int) 0 0 0 [.ref a0] M0 (pI post) := by
  unfold wp_X12_fault at hq
  obtain ⟨h0, hq⟩ := hq
  refine Ct.of (by decide) (Nat.le_of_ble_eq_true rfl) ?_
  intro p e s m below meth c ls C hr hlk hn hl hw
  have hx := C.1.1
  have hb := C.1.2.1
  have hl : lv_has ls 1 [(0, .ref a0)] := hl
  refine lv_aload_n hx hb dX12_fault_0 rfl (lv_at hl 0 rfl) ?_
  refine lv_iconst (v := 0) hx hb dX12_fault_1 (by decide) ?_
  refine pfX12_123 C hw hw.2.2.1 h0 dX12_fault_2 (fun H locs hw => ?_)
  generalize e2 : uI M0 a0 0 0 = M1 at hw
  replace hq := hq M1 e2.symm
  refine lv_aload_n hx hb dX12_fault_5 rfl (lv_at hl 0 rfl) ?_
  refine gfX12_175 C hw hw.2.2.1 h0 dX12_fault_6 ?_
  exact r_iret C hr hlk hw dX12_fault_9 (Nat.le_refl _) (Nat.le_refl _) ⟨_, rfl, hq⟩

set_option maxRecDepth 100000 in
def wp_X12_mayCome  (g : Gh) (M0 : Mem) (a0 : Nat) (p1 : Int32) (p2 : Int32) (p3 : Int32) (p4 : Int32) (post : Int32 → Mem → Prop) : Prop :=
  okc (gB g) M0 a0 12 ∧ (∃ q1, mR M0 a0 23 = some q1 ∧ (okc (gB g) M0 q1 17 ∧ (vp_in p1 (mN M0 q1) ∧ ((((mI M0 q1 (Int32.toNatClampNeg p1)) = 0) → ∃ q6, mR M0 a0 22 = some q6 ∧ (okc (gB g) M0 q6 14 ∧ (vp_in p1 (mN M0 q6) ∧ ((((((mI M0 q6 (Int32.toNatClampNeg p1)) >>> (p2 &&& 31)) &&& 1) = 0) → (((((mI M0 q6 (Int32.toNatClampNeg p1)) >>> (p3 &&& 31)) &&& 1) = 0) → ∃ q12, mR M0 a0 43 = some q12 ∧ (∃ q14, mR M0 a0 19 = some q14 ∧ (okc (gB g) M0 q14 14 ∧ (vp_in p1 (mN M0 q14) ∧ (okc (gB g) M0 q12 14 ∧ (vp_in (mI M0 q14 (Int32.toNatClampNeg p1)) (mN M0 q12) ∧ (((p4 ≤ (mI M0 q12 (Int32.toNatClampNeg (mI M0 q14 (Int32.toNatClampNeg p1))))) → post 0 M0) ∧ (¬ (p4 ≤ (mI M0 q12 (Int32.toNatClampNeg (mI M0 q14 (Int32.toNatClampNeg p1))))) → post 1 M0)))))))) ∧ (¬ ((((mI M0 q6 (Int32.toNatClampNeg p1)) >>> (p3 &&& 31)) &&& 1) = 0) → post 0 M0)) ∧ (¬ ((((mI M0 q6 (Int32.toNatClampNeg p1)) >>> (p2 &&& 31)) &&& 1) = 0) → post 0 M0))))) ∧ (¬ ((mI M0 q1 (Int32.toNatClampNeg p1)) = 0) → post 0 M0)))))
set_option maxHeartbeats 4000000 in
set_option maxRecDepth 100000 in
theorem ct_X12_mayCome {l : Launch} {g : Gh} {M0 : Mem} {a0 : Nat} {p1 : Int32} {p2 : Int32} {p3 : Int32} {p4 : Int32} {post : Int32 → Mem → Prop}  (hq : wp_X12_mayCome  g M0 a0 p1 p2 p3 p4 post) : Ct l g yX12_mayCome cX12_mayCome 5 (some .boolean) 0 0 0 [.ref a0, .int p1, .int p2, .int p3, .int p4] M0 (pI post) := by
  unfold wp_X12_mayCome at hq
  obtain ⟨h0, hq⟩ := hq
  refine Ct.of (by decide) (Nat.le_of_ble_eq_true rfl) ?_
  intro p e s m below meth c ls C hr hlk hn hl hw
  have hx := C.1.1
  have hb := C.1.2.1
  have hl : lv_has ls 5 [(0, .ref a0), (1, .int p1), (2, .int p2), (3, .int p3), (4, .int p4)] := hl
  refine lv_aload_n hx hb dX12_mayCome_0 rfl (lv_at hl 0 rfl) ?_
  obtain ⟨q1, e2, hq⟩ := hq
  refine gfX12_41 C hw hw.2.2.1 h0 e2 dX12_mayCome_1 ?_
  refine lv_iload_n hx hb dX12_mayCome_4 rfl (lv_at hl 1 rfl) ?_
  obtain ⟨h3, hq⟩ := hq
  obtain ⟨h4, hq⟩ := hq
  refine q_zald C hw hw.2.2.1 h3 h4 dX12_mayCome_5 ?_
  refine lv_if_ne (tgt := 55) hx hb dX12_mayCome_6 (by decide) (fun c5 => ?_) (fun c5 => ?_)
  · replace hq := hq.2 c5
    refine lv_iconst (v := 0) hx hb dX12_mayCome_55 (by decide) ?_
    exact r_zret C hr hlk hw dX12_mayCome_56 (Nat.le_refl _) (Nat.le_refl _) (by decide) ⟨_, rfl, hq⟩
  · replace hq := hq.1 c5
    refine lv_aload_n hx hb dX12_mayCome_9 rfl (lv_at hl 0 rfl) ?_
    obtain ⟨q6, e7, hq⟩ := hq
    refine gfX12_38 C hw hw.2.2.1 h0 e7 dX12_mayCome_10 ?_
    refine lv_iload_n hx hb dX12_mayCome_13 rfl (lv_at hl 1 rfl) ?_
    obtain ⟨h8, hq⟩ := hq
    obtain ⟨h9, hq⟩ := hq
    refine q_iald C hw hw.2.2.1 h8 h9 dX12_mayCome_14 ?_
    refine lv_iload_n hx hb dX12_mayCome_15 rfl (lv_at hl 2 rfl) ?_
    refine lv_ishr hx hb dX12_mayCome_16 ?_
    refine lv_iconst (v := 1) hx hb dX12_mayCome_17 (by decide) ?_
    refine lv_iand hx hb dX12_mayCome_18 ?_
    refine lv_if_ne (tgt := 55) hx hb dX12_mayCome_19 (by decide) (fun c10 => ?_) (fun c10 => ?_)
    · replace hq := hq.2 c10
      refine lv_iconst (v := 0) hx hb dX12_mayCome_55 (by decide) ?_
      exact r_zret C hr hlk hw dX12_mayCome_56 (Nat.le_refl _) (Nat.le_refl _) (by decide) ⟨_, rfl, hq⟩
    · replace hq := hq.1 c10
      refine lv_aload_n hx hb dX12_mayCome_22 rfl (lv_at hl 0 rfl) ?_
      refine gfX12_38 C hw hw.2.2.1 h0 e7 dX12_mayCome_23 ?_
      refine lv_iload_n hx hb dX12_mayCome_26 rfl (lv_at hl 1 rfl) ?_
      refine q_iald C hw hw.2.2.1 h8 h9 dX12_mayCome_27 ?_
      refine lv_iload_n hx hb dX12_mayCome_28 rfl (lv_at hl 3 rfl) ?_
      refine lv_ishr hx hb dX12_mayCome_29 ?_
      refine lv_iconst (v := 1) hx hb dX12_mayCome_30 (by decide) ?_
      refine lv_iand hx hb dX12_mayCome_31 ?_
      refine lv_if_ne (tgt := 55) hx hb dX12_mayCome_32 (by decide) (fun c11 => ?_) (fun c11 => ?_)
      · replace hq := hq.2 c11
        refine lv_iconst (v := 0) hx hb dX12_mayCome_55 (by decide) ?_
        exact r_zret C hr hlk hw dX12_mayCome_56 (Nat.le_refl _) (Nat.le_refl _) (by decide) ⟨_, rfl, hq⟩
      · replace hq := hq.1 c11
        refine lv_aload_n hx hb dX12_mayCome_35 rfl (lv_at hl 0 rfl) ?_
        obtain ⟨q12, e13, hq⟩ := hq
        refine gfX12_90 C hw hw.2.2.1 h0 e13 dX12_mayCome_36 ?_
        refine lv_aload_n hx hb dX12_mayCome_39 rfl (lv_at hl 0 rfl) ?_
        obtain ⟨q14, e15, hq⟩ := hq
        refine gfX12_29 C hw hw.2.2.1 h0 e15 dX12_mayCome_40 ?_
        refine lv_iload_n hx hb dX12_mayCome_43 rfl (lv_at hl 1 rfl) ?_
        obtain ⟨h16, hq⟩ := hq
        obtain ⟨h17, hq⟩ := hq
        refine q_iald C hw hw.2.2.1 h16 h17 dX12_mayCome_44 ?_
        obtain ⟨h18, hq⟩ := hq
        obtain ⟨h19, hq⟩ := hq
        refine q_iald C hw hw.2.2.1 h18 h19 dX12_mayCome_45 ?_
        refine lv_iload hx hb dX12_mayCome_46 (lv_at hl 4 rfl) ?_
        refine lv_icmp_ge (tgt := 55) hx hb dX12_mayCome_48 (by decide) (fun c20 => ?_) (fun c20 => ?_)
        · replace hq := hq.1 c20
          refine lv_iconst (v := 0) hx hb dX12_mayCome_55 (by decide) ?_
          exact r_zret C hr hlk hw dX12_mayCome_56 (Nat.le_refl _) (Nat.le_refl _) (by decide) ⟨_, rfl, hq⟩
        · replace hq := hq.2 c20
          refine lv_iconst (v := 1) hx hb dX12_mayCome_51 (by decide) ?_
          refine lv_goto (tgt := 56) hx hb dX12_mayCome_52 (by decide) ?_
          exact r_zret C hr hlk hw dX12_mayCome_56 (Nat.le_refl _) (Nat.le_refl _) (by decide) ⟨_, rfl, hq⟩
