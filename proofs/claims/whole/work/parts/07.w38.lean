set_option maxRecDepth 100000 in
def lb_X12_isAhead_113  (g : Gh) (M0 : Mem) (a0 : Nat) (p1 : Int32) (p2 : Int32) (post : Int32 → Mem → Prop)    (M : Mem) : Prop :=
  post 1 M
set_option maxRecDepth 100000 in
def lb_X12_isAhead_50  (g : Gh) (M0 : Mem) (a0 : Nat) (p1 : Int32) (p2 : Int32) (post : Int32 → Mem → Prop)  (x3 : Int32)  (M : Mem) : Prop :=
  ∃ q1, mR M a0 64 = some q1 ∧ (okc (gB g) M0 q1 14 ∧ (vp_in p2 (mN M0 q1) ∧ (∃ q5, mR M a0 65 = some q5 ∧ (okc (gB g) M0 q5 14 ∧ (vp_in p2 (mN M0 q5) ∧ (((x3 = ((mI M q1 (Int32.toNatClampNeg p2)) - (mI M q5 (Int32.toNatClampNeg p2)))) → vp_in p1 (mN M0 q1) ∧ ((((mI M q1 (Int32.toNatClampNeg p1)) = (mI M q1 (Int32.toNatClampNeg p2))) → ((p2 ≤ p1) → post 0 M) ∧ (¬ (p2 ≤ p1) → post 1 M)) ∧ (¬ ((mI M q1 (Int32.toNatClampNeg p1)) = (mI M q1 (Int32.toNatClampNeg p2))) → (((mI M q1 (Int32.toNatClampNeg p1)) ≤ (mI M q1 (Int32.toNatClampNeg p2))) → post 0 M) ∧ (¬ ((mI M q1 (Int32.toNatClampNeg p1)) ≤ (mI M q1 (Int32.toNatClampNeg p2))) → lb_X12_isAhead_113  g M0 a0 p1 p2 post   M)))) ∧ (¬ (x3 = ((mI M q1 (Int32.toNatClampNeg p2)) - (mI M q5 (Int32.toNatClampNeg p2)))) → ((x3 ≤ ((mI M q1 (Int32.toNatClampNeg p2)) - (mI M q5 (Int32.toNatClampNeg p2)))) → post 0 M) ∧ (¬ (x3 ≤ ((mI M q1 (Int32.toNatClampNeg p2)) - (mI M q5 (Int32.toNatClampNeg p2)))) → post 1 M))))))))
set_option maxRecDepth 100000 in
def wp_X12_isAhead  (g : Gh) (M0 : Mem) (a0 : Nat) (p1 : Int32) (p2 : Int32) (post : Int32 → Mem → Prop) : Prop :=
  okc (gB g) M0 a0 12 ∧ (∃ q15, mR M0 a0 62 = some q15 ∧ (okc (gB g) M0 q15 14 ∧ (vp_in p1 (mN M0 q15) ∧ (vp_in p2 (mN M0 q15) ∧ ((((mI M0 q15 (Int32.toNatClampNeg p1)) = (mI M0 q15 (Int32.toNatClampNeg p2))) → ∃ q21, mR M0 a0 64 = some q21 ∧ (okc (gB g) M0 q21 14 ∧ (vp_in p1 (mN M0 q21) ∧ (∃ q25, mR M0 a0 65 = some q25 ∧ (okc (gB g) M0 q25 14 ∧ (vp_in p1 (mN M0 q25) ∧ (lb_X12_isAhead_50  g M0 a0 p1 p2 post  ((mI M0 q21 (Int32.toNatClampNeg p1)) - (mI M0 q25 (Int32.toNatClampNeg p1))) M0))))))) ∧ (¬ ((mI M0 q15 (Int32.toNatClampNeg p1)) = (mI M0 q15 (Int32.toNatClampNeg p2))) → (((mI M0 q15 (Int32.toNatClampNeg p1)) ≤ (mI M0 q15 (Int32.toNatClampNeg p2))) → post 0 M0) ∧ (¬ ((mI M0 q15 (Int32.toNatClampNeg p1)) ≤ (mI M0 q15 (Int32.toNatClampNeg p2))) → post 1 M0)))))))
set_option maxHeartbeats 4000000 in
set_option maxRecDepth 100000 in
theorem lt_X12_isAhead_113 {l : Launch} {g : Gh} {p : Program} {e : Env} {s : State} {m : MethodId} {args : Array Value} {below : List Frame} {meth : Method} {c : Code} {H : Heap} {locs : List Loc} {ls : Array Slot} {M0 M : Mem} {a0 : Nat} {p1 : Int32} {p2 : Int32} {post : Int32 → Mem → Prop}    (C : Cx g p s m args c cX12_isAhead 5 RX12) (hr : meth.sig.returnType = (some .boolean)) (hlk : meth.locks = false) (hn : meth.name = "isAhead") (h0 : okc (gB g) M0 a0 12)  (hq : lb_X12_isAhead_113  g M0 a0 p1 p2 post   M) (hw : Wd g s M0 M H locs) (hl : lv_has ls 5 [(0, .ref a0), (1, .int p1), (2, .int p2)]) : W p l e (rmo 0 0 0) s m args below meth c H locs 0 0 (MQ below (Cq g M0 (pI post)) args s 0 0 (gA g)) (F0 m 113 ls []) := by
  have hx := C.1.1
  have hb := C.1.2.1
  unfold lb_X12_isAhead_113 at hq
  refine lv_iconst (v := 1) hx hb dX12_isAhead_113 (by decide) ?_
  refine lv_goto (tgt := 131) hx hb dX12_isAhead_114 (by decide) ?_
  exact r_zret C hr hlk hw dX12_isAhead_131 (Nat.le_refl _) (Nat.le_refl _) (by decide) ⟨_, rfl, hq⟩
set_option maxHeartbeats 4000000 in
set_option maxRecDepth 100000 in
theorem lt_X12_isAhead_50 {l : Launch} {g : Gh} {p : Program} {e : Env} {s : State} {m : MethodId} {args : Array Value} {below : List Frame} {meth : Method} {c : Code} {H : Heap} {locs : List Loc} {ls : Array Slot} {M0 M : Mem} {a0 : Nat} {p1 : Int32} {p2 : Int32} {post : Int32 → Mem → Prop} {x3 : Int32}   (C : Cx g p s m args c cX12_isAhead 5 RX12) (hr : meth.sig.returnType = (some .boolean)) (hlk : meth.locks = false) (hn : meth.name = "isAhead") (h0 : okc (gB g) M0 a0 12)  (hq : lb_X12_isAhead_50  g M0 a0 p1 p2 post  x3 M) (hw : Wd g s M0 M H locs) (hl : lv_has ls 5 [(0, .ref a0), (1, .int p1), (2, .int p2), (3, .int x3)]) : W p l e (rmo 0 0 0) s m args below meth c H locs 0 0 (MQ below (Cq g M0 (pI post)) args s 0 0 (gA g)) (F0 m 50 ls []) := by
  have hx := C.1.1
  have hb := C.1.2.1
  unfold lb_X12_isAhead_50 at hq
  refine lv_aload_n hx hb dX12_isAhead_50 rfl (lv_at hl 0 rfl) ?_
  obtain ⟨q1, e2, hq⟩ := hq
  refine gfX12_117 C hw hw.2.2.1 h0 e2 dX12_isAhead_51 ?_
  refine lv_iload_n hx hb dX12_isAhead_54 rfl (lv_at hl 2 rfl) ?_
  obtain ⟨h3, hq⟩ := hq
  obtain ⟨h4, hq⟩ := hq
  refine q_iald C hw hw.2.2.1 h3 h4 dX12_isAhead_55 ?_
  refine lv_aload_n hx hb dX12_isAhead_56 rfl (lv_at hl 0 rfl) ?_
  obtain ⟨q5, e6, hq⟩ := hq
  refine gfX12_120 C hw hw.2.2.1 h0 e6 dX12_isAhead_57 ?_
  refine lv_iload_n hx hb dX12_isAhead_60 rfl (lv_at hl 2 rfl) ?_
  obtain ⟨h7, hq⟩ := hq
  obtain ⟨h8, hq⟩ := hq
  refine q_iald C hw hw.2.2.1 h7 h8 dX12_isAhead_61 ?_
  refine lv_isub hx hb dX12_isAhead_62 ?_
  refine lv_istore (lv' := [(4, .int ((mI M q1 (Int32.toNatClampNeg p2)) - (mI M q5 (Int32.toNatClampNeg p2)))), (0, .ref a0), (1, .int p1), (2, .int p2), (3, .int x3)]) hx hb dX12_isAhead_63 hl (by decide) rfl (fun ls hl => ?_)
  refine lv_iload_n hx hb dX12_isAhead_65 rfl (lv_at hl 4 rfl) ?_
  refine lv_iload hx hb dX12_isAhead_66 (lv_at hl 0 rfl) ?_
  refine lv_icmp_eq (tgt := 83) hx hb dX12_isAhead_68 (by decide) (fun c9 => ?_) (fun c9 => ?_)
  · replace hq := hq.1 c9
    refine lv_aload_n hx hb dX12_isAhead_83 rfl (lv_at hl 1 rfl) ?_
    refine gfX12_117 C hw hw.2.2.1 h0 e2 dX12_isAhead_84 ?_
    refine lv_iload_n hx hb dX12_isAhead_87 rfl (lv_at hl 2 rfl) ?_
    obtain ⟨h10, hq⟩ := hq
    refine q_iald C hw hw.2.2.1 h3 h10 dX12_isAhead_88 ?_
    refine lv_aload_n hx hb dX12_isAhead_89 rfl (lv_at hl 1 rfl) ?_
    refine gfX12_117 C hw hw.2.2.1 h0 e2 dX12_isAhead_90 ?_
    refine lv_iload_n hx hb dX12_isAhead_93 rfl (lv_at hl 3 rfl) ?_
    refine q_iald C hw hw.2.2.1 h3 h4 dX12_isAhead_94 ?_
    refine lv_icmp_eq (tgt := 121) hx hb dX12_isAhead_95 (by decide) (fun c11 => ?_) (fun c11 => ?_)
    · replace hq := hq.1 c11
      refine lv_iload_n hx hb dX12_isAhead_121 rfl (lv_at hl 2 rfl) ?_
      refine lv_iload_n hx hb dX12_isAhead_122 rfl (lv_at hl 3 rfl) ?_
      refine lv_icmp_ge (tgt := 130) hx hb dX12_isAhead_123 (by decide) (fun c12 => ?_) (fun c12 => ?_)
      · replace hq := hq.1 c12
        refine lv_iconst (v := 0) hx hb dX12_isAhead_130 (by decide) ?_
        exact r_zret C hr hlk hw dX12_isAhead_131 (Nat.le_refl _) (Nat.le_refl _) (by decide) ⟨_, rfl, hq⟩
      · replace hq := hq.2 c12
        refine lv_iconst (v := 1) hx hb dX12_isAhead_126 (by decide) ?_
        refine lv_goto (tgt := 131) hx hb dX12_isAhead_127 (by decide) ?_
        exact r_zret C hr hlk hw dX12_isAhead_131 (Nat.le_refl _) (Nat.le_refl _) (by decide) ⟨_, rfl, hq⟩
    · replace hq := hq.2 c11
      refine lv_aload_n hx hb dX12_isAhead_98 rfl (lv_at hl 1 rfl) ?_
      refine gfX12_117 C hw hw.2.2.1 h0 e2 dX12_isAhead_99 ?_
      refine lv_iload_n hx hb dX12_isAhead_102 rfl (lv_at hl 2 rfl) ?_
      refine q_iald C hw hw.2.2.1 h3 h10 dX12_isAhead_103 ?_
      refine lv_aload_n hx hb dX12_isAhead_104 rfl (lv_at hl 1 rfl) ?_
      refine gfX12_117 C hw hw.2.2.1 h0 e2 dX12_isAhead_105 ?_
      refine lv_iload_n hx hb dX12_isAhead_108 rfl (lv_at hl 3 rfl) ?_
      refine q_iald C hw hw.2.2.1 h3 h4 dX12_isAhead_109 ?_
      refine lv_icmp_le (tgt := 117) hx hb dX12_isAhead_110 (by decide) (fun c13 => ?_) (fun c13 => ?_)
      · replace hq := hq.1 c13
        refine lv_iconst (v := 0) hx hb dX12_isAhead_117 (by decide) ?_
        refine lv_goto (tgt := 131) hx hb dX12_isAhead_118 (by decide) ?_
        exact r_zret C hr hlk hw dX12_isAhead_131 (Nat.le_refl _) (Nat.le_refl _) (by decide) ⟨_, rfl, hq⟩
      · replace hq := hq.2 c13
        exact lt_X12_isAhead_113  C hr hlk hn h0  hq hw (lv_sub hl [1, 2, 3] rfl)
  · replace hq := hq.2 c9
    refine lv_iload_n hx hb dX12_isAhead_71 rfl (lv_at hl 4 rfl) ?_
    refine lv_iload hx hb dX12_isAhead_72 (lv_at hl 0 rfl) ?_
    refine lv_icmp_le (tgt := 81) hx hb dX12_isAhead_74 (by decide) (fun c14 => ?_) (fun c14 => ?_)
    · replace hq := hq.1 c14
      refine lv_iconst (v := 0) hx hb dX12_isAhead_81 (by decide) ?_
      exact r_zret C hr hlk hw dX12_isAhead_82 (Nat.le_refl _) (Nat.le_refl _) (by decide) ⟨_, rfl, hq⟩
    · replace hq := hq.2 c14
      refine lv_iconst (v := 1) hx hb dX12_isAhead_77 (by decide) ?_
      refine lv_goto (tgt := 82) hx hb dX12_isAhead_78 (by decide) ?_
      exact r_zret C hr hlk hw dX12_isAhead_82 (Nat.le_refl _) (Nat.le_refl _) (by decide) ⟨_, rfl, hq⟩
set_option maxHeartbeats 4000000 in
set_option maxRecDepth 100000 in
theorem ct_X12_isAhead {l : Launch} {g : Gh} {M0 : Mem} {a0 : Nat} {p1 : Int32} {p2 : Int32} {post : Int32 → Mem → Prop}  (hq : wp_X12_isAhead  g M0 a0 p1 p2 post) : Ct l g yX12_isAhead cX12_isAhead 5 (some .boolean) 0 0 0 [.ref a0, .int p1, .int p2] M0 (pI post) := by
  unfold wp_X12_isAhead at hq
  obtain ⟨h0, hq⟩ := hq
  refine Ct.of (by decide) (Nat.le_of_ble_eq_true rfl) ?_
  intro p e s m below meth c ls C hr hlk hn hl hw
  have hx := C.1.1
  have hb := C.1.2.1
  have hl : lv_has ls 5 [(0, .ref a0), (1, .int p1), (2, .int p2)] := hl
  refine lv_aload_n hx hb dX12_isAhead_0 rfl (lv_at hl 0 rfl) ?_
  obtain ⟨q15, e16, hq⟩ := hq
  refine gfX12_111 C hw hw.2.2.1 h0 e16 dX12_isAhead_1 ?_
  refine lv_iload_n hx hb dX12_isAhead_4 rfl (lv_at hl 1 rfl) ?_
  obtain ⟨h17, hq⟩ := hq
  obtain ⟨h18, hq⟩ := hq
  refine q_iald C hw hw.2.2.1 h17 h18 dX12_isAhead_5 ?_
  refine lv_aload_n hx hb dX12_isAhead_6 rfl (lv_at hl 0 rfl) ?_
  refine gfX12_111 C hw hw.2.2.1 h0 e16 dX12_isAhead_7 ?_
  refine lv_iload_n hx hb dX12_isAhead_10 rfl (lv_at hl 2 rfl) ?_
  obtain ⟨h19, hq⟩ := hq
  refine q_iald C hw hw.2.2.1 h17 h19 dX12_isAhead_11 ?_
  refine lv_icmp_eq (tgt := 36) hx hb dX12_isAhead_12 (by decide) (fun c20 => ?_) (fun c20 => ?_)
  · replace hq := hq.1 c20
    refine lv_aload_n hx hb dX12_isAhead_36 rfl (lv_at hl 0 rfl) ?_
    obtain ⟨q21, e22, hq⟩ := hq
    refine gfX12_117 C hw hw.2.2.1 h0 e22 dX12_isAhead_37 ?_
    refine lv_iload_n hx hb dX12_isAhead_40 rfl (lv_at hl 1 rfl) ?_
    obtain ⟨h23, hq⟩ := hq
    obtain ⟨h24, hq⟩ := hq
    refine q_iald C hw hw.2.2.1 h23 h24 dX12_isAhead_41 ?_
    refine lv_aload_n hx hb dX12_isAhead_42 rfl (lv_at hl 0 rfl) ?_
    obtain ⟨q25, e26, hq⟩ := hq
    refine gfX12_120 C hw hw.2.2.1 h0 e26 dX12_isAhead_43 ?_
    refine lv_iload_n hx hb dX12_isAhead_46 rfl (lv_at hl 1 rfl) ?_
    obtain ⟨h27, hq⟩ := hq
    obtain ⟨h28, hq⟩ := hq
    refine q_iald C hw hw.2.2.1 h27 h28 dX12_isAhead_47 ?_
    refine lv_isub hx hb dX12_isAhead_48 ?_
    refine lv_istore_n (lv' := [(3, .int ((mI M0 q21 (Int32.toNatClampNeg p1)) - (mI M0 q25 (Int32.toNatClampNeg p1)))), (0, .ref a0), (1, .int p1), (2, .int p2)]) hx hb dX12_isAhead_49 rfl hl (by decide) rfl (fun ls hl => ?_)
    exact lt_X12_isAhead_50  C hr hlk hn h0  hq hw (lv_sub hl [1, 2, 3, 0] rfl)
  · replace hq := hq.2 c20
    refine lv_aload_n hx hb dX12_isAhead_15 rfl (lv_at hl 0 rfl) ?_
    refine gfX12_111 C hw hw.2.2.1 h0 e16 dX12_isAhead_16 ?_
    refine lv_iload_n hx hb dX12_isAhead_19 rfl (lv_at hl 1 rfl) ?_
    refine q_iald C hw hw.2.2.1 h17 h18 dX12_isAhead_20 ?_
    refine lv_aload_n hx hb dX12_isAhead_21 rfl (lv_at hl 0 rfl) ?_
    refine gfX12_111 C hw hw.2.2.1 h0 e16 dX12_isAhead_22 ?_
    refine lv_iload_n hx hb dX12_isAhead_25 rfl (lv_at hl 2 rfl) ?_
    refine q_iald C hw hw.2.2.1 h17 h19 dX12_isAhead_26 ?_
    refine lv_icmp_le (tgt := 34) hx hb dX12_isAhead_27 (by decide) (fun c29 => ?_) (fun c29 => ?_)
    · replace hq := hq.1 c29
      refine lv_iconst (v := 0) hx hb dX12_isAhead_34 (by decide) ?_
      exact r_zret C hr hlk hw dX12_isAhead_35 (Nat.le_refl _) (Nat.le_refl _) (by decide) ⟨_, rfl, hq⟩
    · replace hq := hq.2 c29
      refine lv_iconst (v := 1) hx hb dX12_isAhead_30 (by decide) ?_
      refine lv_goto (tgt := 35) hx hb dX12_isAhead_31 (by decide) ?_
      exact r_zret C hr hlk hw dX12_isAhead_35 (Nat.le_refl _) (Nat.le_refl _) (by decide) ⟨_, rfl, hq⟩

set_option maxRecDepth 100000 in
def lb_X12_table_93  (g : Gh) (M0 : Mem) (a0 : Nat) (p1 : Int32) (p2 : Int32) (post : Int32 → Mem → Prop)  (x3 : Int32)  (M : Mem) : Prop :=
  ((p2 = 0) → post x3 M) ∧ (¬ (p2 = 0) → ((p2 = 1) → ∃ q17, mR M a0 62 = some q17 ∧ (okc (gB g) M0 q17 14 ∧ (vp_in x3 (mN M0 q17) ∧ (post (mI M q17 (Int32.toNatClampNeg x3)) M)))) ∧ (¬ (p2 = 1) → ((p2 = 2) → ∃ q13, mR M a0 63 = some q13 ∧ (okc (gB g) M0 q13 14 ∧ (vp_in x3 (mN M0 q13) ∧ (post (mI M q13 (Int32.toNatClampNeg x3)) M)))) ∧ (¬ (p2 = 2) → ((p2 = 3) → ∃ q9, mR M a0 64 = some q9 ∧ (okc (gB g) M0 q9 14 ∧ (vp_in x3 (mN M0 q9) ∧ (post (mI M q9 (Int32.toNatClampNeg x3)) M)))) ∧ (¬ (p2 = 3) → ∃ q5, mR M a0 65 = some q5 ∧ (okc (gB g) M0 q5 14 ∧ (vp_in x3 (mN M0 q5) ∧ (post (mI M q5 (Int32.toNatClampNeg x3)) M)))))))
set_option maxRecDepth 100000 in
def lb_X12_table_78  (g : Gh) (M0 : Mem) (a0 : Nat) (p1 : Int32) (p2 : Int32) (post : Int32 → Mem → Prop) (bk31 : Int32 × Int32 × Mem → Prop) (x3 : Int32) (x4 : Int32) (x5 : Int32)  (M : Mem) : Prop :=
  ((x5 = p1) → bk31 (x4, (x4 + 1), M)) ∧ (¬ (x5 = p1) → bk31 (x3, (x4 + 1), M))
set_option maxRecDepth 100000 in
def bd_X12_table_44  (g : Gh) (M0 : Mem) (a0 : Nat) (p1 : Int32) (p2 : Int32) (post : Int32 → Mem → Prop) (bk31 : Int32 × Int32 × Mem → Prop) (bk44 : Int32 × Int32 × Int32 × Int32 × Mem → Prop) (x3 : Int32) (x4 : Int32) (x5 : Int32) (x6 : Int32)  (M : Mem) : Prop :=
  ((12 ≤ x6) → lb_X12_table_78  g M0 a0 p1 p2 post bk31 x3 x4 x5 M) ∧ (¬ (12 ≤ x6) → ((x6 = x4) → bk44 (x3, x4, x5, (x6 + 1), M)) ∧ (¬ (x6 = x4) → wp_X12_isAhead g M a0 x6 x4 (fun v24 M25 => ((v24 = 0) → bk44 (x3, x4, x5, (x6 + 1), M25)) ∧ (¬ (v24 = 0) → bk44 (x3, x4, (x5 + 1), (x6 + 1), M25)))))
set_option maxRecDepth 100000 in
def bd_X12_table_31  (g : Gh) (M0 : Mem) (a0 : Nat) (p1 : Int32) (p2 : Int32) (post : Int32 → Mem → Prop)  (bk31 : Int32 × Int32 × Mem → Prop) (x3 : Int32) (x4 : Int32)  (M : Mem) : Prop :=
  ((12 ≤ x4) → lb_X12_table_93  g M0 a0 p1 p2 post  x3 M) ∧ (¬ (12 ≤ x4) → (∃ n : Nat, lfp (fun bk z => bd_X12_table_44  g M0 a0 p1 p2 post bk31 bk z.1 z.2.1 z.2.2.1 z.2.2.2.1 z.2.2.2.2) n (x3, x4, 0, 0, M)))
set_option maxRecDepth 100000 in
def wp_X12_table  (g : Gh) (M0 : Mem) (a0 : Nat) (p1 : Int32) (p2 : Int32) (post : Int32 → Mem → Prop) : Prop :=
  okc (gB g) M0 a0 12 ∧ (∀ M28, M28 = uI M0 a0 0 0 → (((p1 < 0) → post (-1) M28) ∧ (¬ (p1 < 0) → ((12 ≤ p1) → post (-1) M28) ∧ (¬ (12 ≤ p1) → ((p2 < 0) → post (-1) M28) ∧ (¬ (p2 < 0) → ((p2 ≤ 4) → (∃ n : Nat, lfp (fun bk z => bd_X12_table_31  g M0 a0 p1 p2 post  bk z.1 z.2.1 z.2.2) n (0, 0, M28))) ∧ (¬ (p2 ≤ 4) → post (-1) M28))))))
set_option maxHeartbeats 4000000 in
set_option maxRecDepth 100000 in
theorem lt_X12_table_93 {l : Launch} {g : Gh} {p : Program} {e : Env} {s : State} {m : MethodId} {args : Array Value} {below : List Frame} {meth : Method} {c : Code} {H : Heap} {locs : List Loc} {ls : Array Slot} {M0 M : Mem} {a0 : Nat} {p1 : Int32} {p2 : Int32} {post : Int32 → Mem → Prop} {x3 : Int32}   (C : Cx g p s m args c cX12_table 7 RX12) (hr : meth.sig.returnType = (some .int)) (hlk : meth.locks = false) (hn : meth.name = "table") (h0 : okc (gB g) M0 a0 12)  (hq : lb_X12_table_93  g M0 a0 p1 p2 post  x3 M) (hw : Wd g s M0 M H locs) (hl : lv_has ls 7 [(0, .ref a0), (1, .int p1), (2, .int p2), (3, .int x3)]) : W p l e (rmo 1 0 0) s m args below meth c H locs 0 0 (MQ below (Cq g M0 (pI post)) args s 0 0 (gA g)) (F0 m 93 ls []) := by
  have hx := C.1.1
  have hb := C.1.2.1
  unfold lb_X12_table_93 at hq
  refine lv_iload_n hx hb dX12_table_93 rfl (lv_at hl 2 rfl) ?_
  refine lv_if_ne (tgt := 101) hx hb dX12_table_94 (by decide) (fun c1 => ?_) (fun c1 => ?_)
  · replace hq := hq.2 c1
    refine lv_iload_n hx hb dX12_table_101 rfl (lv_at hl 2 rfl) ?_
    refine lv_iconst (v := 1) hx hb dX12_table_102 (by decide) ?_
    refine lv_icmp_ne (tgt := 115) hx hb dX12_table_103 (by decide) (fun c2 => ?_) (fun c2 => ?_)
    · replace hq := hq.2 c2
      refine lv_iload_n hx hb dX12_table_115 rfl (lv_at hl 2 rfl) ?_
      refine lv_iconst (v := 2) hx hb dX12_table_116 (by decide) ?_
      refine lv_icmp_ne (tgt := 129) hx hb dX12_table_117 (by decide) (fun c3 => ?_) (fun c3 => ?_)
      · replace hq := hq.2 c3
        refine lv_iload_n hx hb dX12_table_129 rfl (lv_at hl 2 rfl) ?_
        refine lv_iconst (v := 3) hx hb dX12_table_130 (by decide) ?_
        refine lv_icmp_ne (tgt := 143) hx hb dX12_table_131 (by decide) (fun c4 => ?_) (fun c4 => ?_)
        · replace hq := hq.2 c4
          refine lv_aload_n hx hb dX12_table_143 rfl (lv_at hl 0 rfl) ?_
          obtain ⟨q5, e6, hq⟩ := hq
          refine gfX12_120 C hw hw.2.2.1 h0 e6 dX12_table_144 ?_
          refine lv_iload_n hx hb dX12_table_147 rfl (lv_at hl 3 rfl) ?_
          obtain ⟨h7, hq⟩ := hq
          obtain ⟨h8, hq⟩ := hq
          refine q_iald C hw hw.2.2.1 h7 h8 dX12_table_148 ?_
          exact r_iret C hr hlk hw dX12_table_149 (Nat.le_refl _) (Nat.le_refl _) ⟨_, rfl, hq⟩
        · replace hq := hq.1 c4
          refine lv_aload_n hx hb dX12_table_134 rfl (lv_at hl 0 rfl) ?_
          obtain ⟨q9, e10, hq⟩ := hq
          refine gfX12_117 C hw hw.2.2.1 h0 e10 dX12_table_135 ?_
          refine lv_iload_n hx hb dX12_table_138 rfl (lv_at hl 3 rfl) ?_
          obtain ⟨h11, hq⟩ := hq
          obtain ⟨h12, hq⟩ := hq
          refine q_iald C hw hw.2.2.1 h11 h12 dX12_table_139 ?_
          refine lv_goto (tgt := 149) hx hb dX12_table_140 (by decide) ?_
          exact r_iret C hr hlk hw dX12_table_149 (Nat.le_refl _) (Nat.le_refl _) ⟨_, rfl, hq⟩
      · replace hq := hq.1 c3
        refine lv_aload_n hx hb dX12_table_120 rfl (lv_at hl 0 rfl) ?_
        obtain ⟨q13, e14, hq⟩ := hq
        refine gfX12_114 C hw hw.2.2.1 h0 e14 dX12_table_121 ?_
        refine lv_iload_n hx hb dX12_table_124 rfl (lv_at hl 3 rfl) ?_
        obtain ⟨h15, hq⟩ := hq
        obtain ⟨h16, hq⟩ := hq
        refine q_iald C hw hw.2.2.1 h15 h16 dX12_table_125 ?_
        refine lv_goto (tgt := 149) hx hb dX12_table_126 (by decide) ?_
        exact r_iret C hr hlk hw dX12_table_149 (Nat.le_refl _) (Nat.le_refl _) ⟨_, rfl, hq⟩
    · replace hq := hq.1 c2
      refine lv_aload_n hx hb dX12_table_106 rfl (lv_at hl 0 rfl) ?_
      obtain ⟨q17, e18, hq⟩ := hq
      refine gfX12_111 C hw hw.2.2.1 h0 e18 dX12_table_107 ?_
      refine lv_iload_n hx hb dX12_table_110 rfl (lv_at hl 3 rfl) ?_
      obtain ⟨h19, hq⟩ := hq
      obtain ⟨h20, hq⟩ := hq
      refine q_iald C hw hw.2.2.1 h19 h20 dX12_table_111 ?_
      refine lv_goto (tgt := 149) hx hb dX12_table_112 (by decide) ?_
      exact r_iret C hr hlk hw dX12_table_149 (Nat.le_refl _) (Nat.le_refl _) ⟨_, rfl, hq⟩
  · replace hq := hq.1 c1
    refine lv_iload_n hx hb dX12_table_97 rfl (lv_at hl 3 rfl) ?_
    refine lv_goto (tgt := 149) hx hb dX12_table_98 (by decide) ?_
    exact r_iret C hr hlk hw dX12_table_149 (Nat.le_refl _) (Nat.le_refl _) ⟨_, rfl, hq⟩
set_option maxHeartbeats 4000000 in
set_option maxRecDepth 100000 in
theorem lt_X12_table_78 {l : Launch} {g : Gh} {p : Program} {e : Env} {s : State} {m : MethodId} {args : Array Value} {below : List Frame} {meth : Method} {c : Code} {H : Heap} {locs : List Loc} {ls : Array Slot} {M0 M : Mem} {a0 : Nat} {p1 : Int32} {p2 : Int32} {post : Int32 → Mem → Prop} {x3 : Int32} {x4 : Int32} {x5 : Int32}   (C : Cx g p s m args c cX12_table 7 RX12) (hr : meth.sig.returnType = (some .int)) (hlk : meth.locks = false) (hn : meth.name = "table") (h0 : okc (gB g) M0 a0 12) {bk31 : Int32 × Int32 × Mem → Prop} (hk31 : ∀ (x3 : Int32) (x4 : Int32) (M : Mem) (H : Heap) (locs : List Loc) (ls : Array Slot), bk31 (x3, x4, M) → Wd g s M0 M H locs → lv_has ls 7 [(0, .ref a0), (1, .int p1), (2, .int p2), (3, .int x3), (4, .int x4)] → W p l e (rmo 1 0 0) s m args below meth c H locs 0 0 (MQ below (Cq g M0 (pI post)) args s 0 0 (gA g)) (F0 m 31 ls [])) (hq : lb_X12_table_78  g M0 a0 p1 p2 post bk31 x3 x4 x5 M) (hw : Wd g s M0 M H locs) (hl : lv_has ls 7 [(0, .ref a0), (1, .int p1), (2, .int p2), (3, .int x3), (4, .int x4), (5, .int x5)]) : W p l e (rmo 1 0 0) s m args below meth c H locs 0 0 (MQ below (Cq g M0 (pI post)) args s 0 0 (gA g)) (F0 m 78 ls []) := by
  have hx := C.1.1
  have hb := C.1.2.1
  unfold lb_X12_table_78 at hq
  refine lv_iload hx hb dX12_table_78 (lv_at hl 5 rfl) ?_
  refine lv_iload_n hx hb dX12_table_80 rfl (lv_at hl 1 rfl) ?_
  refine lv_icmp_ne (tgt := 87) hx hb dX12_table_81 (by decide) (fun c21 => ?_) (fun c21 => ?_)
  · replace hq := hq.2 c21
    refine lv_iinc (v := (x4 + 1)) (lv' := [(4, .int (x4 + 1)), (0, .ref a0), (1, .int p1), (2, .int p2), (3, .int x3), (5, .int x5)]) hx hb dX12_table_87 hl (k := 4) rfl rfl (by decide) rfl (fun ls hl => ?_)
    refine lv_goto (tgt := 31) hx hb dX12_table_90 (by decide) ?_
    exact hk31 _ _ _ _ _ _ hq hw (lv_sub hl [1, 2, 3, 4, 0] rfl)
  · replace hq := hq.1 c21
    refine lv_iload hx hb dX12_table_84 (lv_at hl 4 rfl) ?_
    refine lv_istore_n (lv' := [(3, .int x4), (0, .ref a0), (1, .int p1), (2, .int p2), (4, .int x4), (5, .int x5)]) hx hb dX12_table_86 rfl hl (by decide) rfl (fun ls hl => ?_)
    refine lv_iinc (v := (x4 + 1)) (lv' := [(4, .int (x4 + 1)), (3, .int x4), (0, .ref a0), (1, .int p1), (2, .int p2), (5, .int x5)]) hx hb dX12_table_87 hl (k := 4) rfl rfl (by decide) rfl (fun ls hl => ?_)
    refine lv_goto (tgt := 31) hx hb dX12_table_90 (by decide) ?_
    exact hk31 _ _ _ _ _ _ hq hw (lv_sub hl [2, 3, 4, 1, 0] rfl)
set_option maxHeartbeats 4000000 in
set_option maxRecDepth 100000 in
theorem lp_X12_table_44 {l : Launch} {g : Gh} {p : Program} {e : Env} {s : State} {m : MethodId} {args : Array Value} {below : List Frame} {meth : Method} {c : Code} {M0 : Mem} {a0 : Nat} {p1 : Int32} {p2 : Int32} {post : Int32 → Mem → Prop}  (C : Cx g p s m args c cX12_table 7 RX12) (hr : meth.sig.returnType = (some .int)) (hlk : meth.locks = false) (hn : meth.name = "table") (h0 : okc (gB g) M0 a0 12) {bk31 : Int32 × Int32 × Mem → Prop} (hk31 : ∀ (x3 : Int32) (x4 : Int32) (M : Mem) (H : Heap) (locs : List Loc) (ls : Array Slot), bk31 (x3, x4, M) → Wd g s M0 M H locs → lv_has ls 7 [(0, .ref a0), (1, .int p1), (2, .int p2), (3, .int x3), (4, .int x4)] → W p l e (rmo 1 0 0) s m args below meth c H locs 0 0 (MQ below (Cq g M0 (pI post)) args s 0 0 (gA g)) (F0 m 31 ls [])) : ∀ (nf : Nat) (x3 : Int32) (x4 : Int32) (x5 : Int32) (x6 : Int32)  (M : Mem) (H : Heap) (locs : List Loc) (ls : Array Slot), lfp (fun bk z => bd_X12_table_44  g M0 a0 p1 p2 post bk31 bk z.1 z.2.1 z.2.2.1 z.2.2.2.1 z.2.2.2.2) nf (x3, x4, x5, x6, M) → Wd g s M0 M H locs → lv_has ls 7 [(0, .ref a0), (1, .int p1), (2, .int p2), (3, .int x3), (4, .int x4), (5, .int x5), (6, .int x6)] → W p l e (rmo 1 0 0) s m args below meth c H locs 0 0 (MQ below (Cq g M0 (pI post)) args s 0 0 (gA g)) (F0 m 44 ls []) := by
  have hx := C.1.1
  have hb := C.1.2.1
  intro nf
  induction nf with
  | zero => intro _ _ _ _ _ H locs ls hq; exact hq.elim
  | succ nf hk44 =>
    intro x3 x4 x5 x6 M H locs ls hq hw hl
    replace hq : bd_X12_table_44  g M0 a0 p1 p2 post bk31 (lfp (fun bk z => bd_X12_table_44  g M0 a0 p1 p2 post bk31 bk z.1 z.2.1 z.2.2.1 z.2.2.2.1 z.2.2.2.2) nf) x3 x4 x5 x6 M := hq
    unfold bd_X12_table_44 at hq
    refine lv_iload hx hb dX12_table_44 (lv_at hl 6 rfl) ?_
    refine lv_bipush (v := 12) hx hb dX12_table_46 (by decide) ?_
    refine lv_icmp_ge (tgt := 78) hx hb dX12_table_48 (by decide) (fun c22 => ?_) (fun c22 => ?_)
    · replace hq := hq.1 c22
      exact lt_X12_table_78  C hr hlk hn h0 hk31 hq hw (lv_sub hl [0, 1, 2, 3, 4, 5] rfl)
    · replace hq := hq.2 c22
      refine lv_iload hx hb dX12_table_51 (lv_at hl 6 rfl) ?_
      refine lv_iload hx hb dX12_table_53 (lv_at hl 4 rfl) ?_
      refine lv_icmp_eq (tgt := 72) hx hb dX12_table_55 (by decide) (fun c23 => ?_) (fun c23 => ?_)
      · replace hq := hq.1 c23
        refine lv_iinc (v := (x6 + 1)) (lv' := [(6, .int (x6 + 1)), (0, .ref a0), (1, .int p1), (2, .int p2), (3, .int x3), (4, .int x4), (5, .int x5)]) hx hb dX12_table_72 hl (k := 6) rfl rfl (by decide) rfl (fun ls hl => ?_)
        refine lv_goto (tgt := 44) hx hb dX12_table_75 (by decide) ?_
        exact hk44 _ _ _ _ _ _ _ _ hq hw (lv_sub hl [1, 2, 3, 4, 5, 6, 0] rfl)
      · replace hq := hq.2 c23
        refine lv_aload_n hx hb dX12_table_58 rfl (lv_at hl 0 rfl) ?_
        refine lv_iload hx hb dX12_table_59 (lv_at hl 6 rfl) ?_
        refine lv_iload hx hb dX12_table_61 (lv_at hl 4 rfl) ?_
        refine r_callV (T := TX12) (N := 67) (ci := 12) (index := 337) (n := 2) (d2 := 0) (mc := 0) (ms := 0) (As := [.int x6, .int x4]) (rest := []) C hw (ct_X12_isAhead hq) kvX12_337 hq.1 (by decide) rfl ⟨by decide, by decide⟩ ⟨by decide, by decide⟩ rfl hl.1 rfl (Nat.le_of_ble_eq_true rfl) dX12_table_63 (fun r M25 H locs hp hle hw => ?_)
        obtain ⟨v24, rfl, hq⟩ := hp
        refine W.eq (g2 := F0 m 66 ls [.int v24]) rfl ?_
        refine lv_if_eq (tgt := 72) hx hb dX12_table_66 (by decide) (fun c26 => ?_) (fun c26 => ?_)
        · replace hq := hq.1 c26
          refine lv_iinc (v := (x6 + 1)) (lv' := [(6, .int (x6 + 1)), (0, .ref a0), (1, .int p1), (2, .int p2), (3, .int x3), (4, .int x4), (5, .int x5)]) hx hb dX12_table_72 hl (k := 6) rfl rfl (by decide) rfl (fun ls hl => ?_)
          refine lv_goto (tgt := 44) hx hb dX12_table_75 (by decide) ?_
          exact hk44 _ _ _ _ _ _ _ _ hq hw (lv_sub hl [1, 2, 3, 4, 5, 6, 0] rfl)
        · replace hq := hq.2 c26
          refine lv_iinc (v := (x5 + 1)) (lv' := [(5, .int (x5 + 1)), (0, .ref a0), (1, .int p1), (2, .int p2), (3, .int x3), (4, .int x4), (6, .int x6)]) hx hb dX12_table_69 hl (k := 5) rfl rfl (by decide) rfl (fun ls hl => ?_)
          refine lv_iinc (v := (x6 + 1)) (lv' := [(6, .int (x6 + 1)), (5, .int (x5 + 1)), (0, .ref a0), (1, .int p1), (2, .int p2), (3, .int x3), (4, .int x4)]) hx hb dX12_table_72 hl (k := 6) rfl rfl (by decide) rfl (fun ls hl => ?_)
          refine lv_goto (tgt := 44) hx hb dX12_table_75 (by decide) ?_
          exact hk44 _ _ _ _ _ _ _ _ hq hw (lv_sub hl [2, 3, 4, 5, 6, 1, 0] rfl)
set_option maxHeartbeats 4000000 in
set_option maxRecDepth 100000 in
theorem lp_X12_table_31 {l : Launch} {g : Gh} {p : Program} {e : Env} {s : State} {m : MethodId} {args : Array Value} {below : List Frame} {meth : Method} {c : Code} {M0 : Mem} {a0 : Nat} {p1 : Int32} {p2 : Int32} {post : Int32 → Mem → Prop}  (C : Cx g p s m args c cX12_table 7 RX12) (hr : meth.sig.returnType = (some .int)) (hlk : meth.locks = false) (hn : meth.name = "table") (h0 : okc (gB g) M0 a0 12)  : ∀ (nf : Nat) (x3 : Int32) (x4 : Int32)  (M : Mem) (H : Heap) (locs : List Loc) (ls : Array Slot), lfp (fun bk z => bd_X12_table_31  g M0 a0 p1 p2 post  bk z.1 z.2.1 z.2.2) nf (x3, x4, M) → Wd g s M0 M H locs → lv_has ls 7 [(0, .ref a0), (1, .int p1), (2, .int p2), (3, .int x3), (4, .int x4)] → W p l e (rmo 1 0 0) s m args below meth c H locs 0 0 (MQ below (Cq g M0 (pI post)) args s 0 0 (gA g)) (F0 m 31 ls []) := by
  have hx := C.1.1
  have hb := C.1.2.1
  intro nf
  induction nf with
  | zero => intro _ _ _ H locs ls hq; exact hq.elim
  | succ nf hk31 =>
    intro x3 x4 M H locs ls hq hw hl
    replace hq : bd_X12_table_31  g M0 a0 p1 p2 post  (lfp (fun bk z => bd_X12_table_31  g M0 a0 p1 p2 post  bk z.1 z.2.1 z.2.2) nf) x3 x4 M := hq
    unfold bd_X12_table_31 at hq
    refine lv_iload hx hb dX12_table_31 (lv_at hl 4 rfl) ?_
    refine lv_bipush (v := 12) hx hb dX12_table_33 (by decide) ?_
    refine lv_icmp_ge (tgt := 93) hx hb dX12_table_35 (by decide) (fun c27 => ?_) (fun c27 => ?_)
    · replace hq := hq.1 c27
      exact lt_X12_table_93  C hr hlk hn h0  hq hw (lv_sub hl [0, 1, 2, 3] rfl)
    · replace hq := hq.2 c27
      refine lv_iconst (v := 0) hx hb dX12_table_38 (by decide) ?_
      refine lv_istore (lv' := [(5, .int 0), (0, .ref a0), (1, .int p1), (2, .int p2), (3, .int x3), (4, .int x4)]) hx hb dX12_table_39 hl (by decide) rfl (fun ls hl => ?_)
      refine lv_iconst (v := 0) hx hb dX12_table_41 (by decide) ?_
      refine lv_istore (lv' := [(6, .int 0), (5, .int 0), (0, .ref a0), (1, .int p1), (2, .int p2), (3, .int x3), (4, .int x4)]) hx hb dX12_table_42 hl (by decide) rfl (fun ls hl => ?_)
      obtain ⟨nf, hq⟩ := hq
      exact lp_X12_table_44  C hr hlk hn h0 hk31 nf _ _ _ _ _ _ _ _ hq hw (lv_sub hl [2, 3, 4, 5, 6, 1, 0] rfl)
set_option maxHeartbeats 4000000 in
set_option maxRecDepth 100000 in
theorem ct_X12_table {l : Launch} {g : Gh} {M0 : Mem} {a0 : Nat} {p1 : Int32} {p2 : Int32} {post : Int32 → Mem → Prop}  (hq : wp_X12_table  g M0 a0 p1 p2 post) : Ct l g yX12_table cX12_table 7 (some .int) 1 0 0 [.ref a0, .int p1, .int p2] M0 (pI post) := by
  unfold wp_X12_table at hq
  obtain ⟨h0, hq⟩ := hq
  refine Ct.of (by decide) (Nat.le_of_ble_eq_true rfl) ?_
  intro p e s m below meth c ls C hr hlk hn hl hw
  have hx := C.1.1
  have hb := C.1.2.1
  have hl : lv_has ls 7 [(0, .ref a0), (1, .int p1), (2, .int p2)] := hl
  refine lv_aload_n hx hb dX12_table_0 rfl (lv_at hl 0 rfl) ?_
  refine lv_iconst (v := 0) hx hb dX12_table_1 (by decide) ?_
  refine pfX12_123 C hw hw.2.2.1 h0 dX12_table_2 (fun H locs hw => ?_)
  generalize e29 : uI M0 a0 0 0 = M28 at hw
  replace hq := hq M28 e29.symm
  refine lv_iload_n hx hb dX12_table_5 rfl (lv_at hl 1 rfl) ?_
  refine lv_if_lt (tgt := 24) hx hb dX12_table_6 (by decide) (fun c30 => ?_) (fun c30 => ?_)
  · replace hq := hq.1 c30
    refine lv_iconst (v := (-1)) hx hb dX12_table_24 (by decide) ?_
    exact r_iret C hr hlk hw dX12_table_25 (Nat.le_refl _) (Nat.le_refl _) ⟨_, rfl, hq⟩
  · replace hq := hq.2 c30
    refine lv_iload_n hx hb dX12_table_9 rfl (lv_at hl 1 rfl) ?_
    refine lv_bipush (v := 12) hx hb dX12_table_10 (by decide) ?_
    refine lv_icmp_ge (tgt := 24) hx hb dX12_table_12 (by decide) (fun c31 => ?_) (fun c31 => ?_)
    · replace hq := hq.1 c31
      refine lv_iconst (v := (-1)) hx hb dX12_table_24 (by decide) ?_
      exact r_iret C hr hlk hw dX12_table_25 (Nat.le_refl _) (Nat.le_refl _) ⟨_, rfl, hq⟩
    · replace hq := hq.2 c31
      refine lv_iload_n hx hb dX12_table_15 rfl (lv_at hl 2 rfl) ?_
      refine lv_if_lt (tgt := 24) hx hb dX12_table_16 (by decide) (fun c32 => ?_) (fun c32 => ?_)
      · replace hq := hq.1 c32
        refine lv_iconst (v := (-1)) hx hb dX12_table_24 (by decide) ?_
        exact r_iret C hr hlk hw dX12_table_25 (Nat.le_refl _) (Nat.le_refl _) ⟨_, rfl, hq⟩
      · replace hq := hq.2 c32
        refine lv_iload_n hx hb dX12_table_19 rfl (lv_at hl 2 rfl) ?_
        refine lv_iconst (v := 4) hx hb dX12_table_20 (by decide) ?_
        refine lv_icmp_le (tgt := 26) hx hb dX12_table_21 (by decide) (fun c33 => ?_) (fun c33 => ?_)
        · replace hq := hq.1 c33
          refine lv_iconst (v := 0) hx hb dX12_table_26 (by decide) ?_
          refine lv_istore_n (lv' := [(3, .int 0), (0, .ref a0), (1, .int p1), (2, .int p2)]) hx hb dX12_table_27 rfl hl (by decide) rfl (fun ls hl => ?_)
          refine lv_iconst (v := 0) hx hb dX12_table_28 (by decide) ?_
          refine lv_istore (lv' := [(4, .int 0), (3, .int 0), (0, .ref a0), (1, .int p1), (2, .int p2)]) hx hb dX12_table_29 hl (by decide) rfl (fun ls hl => ?_)
          obtain ⟨nf, hq⟩ := hq
          exact lp_X12_table_31  C hr hlk hn h0  nf _ _ _ _ _ _ hq hw (lv_sub hl [2, 3, 4, 1, 0] rfl)
        · replace hq := hq.2 c33
          refine lv_iconst (v := (-1)) hx hb dX12_table_24 (by decide) ?_
          exact r_iret C hr hlk hw dX12_table_25 (Nat.le_refl _) (Nat.le_refl _) ⟨_, rfl, hq⟩

set_option maxRecDepth 100000 in
def wp_X12_count  (g : Gh) (M0 : Mem) (a0 : Nat) (p1 : Int32) (post : Int32 → Mem → Prop) : Prop :=
  okc (gB g) M0 a0 12 ∧ (∀ M1, M1 = uI M0 a0 0 0 → (((p1 = 0) → post (mI M1 a0 16) M1) ∧ ((p1 = 1) → post (mI M1 a0 40) M1) ∧ ((p1 = 2) → post (mI M1 a0 39) M1) ∧ ((p1 = 3) → post (mI M1 a0 44) M1) ∧ ((p1 = 4) → post (mI M1 a0 45) M1) ∧ ((p1 = 5) → post (mI M1 a0 66) M1) ∧ ((p1 = 6) → post (mI M1 a0 2) M1) ∧ ((¬ (p1 = 0) ∧ ¬ (p1 = 1) ∧ ¬ (p1 = 2) ∧ ¬ (p1 = 3) ∧ ¬ (p1 = 4) ∧ ¬ (p1 = 5) ∧ ¬ (p1 = 6)) → post (-1) M1)))
set_option maxHeartbeats 4000000 in
set_option maxRecDepth 100000 in
theorem ct_X12_count {l : Launch} {g : Gh} {M0 : Mem} {a0 : Nat} {p1 : Int32} {post : Int32 → Mem → Prop}  (hq : wp_X12_count  g M0 a0 p1 post) : Ct l g yX12_count cX12_count 2 (some .int) 0 0 0 [.ref a0, .int p1] M0 (pI post) := by
  unfold wp_X12_count at hq
  obtain ⟨h0, hq⟩ := hq
  refine Ct.of (by decide) (Nat.le_of_ble_eq_true rfl) ?_
  intro p e s m below meth c ls C hr hlk hn hl hw
  have hx := C.1.1
  have hb := C.1.2.1
  have hl : lv_has ls 2 [(0, .ref a0), (1, .int p1)] := hl
  refine lv_aload_n hx hb dX12_count_0 rfl (lv_at hl 0 rfl) ?_
  refine lv_iconst (v := 0) hx hb dX12_count_1 (by decide) ?_
  refine pfX12_123 C hw hw.2.2.1 h0 dX12_count_2 (fun H locs hw => ?_)
  generalize e2 : uI M0 a0 0 0 = M1 at hw
  replace hq := hq M1 e2.symm
  refine lv_iload_n hx hb dX12_count_5 rfl (lv_at hl 1 rfl) ?_
  by_cases c4 : p1 = 0
  · refine r_table (v := 0) (off := 42) (tgt := 48) hx hb dX12_count_6 c4 (by decide) (by decide) rfl (by decide) ?_
    replace hq := hq.1 c4
    refine lv_aload_n hx hb dX12_count_48 rfl (lv_at hl 0 rfl) ?_
    refine gfX12_181 C hw hw.2.2.1 h0 dX12_count_49 ?_
    exact r_iret C hr hlk hw dX12_count_52 (Nat.le_refl _) (Nat.le_refl _) ⟨_, rfl, hq⟩
  by_cases c5 : p1 = 1
  · refine r_table (v := 1) (off := 47) (tgt := 53) hx hb dX12_count_6 c5 (by decide) (by decide) rfl (by decide) ?_
    replace hq := hq.2.1 c5
    refine lv_aload_n hx hb dX12_count_53 rfl (lv_at hl 0 rfl) ?_
    refine gfX12_270 C hw hw.2.2.1 h0 dX12_count_54 ?_
    exact r_iret C hr hlk hw dX12_count_57 (Nat.le_refl _) (Nat.le_refl _) ⟨_, rfl, hq⟩
  by_cases c6 : p1 = 2
  · refine r_table (v := 2) (off := 52) (tgt := 58) hx hb dX12_count_6 c6 (by decide) (by decide) rfl (by decide) ?_
    replace hq := hq.2.2.1 c6
    refine lv_aload_n hx hb dX12_count_58 rfl (lv_at hl 0 rfl) ?_
    refine gfX12_264 C hw hw.2.2.1 h0 dX12_count_59 ?_
    exact r_iret C hr hlk hw dX12_count_62 (Nat.le_refl _) (Nat.le_refl _) ⟨_, rfl, hq⟩
  by_cases c7 : p1 = 3
  · refine r_table (v := 3) (off := 57) (tgt := 63) hx hb dX12_count_6 c7 (by decide) (by decide) rfl (by decide) ?_
    replace hq := hq.2.2.2.1 c7
    refine lv_aload_n hx hb dX12_count_63 rfl (lv_at hl 0 rfl) ?_
    refine gfX12_274 C hw hw.2.2.1 h0 dX12_count_64 ?_
    exact r_iret C hr hlk hw dX12_count_67 (Nat.le_refl _) (Nat.le_refl _) ⟨_, rfl, hq⟩
  by_cases c8 : p1 = 4
  · refine r_table (v := 4) (off := 62) (tgt := 68) hx hb dX12_count_6 c8 (by decide) (by decide) rfl (by decide) ?_
    replace hq := hq.2.2.2.2.1 c8
    refine lv_aload_n hx hb dX12_count_68 rfl (lv_at hl 0 rfl) ?_
    refine gfX12_277 C hw hw.2.2.1 h0 dX12_count_69 ?_
    exact r_iret C hr hlk hw dX12_count_72 (Nat.le_refl _) (Nat.le_refl _) ⟨_, rfl, hq⟩
  by_cases c9 : p1 = 5
  · refine r_table (v := 5) (off := 67) (tgt := 73) hx hb dX12_count_6 c9 (by decide) (by decide) rfl (by decide) ?_
    replace hq := hq.2.2.2.2.2.1 c9
    refine lv_aload_n hx hb dX12_count_73 rfl (lv_at hl 0 rfl) ?_
    refine gfX12_334 C hw hw.2.2.1 h0 dX12_count_74 ?_
    exact r_iret C hr hlk hw dX12_count_77 (Nat.le_refl _) (Nat.le_refl _) ⟨_, rfl, hq⟩
  by_cases c10 : p1 = 6
  · refine r_table (v := 6) (off := 72) (tgt := 78) hx hb dX12_count_6 c10 (by decide) (by decide) rfl (by decide) ?_
    replace hq := hq.2.2.2.2.2.2.1 c10
    refine lv_aload_n hx hb dX12_count_78 rfl (lv_at hl 0 rfl) ?_
    refine gfX12_127 C hw hw.2.2.1 h0 dX12_count_79 ?_
    exact r_iret C hr hlk hw dX12_count_82 (Nat.le_refl _) (Nat.le_refl _) ⟨_, rfl, hq⟩
  refine r_tableOut (tgt := 83) (k := 6) hx hb dX12_count_6 (by decide) (fun j hj => by rcases (show j = 0 ∨ j = 1 ∨ j = 2 ∨ j = 3 ∨ j = 4 ∨ j = 5 ∨ j = 6 by omega) with rfl | rfl | rfl | rfl | rfl | rfl | rfl <;> assumption) (by decide) ?_
  replace hq := hq.2.2.2.2.2.2.2 ⟨c4, c5, c6, c7, c8, c9, c10⟩
  refine lv_iconst (v := (-1)) hx hb dX12_count_83 (by decide) ?_
  exact r_iret C hr hlk hw dX12_count_84 (Nat.le_refl _) (Nat.le_refl _) ⟨_, rfl, hq⟩

set_option maxRecDepth 100000 in
def wp_J3_checkFromToIndex_8c36e  (g : Gh) (M0 : Mem) (p0 : Int32) (p1 : Int32) (p2 : Int32) (r3 : Option Nat) (post : Int32 → Mem → Prop) : Prop :=
  ((p0 < 0) → False) ∧ (¬ (p0 < 0) → ((p1 < p0) → False) ∧ (¬ (p1 < p0) → ((p1 ≤ p2) → post p0 M0) ∧ (¬ (p1 ≤ p2) → False)))
set_option maxHeartbeats 4000000 in
set_option maxRecDepth 100000 in
theorem ct_J3_checkFromToIndex_8c36e {l : Launch} {g : Gh} {M0 : Mem} {p0 : Int32} {p1 : Int32} {p2 : Int32} {r3 : Option Nat} {post : Int32 → Mem → Prop}  (hq : wp_J3_checkFromToIndex_8c36e  g M0 p0 p1 p2 r3 post) : Ct l g yJ3_checkFromToIndex_8c36e cJ3_checkFromToIndex_8c36e 4 (some .int) 0 0 0 [.int p0, .int p1, .int p2, va_rf r3] M0 (pI post) := by
  unfold wp_J3_checkFromToIndex_8c36e at hq
  refine Ct.of (by decide) (by cases r3 <;> exact Nat.le_of_ble_eq_true rfl) ?_
  intro p e s m below meth c ls C hr hlk hn hl hw
  have hx := C.1.1
  have hb := C.1.2.1
  have hl : lv_has ls 4 [(0, .int p0), (1, .int p1), (2, .int p2), (3, va_rf r3)] := hl
  refine lv_iload_n hx hb dJ3_checkFromToIndex_8c36e_0 rfl (lv_at hl 0 rfl) ?_
  refine lv_if_lt (tgt := 14) hx hb dJ3_checkFromToIndex_8c36e_1 (by decide) (fun c1 => ?_) (fun c1 => ?_)
  · replace hq := hq.1 c1
    refine r_aload_n hx hb dJ3_checkFromToIndex_8c36e_14 rfl (lv_at hl 3 rfl) ?_
    refine lv_iload_n hx hb dJ3_checkFromToIndex_8c36e_15 rfl (lv_at hl 0 rfl) ?_
    refine lv_iload_n hx hb dJ3_checkFromToIndex_8c36e_16 rfl (lv_at hl 1 rfl) ?_
    refine lv_iload_n hx hb dJ3_checkFromToIndex_8c36e_17 rfl (lv_at hl 2 rfl) ?_
    exact hq.elim
  · replace hq := hq.2 c1
    refine lv_iload_n hx hb dJ3_checkFromToIndex_8c36e_4 rfl (lv_at hl 0 rfl) ?_
    refine lv_iload_n hx hb dJ3_checkFromToIndex_8c36e_5 rfl (lv_at hl 1 rfl) ?_
    refine lv_icmp_gt (tgt := 14) hx hb dJ3_checkFromToIndex_8c36e_6 (by decide) (fun c2 => ?_) (fun c2 => ?_)
    · replace hq := hq.1 c2
      refine r_aload_n hx hb dJ3_checkFromToIndex_8c36e_14 rfl (lv_at hl 3 rfl) ?_
      refine lv_iload_n hx hb dJ3_checkFromToIndex_8c36e_15 rfl (lv_at hl 0 rfl) ?_
      refine lv_iload_n hx hb dJ3_checkFromToIndex_8c36e_16 rfl (lv_at hl 1 rfl) ?_
      refine lv_iload_n hx hb dJ3_checkFromToIndex_8c36e_17 rfl (lv_at hl 2 rfl) ?_
      exact hq.elim
    · replace hq := hq.2 c2
      refine lv_iload_n hx hb dJ3_checkFromToIndex_8c36e_9 rfl (lv_at hl 1 rfl) ?_
      refine lv_iload_n hx hb dJ3_checkFromToIndex_8c36e_10 rfl (lv_at hl 2 rfl) ?_
      refine lv_icmp_le (tgt := 22) hx hb dJ3_checkFromToIndex_8c36e_11 (by decide) (fun c3 => ?_) (fun c3 => ?_)
      · replace hq := hq.1 c3
        refine lv_iload_n hx hb dJ3_checkFromToIndex_8c36e_22 rfl (lv_at hl 0 rfl) ?_
        exact r_iret C hr hlk hw dJ3_checkFromToIndex_8c36e_23 (Nat.le_refl _) (Nat.le_refl _) ⟨_, rfl, hq⟩
      · replace hq := hq.2 c3
        refine r_aload_n hx hb dJ3_checkFromToIndex_8c36e_14 rfl (lv_at hl 3 rfl) ?_
        refine lv_iload_n hx hb dJ3_checkFromToIndex_8c36e_15 rfl (lv_at hl 0 rfl) ?_
        refine lv_iload_n hx hb dJ3_checkFromToIndex_8c36e_16 rfl (lv_at hl 1 rfl) ?_
        refine lv_iload_n hx hb dJ3_checkFromToIndex_8c36e_17 rfl (lv_at hl 2 rfl) ?_
        exact hq.elim

set_option maxRecDepth 100000 in
def wp_J0_checkBoundsBeginEnd_23922  (g : Gh) (M0 : Mem) (p0 : Int32) (p1 : Int32) (p2 : Int32) (post : Mem → Prop) : Prop :=
  ∀ r1 : Option Nat, (wp_J3_checkFromToIndex_8c36e g M0 p0 p1 p2 r1 (fun v2 M3 => post M3))
set_option maxHeartbeats 4000000 in
set_option maxRecDepth 100000 in
theorem ct_J0_checkBoundsBeginEnd_23922 {l : Launch} {g : Gh} {M0 : Mem} {p0 : Int32} {p1 : Int32} {p2 : Int32} {post : Mem → Prop}  (hq : wp_J0_checkBoundsBeginEnd_23922  g M0 p0 p1 p2 post) : Ct l g yJ0_checkBoundsBeginEnd_23922 cJ0_checkBoundsBeginEnd_23922 3 none 1 0 0 [.int p0, .int p1, .int p2] M0 (pV post) := by
  unfold wp_J0_checkBoundsBeginEnd_23922 at hq
  refine Ct.of (by decide) (Nat.le_of_ble_eq_true rfl) ?_
  intro p e s m below meth c ls C hr hlk hn hl hw
  have hx := C.1.1
  have hb := C.1.2.1
  have hl : lv_has ls 3 [(0, .int p0), (1, .int p1), (2, .int p2)] := hl
  refine lv_iload_n hx hb dJ0_checkBoundsBeginEnd_23922_0 rfl (lv_at hl 0 rfl) ?_
  refine lv_iload_n hx hb dJ0_checkBoundsBeginEnd_23922_1 rfl (lv_at hl 1 rfl) ?_
  refine lv_iload_n hx hb dJ0_checkBoundsBeginEnd_23922_2 rfl (lv_at hl 2 rfl) ?_
  refine r_sfmt C hw w_510 dJ0_checkBoundsBeginEnd_23922_3 (fun r1 => ?_)
  replace hq := hq r1
  refine r_callS (index := 1062) (n := 4) (d2 := 0) (mc := 0) (ms := 0) (As := [.int p0, .int p1, .int p2, va_rf r1]) (rest := []) C hw (ct_J3_checkFromToIndex_8c36e hq) ksJ0_1062 ⟨by decide, by decide⟩ ⟨by decide, by decide⟩ rfl hl.1 rfl (Nat.le_of_ble_eq_true rfl) dJ0_checkBoundsBeginEnd_23922_6 (fun r M3 H locs hp hle hw => ?_)
  obtain ⟨v2, rfl, hq⟩ := hp
  refine W.eq (g2 := F0 m 9 ls [.int v2]) rfl ?_
  refine lv_pop hx hb dJ0_checkBoundsBeginEnd_23922_9 rfl ?_
  exact r_vret C hr hlk hw dJ0_checkBoundsBeginEnd_23922_10 (Nat.le_refl _) (Nat.le_refl _) ⟨rfl, hq⟩
