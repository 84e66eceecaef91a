set_option maxRecDepth 100000 in
def lb_X5_isAhead_114  (g : Gh) (M0 : Mem) (a0 : Nat) (p1 : Int32) (p2 : Int32) (post : Int32 → Mem → Prop)    (M : Mem) : Prop :=
  ∃ q1, mR M a0 2 = some q1 ∧ (okc (gB g) M0 q1 14 ∧ (vp_in p1 (mN M0 q1) ∧ (vp_in p2 (mN M0 q1) ∧ ((((mI M q1 (Int32.toNatClampNeg p1)) ≤ (mI M q1 (Int32.toNatClampNeg p2))) → post 0 M) ∧ (¬ ((mI M q1 (Int32.toNatClampNeg p1)) ≤ (mI M q1 (Int32.toNatClampNeg p2))) → post 1 M)))))
set_option maxRecDepth 100000 in
def lb_X5_isAhead_52  (g : Gh) (M0 : Mem) (a0 : Nat) (p1 : Int32) (p2 : Int32) (post : Int32 → Mem → Prop)    (M : Mem) : Prop :=
  ∃ q7, mR M a0 2 = some q7 ∧ (okc (gB g) M0 q7 14 ∧ (vp_in p1 (mN M0 q7) ∧ (∃ q11, mR M a0 3 = some q11 ∧ (okc (gB g) M0 q11 14 ∧ (vp_in p1 (mN M0 q11) ∧ (vp_in p2 (mN M0 q7) ∧ (vp_in p2 (mN M0 q11) ∧ (((((mI M q7 (Int32.toNatClampNeg p1)) - (mI M q11 (Int32.toNatClampNeg p1))) = ((mI M q7 (Int32.toNatClampNeg p2)) - (mI M q11 (Int32.toNatClampNeg p2)))) → (((mI M q7 (Int32.toNatClampNeg p1)) = (mI M q7 (Int32.toNatClampNeg p2))) → ((p2 ≤ p1) → post 0 M) ∧ (¬ (p2 ≤ p1) → post 1 M)) ∧ (¬ ((mI M q7 (Int32.toNatClampNeg p1)) = (mI M q7 (Int32.toNatClampNeg p2))) → lb_X5_isAhead_114  g M0 a0 p1 p2 post   M)) ∧ (¬ (((mI M q7 (Int32.toNatClampNeg p1)) - (mI M q11 (Int32.toNatClampNeg p1))) = ((mI M q7 (Int32.toNatClampNeg p2)) - (mI M q11 (Int32.toNatClampNeg p2)))) → ((((mI M q7 (Int32.toNatClampNeg p1)) - (mI M q11 (Int32.toNatClampNeg p1))) ≤ ((mI M q7 (Int32.toNatClampNeg p2)) - (mI M q11 (Int32.toNatClampNeg p2)))) → post 0 M) ∧ (¬ (((mI M q7 (Int32.toNatClampNeg p1)) - (mI M q11 (Int32.toNatClampNeg p1))) ≤ ((mI M q7 (Int32.toNatClampNeg p2)) - (mI M q11 (Int32.toNatClampNeg p2)))) → post 1 M))))))))))
set_option maxRecDepth 100000 in
def wp_X5_isAhead  (g : Gh) (M0 : Mem) (a0 : Nat) (p1 : Int32) (p2 : Int32) (post : Int32 → Mem → Prop) : Prop :=
  okc (gB g) M0 a0 5 ∧ (wp_X11_isTeam g M0 p1 (fun v21 M22 => ((v21 = 0) → post 0 M22) ∧ (¬ (v21 = 0) → wp_X11_isTeam g M22 p2 (fun v24 M25 => ((v24 = 0) → post 0 M25) ∧ (¬ (v24 = 0) → ∃ q27, mR M25 a0 0 = some q27 ∧ (okc (gB g) M0 q27 14 ∧ (vp_in p1 (mN M0 q27) ∧ (vp_in p2 (mN M0 q27) ∧ ((((mI M25 q27 (Int32.toNatClampNeg p1)) = (mI M25 q27 (Int32.toNatClampNeg p2))) → lb_X5_isAhead_52  g M0 a0 p1 p2 post   M25) ∧ (¬ ((mI M25 q27 (Int32.toNatClampNeg p1)) = (mI M25 q27 (Int32.toNatClampNeg p2))) → (((mI M25 q27 (Int32.toNatClampNeg p1)) ≤ (mI M25 q27 (Int32.toNatClampNeg p2))) → post 0 M25) ∧ (¬ ((mI M25 q27 (Int32.toNatClampNeg p1)) ≤ (mI M25 q27 (Int32.toNatClampNeg p2))) → post 1 M25)))))))))))
set_option maxHeartbeats 4000000 in
set_option maxRecDepth 100000 in
theorem lt_X5_isAhead_114 {l : Launch} {g : Gh} {p : Program} {e : Env} {s : State} {m : MethodId} {args : Array Value} {below : List Frame} {meth : Method} {c : Code} {H : Heap} {locs : List Loc} {ls : Array Slot} {M0 M : Mem} {a0 : Nat} {p1 : Int32} {p2 : Int32} {post : Int32 → Mem → Prop}    (C : Cx g p s m args c cX5_isAhead 5 RX5) (hr : meth.sig.returnType = (some .boolean)) (hlk : meth.locks = false) (hn : meth.name = "isAhead") (h0 : okc (gB g) M0 a0 5)  (hq : lb_X5_isAhead_114  g M0 a0 p1 p2 post   M) (hw : Wd g s M0 M H locs) (hl : lv_has ls 5 [(0, .ref a0), (1, .int p1), (2, .int p2)]) : W p l e (rmo 1 0 0) s m args below meth c H locs 0 0 (MQ below (Cq g M0 (pI post)) args s 0 0 (gA g)) (F0 m 114 ls []) := by
  have hx := C.1.1
  have hb := C.1.2.1
  unfold lb_X5_isAhead_114 at hq
  refine lv_aload_n hx hb dX5_isAhead_114 rfl (lv_at hl 0 rfl) ?_
  obtain ⟨q1, e2, hq⟩ := hq
  refine gfX5_18 C hw hw.2.2.1 h0 e2 dX5_isAhead_115 ?_
  refine lv_iload_n hx hb dX5_isAhead_118 rfl (lv_at hl 1 rfl) ?_
  obtain ⟨h3, hq⟩ := hq
  obtain ⟨h4, hq⟩ := hq
  refine q_iald C hw hw.2.2.1 h3 h4 dX5_isAhead_119 ?_
  refine lv_aload_n hx hb dX5_isAhead_120 rfl (lv_at hl 0 rfl) ?_
  refine gfX5_18 C hw hw.2.2.1 h0 e2 dX5_isAhead_121 ?_
  refine lv_iload_n hx hb dX5_isAhead_124 rfl (lv_at hl 2 rfl) ?_
  obtain ⟨h5, hq⟩ := hq
  refine q_iald C hw hw.2.2.1 h3 h5 dX5_isAhead_125 ?_
  refine lv_icmp_le (tgt := 133) hx hb dX5_isAhead_126 (by decide) (fun c6 => ?_) (fun c6 => ?_)
  · replace hq := hq.1 c6
    refine lv_iconst (v := 0) hx hb dX5_isAhead_133 (by decide) ?_
    refine lv_goto (tgt := 147) hx hb dX5_isAhead_134 (by decide) ?_
    exact r_zret C hr hlk hw dX5_isAhead_147 (Nat.le_refl _) (Nat.le_refl _) (by decide) ⟨_, rfl, hq⟩
  · replace hq := hq.2 c6
    refine lv_iconst (v := 1) hx hb dX5_isAhead_129 (by decide) ?_
    refine lv_goto (tgt := 147) hx hb dX5_isAhead_130 (by decide) ?_
    exact r_zret C hr hlk hw dX5_isAhead_147 (Nat.le_refl _) (Nat.le_refl _) (by decide) ⟨_, rfl, hq⟩
set_option maxHeartbeats 4000000 in
set_option maxRecDepth 100000 in
theorem lt_X5_isAhead_52 {l : Launch} {g : Gh} {p : Program} {e : Env} {s : State} {m : MethodId} {args : Array Value} {below : List Frame} {meth : Method} {c : Code} {H : Heap} {locs : List Loc} {ls : Array Slot} {M0 M : Mem} {a0 : Nat} {p1 : Int32} {p2 : Int32} {post : Int32 → Mem → Prop}    (C : Cx g p s m args c cX5_isAhead 5 RX5) (hr : meth.sig.returnType = (some .boolean)) (hlk : meth.locks = false) (hn : meth.name = "isAhead") (h0 : okc (gB g) M0 a0 5)  (hq : lb_X5_isAhead_52  g M0 a0 p1 p2 post   M) (hw : Wd g s M0 M H locs) (hl : lv_has ls 5 [(0, .ref a0), (1, .int p1), (2, .int p2)]) : W p l e (rmo 1 0 0) s m args below meth c H locs 0 0 (MQ below (Cq g M0 (pI post)) args s 0 0 (gA g)) (F0 m 52 ls []) := by
  have hx := C.1.1
  have hb := C.1.2.1
  unfold lb_X5_isAhead_52 at hq
  refine lv_aload_n hx hb dX5_isAhead_52 rfl (lv_at hl 0 rfl) ?_
  obtain ⟨q7, e8, hq⟩ := hq
  refine gfX5_18 C hw hw.2.2.1 h0 e8 dX5_isAhead_53 ?_
  refine lv_iload_n hx hb dX5_isAhead_56 rfl (lv_at hl 1 rfl) ?_
  obtain ⟨h9, hq⟩ := hq
  obtain ⟨h10, hq⟩ := hq
  refine q_iald C hw hw.2.2.1 h9 h10 dX5_isAhead_57 ?_
  refine lv_aload_n hx hb dX5_isAhead_58 rfl (lv_at hl 0 rfl) ?_
  obtain ⟨q11, e12, hq⟩ := hq
  refine gfX5_21 C hw hw.2.2.1 h0 e12 dX5_isAhead_59 ?_
  refine lv_iload_n hx hb dX5_isAhead_62 rfl (lv_at hl 1 rfl) ?_
  obtain ⟨h13, hq⟩ := hq
  obtain ⟨h14, hq⟩ := hq
  refine q_iald C hw hw.2.2.1 h13 h14 dX5_isAhead_63 ?_
  refine lv_isub hx hb dX5_isAhead_64 ?_
  refine lv_istore_n (lv' := [(3, .int ((mI M q7 (Int32.toNatClampNeg p1)) - (mI M q11 (Int32.toNatClampNeg p1)))), (0, .ref a0), (1, .int p1), (2, .int p2)]) hx hb dX5_isAhead_65 rfl hl (by decide) rfl (fun ls hl => ?_)
  refine lv_aload_n hx hb dX5_isAhead_66 rfl (lv_at hl 1 rfl) ?_
  refine gfX5_18 C hw hw.2.2.1 h0 e8 dX5_isAhead_67 ?_
  refine lv_iload_n hx hb dX5_isAhead_70 rfl (lv_at hl 3 rfl) ?_
  obtain ⟨h15, hq⟩ := hq
  refine q_iald C hw hw.2.2.1 h9 h15 dX5_isAhead_71 ?_
  refine lv_aload_n hx hb dX5_isAhead_72 rfl (lv_at hl 1 rfl) ?_
  refine gfX5_21 C hw hw.2.2.1 h0 e12 dX5_isAhead_73 ?_
  refine lv_iload_n hx hb dX5_isAhead_76 rfl (lv_at hl 3 rfl) ?_
  obtain ⟨h16, hq⟩ := hq
  refine q_iald C hw hw.2.2.1 h13 h16 dX5_isAhead_77 ?_
  refine lv_isub hx hb dX5_isAhead_78 ?_
  refine lv_istore (lv' := [(4, .int ((mI M q7 (Int32.toNatClampNeg p2)) - (mI M q11 (Int32.toNatClampNeg p2)))), (3, .int ((mI M q7 (Int32.toNatClampNeg p1)) - (mI M q11 (Int32.toNatClampNeg p1)))), (0, .ref a0), (1, .int p1), (2, .int p2)]) hx hb dX5_isAhead_79 hl (by decide) rfl (fun ls hl => ?_)
  refine lv_iload_n hx hb dX5_isAhead_81 rfl (lv_at hl 1 rfl) ?_
  refine lv_iload hx hb dX5_isAhead_82 (lv_at hl 0 rfl) ?_
  refine lv_icmp_eq (tgt := 99) hx hb dX5_isAhead_84 (by decide) (fun c17 => ?_) (fun c17 => ?_)
  · replace hq := hq.1 c17
    refine lv_aload_n hx hb dX5_isAhead_99 rfl (lv_at hl 2 rfl) ?_
    refine gfX5_18 C hw hw.2.2.1 h0 e8 dX5_isAhead_100 ?_
    refine lv_iload_n hx hb dX5_isAhead_103 rfl (lv_at hl 3 rfl) ?_
    refine q_iald C hw hw.2.2.1 h9 h10 dX5_isAhead_104 ?_
    refine lv_aload_n hx hb dX5_isAhead_105 rfl (lv_at hl 2 rfl) ?_
    refine gfX5_18 C hw hw.2.2.1 h0 e8 dX5_isAhead_106 ?_
    refine lv_iload_n hx hb dX5_isAhead_109 rfl (lv_at hl 4 rfl) ?_
    refine q_iald C hw hw.2.2.1 h9 h15 dX5_isAhead_110 ?_
    refine lv_icmp_eq (tgt := 137) hx hb dX5_isAhead_111 (by decide) (fun c18 => ?_) (fun c18 => ?_)
    · replace hq := hq.1 c18
      refine lv_iload_n hx hb dX5_isAhead_137 rfl (lv_at hl 3 rfl) ?_
      refine lv_iload_n hx hb dX5_isAhead_138 rfl (lv_at hl 4 rfl) ?_
      refine lv_icmp_ge (tgt := 146) hx hb dX5_isAhead_139 (by decide) (fun c19 => ?_) (fun c19 => ?_)
      · replace hq := hq.1 c19
        refine lv_iconst (v := 0) hx hb dX5_isAhead_146 (by decide) ?_
        exact r_zret C hr hlk hw dX5_isAhead_147 (Nat.le_refl _) (Nat.le_refl _) (by decide) ⟨_, rfl, hq⟩
      · replace hq := hq.2 c19
        refine lv_iconst (v := 1) hx hb dX5_isAhead_142 (by decide) ?_
        refine lv_goto (tgt := 147) hx hb dX5_isAhead_143 (by decide) ?_
        exact r_zret C hr hlk hw dX5_isAhead_147 (Nat.le_refl _) (Nat.le_refl _) (by decide) ⟨_, rfl, hq⟩
    · replace hq := hq.2 c18
      exact lt_X5_isAhead_114  C hr hlk hn h0  hq hw (lv_sub hl [2, 3, 4] rfl)
  · replace hq := hq.2 c17
    refine lv_iload_n hx hb dX5_isAhead_87 rfl (lv_at hl 1 rfl) ?_
    refine lv_iload hx hb dX5_isAhead_88 (lv_at hl 0 rfl) ?_
    refine lv_icmp_le (tgt := 97) hx hb dX5_isAhead_90 (by decide) (fun c20 => ?_) (fun c20 => ?_)
    · replace hq := hq.1 c20
      refine lv_iconst (v := 0) hx hb dX5_isAhead_97 (by decide) ?_
      exact r_zret C hr hlk hw dX5_isAhead_98 (Nat.le_refl _) (Nat.le_refl _) (by decide) ⟨_, rfl, hq⟩
    · replace hq := hq.2 c20
      refine lv_iconst (v := 1) hx hb dX5_isAhead_93 (by decide) ?_
      refine lv_goto (tgt := 98) hx hb dX5_isAhead_94 (by decide) ?_
      exact r_zret C hr hlk hw dX5_isAhead_98 (Nat.le_refl _) (Nat.le_refl _) (by decide) ⟨_, rfl, hq⟩
set_option maxHeartbeats 4000000 in
set_option maxRecDepth 100000 in
theorem ct_X5_isAhead {l : Launch} {g : Gh} {M0 : Mem} {a0 : Nat} {p1 : Int32} {p2 : Int32} {post : Int32 → Mem → Prop}  (hq : wp_X5_isAhead  g M0 a0 p1 p2 post) : Ct l g yX5_isAhead cX5_isAhead 5 (some .boolean) 1 0 0 [.ref a0, .int p1, .int p2] M0 (pI post) := by
  unfold wp_X5_isAhead at hq
  obtain ⟨h0, hq⟩ := hq
  refine Ct.of (by decide) (Nat.le_of_ble_eq_true rfl) ?_
  intro p e s m below meth c ls C hr hlk hn hl hw
  have hx := C.1.1
  have hb := C.1.2.1
  have hl : lv_has ls 5 [(0, .ref a0), (1, .int p1), (2, .int p2)] := hl
  refine lv_iload_n hx hb dX5_isAhead_0 rfl (lv_at hl 1 rfl) ?_
  refine r_callSN (index := 36) (n := 1) (d2 := 0) (mc := 0) (ms := 0) (As := [.int p1]) (rest := []) C hw (ct_X11_isTeam hq) ksX5_36 ⟨by decide, by decide⟩ ⟨by decide, by decide⟩ rfl hl.1 rfl (Nat.le_of_ble_eq_true rfl) dX5_isAhead_1 (fun r M22 H locs hp hle hw => ?_)
  obtain ⟨v21, rfl, hq⟩ := hp
  refine W.eq (g2 := F0 m 4 ls [.int v21]) rfl ?_
  refine lv_if_eq (tgt := 14) hx hb dX5_isAhead_4 (by decide) (fun c23 => ?_) (fun c23 => ?_)
  · replace hq := hq.1 c23
    refine lv_iconst (v := 0) hx hb dX5_isAhead_14 (by decide) ?_
    exact r_zret C hr hlk hw dX5_isAhead_15 (Nat.le_refl _) (Nat.le_refl _) (by decide) ⟨_, rfl, hq⟩
  · replace hq := hq.2 c23
    refine lv_iload_n hx hb dX5_isAhead_7 rfl (lv_at hl 2 rfl) ?_
    refine r_callSN (index := 36) (n := 1) (d2 := 0) (mc := 0) (ms := 0) (As := [.int p2]) (rest := []) C hw (ct_X11_isTeam hq) ksX5_36 ⟨by decide, by decide⟩ ⟨by decide, by decide⟩ rfl hl.1 rfl (Nat.le_of_ble_eq_true rfl) dX5_isAhead_8 (fun r M25 H locs hp hle hw => ?_)
    obtain ⟨v24, rfl, hq⟩ := hp
    refine W.eq (g2 := F0 m 11 ls [.int v24]) rfl ?_
    refine lv_if_ne (tgt := 16) hx hb dX5_isAhead_11 (by decide) (fun c26 => ?_) (fun c26 => ?_)
    · replace hq := hq.2 c26
      refine lv_aload_n hx hb dX5_isAhead_16 rfl (lv_at hl 0 rfl) ?_
      obtain ⟨q27, e28, hq⟩ := hq
      refine gfX5_9 C hw hw.2.2.1 h0 e28 dX5_isAhead_17 ?_
      refine lv_iload_n hx hb dX5_isAhead_20 rfl (lv_at hl 1 rfl) ?_
      obtain ⟨h29, hq⟩ := hq
      obtain ⟨h30, hq⟩ := hq
      refine q_iald C hw hw.2.2.1 h29 h30 dX5_isAhead_21 ?_
      refine lv_aload_n hx hb dX5_isAhead_22 rfl (lv_at hl 0 rfl) ?_
      refine gfX5_9 C hw hw.2.2.1 h0 e28 dX5_isAhead_23 ?_
      refine lv_iload_n hx hb dX5_isAhead_26 rfl (lv_at hl 2 rfl) ?_
      obtain ⟨h31, hq⟩ := hq
      refine q_iald C hw hw.2.2.1 h29 h31 dX5_isAhead_27 ?_
      refine lv_icmp_eq (tgt := 52) hx hb dX5_isAhead_28 (by decide) (fun c32 => ?_) (fun c32 => ?_)
      · replace hq := hq.1 c32
        exact lt_X5_isAhead_52  C hr hlk hn h0  hq hw (lv_sub hl [0, 1, 2] rfl)
      · replace hq := hq.2 c32
        refine lv_aload_n hx hb dX5_isAhead_31 rfl (lv_at hl 0 rfl) ?_
        refine gfX5_9 C hw hw.2.2.1 h0 e28 dX5_isAhead_32 ?_
        refine lv_iload_n hx hb dX5_isAhead_35 rfl (lv_at hl 1 rfl) ?_
        refine q_iald C hw hw.2.2.1 h29 h30 dX5_isAhead_36 ?_
        refine lv_aload_n hx hb dX5_isAhead_37 rfl (lv_at hl 0 rfl) ?_
        refine gfX5_9 C hw hw.2.2.1 h0 e28 dX5_isAhead_38 ?_
        refine lv_iload_n hx hb dX5_isAhead_41 rfl (lv_at hl 2 rfl) ?_
        refine q_iald C hw hw.2.2.1 h29 h31 dX5_isAhead_42 ?_
        refine lv_icmp_le (tgt := 50) hx hb dX5_isAhead_43 (by decide) (fun c33 => ?_) (fun c33 => ?_)
        · replace hq := hq.1 c33
          refine lv_iconst (v := 0) hx hb dX5_isAhead_50 (by decide) ?_
          exact r_zret C hr hlk hw dX5_isAhead_51 (Nat.le_refl _) (Nat.le_refl _) (by decide) ⟨_, rfl, hq⟩
        · replace hq := hq.2 c33
          refine lv_iconst (v := 1) hx hb dX5_isAhead_46 (by decide) ?_
          refine lv_goto (tgt := 51) hx hb dX5_isAhead_47 (by decide) ?_
          exact r_zret C hr hlk hw dX5_isAhead_51 (Nat.le_refl _) (Nat.le_refl _) (by decide) ⟨_, rfl, hq⟩
    · replace hq := hq.1 c26
      refine lv_iconst (v := 0) hx hb dX5_isAhead_14 (by decide) ?_
      exact r_zret C hr hlk hw dX5_isAhead_15 (Nat.le_refl _) (Nat.le_refl _) (by decide) ⟨_, rfl, hq⟩

set_option maxRecDepth 100000 in
def bd_X5_placeOf_4  (g : Gh) (M0 : Mem) (a0 : Nat) (p1 : Int32) (post : Int32 → Mem → Prop)  (bk4 : Int32 × Int32 × Mem → Prop) (x2 : Int32) (x3 : Int32)  (M : Mem) : Prop :=
  ((12 ≤ x3) → post x2 M) ∧ (¬ (12 ≤ x3) → ((x3 = p1) → bk4 (x2, (x3 + 1), M)) ∧ (¬ (x3 = p1) → wp_X5_isAhead g M a0 x3 p1 (fun v3 M4 => ((v3 = 0) → bk4 (x2, (x3 + 1), M4)) ∧ (¬ (v3 = 0) → bk4 ((x2 + 1), (x3 + 1), M4)))))
set_option maxRecDepth 100000 in
def wp_X5_placeOf  (g : Gh) (M0 : Mem) (a0 : Nat) (p1 : Int32) (post : Int32 → Mem → Prop) : Prop :=
  okc (gB g) M0 a0 5 ∧ ((∃ n : Nat, lfp (fun bk z => bd_X5_placeOf_4  g M0 a0 p1 post  bk z.1 z.2.1 z.2.2) n (0, 0, M0)))
set_option maxHeartbeats 4000000 in
set_option maxRecDepth 100000 in
theorem lp_X5_placeOf_4 {l : Launch} {g : Gh} {p : Program} {e : Env} {s : State} {m : MethodId} {args : Array Value} {below : List Frame} {meth : Method} {c : Code} {M0 : Mem} {a0 : Nat} {p1 : Int32} {post : Int32 → Mem → Prop}  (C : Cx g p s m args c cX5_placeOf 4 RX5) (hr : meth.sig.returnType = (some .int)) (hlk : meth.locks = false) (hn : meth.name = "placeOf") (h0 : okc (gB g) M0 a0 5)  : ∀ (nf : Nat) (x2 : Int32) (x3 : Int32)  (M : Mem) (H : Heap) (locs : List Loc) (ls : Array Slot), lfp (fun bk z => bd_X5_placeOf_4  g M0 a0 p1 post  bk z.1 z.2.1 z.2.2) nf (x2, x3, M) → Wd g s M0 M H locs → lv_has ls 4 [(0, .ref a0), (1, .int p1), (2, .int x2), (3, .int x3)] → W p l e (rmo 2 0 0) s m args below meth c H locs 0 0 (MQ below (Cq g M0 (pI post)) args s 0 0 (gA g)) (F0 m 4 ls []) := by
  have hx := C.1.1
  have hb := C.1.2.1
  intro nf
  induction nf with
  | zero => intro _ _ _ H locs ls hq; exact hq.elim
  | succ nf hk4 =>
    intro x2 x3 M H locs ls hq hw hl
    replace hq : bd_X5_placeOf_4  g M0 a0 p1 post  (lfp (fun bk z => bd_X5_placeOf_4  g M0 a0 p1 post  bk z.1 z.2.1 z.2.2) nf) x2 x3 M := hq
    unfold bd_X5_placeOf_4 at hq
    refine lv_iload_n hx hb dX5_placeOf_4 rfl (lv_at hl 3 rfl) ?_
    refine lv_bipush (v := 12) hx hb dX5_placeOf_5 (by decide) ?_
    refine lv_icmp_ge (tgt := 33) hx hb dX5_placeOf_7 (by decide) (fun c1 => ?_) (fun c1 => ?_)
    · replace hq := hq.1 c1
      refine lv_iload_n hx hb dX5_placeOf_33 rfl (lv_at hl 2 rfl) ?_
      exact r_iret C hr hlk hw dX5_placeOf_34 (Nat.le_refl _) (Nat.le_refl _) ⟨_, rfl, hq⟩
    · replace hq := hq.2 c1
      refine lv_iload_n hx hb dX5_placeOf_10 rfl (lv_at hl 3 rfl) ?_
      refine lv_iload_n hx hb dX5_placeOf_11 rfl (lv_at hl 1 rfl) ?_
      refine lv_icmp_eq (tgt := 27) hx hb dX5_placeOf_12 (by decide) (fun c2 => ?_) (fun c2 => ?_)
      · replace hq := hq.1 c2
        refine lv_iinc (v := (x3 + 1)) (lv' := [(3, .int (x3 + 1)), (0, .ref a0), (1, .int p1), (2, .int x2)]) hx hb dX5_placeOf_27 hl (k := 3) rfl rfl (by decide) rfl (fun ls hl => ?_)
        refine lv_goto (tgt := 4) hx hb dX5_placeOf_30 (by decide) ?_
        exact hk4 _ _ _ _ _ _ hq hw (lv_sub hl [1, 2, 3, 0] rfl)
      · replace hq := hq.2 c2
        refine lv_aload_n hx hb dX5_placeOf_15 rfl (lv_at hl 0 rfl) ?_
        refine lv_iload_n hx hb dX5_placeOf_16 rfl (lv_at hl 3 rfl) ?_
        refine lv_iload_n hx hb dX5_placeOf_17 rfl (lv_at hl 1 rfl) ?_
        refine r_callV (T := TX5) (N := 5) (ci := 5) (index := 40) (n := 2) (d2 := 1) (mc := 0) (ms := 0) (As := [.int x3, .int p1]) (rest := []) C hw (ct_X5_isAhead hq) kvX5_40 hq.1 (by decide) rfl ⟨by decide, by decide⟩ ⟨by decide, by decide⟩ rfl hl.1 rfl (Nat.le_of_ble_eq_true rfl) dX5_placeOf_18 (fun r M4 H locs hp hle hw => ?_)
        obtain ⟨v3, rfl, hq⟩ := hp
        refine W.eq (g2 := F0 m 21 ls [.int v3]) rfl ?_
        refine lv_if_eq (tgt := 27) hx hb dX5_placeOf_21 (by decide) (fun c5 => ?_) (fun c5 => ?_)
        · replace hq := hq.1 c5
          refine lv_iinc (v := (x3 + 1)) (lv' := [(3, .int (x3 + 1)), (0, .ref a0), (1, .int p1), (2, .int x2)]) hx hb dX5_placeOf_27 hl (k := 3) rfl rfl (by decide) rfl (fun ls hl => ?_)
          refine lv_goto (tgt := 4) hx hb dX5_placeOf_30 (by decide) ?_
          exact hk4 _ _ _ _ _ _ hq hw (lv_sub hl [1, 2, 3, 0] rfl)
        · replace hq := hq.2 c5
          refine lv_iinc (v := (x2 + 1)) (lv' := [(2, .int (x2 + 1)), (0, .ref a0), (1, .int p1), (3, .int x3)]) hx hb dX5_placeOf_24 hl (k := 2) rfl rfl (by decide) rfl (fun ls hl => ?_)
          refine lv_iinc (v := (x3 + 1)) (lv' := [(3, .int (x3 + 1)), (2, .int (x2 + 1)), (0, .ref a0), (1, .int p1)]) hx hb dX5_placeOf_27 hl (k := 3) rfl rfl (by decide) rfl (fun ls hl => ?_)
          refine lv_goto (tgt := 4) hx hb dX5_placeOf_30 (by decide) ?_
          exact hk4 _ _ _ _ _ _ hq hw (lv_sub hl [2, 3, 1, 0] rfl)
set_option maxHeartbeats 4000000 in
set_option maxRecDepth 100000 in
theorem ct_X5_placeOf {l : Launch} {g : Gh} {M0 : Mem} {a0 : Nat} {p1 : Int32} {post : Int32 → Mem → Prop}  (hq : wp_X5_placeOf  g M0 a0 p1 post) : Ct l g yX5_placeOf cX5_placeOf 4 (some .int) 2 0 0 [.ref a0, .int p1] M0 (pI post) := by
  unfold wp_X5_placeOf at hq
  obtain ⟨h0, hq⟩ := hq
  refine Ct.of (by decide) (Nat.le_of_ble_eq_true rfl) ?_
  intro p e s m below meth c ls C hr hlk hn hl hw
  have hx := C.1.1
  have hb := C.1.2.1
  have hl : lv_has ls 4 [(0, .ref a0), (1, .int p1)] := hl
  refine lv_iconst (v := 0) hx hb dX5_placeOf_0 (by decide) ?_
  refine lv_istore_n (lv' := [(2, .int 0), (0, .ref a0), (1, .int p1)]) hx hb dX5_placeOf_1 rfl hl (by decide) rfl (fun ls hl => ?_)
  refine lv_iconst (v := 0) hx hb dX5_placeOf_2 (by decide) ?_
  refine lv_istore_n (lv' := [(3, .int 0), (2, .int 0), (0, .ref a0), (1, .int p1)]) hx hb dX5_placeOf_3 rfl hl (by decide) rfl (fun ls hl => ?_)
  obtain ⟨nf, hq⟩ := hq
  exact lp_X5_placeOf_4  C hr hlk hn h0  nf _ _ _ _ _ _ hq hw (lv_sub hl [2, 3, 1, 0] rfl)

set_option maxRecDepth 100000 in
def bd_X5_teamAt_2  (g : Gh) (M0 : Mem) (a0 : Nat) (p1 : Int32) (post : Int32 → Mem → Prop)  (bk2 : Int32 × Mem → Prop) (x2 : Int32)  (M : Mem) : Prop :=
  ((12 ≤ x2) → post (-1) M) ∧ (¬ (12 ≤ x2) → wp_X5_placeOf g M a0 x2 (fun v2 M3 => ((v2 = p1) → post x2 M3) ∧ (¬ (v2 = p1) → bk2 ((x2 + 1), M3))))
set_option maxRecDepth 100000 in
def wp_X5_teamAt  (g : Gh) (M0 : Mem) (a0 : Nat) (p1 : Int32) (post : Int32 → Mem → Prop) : Prop :=
  okc (gB g) M0 a0 5 ∧ ((∃ n : Nat, lfp (fun bk z => bd_X5_teamAt_2  g M0 a0 p1 post  bk z.1 z.2) n (0, M0)))
set_option maxHeartbeats 4000000 in
set_option maxRecDepth 100000 in
theorem lp_X5_teamAt_2 {l : Launch} {g : Gh} {p : Program} {e : Env} {s : State} {m : MethodId} {args : Array Value} {below : List Frame} {meth : Method} {c : Code} {M0 : Mem} {a0 : Nat} {p1 : Int32} {post : Int32 → Mem → Prop}  (C : Cx g p s m args c cX5_teamAt 3 RX5) (hr : meth.sig.returnType = (some .int)) (hlk : meth.locks = false) (hn : meth.name = "teamAt") (h0 : okc (gB g) M0 a0 5)  : ∀ (nf : Nat) (x2 : Int32)  (M : Mem) (H : Heap) (locs : List Loc) (ls : Array Slot), lfp (fun bk z => bd_X5_teamAt_2  g M0 a0 p1 post  bk z.1 z.2) nf (x2, M) → Wd g s M0 M H locs → lv_has ls 3 [(0, .ref a0), (1, .int p1), (2, .int x2)] → W p l e (rmo 3 0 0) s m args below meth c H locs 0 0 (MQ below (Cq g M0 (pI post)) args s 0 0 (gA g)) (F0 m 2 ls []) := by
  have hx := C.1.1
  have hb := C.1.2.1
  intro nf
  induction nf with
  | zero => intro _ _ H locs ls hq; exact hq.elim
  | succ nf hk2 =>
    intro x2 M H locs ls hq hw hl
    replace hq : bd_X5_teamAt_2  g M0 a0 p1 post  (lfp (fun bk z => bd_X5_teamAt_2  g M0 a0 p1 post  bk z.1 z.2) nf) x2 M := hq
    unfold bd_X5_teamAt_2 at hq
    refine lv_iload_n hx hb dX5_teamAt_2 rfl (lv_at hl 2 rfl) ?_
    refine lv_bipush (v := 12) hx hb dX5_teamAt_3 (by decide) ?_
    refine lv_icmp_ge (tgt := 25) hx hb dX5_teamAt_5 (by decide) (fun c1 => ?_) (fun c1 => ?_)
    · replace hq := hq.1 c1
      refine lv_iconst (v := (-1)) hx hb dX5_teamAt_25 (by decide) ?_
      exact r_iret C hr hlk hw dX5_teamAt_26 (Nat.le_refl _) (Nat.le_refl _) ⟨_, rfl, hq⟩
    · replace hq := hq.2 c1
      refine lv_aload_n hx hb dX5_teamAt_8 rfl (lv_at hl 0 rfl) ?_
      refine lv_iload_n hx hb dX5_teamAt_9 rfl (lv_at hl 2 rfl) ?_
      refine r_callV (T := TX5) (N := 5) (ci := 5) (index := 32) (n := 1) (d2 := 2) (mc := 0) (ms := 0) (As := [.int x2]) (rest := []) C hw (ct_X5_placeOf hq) kvX5_32 hq.1 (by decide) rfl ⟨by decide, by decide⟩ ⟨by decide, by decide⟩ rfl hl.1 rfl (Nat.le_of_ble_eq_true rfl) dX5_teamAt_10 (fun r M3 H locs hp hle hw => ?_)
      obtain ⟨v2, rfl, hq⟩ := hp
      refine W.eq (g2 := F0 m 13 ls [.int v2]) rfl ?_
      refine lv_iload_n hx hb dX5_teamAt_13 rfl (lv_at hl 1 rfl) ?_
      refine lv_icmp_ne (tgt := 19) hx hb dX5_teamAt_14 (by decide) (fun c4 => ?_) (fun c4 => ?_)
      · replace hq := hq.2 c4
        refine lv_iinc (v := (x2 + 1)) (lv' := [(2, .int (x2 + 1)), (0, .ref a0), (1, .int p1)]) hx hb dX5_teamAt_19 hl (k := 2) rfl rfl (by decide) rfl (fun ls hl => ?_)
        refine lv_goto (tgt := 2) hx hb dX5_teamAt_22 (by decide) ?_
        exact hk2 _ _ _ _ _ hq hw (lv_sub hl [1, 2, 0] rfl)
      · replace hq := hq.1 c4
        refine lv_iload_n hx hb dX5_teamAt_17 rfl (lv_at hl 2 rfl) ?_
        exact r_iret C hr hlk hw dX5_teamAt_18 (Nat.le_refl _) (Nat.le_refl _) ⟨_, rfl, hq⟩
set_option maxHeartbeats 4000000 in
set_option maxRecDepth 100000 in
theorem ct_X5_teamAt {l : Launch} {g : Gh} {M0 : Mem} {a0 : Nat} {p1 : Int32} {post : Int32 → Mem → Prop}  (hq : wp_X5_teamAt  g M0 a0 p1 post) : Ct l g yX5_teamAt cX5_teamAt 3 (some .int) 3 0 0 [.ref a0, .int p1] M0 (pI post) := by
  unfold wp_X5_teamAt at hq
  obtain ⟨h0, hq⟩ := hq
  refine Ct.of (by decide) (Nat.le_of_ble_eq_true rfl) ?_
  intro p e s m below meth c ls C hr hlk hn hl hw
  have hx := C.1.1
  have hb := C.1.2.1
  have hl : lv_has ls 3 [(0, .ref a0), (1, .int p1)] := hl
  refine lv_iconst (v := 0) hx hb dX5_teamAt_0 (by decide) ?_
  refine lv_istore_n (lv' := [(2, .int 0), (0, .ref a0), (1, .int p1)]) hx hb dX5_teamAt_1 rfl hl (by decide) rfl (fun ls hl => ?_)
  obtain ⟨nf, hq⟩ := hq
  exact lp_X5_teamAt_2  C hr hlk hn h0  nf _ _ _ _ _ hq hw (lv_sub hl [1, 2, 0] rfl)

set_option maxRecDepth 100000 in
def wp_X5_tell  (g : Gh) (M0 : Mem) (a0 : Nat) (p1 : Int32) (p2 : Int32) (post : Int32 → Mem → Prop) : Prop :=
  okc (gB g) M0 a0 5 ∧ (wp_X11_isTeam g M0 p1 (fun v1 M2 => ((v1 = 0) → post (-1) M2) ∧ (¬ (v1 = 0) → ((p2 = 0) → post p1 M2) ∧ ((p2 = 1) → ∃ q5, mR M2 a0 0 = some q5 ∧ (okc (gB g) M0 q5 14 ∧ (vp_in p1 (mN M0 q5) ∧ (post (mI M2 q5 (Int32.toNatClampNeg p1)) M2)))) ∧ ((p2 = 2) → ∃ q9, mR M2 a0 1 = some q9 ∧ (okc (gB g) M0 q9 14 ∧ (vp_in p1 (mN M0 q9) ∧ (post (mI M2 q9 (Int32.toNatClampNeg p1)) M2)))) ∧ ((p2 = 3) → ∃ q13, mR M2 a0 2 = some q13 ∧ (okc (gB g) M0 q13 14 ∧ (vp_in p1 (mN M0 q13) ∧ (post (mI M2 q13 (Int32.toNatClampNeg p1)) M2)))) ∧ ((p2 = 4) → ∃ q17, mR M2 a0 3 = some q17 ∧ (okc (gB g) M0 q17 14 ∧ (vp_in p1 (mN M0 q17) ∧ (post (mI M2 q17 (Int32.toNatClampNeg p1)) M2)))) ∧ ((¬ (p2 = 0) ∧ ¬ (p2 = 1) ∧ ¬ (p2 = 2) ∧ ¬ (p2 = 3) ∧ ¬ (p2 = 4)) → post (-1) M2))))
set_option maxHeartbeats 4000000 in
set_option maxRecDepth 100000 in
theorem ct_X5_tell {l : Launch} {g : Gh} {M0 : Mem} {a0 : Nat} {p1 : Int32} {p2 : Int32} {post : Int32 → Mem → Prop}  (hq : wp_X5_tell  g M0 a0 p1 p2 post) : Ct l g yX5_tell cX5_tell 3 (some .int) 1 0 0 [.ref a0, .int p1, .int p2] M0 (pI post) := by
  unfold wp_X5_tell at hq
  obtain ⟨h0, hq⟩ := hq
  refine Ct.of (by decide) (Nat.le_of_ble_eq_true rfl) ?_
  intro p e s m below meth c ls C hr hlk hn hl hw
  have hx := C.1.1
  have hb := C.1.2.1
  have hl : lv_has ls 3 [(0, .ref a0), (1, .int p1), (2, .int p2)] := hl
  refine lv_iload_n hx hb dX5_tell_0 rfl (lv_at hl 1 rfl) ?_
  refine r_callSN (index := 36) (n := 1) (d2 := 0) (mc := 0) (ms := 0) (As := [.int p1]) (rest := []) C hw (ct_X11_isTeam hq) ksX5_36 ⟨by decide, by decide⟩ ⟨by decide, by decide⟩ rfl hl.1 rfl (Nat.le_of_ble_eq_true rfl) dX5_tell_1 (fun r M2 H locs hp hle hw => ?_)
  obtain ⟨v1, rfl, hq⟩ := hp
  refine W.eq (g2 := F0 m 4 ls [.int v1]) rfl ?_
  refine lv_if_ne (tgt := 9) hx hb dX5_tell_4 (by decide) (fun c3 => ?_) (fun c3 => ?_)
  · replace hq := hq.2 c3
    refine lv_iload_n hx hb dX5_tell_9 rfl (lv_at hl 2 rfl) ?_
    by_cases c21 : p2 = 0
    · refine r_table (v := 0) (off := 34) (tgt := 44) hx hb dX5_tell_10 c21 (by decide) (by decide) rfl (by decide) ?_
      replace hq := hq.1 c21
      refine lv_iload_n hx hb dX5_tell_44 rfl (lv_at hl 1 rfl) ?_
      exact r_iret C hr hlk hw dX5_tell_45 (Nat.le_refl _) (Nat.le_refl _) ⟨_, rfl, hq⟩
    by_cases c22 : p2 = 1
    · refine r_table (v := 1) (off := 36) (tgt := 46) hx hb dX5_tell_10 c22 (by decide) (by decide) rfl (by decide) ?_
      replace hq := hq.2.1 c22
      refine lv_aload_n hx hb dX5_tell_46 rfl (lv_at hl 0 rfl) ?_
      obtain ⟨q5, e6, hq⟩ := hq
      refine gfX5_9 C hw hw.2.2.1 h0 e6 dX5_tell_47 ?_
      refine lv_iload_n hx hb dX5_tell_50 rfl (lv_at hl 1 rfl) ?_
      obtain ⟨h7, hq⟩ := hq
      obtain ⟨h8, hq⟩ := hq
      refine q_iald C hw hw.2.2.1 h7 h8 dX5_tell_51 ?_
      exact r_iret C hr hlk hw dX5_tell_52 (Nat.le_refl _) (Nat.le_refl _) ⟨_, rfl, hq⟩
    by_cases c23 : p2 = 2
    · refine r_table (v := 2) (off := 43) (tgt := 53) hx hb dX5_tell_10 c23 (by decide) (by decide) rfl (by decide) ?_
      replace hq := hq.2.2.1 c23
      refine lv_aload_n hx hb dX5_tell_53 rfl (lv_at hl 0 rfl) ?_
      obtain ⟨q9, e10, hq⟩ := hq
      refine gfX5_15 C hw hw.2.2.1 h0 e10 dX5_tell_54 ?_
      refine lv_iload_n hx hb dX5_tell_57 rfl (lv_at hl 1 rfl) ?_
      obtain ⟨h11, hq⟩ := hq
      obtain ⟨h12, hq⟩ := hq
      refine q_iald C hw hw.2.2.1 h11 h12 dX5_tell_58 ?_
      exact r_iret C hr hlk hw dX5_tell_59 (Nat.le_refl _) (Nat.le_refl _) ⟨_, rfl, hq⟩
    by_cases c24 : p2 = 3
    · refine r_table (v := 3) (off := 50) (tgt := 60) hx hb dX5_tell_10 c24 (by decide) (by decide) rfl (by decide) ?_
      replace hq := hq.2.2.2.1 c24
      refine lv_aload_n hx hb dX5_tell_60 rfl (lv_at hl 0 rfl) ?_
      obtain ⟨q13, e14, hq⟩ := hq
      refine gfX5_18 C hw hw.2.2.1 h0 e14 dX5_tell_61 ?_
      refine lv_iload_n hx hb dX5_tell_64 rfl (lv_at hl 1 rfl) ?_
      obtain ⟨h15, hq⟩ := hq
      obtain ⟨h16, hq⟩ := hq
      refine q_iald C hw hw.2.2.1 h15 h16 dX5_tell_65 ?_
      exact r_iret C hr hlk hw dX5_tell_66 (Nat.le_refl _) (Nat.le_refl _) ⟨_, rfl, hq⟩
    by_cases c25 : p2 = 4
    · refine r_table (v := 4) (off := 57) (tgt := 67) hx hb dX5_tell_10 c25 (by decide) (by decide) rfl (by decide) ?_
      replace hq := hq.2.2.2.2.1 c25
      refine lv_aload_n hx hb dX5_tell_67 rfl (lv_at hl 0 rfl) ?_
      obtain ⟨q17, e18, hq⟩ := hq
      refine gfX5_21 C hw hw.2.2.1 h0 e18 dX5_tell_68 ?_
      refine lv_iload_n hx hb dX5_tell_71 rfl (lv_at hl 1 rfl) ?_
      obtain ⟨h19, hq⟩ := hq
      obtain ⟨h20, hq⟩ := hq
      refine q_iald C hw hw.2.2.1 h19 h20 dX5_tell_72 ?_
      exact r_iret C hr hlk hw dX5_tell_73 (Nat.le_refl _) (Nat.le_refl _) ⟨_, rfl, hq⟩
    refine r_tableOut (tgt := 74) (k := 4) hx hb dX5_tell_10 (by decide) (fun j hj => by rcases (show j = 0 ∨ j = 1 ∨ j = 2 ∨ j = 3 ∨ j = 4 by omega) with rfl | rfl | rfl | rfl | rfl <;> assumption) (by decide) ?_
    replace hq := hq.2.2.2.2.2 ⟨c21, c22, c23, c24, c25⟩
    refine lv_iconst (v := (-1)) hx hb dX5_tell_74 (by decide) ?_
    exact r_iret C hr hlk hw dX5_tell_75 (Nat.le_refl _) (Nat.le_refl _) ⟨_, rfl, hq⟩
  · replace hq := hq.1 c3
    refine lv_iconst (v := (-1)) hx hb dX5_tell_7 (by decide) ?_
    exact r_iret C hr hlk hw dX5_tell_8 (Nat.le_refl _) (Nat.le_refl _) ⟨_, rfl, hq⟩

set_option maxRecDepth 100000 in
def lb_X6_init_50  (g : Gh) (M0 : Mem) (a0 : Nat) (a1 : Nat) (post : Mem → Prop)    (M : Mem) (ck sk : Nat) : Prop :=
  (ck + 1 ≤ 122 ∧ sk + 2 ≤ 842) ∧ (∀ q2 M3, q2 = mT M → M3 = nw M 14 2 → (∀ M7, M7 = uR M3 a0 8 (some q2) → (((ck + 1) ≤ 122 ∧ (sk + 2) ≤ 842) ∧ (post M7))))
set_option maxRecDepth 100000 in
def bd_X6_init_25  (g : Gh) (M0 : Mem) (a0 : Nat) (a1 : Nat) (post : Mem → Prop)  (bk25 : Int32 × Mem × Nat × Nat → Prop) (x2 : Int32)  (M : Mem) (ck sk : Nat) : Prop :=
  ((120 ≤ x2) → lb_X6_init_50  g M0 a0 a1 post   M ck sk) ∧ (¬ (120 ≤ x2) → ∃ q11, mR M a0 2 = some q11 ∧ ((ck + 1 ≤ 122 ∧ sk + 6 ≤ 842) ∧ (∀ q14 M15, q14 = mT M → M15 = nw M 0 0 → (((ck + 1) ≤ 122 ∧ (sk + 6) ≤ 842) ∧ (wp_X0_init g M15 q14 (fun M20 => okc (gB g) M20 q11 18 ∧ (vp_in x2 (mN M20 q11) ∧ (∀ M24, M24 = uR M20 q11 (Int32.toNatClampNeg x2) (some q14) → (bk25 ((x2 + 1), M24, (ck + 1), (sk + 6)))))))))))
set_option maxRecDepth 100000 in
def wp_X6_init  (g : Gh) (M0 : Mem) (a0 : Nat) (a1 : Nat) (post : Mem → Prop) : Prop :=
  okc (gB g) M0 a0 6 ∧ (∀ M26, M26 = uI M0 a0 0 0 → (∀ M28, M28 = uR M26 a0 1 (some a1) → ((0 + 1 ≤ 122 ∧ 0 + 120 ≤ 842) ∧ (∀ q31 M32, q31 = mT M28 → M32 = nw M28 18 120 → (∀ M36, M36 = uR M32 a0 2 (some q31) → ((∃ n : Nat, lfp (fun bk z => bd_X6_init_25  g M0 a0 a1 post  bk z.1 z.2.1 z.2.2.1 z.2.2.2) n (0, M36, (0 + 1), (0 + 120)))))))))
set_option maxHeartbeats 4000000 in
set_option maxRecDepth 100000 in
theorem lt_X6_init_50 {l : Launch} {g : Gh} {p : Program} {e : Env} {s : State} {m : MethodId} {args : Array Value} {below : List Frame} {meth : Method} {c : Code} {H : Heap} {locs : List Loc} {ls : Array Slot} {M0 M : Mem} {a0 : Nat} {a1 : Nat} {post : Mem → Prop}   {ck sk : Nat}  (C : Cx g p s m args c cX6_init 3 RX6) (hr : meth.sig.returnType = none) (hlk : meth.locks = false) (hn : meth.name = "<init>") (h0 : okc (gB g) M0 a0 6)  (hq : lb_X6_init_50  g M0 a0 a1 post   M ck sk) (hw : Wd g s M0 M H locs) (hl : lv_has ls 3 [(0, .ref a0), (1, .ref a1)]) : W p l e (rmo 2 122 842) s m args below meth c H locs ck sk (MQ below (Cq g M0 (pV post)) args s 122 842 (gA g)) (F0 m 50 ls []) := by
  have hx := C.1.1
  have hb := C.1.2.1
  unfold lb_X6_init_50 at hq
  have h00 := h0
  replace h0 := h0.up hw.2.2.1
  refine lv_aload_n hx hb dX6_init_50 rfl (lv_at hl 0 rfl) ?_
  refine lv_iconst (v := 2) hx hb dX6_init_51 (by decide) ?_
  have hB := hw.B C.2.2.2.2.2
  obtain ⟨h1, hq⟩ := hq
  refine q_newa_14 (N' := 2) C hw (by decide) (by decide) (by decide) h1.1 h1.2 dX6_init_52 (fun H hw => ?_)
  have h6 := okc_nw (gB g) M 14 2 hB
  have h0 := h0.up (mle_nw M 14 2)
  generalize e4 : nw M 14 2 = M3 at hw h6 h0
  generalize e5 : mT M = q2 at h6 ⊢
  replace hq := hq q2 M3 e5.symm e4.symm
  refine pfX6_26 (v := (some q2)) C hw (mle_rf _) h0 hn dX6_init_54 (fun H locs hw => ?_)
  generalize e8 : uR M3 a0 8 (some q2) = M7 at hw
  replace hq := hq M7 e8.symm
  have h0 : okc (gB g) M7 a0 6 := by rw [← e8]; exact okc_uR h0
  obtain ⟨h9, hq⟩ := hq
  exact r_vret C hr hlk hw dX6_init_57 h9.1 h9.2 ⟨rfl, hq⟩
set_option maxHeartbeats 4000000 in
set_option maxRecDepth 100000 in
theorem lp_X6_init_25 {l : Launch} {g : Gh} {p : Program} {e : Env} {s : State} {m : MethodId} {args : Array Value} {below : List Frame} {meth : Method} {c : Code} {M0 : Mem} {a0 : Nat} {a1 : Nat} {post : Mem → Prop}  (C : Cx g p s m args c cX6_init 3 RX6) (hr : meth.sig.returnType = none) (hlk : meth.locks = false) (hn : meth.name = "<init>") (h0 : okc (gB g) M0 a0 6)  : ∀ (nf : Nat) (x2 : Int32)  (M : Mem) (ck sk : Nat) (H : Heap) (locs : List Loc) (ls : Array Slot), lfp (fun bk z => bd_X6_init_25  g M0 a0 a1 post  bk z.1 z.2.1 z.2.2.1 z.2.2.2) nf (x2, M, ck, sk) → Wd g s M0 M H locs → lv_has ls 3 [(0, .ref a0), (1, .ref a1), (2, .int x2)] → W p l e (rmo 2 122 842) s m args below meth c H locs ck sk (MQ below (Cq g M0 (pV post)) args s 122 842 (gA g)) (F0 m 25 ls []) := by
  have hx := C.1.1
  have hb := C.1.2.1
  intro nf
  induction nf with
  | zero => intro _ _ _ _ H locs ls hq; exact hq.elim
  | succ nf hk25 =>
    intro x2 M ck sk H locs ls hq hw hl
    replace hq : bd_X6_init_25  g M0 a0 a1 post  (lfp (fun bk z => bd_X6_init_25  g M0 a0 a1 post  bk z.1 z.2.1 z.2.2.1 z.2.2.2) nf) x2 M ck sk := hq
    unfold bd_X6_init_25 at hq
    have h00 := h0
    replace h0 := h0.up hw.2.2.1
    refine lv_iload_n hx hb dX6_init_25 rfl (lv_at hl 2 rfl) ?_
    refine lv_bipush (v := 120) hx hb dX6_init_26 (by decide) ?_
    refine lv_icmp_ge (tgt := 50) hx hb dX6_init_28 (by decide) (fun c10 => ?_) (fun c10 => ?_)
    · replace hq := hq.1 c10
      exact lt_X6_init_50  C hr hlk hn h00  hq hw (lv_sub hl [0, 1] rfl)
    · replace hq := hq.2 c10
      refine lv_aload_n hx hb dX6_init_31 rfl (lv_at hl 0 rfl) ?_
      obtain ⟨q11, e12, hq⟩ := hq
      refine gfX6_21 C hw (mle_rf _) h0 e12 dX6_init_32 ?_
      refine lv_iload_n hx hb dX6_init_35 rfl (lv_at hl 2 rfl) ?_
      have hB := hw.B C.2.2.2.2.2
      obtain ⟨h13, hq⟩ := hq
      refine r_new tyX0 (T := TX0) (N := 6) (ci := 0) C hw rfl (by decide) inX0 tyX0_ok w_268 w_270 w_9 df_0 h13.1 h13.2 dX6_init_36 (fun H hw => ?_)
      have h18 := okc_nw (gB g) M 0 0 hB
      have h0 := h0.up (mle_nw M 0 0)
      generalize e16 : nw M 0 0 = M15 at hw h18 h0
      generalize e17 : mT M = q14 at h18 ⊢
      replace hq := hq q14 M15 e17.symm e16.symm
      refine lv_dup hx hb dX6_init_39 rfl ?_
      obtain ⟨h21, hq⟩ := hq
      refine r_callIN (index := 25) (n := 0) (d2 := 1) (mc := 0) (ms := 0) (As := []) (rest := [.ref q14, .int x2, .ref q11]) C hw (ct_X0_init hq) kiX6_25 ⟨by decide, by decide⟩ ⟨h21.1, h21.2⟩ rfl hl.1 rfl (Nat.le_of_ble_eq_true rfl) dX6_init_40 (fun r M20 H locs hp hle hw => ?_)
      obtain ⟨rfl, hq⟩ := hp
      have h0 := h0.up hle
      have h18 := h18.up hle
      refine W.eq (g2 := F0 m 43 ls [.ref q14, .int x2, .ref q11]) rfl ?_
      obtain ⟨h22, hq⟩ := hq
      obtain ⟨h23, hq⟩ := hq
      refine q_aast (ci := 0) C hw (mle_rf _) h22 (by decide) (by decide) rfl h18 (by decide) rfl h23 dX6_init_43 (fun H locs hw => ?_)
      generalize e25 : uR M20 q11 (Int32.toNatClampNeg x2) (some q14) = M24 at hw
      replace hq := hq M24 e25.symm
      have h0 : okc (gB g) M24 a0 6 := by rw [← e25]; exact okc_uR h0
      refine lv_iinc (v := (x2 + 1)) (lv' := [(2, .int (x2 + 1)), (0, .ref a0), (1, .ref a1)]) hx hb dX6_init_44 hl (k := 2) rfl rfl (by decide) rfl (fun ls hl => ?_)
      refine lv_goto (tgt := 25) hx hb dX6_init_47 (by decide) ?_
      exact hk25 _ _ _ _ _ _ _ hq hw (lv_sub hl [1, 2, 0] rfl)
set_option maxHeartbeats 4000000 in
set_option maxRecDepth 100000 in
theorem ct_X6_init {l : Launch} {g : Gh} {M0 : Mem} {a0 : Nat} {a1 : Nat} {post : Mem → Prop}  (hq : wp_X6_init  g M0 a0 a1 post) : Ct l g yX6_init cX6_init 3 none 2 122 842 [.ref a0, .ref a1] M0 (pV post) := by
  unfold wp_X6_init at hq
  obtain ⟨h0, hq⟩ := hq
  have h00 := h0
  refine Ct.of (by decide) (Nat.le_of_ble_eq_true rfl) ?_
  intro p e s m below meth c ls C hr hlk hn hl hw
  have hx := C.1.1
  have hb := C.1.2.1
  have hl : lv_has ls 3 [(0, .ref a0), (1, .ref a1)] := hl
  refine lv_aload_n hx hb dX6_init_0 rfl (lv_at hl 0 rfl) ?_
  refine W.objInit hx hb C.1.2.2.2.1 (C.1.2.2.2.2 _ w_267) (C.1.2.2.2.2 _ w_35) (C.1.2.2.2.2 _ w_objInit) rfl (by rw [C.1.2.2.1]; exact hl.1) rfl dX6_init_1 (Nat.le_of_ble_eq_true rfl) (Nat.le_of_ble_eq_true rfl) ?_
  refine W.eq (g2 := F0 m 4 ls []) rfl ?_
  refine lv_aload_n hx hb dX6_init_4 rfl (lv_at hl 0 rfl) ?_
  refine lv_iconst (v := 0) hx hb dX6_init_5 (by decide) ?_
  refine pfX6_9 C hw (mle_rf _) h0 (by decide) dX6_init_6 (fun H locs hw => ?_)
  generalize e27 : uI M0 a0 0 0 = M26 at hw
  replace hq := hq M26 e27.symm
  have h0 : okc (gB g) M26 a0 6 := by rw [← e27]; exact okc_uI h0
  refine lv_aload_n hx hb dX6_init_9 rfl (lv_at hl 0 rfl) ?_
  refine lv_aload_n hx hb dX6_init_10 rfl (lv_at hl 1 rfl) ?_
  refine pfX6_15 (v := (some a1)) C hw (mle_rf _) h0 dX6_init_11 (fun H locs hw => ?_)
  generalize e29 : uR M26 a0 1 (some a1) = M28 at hw
  replace hq := hq M28 e29.symm
  have h0 : okc (gB g) M28 a0 6 := by rw [← e29]; exact okc_uR h0
  refine lv_aload_n hx hb dX6_init_14 rfl (lv_at hl 0 rfl) ?_
  refine lv_bipush (v := 120) hx hb dX6_init_15 (by decide) ?_
  have hB := hw.B C.2.2.2.2.2
  obtain ⟨h30, hq⟩ := hq
  refine r_newq (kd := 18) (N' := 120) C hw w_268 C.2.2.2.1.1 rfl (by decide) (by decide) (by decide) (by decide) (by decide) h30.1 h30.2 dX6_init_17 (fun H hw => ?_)
  have h35 := okc_nw (gB g) M28 18 120 hB
  have h0 := h0.up (mle_nw M28 18 120)
  generalize e33 : nw M28 18 120 = M32 at hw h35 h0
  generalize e34 : mT M28 = q31 at h35 ⊢
  replace hq := hq q31 M32 e34.symm e33.symm
  refine pfX6_21 (v := (some q31)) C hw (mle_rf _) h0 hn dX6_init_20 (fun H locs hw => ?_)
  generalize e37 : uR M32 a0 2 (some q31) = M36 at hw
  replace hq := hq M36 e37.symm
  have h0 : okc (gB g) M36 a0 6 := by rw [← e37]; exact okc_uR h0
  refine lv_iconst (v := 0) hx hb dX6_init_23 (by decide) ?_
  refine lv_istore_n (lv' := [(2, .int 0), (0, .ref a0), (1, .ref a1)]) hx hb dX6_init_24 rfl hl (by decide) rfl (fun ls hl => ?_)
  obtain ⟨nf, hq⟩ := hq
  exact lp_X6_init_25  C hr hlk hn h00  nf _ _ _ _ _ _ _ hq hw (lv_sub hl [1, 2, 0] rfl)

set_option maxRecDepth 100000 in
def wp_X6_isOver  (g : Gh) (M0 : Mem) (a0 : Nat) (post : Int32 → Mem → Prop) : Prop :=
  okc (gB g) M0 a0 6 ∧ (∃ q1, mR M0 a0 1 = some q1 ∧ (okc (gB g) M0 q1 4 ∧ ((((mI M0 a0 5) < (mI M0 q1 1)) → post 0 M0) ∧ (¬ ((mI M0 a0 5) < (mI M0 q1 1)) → post 1 M0))))
set_option maxHeartbeats 4000000 in
set_option maxRecDepth 100000 in
theorem ct_X6_isOver {l : Launch} {g : Gh} {M0 : Mem} {a0 : Nat} {post : Int32 → Mem → Prop}  (hq : wp_X6_isOver  g M0 a0 post) : Ct l g yX6_isOver cX6_isOver 1 (some .boolean) 0 0 0 [.ref a0] M0 (pI post) := by
  unfold wp_X6_isOver at hq
  obtain ⟨h0, hq⟩ := hq
  refine Ct.of (by decide) (Nat.le_of_ble_eq_true rfl) ?_
  intro p e s m below meth c ls C hr hlk hn hl hw
  have hx := C.1.1
  have hb := C.1.2.1
  have hl : lv_has ls 1 [(0, .ref a0)] := hl
  refine lv_aload_n hx hb dX6_isOver_0 rfl (lv_at hl 0 rfl) ?_
  refine gfX6_37 C hw hw.2.2.1 h0 dX6_isOver_1 ?_
  refine lv_aload_n hx hb dX6_isOver_4 rfl (lv_at hl 0 rfl) ?_
  obtain ⟨q1, e2, hq⟩ := hq
  refine gfX6_15 C hw hw.2.2.1 h0 e2 dX6_isOver_5 ?_
  obtain ⟨h3, hq⟩ := hq
  refine gfX6_40 C hw hw.2.2.1 h3 dX6_isOver_8 ?_
  refine lv_icmp_lt (tgt := 18) hx hb dX6_isOver_11 (by decide) (fun c4 => ?_) (fun c4 => ?_)
  · replace hq := hq.1 c4
    refine lv_iconst (v := 0) hx hb dX6_isOver_18 (by decide) ?_
    exact r_zret C hr hlk hw dX6_isOver_19 (Nat.le_refl _) (Nat.le_refl _) (by decide) ⟨_, rfl, hq⟩
  · replace hq := hq.2 c4
    refine lv_iconst (v := 1) hx hb dX6_isOver_14 (by decide) ?_
    refine lv_goto (tgt := 19) hx hb dX6_isOver_15 (by decide) ?_
    exact r_zret C hr hlk hw dX6_isOver_19 (Nat.le_refl _) (Nat.le_refl _) (by decide) ⟨_, rfl, hq⟩

set_option maxRecDepth 100000 in
def wp_X6_isBuzz  (g : Gh) (M0 : Mem) (a0 : Nat) (post : Int32 → Mem → Prop) : Prop :=
  okc (gB g) M0 a0 6 ∧ (∃ q1, mR M0 a0 1 = some q1 ∧ (wp_X4_roundOf g M0 q1 (mI M0 a0 5) (fun v3 M4 => ((v3 < 0) → post 0 M4) ∧ (¬ (v3 < 0) → ((6 ≤ v3) → post 0 M4) ∧ (¬ (6 ≤ v3) → ∃ q7, mR M4 a0 1 = some q7 ∧ (okc (gB g) M0 q7 4 ∧ (∃ q10, mR M4 q7 3 = some q10 ∧ (okc (gB g) M0 q10 17 ∧ (vp_in v3 (mN M0 q10) ∧ ((((mI M4 q10 (Int32.toNatClampNeg v3)) = 0) → post 0 M4) ∧ (¬ ((mI M4 q10 (Int32.toNatClampNeg v3)) = 0) → post 1 M4)))))))))))
set_option maxHeartbeats 4000000 in
set_option maxRecDepth 100000 in
theorem ct_X6_isBuzz {l : Launch} {g : Gh} {M0 : Mem} {a0 : Nat} {post : Int32 → Mem → Prop}  (hq : wp_X6_isBuzz  g M0 a0 post) : Ct l g yX6_isBuzz cX6_isBuzz 2 (some .boolean) 1 0 0 [.ref a0] M0 (pI post) := by
  unfold wp_X6_isBuzz at hq
  obtain ⟨h0, hq⟩ := hq
  refine Ct.of (by decide) (Nat.le_of_ble_eq_true rfl) ?_
  intro p e s m below meth c ls C hr hlk hn hl hw
  have hx := C.1.1
  have hb := C.1.2.1
  have hl : lv_has ls 2 [(0, .ref a0)] := hl
  refine lv_aload_n hx hb dX6_isBuzz_0 rfl (lv_at hl 0 rfl) ?_
  obtain ⟨q1, e2, hq⟩ := hq
  refine gfX6_15 C hw hw.2.2.1 h0 e2 dX6_isBuzz_1 ?_
  refine lv_aload_n hx hb dX6_isBuzz_4 rfl (lv_at hl 0 rfl) ?_
  refine gfX6_37 C hw hw.2.2.1 h0 dX6_isBuzz_5 ?_
  refine r_callV (T := TX4) (N := 9) (ci := 4) (index := 106) (n := 1) (d2 := 0) (mc := 0) (ms := 0) (As := [.int (mI M0 a0 5)]) (rest := []) C hw (ct_X4_roundOf hq) kvX6_106 hq.1 (by decide) rfl ⟨by decide, by decide⟩ ⟨by decide, by decide⟩ rfl hl.1 rfl (Nat.le_of_ble_eq_true rfl) dX6_isBuzz_8 (fun r M4 H locs hp hle hw => ?_)
  obtain ⟨v3, rfl, hq⟩ := hp
  refine W.eq (g2 := F0 m 11 ls [.int v3]) rfl ?_
  refine lv_istore_n (lv' := [(1, .int v3), (0, .ref a0)]) hx hb dX6_isBuzz_11 rfl hl (by decide) rfl (fun ls hl => ?_)
  refine lv_iload_n hx hb dX6_isBuzz_12 rfl (lv_at hl 0 rfl) ?_
  refine lv_if_lt (tgt := 38) hx hb dX6_isBuzz_13 (by decide) (fun c5 => ?_) (fun c5 => ?_)
  · replace hq := hq.1 c5
    refine lv_iconst (v := 0) hx hb dX6_isBuzz_38 (by decide) ?_
    exact r_zret C hr hlk hw dX6_isBuzz_39 (Nat.le_refl _) (Nat.le_refl _) (by decide) ⟨_, rfl, hq⟩
  · replace hq := hq.2 c5
    refine lv_iload_n hx hb dX6_isBuzz_16 rfl (lv_at hl 0 rfl) ?_
    refine lv_bipush (v := 6) hx hb dX6_isBuzz_17 (by decide) ?_
    refine lv_icmp_ge (tgt := 38) hx hb dX6_isBuzz_19 (by decide) (fun c6 => ?_) (fun c6 => ?_)
    · replace hq := hq.1 c6
      refine lv_iconst (v := 0) hx hb dX6_isBuzz_38 (by decide) ?_
      exact r_zret C hr hlk hw dX6_isBuzz_39 (Nat.le_refl _) (Nat.le_refl _) (by decide) ⟨_, rfl, hq⟩
    · replace hq := hq.2 c6
      refine lv_aload_n hx hb dX6_isBuzz_22 rfl (lv_at hl 1 rfl) ?_
      obtain ⟨q7, e8, hq⟩ := hq
      refine gfX6_15 C hw hw.2.2.1 h0 e8 dX6_isBuzz_23 ?_
      obtain ⟨h9, hq⟩ := hq
      obtain ⟨q10, e11, hq⟩ := hq
      refine gfX6_121 C hw hw.2.2.1 h9 e11 dX6_isBuzz_26 ?_
      refine lv_iload_n hx hb dX6_isBuzz_29 rfl (lv_at hl 0 rfl) ?_
      obtain ⟨h12, hq⟩ := hq
      obtain ⟨h13, hq⟩ := hq
      refine q_zald C hw hw.2.2.1 h12 h13 dX6_isBuzz_30 ?_
      refine lv_if_eq (tgt := 38) hx hb dX6_isBuzz_31 (by decide) (fun c14 => ?_) (fun c14 => ?_)
      · replace hq := hq.1 c14
        refine lv_iconst (v := 0) hx hb dX6_isBuzz_38 (by decide) ?_
        exact r_zret C hr hlk hw dX6_isBuzz_39 (Nat.le_refl _) (Nat.le_refl _) (by decide) ⟨_, rfl, hq⟩
      · replace hq := hq.2 c14
        refine lv_iconst (v := 1) hx hb dX6_isBuzz_34 (by decide) ?_
        refine lv_goto (tgt := 39) hx hb dX6_isBuzz_35 (by decide) ?_
        exact r_zret C hr hlk hw dX6_isBuzz_39 (Nat.le_refl _) (Nat.le_refl _) (by decide) ⟨_, rfl, hq⟩
