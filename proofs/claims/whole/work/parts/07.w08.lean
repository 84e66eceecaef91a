set_option maxRecDepth 100000 in
def lb_X5_addSide_37  (g : Gh) (M0 : Mem) (a0 : Nat) (p1 : Int32) (p2 : Int32) (p3 : Int32) (post : Mem → Prop)   (s0 : Nat) (s1 : Int32) (s2 : Int32) (s3 : Int32) (M : Mem) : Prop :=
  okc (gB g) M0 s0 14 ∧ (vp_in s1 (mN M0 s0) ∧ (∀ M3, M3 = uI M s0 (Int32.toNatClampNeg s1) (s2 + s3) → (∃ q5, mR M3 a0 1 = some q5 ∧ (okc (gB g) M0 q5 14 ∧ (vp_in p1 (mN M0 q5) ∧ (∀ M9, M9 = uI M3 q5 (Int32.toNatClampNeg p1) ((mI M3 q5 (Int32.toNatClampNeg p1)) + 1) → (∃ q11, mR M9 a0 2 = some q11 ∧ (okc (gB g) M0 q11 14 ∧ (vp_in p1 (mN M0 q11) ∧ (∀ M15, M15 = uI M9 q11 (Int32.toNatClampNeg p1) ((mI M9 q11 (Int32.toNatClampNeg p1)) + p2) → (∃ q17, mR M15 a0 3 = some q17 ∧ (okc (gB g) M0 q17 14 ∧ (vp_in p1 (mN M0 q17) ∧ (∀ M21, M21 = uI M15 q17 (Int32.toNatClampNeg p1) ((mI M15 q17 (Int32.toNatClampNeg p1)) + p3) → (post M21)))))))))))))))
set_option maxRecDepth 100000 in
def lb_X5_addSide_17  (g : Gh) (M0 : Mem) (a0 : Nat) (p1 : Int32) (p2 : Int32) (p3 : Int32) (post : Mem → Prop)   (s0 : Int32) (M : Mem) : Prop :=
  ∃ q23, mR M a0 0 = some q23 ∧ (okc (gB g) M0 q23 14 ∧ (vp_in p1 (mN M0 q23) ∧ (((p2 = p3) → lb_X5_addSide_37  g M0 a0 p1 p2 p3 post  q23 p1 (mI M q23 (Int32.toNatClampNeg p1)) 1 M) ∧ (¬ (p2 = p3) → lb_X5_addSide_37  g M0 a0 p1 p2 p3 post  q23 p1 (mI M q23 (Int32.toNatClampNeg p1)) s0 M))))
set_option maxRecDepth 100000 in
def wp_X5_addSide  (g : Gh) (M0 : Mem) (a0 : Nat) (p1 : Int32) (p2 : Int32) (p3 : Int32) (post : Mem → Prop) : Prop :=
  okc (gB g) M0 a0 5 ∧ (wp_X11_isTeam g M0 p1 (fun v28 M29 => ((v28 = 0) → post M29) ∧ (¬ (v28 = 0) → ((p2 ≤ p3) → lb_X5_addSide_17  g M0 a0 p1 p2 p3 post  0 M29) ∧ (¬ (p2 ≤ p3) → lb_X5_addSide_17  g M0 a0 p1 p2 p3 post  2 M29))))
set_option maxHeartbeats 4000000 in
set_option maxRecDepth 100000 in
theorem lt_X5_addSide_37 {l : Launch} {g : Gh} {p : Program} {e : Env} {s : State} {m : MethodId} {args : Array Value} {below : List Frame} {meth : Method} {c : Code} {H : Heap} {locs : List Loc} {ls : Array Slot} {M0 M : Mem} {a0 : Nat} {p1 : Int32} {p2 : Int32} {p3 : Int32} {post : Mem → Prop}  {s0 : Nat} {s1 : Int32} {s2 : Int32} {s3 : Int32}  (C : Cx g p s m args c cX5_addSide 5 RX5) (hr : meth.sig.returnType = none) (hlk : meth.locks = false) (hn : meth.name = "addSide") (h0 : okc (gB g) M0 a0 5)  (hq : lb_X5_addSide_37  g M0 a0 p1 p2 p3 post  s0 s1 s2 s3 M) (hw : Wd g s M0 M H locs) (hl : lv_has ls 5 [(0, .ref a0), (1, .int p1), (2, .int p2), (3, .int p3)]) : W p l e (rmo 1 0 0) s m args below meth c H locs 0 0 (MQ below (Cq g M0 (pV post)) args s 0 0 (gA g)) (F0 m 37 ls [.int s3, .int s2, .int s1, .ref s0]) := by
  have hx := C.1.1
  have hb := C.1.2.1
  unfold lb_X5_addSide_37 at hq
  refine lv_iadd hx hb dX5_addSide_37 ?_
  obtain ⟨h1, hq⟩ := hq
  obtain ⟨h2, hq⟩ := hq
  refine q_iast C hw hw.2.2.1 h1 h2 dX5_addSide_38 (fun H locs hw => ?_)
  generalize e4 : uI M s0 (Int32.toNatClampNeg s1) (s2 + s3) = M3 at hw
  replace hq := hq M3 e4.symm
  refine lv_aload_n hx hb dX5_addSide_39 rfl (lv_at hl 0 rfl) ?_
  obtain ⟨q5, e6, hq⟩ := hq
  refine gfX5_15 C hw hw.2.2.1 h0 e6 dX5_addSide_40 ?_
  refine lv_iload_n hx hb dX5_addSide_43 rfl (lv_at hl 1 rfl) ?_
  refine lv_dup2_11 hx hb dX5_addSide_44 rfl rfl ?_
  obtain ⟨h7, hq⟩ := hq
  obtain ⟨h8, hq⟩ := hq
  refine q_iald C hw hw.2.2.1 h7 h8 dX5_addSide_45 ?_
  refine lv_iconst (v := 1) hx hb dX5_addSide_46 (by decide) ?_
  refine lv_iadd hx hb dX5_addSide_47 ?_
  refine q_iast C hw hw.2.2.1 h7 h8 dX5_addSide_48 (fun H locs hw => ?_)
  generalize e10 : uI M3 q5 (Int32.toNatClampNeg p1) ((mI M3 q5 (Int32.toNatClampNeg p1)) + 1) = M9 at hw
  replace hq := hq M9 e10.symm
  have e6 : mR M9 a0 1 = some q5 := by rw [← e10, mR_uI]; exact e6
  refine lv_aload_n hx hb dX5_addSide_49 rfl (lv_at hl 0 rfl) ?_
  obtain ⟨q11, e12, hq⟩ := hq
  refine gfX5_18 C hw hw.2.2.1 h0 e12 dX5_addSide_50 ?_
  refine lv_iload_n hx hb dX5_addSide_53 rfl (lv_at hl 1 rfl) ?_
  refine lv_dup2_11 hx hb dX5_addSide_54 rfl rfl ?_
  obtain ⟨h13, hq⟩ := hq
  obtain ⟨h14, hq⟩ := hq
  refine q_iald C hw hw.2.2.1 h13 h14 dX5_addSide_55 ?_
  refine lv_iload_n hx hb dX5_addSide_56 rfl (lv_at hl 2 rfl) ?_
  refine lv_iadd hx hb dX5_addSide_57 ?_
  refine q_iast C hw hw.2.2.1 h13 h14 dX5_addSide_58 (fun H locs hw => ?_)
  generalize e16 : uI M9 q11 (Int32.toNatClampNeg p1) ((mI M9 q11 (Int32.toNatClampNeg p1)) + p2) = M15 at hw
  replace hq := hq M15 e16.symm
  have e6 : mR M15 a0 1 = some q5 := by rw [← e16, mR_uI]; exact e6
  have e12 : mR M15 a0 2 = some q11 := by rw [← e16, mR_uI]; exact e12
  refine lv_aload_n hx hb dX5_addSide_59 rfl (lv_at hl 0 rfl) ?_
  obtain ⟨q17, e18, hq⟩ := hq
  refine gfX5_21 C hw hw.2.2.1 h0 e18 dX5_addSide_60 ?_
  refine lv_iload_n hx hb dX5_addSide_63 rfl (lv_at hl 1 rfl) ?_
  refine lv_dup2_11 hx hb dX5_addSide_64 rfl rfl ?_
  obtain ⟨h19, hq⟩ := hq
  obtain ⟨h20, hq⟩ := hq
  refine q_iald C hw hw.2.2.1 h19 h20 dX5_addSide_65 ?_
  refine lv_iload_n hx hb dX5_addSide_66 rfl (lv_at hl 3 rfl) ?_
  refine lv_iadd hx hb dX5_addSide_67 ?_
  refine q_iast C hw hw.2.2.1 h19 h20 dX5_addSide_68 (fun H locs hw => ?_)
  generalize e22 : uI M15 q17 (Int32.toNatClampNeg p1) ((mI M15 q17 (Int32.toNatClampNeg p1)) + p3) = M21 at hw
  replace hq := hq M21 e22.symm
  have e6 : mR M21 a0 1 = some q5 := by rw [← e22, mR_uI]; exact e6
  have e12 : mR M21 a0 2 = some q11 := by rw [← e22, mR_uI]; exact e12
  have e18 : mR M21 a0 3 = some q17 := by rw [← e22, mR_uI]; exact e18
  exact r_vret C hr hlk hw dX5_addSide_69 (Nat.le_refl _) (Nat.le_refl _) ⟨rfl, hq⟩
set_option maxHeartbeats 4000000 in
set_option maxRecDepth 100000 in
theorem lt_X5_addSide_17 {l : Launch} {g : Gh} {p : Program} {e : Env} {s : State} {m : MethodId} {args : Array Value} {below : List Frame} {meth : Method} {c : Code} {H : Heap} {locs : List Loc} {ls : Array Slot} {M0 M : Mem} {a0 : Nat} {p1 : Int32} {p2 : Int32} {p3 : Int32} {post : Mem → Prop}  {s0 : Int32}  (C : Cx g p s m args c cX5_addSide 5 RX5) (hr : meth.sig.returnType = none) (hlk : meth.locks = false) (hn : meth.name = "addSide") (h0 : okc (gB g) M0 a0 5)  (hq : lb_X5_addSide_17  g M0 a0 p1 p2 p3 post  s0 M) (hw : Wd g s M0 M H locs) (hl : lv_has ls 5 [(0, .ref a0), (1, .int p1), (2, .int p2), (3, .int p3)]) : W p l e (rmo 1 0 0) s m args below meth c H locs 0 0 (MQ below (Cq g M0 (pV post)) args s 0 0 (gA g)) (F0 m 17 ls [.int s0]) := by
  have hx := C.1.1
  have hb := C.1.2.1
  unfold lb_X5_addSide_17 at hq
  refine lv_istore (lv' := [(4, .int s0), (0, .ref a0), (1, .int p1), (2, .int p2), (3, .int p3)]) hx hb dX5_addSide_17 hl (by decide) rfl (fun ls hl => ?_)
  refine lv_aload_n hx hb dX5_addSide_19 rfl (lv_at hl 1 rfl) ?_
  obtain ⟨q23, e24, hq⟩ := hq
  refine gfX5_9 C hw hw.2.2.1 h0 e24 dX5_addSide_20 ?_
  refine lv_iload_n hx hb dX5_addSide_23 rfl (lv_at hl 2 rfl) ?_
  refine lv_dup2_11 hx hb dX5_addSide_24 rfl rfl ?_
  obtain ⟨h25, hq⟩ := hq
  obtain ⟨h26, hq⟩ := hq
  refine q_iald C hw hw.2.2.1 h25 h26 dX5_addSide_25 ?_
  refine lv_iload_n hx hb dX5_addSide_26 rfl (lv_at hl 3 rfl) ?_
  refine lv_iload_n hx hb dX5_addSide_27 rfl (lv_at hl 4 rfl) ?_
  refine lv_icmp_ne (tgt := 35) hx hb dX5_addSide_28 (by decide) (fun c27 => ?_) (fun c27 => ?_)
  · replace hq := hq.2 c27
    refine lv_iload hx hb dX5_addSide_35 (lv_at hl 0 rfl) ?_
    exact lt_X5_addSide_37  C hr hlk hn h0  hq hw (lv_sub hl [1, 2, 3, 4] rfl)
  · replace hq := hq.1 c27
    refine lv_iconst (v := 1) hx hb dX5_addSide_31 (by decide) ?_
    refine lv_goto (tgt := 37) hx hb dX5_addSide_32 (by decide) ?_
    exact lt_X5_addSide_37  C hr hlk hn h0  hq hw (lv_sub hl [1, 2, 3, 4] rfl)
set_option maxHeartbeats 4000000 in
set_option maxRecDepth 100000 in
theorem ct_X5_addSide {l : Launch} {g : Gh} {M0 : Mem} {a0 : Nat} {p1 : Int32} {p2 : Int32} {p3 : Int32} {post : Mem → Prop}  (hq : wp_X5_addSide  g M0 a0 p1 p2 p3 post) : Ct l g yX5_addSide cX5_addSide 5 none 1 0 0 [.ref a0, .int p1, .int p2, .int p3] M0 (pV post) := by
  unfold wp_X5_addSide at hq
  obtain ⟨h0, hq⟩ := hq
  refine Ct.of (by decide) (Nat.le_of_ble_eq_true rfl) ?_
  intro p e s m below meth c ls C hr hlk hn hl hw
  have hx := C.1.1
  have hb := C.1.2.1
  have hl : lv_has ls 5 [(0, .ref a0), (1, .int p1), (2, .int p2), (3, .int p3)] := hl
  refine lv_iload_n hx hb dX5_addSide_0 rfl (lv_at hl 1 rfl) ?_
  refine r_callSN (index := 36) (n := 1) (d2 := 0) (mc := 0) (ms := 0) (As := [.int p1]) (rest := []) C hw (ct_X11_isTeam hq) ksX5_36 ⟨by decide, by decide⟩ ⟨by decide, by decide⟩ rfl hl.1 rfl (Nat.le_of_ble_eq_true rfl) dX5_addSide_1 (fun r M29 H locs hp hle hw => ?_)
  obtain ⟨v28, rfl, hq⟩ := hp
  refine W.eq (g2 := F0 m 4 ls [.int v28]) rfl ?_
  refine lv_if_eq (tgt := 69) hx hb dX5_addSide_4 (by decide) (fun c30 => ?_) (fun c30 => ?_)
  · replace hq := hq.1 c30
    exact r_vret C hr hlk hw dX5_addSide_69 (Nat.le_refl _) (Nat.le_refl _) ⟨rfl, hq⟩
  · replace hq := hq.2 c30
    refine lv_iload_n hx hb dX5_addSide_7 rfl (lv_at hl 2 rfl) ?_
    refine lv_iload_n hx hb dX5_addSide_8 rfl (lv_at hl 3 rfl) ?_
    refine lv_icmp_le (tgt := 16) hx hb dX5_addSide_9 (by decide) (fun c31 => ?_) (fun c31 => ?_)
    · replace hq := hq.1 c31
      refine lv_iconst (v := 0) hx hb dX5_addSide_16 (by decide) ?_
      exact lt_X5_addSide_17  C hr hlk hn h0  hq hw (lv_sub hl [0, 1, 2, 3] rfl)
    · replace hq := hq.2 c31
      refine lv_iconst (v := 2) hx hb dX5_addSide_12 (by decide) ?_
      refine lv_goto (tgt := 17) hx hb dX5_addSide_13 (by decide) ?_
      exact lt_X5_addSide_17  C hr hlk hn h0  hq hw (lv_sub hl [0, 1, 2, 3] rfl)

set_option maxRecDepth 100000 in
def wp_X5_addMatch  (g : Gh) (M0 : Mem) (a0 : Nat) (p1 : Int32) (p2 : Int32) (p3 : Int32) (p4 : Int32) (post : Mem → Prop) : Prop :=
  okc (gB g) M0 a0 5 ∧ (∀ M1, M1 = uI M0 a0 4 ((mI M0 a0 4) + 1) → (wp_X5_addSide g M1 a0 p1 p3 p4 (fun M4 => wp_X5_addSide g M4 a0 p2 p4 p3 (fun M6 => post M6))))
set_option maxHeartbeats 4000000 in
set_option maxRecDepth 100000 in
theorem ct_X5_addMatch {l : Launch} {g : Gh} {M0 : Mem} {a0 : Nat} {p1 : Int32} {p2 : Int32} {p3 : Int32} {p4 : Int32} {post : Mem → Prop}  (hq : wp_X5_addMatch  g M0 a0 p1 p2 p3 p4 post) : Ct l g yX5_addMatch cX5_addMatch 5 none 2 0 0 [.ref a0, .int p1, .int p2, .int p3, .int p4] M0 (pV post) := by
  unfold wp_X5_addMatch at hq
  obtain ⟨h0, hq⟩ := hq
  refine Ct.of (by decide) (Nat.le_of_ble_eq_true rfl) ?_
  intro p e s m below meth c ls C hr hlk hn hl hw
  have hx := C.1.1
  have hb := C.1.2.1
  have hl : lv_has ls 5 [(0, .ref a0), (1, .int p1), (2, .int p2), (3, .int p3), (4, .int p4)] := hl
  refine lv_aload_n hx hb dX5_addMatch_0 rfl (lv_at hl 0 rfl) ?_
  refine lv_dup hx hb dX5_addMatch_1 rfl ?_
  refine gfX5_24 C hw hw.2.2.1 h0 dX5_addMatch_2 ?_
  refine lv_iconst (v := 1) hx hb dX5_addMatch_5 (by decide) ?_
  refine lv_iadd hx hb dX5_addMatch_6 ?_
  refine pfX5_24 C hw hw.2.2.1 h0 dX5_addMatch_7 (fun H locs hw => ?_)
  generalize e2 : uI M0 a0 4 ((mI M0 a0 4) + 1) = M1 at hw
  replace hq := hq M1 e2.symm
  refine lv_aload_n hx hb dX5_addMatch_10 rfl (lv_at hl 0 rfl) ?_
  refine lv_iload_n hx hb dX5_addMatch_11 rfl (lv_at hl 1 rfl) ?_
  refine lv_iload_n hx hb dX5_addMatch_12 rfl (lv_at hl 3 rfl) ?_
  refine lv_iload hx hb dX5_addMatch_13 (lv_at hl 4 rfl) ?_
  refine r_callV (T := TX5) (N := 5) (ci := 5) (index := 28) (n := 3) (d2 := 1) (mc := 0) (ms := 0) (As := [.int p1, .int p3, .int p4]) (rest := []) C hw (ct_X5_addSide hq) kvX5_28 hq.1 (by decide) rfl ⟨by decide, by decide⟩ ⟨by decide, by decide⟩ rfl hl.1 rfl (Nat.le_of_ble_eq_true rfl) dX5_addMatch_15 (fun r M4 H locs hp hle hw => ?_)
  obtain ⟨rfl, hq⟩ := hp
  refine W.eq (g2 := F0 m 18 ls []) rfl ?_
  refine lv_aload_n hx hb dX5_addMatch_18 rfl (lv_at hl 0 rfl) ?_
  refine lv_iload_n hx hb dX5_addMatch_19 rfl (lv_at hl 2 rfl) ?_
  refine lv_iload hx hb dX5_addMatch_20 (lv_at hl 4 rfl) ?_
  refine lv_iload_n hx hb dX5_addMatch_22 rfl (lv_at hl 3 rfl) ?_
  refine r_callV (T := TX5) (N := 5) (ci := 5) (index := 28) (n := 3) (d2 := 1) (mc := 0) (ms := 0) (As := [.int p2, .int p4, .int p3]) (rest := []) C hw (ct_X5_addSide hq) kvX5_28 hq.1 (by decide) rfl ⟨by decide, by decide⟩ ⟨by decide, by decide⟩ rfl hl.1 rfl (Nat.le_of_ble_eq_true rfl) dX5_addMatch_23 (fun r M6 H locs hp hle hw => ?_)
  obtain ⟨rfl, hq⟩ := hp
  refine W.eq (g2 := F0 m 26 ls []) rfl ?_
  exact r_vret C hr hlk hw dX5_addMatch_26 (Nat.le_refl _) (Nat.le_refl _) ⟨rfl, hq⟩

set_option maxRecDepth 100000 in
def lb_X5_isAhead_114  (g : Gh) (M0 : Mem) (a0 : Nat) (p1 : Int32) (p2 : Int32) (post : Int32 → Mem → Prop)    (M : Mem) : Prop :=
  ∃ q1, mR M a0 2 = some q1 ∧ (okc (gB g) M0 q1 14 ∧ (vp_in p1 (mN M0 q1) ∧ (vp_in p2 (mN M0 q1) ∧ ((((mI M q1 (Int32.toNatClampNeg p1)) ≤ (mI M q1 (Int32.toNatClampNeg p2))) → post 0 M) ∧ (¬ ((mI M q1 (Int32.toNatClampNeg p1)) ≤ (mI M q1 (Int32.toNatClampNeg p2))) → post 1 M)))))
set_option maxRecDepth 100000 in
def lb_X5_isAhead_52  (g : Gh) (M0 : Mem) (a0 : Nat) (p1 : Int32) (p2 : Int32) (post : Int32 → Mem → Prop)    (M : Mem) : Prop :=
  ∃ q7, mR M a0 2 = some q7 ∧ (okc (gB g) M0 q7 14 ∧ (vp_in p1 (mN M0 q7) ∧ (∃ q11, mR M a0 3 = some q11 ∧ (okc (gB g) M0 q11 14 ∧ (vp_in p1 (mN M0 q11) ∧ (vp_in p2 (mN M0 q7) ∧ (vp_in p2 (mN M0 q11) ∧ (((((mI M q7 (Int32.toNatClampNeg p1)) - (mI M q11 (Int32.toNatClampNeg p1))) = ((mI M q7 (Int32.toNatClampNeg p2)) - (mI M q11 (Int32.toNatClampNeg p2)))) → (((mI M q7 (Int32.toNatClampNeg p1)) = (mI M q7 (Int32.toNatClampNeg p2))) → ((p2 ≤ p1) → post 0 M) ∧ (¬ (p2 ≤ p1) → post 1 M)) ∧ (¬ ((mI M q7 (Int32.toNatClampNeg p1)) = (mI M q7 (Int32.toNatClampNeg p2))) → lb_X5_isAhead_114  g M0 a0 p1 p2 post   M)) ∧ (¬ (((mI M q7 (Int32.toNatClampNeg p1)) - (mI M q11 (Int32.toNatClampNeg p1))) = ((mI M q7 (Int32.toNatClampNeg p2)) - (mI M q11 (Int32.toNatClampNeg p2)))) → ((((mI M q7 (Int32.toNatClampNeg p1)) - (mI M q11 (Int32.toNatClampNeg p1))) ≤ ((mI M q7 (Int32.toNatClampNeg p2)) - (mI M q11 (Int32.toNatClampNeg p2)))) → post 0 M) ∧ (¬ (((mI M q7 (Int32.toNatClampNeg p1)) - (mI M q11 (Int32.toNatClampNeg p1))) ≤ ((mI M q7 (Int32.toNatClampNeg p2)) - (mI M q11 (Int32.toNatClampNeg p2)))) → post 1 M))))))))))
set_option maxRecDepth 100000 in
def wp_X5_isAhead  (g : Gh) (M0 : Mem) (a0 : Nat) (p1 : Int32) (p2 : Int32) (post : Int32 → Mem → Prop) : Prop :=
  okc (gB g) M0 a0 5 ∧ (wp_X11_isTeam g M0 p1 (fun v21 M22 => ((v21 = 0) → post 0 M22) ∧ (¬ (v21 = 0) → wp_X11_isTeam g M22 p2 (fun v24 M25 => ((v24 = 0) → post 0 M25) ∧ (¬ (v24 = 0) → ∃ q27, mR M25 a0 0 = some q27 ∧ (okc (gB g) M0 q27 14 ∧ (vp_in p1 (mN M0 q27) ∧ (vp_in p2 (mN M0 q27) ∧ ((((mI M25 q27 (Int32.toNatClampNeg p1)) = (mI M25 q27 (Int32.toNatClampNeg p2))) → lb_X5_isAhead_52  g M0 a0 p1 p2 post   M25) ∧ (¬ ((mI M25 q27 (Int32.toNatClampNeg p1)) = (mI M25 q27 (Int32.toNatClampNeg p2))) → (((mI M25 q27 (Int32.toNatClampNeg p1)) ≤ (mI M25 q27 (Int32.toNatClampNeg p2))) → post 0 M25) ∧ (¬ ((mI M25 q27 (Int32.toNatClampNeg p1)) ≤ (mI M25 q27 (Int32.toNatClampNeg p2))) → post 1 M25)))))))))))
set_option maxHeartbeats 4000000 in
set_option maxRecDepth 100000 in
theorem lt_X5_isAhead_114 {l : Launch} {g : Gh} {p : Program} {e : Env} {s : State} {m : MethodId} {args : Array Value} {below : List Frame} {meth : Method} {c : Code} {H : Heap} {locs : List Loc} {ls : Array Slot} {M0 M : Mem} {a0 : Nat} {p1 : Int32} {p2 : Int32} {post : Int32 → Mem → Prop}    (C : Cx g p s m args c cX5_isAhead 5 RX5) (hr : meth.sig.returnType = (some .boolean)) (hlk : meth.locks = false) (hn : meth.name = "isAhead") (h0 : okc (gB g) M0 a0 5)  (hq : lb_X5_isAhead_114  g M0 a0 p1 p2 post   M) (hw : Wd g s M0 M H locs) (hl : lv_has ls 5 [(0, .ref a0), (1, .int p1), (2, .int p2)]) : W p l e (rmo 1 0 0) s m args below meth c H locs 0 0 (MQ below (Cq g M0 (pI post)) args s 0 0 (gA g)) (F0 m 114 ls []) := by
  have hx := C.1.1
  have hb := C.1.2.1
  unfold lb_X5_isAhead_114 at hq
  refine lv_aload_n hx hb dX5_isAhead_114 rfl (lv_at hl 0 rfl) ?_
  obtain ⟨q1, e2, hq⟩ := hq
  refine gfX5_18 C hw hw.2.2.1 h0 e2 dX5_isAhead_115 ?_
  refine lv_iload_n hx hb dX5_isAhead_118 rfl (lv_at hl 1 rfl) ?_
  obtain ⟨h3, hq⟩ := hq
  obtain ⟨h4, hq⟩ := hq
  refine q_iald C hw hw.2.2.1 h3 h4 dX5_isAhead_119 ?_
  refine lv_aload_n hx hb dX5_isAhead_120 rfl (lv_at hl 0 rfl) ?_
  refine gfX5_18 C hw hw.2.2.1 h0 e2 dX5_isAhead_121 ?_
  refine lv_iload_n hx hb dX5_isAhead_124 rfl (lv_at hl 2 rfl) ?_
  obtain ⟨h5, hq⟩ := hq
  refine q_iald C hw hw.2.2.1 h3 h5 dX5_isAhead_125 ?_
  refine lv_icmp_le (tgt := 133) hx hb dX5_isAhead_126 (by decide) (fun c6 => ?_) (fun c6 => ?_)
  · replace hq := hq.1 c6
    refine lv_iconst (v := 0) hx hb dX5_isAhead_133 (by decide) ?_
    refine lv_goto (tgt := 147) hx hb dX5_isAhead_134 (by decide) ?_
    exact r_zret C hr hlk hw dX5_isAhead_147 (Nat.le_refl _) (Nat.le_refl _) (by decide) ⟨_, rfl, hq⟩
  · replace hq := hq.2 c6
    refine lv_iconst (v := 1) hx hb dX5_isAhead_129 (by decide) ?_
    refine lv_goto (tgt := 147) hx hb dX5_isAhead_130 (by decide) ?_
    exact r_zret C hr hlk hw dX5_isAhead_147 (Nat.le_refl _) (Nat.le_refl _) (by decide) ⟨_, rfl, hq⟩
set_option maxHeartbeats 4000000 in
set_option maxRecDepth 100000 in
theorem lt_X5_isAhead_52 {l : Launch} {g : Gh} {p : Program} {e : Env} {s : State} {m : MethodId} {args : Array Value} {below : List Frame} {meth : Method} {c : Code} {H : Heap} {locs : List Loc} {ls : Array Slot} {M0 M : Mem} {a0 : Nat} {p1 : Int32} {p2 : Int32} {post : Int32 → Mem → Prop}    (C : Cx g p s m args c cX5_isAhead 5 RX5) (hr : meth.sig.returnType = (some .boolean)) (hlk : meth.locks = false) (hn : meth.name = "isAhead") (h0 : okc (gB g) M0 a0 5)  (hq : lb_X5_isAhead_52  g M0 a0 p1 p2 post   M) (hw : Wd g s M0 M H locs) (hl : lv_has ls 5 [(0, .ref a0), (1, .int p1), (2, .int p2)]) : W p l e (rmo 1 0 0) s m args below meth c H locs 0 0 (MQ below (Cq g M0 (pI post)) args s 0 0 (gA g)) (F0 m 52 ls []) := by
  have hx := C.1.1
  have hb := C.1.2.1
  unfold lb_X5_isAhead_52 at hq
  refine lv_aload_n hx hb dX5_isAhead_52 rfl (lv_at hl 0 rfl) ?_
  obtain ⟨q7, e8, hq⟩ := hq
  refine gfX5_18 C hw hw.2.2.1 h0 e8 dX5_isAhead_53 ?_
  refine lv_iload_n hx hb dX5_isAhead_56 rfl (lv_at hl 1 rfl) ?_
  obtain ⟨h9, hq⟩ := hq
  obtain ⟨h10, hq⟩ := hq
  refine q_iald C hw hw.2.2.1 h9 h10 dX5_isAhead_57 ?_
  refine lv_aload_n hx hb dX5_isAhead_58 rfl (lv_at hl 0 rfl) ?_
  obtain ⟨q11, e12, hq⟩ := hq
  refine gfX5_21 C hw hw.2.2.1 h0 e12 dX5_isAhead_59 ?_
  refine lv_iload_n hx hb dX5_isAhead_62 rfl (lv_at hl 1 rfl) ?_
  obtain ⟨h13, hq⟩ := hq
  obtain ⟨h14, hq⟩ := hq
  refine q_iald C hw hw.2.2.1 h13 h14 dX5_isAhead_63 ?_
  refine lv_isub hx hb dX5_isAhead_64 ?_
  refine lv_istore_n (lv' := [(3, .int ((mI M q7 (Int32.toNatClampNeg p1)) - (mI M q11 (Int32.toNatClampNeg p1)))), (0, .ref a0), (1, .int p1), (2, .int p2)]) hx hb dX5_isAhead_65 rfl hl (by decide) rfl (fun ls hl => ?_)
  refine lv_aload_n hx hb dX5_isAhead_66 rfl (lv_at hl 1 rfl) ?_
  refine gfX5_18 C hw hw.2.2.1 h0 e8 dX5_isAhead_67 ?_
  refine lv_iload_n hx hb dX5_isAhead_70 rfl (lv_at hl 3 rfl) ?_
  obtain ⟨h15, hq⟩ := hq
  refine q_iald C hw hw.2.2.1 h9 h15 dX5_isAhead_71 ?_
  refine lv_aload_n hx hb dX5_isAhead_72 rfl (lv_at hl 1 rfl) ?_
  refine gfX5_21 C hw hw.2.2.1 h0 e12 dX5_isAhead_73 ?_
  refine lv_iload_n hx hb dX5_isAhead_76 rfl (lv_at hl 3 rfl) ?_
  obtain ⟨h16, hq⟩ := hq
  refine q_iald C hw hw.2.2.1 h13 h16 dX5_isAhead_77 ?_
  refine lv_isub hx hb dX5_isAhead_78 ?_
  refine lv_istore (lv' := [(4, .int ((mI M q7 (Int32.toNatClampNeg p2)) - (mI M q11 (Int32.toNatClampNeg p2)))), (3, .int ((mI M q7 (Int32.toNatClampNeg p1)) - (mI M q11 (Int32.toNatClampNeg p1)))), (0, .ref a0), (1, .int p1), (2, .int p2)]) hx hb dX5_isAhead_79 hl (by decide) rfl (fun ls hl => ?_)
  refine lv_iload_n hx hb dX5_isAhead_81 rfl (lv_at hl 1 rfl) ?_
  refine lv_iload hx hb dX5_isAhead_82 (lv_at hl 0 rfl) ?_
  refine lv_icmp_eq (tgt := 99) hx hb dX5_isAhead_84 (by decide) (fun c17 => ?_) (fun c17 => ?_)
  · replace hq := hq.1 c17
    refine lv_aload_n hx hb dX5_isAhead_99 rfl (lv_at hl 2 rfl) ?_
    refine gfX5_18 C hw hw.2.2.1 h0 e8 dX5_isAhead_100 ?_
    refine lv_iload_n hx hb dX5_isAhead_103 rfl (lv_at hl 3 rfl) ?_
    refine q_iald C hw hw.2.2.1 h9 h10 dX5_isAhead_104 ?_
    refine lv_aload_n hx hb dX5_isAhead_105 rfl (lv_at hl 2 rfl) ?_
    refine gfX5_18 C hw hw.2.2.1 h0 e8 dX5_isAhead_106 ?_
    refine lv_iload_n hx hb dX5_isAhead_109 rfl (lv_at hl 4 rfl) ?_
    refine q_iald C hw hw.2.2.1 h9 h15 dX5_isAhead_110 ?_
    refine lv_icmp_eq (tgt := 137) hx hb dX5_isAhead_111 (by decide) (fun c18 => ?_) (fun c18 => ?_)
    · replace hq := hq.1 c18
      refine lv_iload_n hx hb dX5_isAhead_137 rfl (lv_at hl 3 rfl) ?_
      refine lv_iload_n hx hb dX5_isAhead_138 rfl (lv_at hl 4 rfl) ?_
      refine lv_icmp_ge (tgt := 146) hx hb dX5_isAhead_139 (by decide) (fun c19 => ?_) (fun c19 => ?_)
      · replace hq := hq.1 c19
        refine lv_iconst (v := 0) hx hb dX5_isAhead_146 (by decide) ?_
        exact r_zret C hr hlk hw dX5_isAhead_147 (Nat.le_refl _) (Nat.le_refl _) (by decide) ⟨_, rfl, hq⟩
      · replace hq := hq.2 c19
        refine lv_iconst (v := 1) hx hb dX5_isAhead_142 (by decide) ?_
        refine lv_goto (tgt := 147) hx hb dX5_isAhead_143 (by decide) ?_
        exact r_zret C hr hlk hw dX5_isAhead_147 (Nat.le_refl _) (Nat.le_refl _) (by decide) ⟨_, rfl, hq⟩
    · replace hq := hq.2 c18
      exact lt_X5_isAhead_114  C hr hlk hn h0  hq hw (lv_sub hl [2, 3, 4] rfl)
  · replace hq := hq.2 c17
    refine lv_iload_n hx hb dX5_isAhead_87 rfl (lv_at hl 1 rfl) ?_
    refine lv_iload hx hb dX5_isAhead_88 (lv_at hl 0 rfl) ?_
    refine lv_icmp_le (tgt := 97) hx hb dX5_isAhead_90 (by decide) (fun c20 => ?_) (fun c20 => ?_)
    · replace hq := hq.1 c20
      refine lv_iconst (v := 0) hx hb dX5_isAhead_97 (by decide) ?_
      exact r_zret C hr hlk hw dX5_isAhead_98 (Nat.le_refl _) (Nat.le_refl _) (by decide) ⟨_, rfl, hq⟩
    · replace hq := hq.2 c20
      refine lv_iconst (v := 1) hx hb dX5_isAhead_93 (by decide) ?_
      refine lv_goto (tgt := 98) hx hb dX5_isAhead_94 (by decide) ?_
      exact r_zret C hr hlk hw dX5_isAhead_98 (Nat.le_refl _) (Nat.le_refl _) (by decide) ⟨_, rfl, hq⟩
set_option maxHeartbeats 4000000 in
set_option maxRecDepth 100000 in
theorem ct_X5_isAhead {l : Launch} {g : Gh} {M0 : Mem} {a0 : Nat} {p1 : Int32} {p2 : Int32} {post : Int32 → Mem → Prop}  (hq : wp_X5_isAhead  g M0 a0 p1 p2 post) : Ct l g yX5_isAhead cX5_isAhead 5 (some .boolean) 1 0 0 [.ref a0, .int p1, .int p2] M0 (pI post) := by
  unfold wp_X5_isAhead at hq
  obtain ⟨h0, hq⟩ := hq
  refine Ct.of (by decide) (Nat.le_of_ble_eq_true rfl) ?_
  intro p e s m below meth c ls C hr hlk hn hl hw
  have hx := C.1.1
  have hb := C.1.2.1
  have hl : lv_has ls 5 [(0, .ref a0), (1, .int p1), (2, .int p2)] := hl
  refine lv_iload_n hx hb dX5_isAhead_0 rfl (lv_at hl 1 rfl) ?_
  refine r_callSN (index := 36) (n := 1) (d2 := 0) (mc := 0) (ms := 0) (As := [.int p1]) (rest := []) C hw (ct_X11_isTeam hq) ksX5_36 ⟨by decide, by decide⟩ ⟨by decide, by decide⟩ rfl hl.1 rfl (Nat.le_of_ble_eq_true rfl) dX5_isAhead_1 (fun r M22 H locs hp hle hw => ?_)
  obtain ⟨v21, rfl, hq⟩ := hp
  refine W.eq (g2 := F0 m 4 ls [.int v21]) rfl ?_
  refine lv_if_eq (tgt := 14) hx hb dX5_isAhead_4 (by decide) (fun c23 => ?_) (fun c23 => ?_)
  · replace hq := hq.1 c23
    refine lv_iconst (v := 0) hx hb dX5_isAhead_14 (by decide) ?_
    exact r_zret C hr hlk hw dX5_isAhead_15 (Nat.le_refl _) (Nat.le_refl _) (by decide) ⟨_, rfl, hq⟩
  · replace hq := hq.2 c23
    refine lv_iload_n hx hb dX5_isAhead_7 rfl (lv_at hl 2 rfl) ?_
    refine r_callSN (index := 36) (n := 1) (d2 := 0) (mc := 0) (ms := 0) (As := [.int p2]) (rest := []) C hw (ct_X11_isTeam hq) ksX5_36 ⟨by decide, by decide⟩ ⟨by decide, by decide⟩ rfl hl.1 rfl (Nat.le_of_ble_eq_true rfl) dX5_isAhead_8 (fun r M25 H locs hp hle hw => ?_)
    obtain ⟨v24, rfl, hq⟩ := hp
    refine W.eq (g2 := F0 m 11 ls [.int v24]) rfl ?_
    refine lv_if_ne (tgt := 16) hx hb dX5_isAhead_11 (by decide) (fun c26 => ?_) (fun c26 => ?_)
    · replace hq := hq.2 c26
      refine lv_aload_n hx hb dX5_isAhead_16 rfl (lv_at hl 0 rfl) ?_
      obtain ⟨q27, e28, hq⟩ := hq
      refine gfX5_9 C hw hw.2.2.1 h0 e28 dX5_isAhead_17 ?_
      refine lv_iload_n hx hb dX5_isAhead_20 rfl (lv_at hl 1 rfl) ?_
      obtain ⟨h29, hq⟩ := hq
      obtain ⟨h30, hq⟩ := hq
      refine q_iald C hw hw.2.2.1 h29 h30 dX5_isAhead_21 ?_
      refine lv_aload_n hx hb dX5_isAhead_22 rfl (lv_at hl 0 rfl) ?_
      refine gfX5_9 C hw hw.2.2.1 h0 e28 dX5_isAhead_23 ?_
      refine lv_iload_n hx hb dX5_isAhead_26 rfl (lv_at hl 2 rfl) ?_
      obtain ⟨h31, hq⟩ := hq
      refine q_iald C hw hw.2.2.1 h29 h31 dX5_isAhead_27 ?_
      refine lv_icmp_eq (tgt := 52) hx hb dX5_isAhead_28 (by decide) (fun c32 => ?_) (fun c32 => ?_)
      · replace hq := hq.1 c32
        exact lt_X5_isAhead_52  C hr hlk hn h0  hq hw (lv_sub hl [0, 1, 2] rfl)
      · replace hq := hq.2 c32
        refine lv_aload_n hx hb dX5_isAhead_31 rfl (lv_at hl 0 rfl) ?_
        refine gfX5_9 C hw hw.2.2.1 h0 e28 dX5_isAhead_32 ?_
        refine lv_iload_n hx hb dX5_isAhead_35 rfl (lv_at hl 1 rfl) ?_
        refine q_iald C hw hw.2.2.1 h29 h30 dX5_isAhead_36 ?_
        refine lv_aload_n hx hb dX5_isAhead_37 rfl (lv_at hl 0 rfl) ?_
        refine gfX5_9 C hw hw.2.2.1 h0 e28 dX5_isAhead_38 ?_
        refine lv_iload_n hx hb dX5_isAhead_41 rfl (lv_at hl 2 rfl) ?_
        refine q_iald C hw hw.2.2.1 h29 h31 dX5_isAhead_42 ?_
        refine lv_icmp_le (tgt := 50) hx hb dX5_isAhead_43 (by decide) (fun c33 => ?_) (fun c33 => ?_)
        · replace hq := hq.1 c33
          refine lv_iconst (v := 0) hx hb dX5_isAhead_50 (by decide) ?_
          exact r_zret C hr hlk hw dX5_isAhead_51 (Nat.le_refl _) (Nat.le_refl _) (by decide) ⟨_, rfl, hq⟩
        · replace hq := hq.2 c33
          refine lv_iconst (v := 1) hx hb dX5_isAhead_46 (by decide) ?_
          refine lv_goto (tgt := 51) hx hb dX5_isAhead_47 (by decide) ?_
          exact r_zret C hr hlk hw dX5_isAhead_51 (Nat.le_refl _) (Nat.le_refl _) (by decide) ⟨_, rfl, hq⟩
    · replace hq := hq.1 c26
      refine lv_iconst (v := 0) hx hb dX5_isAhead_14 (by decide) ?_
      exact r_zret C hr hlk hw dX5_isAhead_15 (Nat.le_refl _) (Nat.le_refl _) (by decide) ⟨_, rfl, hq⟩

set_option maxRecDepth 100000 in
def bd_X5_placeOf_4  (g : Gh) (M0 : Mem) (a0 : Nat) (p1 : Int32) (post : Int32 → Mem → Prop)  (bk4 : Int32 × Int32 × Mem → Prop) (x2 : Int32) (x3 : Int32)  (M : Mem) : Prop :=
  ((12 ≤ x3) → post x2 M) ∧ (¬ (12 ≤ x3) → ((x3 = p1) → bk4 (x2, (x3 + 1), M)) ∧ (¬ (x3 = p1) → wp_X5_isAhead g M a0 x3 p1 (fun v3 M4 => ((v3 = 0) → bk4 (x2, (x3 + 1), M4)) ∧ (¬ (v3 = 0) → bk4 ((x2 + 1), (x3 + 1), M4)))))
set_option maxRecDepth 100000 in
def wp_X5_placeOf  (g : Gh) (M0 : Mem) (a0 : Nat) (p1 : Int32) (post : Int32 → Mem → Prop) : Prop :=
  okc (gB g) M0 a0 5 ∧ ((∃ n : Nat, lfp (fun bk z => bd_X5_placeOf_4  g M0 a0 p1 post  bk z.1 z.2.1 z.2.2) n (0, 0, M0)))
set_option maxHeartbeats 4000000 in
set_option maxRecDepth 100000 in
theorem lp_X5_placeOf_4 {l : Launch} {g : Gh} {p : Program} {e : Env} {s : State} {m : MethodId} {args : Array Value} {below : List Frame} {meth : Method} {c : Code} {M0 : Mem} {a0 : Nat} {p1 : Int32} {post : Int32 → Mem → Prop}  (C : Cx g p s m args c cX5_placeOf 4 RX5) (hr : meth.sig.returnType = (some .int)) (hlk : meth.locks = false) (hn : meth.name = "placeOf") (h0 : okc (gB g) M0 a0 5)  : ∀ (nf : Nat) (x2 : Int32) (x3 : Int32)  (M : Mem) (H : Heap) (locs : List Loc) (ls : Array Slot), lfp (fun bk z => bd_X5_placeOf_4  g M0 a0 p1 post  bk z.1 z.2.1 z.2.2) nf (x2, x3, M) → Wd g s M0 M H locs → lv_has ls 4 [(0, .ref a0), (1, .int p1), (2, .int x2), (3, .int x3)] → W p l e (rmo 2 0 0) s m args below meth c H locs 0 0 (MQ below (Cq g M0 (pI post)) args s 0 0 (gA g)) (F0 m 4 ls []) := by
  have hx := C.1.1
  have hb := C.1.2.1
  intro nf
  induction nf with
  | zero => intro _ _ _ H locs ls hq; exact hq.elim
  | succ nf hk4 =>
    intro x2 x3 M H locs ls hq hw hl
    replace hq : bd_X5_placeOf_4  g M0 a0 p1 post  (lfp (fun bk z => bd_X5_placeOf_4  g M0 a0 p1 post  bk z.1 z.2.1 z.2.2) nf) x2 x3 M := hq
    unfold bd_X5_placeOf_4 at hq
    refine lv_iload_n hx hb dX5_placeOf_4 rfl (lv_at hl 3 rfl) ?_
    refine lv_bipush (v := 12) hx hb dX5_placeOf_5 (by decide) ?_
    refine lv_icmp_ge (tgt := 33) hx hb dX5_placeOf_7 (by decide) (fun c1 => ?_) (fun c1 => ?_)
    · replace hq := hq.1 c1
      refine lv_iload_n hx hb dX5_placeOf_33 rfl (lv_at hl 2 rfl) ?_
      exact r_iret C hr hlk hw dX5_placeOf_34 (Nat.le_refl _) (Nat.le_refl _) ⟨_, rfl, hq⟩
    · replace hq := hq.2 c1
      refine lv_iload_n hx hb dX5_placeOf_10 rfl (lv_at hl 3 rfl) ?_
      refine lv_iload_n hx hb dX5_placeOf_11 rfl (lv_at hl 1 rfl) ?_
      refine lv_icmp_eq (tgt := 27) hx hb dX5_placeOf_12 (by decide) (fun c2 => ?_) (fun c2 => ?_)
      · replace hq := hq.1 c2
        refine lv_iinc (v := (x3 + 1)) (lv' := [(3, .int (x3 + 1)), (0, .ref a0), (1, .int p1), (2, .int x2)]) hx hb dX5_placeOf_27 hl (k := 3) rfl rfl (by decide) rfl (fun ls hl => ?_)
        refine lv_goto (tgt := 4) hx hb dX5_placeOf_30 (by decide) ?_
        exact hk4 _ _ _ _ _ _ hq hw (lv_sub hl [1, 2, 3, 0] rfl)
      · replace hq := hq.2 c2
        refine lv_aload_n hx hb dX5_placeOf_15 rfl (lv_at hl 0 rfl) ?_
        refine lv_iload_n hx hb dX5_placeOf_16 rfl (lv_at hl 3 rfl) ?_
        refine lv_iload_n hx hb dX5_placeOf_17 rfl (lv_at hl 1 rfl) ?_
        refine r_callV (T := TX5) (N := 5) (ci := 5) (index := 40) (n := 2) (d2 := 1) (mc := 0) (ms := 0) (As := [.int x3, .int p1]) (rest := []) C hw (ct_X5_isAhead hq) kvX5_40 hq.1 (by decide) rfl ⟨by decide, by decide⟩ ⟨by decide, by decide⟩ rfl hl.1 rfl (Nat.le_of_ble_eq_true rfl) dX5_placeOf_18 (fun r M4 H locs hp hle hw => ?_)
        obtain ⟨v3, rfl, hq⟩ := hp
        refine W.eq (g2 := F0 m 21 ls [.int v3]) rfl ?_
        refine lv_if_eq (tgt := 27) hx hb dX5_placeOf_21 (by decide) (fun c5 => ?_) (fun c5 => ?_)
        · replace hq := hq.1 c5
          refine lv_iinc (v := (x3 + 1)) (lv' := [(3, .int (x3 + 1)), (0, .ref a0), (1, .int p1), (2, .int x2)]) hx hb dX5_placeOf_27 hl (k := 3) rfl rfl (by decide) rfl (fun ls hl => ?_)
          refine lv_goto (tgt := 4) hx hb dX5_placeOf_30 (by decide) ?_
          exact hk4 _ _ _ _ _ _ hq hw (lv_sub hl [1, 2, 3, 0] rfl)
        · replace hq := hq.2 c5
          refine lv_iinc (v := (x2 + 1)) (lv' := [(2, .int (x2 + 1)), (0, .ref a0), (1, .int p1), (3, .int x3)]) hx hb dX5_placeOf_24 hl (k := 2) rfl rfl (by decide) rfl (fun ls hl => ?_)
          refine lv_iinc (v := (x3 + 1)) (lv' := [(3, .int (x3 + 1)), (2, .int (x2 + 1)), (0, .ref a0), (1, .int p1)]) hx hb dX5_placeOf_27 hl (k := 3) rfl rfl (by decide) rfl (fun ls hl => ?_)
          refine lv_goto (tgt := 4) hx hb dX5_placeOf_30 (by decide) ?_
          exact hk4 _ _ _ _ _ _ hq hw (lv_sub hl [2, 3, 1, 0] rfl)
set_option maxHeartbeats 4000000 in
set_option maxRecDepth 100000 in
theorem ct_X5_placeOf {l : Launch} {g : Gh} {M0 : Mem} {a0 : Nat} {p1 : Int32} {post : Int32 → Mem → Prop}  (hq : wp_X5_placeOf  g M0 a0 p1 post) : Ct l g yX5_placeOf cX5_placeOf 4 (some .int) 2 0 0 [.ref a0, .int p1] M0 (pI post) := by
  unfold wp_X5_placeOf at hq
  obtain ⟨h0, hq⟩ := hq
  refine Ct.of (by decide) (Nat.le_of_ble_eq_true rfl) ?_
  intro p e s m below meth c ls C hr hlk hn hl hw
  have hx := C.1.1
  have hb := C.1.2.1
  have hl : lv_has ls 4 [(0, .ref a0), (1, .int p1)] := hl
  refine lv_iconst (v := 0) hx hb dX5_placeOf_0 (by decide) ?_
  refine lv_istore_n (lv' := [(2, .int 0), (0, .ref a0), (1, .int p1)]) hx hb dX5_placeOf_1 rfl hl (by decide) rfl (fun ls hl => ?_)
  refine lv_iconst (v := 0) hx hb dX5_placeOf_2 (by decide) ?_
  refine lv_istore_n (lv' := [(3, .int 0), (2, .int 0), (0, .ref a0), (1, .int p1)]) hx hb dX5_placeOf_3 rfl hl (by decide) rfl (fun ls hl => ?_)
  obtain ⟨nf, hq⟩ := hq
  exact lp_X5_placeOf_4  C hr hlk hn h0  nf _ _ _ _ _ _ hq hw (lv_sub hl [2, 3, 1, 0] rfl)

set_option maxRecDepth 100000 in
def bd_X5_teamAt_2  (g : Gh) (M0 : Mem) (a0 : Nat) (p1 : Int32) (post : Int32 → Mem → Prop)  (bk2 : Int32 × Mem → Prop) (x2 : Int32)  (M : Mem) : Prop :=
  ((12 ≤ x2) → post (-1) M) ∧ (¬ (12 ≤ x2) → wp_X5_placeOf g M a0 x2 (fun v2 M3 => ((v2 = p1) → post x2 M3) ∧ (¬ (v2 = p1) → bk2 ((x2 + 1), M3))))
set_option maxRecDepth 100000 in
def wp_X5_teamAt  (g : Gh) (M0 : Mem) (a0 : Nat) (p1 : Int32) (post : Int32 → Mem → Prop) : Prop :=
  okc (gB g) M0 a0 5 ∧ ((∃ n : Nat, lfp (fun bk z => bd_X5_teamAt_2  g M0 a0 p1 post  bk z.1 z.2) n (0, M0)))
set_option maxHeartbeats 4000000 in
set_option maxRecDepth 100000 in
theorem lp_X5_teamAt_2 {l : Launch} {g : Gh} {p : Program} {e : Env} {s : State} {m : MethodId} {args : Array Value} {below : List Frame} {meth : Method} {c : Code} {M0 : Mem} {a0 : Nat} {p1 : Int32} {post : Int32 → Mem → Prop}  (C : Cx g p s m args c cX5_teamAt 3 RX5) (hr : meth.sig.returnType = (some .int)) (hlk : meth.locks = false) (hn : meth.name = "teamAt") (h0 : okc (gB g) M0 a0 5)  : ∀ (nf : Nat) (x2 : Int32)  (M : Mem) (H : Heap) (locs : List Loc) (ls : Array Slot), lfp (fun bk z => bd_X5_teamAt_2  g M0 a0 p1 post  bk z.1 z.2) nf (x2, M) → Wd g s M0 M H locs → lv_has ls 3 [(0, .ref a0), (1, .int p1), (2, .int x2)] → W p l e (rmo 3 0 0) s m args below meth c H locs 0 0 (MQ below (Cq g M0 (pI post)) args s 0 0 (gA g)) (F0 m 2 ls []) := by
  have hx := C.1.1
  have hb := C.1.2.1
  intro nf
  induction nf with
  | zero => intro _ _ H locs ls hq; exact hq.elim
  | succ nf hk2 =>
    intro x2 M H locs ls hq hw hl
    replace hq : bd_X5_teamAt_2  g M0 a0 p1 post  (lfp (fun bk z => bd_X5_teamAt_2  g M0 a0 p1 post  bk z.1 z.2) nf) x2 M := hq
    unfold bd_X5_teamAt_2 at hq
    refine lv_iload_n hx hb dX5_teamAt_2 rfl (lv_at hl 2 rfl) ?_
    refine lv_bipush (v := 12) hx hb dX5_teamAt_3 (by decide) ?_
    refine lv_icmp_ge (tgt := 25) hx hb dX5_teamAt_5 (by decide) (fun c1 => ?_) (fun c1 => ?_)
    · replace hq := hq.1 c1
      refine lv_iconst (v := (-1)) hx hb dX5_teamAt_25 (by decide) ?_
      exact r_iret C hr hlk hw dX5_teamAt_26 (Nat.le_refl _) (Nat.le_refl _) ⟨_, rfl, hq⟩
    · replace hq := hq.2 c1
      refine lv_aload_n hx hb dX5_teamAt_8 rfl (lv_at hl 0 rfl) ?_
      refine lv_iload_n hx hb dX5_teamAt_9 rfl (lv_at hl 2 rfl) ?_
      refine r_callV (T := TX5) (N := 5) (ci := 5) (index := 32) (n := 1) (d2 := 2) (mc := 0) (ms := 0) (As := [.int x2]) (rest := []) C hw (ct_X5_placeOf hq) kvX5_32 hq.1 (by decide) rfl ⟨by decide, by decide⟩ ⟨by decide, by decide⟩ rfl hl.1 rfl (Nat.le_of_ble_eq_true rfl) dX5_teamAt_10 (fun r M3 H locs hp hle hw => ?_)
      obtain ⟨v2, rfl, hq⟩ := hp
      refine W.eq (g2 := F0 m 13 ls [.int v2]) rfl ?_
      refine lv_iload_n hx hb dX5_teamAt_13 rfl (lv_at hl 1 rfl) ?_
      refine lv_icmp_ne (tgt := 19) hx hb dX5_teamAt_14 (by decide) (fun c4 => ?_) (fun c4 => ?_)
      · replace hq := hq.2 c4
        refine lv_iinc (v := (x2 + 1)) (lv' := [(2, .int (x2 + 1)), (0, .ref a0), (1, .int p1)]) hx hb dX5_teamAt_19 hl (k := 2) rfl rfl (by decide) rfl (fun ls hl => ?_)
        refine lv_goto (tgt := 2) hx hb dX5_teamAt_22 (by decide) ?_
        exact hk2 _ _ _ _ _ hq hw (lv_sub hl [1, 2, 0] rfl)
      · replace hq := hq.1 c4
        refine lv_iload_n hx hb dX5_teamAt_17 rfl (lv_at hl 2 rfl) ?_
        exact r_iret C hr hlk hw dX5_teamAt_18 (Nat.le_refl _) (Nat.le_refl _) ⟨_, rfl, hq⟩
set_option maxHeartbeats 4000000 in
set_option maxRecDepth 100000 in
theorem ct_X5_teamAt {l : Launch} {g : Gh} {M0 : Mem} {a0 : Nat} {p1 : Int32} {post : Int32 → Mem → Prop}  (hq : wp_X5_teamAt  g M0 a0 p1 post) : Ct l g yX5_teamAt cX5_teamAt 3 (some .int) 3 0 0 [.ref a0, .int p1] M0 (pI post) := by
  unfold wp_X5_teamAt at hq
  obtain ⟨h0, hq⟩ := hq
  refine Ct.of (by decide) (Nat.le_of_ble_eq_true rfl) ?_
  intro p e s m below meth c ls C hr hlk hn hl hw
  have hx := C.1.1
  have hb := C.1.2.1
  have hl : lv_has ls 3 [(0, .ref a0), (1, .int p1)] := hl
  refine lv_iconst (v := 0) hx hb dX5_teamAt_0 (by decide) ?_
  refine lv_istore_n (lv' := [(2, .int 0), (0, .ref a0), (1, .int p1)]) hx hb dX5_teamAt_1 rfl hl (by decide) rfl (fun ls hl => ?_)
  obtain ⟨nf, hq⟩ := hq
  exact lp_X5_teamAt_2  C hr hlk hn h0  nf _ _ _ _ _ hq hw (lv_sub hl [1, 2, 0] rfl)

set_option maxRecDepth 100000 in
def wp_X5_tell  (g : Gh) (M0 : Mem) (a0 : Nat) (p1 : Int32) (p2 : Int32) (post : Int32 → Mem → Prop) : Prop :=
  okc (gB g) M0 a0 5 ∧ (wp_X11_isTeam g M0 p1 (fun v1 M2 => ((v1 = 0) → post (-1) M2) ∧ (¬ (v1 = 0) → ((p2 = 0) → post p1 M2) ∧ ((p2 = 1) → ∃ q5, mR M2 a0 0 = some q5 ∧ (okc (gB g) M0 q5 14 ∧ (vp_in p1 (mN M0 q5) ∧ (post (mI M2 q5 (Int32.toNatClampNeg p1)) M2)))) ∧ ((p2 = 2) → ∃ q9, mR M2 a0 1 = some q9 ∧ (okc (gB g) M0 q9 14 ∧ (vp_in p1 (mN M0 q9) ∧ (post (mI M2 q9 (Int32.toNatClampNeg p1)) M2)))) ∧ ((p2 = 3) → ∃ q13, mR M2 a0 2 = some q13 ∧ (okc (gB g) M0 q13 14 ∧ (vp_in p1 (mN M0 q13) ∧ (post (mI M2 q13 (Int32.toNatClampNeg p1)) M2)))) ∧ ((p2 = 4) → ∃ q17, mR M2 a0 3 = some q17 ∧ (okc (gB g) M0 q17 14 ∧ (vp_in p1 (mN M0 q17) ∧ (post (mI M2 q17 (Int32.toNatClampNeg p1)) M2)))) ∧ ((¬ (p2 = 0) ∧ ¬ (p2 = 1) ∧ ¬ (p2 = 2) ∧ ¬ (p2 = 3) ∧ ¬ (p2 = 4)) → post (-1) M2))))
set_option maxHeartbeats 4000000 in
set_option maxRecDepth 100000 in
theorem ct_X5_tell {l : Launch} {g : Gh} {M0 : Mem} {a0 : Nat} {p1 : Int32} {p2 : Int32} {post : Int32 → Mem → Prop}  (hq : wp_X5_tell  g M0 a0 p1 p2 post) : Ct l g yX5_tell cX5_tell 3 (some .int) 1 0 0 [.ref a0, .int p1, .int p2] M0 (pI post) := by
  unfold wp_X5_tell at hq
  obtain ⟨h0, hq⟩ := hq
  refine Ct.of (by decide) (Nat.le_of_ble_eq_true rfl) ?_
  intro p e s m below meth c ls C hr hlk hn hl hw
  have hx := C.1.1
  have hb := C.1.2.1
  have hl : lv_has ls 3 [(0, .ref a0), (1, .int p1), (2, .int p2)] := hl
  refine lv_iload_n hx hb dX5_tell_0 rfl (lv_at hl 1 rfl) ?_
  refine r_callSN (index := 36) (n := 1) (d2 := 0) (mc := 0) (ms := 0) (As := [.int p1]) (rest := []) C hw (ct_X11_isTeam hq) ksX5_36 ⟨by decide, by decide⟩ ⟨by decide, by decide⟩ rfl hl.1 rfl (Nat.le_of_ble_eq_true rfl) dX5_tell_1 (fun r M2 H locs hp hle hw => ?_)
  obtain ⟨v1, rfl, hq⟩ := hp
  refine W.eq (g2 := F0 m 4 ls [.int v1]) rfl ?_
  refine lv_if_ne (tgt := 9) hx hb dX5_tell_4 (by decide) (fun c3 => ?_) (fun c3 => ?_)
  · replace hq := hq.2 c3
    refine lv_iload_n hx hb dX5_tell_9 rfl (lv_at hl 2 rfl) ?_
    by_cases c21 : p2 = 0
    · refine r_table (v := 0) (off := 34) (tgt := 44) hx hb dX5_tell_10 c21 (by decide) (by decide) rfl (by decide) ?_
      replace hq := hq.1 c21
      refine lv_iload_n hx hb dX5_tell_44 rfl (lv_at hl 1 rfl) ?_
      exact r_iret C hr hlk hw dX5_tell_45 (Nat.le_refl _) (Nat.le_refl _) ⟨_, rfl, hq⟩
    by_cases c22 : p2 = 1
    · refine r_table (v := 1) (off := 36) (tgt := 46) hx hb dX5_tell_10 c22 (by decide) (by decide) rfl (by decide) ?_
      replace hq := hq.2.1 c22
      refine lv_aload_n hx hb dX5_tell_46 rfl (lv_at hl 0 rfl) ?_
      obtain ⟨q5, e6, hq⟩ := hq
      refine gfX5_9 C hw hw.2.2.1 h0 e6 dX5_tell_47 ?_
      refine lv_iload_n hx hb dX5_tell_50 rfl (lv_at hl 1 rfl) ?_
      obtain ⟨h7, hq⟩ := hq
      obtain ⟨h8, hq⟩ := hq
      refine q_iald C hw hw.2.2.1 h7 h8 dX5_tell_51 ?_
      exact r_iret C hr hlk hw dX5_tell_52 (Nat.le_refl _) (Nat.le_refl _) ⟨_, rfl, hq⟩
    by_cases c23 : p2 = 2
    · refine r_table (v := 2) (off := 43) (tgt := 53) hx hb dX5_tell_10 c23 (by decide) (by decide) rfl (by decide) ?_
      replace hq := hq.2.2.1 c23
      refine lv_aload_n hx hb dX5_tell_53 rfl (lv_at hl 0 rfl) ?_
      obtain ⟨q9, e10, hq⟩ := hq
      refine gfX5_15 C hw hw.2.2.1 h0 e10 dX5_tell_54 ?_
      refine lv_iload_n hx hb dX5_tell_57 rfl (lv_at hl 1 rfl) ?_
      obtain ⟨h11, hq⟩ := hq
      obtain ⟨h12, hq⟩ := hq
      refine q_iald C hw hw.2.2.1 h11 h12 dX5_tell_58 ?_
      exact r_iret C hr hlk hw dX5_tell_59 (Nat.le_refl _) (Nat.le_refl _) ⟨_, rfl, hq⟩
    by_cases c24 : p2 = 3
    · refine r_table (v := 3) (off := 50) (tgt := 60) hx hb dX5_tell_10 c24 (by decide) (by decide) rfl (by decide) ?_
      replace hq := hq.2.2.2.1 c24
      refine lv_aload_n hx hb dX5_tell_60 rfl (lv_at hl 0 rfl) ?_
      obtain ⟨q13, e14, hq⟩ := hq
      refine gfX5_18 C hw hw.2.2.1 h0 e14 dX5_tell_61 ?_
      refine lv_iload_n hx hb dX5_tell_64 rfl (lv_at hl 1 rfl) ?_
      obtain ⟨h15, hq⟩ := hq
      obtain ⟨h16, hq⟩ := hq
      refine q_iald C hw hw.2.2.1 h15 h16 dX5_tell_65 ?_
      exact r_iret C hr hlk hw dX5_tell_66 (Nat.le_refl _) (Nat.le_refl _) ⟨_, rfl, hq⟩
    by_cases c25 : p2 = 4
    · refine r_table (v := 4) (off := 57) (tgt := 67) hx hb dX5_tell_10 c25 (by decide) (by decide) rfl (by decide) ?_
      replace hq := hq.2.2.2.2.1 c25
      refine lv_aload_n hx hb dX5_tell_67 rfl (lv_at hl 0 rfl) ?_
      obtain ⟨q17, e18, hq⟩ := hq
      refine gfX5_21 C hw hw.2.2.1 h0 e18 dX5_tell_68 ?_
      refine lv_iload_n hx hb dX5_tell_71 rfl (lv_at hl 1 rfl) ?_
      obtain ⟨h19, hq⟩ := hq
      obtain ⟨h20, hq⟩ := hq
      refine q_iald C hw hw.2.2.1 h19 h20 dX5_tell_72 ?_
      exact r_iret C hr hlk hw dX5_tell_73 (Nat.le_refl _) (Nat.le_refl _) ⟨_, rfl, hq⟩
    refine r_tableOut (tgt := 74) (k := 4) hx hb dX5_tell_10 (by decide) (fun j hj => by rcases (show j = 0 ∨ j = 1 ∨ j = 2 ∨ j = 3 ∨ j = 4 by omega) with rfl | rfl | rfl | rfl | rfl <;> assumption) (by decide) ?_
    replace hq := hq.2.2.2.2.2 ⟨c21, c22, c23, c24, c25⟩
    refine lv_iconst (v := (-1)) hx hb dX5_tell_74 (by decide) ?_
    exact r_iret C hr hlk hw dX5_tell_75 (Nat.le_refl _) (Nat.le_refl _) ⟨_, rfl, hq⟩
  · replace hq := hq.1 c3
    refine lv_iconst (v := (-1)) hx hb dX5_tell_7 (by decide) ?_
    exact r_iret C hr hlk hw dX5_tell_8 (Nat.le_refl _) (Nat.le_refl _) ⟨_, rfl, hq⟩
