set_option maxRecDepth 100000 in
def wp_X12_takes  (g : Gh) (M0 : Mem) (a0 : Nat) (p1 : Int32) (post : Int32 → Mem → Prop) : Prop :=
  okc (gB g) M0 a0 12 ∧ (∀ M1, M1 = uI M0 a0 0 0 → (wp_X12_readAnswer g M1 a0 (fun v3 M4 => wp_X12_isQuestion g M4 a0 p1 (fun v5 M6 => ((v5 = 0) → post (-1) M6) ∧ (¬ (v5 = 0) → ((v3 = 0) → post (-1) M6) ∧ (¬ (v3 = 0) → wp_X12_isTaken g M6 a0 p1 (fun v9 M10 => ((v9 = 0) → post 0 M10) ∧ (¬ (v9 = 0) → post 1 M10))))))))
set_option maxHeartbeats 4000000 in
set_option maxRecDepth 100000 in
theorem ct_X12_takes {l : Launch} {g : Gh} {M0 : Mem} {a0 : Nat} {p1 : Int32} {post : Int32 → Mem → Prop}  (hq : wp_X12_takes  g M0 a0 p1 post) : Ct l g yX12_takes cX12_takes 3 (some .int) 514 0 0 [.ref a0, .int p1] M0 (pI post) := by
  unfold wp_X12_takes at hq
  obtain ⟨h0, hq⟩ := hq
  refine Ct.of (by decide) (Nat.le_of_ble_eq_true rfl) ?_
  intro p e s m below meth c ls C hr hlk hn hl hw
  have hx := C.1.1
  have hb := C.1.2.1
  have hl : lv_has ls 3 [(0, .ref a0), (1, .int p1)] := hl
  refine lv_aload_n hx hb dX12_takes_0 rfl (lv_at hl 0 rfl) ?_
  refine lv_iconst (v := 0) hx hb dX12_takes_1 (by decide) ?_
  refine pfX12_123 C hw hw.2.2.1 h0 dX12_takes_2 (fun H locs hw => ?_)
  generalize e2 : uI M0 a0 0 0 = M1 at hw
  replace hq := hq M1 e2.symm
  refine lv_aload_n hx hb dX12_takes_5 rfl (lv_at hl 0 rfl) ?_
  refine r_callV (T := TX12) (N := 67) (ci := 12) (index := 238) (n := 0) (d2 := 2) (mc := 0) (ms := 0) (As := []) (rest := []) C hw (ct_X12_readAnswer hq) kvX12_238 hq.1 (by decide) rfl ⟨by decide, by decide⟩ ⟨by decide, by decide⟩ rfl hl.1 rfl (Nat.le_of_ble_eq_true rfl) dX12_takes_6 (fun r M4 H locs hp hle hw => ?_)
  obtain ⟨v3, rfl, hq⟩ := hp
  refine W.eq (g2 := F0 m 9 ls [.int v3]) rfl ?_
  refine lv_istore_n (lv' := [(2, .int v3), (0, .ref a0), (1, .int p1)]) hx hb dX12_takes_9 rfl hl (by decide) rfl (fun ls hl => ?_)
  refine lv_aload_n hx hb dX12_takes_10 rfl (lv_at hl 1 rfl) ?_
  refine lv_iload_n hx hb dX12_takes_11 rfl (lv_at hl 2 rfl) ?_
  refine r_callV (T := TX12) (N := 67) (ci := 12) (index := 241) (n := 1) (d2 := 0) (mc := 0) (ms := 0) (As := [.int p1]) (rest := []) C hw (ct_X12_isQuestion hq) kvX12_241 hq.1 (by decide) rfl ⟨by decide, by decide⟩ ⟨by decide, by decide⟩ rfl hl.1 rfl (Nat.le_of_ble_eq_true rfl) dX12_takes_12 (fun r M6 H locs hp hle hw => ?_)
  obtain ⟨v5, rfl, hq⟩ := hp
  refine W.eq (g2 := F0 m 15 ls [.int v5]) rfl ?_
  refine lv_if_eq (tgt := 22) hx hb dX12_takes_15 (by decide) (fun c7 => ?_) (fun c7 => ?_)
  · replace hq := hq.1 c7
    refine lv_iconst (v := (-1)) hx hb dX12_takes_22 (by decide) ?_
    refine lv_goto (tgt := 39) hx hb dX12_takes_23 (by decide) ?_
    exact r_iret C hr hlk hw dX12_takes_39 (Nat.le_refl _) (Nat.le_refl _) ⟨_, rfl, hq⟩
  · replace hq := hq.2 c7
    refine lv_iload_n hx hb dX12_takes_18 rfl (lv_at hl 0 rfl) ?_
    refine lv_if_ne (tgt := 26) hx hb dX12_takes_19 (by decide) (fun c8 => ?_) (fun c8 => ?_)
    · replace hq := hq.2 c8
      refine lv_aload_n hx hb dX12_takes_26 rfl (lv_at hl 1 rfl) ?_
      refine lv_iload_n hx hb dX12_takes_27 rfl (lv_at hl 2 rfl) ?_
      refine r_callV (T := TX12) (N := 67) (ci := 12) (index := 244) (n := 1) (d2 := 513) (mc := 0) (ms := 0) (As := [.int p1]) (rest := []) C hw (ct_X12_isTaken hq) kvX12_244 hq.1 (by decide) rfl ⟨by decide, by decide⟩ ⟨by decide, by decide⟩ rfl hl.1 rfl (Nat.le_of_ble_eq_true rfl) dX12_takes_28 (fun r M10 H locs hp hle hw => ?_)
      obtain ⟨v9, rfl, hq⟩ := hp
      refine W.eq (g2 := F0 m 31 ls [.int v9]) rfl ?_
      refine lv_if_eq (tgt := 38) hx hb dX12_takes_31 (by decide) (fun c11 => ?_) (fun c11 => ?_)
      · replace hq := hq.1 c11
        refine lv_iconst (v := 0) hx hb dX12_takes_38 (by decide) ?_
        exact r_iret C hr hlk hw dX12_takes_39 (Nat.le_refl _) (Nat.le_refl _) ⟨_, rfl, hq⟩
      · replace hq := hq.2 c11
        refine lv_iconst (v := 1) hx hb dX12_takes_34 (by decide) ?_
        refine lv_goto (tgt := 39) hx hb dX12_takes_35 (by decide) ?_
        exact r_iret C hr hlk hw dX12_takes_39 (Nat.le_refl _) (Nat.le_refl _) ⟨_, rfl, hq⟩
    · replace hq := hq.1 c8
      refine lv_iconst (v := (-1)) hx hb dX12_takes_22 (by decide) ?_
      refine lv_goto (tgt := 39) hx hb dX12_takes_23 (by decide) ?_
      exact r_iret C hr hlk hw dX12_takes_39 (Nat.le_refl _) (Nat.le_refl _) ⟨_, rfl, hq⟩

set_option maxRecDepth 100000 in
def wp_X12_strike  (g : Gh) (M0 : Mem) (a0 : Nat) (p1 : Int32) (p2 : Int32) (post : Int32 → Mem → Prop) : Prop :=
  okc (gB g) M0 a0 12 ∧ (∀ M1, M1 = uI M0 a0 0 0 → (wp_X12_isQuestion g M1 a0 p1 (fun v3 M4 => ((v3 = 0) → post 0 M4) ∧ (¬ (v3 = 0) → (((mI M4 a0 48) = 0) → ∃ q7, mR M4 a0 23 = some q7 ∧ (okc (gB g) M0 q7 17 ∧ (vp_in p1 (mN M0 q7) ∧ ((((mI M4 q7 (Int32.toNatClampNeg p1)) = p2) → post 0 M4) ∧ (¬ ((mI M4 q7 (Int32.toNatClampNeg p1)) = p2) → ∀ M12, M12 = uI M4 q7 (Int32.toNatClampNeg p1) (vp_nar .boolean p2) → (post 1 M12)))))) ∧ (¬ ((mI M4 a0 48) = 0) → post 0 M4)))))
set_option maxHeartbeats 4000000 in
set_option maxRecDepth 100000 in
theorem ct_X12_strike {l : Launch} {g : Gh} {M0 : Mem} {a0 : Nat} {p1 : Int32} {p2 : Int32} {post : Int32 → Mem → Prop}  (hq : wp_X12_strike  g M0 a0 p1 p2 post) : Ct l g yX12_strike cX12_strike 3 (some .boolean) 1 0 0 [.ref a0, .int p1, .int p2] M0 (pI post) := by
  unfold wp_X12_strike at hq
  obtain ⟨h0, hq⟩ := hq
  refine Ct.of (by decide) (Nat.le_of_ble_eq_true rfl) ?_
  intro p e s m below meth c ls C hr hlk hn hl hw
  have hx := C.1.1
  have hb := C.1.2.1
  have hl : lv_has ls 3 [(0, .ref a0), (1, .int p1), (2, .int p2)] := hl
  refine lv_aload_n hx hb dX12_strike_0 rfl (lv_at hl 0 rfl) ?_
  refine lv_iconst (v := 0) hx hb dX12_strike_1 (by decide) ?_
  refine pfX12_123 C hw hw.2.2.1 h0 dX12_strike_2 (fun H locs hw => ?_)
  generalize e2 : uI M0 a0 0 0 = M1 at hw
  replace hq := hq M1 e2.symm
  refine lv_aload_n hx hb dX12_strike_5 rfl (lv_at hl 0 rfl) ?_
  refine lv_iload_n hx hb dX12_strike_6 rfl (lv_at hl 1 rfl) ?_
  refine r_callV (T := TX12) (N := 67) (ci := 12) (index := 241) (n := 1) (d2 := 0) (mc := 0) (ms := 0) (As := [.int p1]) (rest := []) C hw (ct_X12_isQuestion hq) kvX12_241 hq.1 (by decide) rfl ⟨by decide, by decide⟩ ⟨by decide, by decide⟩ rfl hl.1 rfl (Nat.le_of_ble_eq_true rfl) dX12_strike_7 (fun r M4 H locs hp hle hw => ?_)
  obtain ⟨v3, rfl, hq⟩ := hp
  refine W.eq (g2 := F0 m 10 ls [.int v3]) rfl ?_
  refine lv_if_eq (tgt := 30) hx hb dX12_strike_10 (by decide) (fun c5 => ?_) (fun c5 => ?_)
  · replace hq := hq.1 c5
    refine lv_iconst (v := 0) hx hb dX12_strike_30 (by decide) ?_
    exact r_zret C hr hlk hw dX12_strike_31 (Nat.le_refl _) (Nat.le_refl _) (by decide) ⟨_, rfl, hq⟩
  · replace hq := hq.2 c5
    refine lv_aload_n hx hb dX12_strike_13 rfl (lv_at hl 0 rfl) ?_
    refine gfX12_247 C hw hw.2.2.1 h0 dX12_strike_14 ?_
    refine lv_if_ne (tgt := 30) hx hb dX12_strike_17 (by decide) (fun c6 => ?_) (fun c6 => ?_)
    · replace hq := hq.2 c6
      refine lv_iconst (v := 0) hx hb dX12_strike_30 (by decide) ?_
      exact r_zret C hr hlk hw dX12_strike_31 (Nat.le_refl _) (Nat.le_refl _) (by decide) ⟨_, rfl, hq⟩
    · replace hq := hq.1 c6
      refine lv_aload_n hx hb dX12_strike_20 rfl (lv_at hl 0 rfl) ?_
      obtain ⟨q7, e8, hq⟩ := hq
      refine gfX12_41 C hw hw.2.2.1 h0 e8 dX12_strike_21 ?_
      refine lv_iload_n hx hb dX12_strike_24 rfl (lv_at hl 1 rfl) ?_
      obtain ⟨h9, hq⟩ := hq
      obtain ⟨h10, hq⟩ := hq
      refine q_zald C hw hw.2.2.1 h9 h10 dX12_strike_25 ?_
      refine lv_iload_n hx hb dX12_strike_26 rfl (lv_at hl 2 rfl) ?_
      refine lv_icmp_ne (tgt := 32) hx hb dX12_strike_27 (by decide) (fun c11 => ?_) (fun c11 => ?_)
      · replace hq := hq.2 c11
        refine lv_aload_n hx hb dX12_strike_32 rfl (lv_at hl 0 rfl) ?_
        refine gfX12_41 C hw hw.2.2.1 h0 e8 dX12_strike_33 ?_
        refine lv_iload_n hx hb dX12_strike_36 rfl (lv_at hl 1 rfl) ?_
        refine lv_iload_n hx hb dX12_strike_37 rfl (lv_at hl 2 rfl) ?_
        refine q_zast C hw hw.2.2.1 h9 h10 dX12_strike_38 (fun H locs hw => ?_)
        generalize e13 : uI M4 q7 (Int32.toNatClampNeg p1) (vp_nar .boolean p2) = M12 at hw
        replace hq := hq M12 e13.symm
        have e8 : mR M12 a0 23 = some q7 := by rw [← e13, mR_uI]; exact e8
        refine lv_iconst (v := 1) hx hb dX12_strike_39 (by decide) ?_
        exact r_zret C hr hlk hw dX12_strike_40 (Nat.le_refl _) (Nat.le_refl _) (by decide) ⟨_, rfl, hq⟩
      · replace hq := hq.1 c11
        refine lv_iconst (v := 0) hx hb dX12_strike_30 (by decide) ?_
        exact r_zret C hr hlk hw dX12_strike_31 (Nat.le_refl _) (Nat.le_refl _) (by decide) ⟨_, rfl, hq⟩

set_option maxRecDepth 100000 in
def wp_X12_hard  (g : Gh) (M0 : Mem) (a0 : Nat) (p1 : Int32) (post : Int32 → Mem → Prop) : Prop :=
  okc (gB g) M0 a0 12 ∧ (∃ q1, mR M0 a0 20 = some q1 ∧ (okc (gB g) M0 q1 14 ∧ (vp_in p1 (mN M0 q1) ∧ ((((mI M0 q1 (Int32.toNatClampNeg p1)) = 0) → post 50 M0) ∧ (¬ ((mI M0 q1 (Int32.toNatClampNeg p1)) = 0) → ∃ q6, mR M0 a0 21 = some q6 ∧ (okc (gB g) M0 q6 14 ∧ (vp_in p1 (mN M0 q6) ∧ ((¬ (mI M0 q1 (Int32.toNatClampNeg p1)) = 0) ∧ (post ((100 * (mI M0 q6 (Int32.toNatClampNeg p1))) / (mI M0 q1 (Int32.toNatClampNeg p1))) M0)))))))))
set_option maxHeartbeats 4000000 in
set_option maxRecDepth 100000 in
theorem ct_X12_hard {l : Launch} {g : Gh} {M0 : Mem} {a0 : Nat} {p1 : Int32} {post : Int32 → Mem → Prop}  (hq : wp_X12_hard  g M0 a0 p1 post) : Ct l g yX12_hard cX12_hard 2 (some .int) 0 0 0 [.ref a0, .int p1] M0 (pI post) := by
  unfold wp_X12_hard at hq
  obtain ⟨h0, hq⟩ := hq
  refine Ct.of (by decide) (Nat.le_of_ble_eq_true rfl) ?_
  intro p e s m below meth c ls C hr hlk hn hl hw
  have hx := C.1.1
  have hb := C.1.2.1
  have hl : lv_has ls 2 [(0, .ref a0), (1, .int p1)] := hl
  refine lv_aload_n hx hb dX12_hard_0 rfl (lv_at hl 0 rfl) ?_
  obtain ⟨q1, e2, hq⟩ := hq
  refine gfX12_32 C hw hw.2.2.1 h0 e2 dX12_hard_1 ?_
  refine lv_iload_n hx hb dX12_hard_4 rfl (lv_at hl 1 rfl) ?_
  obtain ⟨h3, hq⟩ := hq
  obtain ⟨h4, hq⟩ := hq
  refine q_iald C hw hw.2.2.1 h3 h4 dX12_hard_5 ?_
  refine lv_if_ne (tgt := 14) hx hb dX12_hard_6 (by decide) (fun c5 => ?_) (fun c5 => ?_)
  · replace hq := hq.2 c5
    refine lv_bipush (v := 100) hx hb dX12_hard_14 (by decide) ?_
    refine lv_aload_n hx hb dX12_hard_16 rfl (lv_at hl 0 rfl) ?_
    obtain ⟨q6, e7, hq⟩ := hq
    refine gfX12_35 C hw hw.2.2.1 h0 e7 dX12_hard_17 ?_
    refine lv_iload_n hx hb dX12_hard_20 rfl (lv_at hl 1 rfl) ?_
    obtain ⟨h8, hq⟩ := hq
    obtain ⟨h9, hq⟩ := hq
    refine q_iald C hw hw.2.2.1 h8 h9 dX12_hard_21 ?_
    refine lv_imul hx hb dX12_hard_22 ?_
    refine lv_aload_n hx hb dX12_hard_23 rfl (lv_at hl 0 rfl) ?_
    refine gfX12_32 C hw hw.2.2.1 h0 e2 dX12_hard_24 ?_
    refine lv_iload_n hx hb dX12_hard_27 rfl (lv_at hl 1 rfl) ?_
    refine q_iald C hw hw.2.2.1 h3 h4 dX12_hard_28 ?_
    obtain ⟨h10, hq⟩ := hq
    refine lv_idiv hx hb dX12_hard_29 h10 ?_
    exact r_iret C hr hlk hw dX12_hard_30 (Nat.le_refl _) (Nat.le_refl _) ⟨_, rfl, hq⟩
  · replace hq := hq.1 c5
    refine lv_bipush (v := 50) hx hb dX12_hard_9 (by decide) ?_
    refine lv_goto (tgt := 30) hx hb dX12_hard_11 (by decide) ?_
    exact r_iret C hr hlk hw dX12_hard_30 (Nat.le_refl _) (Nat.le_refl _) ⟨_, rfl, hq⟩

set_option maxRecDepth 100000 in
def bd_X12_asked_119  (g : Gh) (M0 : Mem) (a0 : Nat) (p1 : Int32) (p2 : Int32) (post : Int32 → Mem → Prop)  (bk119 : Int32 × Int32 × Mem → Prop) (x3 : Int32) (x4 : Int32)  (M : Mem) : Prop :=
  ((12 ≤ x4) → post x3 M) ∧ (¬ (12 ≤ x4) → ∃ q2, mR M a0 22 = some q2 ∧ (okc (gB g) M0 q2 14 ∧ (vp_in p1 (mN M0 q2) ∧ (bk119 ((x3 + (((mI M q2 (Int32.toNatClampNeg p1)) >>> (x4 &&& 31)) &&& 1)), (x4 + 1), M)))))
set_option maxRecDepth 100000 in
def lb_X12_asked_108  (g : Gh) (M0 : Mem) (a0 : Nat) (p1 : Int32) (p2 : Int32) (post : Int32 → Mem → Prop)    (M : Mem) : Prop :=
  post 1 M
set_option maxRecDepth 100000 in
def lb_X12_asked_23  (g : Gh) (M0 : Mem) (a0 : Nat) (p1 : Int32) (p2 : Int32) (post : Int32 → Mem → Prop)   (s0 : Nat) (s1 : Int32) (M : Mem) : Prop :=
  okc (gB g) M0 s0 12 ∧ (∀ M7, M7 = uI M s0 0 s1 → ((((mI M7 a0 0) ≤ 0) → ((p2 = 0) → ∃ q11, mR M7 a0 19 = some q11 ∧ (okc (gB g) M0 q11 14 ∧ (vp_in p1 (mN M0 q11) ∧ (post (mI M7 q11 (Int32.toNatClampNeg p1)) M7)))) ∧ ((p2 = 1) → ∃ q15, mR M7 a0 20 = some q15 ∧ (okc (gB g) M0 q15 14 ∧ (vp_in p1 (mN M0 q15) ∧ (post (mI M7 q15 (Int32.toNatClampNeg p1)) M7)))) ∧ ((p2 = 2) → ∃ q19, mR M7 a0 21 = some q19 ∧ (okc (gB g) M0 q19 14 ∧ (vp_in p1 (mN M0 q19) ∧ (post (mI M7 q19 (Int32.toNatClampNeg p1)) M7)))) ∧ ((p2 = 3) → wp_X12_hard g M7 a0 p1 (fun v23 M24 => post v23 M24)) ∧ ((p2 = 4) → ∃ q25, mR M7 a0 23 = some q25 ∧ (okc (gB g) M0 q25 17 ∧ (vp_in p1 (mN M0 q25) ∧ ((((mI M7 q25 (Int32.toNatClampNeg p1)) = 0) → post 0 M7) ∧ (¬ ((mI M7 q25 (Int32.toNatClampNeg p1)) = 0) → lb_X12_asked_108  g M0 a0 p1 p2 post   M7))))) ∧ ((¬ (p2 = 0) ∧ ¬ (p2 = 1) ∧ ¬ (p2 = 2) ∧ ¬ (p2 = 3) ∧ ¬ (p2 = 4)) → (∃ n : Nat, lfp (fun bk z => bd_X12_asked_119  g M0 a0 p1 p2 post  bk z.1 z.2.1 z.2.2) n (0, 0, M7)))) ∧ (¬ ((mI M7 a0 0) ≤ 0) → post 0 M7)))
set_option maxRecDepth 100000 in
def wp_X12_asked  (g : Gh) (M0 : Mem) (a0 : Nat) (p1 : Int32) (p2 : Int32) (post : Int32 → Mem → Prop) : Prop :=
  okc (gB g) M0 a0 12 ∧ (wp_X12_isQuestion g M0 a0 p1 (fun v35 M36 => ((v35 = 0) → lb_X12_asked_23  g M0 a0 p1 p2 post  a0 1 M36) ∧ (¬ (v35 = 0) → ((p2 < 0) → lb_X12_asked_23  g M0 a0 p1 p2 post  a0 1 M36) ∧ (¬ (p2 < 0) → ((p2 ≤ 5) → lb_X12_asked_23  g M0 a0 p1 p2 post  a0 0 M36) ∧ (¬ (p2 ≤ 5) → lb_X12_asked_23  g M0 a0 p1 p2 post  a0 1 M36)))))
set_option maxHeartbeats 4000000 in
set_option maxRecDepth 100000 in
theorem lp_X12_asked_119 {l : Launch} {g : Gh} {p : Program} {e : Env} {s : State} {m : MethodId} {args : Array Value} {below : List Frame} {meth : Method} {c : Code} {M0 : Mem} {a0 : Nat} {p1 : Int32} {p2 : Int32} {post : Int32 → Mem → Prop}  (C : Cx g p s m args c cX12_asked 5 RX12) (hr : meth.sig.returnType = (some .int)) (hlk : meth.locks = false) (hn : meth.name = "asked") (h0 : okc (gB g) M0 a0 12)  : ∀ (nf : Nat) (x3 : Int32) (x4 : Int32)  (M : Mem) (H : Heap) (locs : List Loc) (ls : Array Slot), lfp (fun bk z => bd_X12_asked_119  g M0 a0 p1 p2 post  bk z.1 z.2.1 z.2.2) nf (x3, x4, M) → Wd g s M0 M H locs → lv_has ls 5 [(0, .ref a0), (1, .int p1), (2, .int p2), (3, .int x3), (4, .int x4)] → W p l e (rmo 1 0 0) s m args below meth c H locs 0 0 (MQ below (Cq g M0 (pI post)) args s 0 0 (gA g)) (F0 m 119 ls []) := by
  have hx := C.1.1
  have hb := C.1.2.1
  intro nf
  induction nf with
  | zero => intro _ _ _ H locs ls hq; exact hq.elim
  | succ nf hk119 =>
    intro x3 x4 M H locs ls hq hw hl
    replace hq : bd_X12_asked_119  g M0 a0 p1 p2 post  (lfp (fun bk z => bd_X12_asked_119  g M0 a0 p1 p2 post  bk z.1 z.2.1 z.2.2) nf) x3 x4 M := hq
    unfold bd_X12_asked_119 at hq
    refine lv_iload hx hb dX12_asked_119 (lv_at hl 4 rfl) ?_
    refine lv_bipush (v := 12) hx hb dX12_asked_121 (by decide) ?_
    refine lv_icmp_ge (tgt := 146) hx hb dX12_asked_123 (by decide) (fun c1 => ?_) (fun c1 => ?_)
    · replace hq := hq.1 c1
      refine lv_iload_n hx hb dX12_asked_146 rfl (lv_at hl 3 rfl) ?_
      exact r_iret C hr hlk hw dX12_asked_147 (Nat.le_refl _) (Nat.le_refl _) ⟨_, rfl, hq⟩
    · replace hq := hq.2 c1
      refine lv_iload_n hx hb dX12_asked_126 rfl (lv_at hl 3 rfl) ?_
      refine lv_aload_n hx hb dX12_asked_127 rfl (lv_at hl 0 rfl) ?_
      obtain ⟨q2, e3, hq⟩ := hq
      refine gfX12_38 C hw hw.2.2.1 h0 e3 dX12_asked_128 ?_
      refine lv_iload_n hx hb dX12_asked_131 rfl (lv_at hl 1 rfl) ?_
      obtain ⟨h4, hq⟩ := hq
      obtain ⟨h5, hq⟩ := hq
      refine q_iald C hw hw.2.2.1 h4 h5 dX12_asked_132 ?_
      refine lv_iload hx hb dX12_asked_133 (lv_at hl 4 rfl) ?_
      refine lv_ishr hx hb dX12_asked_135 ?_
      refine lv_iconst (v := 1) hx hb dX12_asked_136 (by decide) ?_
      refine lv_iand hx hb dX12_asked_137 ?_
      refine lv_iadd hx hb dX12_asked_138 ?_
      refine lv_istore_n (lv' := [(3, .int (x3 + (((mI M q2 (Int32.toNatClampNeg p1)) >>> (x4 &&& 31)) &&& 1))), (0, .ref a0), (1, .int p1), (2, .int p2), (4, .int x4)]) hx hb dX12_asked_139 rfl hl (by decide) rfl (fun ls hl => ?_)
      refine lv_iinc (v := (x4 + 1)) (lv' := [(4, .int (x4 + 1)), (3, .int (x3 + (((mI M q2 (Int32.toNatClampNeg p1)) >>> (x4 &&& 31)) &&& 1))), (0, .ref a0), (1, .int p1), (2, .int p2)]) hx hb dX12_asked_140 hl (k := 4) rfl rfl (by decide) rfl (fun ls hl => ?_)
      refine lv_goto (tgt := 119) hx hb dX12_asked_143 (by decide) ?_
      exact hk119 _ _ _ _ _ _ hq hw (lv_sub hl [2, 3, 4, 1, 0] rfl)
set_option maxHeartbeats 4000000 in
set_option maxRecDepth 100000 in
theorem lt_X12_asked_108 {l : Launch} {g : Gh} {p : Program} {e : Env} {s : State} {m : MethodId} {args : Array Value} {below : List Frame} {meth : Method} {c : Code} {H : Heap} {locs : List Loc} {ls : Array Slot} {M0 M : Mem} {a0 : Nat} {p1 : Int32} {p2 : Int32} {post : Int32 → Mem → Prop}    (C : Cx g p s m args c cX12_asked 5 RX12) (hr : meth.sig.returnType = (some .int)) (hlk : meth.locks = false) (hn : meth.name = "asked") (h0 : okc (gB g) M0 a0 12)  (hq : lb_X12_asked_108  g M0 a0 p1 p2 post   M) (hw : Wd g s M0 M H locs) (hl : lv_has ls 5 [(0, .ref a0), (1, .int p1), (2, .int p2)]) : W p l e (rmo 1 0 0) s m args below meth c H locs 0 0 (MQ below (Cq g M0 (pI post)) args s 0 0 (gA g)) (F0 m 108 ls []) := by
  have hx := C.1.1
  have hb := C.1.2.1
  unfold lb_X12_asked_108 at hq
  refine lv_iconst (v := 1) hx hb dX12_asked_108 (by decide) ?_
  refine lv_goto (tgt := 113) hx hb dX12_asked_109 (by decide) ?_
  exact r_iret C hr hlk hw dX12_asked_113 (Nat.le_refl _) (Nat.le_refl _) ⟨_, rfl, hq⟩
set_option maxHeartbeats 4000000 in
set_option maxRecDepth 100000 in
theorem lt_X12_asked_23 {l : Launch} {g : Gh} {p : Program} {e : Env} {s : State} {m : MethodId} {args : Array Value} {below : List Frame} {meth : Method} {c : Code} {H : Heap} {locs : List Loc} {ls : Array Slot} {M0 M : Mem} {a0 : Nat} {p1 : Int32} {p2 : Int32} {post : Int32 → Mem → Prop}  {s0 : Nat} {s1 : Int32}  (C : Cx g p s m args c cX12_asked 5 RX12) (hr : meth.sig.returnType = (some .int)) (hlk : meth.locks = false) (hn : meth.name = "asked") (h0 : okc (gB g) M0 a0 12)  (hq : lb_X12_asked_23  g M0 a0 p1 p2 post  s0 s1 M) (hw : Wd g s M0 M H locs) (hl : lv_has ls 5 [(0, .ref a0), (1, .int p1), (2, .int p2)]) : W p l e (rmo 1 0 0) s m args below meth c H locs 0 0 (MQ below (Cq g M0 (pI post)) args s 0 0 (gA g)) (F0 m 23 ls [.int s1, .ref s0]) := by
  have hx := C.1.1
  have hb := C.1.2.1
  unfold lb_X12_asked_23 at hq
  obtain ⟨h6, hq⟩ := hq
  refine pfX12_123 C hw hw.2.2.1 h6 dX12_asked_23 (fun H locs hw => ?_)
  generalize e8 : uI M s0 0 s1 = M7 at hw
  replace hq := hq M7 e8.symm
  refine lv_aload_n hx hb dX12_asked_26 rfl (lv_at hl 0 rfl) ?_
  refine gfX12_123 C hw hw.2.2.1 h0 dX12_asked_27 ?_
  refine lv_if_le (tgt := 35) hx hb dX12_asked_30 (by decide) (fun c9 => ?_) (fun c9 => ?_)
  · replace hq := hq.1 c9
    refine lv_iload_n hx hb dX12_asked_35 rfl (lv_at hl 2 rfl) ?_
    by_cases c30 : p2 = 0
    · refine r_table (v := 0) (off := 36) (tgt := 72) hx hb dX12_asked_36 c30 (by decide) (by decide) rfl (by decide) ?_
      replace hq := hq.1 c30
      refine lv_aload_n hx hb dX12_asked_72 rfl (lv_at hl 0 rfl) ?_
      obtain ⟨q11, e12, hq⟩ := hq
      refine gfX12_29 C hw hw.2.2.1 h0 e12 dX12_asked_73 ?_
      refine lv_iload_n hx hb dX12_asked_76 rfl (lv_at hl 1 rfl) ?_
      obtain ⟨h13, hq⟩ := hq
      obtain ⟨h14, hq⟩ := hq
      refine q_iald C hw hw.2.2.1 h13 h14 dX12_asked_77 ?_
      exact r_iret C hr hlk hw dX12_asked_78 (Nat.le_refl _) (Nat.le_refl _) ⟨_, rfl, hq⟩
    by_cases c31 : p2 = 1
    · refine r_table (v := 1) (off := 43) (tgt := 79) hx hb dX12_asked_36 c31 (by decide) (by decide) rfl (by decide) ?_
      replace hq := hq.2.1 c31
      refine lv_aload_n hx hb dX12_asked_79 rfl (lv_at hl 0 rfl) ?_
      obtain ⟨q15, e16, hq⟩ := hq
      refine gfX12_32 C hw hw.2.2.1 h0 e16 dX12_asked_80 ?_
      refine lv_iload_n hx hb dX12_asked_83 rfl (lv_at hl 1 rfl) ?_
      obtain ⟨h17, hq⟩ := hq
      obtain ⟨h18, hq⟩ := hq
      refine q_iald C hw hw.2.2.1 h17 h18 dX12_asked_84 ?_
      exact r_iret C hr hlk hw dX12_asked_85 (Nat.le_refl _) (Nat.le_refl _) ⟨_, rfl, hq⟩
    by_cases c32 : p2 = 2
    · refine r_table (v := 2) (off := 50) (tgt := 86) hx hb dX12_asked_36 c32 (by decide) (by decide) rfl (by decide) ?_
      replace hq := hq.2.2.1 c32
      refine lv_aload_n hx hb dX12_asked_86 rfl (lv_at hl 0 rfl) ?_
      obtain ⟨q19, e20, hq⟩ := hq
      refine gfX12_35 C hw hw.2.2.1 h0 e20 dX12_asked_87 ?_
      refine lv_iload_n hx hb dX12_asked_90 rfl (lv_at hl 1 rfl) ?_
      obtain ⟨h21, hq⟩ := hq
      obtain ⟨h22, hq⟩ := hq
      refine q_iald C hw hw.2.2.1 h21 h22 dX12_asked_91 ?_
      exact r_iret C hr hlk hw dX12_asked_92 (Nat.le_refl _) (Nat.le_refl _) ⟨_, rfl, hq⟩
    by_cases c33 : p2 = 3
    · refine r_table (v := 3) (off := 57) (tgt := 93) hx hb dX12_asked_36 c33 (by decide) (by decide) rfl (by decide) ?_
      replace hq := hq.2.2.2.1 c33
      refine lv_aload_n hx hb dX12_asked_93 rfl (lv_at hl 0 rfl) ?_
      refine lv_iload_n hx hb dX12_asked_94 rfl (lv_at hl 1 rfl) ?_
      refine r_callV (T := TX12) (N := 67) (ci := 12) (index := 251) (n := 1) (d2 := 0) (mc := 0) (ms := 0) (As := [.int p1]) (rest := []) C hw (ct_X12_hard hq) kvX12_251 hq.1 (by decide) rfl ⟨by decide, by decide⟩ ⟨by decide, by decide⟩ rfl hl.1 rfl (Nat.le_of_ble_eq_true rfl) dX12_asked_95 (fun r M24 H locs hp hle hw => ?_)
      obtain ⟨v23, rfl, hq⟩ := hp
      refine W.eq (g2 := F0 m 98 ls [.int v23]) rfl ?_
      exact r_iret C hr hlk hw dX12_asked_98 (Nat.le_refl _) (Nat.le_refl _) ⟨_, rfl, hq⟩
    by_cases c34 : p2 = 4
    · refine r_table (v := 4) (off := 63) (tgt := 99) hx hb dX12_asked_36 c34 (by decide) (by decide) rfl (by decide) ?_
      replace hq := hq.2.2.2.2.1 c34
      refine lv_aload_n hx hb dX12_asked_99 rfl (lv_at hl 0 rfl) ?_
      obtain ⟨q25, e26, hq⟩ := hq
      refine gfX12_41 C hw hw.2.2.1 h0 e26 dX12_asked_100 ?_
      refine lv_iload_n hx hb dX12_asked_103 rfl (lv_at hl 1 rfl) ?_
      obtain ⟨h27, hq⟩ := hq
      obtain ⟨h28, hq⟩ := hq
      refine q_zald C hw hw.2.2.1 h27 h28 dX12_asked_104 ?_
      refine lv_if_eq (tgt := 112) hx hb dX12_asked_105 (by decide) (fun c29 => ?_) (fun c29 => ?_)
      · replace hq := hq.1 c29
        refine lv_iconst (v := 0) hx hb dX12_asked_112 (by decide) ?_
        exact r_iret C hr hlk hw dX12_asked_113 (Nat.le_refl _) (Nat.le_refl _) ⟨_, rfl, hq⟩
      · replace hq := hq.2 c29
        exact lt_X12_asked_108  C hr hlk hn h0  hq hw (lv_sub hl [0, 1, 2] rfl)
    refine r_tableOut (tgt := 114) (k := 4) hx hb dX12_asked_36 (by decide) (fun j hj => by rcases (show j = 0 ∨ j = 1 ∨ j = 2 ∨ j = 3 ∨ j = 4 by omega) with rfl | rfl | rfl | rfl | rfl <;> assumption) (by decide) ?_
    replace hq := hq.2.2.2.2.2 ⟨c30, c31, c32, c33, c34⟩
    refine lv_iconst (v := 0) hx hb dX12_asked_114 (by decide) ?_
    refine lv_istore_n (lv' := [(3, .int 0), (0, .ref a0), (1, .int p1), (2, .int p2)]) hx hb dX12_asked_115 rfl hl (by decide) rfl (fun ls hl => ?_)
    refine lv_iconst (v := 0) hx hb dX12_asked_116 (by decide) ?_
    refine lv_istore (lv' := [(4, .int 0), (3, .int 0), (0, .ref a0), (1, .int p1), (2, .int p2)]) hx hb dX12_asked_117 hl (by decide) rfl (fun ls hl => ?_)
    obtain ⟨nf, hq⟩ := hq
    exact lp_X12_asked_119  C hr hlk hn h0  nf _ _ _ _ _ _ hq hw (lv_sub hl [2, 3, 4, 1, 0] rfl)
  · replace hq := hq.2 c9
    refine lv_iconst (v := 0) hx hb dX12_asked_33 (by decide) ?_
    exact r_iret C hr hlk hw dX12_asked_34 (Nat.le_refl _) (Nat.le_refl _) ⟨_, rfl, hq⟩
set_option maxHeartbeats 4000000 in
set_option maxRecDepth 100000 in
theorem ct_X12_asked {l : Launch} {g : Gh} {M0 : Mem} {a0 : Nat} {p1 : Int32} {p2 : Int32} {post : Int32 → Mem → Prop}  (hq : wp_X12_asked  g M0 a0 p1 p2 post) : Ct l g yX12_asked cX12_asked 5 (some .int) 1 0 0 [.ref a0, .int p1, .int p2] M0 (pI post) := by
  unfold wp_X12_asked at hq
  obtain ⟨h0, hq⟩ := hq
  refine Ct.of (by decide) (Nat.le_of_ble_eq_true rfl) ?_
  intro p e s m below meth c ls C hr hlk hn hl hw
  have hx := C.1.1
  have hb := C.1.2.1
  have hl : lv_has ls 5 [(0, .ref a0), (1, .int p1), (2, .int p2)] := hl
  refine lv_aload_n hx hb dX12_asked_0 rfl (lv_at hl 0 rfl) ?_
  refine lv_aload_n hx hb dX12_asked_1 rfl (lv_at hl 0 rfl) ?_
  refine lv_iload_n hx hb dX12_asked_2 rfl (lv_at hl 1 rfl) ?_
  refine r_callV (T := TX12) (N := 67) (ci := 12) (index := 241) (n := 1) (d2 := 0) (mc := 0) (ms := 0) (As := [.int p1]) (rest := [.ref a0]) C hw (ct_X12_isQuestion hq) kvX12_241 hq.1 (by decide) rfl ⟨by decide, by decide⟩ ⟨by decide, by decide⟩ rfl hl.1 rfl (Nat.le_of_ble_eq_true rfl) dX12_asked_3 (fun r M36 H locs hp hle hw => ?_)
  obtain ⟨v35, rfl, hq⟩ := hp
  refine W.eq (g2 := F0 m 6 ls [.int v35, .ref a0]) rfl ?_
  refine lv_if_eq (tgt := 18) hx hb dX12_asked_6 (by decide) (fun c37 => ?_) (fun c37 => ?_)
  · replace hq := hq.1 c37
    refine lv_iconst (v := 1) hx hb dX12_asked_18 (by decide) ?_
    refine lv_goto (tgt := 23) hx hb dX12_asked_19 (by decide) ?_
    exact lt_X12_asked_23  C hr hlk hn h0  hq hw (lv_sub hl [0, 1, 2] rfl)
  · replace hq := hq.2 c37
    refine lv_iload_n hx hb dX12_asked_9 rfl (lv_at hl 2 rfl) ?_
    refine lv_if_lt (tgt := 18) hx hb dX12_asked_10 (by decide) (fun c38 => ?_) (fun c38 => ?_)
    · replace hq := hq.1 c38
      refine lv_iconst (v := 1) hx hb dX12_asked_18 (by decide) ?_
      refine lv_goto (tgt := 23) hx hb dX12_asked_19 (by decide) ?_
      exact lt_X12_asked_23  C hr hlk hn h0  hq hw (lv_sub hl [0, 1, 2] rfl)
    · replace hq := hq.2 c38
      refine lv_iload_n hx hb dX12_asked_13 rfl (lv_at hl 2 rfl) ?_
      refine lv_iconst (v := 5) hx hb dX12_asked_14 (by decide) ?_
      refine lv_icmp_le (tgt := 22) hx hb dX12_asked_15 (by decide) (fun c39 => ?_) (fun c39 => ?_)
      · replace hq := hq.1 c39
        refine lv_iconst (v := 0) hx hb dX12_asked_22 (by decide) ?_
        exact lt_X12_asked_23  C hr hlk hn h0  hq hw (lv_sub hl [0, 1, 2] rfl)
      · replace hq := hq.2 c39
        refine lv_iconst (v := 1) hx hb dX12_asked_18 (by decide) ?_
        refine lv_goto (tgt := 23) hx hb dX12_asked_19 (by decide) ?_
        exact lt_X12_asked_23  C hr hlk hn h0  hq hw (lv_sub hl [0, 1, 2] rfl)

set_option maxRecDepth 100000 in
def wp_X12_isTeam  (g : Gh) (M0 : Mem) (p0 : Int32) (post : Int32 → Mem → Prop) : Prop :=
  ((p0 < 0) → post 0 M0) ∧ (¬ (p0 < 0) → ((12 ≤ p0) → post 0 M0) ∧ (¬ (12 ≤ p0) → post 1 M0))
set_option maxHeartbeats 4000000 in
set_option maxRecDepth 100000 in
theorem ct_X12_isTeam {l : Launch} {g : Gh} {M0 : Mem} {p0 : Int32} {post : Int32 → Mem → Prop}  (hq : wp_X12_isTeam  g M0 p0 post) : Ct l g yX12_isTeam cX12_isTeam 1 (some .boolean) 0 0 0 [.int p0] M0 (pI post) := by
  unfold wp_X12_isTeam at hq
  refine Ct.of (by decide) (Nat.le_of_ble_eq_true rfl) ?_
  intro p e s m below meth c ls C hr hlk hn hl hw
  have hx := C.1.1
  have hb := C.1.2.1
  have hl : lv_has ls 1 [(0, .int p0)] := hl
  refine lv_iload_n hx hb dX12_isTeam_0 rfl (lv_at hl 0 rfl) ?_
  refine lv_if_lt (tgt := 14) hx hb dX12_isTeam_1 (by decide) (fun c1 => ?_) (fun c1 => ?_)
  · replace hq := hq.1 c1
    refine lv_iconst (v := 0) hx hb dX12_isTeam_14 (by decide) ?_
    exact r_zret C hr hlk hw dX12_isTeam_15 (Nat.le_refl _) (Nat.le_refl _) (by decide) ⟨_, rfl, hq⟩
  · replace hq := hq.2 c1
    refine lv_iload_n hx hb dX12_isTeam_4 rfl (lv_at hl 0 rfl) ?_
    refine lv_bipush (v := 12) hx hb dX12_isTeam_5 (by decide) ?_
    refine lv_icmp_ge (tgt := 14) hx hb dX12_isTeam_7 (by decide) (fun c2 => ?_) (fun c2 => ?_)
    · replace hq := hq.1 c2
      refine lv_iconst (v := 0) hx hb dX12_isTeam_14 (by decide) ?_
      exact r_zret C hr hlk hw dX12_isTeam_15 (Nat.le_refl _) (Nat.le_refl _) (by decide) ⟨_, rfl, hq⟩
    · replace hq := hq.2 c2
      refine lv_iconst (v := 1) hx hb dX12_isTeam_10 (by decide) ?_
      refine lv_goto (tgt := 15) hx hb dX12_isTeam_11 (by decide) ?_
      exact r_zret C hr hlk hw dX12_isTeam_15 (Nat.le_refl _) (Nat.le_refl _) (by decide) ⟨_, rfl, hq⟩

set_option maxRecDepth 100000 in
def wp_X12_seen  (g : Gh) (M0 : Mem) (a0 : Nat) (p1 : Int32) (p2 : Int32) (post : Int32 → Mem → Prop) : Prop :=
  okc (gB g) M0 a0 12 ∧ (∀ M1, M1 = uI M0 a0 0 0 → (wp_X12_isTeam g M1 p1 (fun v3 M4 => ((v3 = 0) → post 0 M4) ∧ (¬ (v3 = 0) → wp_X12_isQuestion g M4 a0 p2 (fun v6 M7 => ((v6 = 0) → post 0 M7) ∧ (¬ (v6 = 0) → ∃ q9, mR M7 a0 22 = some q9 ∧ (okc (gB g) M0 q9 14 ∧ (vp_in p2 (mN M0 q9) ∧ ((((((mI M7 q9 (Int32.toNatClampNeg p2)) >>> (p1 &&& 31)) &&& 1) = 1) → post 1 M7) ∧ (¬ ((((mI M7 q9 (Int32.toNatClampNeg p2)) >>> (p1 &&& 31)) &&& 1) = 1) → post 0 M7))))))))))
set_option maxHeartbeats 4000000 in
set_option maxRecDepth 100000 in
theorem ct_X12_seen {l : Launch} {g : Gh} {M0 : Mem} {a0 : Nat} {p1 : Int32} {p2 : Int32} {post : Int32 → Mem → Prop}  (hq : wp_X12_seen  g M0 a0 p1 p2 post) : Ct l g yX12_seen cX12_seen 3 (some .boolean) 1 0 0 [.ref a0, .int p1, .int p2] M0 (pI post) := by
  unfold wp_X12_seen at hq
  obtain ⟨h0, hq⟩ := hq
  refine Ct.of (by decide) (Nat.le_of_ble_eq_true rfl) ?_
  intro p e s m below meth c ls C hr hlk hn hl hw
  have hx := C.1.1
  have hb := C.1.2.1
  have hl : lv_has ls 3 [(0, .ref a0), (1, .int p1), (2, .int p2)] := hl
  refine lv_aload_n hx hb dX12_seen_0 rfl (lv_at hl 0 rfl) ?_
  refine lv_iconst (v := 0) hx hb dX12_seen_1 (by decide) ?_
  refine pfX12_123 C hw hw.2.2.1 h0 dX12_seen_2 (fun H locs hw => ?_)
  generalize e2 : uI M0 a0 0 0 = M1 at hw
  replace hq := hq M1 e2.symm
  refine lv_iload_n hx hb dX12_seen_5 rfl (lv_at hl 1 rfl) ?_
  refine r_callS (index := 254) (n := 1) (d2 := 0) (mc := 0) (ms := 0) (As := [.int p1]) (rest := []) C hw (ct_X12_isTeam hq) ksX12_254 ⟨by decide, by decide⟩ ⟨by decide, by decide⟩ rfl hl.1 rfl (Nat.le_of_ble_eq_true rfl) dX12_seen_6 (fun r M4 H locs hp hle hw => ?_)
  obtain ⟨v3, rfl, hq⟩ := hp
  refine W.eq (g2 := F0 m 9 ls [.int v3]) rfl ?_
  refine lv_if_eq (tgt := 38) hx hb dX12_seen_9 (by decide) (fun c5 => ?_) (fun c5 => ?_)
  · replace hq := hq.1 c5
    refine lv_iconst (v := 0) hx hb dX12_seen_38 (by decide) ?_
    exact r_zret C hr hlk hw dX12_seen_39 (Nat.le_refl _) (Nat.le_refl _) (by decide) ⟨_, rfl, hq⟩
  · replace hq := hq.2 c5
    refine lv_aload_n hx hb dX12_seen_12 rfl (lv_at hl 0 rfl) ?_
    refine lv_iload_n hx hb dX12_seen_13 rfl (lv_at hl 2 rfl) ?_
    refine r_callV (T := TX12) (N := 67) (ci := 12) (index := 241) (n := 1) (d2 := 0) (mc := 0) (ms := 0) (As := [.int p2]) (rest := []) C hw (ct_X12_isQuestion hq) kvX12_241 hq.1 (by decide) rfl ⟨by decide, by decide⟩ ⟨by decide, by decide⟩ rfl hl.1 rfl (Nat.le_of_ble_eq_true rfl) dX12_seen_14 (fun r M7 H locs hp hle hw => ?_)
    obtain ⟨v6, rfl, hq⟩ := hp
    refine W.eq (g2 := F0 m 17 ls [.int v6]) rfl ?_
    refine lv_if_eq (tgt := 38) hx hb dX12_seen_17 (by decide) (fun c8 => ?_) (fun c8 => ?_)
    · replace hq := hq.1 c8
      refine lv_iconst (v := 0) hx hb dX12_seen_38 (by decide) ?_
      exact r_zret C hr hlk hw dX12_seen_39 (Nat.le_refl _) (Nat.le_refl _) (by decide) ⟨_, rfl, hq⟩
    · replace hq := hq.2 c8
      refine lv_aload_n hx hb dX12_seen_20 rfl (lv_at hl 0 rfl) ?_
      obtain ⟨q9, e10, hq⟩ := hq
      refine gfX12_38 C hw hw.2.2.1 h0 e10 dX12_seen_21 ?_
      refine lv_iload_n hx hb dX12_seen_24 rfl (lv_at hl 2 rfl) ?_
      obtain ⟨h11, hq⟩ := hq
      obtain ⟨h12, hq⟩ := hq
      refine q_iald C hw hw.2.2.1 h11 h12 dX12_seen_25 ?_
      refine lv_iload_n hx hb dX12_seen_26 rfl (lv_at hl 1 rfl) ?_
      refine lv_ishr hx hb dX12_seen_27 ?_
      refine lv_iconst (v := 1) hx hb dX12_seen_28 (by decide) ?_
      refine lv_iand hx hb dX12_seen_29 ?_
      refine lv_iconst (v := 1) hx hb dX12_seen_30 (by decide) ?_
      refine lv_icmp_ne (tgt := 38) hx hb dX12_seen_31 (by decide) (fun c13 => ?_) (fun c13 => ?_)
      · replace hq := hq.2 c13
        refine lv_iconst (v := 0) hx hb dX12_seen_38 (by decide) ?_
        exact r_zret C hr hlk hw dX12_seen_39 (Nat.le_refl _) (Nat.le_refl _) (by decide) ⟨_, rfl, hq⟩
      · replace hq := hq.1 c13
        refine lv_iconst (v := 1) hx hb dX12_seen_34 (by decide) ?_
        refine lv_goto (tgt := 39) hx hb dX12_seen_35 (by decide) ?_
        exact r_zret C hr hlk hw dX12_seen_39 (Nat.le_refl _) (Nat.le_refl _) (by decide) ⟨_, rfl, hq⟩
