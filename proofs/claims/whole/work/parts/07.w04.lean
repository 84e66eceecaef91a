set_option maxRecDepth 100000 in
def wp_J7_copyOf_9075b  (g : Gh) (M0 : Mem) (a0 : Nat) (p1 : Int32) (post : Option Nat → Mem → Prop) : Prop :=
  okc (gB g) M0 a0 13 ∧ (((p1 = (nI (mN M0 a0))) → (0 + 1 ≤ 1 ∧ 0 + mN M0 a0 ≤ 200) ∧ ((∀ i, i < mN M0 a0 → fits .byte (.int (mI M0 a0 i)) = true) ∧ (∀ q17 M18, q17 = mT M0 → M18 = wI (nw M0 13 (mN M0 a0)) q17 (mI M0 a0) → (((0 + 1) ≤ 1 ∧ (0 + mN M0 a0) ≤ 200) ∧ (post (some q17) M18))))) ∧ (¬ (p1 = (nI (mN M0 a0))) → (0 + 1 ≤ 1 ∧ 0 + (Int32.toNatClampNeg p1) ≤ 200) ∧ ((¬ p1 < 0 ∧ (Int32.toNatClampNeg p1) ≤ 1000) ∧ (∀ q5 M6, q5 = mT M0 → M6 = nw M0 13 (Int32.toNatClampNeg p1) → (((0 + 1) ≤ 1 ∧ (0 + (Int32.toNatClampNeg p1)) ≤ 200) ∧ ((¬ (0 : Int32) < 0 ∧ ¬ (0 : Int32) < 0 ∧ ¬ ((if p1 < (nI (mN M6 a0)) then p1 else (nI (mN M6 a0))) : Int32) < 0 ∧ Int32.toNatClampNeg 0 + Int32.toNatClampNeg (if p1 < (nI (mN M6 a0)) then p1 else (nI (mN M6 a0))) ≤ mN M6 a0 ∧ Int32.toNatClampNeg 0 + Int32.toNatClampNeg (if p1 < (nI (mN M6 a0)) then p1 else (nI (mN M6 a0))) ≤ mN M6 q5 ∧ (∀ i, i < Int32.toNatClampNeg (if p1 < (nI (mN M6 a0)) then p1 else (nI (mN M6 a0))) → fits .byte (.int (mI M6 a0 (Int32.toNatClampNeg 0 + i))) = true)) ∧ (∀ M12, M12 = wI M6 q5 (va_cpy (mI M6 a0) (mI M6 q5) (Int32.toNatClampNeg 0) (Int32.toNatClampNeg 0) (Int32.toNatClampNeg (if p1 < (nI (mN M6 a0)) then p1 else (nI (mN M6 a0))))) → (((0 + 1) ≤ 1 ∧ (0 + (Int32.toNatClampNeg p1)) ≤ 200) ∧ (post (some q5) M12)))))))))
set_option maxHeartbeats 4000000 in
set_option maxRecDepth 100000 in
theorem ct_J7_copyOf_9075b {l : Launch} {g : Gh} {M0 : Mem} {a0 : Nat} {p1 : Int32} {post : Option Nat → Mem → Prop}  (hq : wp_J7_copyOf_9075b  g M0 a0 p1 post) : Ct l g yJ7_copyOf_9075b cJ7_copyOf_9075b 3 (some (.array .byte)) 1 1 200 [.ref a0, .int p1] M0 (pR post) := by
  unfold wp_J7_copyOf_9075b at hq
  refine Ct.of (by decide) (Nat.le_of_ble_eq_true rfl) ?_
  intro p e s m below meth c ls C hr hlk hn hl hw
  have hx := C.1.1
  have hb := C.1.2.1
  have hl : lv_has ls 3 [(0, .ref a0), (1, .int p1)] := hl
  refine lv_iload_n hx hb dJ7_copyOf_9075b_0 rfl (lv_at hl 1 rfl) ?_
  refine lv_aload_n hx hb dJ7_copyOf_9075b_1 rfl (lv_at hl 0 rfl) ?_
  obtain ⟨h1, hq⟩ := hq
  refine q_alen C hw (mle_rf _) h1 (by decide) (by decide) rfl dJ7_copyOf_9075b_2 ?_
  refine lv_icmp_ne (tgt := 14) hx hb dJ7_copyOf_9075b_3 (by decide) (fun c2 => ?_) (fun c2 => ?_)
  · replace hq := hq.2 c2
    refine lv_iload_n hx hb dJ7_copyOf_9075b_14 rfl (lv_at hl 1 rfl) ?_
    have hB := hw.B C.2.2.2.2.2
    obtain ⟨h3, hq⟩ := hq
    obtain ⟨h4, hq⟩ := hq
    refine q_newa_13 (N' := (Int32.toNatClampNeg p1)) C hw h4.1 rfl (Nat.le_trans h4.2 (by decide)) h3.1 h3.2 dJ7_copyOf_9075b_15 (fun H hw => ?_)
    have h9 := okc_nw (gB g) M0 13 (Int32.toNatClampNeg p1) hB
    have h1 := h1.up (mle_nw M0 13 (Int32.toNatClampNeg p1))
    generalize e7 : nw M0 13 (Int32.toNatClampNeg p1) = M6 at hw h9 h1
    generalize e8 : mT M0 = q5 at h9 ⊢
    replace hq := hq q5 M6 e8.symm e7.symm
    refine lv_astore_n (lv' := [(2, .ref q5), (0, .ref a0), (1, .int p1)]) hx hb dJ7_copyOf_9075b_17 rfl hl (by decide) rfl (fun ls hl => ?_)
    refine lv_aload_n hx hb dJ7_copyOf_9075b_18 rfl (lv_at hl 1 rfl) ?_
    refine lv_iconst (v := 0) hx hb dJ7_copyOf_9075b_19 (by decide) ?_
    refine lv_aload_n hx hb dJ7_copyOf_9075b_20 rfl (lv_at hl 0 rfl) ?_
    refine lv_iconst (v := 0) hx hb dJ7_copyOf_9075b_21 (by decide) ?_
    refine lv_aload_n hx hb dJ7_copyOf_9075b_22 rfl (lv_at hl 1 rfl) ?_
    refine q_alen C hw (mle_rf _) h1 (by decide) (by decide) rfl dJ7_copyOf_9075b_23 ?_
    refine lv_iload_n hx hb dJ7_copyOf_9075b_24 rfl (lv_at hl 2 rfl) ?_
    obtain ⟨h10, hq⟩ := hq
    refine va_mmin hx hb (by rw [C.1.2.2.1]; exact hl.1.symm) C.1.2.2.2.1 (C.1.2.2.2.2 _ w_590) (C.1.2.2.2.2 _ w_487) (C.1.2.2.2.2 _ w_14) (C.1.2.2.2.2 _ w_488) (by decide) (Nat.le_of_ble_eq_true rfl) h10.1 h10.2 dJ7_copyOf_9075b_25 ?_
    obtain ⟨h11, hq⟩ := hq
    refine q_copyi (kd := 13) (ty := .byte) C hw hl.1 (mle_rf _) h1 h9 (by decide) (by decide) (by decide) rfl rfl w_591 w_593 w_592 w_21 h11.1 h11.2.1 h11.2.2.1 h11.2.2.2.1 h11.2.2.2.2.1 h11.2.2.2.2.2 (by decide) (Nat.le_of_ble_eq_true rfl) dJ7_copyOf_9075b_28 (fun H locs hw => ?_)
    generalize e13 : wI M6 q5 (va_cpy (mI M6 a0) (mI M6 q5) (Int32.toNatClampNeg 0) (Int32.toNatClampNeg 0) (Int32.toNatClampNeg (if p1 < (nI (mN M6 a0)) then p1 else (nI (mN M6 a0))))) = M12 at hw
    replace hq := hq M12 e13.symm
    have h1 : okc (gB g) M12 a0 13 := by rw [← e13]; exact okc_wI h1
    have h9 : okc (gB g) M12 q5 13 := by rw [← e13]; exact okc_wI h9
    refine lv_aload_n hx hb dJ7_copyOf_9075b_31 rfl (lv_at hl 0 rfl) ?_
    obtain ⟨h14, hq⟩ := hq
    exact r_aret (v := (some q5)) C hr (Or.inr ⟨_, rfl⟩) hlk hw dJ7_copyOf_9075b_32 h14.1 h14.2 ⟨_, rfl, hq⟩
  · replace hq := hq.1 c2
    refine lv_aload_n hx hb dJ7_copyOf_9075b_6 rfl (lv_at hl 0 rfl) ?_
    obtain ⟨h15, hq⟩ := hq
    obtain ⟨h16, hq⟩ := hq
    have hB := hw.B C.2.2.2.2.2
    refine r_cloneB C hw hl.1 h1 w_583 w_584 w_585 w_586 w_587 (by decide) h16 (by decide) (Nat.le_of_ble_eq_true rfl) h15.1 h15.2 dJ7_copyOf_9075b_7 (fun H hw => ?_)
    have h21 : okc (gB g) (wI (nw M0 13 (mN M0 a0)) (mT M0) (mI M0 a0)) (mT M0) 13 := okc_nw (gB g) M0 13 (mN M0 a0) hB
    have h1 : okc (gB g) (wI (nw M0 13 (mN M0 a0)) (mT M0) (mI M0 a0)) a0 13 := h1.up (mle_nw M0 13 (mN M0 a0))
    generalize e19 : wI (nw M0 13 (mN M0 a0)) (mT M0) (mI M0 a0) = M18 at hw h21 h1
    generalize e20 : mT M0 = q17 at h21 e19 ⊢
    replace hq := hq q17 M18 e20.symm e19.symm
    refine r_castB C hw h21 w_589 dJ7_copyOf_9075b_10 ?_
    obtain ⟨h22, hq⟩ := hq
    exact r_aret (v := (some q17)) C hr (Or.inr ⟨_, rfl⟩) hlk hw dJ7_copyOf_9075b_13 h22.1 h22.2 ⟨_, rfl, hq⟩

set_option maxRecDepth 100000 in
def wp_J7_copyOf_c38d5  (g : Gh) (M0 : Mem) (a0 : Nat) (p1 : Int32) (post : Option Nat → Mem → Prop) : Prop :=
  okc (gB g) M0 a0 15 ∧ (((p1 = (nI (mN M0 a0))) → (0 + 1 ≤ 1 ∧ 0 + mN M0 a0 ≤ 200) ∧ (∀ q16 M17, q16 = mT M0 → M17 = wJ (nw M0 15 (mN M0 a0)) q16 (mJ M0 a0) → (((0 + 1) ≤ 1 ∧ (0 + mN M0 a0) ≤ 200) ∧ (post (some q16) M17)))) ∧ (¬ (p1 = (nI (mN M0 a0))) → (0 + 1 ≤ 1 ∧ 0 + (Int32.toNatClampNeg p1) ≤ 200) ∧ ((¬ p1 < 0 ∧ (Int32.toNatClampNeg p1) ≤ 1000) ∧ (∀ q5 M6, q5 = mT M0 → M6 = nw M0 15 (Int32.toNatClampNeg p1) → (((0 + 1) ≤ 1 ∧ (0 + (Int32.toNatClampNeg p1)) ≤ 200) ∧ ((¬ (0 : Int32) < 0 ∧ ¬ (0 : Int32) < 0 ∧ ¬ ((if p1 < (nI (mN M6 a0)) then p1 else (nI (mN M6 a0))) : Int32) < 0 ∧ Int32.toNatClampNeg 0 + Int32.toNatClampNeg (if p1 < (nI (mN M6 a0)) then p1 else (nI (mN M6 a0))) ≤ mN M6 a0 ∧ Int32.toNatClampNeg 0 + Int32.toNatClampNeg (if p1 < (nI (mN M6 a0)) then p1 else (nI (mN M6 a0))) ≤ mN M6 q5) ∧ (∀ M12, M12 = wJ M6 q5 (va_cpy (mJ M6 a0) (mJ M6 q5) (Int32.toNatClampNeg 0) (Int32.toNatClampNeg 0) (Int32.toNatClampNeg (if p1 < (nI (mN M6 a0)) then p1 else (nI (mN M6 a0))))) → (((0 + 1) ≤ 1 ∧ (0 + (Int32.toNatClampNeg p1)) ≤ 200) ∧ (post (some q5) M12)))))))))
set_option maxHeartbeats 4000000 in
set_option maxRecDepth 100000 in
theorem ct_J7_copyOf_c38d5 {l : Launch} {g : Gh} {M0 : Mem} {a0 : Nat} {p1 : Int32} {post : Option Nat → Mem → Prop}  (hq : wp_J7_copyOf_c38d5  g M0 a0 p1 post) : Ct l g yJ7_copyOf_c38d5 cJ7_copyOf_c38d5 3 (some (.array .long)) 1 1 200 [.ref a0, .int p1] M0 (pR post) := by
  unfold wp_J7_copyOf_c38d5 at hq
  refine Ct.of (by decide) (Nat.le_of_ble_eq_true rfl) ?_
  intro p e s m below meth c ls C hr hlk hn hl hw
  have hx := C.1.1
  have hb := C.1.2.1
  have hl : lv_has ls 3 [(0, .ref a0), (1, .int p1)] := hl
  refine lv_iload_n hx hb dJ7_copyOf_c38d5_0 rfl (lv_at hl 1 rfl) ?_
  refine lv_aload_n hx hb dJ7_copyOf_c38d5_1 rfl (lv_at hl 0 rfl) ?_
  obtain ⟨h1, hq⟩ := hq
  refine q_alen C hw (mle_rf _) h1 (by decide) (by decide) rfl dJ7_copyOf_c38d5_2 ?_
  refine lv_icmp_ne (tgt := 14) hx hb dJ7_copyOf_c38d5_3 (by decide) (fun c2 => ?_) (fun c2 => ?_)
  · replace hq := hq.2 c2
    refine lv_iload_n hx hb dJ7_copyOf_c38d5_14 rfl (lv_at hl 1 rfl) ?_
    have hB := hw.B C.2.2.2.2.2
    obtain ⟨h3, hq⟩ := hq
    obtain ⟨h4, hq⟩ := hq
    refine q_newa_15 (N' := (Int32.toNatClampNeg p1)) C hw h4.1 rfl (Nat.le_trans h4.2 (by decide)) h3.1 h3.2 dJ7_copyOf_c38d5_15 (fun H hw => ?_)
    have h9 := okc_nw (gB g) M0 15 (Int32.toNatClampNeg p1) hB
    have h1 := h1.up (mle_nw M0 15 (Int32.toNatClampNeg p1))
    generalize e7 : nw M0 15 (Int32.toNatClampNeg p1) = M6 at hw h9 h1
    generalize e8 : mT M0 = q5 at h9 ⊢
    replace hq := hq q5 M6 e8.symm e7.symm
    refine lv_astore_n (lv' := [(2, .ref q5), (0, .ref a0), (1, .int p1)]) hx hb dJ7_copyOf_c38d5_17 rfl hl (by decide) rfl (fun ls hl => ?_)
    refine lv_aload_n hx hb dJ7_copyOf_c38d5_18 rfl (lv_at hl 1 rfl) ?_
    refine lv_iconst (v := 0) hx hb dJ7_copyOf_c38d5_19 (by decide) ?_
    refine lv_aload_n hx hb dJ7_copyOf_c38d5_20 rfl (lv_at hl 0 rfl) ?_
    refine lv_iconst (v := 0) hx hb dJ7_copyOf_c38d5_21 (by decide) ?_
    refine lv_aload_n hx hb dJ7_copyOf_c38d5_22 rfl (lv_at hl 1 rfl) ?_
    refine q_alen C hw (mle_rf _) h1 (by decide) (by decide) rfl dJ7_copyOf_c38d5_23 ?_
    refine lv_iload_n hx hb dJ7_copyOf_c38d5_24 rfl (lv_at hl 2 rfl) ?_
    obtain ⟨h10, hq⟩ := hq
    refine va_mmin hx hb (by rw [C.1.2.2.1]; exact hl.1.symm) C.1.2.2.2.1 (C.1.2.2.2.2 _ w_590) (C.1.2.2.2.2 _ w_487) (C.1.2.2.2.2 _ w_14) (C.1.2.2.2.2 _ w_488) (by decide) (Nat.le_of_ble_eq_true rfl) h10.1 h10.2 dJ7_copyOf_c38d5_25 ?_
    obtain ⟨h11, hq⟩ := hq
    refine q_copyl C hw hl.1 (mle_rf _) h1 h9 w_591 w_593 w_592 w_21 h11.1 h11.2.1 h11.2.2.1 h11.2.2.2.1 h11.2.2.2.2 (by decide) (Nat.le_of_ble_eq_true rfl) dJ7_copyOf_c38d5_28 (fun H locs hw => ?_)
    generalize e13 : wJ M6 q5 (va_cpy (mJ M6 a0) (mJ M6 q5) (Int32.toNatClampNeg 0) (Int32.toNatClampNeg 0) (Int32.toNatClampNeg (if p1 < (nI (mN M6 a0)) then p1 else (nI (mN M6 a0))))) = M12 at hw
    replace hq := hq M12 e13.symm
    have h1 : okc (gB g) M12 a0 15 := by rw [← e13]; exact okc_wJ h1
    have h9 : okc (gB g) M12 q5 15 := by rw [← e13]; exact okc_wJ h9
    refine lv_aload_n hx hb dJ7_copyOf_c38d5_31 rfl (lv_at hl 0 rfl) ?_
    obtain ⟨h14, hq⟩ := hq
    exact r_aret (v := (some q5)) C hr (Or.inr ⟨_, rfl⟩) hlk hw dJ7_copyOf_c38d5_32 h14.1 h14.2 ⟨_, rfl, hq⟩
  · replace hq := hq.1 c2
    refine lv_aload_n hx hb dJ7_copyOf_c38d5_6 rfl (lv_at hl 0 rfl) ?_
    obtain ⟨h15, hq⟩ := hq
    have hB := hw.B C.2.2.2.2.2
    refine r_cloneJ C hw hl.1 h1 w_597 w_598 w_585 w_586 w_599 (by decide) (by decide) (Nat.le_of_ble_eq_true rfl) h15.1 h15.2 dJ7_copyOf_c38d5_7 (fun H hw => ?_)
    have h20 : okc (gB g) (wJ (nw M0 15 (mN M0 a0)) (mT M0) (mJ M0 a0)) (mT M0) 15 := okc_nw (gB g) M0 15 (mN M0 a0) hB
    have h1 : okc (gB g) (wJ (nw M0 15 (mN M0 a0)) (mT M0) (mJ M0 a0)) a0 15 := h1.up (mle_nw M0 15 (mN M0 a0))
    generalize e18 : wJ (nw M0 15 (mN M0 a0)) (mT M0) (mJ M0 a0) = M17 at hw h20 h1
    generalize e19 : mT M0 = q16 at h20 e18 ⊢
    replace hq := hq q16 M17 e19.symm e18.symm
    refine r_castJ C hw h20 w_601 dJ7_copyOf_c38d5_10 ?_
    obtain ⟨h21, hq⟩ := hq
    exact r_aret (v := (some q16)) C hr (Or.inr ⟨_, rfl⟩) hlk hw dJ7_copyOf_c38d5_13 h21.1 h21.2 ⟨_, rfl, hq⟩

set_option maxRecDepth 100000 in
def wp_X2_copyOfForm  (g : Gh) (M0 : Mem) (a0 : Nat) (post : Option Nat → Mem → Prop) : Prop :=
  okc (gB g) M0 a0 2 ∧ (∀ q2 M3, q2 = mT M0 → M3 = nw M0 1 0 → (∃ q7, mR M3 a0 0 = some q7 ∧ (wp_J7_copyOf_9075b g M3 q7 (mI M3 a0 3) (fun v9 M10 => ∃ q12, mR M10 a0 1 = some q12 ∧ (wp_J7_copyOf_c38d5 g M10 q12 (mI M10 a0 3) (fun v14 M15 => ∃ q17, mR M15 a0 2 = some q17 ∧ (wp_J7_copyOf_c38d5 g M15 q17 (mI M15 a0 3) (fun v19 M20 => ∃ q22, v9 = some q22 ∧ (∃ q23, v14 = some q23 ∧ (∃ q24, v19 = some q24 ∧ (wp_X1_init g M20 q2 q22 q23 q24 (fun M26 => post (some q2) M26))))))))))))
set_option maxHeartbeats 4000000 in
set_option maxRecDepth 100000 in
theorem ct_X2_copyOfForm {l : Launch} {g : Gh} {M0 : Mem} {a0 : Nat} {post : Option Nat → Mem → Prop}  (hq : wp_X2_copyOfForm  g M0 a0 post) : Ct l g yX2_copyOfForm cX2_copyOfForm 1 (some (.object "QuizLeague$Form")) 2 4 603 [.ref a0] M0 (pR post) := by
  unfold wp_X2_copyOfForm at hq
  obtain ⟨h0, hq⟩ := hq
  have h00 := h0
  refine Ct.of (by decide) (Nat.le_of_ble_eq_true rfl) ?_
  intro p e s m below meth c ls C hr hlk hn hl hw
  have hx := C.1.1
  have hb := C.1.2.1
  have hl : lv_has ls 1 [(0, .ref a0)] := hl
  have hB := hw.B C.2.2.2.2.2
  have h1 : 0 + 1 ≤ 4 ∧ 0 + 3 ≤ 603 := by decide
  refine r_new tyX1 (T := TX1) (N := 3) (ci := 1) C hw rfl (by decide) inX1 tyX1_ok w_578 w_579 w_19 df_1 h1.1 h1.2 dX2_copyOfForm_0 (fun H hw => ?_)
  have h6 := okc_nw (gB g) M0 1 0 hB
  have h0 := h0.up (mle_nw M0 1 0)
  generalize e4 : nw M0 1 0 = M3 at hw h6 h0
  generalize e5 : mT M0 = q2 at h6 ⊢
  replace hq := hq q2 M3 e5.symm e4.symm
  refine lv_dup hx hb dX2_copyOfForm_3 rfl ?_
  refine lv_aload_n hx hb dX2_copyOfForm_4 rfl (lv_at hl 0 rfl) ?_
  obtain ⟨q7, e8, hq⟩ := hq
  refine gfX2_11 C hw (mle_rf _) h0 e8 dX2_copyOfForm_5 ?_
  refine lv_aload_n hx hb dX2_copyOfForm_8 rfl (lv_at hl 0 rfl) ?_
  refine gfX2_31 C hw (mle_rf _) h0 dX2_copyOfForm_9 ?_
  have h11 : 1 + 1 ≤ 4 ∧ 3 + 200 ≤ 603 := by decide
  refine r_callS (index := 70) (n := 2) (d2 := 1) (mc := 1) (ms := 200) (As := [.ref q7, .int (mI M3 a0 3)]) (rest := [.ref q2, .ref q2]) C hw (ct_J7_copyOf_9075b hq) ksX2_70 ⟨by decide, by decide⟩ ⟨h11.1, h11.2⟩ rfl hl.1 rfl (Nat.le_of_ble_eq_true rfl) dX2_copyOfForm_12 (fun r M10 H locs hp hle hw => ?_)
  clear hq
  obtain ⟨v9, rfl, hq⟩ := hp
  have h0 := h0.up hle
  have h6 := h6.up hle
  refine W.eq (g2 := F0 m 15 ls [va_rf v9, .ref q2, .ref q2]) rfl ?_
  refine lv_aload_n hx hb dX2_copyOfForm_15 rfl (lv_at hl 0 rfl) ?_
  obtain ⟨q12, e13, hq⟩ := hq
  refine gfX2_17 C hw (mle_rf _) h0 e13 dX2_copyOfForm_16 ?_
  refine lv_aload_n hx hb dX2_copyOfForm_19 rfl (lv_at hl 0 rfl) ?_
  refine gfX2_31 C hw (mle_rf _) h0 dX2_copyOfForm_20 ?_
  have h16 : 2 + 1 ≤ 4 ∧ 203 + 200 ≤ 603 := by decide
  refine r_callS (index := 76) (n := 2) (d2 := 1) (mc := 1) (ms := 200) (As := [.ref q12, .int (mI M10 a0 3)]) (rest := [va_rf v9, .ref q2, .ref q2]) C hw (ct_J7_copyOf_c38d5 hq) ksX2_76 ⟨by decide, by decide⟩ ⟨h16.1, h16.2⟩ rfl hl.1 rfl (by simp only [List.map_cons, List.map_nil, va_cat, List.sum_cons, List.sum_nil]; exact Nat.le_of_ble_eq_true rfl) dX2_copyOfForm_23 (fun r M15 H locs hp hle hw => ?_)
  clear hq
  obtain ⟨v14, rfl, hq⟩ := hp
  have h0 := h0.up hle
  have h6 := h6.up hle
  refine W.eq (g2 := F0 m 26 ls [va_rf v14, va_rf v9, .ref q2, .ref q2]) rfl ?_
  refine lv_aload_n hx hb dX2_copyOfForm_26 rfl (lv_at hl 0 rfl) ?_
  obtain ⟨q17, e18, hq⟩ := hq
  refine gfX2_21 C hw (mle_rf _) h0 e18 dX2_copyOfForm_27 ?_
  refine lv_aload_n hx hb dX2_copyOfForm_30 rfl (lv_at hl 0 rfl) ?_
  refine gfX2_31 C hw (mle_rf _) h0 dX2_copyOfForm_31 ?_
  have h21 : 3 + 1 ≤ 4 ∧ 403 + 200 ≤ 603 := by decide
  refine r_callS (index := 76) (n := 2) (d2 := 1) (mc := 1) (ms := 200) (As := [.ref q17, .int (mI M15 a0 3)]) (rest := [va_rf v14, va_rf v9, .ref q2, .ref q2]) C hw (ct_J7_copyOf_c38d5 hq) ksX2_76 ⟨by decide, by decide⟩ ⟨h21.1, h21.2⟩ rfl hl.1 rfl (by simp only [List.map_cons, List.map_nil, va_cat, List.sum_cons, List.sum_nil]; exact Nat.le_of_ble_eq_true rfl) dX2_copyOfForm_34 (fun r M20 H locs hp hle hw => ?_)
  clear hq
  obtain ⟨v19, rfl, hq⟩ := hp
  have h0 := h0.up hle
  have h6 := h6.up hle
  refine W.eq (g2 := F0 m 37 ls [va_rf v19, va_rf v14, va_rf v9, .ref q2, .ref q2]) rfl ?_
  obtain ⟨q22, rfl, hq⟩ := hq
  have hl : lv_has ls 1 [(0, .ref a0)] := hl
  refine W.eq (g2 := F0 m 37 ls [va_rf v19, va_rf v14, .ref q22, .ref q2, .ref q2]) rfl ?_
  obtain ⟨q23, rfl, hq⟩ := hq
  have hl : lv_has ls 1 [(0, .ref a0)] := hl
  refine W.eq (g2 := F0 m 37 ls [va_rf v19, .ref q23, .ref q22, .ref q2, .ref q2]) rfl ?_
  obtain ⟨q24, rfl, hq⟩ := hq
  have hl : lv_has ls 1 [(0, .ref a0)] := hl
  refine W.eq (g2 := F0 m 37 ls [.ref q24, .ref q23, .ref q22, .ref q2, .ref q2]) rfl ?_
  have h27 : 4 ≤ 4 ∧ 603 ≤ 603 := by decide
  refine r_callI (index := 79) (n := 3) (d2 := 1) (mc := 0) (ms := 0) (As := [.ref q22, .ref q23, .ref q24]) (rest := [.ref q2]) C hw (ct_X1_init hq) kiX2_79 ⟨by decide, by decide⟩ ⟨h27.1, h27.2⟩ rfl hl.1 rfl (Nat.le_of_ble_eq_true rfl) dX2_copyOfForm_37 (fun r M26 H locs hp hle hw => ?_)
  clear hq
  obtain ⟨rfl, hq⟩ := hp
  have h0 := h0.up hle
  have h6 := h6.up hle
  refine W.eq (g2 := F0 m 40 ls [.ref q2]) rfl ?_
  have h28 : 4 ≤ 4 ∧ 603 ≤ 603 := by decide
  exact r_aret (v := (some q2)) C hr (Or.inl ⟨_, rfl⟩) hlk hw dX2_copyOfForm_40 h28.1 h28.2 ⟨_, rfl, hq⟩

set_option maxRecDepth 100000 in
def wp_X3_init  (g : Gh) (M0 : Mem) (a0 : Nat) (post : Mem → Prop) : Prop :=
  okc (gB g) M0 a0 3 ∧ (∀ q2 M3, q2 = mT M0 → M3 = nw M0 14 21 → (∀ M7, M7 = uR M3 a0 0 (some q2) → (∀ q10 M11, q10 = mT M7 → M11 = nw M7 14 21 → (∀ M15, M15 = uR M11 a0 1 (some q10) → (∀ q18 M19, q18 = mT M15 → M19 = nw M15 14 105 → (∀ M23, M23 = uR M19 a0 2 (some q18) → (∀ M25, M25 = uI M23 a0 3 0 → (∀ q28 M29, q28 = mT M25 → M29 = nw M25 14 32 → (∀ M33, M33 = uR M29 a0 4 (some q28) → (post M33))))))))))
set_option maxHeartbeats 4000000 in
set_option maxRecDepth 100000 in
theorem ct_X3_init {l : Launch} {g : Gh} {M0 : Mem} {a0 : Nat} {post : Mem → Prop}  (hq : wp_X3_init  g M0 a0 post) : Ct l g yX3_init cX3_init 1 none 1 4 179 [.ref a0] M0 (pV post) := by
  unfold wp_X3_init at hq
  obtain ⟨h0, hq⟩ := hq
  have h00 := h0
  refine Ct.of (by decide) (Nat.le_of_ble_eq_true rfl) ?_
  intro p e s m below meth c ls C hr hlk hn hl hw
  have hx := C.1.1
  have hb := C.1.2.1
  have hl : lv_has ls 1 [(0, .ref a0)] := hl
  refine lv_aload_n hx hb dX3_init_0 rfl (lv_at hl 0 rfl) ?_
  refine W.objInit hx hb C.1.2.2.2.1 (C.1.2.2.2.2 _ w_126) (C.1.2.2.2.2 _ w_35) (C.1.2.2.2.2 _ w_objInit) rfl (by rw [C.1.2.2.1]; exact hl.1) rfl dX3_init_1 (Nat.le_of_ble_eq_true rfl) (Nat.le_of_ble_eq_true rfl) ?_
  refine W.eq (g2 := F0 m 4 ls []) rfl ?_
  refine lv_aload_n hx hb dX3_init_4 rfl (lv_at hl 0 rfl) ?_
  refine lv_bipush (v := 21) hx hb dX3_init_5 (by decide) ?_
  have hB := hw.B C.2.2.2.2.2
  have h1 : 0 + 1 ≤ 4 ∧ 0 + 21 ≤ 179 := by decide
  refine q_newa_14 (N' := 21) C hw (by decide) (by decide) (by decide) h1.1 h1.2 dX3_init_7 (fun H hw => ?_)
  have h6 := okc_nw (gB g) M0 14 21 hB
  have h0 := h0.up (mle_nw M0 14 21)
  generalize e4 : nw M0 14 21 = M3 at hw h6 h0
  generalize e5 : mT M0 = q2 at h6 ⊢
  replace hq := hq q2 M3 e5.symm e4.symm
  refine pfX3_11 (v := (some q2)) C hw (mle_rf _) h0 hn dX3_init_9 (fun H locs hw => ?_)
  generalize e8 : uR M3 a0 0 (some q2) = M7 at hw
  replace hq := hq M7 e8.symm
  have h0 : okc (gB g) M7 a0 3 := by rw [← e8]; exact okc_uR h0
  refine lv_aload_n hx hb dX3_init_12 rfl (lv_at hl 0 rfl) ?_
  refine lv_bipush (v := 21) hx hb dX3_init_13 (by decide) ?_
  have hB := hw.B C.2.2.2.2.2
  have h9 : 1 + 1 ≤ 4 ∧ 21 + 21 ≤ 179 := by decide
  refine q_newa_14 (N' := 21) C hw (by decide) (by decide) (by decide) h9.1 h9.2 dX3_init_15 (fun H hw => ?_)
  have h14 := okc_nw (gB g) M7 14 21 hB
  have h0 := h0.up (mle_nw M7 14 21)
  generalize e12 : nw M7 14 21 = M11 at hw h14 h0
  generalize e13 : mT M7 = q10 at h14 ⊢
  replace hq := hq q10 M11 e13.symm e12.symm
  refine pfX3_15 (v := (some q10)) C hw (mle_rf _) h0 hn dX3_init_17 (fun H locs hw => ?_)
  generalize e16 : uR M11 a0 1 (some q10) = M15 at hw
  replace hq := hq M15 e16.symm
  have h0 : okc (gB g) M15 a0 3 := by rw [← e16]; exact okc_uR h0
  refine lv_aload_n hx hb dX3_init_20 rfl (lv_at hl 0 rfl) ?_
  refine lv_bipush (v := 105) hx hb dX3_init_21 (by decide) ?_
  have hB := hw.B C.2.2.2.2.2
  have h17 : 2 + 1 ≤ 4 ∧ 42 + 105 ≤ 179 := by decide
  refine q_newa_14 (N' := 105) C hw (by decide) (by decide) (by decide) h17.1 h17.2 dX3_init_23 (fun H hw => ?_)
  have h22 := okc_nw (gB g) M15 14 105 hB
  have h0 := h0.up (mle_nw M15 14 105)
  generalize e20 : nw M15 14 105 = M19 at hw h22 h0
  generalize e21 : mT M15 = q18 at h22 ⊢
  replace hq := hq q18 M19 e21.symm e20.symm
  refine pfX3_20 (v := (some q18)) C hw (mle_rf _) h0 hn dX3_init_25 (fun H locs hw => ?_)
  generalize e24 : uR M19 a0 2 (some q18) = M23 at hw
  replace hq := hq M23 e24.symm
  have h0 : okc (gB g) M23 a0 3 := by rw [← e24]; exact okc_uR h0
  refine lv_aload_n hx hb dX3_init_28 rfl (lv_at hl 0 rfl) ?_
  refine lv_iconst (v := 0) hx hb dX3_init_29 (by decide) ?_
  refine pfX3_23 C hw (mle_rf _) h0 dX3_init_30 (fun H locs hw => ?_)
  generalize e26 : uI M23 a0 3 0 = M25 at hw
  replace hq := hq M25 e26.symm
  have h0 : okc (gB g) M25 a0 3 := by rw [← e26]; exact okc_uI h0
  refine lv_aload_n hx hb dX3_init_33 rfl (lv_at hl 0 rfl) ?_
  refine lv_bipush (v := 32) hx hb dX3_init_34 (by decide) ?_
  have hB := hw.B C.2.2.2.2.2
  have h27 : 3 + 1 ≤ 4 ∧ 147 + 32 ≤ 179 := by decide
  refine q_newa_14 (N' := 32) C hw (by decide) (by decide) (by decide) h27.1 h27.2 dX3_init_36 (fun H hw => ?_)
  have h32 := okc_nw (gB g) M25 14 32 hB
  have h0 := h0.up (mle_nw M25 14 32)
  generalize e30 : nw M25 14 32 = M29 at hw h32 h0
  generalize e31 : mT M25 = q28 at h32 ⊢
  replace hq := hq q28 M29 e31.symm e30.symm
  refine pfX3_27 (v := (some q28)) C hw (mle_rf _) h0 hn dX3_init_38 (fun H locs hw => ?_)
  generalize e34 : uR M29 a0 4 (some q28) = M33 at hw
  replace hq := hq M33 e34.symm
  have h0 : okc (gB g) M33 a0 3 := by rw [← e34]; exact okc_uR h0
  have h35 : 4 ≤ 4 ∧ 179 ≤ 179 := by decide
  exact r_vret C hr hlk hw dX3_init_41 h35.1 h35.2 ⟨rfl, hq⟩

set_option maxRecDepth 100000 in
def bd_X3_restartForm_2  (g : Gh) (M0 : Mem) (a0 : Nat) (post : Mem → Prop)  (bk2 : Int32 × Mem → Prop) (x1 : Int32)  (M : Mem) : Prop :=
  ((21 ≤ x1) → post M) ∧ (¬ (21 ≤ x1) → ∃ q2, mR M a0 1 = some q2 ∧ (okc (gB g) M0 q2 14 ∧ (vp_in x1 (mN M0 q2) ∧ (∀ M6, M6 = uI M q2 (Int32.toNatClampNeg x1) 0 → (∃ q8, mR M6 a0 0 = some q8 ∧ (okc (gB g) M0 q8 14 ∧ (vp_in x1 (mN M0 q8) ∧ (∀ M12, M12 = uI M6 q8 (Int32.toNatClampNeg x1) (1 <<< (x1 &&& 31)) → (bk2 ((x1 + 1), M12))))))))))
set_option maxRecDepth 100000 in
def wp_X3_restartForm  (g : Gh) (M0 : Mem) (a0 : Nat) (post : Mem → Prop) : Prop :=
  okc (gB g) M0 a0 3 ∧ ((∃ n : Nat, lfp (fun bk z => bd_X3_restartForm_2  g M0 a0 post  bk z.1 z.2) n (0, M0)))
set_option maxHeartbeats 4000000 in
set_option maxRecDepth 100000 in
theorem lp_X3_restartForm_2 {l : Launch} {g : Gh} {p : Program} {e : Env} {s : State} {m : MethodId} {args : Array Value} {below : List Frame} {meth : Method} {c : Code} {M0 : Mem} {a0 : Nat} {post : Mem → Prop}  (C : Cx g p s m args c cX3_restartForm 2 RX3) (hr : meth.sig.returnType = none) (hlk : meth.locks = false) (hn : meth.name = "restartForm") (h0 : okc (gB g) M0 a0 3)  : ∀ (nf : Nat) (x1 : Int32)  (M : Mem) (H : Heap) (locs : List Loc) (ls : Array Slot), lfp (fun bk z => bd_X3_restartForm_2  g M0 a0 post  bk z.1 z.2) nf (x1, M) → Wd g s M0 M H locs → lv_has ls 2 [(0, .ref a0), (1, .int x1)] → W p l e (rmo 0 0 0) s m args below meth c H locs 0 0 (MQ below (Cq g M0 (pV post)) args s 0 0 (gA g)) (F0 m 2 ls []) := by
  have hx := C.1.1
  have hb := C.1.2.1
  intro nf
  induction nf with
  | zero => intro _ _ H locs ls hq; exact hq.elim
  | succ nf hk2 =>
    intro x1 M H locs ls hq hw hl
    replace hq : bd_X3_restartForm_2  g M0 a0 post  (lfp (fun bk z => bd_X3_restartForm_2  g M0 a0 post  bk z.1 z.2) nf) x1 M := hq
    unfold bd_X3_restartForm_2 at hq
    refine lv_iload_n hx hb dX3_restartForm_2 rfl (lv_at hl 1 rfl) ?_
    refine lv_bipush (v := 21) hx hb dX3_restartForm_3 (by decide) ?_
    refine lv_icmp_ge (tgt := 30) hx hb dX3_restartForm_5 (by decide) (fun c1 => ?_) (fun c1 => ?_)
    · replace hq := hq.1 c1
      exact r_vret C hr hlk hw dX3_restartForm_30 (Nat.le_refl _) (Nat.le_refl _) ⟨rfl, hq⟩
    · replace hq := hq.2 c1
      refine lv_aload_n hx hb dX3_restartForm_8 rfl (lv_at hl 0 rfl) ?_
      obtain ⟨q2, e3, hq⟩ := hq
      refine gfX3_15 C hw hw.2.2.1 h0 e3 dX3_restartForm_9 ?_
      refine lv_iload_n hx hb dX3_restartForm_12 rfl (lv_at hl 1 rfl) ?_
      refine lv_iconst (v := 0) hx hb dX3_restartForm_13 (by decide) ?_
      obtain ⟨h4, hq⟩ := hq
      obtain ⟨h5, hq⟩ := hq
      refine q_iast C hw hw.2.2.1 h4 h5 dX3_restartForm_14 (fun H locs hw => ?_)
      generalize e7 : uI M q2 (Int32.toNatClampNeg x1) 0 = M6 at hw
      replace hq := hq M6 e7.symm
      have e3 : mR M6 a0 1 = some q2 := by rw [← e7, mR_uI]; exact e3
      refine lv_aload_n hx hb dX3_restartForm_15 rfl (lv_at hl 0 rfl) ?_
      obtain ⟨q8, e9, hq⟩ := hq
      refine gfX3_11 C hw hw.2.2.1 h0 e9 dX3_restartForm_16 ?_
      refine lv_iload_n hx hb dX3_restartForm_19 rfl (lv_at hl 1 rfl) ?_
      refine lv_iconst (v := 1) hx hb dX3_restartForm_20 (by decide) ?_
      refine lv_iload_n hx hb dX3_restartForm_21 rfl (lv_at hl 1 rfl) ?_
      refine lv_ishl hx hb dX3_restartForm_22 ?_
      obtain ⟨h10, hq⟩ := hq
      obtain ⟨h11, hq⟩ := hq
      refine q_iast C hw hw.2.2.1 h10 h11 dX3_restartForm_23 (fun H locs hw => ?_)
      generalize e13 : uI M6 q8 (Int32.toNatClampNeg x1) (1 <<< (x1 &&& 31)) = M12 at hw
      replace hq := hq M12 e13.symm
      have e3 : mR M12 a0 1 = some q2 := by rw [← e13, mR_uI]; exact e3
      have e9 : mR M12 a0 0 = some q8 := by rw [← e13, mR_uI]; exact e9
      refine lv_iinc (v := (x1 + 1)) (lv' := [(1, .int (x1 + 1)), (0, .ref a0)]) hx hb dX3_restartForm_24 hl (k := 1) rfl rfl (by decide) rfl (fun ls hl => ?_)
      refine lv_goto (tgt := 2) hx hb dX3_restartForm_27 (by decide) ?_
      exact hk2 _ _ _ _ _ hq hw (lv_sub hl [1, 0] rfl)
set_option maxHeartbeats 4000000 in
set_option maxRecDepth 100000 in
theorem ct_X3_restartForm {l : Launch} {g : Gh} {M0 : Mem} {a0 : Nat} {post : Mem → Prop}  (hq : wp_X3_restartForm  g M0 a0 post) : Ct l g yX3_restartForm cX3_restartForm 2 none 0 0 0 [.ref a0] M0 (pV post) := by
  unfold wp_X3_restartForm at hq
  obtain ⟨h0, hq⟩ := hq
  refine Ct.of (by decide) (Nat.le_of_ble_eq_true rfl) ?_
  intro p e s m below meth c ls C hr hlk hn hl hw
  have hx := C.1.1
  have hb := C.1.2.1
  have hl : lv_has ls 2 [(0, .ref a0)] := hl
  refine lv_iconst (v := 0) hx hb dX3_restartForm_0 (by decide) ?_
  refine lv_istore_n (lv' := [(1, .int 0), (0, .ref a0)]) hx hb dX3_restartForm_1 rfl hl (by decide) rfl (fun ls hl => ?_)
  obtain ⟨nf, hq⟩ := hq
  exact lp_X3_restartForm_2  C hr hlk hn h0  nf _ _ _ _ _ hq hw (lv_sub hl [1, 0] rfl)

set_option maxRecDepth 100000 in
def wp_X3_restart  (g : Gh) (M0 : Mem) (a0 : Nat) (post : Mem → Prop) : Prop :=
  okc (gB g) M0 a0 3 ∧ (∀ M1, M1 = uI M0 a0 3 0 → (wp_X3_restartForm g M1 a0 (fun M4 => post M4)))
set_option maxHeartbeats 4000000 in
set_option maxRecDepth 100000 in
theorem ct_X3_restart {l : Launch} {g : Gh} {M0 : Mem} {a0 : Nat} {post : Mem → Prop}  (hq : wp_X3_restart  g M0 a0 post) : Ct l g yX3_restart cX3_restart 1 none 1 0 0 [.ref a0] M0 (pV post) := by
  unfold wp_X3_restart at hq
  obtain ⟨h0, hq⟩ := hq
  refine Ct.of (by decide) (Nat.le_of_ble_eq_true rfl) ?_
  intro p e s m below meth c ls C hr hlk hn hl hw
  have hx := C.1.1
  have hb := C.1.2.1
  have hl : lv_has ls 1 [(0, .ref a0)] := hl
  refine lv_aload_n hx hb dX3_restart_0 rfl (lv_at hl 0 rfl) ?_
  refine lv_iconst (v := 0) hx hb dX3_restart_1 (by decide) ?_
  refine pfX3_23 C hw hw.2.2.1 h0 dX3_restart_2 (fun H locs hw => ?_)
  generalize e2 : uI M0 a0 3 0 = M1 at hw
  replace hq := hq M1 e2.symm
  refine lv_aload_n hx hb dX3_restart_5 rfl (lv_at hl 0 rfl) ?_
  refine r_callV (T := TX3) (N := 5) (ci := 3) (index := 30) (n := 0) (d2 := 0) (mc := 0) (ms := 0) (As := []) (rest := []) C hw (ct_X3_restartForm hq) kvX3_30 hq.1 (by decide) rfl ⟨by decide, by decide⟩ ⟨by decide, by decide⟩ rfl hl.1 rfl (Nat.le_of_ble_eq_true rfl) dX3_restart_6 (fun r M4 H locs hp hle hw => ?_)
  obtain ⟨rfl, hq⟩ := hp
  refine W.eq (g2 := F0 m 9 ls []) rfl ?_
  exact r_vret C hr hlk hw dX3_restart_9 (Nat.le_refl _) (Nat.le_refl _) ⟨rfl, hq⟩

set_option maxRecDepth 100000 in
def bd_X3_stepToken_2  (g : Gh) (M0 : Mem) (a0 : Nat) (p1 : Int32) (post : Mem → Prop)  (bk2 : Int32 × Mem → Prop) (x2 : Int32)  (M : Mem) : Prop :=
  ((21 ≤ x2) → post M) ∧ (¬ (21 ≤ x2) → ∃ q2, mR M a0 0 = some q2 ∧ (okc (gB g) M0 q2 14 ∧ (vp_in x2 (mN M0 q2) ∧ (∀ M6, M6 = uI M q2 (Int32.toNatClampNeg x2) (((mI M q2 (Int32.toNatClampNeg x2)) &&& p1) <<< (1 &&& 31)) → (bk2 ((x2 + 1), M6))))))
set_option maxRecDepth 100000 in
def wp_X3_stepToken  (g : Gh) (M0 : Mem) (a0 : Nat) (p1 : Int32) (post : Mem → Prop) : Prop :=
  okc (gB g) M0 a0 3 ∧ ((∃ n : Nat, lfp (fun bk z => bd_X3_stepToken_2  g M0 a0 p1 post  bk z.1 z.2) n (0, M0)))
set_option maxHeartbeats 4000000 in
set_option maxRecDepth 100000 in
theorem lp_X3_stepToken_2 {l : Launch} {g : Gh} {p : Program} {e : Env} {s : State} {m : MethodId} {args : Array Value} {below : List Frame} {meth : Method} {c : Code} {M0 : Mem} {a0 : Nat} {p1 : Int32} {post : Mem → Prop}  (C : Cx g p s m args c cX3_stepToken 3 RX3) (hr : meth.sig.returnType = none) (hlk : meth.locks = false) (hn : meth.name = "stepToken") (h0 : okc (gB g) M0 a0 3)  : ∀ (nf : Nat) (x2 : Int32)  (M : Mem) (H : Heap) (locs : List Loc) (ls : Array Slot), lfp (fun bk z => bd_X3_stepToken_2  g M0 a0 p1 post  bk z.1 z.2) nf (x2, M) → Wd g s M0 M H locs → lv_has ls 3 [(0, .ref a0), (1, .int p1), (2, .int x2)] → W p l e (rmo 0 0 0) s m args below meth c H locs 0 0 (MQ below (Cq g M0 (pV post)) args s 0 0 (gA g)) (F0 m 2 ls []) := by
  have hx := C.1.1
  have hb := C.1.2.1
  intro nf
  induction nf with
  | zero => intro _ _ H locs ls hq; exact hq.elim
  | succ nf hk2 =>
    intro x2 M H locs ls hq hw hl
    replace hq : bd_X3_stepToken_2  g M0 a0 p1 post  (lfp (fun bk z => bd_X3_stepToken_2  g M0 a0 p1 post  bk z.1 z.2) nf) x2 M := hq
    unfold bd_X3_stepToken_2 at hq
    refine lv_iload_n hx hb dX3_stepToken_2 rfl (lv_at hl 2 rfl) ?_
    refine lv_bipush (v := 21) hx hb dX3_stepToken_3 (by decide) ?_
    refine lv_icmp_ge (tgt := 30) hx hb dX3_stepToken_5 (by decide) (fun c1 => ?_) (fun c1 => ?_)
    · replace hq := hq.1 c1
      exact r_vret C hr hlk hw dX3_stepToken_30 (Nat.le_refl _) (Nat.le_refl _) ⟨rfl, hq⟩
    · replace hq := hq.2 c1
      refine lv_aload_n hx hb dX3_stepToken_8 rfl (lv_at hl 0 rfl) ?_
      obtain ⟨q2, e3, hq⟩ := hq
      refine gfX3_11 C hw hw.2.2.1 h0 e3 dX3_stepToken_9 ?_
      refine lv_iload_n hx hb dX3_stepToken_12 rfl (lv_at hl 2 rfl) ?_
      refine lv_aload_n hx hb dX3_stepToken_13 rfl (lv_at hl 0 rfl) ?_
      refine gfX3_11 C hw hw.2.2.1 h0 e3 dX3_stepToken_14 ?_
      refine lv_iload_n hx hb dX3_stepToken_17 rfl (lv_at hl 2 rfl) ?_
      obtain ⟨h4, hq⟩ := hq
      obtain ⟨h5, hq⟩ := hq
      refine q_iald C hw hw.2.2.1 h4 h5 dX3_stepToken_18 ?_
      refine lv_iload_n hx hb dX3_stepToken_19 rfl (lv_at hl 1 rfl) ?_
      refine lv_iand hx hb dX3_stepToken_20 ?_
      refine lv_iconst (v := 1) hx hb dX3_stepToken_21 (by decide) ?_
      refine lv_ishl hx hb dX3_stepToken_22 ?_
      refine q_iast C hw hw.2.2.1 h4 h5 dX3_stepToken_23 (fun H locs hw => ?_)
      generalize e7 : uI M q2 (Int32.toNatClampNeg x2) (((mI M q2 (Int32.toNatClampNeg x2)) &&& p1) <<< (1 &&& 31)) = M6 at hw
      replace hq := hq M6 e7.symm
      have e3 : mR M6 a0 0 = some q2 := by rw [← e7, mR_uI]; exact e3
      refine lv_iinc (v := (x2 + 1)) (lv' := [(2, .int (x2 + 1)), (0, .ref a0), (1, .int p1)]) hx hb dX3_stepToken_24 hl (k := 2) rfl rfl (by decide) rfl (fun ls hl => ?_)
      refine lv_goto (tgt := 2) hx hb dX3_stepToken_27 (by decide) ?_
      exact hk2 _ _ _ _ _ hq hw (lv_sub hl [1, 2, 0] rfl)
set_option maxHeartbeats 4000000 in
set_option maxRecDepth 100000 in
theorem ct_X3_stepToken {l : Launch} {g : Gh} {M0 : Mem} {a0 : Nat} {p1 : Int32} {post : Mem → Prop}  (hq : wp_X3_stepToken  g M0 a0 p1 post) : Ct l g yX3_stepToken cX3_stepToken 3 none 0 0 0 [.ref a0, .int p1] M0 (pV post) := by
  unfold wp_X3_stepToken at hq
  obtain ⟨h0, hq⟩ := hq
  refine Ct.of (by decide) (Nat.le_of_ble_eq_true rfl) ?_
  intro p e s m below meth c ls C hr hlk hn hl hw
  have hx := C.1.1
  have hb := C.1.2.1
  have hl : lv_has ls 3 [(0, .ref a0), (1, .int p1)] := hl
  refine lv_iconst (v := 0) hx hb dX3_stepToken_0 (by decide) ?_
  refine lv_istore_n (lv' := [(2, .int 0), (0, .ref a0), (1, .int p1)]) hx hb dX3_stepToken_1 rfl hl (by decide) rfl (fun ls hl => ?_)
  obtain ⟨nf, hq⟩ := hq
  exact lp_X3_stepToken_2  C hr hlk hn h0  nf _ _ _ _ _ hq hw (lv_sub hl [1, 2, 0] rfl)

set_option maxRecDepth 100000 in
def lb_X3_endsBehind_57  (g : Gh) (M0 : Mem) (p0 : Int32) (a1 : Nat) (p2 : Int32) (post : Int32 → Mem → Prop) (bk5 : Int32 × Int32 × Mem → Prop) (x3 : Int32) (x4 : Int32)  (M : Mem) : Prop :=
  bk5 (x3, x4, M)
set_option maxRecDepth 100000 in
def bd_X3_endsBehind_5  (g : Gh) (M0 : Mem) (p0 : Int32) (a1 : Nat) (p2 : Int32) (post : Int32 → Mem → Prop)  (bk5 : Int32 × Int32 × Mem → Prop) (x3 : Int32) (x4 : Int32)  (M : Mem) : Prop :=
  ((21 ≤ x4) → post x3 M) ∧ (¬ (21 ≤ x4) → (((p0 >>> (x4 &&& 31)) = 0) → post x3 M) ∧ (¬ ((p0 >>> (x4 &&& 31)) = 0) → ((((p0 >>> (x4 &&& 31)) &&& 1) = 1) → (((p2 + x4) < 0) → lb_X3_endsBehind_57  g M0 p0 a1 p2 post bk5 x3 (x4 + 1) M) ∧ (¬ ((p2 + x4) < 0) → okc (gB g) M0 a1 14 ∧ ((((nI (mN M0 a1)) ≤ (p2 + x4)) → lb_X3_endsBehind_57  g M0 p0 a1 p2 post bk5 x3 (x4 + 1) M) ∧ (¬ ((nI (mN M0 a1)) ≤ (p2 + x4)) → vp_in (p2 + x4) (mN M0 a1) ∧ (lb_X3_endsBehind_57  g M0 p0 a1 p2 post bk5 (x3 ||| (mI M a1 (Int32.toNatClampNeg (p2 + x4)))) (x4 + 1) M))))) ∧ (¬ (((p0 >>> (x4 &&& 31)) &&& 1) = 1) → lb_X3_endsBehind_57  g M0 p0 a1 p2 post bk5 x3 (x4 + 1) M)))
set_option maxRecDepth 100000 in
def wp_X3_endsBehind  (g : Gh) (M0 : Mem) (p0 : Int32) (a1 : Nat) (p2 : Int32) (post : Int32 → Mem → Prop) : Prop :=
  (∃ n : Nat, lfp (fun bk z => bd_X3_endsBehind_5  g M0 p0 a1 p2 post  bk z.1 z.2.1 z.2.2) n (0, 0, M0))
set_option maxHeartbeats 4000000 in
set_option maxRecDepth 100000 in
theorem lt_X3_endsBehind_57 {l : Launch} {g : Gh} {p : Program} {e : Env} {s : State} {m : MethodId} {args : Array Value} {below : List Frame} {meth : Method} {c : Code} {H : Heap} {locs : List Loc} {ls : Array Slot} {M0 M : Mem} {p0 : Int32} {a1 : Nat} {p2 : Int32} {post : Int32 → Mem → Prop} {x3 : Int32} {x4 : Int32}   (C : Cx g p s m args c cX3_endsBehind 6 RX3) (hr : meth.sig.returnType = (some .int)) (hlk : meth.locks = false) (hn : meth.name = "endsBehind")  {bk5 : Int32 × Int32 × Mem → Prop} (hk5 : ∀ (x3 : Int32) (x4 : Int32) (M : Mem) (H : Heap) (locs : List Loc) (ls : Array Slot), bk5 (x3, x4, M) → Wd g s M0 M H locs → lv_has ls 6 [(0, .int p0), (1, .ref a1), (2, .int p2), (3, .int x3), (4, .int x4)] → W p l e (rmo 0 0 0) s m args below meth c H locs 0 0 (MQ below (Cq g M0 (pI post)) args s 0 0 (gA g)) (F0 m 5 ls [])) (hq : lb_X3_endsBehind_57  g M0 p0 a1 p2 post bk5 x3 x4 M) (hw : Wd g s M0 M H locs) (hl : lv_has ls 6 [(0, .int p0), (1, .ref a1), (2, .int p2), (3, .int x3), (4, .int x4)]) : W p l e (rmo 0 0 0) s m args below meth c H locs 0 0 (MQ below (Cq g M0 (pI post)) args s 0 0 (gA g)) (F0 m 57 ls []) := by
  have hx := C.1.1
  have hb := C.1.2.1
  unfold lb_X3_endsBehind_57 at hq
  refine lv_goto (tgt := 5) hx hb dX3_endsBehind_57 (by decide) ?_
  exact hk5 _ _ _ _ _ _ hq hw (lv_sub hl [0, 1, 2, 3, 4] rfl)
set_option maxHeartbeats 4000000 in
set_option maxRecDepth 100000 in
theorem lp_X3_endsBehind_5 {l : Launch} {g : Gh} {p : Program} {e : Env} {s : State} {m : MethodId} {args : Array Value} {below : List Frame} {meth : Method} {c : Code} {M0 : Mem} {p0 : Int32} {a1 : Nat} {p2 : Int32} {post : Int32 → Mem → Prop}  (C : Cx g p s m args c cX3_endsBehind 6 RX3) (hr : meth.sig.returnType = (some .int)) (hlk : meth.locks = false) (hn : meth.name = "endsBehind")   : ∀ (nf : Nat) (x3 : Int32) (x4 : Int32)  (M : Mem) (H : Heap) (locs : List Loc) (ls : Array Slot), lfp (fun bk z => bd_X3_endsBehind_5  g M0 p0 a1 p2 post  bk z.1 z.2.1 z.2.2) nf (x3, x4, M) → Wd g s M0 M H locs → lv_has ls 6 [(0, .int p0), (1, .ref a1), (2, .int p2), (3, .int x3), (4, .int x4)] → W p l e (rmo 0 0 0) s m args below meth c H locs 0 0 (MQ below (Cq g M0 (pI post)) args s 0 0 (gA g)) (F0 m 5 ls []) := by
  have hx := C.1.1
  have hb := C.1.2.1
  intro nf
  induction nf with
  | zero => intro _ _ _ H locs ls hq; exact hq.elim
  | succ nf hk5 =>
    intro x3 x4 M H locs ls hq hw hl
    replace hq : bd_X3_endsBehind_5  g M0 p0 a1 p2 post  (lfp (fun bk z => bd_X3_endsBehind_5  g M0 p0 a1 p2 post  bk z.1 z.2.1 z.2.2) nf) x3 x4 M := hq
    unfold bd_X3_endsBehind_5 at hq
    refine lv_iload hx hb dX3_endsBehind_5 (lv_at hl 4 rfl) ?_
    refine lv_bipush (v := 21) hx hb dX3_endsBehind_7 (by decide) ?_
    refine lv_icmp_ge (tgt := 60) hx hb dX3_endsBehind_9 (by decide) (fun c1 => ?_) (fun c1 => ?_)
    · replace hq := hq.1 c1
      refine lv_iload_n hx hb dX3_endsBehind_60 rfl (lv_at hl 3 rfl) ?_
      exact r_iret C hr hlk hw dX3_endsBehind_61 (Nat.le_refl _) (Nat.le_refl _) ⟨_, rfl, hq⟩
    · replace hq := hq.2 c1
      refine lv_iload_n hx hb dX3_endsBehind_12 rfl (lv_at hl 0 rfl) ?_
      refine lv_iload hx hb dX3_endsBehind_13 (lv_at hl 4 rfl) ?_
      refine lv_ishr hx hb dX3_endsBehind_15 ?_
      refine lv_if_eq (tgt := 60) hx hb dX3_endsBehind_16 (by decide) (fun c2 => ?_) (fun c2 => ?_)
      · replace hq := hq.1 c2
        refine lv_iload_n hx hb dX3_endsBehind_60 rfl (lv_at hl 3 rfl) ?_
        exact r_iret C hr hlk hw dX3_endsBehind_61 (Nat.le_refl _) (Nat.le_refl _) ⟨_, rfl, hq⟩
      · replace hq := hq.2 c2
        refine lv_iload_n hx hb dX3_endsBehind_19 rfl (lv_at hl 2 rfl) ?_
        refine lv_iload hx hb dX3_endsBehind_20 (lv_at hl 4 rfl) ?_
        refine lv_iadd hx hb dX3_endsBehind_22 ?_
        refine lv_istore (lv' := [(5, .int (p2 + x4)), (0, .int p0), (1, .ref a1), (2, .int p2), (3, .int x3), (4, .int x4)]) hx hb dX3_endsBehind_23 hl (by decide) rfl (fun ls hl => ?_)
        refine lv_iload_n hx hb dX3_endsBehind_25 rfl (lv_at hl 1 rfl) ?_
        refine lv_iload hx hb dX3_endsBehind_26 (lv_at hl 5 rfl) ?_
        refine lv_ishr hx hb dX3_endsBehind_28 ?_
        refine lv_iconst (v := 1) hx hb dX3_endsBehind_29 (by decide) ?_
        refine lv_iand hx hb dX3_endsBehind_30 ?_
        refine lv_iconst (v := 1) hx hb dX3_endsBehind_31 (by decide) ?_
        refine lv_icmp_ne (tgt := 54) hx hb dX3_endsBehind_32 (by decide) (fun c3 => ?_) (fun c3 => ?_)
        · replace hq := hq.2 c3
          refine lv_iinc (v := (x4 + 1)) (lv' := [(4, .int (x4 + 1)), (5, .int (p2 + x4)), (0, .int p0), (1, .ref a1), (2, .int p2), (3, .int x3)]) hx hb dX3_endsBehind_54 hl (k := 5) rfl rfl (by decide) rfl (fun ls hl => ?_)
          exact lt_X3_endsBehind_57  C hr hlk hn hk5 hq hw (lv_sub hl [2, 3, 4, 5, 0] rfl)
        · replace hq := hq.1 c3
          refine lv_iload hx hb dX3_endsBehind_35 (lv_at hl 0 rfl) ?_
          refine lv_if_lt (tgt := 54) hx hb dX3_endsBehind_37 (by decide) (fun c4 => ?_) (fun c4 => ?_)
          · replace hq := hq.1 c4
            refine lv_iinc (v := (x4 + 1)) (lv' := [(4, .int (x4 + 1)), (5, .int (p2 + x4)), (0, .int p0), (1, .ref a1), (2, .int p2), (3, .int x3)]) hx hb dX3_endsBehind_54 hl (k := 5) rfl rfl (by decide) rfl (fun ls hl => ?_)
            exact lt_X3_endsBehind_57  C hr hlk hn hk5 hq hw (lv_sub hl [2, 3, 4, 5, 0] rfl)
          · replace hq := hq.2 c4
            refine lv_iload hx hb dX3_endsBehind_40 (lv_at hl 0 rfl) ?_
            refine lv_aload_n hx hb dX3_endsBehind_42 rfl (lv_at hl 2 rfl) ?_
            obtain ⟨h5, hq⟩ := hq
            refine q_alen C hw hw.2.2.1 h5 (by decide) (by decide) rfl dX3_endsBehind_43 ?_
            refine lv_icmp_ge (tgt := 54) hx hb dX3_endsBehind_44 (by decide) (fun c6 => ?_) (fun c6 => ?_)
            · replace hq := hq.1 c6
              refine lv_iinc (v := (x4 + 1)) (lv' := [(4, .int (x4 + 1)), (5, .int (p2 + x4)), (0, .int p0), (1, .ref a1), (2, .int p2), (3, .int x3)]) hx hb dX3_endsBehind_54 hl (k := 5) rfl rfl (by decide) rfl (fun ls hl => ?_)
              exact lt_X3_endsBehind_57  C hr hlk hn hk5 hq hw (lv_sub hl [2, 3, 4, 5, 0] rfl)
            · replace hq := hq.2 c6
              refine lv_iload_n hx hb dX3_endsBehind_47 rfl (lv_at hl 4 rfl) ?_
              refine lv_aload_n hx hb dX3_endsBehind_48 rfl (lv_at hl 2 rfl) ?_
              refine lv_iload hx hb dX3_endsBehind_49 (lv_at hl 0 rfl) ?_
              obtain ⟨h7, hq⟩ := hq
              refine q_iald C hw hw.2.2.1 h5 h7 dX3_endsBehind_51 ?_
              refine lv_ior hx hb dX3_endsBehind_52 ?_
              refine lv_istore_n (lv' := [(3, .int (x3 ||| (mI M a1 (Int32.toNatClampNeg (p2 + x4))))), (5, .int (p2 + x4)), (0, .int p0), (1, .ref a1), (2, .int p2), (4, .int x4)]) hx hb dX3_endsBehind_53 rfl hl (by decide) rfl (fun ls hl => ?_)
              refine lv_iinc (v := (x4 + 1)) (lv' := [(4, .int (x4 + 1)), (3, .int (x3 ||| (mI M a1 (Int32.toNatClampNeg (p2 + x4))))), (5, .int (p2 + x4)), (0, .int p0), (1, .ref a1), (2, .int p2)]) hx hb dX3_endsBehind_54 hl (k := 5) rfl rfl (by decide) rfl (fun ls hl => ?_)
              exact lt_X3_endsBehind_57  C hr hlk hn hk5 hq hw (lv_sub hl [3, 4, 5, 1, 0] rfl)
set_option maxHeartbeats 4000000 in
set_option maxRecDepth 100000 in
theorem ct_X3_endsBehind {l : Launch} {g : Gh} {M0 : Mem} {p0 : Int32} {a1 : Nat} {p2 : Int32} {post : Int32 → Mem → Prop}  (hq : wp_X3_endsBehind  g M0 p0 a1 p2 post) : Ct l g yX3_endsBehind cX3_endsBehind 6 (some .int) 0 0 0 [.int p0, .ref a1, .int p2] M0 (pI post) := by
  unfold wp_X3_endsBehind at hq
  refine Ct.of (by decide) (Nat.le_of_ble_eq_true rfl) ?_
  intro p e s m below meth c ls C hr hlk hn hl hw
  have hx := C.1.1
  have hb := C.1.2.1
  have hl : lv_has ls 6 [(0, .int p0), (1, .ref a1), (2, .int p2)] := hl
  refine lv_iconst (v := 0) hx hb dX3_endsBehind_0 (by decide) ?_
  refine lv_istore_n (lv' := [(3, .int 0), (0, .int p0), (1, .ref a1), (2, .int p2)]) hx hb dX3_endsBehind_1 rfl hl (by decide) rfl (fun ls hl => ?_)
  refine lv_iconst (v := 0) hx hb dX3_endsBehind_2 (by decide) ?_
  refine lv_istore (lv' := [(4, .int 0), (3, .int 0), (0, .int p0), (1, .ref a1), (2, .int p2)]) hx hb dX3_endsBehind_3 hl (by decide) rfl (fun ls hl => ?_)
  obtain ⟨nf, hq⟩ := hq
  exact lp_X3_endsBehind_5  C hr hlk hn  nf _ _ _ _ _ _ hq hw (lv_sub hl [2, 3, 4, 1, 0] rfl)
