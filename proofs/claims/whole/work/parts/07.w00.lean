set_option maxRecDepth 100000 in
def wp_X0_init  (g : Gh) (M0 : Mem) (a0 : Nat) (post : Mem → Prop) : Prop :=
  okc (gB g) M0 a0 0 ∧ (post M0)
set_option maxHeartbeats 4000000 in
set_option maxRecDepth 100000 in
theorem ct_X0_init {l : Launch} {g : Gh} {M0 : Mem} {a0 : Nat} {post : Mem → Prop}  (hq : wp_X0_init  g M0 a0 post) : Ct l g yX0_init cX0_init 1 none 1 0 0 [.ref a0] M0 (pV post) := by
  unfold wp_X0_init at hq
  obtain ⟨h0, hq⟩ := hq
  refine Ct.of (by decide) (Nat.le_of_ble_eq_true rfl) ?_
  intro p e s m below meth c ls C hr hlk hn hl hw
  have hx := C.1.1
  have hb := C.1.2.1
  have hl : lv_has ls 1 [(0, .ref a0)] := hl
  refine lv_aload_n hx hb dX0_init_0 rfl (lv_at hl 0 rfl) ?_
  refine W.objInit hx hb C.1.2.2.2.1 (C.1.2.2.2.2 _ w_274) (C.1.2.2.2.2 _ w_35) (C.1.2.2.2.2 _ w_objInit) rfl (by rw [C.1.2.2.1]; exact hl.1) rfl dX0_init_1 (Nat.le_of_ble_eq_true rfl) (Nat.le_of_ble_eq_true rfl) ?_
  refine W.eq (g2 := F0 m 4 ls []) rfl ?_
  exact r_vret C hr hlk hw dX0_init_4 (Nat.le_refl _) (Nat.le_refl _) ⟨rfl, hq⟩

set_option maxRecDepth 100000 in
def wp_X0_tell  (g : Gh) (M0 : Mem) (a0 : Nat) (p1 : Int32) (post : Int32 → Mem → Prop) : Prop :=
  okc (gB g) M0 a0 0 ∧ (((p1 = 0) → post (mI M0 a0 0) M0) ∧ ((p1 = 1) → post (mI M0 a0 1) M0) ∧ ((p1 = 2) → post (mI M0 a0 2) M0) ∧ ((p1 = 3) → (((mI M0 a0 3) = 0) → post 0 M0) ∧ (¬ ((mI M0 a0 3) = 0) → post 1 M0)) ∧ ((p1 = 4) → (((mI M0 a0 4) = 0) → post 0 M0) ∧ (¬ ((mI M0 a0 4) = 0) → post 1 M0)) ∧ ((p1 = 5) → post (mI M0 a0 5) M0) ∧ ((¬ (p1 = 0) ∧ ¬ (p1 = 1) ∧ ¬ (p1 = 2) ∧ ¬ (p1 = 3) ∧ ¬ (p1 = 4) ∧ ¬ (p1 = 5)) → post (-1) M0))
set_option maxHeartbeats 4000000 in
set_option maxRecDepth 100000 in
theorem ct_X0_tell {l : Launch} {g : Gh} {M0 : Mem} {a0 : Nat} {p1 : Int32} {post : Int32 → Mem → Prop}  (hq : wp_X0_tell  g M0 a0 p1 post) : Ct l g yX0_tell cX0_tell 2 (some .int) 0 0 0 [.ref a0, .int p1] M0 (pI post) := by
  unfold wp_X0_tell at hq
  obtain ⟨h0, hq⟩ := hq
  refine Ct.of (by decide) (Nat.le_of_ble_eq_true rfl) ?_
  intro p e s m below meth c ls C hr hlk hn hl hw
  have hx := C.1.1
  have hb := C.1.2.1
  have hl : lv_has ls 2 [(0, .ref a0), (1, .int p1)] := hl
  refine lv_iload_n hx hb dX0_tell_0 rfl (lv_at hl 1 rfl) ?_
  by_cases c4 : p1 = 0
  · refine r_table (v := 0) (off := 39) (tgt := 40) hx hb dX0_tell_1 c4 (by decide) (by decide) rfl (by decide) ?_
    replace hq := hq.1 c4
    refine lv_aload_n hx hb dX0_tell_40 rfl (lv_at hl 0 rfl) ?_
    refine gfX0_9 C hw hw.2.2.1 h0 dX0_tell_41 ?_
    exact r_iret C hr hlk hw dX0_tell_44 (Nat.le_refl _) (Nat.le_refl _) ⟨_, rfl, hq⟩
  by_cases c5 : p1 = 1
  · refine r_table (v := 1) (off := 44) (tgt := 45) hx hb dX0_tell_1 c5 (by decide) (by decide) rfl (by decide) ?_
    replace hq := hq.2.1 c5
    refine lv_aload_n hx hb dX0_tell_45 rfl (lv_at hl 0 rfl) ?_
    refine gfX0_15 C hw hw.2.2.1 h0 dX0_tell_46 ?_
    exact r_iret C hr hlk hw dX0_tell_49 (Nat.le_refl _) (Nat.le_refl _) ⟨_, rfl, hq⟩
  by_cases c6 : p1 = 2
  · refine r_table (v := 2) (off := 49) (tgt := 50) hx hb dX0_tell_1 c6 (by decide) (by decide) rfl (by decide) ?_
    replace hq := hq.2.2.1 c6
    refine lv_aload_n hx hb dX0_tell_50 rfl (lv_at hl 0 rfl) ?_
    refine gfX0_18 C hw hw.2.2.1 h0 dX0_tell_51 ?_
    exact r_iret C hr hlk hw dX0_tell_54 (Nat.le_refl _) (Nat.le_refl _) ⟨_, rfl, hq⟩
  by_cases c7 : p1 = 3
  · refine r_table (v := 3) (off := 54) (tgt := 55) hx hb dX0_tell_1 c7 (by decide) (by decide) rfl (by decide) ?_
    replace hq := hq.2.2.2.1 c7
    refine lv_aload_n hx hb dX0_tell_55 rfl (lv_at hl 0 rfl) ?_
    refine gfX0_21 C hw hw.2.2.1 h0 dX0_tell_56 ?_
    refine lv_if_eq (tgt := 66) hx hb dX0_tell_59 (by decide) (fun c2 => ?_) (fun c2 => ?_)
    · replace hq := hq.1 c2
      refine lv_iconst (v := 0) hx hb dX0_tell_66 (by decide) ?_
      exact r_iret C hr hlk hw dX0_tell_67 (Nat.le_refl _) (Nat.le_refl _) ⟨_, rfl, hq⟩
    · replace hq := hq.2 c2
      refine lv_iconst (v := 1) hx hb dX0_tell_62 (by decide) ?_
      refine lv_goto (tgt := 67) hx hb dX0_tell_63 (by decide) ?_
      exact r_iret C hr hlk hw dX0_tell_67 (Nat.le_refl _) (Nat.le_refl _) ⟨_, rfl, hq⟩
  by_cases c8 : p1 = 4
  · refine r_table (v := 4) (off := 67) (tgt := 68) hx hb dX0_tell_1 c8 (by decide) (by decide) rfl (by decide) ?_
    replace hq := hq.2.2.2.2.1 c8
    refine lv_aload_n hx hb dX0_tell_68 rfl (lv_at hl 0 rfl) ?_
    refine gfX0_25 C hw hw.2.2.1 h0 dX0_tell_69 ?_
    refine lv_if_eq (tgt := 79) hx hb dX0_tell_72 (by decide) (fun c3 => ?_) (fun c3 => ?_)
    · replace hq := hq.1 c3
      refine lv_iconst (v := 0) hx hb dX0_tell_79 (by decide) ?_
      exact r_iret C hr hlk hw dX0_tell_80 (Nat.le_refl _) (Nat.le_refl _) ⟨_, rfl, hq⟩
    · replace hq := hq.2 c3
      refine lv_iconst (v := 1) hx hb dX0_tell_75 (by decide) ?_
      refine lv_goto (tgt := 80) hx hb dX0_tell_76 (by decide) ?_
      exact r_iret C hr hlk hw dX0_tell_80 (Nat.le_refl _) (Nat.le_refl _) ⟨_, rfl, hq⟩
  by_cases c9 : p1 = 5
  · refine r_table (v := 5) (off := 80) (tgt := 81) hx hb dX0_tell_1 c9 (by decide) (by decide) rfl (by decide) ?_
    replace hq := hq.2.2.2.2.2.1 c9
    refine lv_aload_n hx hb dX0_tell_81 rfl (lv_at hl 0 rfl) ?_
    refine gfX0_28 C hw hw.2.2.1 h0 dX0_tell_82 ?_
    exact r_iret C hr hlk hw dX0_tell_85 (Nat.le_refl _) (Nat.le_refl _) ⟨_, rfl, hq⟩
  refine r_tableOut (tgt := 86) (k := 5) hx hb dX0_tell_1 (by decide) (fun j hj => by rcases (show j = 0 ∨ j = 1 ∨ j = 2 ∨ j = 3 ∨ j = 4 ∨ j = 5 by omega) with rfl | rfl | rfl | rfl | rfl | rfl <;> assumption) (by decide) ?_
  replace hq := hq.2.2.2.2.2.2 ⟨c4, c5, c6, c7, c8, c9⟩
  refine lv_iconst (v := (-1)) hx hb dX0_tell_86 (by decide) ?_
  exact r_iret C hr hlk hw dX0_tell_87 (Nat.le_refl _) (Nat.le_refl _) ⟨_, rfl, hq⟩

set_option maxRecDepth 100000 in
def wp_X1_init  (g : Gh) (M0 : Mem) (a0 : Nat) (a1 : Nat) (a2 : Nat) (a3 : Nat) (post : Mem → Prop) : Prop :=
  okc (gB g) M0 a0 1 ∧ (∀ M1, M1 = uR M0 a0 0 (some a1) → (∀ M3, M3 = uR M1 a0 1 (some a2) → (∀ M5, M5 = uR M3 a0 2 (some a3) → (post M5))))
set_option maxHeartbeats 4000000 in
set_option maxRecDepth 100000 in
theorem ct_X1_init {l : Launch} {g : Gh} {M0 : Mem} {a0 : Nat} {a1 : Nat} {a2 : Nat} {a3 : Nat} {post : Mem → Prop}  (hq : wp_X1_init  g M0 a0 a1 a2 a3 post) : Ct l g yX1_init cX1_init 4 none 1 0 0 [.ref a0, .ref a1, .ref a2, .ref a3] M0 (pV post) := by
  unfold wp_X1_init at hq
  obtain ⟨h0, hq⟩ := hq
  refine Ct.of (by decide) (Nat.le_of_ble_eq_true rfl) ?_
  intro p e s m below meth c ls C hr hlk hn hl hw
  have hx := C.1.1
  have hb := C.1.2.1
  have hl : lv_has ls 4 [(0, .ref a0), (1, .ref a1), (2, .ref a2), (3, .ref a3)] := hl
  refine lv_aload_n hx hb dX1_init_0 rfl (lv_at hl 0 rfl) ?_
  refine W.objInit hx hb C.1.2.2.2.1 (C.1.2.2.2.2 _ w_605) (C.1.2.2.2.2 _ w_35) (C.1.2.2.2.2 _ w_objInit) rfl (by rw [C.1.2.2.1]; exact hl.1) rfl dX1_init_1 (Nat.le_of_ble_eq_true rfl) (Nat.le_of_ble_eq_true rfl) ?_
  refine W.eq (g2 := F0 m 4 ls []) rfl ?_
  refine lv_aload_n hx hb dX1_init_4 rfl (lv_at hl 0 rfl) ?_
  refine lv_aload_n hx hb dX1_init_5 rfl (lv_at hl 1 rfl) ?_
  refine pfX1_7 (v := (some a1)) C hw hw.2.2.1 h0 hn dX1_init_6 (fun H locs hw => ?_)
  generalize e2 : uR M0 a0 0 (some a1) = M1 at hw
  replace hq := hq M1 e2.symm
  refine lv_aload_n hx hb dX1_init_9 rfl (lv_at hl 0 rfl) ?_
  refine lv_aload_n hx hb dX1_init_10 rfl (lv_at hl 2 rfl) ?_
  refine pfX1_13 (v := (some a2)) C hw hw.2.2.1 h0 hn dX1_init_11 (fun H locs hw => ?_)
  generalize e4 : uR M1 a0 1 (some a2) = M3 at hw
  replace hq := hq M3 e4.symm
  refine lv_aload_n hx hb dX1_init_14 rfl (lv_at hl 0 rfl) ?_
  refine lv_aload_n hx hb dX1_init_15 rfl (lv_at hl 3 rfl) ?_
  refine pfX1_17 (v := (some a3)) C hw hw.2.2.1 h0 hn dX1_init_16 (fun H locs hw => ?_)
  generalize e6 : uR M3 a0 2 (some a3) = M5 at hw
  replace hq := hq M5 e6.symm
  exact r_vret C hr hlk hw dX1_init_19 (Nat.le_refl _) (Nat.le_refl _) ⟨rfl, hq⟩

set_option maxRecDepth 100000 in
def wp_X1_size  (g : Gh) (M0 : Mem) (a0 : Nat) (post : Int32 → Mem → Prop) : Prop :=
  okc (gB g) M0 a0 1 ∧ (∃ q1, mR M0 a0 0 = some q1 ∧ (okc (gB g) M0 q1 13 ∧ (∃ q4, mR M0 a0 1 = some q4 ∧ (okc (gB g) M0 q4 15 ∧ (∃ q7, mR M0 a0 2 = some q7 ∧ (okc (gB g) M0 q7 15 ∧ (post (if (if (nI (mN M0 q7)) < (nI (mN M0 q4)) then (nI (mN M0 q7)) else (nI (mN M0 q4))) < (nI (mN M0 q1)) then (if (nI (mN M0 q7)) < (nI (mN M0 q4)) then (nI (mN M0 q7)) else (nI (mN M0 q4))) else (nI (mN M0 q1))) M0)))))))
set_option maxHeartbeats 4000000 in
set_option maxRecDepth 100000 in
theorem ct_X1_size {l : Launch} {g : Gh} {M0 : Mem} {a0 : Nat} {post : Int32 → Mem → Prop}  (hq : wp_X1_size  g M0 a0 post) : Ct l g yX1_size cX1_size 1 (some .int) 1 0 0 [.ref a0] M0 (pI post) := by
  unfold wp_X1_size at hq
  obtain ⟨h0, hq⟩ := hq
  refine Ct.of (by decide) (Nat.le_of_ble_eq_true rfl) ?_
  intro p e s m below meth c ls C hr hlk hn hl hw
  have hx := C.1.1
  have hb := C.1.2.1
  have hl : lv_has ls 1 [(0, .ref a0)] := hl
  refine lv_aload_n hx hb dX1_size_0 rfl (lv_at hl 0 rfl) ?_
  obtain ⟨q1, e2, hq⟩ := hq
  refine gfX1_7 C hw hw.2.2.1 h0 e2 dX1_size_1 ?_
  obtain ⟨h3, hq⟩ := hq
  refine q_alen C hw hw.2.2.1 h3 (by decide) (by decide) rfl dX1_size_4 ?_
  refine lv_aload_n hx hb dX1_size_5 rfl (lv_at hl 0 rfl) ?_
  obtain ⟨q4, e5, hq⟩ := hq
  refine gfX1_13 C hw hw.2.2.1 h0 e5 dX1_size_6 ?_
  obtain ⟨h6, hq⟩ := hq
  refine q_alen C hw hw.2.2.1 h6 (by decide) (by decide) rfl dX1_size_9 ?_
  refine lv_aload_n hx hb dX1_size_10 rfl (lv_at hl 0 rfl) ?_
  obtain ⟨q7, e8, hq⟩ := hq
  refine gfX1_17 C hw hw.2.2.1 h0 e8 dX1_size_11 ?_
  obtain ⟨h9, hq⟩ := hq
  refine q_alen C hw hw.2.2.1 h9 (by decide) (by decide) rfl dX1_size_14 ?_
  refine va_mmin hx hb (by rw [C.1.2.2.1]; exact hl.1.symm) C.1.2.2.2.1 (C.1.2.2.2.2 _ w_676) (C.1.2.2.2.2 _ w_487) (C.1.2.2.2.2 _ w_14) (C.1.2.2.2.2 _ w_488) (by decide) (Nat.le_of_ble_eq_true rfl) (by decide) (by decide) dX1_size_15 ?_
  refine va_mmin hx hb (by rw [C.1.2.2.1]; exact hl.1.symm) C.1.2.2.2.1 (C.1.2.2.2.2 _ w_676) (C.1.2.2.2.2 _ w_487) (C.1.2.2.2.2 _ w_14) (C.1.2.2.2.2 _ w_488) (by decide) (Nat.le_of_ble_eq_true rfl) (by decide) (by decide) dX1_size_18 ?_
  exact r_iret C hr hlk hw dX1_size_21 (Nat.le_refl _) (Nat.le_refl _) ⟨_, rfl, hq⟩

set_option maxRecDepth 100000 in
def wp_X2_init  (g : Gh) (M0 : Mem) (a0 : Nat) (post : Mem → Prop) : Prop :=
  okc (gB g) M0 a0 2 ∧ (∀ q2 M3, q2 = mT M0 → M3 = nw M0 13 200 → (∀ M7, M7 = uR M3 a0 0 (some q2) → (∀ q10 M11, q10 = mT M7 → M11 = nw M7 15 200 → (∀ M15, M15 = uR M11 a0 1 (some q10) → (∀ q18 M19, q18 = mT M15 → M19 = nw M15 15 200 → (∀ M23, M23 = uR M19 a0 2 (some q18) → (∀ q26 M27, q26 = mT M23 → M27 = nw M23 14 6 → (∀ M31, M31 = uR M27 a0 4 (some q26) → (∀ q34 M35, q34 = mT M31 → M35 = nw M31 14 6 → (∀ M39, M39 = uR M35 a0 5 (some q34) → (post M39)))))))))))
set_option maxHeartbeats 4000000 in
set_option maxRecDepth 100000 in
theorem ct_X2_init {l : Launch} {g : Gh} {M0 : Mem} {a0 : Nat} {post : Mem → Prop}  (hq : wp_X2_init  g M0 a0 post) : Ct l g yX2_init cX2_init 1 none 1 5 612 [.ref a0] M0 (pV post) := by
  unfold wp_X2_init at hq
  obtain ⟨h0, hq⟩ := hq
  have h00 := h0
  refine Ct.of (by decide) (Nat.le_of_ble_eq_true rfl) ?_
  intro p e s m below meth c ls C hr hlk hn hl hw
  have hx := C.1.1
  have hb := C.1.2.1
  have hl : lv_has ls 1 [(0, .ref a0)] := hl
  refine lv_aload_n hx hb dX2_init_0 rfl (lv_at hl 0 rfl) ?_
  refine W.objInit hx hb C.1.2.2.2.1 (C.1.2.2.2.2 _ w_77) (C.1.2.2.2.2 _ w_35) (C.1.2.2.2.2 _ w_objInit) rfl (by rw [C.1.2.2.1]; exact hl.1) rfl dX2_init_1 (Nat.le_of_ble_eq_true rfl) (Nat.le_of_ble_eq_true rfl) ?_
  refine W.eq (g2 := F0 m 4 ls []) rfl ?_
  refine lv_aload_n hx hb dX2_init_4 rfl (lv_at hl 0 rfl) ?_
  refine lv_sipush (v := 200) hx hb dX2_init_5 (by decide) ?_
  have hB := hw.B C.2.2.2.2.2
  have h1 : 0 + 1 ≤ 5 ∧ 0 + 200 ≤ 612 := by decide
  refine q_newa_13 (N' := 200) C hw (by decide) (by decide) (by decide) h1.1 h1.2 dX2_init_8 (fun H hw => ?_)
  have h6 := okc_nw (gB g) M0 13 200 hB
  have h0 := h0.up (mle_nw M0 13 200)
  generalize e4 : nw M0 13 200 = M3 at hw h6 h0
  generalize e5 : mT M0 = q2 at h6 ⊢
  replace hq := hq q2 M3 e5.symm e4.symm
  refine pfX2_11 (v := (some q2)) C hw (mle_rf _) h0 hn dX2_init_10 (fun H locs hw => ?_)
  generalize e8 : uR M3 a0 0 (some q2) = M7 at hw
  replace hq := hq M7 e8.symm
  have h0 : okc (gB g) M7 a0 2 := by rw [← e8]; exact okc_uR h0
  refine lv_aload_n hx hb dX2_init_13 rfl (lv_at hl 0 rfl) ?_
  refine lv_sipush (v := 200) hx hb dX2_init_14 (by decide) ?_
  have hB := hw.B C.2.2.2.2.2
  have h9 : 1 + 1 ≤ 5 ∧ 200 + 200 ≤ 612 := by decide
  refine q_newa_15 (N' := 200) C hw (by decide) (by decide) (by decide) h9.1 h9.2 dX2_init_17 (fun H hw => ?_)
  have h14 := okc_nw (gB g) M7 15 200 hB
  have h0 := h0.up (mle_nw M7 15 200)
  generalize e12 : nw M7 15 200 = M11 at hw h14 h0
  generalize e13 : mT M7 = q10 at h14 ⊢
  replace hq := hq q10 M11 e13.symm e12.symm
  refine pfX2_17 (v := (some q10)) C hw (mle_rf _) h0 hn dX2_init_19 (fun H locs hw => ?_)
  generalize e16 : uR M11 a0 1 (some q10) = M15 at hw
  replace hq := hq M15 e16.symm
  have h0 : okc (gB g) M15 a0 2 := by rw [← e16]; exact okc_uR h0
  refine lv_aload_n hx hb dX2_init_22 rfl (lv_at hl 0 rfl) ?_
  refine lv_sipush (v := 200) hx hb dX2_init_23 (by decide) ?_
  have hB := hw.B C.2.2.2.2.2
  have h17 : 2 + 1 ≤ 5 ∧ 400 + 200 ≤ 612 := by decide
  refine q_newa_15 (N' := 200) C hw (by decide) (by decide) (by decide) h17.1 h17.2 dX2_init_26 (fun H hw => ?_)
  have h22 := okc_nw (gB g) M15 15 200 hB
  have h0 := h0.up (mle_nw M15 15 200)
  generalize e20 : nw M15 15 200 = M19 at hw h22 h0
  generalize e21 : mT M15 = q18 at h22 ⊢
  replace hq := hq q18 M19 e21.symm e20.symm
  refine pfX2_21 (v := (some q18)) C hw (mle_rf _) h0 hn dX2_init_28 (fun H locs hw => ?_)
  generalize e24 : uR M19 a0 2 (some q18) = M23 at hw
  replace hq := hq M23 e24.symm
  have h0 : okc (gB g) M23 a0 2 := by rw [← e24]; exact okc_uR h0
  refine lv_aload_n hx hb dX2_init_31 rfl (lv_at hl 0 rfl) ?_
  refine lv_bipush (v := 6) hx hb dX2_init_32 (by decide) ?_
  have hB := hw.B C.2.2.2.2.2
  have h25 : 3 + 1 ≤ 5 ∧ 600 + 6 ≤ 612 := by decide
  refine q_newa_14 (N' := 6) C hw (by decide) (by decide) (by decide) h25.1 h25.2 dX2_init_34 (fun H hw => ?_)
  have h30 := okc_nw (gB g) M23 14 6 hB
  have h0 := h0.up (mle_nw M23 14 6)
  generalize e28 : nw M23 14 6 = M27 at hw h30 h0
  generalize e29 : mT M23 = q26 at h30 ⊢
  replace hq := hq q26 M27 e29.symm e28.symm
  refine pfX2_24 (v := (some q26)) C hw (mle_rf _) h0 hn dX2_init_36 (fun H locs hw => ?_)
  generalize e32 : uR M27 a0 4 (some q26) = M31 at hw
  replace hq := hq M31 e32.symm
  have h0 : okc (gB g) M31 a0 2 := by rw [← e32]; exact okc_uR h0
  refine lv_aload_n hx hb dX2_init_39 rfl (lv_at hl 0 rfl) ?_
  refine lv_bipush (v := 6) hx hb dX2_init_40 (by decide) ?_
  have hB := hw.B C.2.2.2.2.2
  have h33 : 4 + 1 ≤ 5 ∧ 606 + 6 ≤ 612 := by decide
  refine q_newa_14 (N' := 6) C hw (by decide) (by decide) (by decide) h33.1 h33.2 dX2_init_42 (fun H hw => ?_)
  have h38 := okc_nw (gB g) M31 14 6 hB
  have h0 := h0.up (mle_nw M31 14 6)
  generalize e36 : nw M31 14 6 = M35 at hw h38 h0
  generalize e37 : mT M31 = q34 at h38 ⊢
  replace hq := hq q34 M35 e37.symm e36.symm
  refine pfX2_28 (v := (some q34)) C hw (mle_rf _) h0 hn dX2_init_44 (fun H locs hw => ?_)
  generalize e40 : uR M35 a0 5 (some q34) = M39 at hw
  replace hq := hq M39 e40.symm
  have h0 : okc (gB g) M39 a0 2 := by rw [← e40]; exact okc_uR h0
  have h41 : 5 ≤ 5 ∧ 612 ≤ 612 := by decide
  exact r_vret C hr hlk hw dX2_init_47 h41.1 h41.2 ⟨rfl, hq⟩

set_option maxRecDepth 100000 in
def wp_X10_rewind  (g : Gh) (M0 : Mem) (a0 : Nat) (post : Mem → Prop) : Prop :=
  okc (gB g) M0 a0 10 ∧ (∀ M1, M1 = uI M0 a0 2 3 → (∀ M3, M3 = uI M1 a0 3 0 → (∀ M5, M5 = uJ M3 a0 4 0 → (∀ M7, M7 = uI M5 a0 5 0 → (post M7)))))
set_option maxHeartbeats 4000000 in
set_option maxRecDepth 100000 in
theorem ct_X10_rewind {l : Launch} {g : Gh} {M0 : Mem} {a0 : Nat} {post : Mem → Prop}  (hq : wp_X10_rewind  g M0 a0 post) : Ct l g yX10_rewind cX10_rewind 1 none 0 0 0 [.ref a0] M0 (pV post) := by
  unfold wp_X10_rewind at hq
  obtain ⟨h0, hq⟩ := hq
  refine Ct.of (by decide) (Nat.le_of_ble_eq_true rfl) ?_
  intro p e s m below meth c ls C hr hlk hn hl hw
  have hx := C.1.1
  have hb := C.1.2.1
  have hl : lv_has ls 1 [(0, .ref a0)] := hl
  refine lv_aload_n hx hb dX10_rewind_0 rfl (lv_at hl 0 rfl) ?_
  refine lv_iconst (v := 3) hx hb dX10_rewind_1 (by decide) ?_
  refine pfX10_19 C hw hw.2.2.1 h0 dX10_rewind_2 (fun H locs hw => ?_)
  generalize e2 : uI M0 a0 2 3 = M1 at hw
  replace hq := hq M1 e2.symm
  refine lv_aload_n hx hb dX10_rewind_5 rfl (lv_at hl 0 rfl) ?_
  refine lv_iconst (v := 0) hx hb dX10_rewind_6 (by decide) ?_
  refine pfX10_22 C hw hw.2.2.1 h0 dX10_rewind_7 (fun H locs hw => ?_)
  generalize e4 : uI M1 a0 3 0 = M3 at hw
  replace hq := hq M3 e4.symm
  refine lv_aload_n hx hb dX10_rewind_10 rfl (lv_at hl 0 rfl) ?_
  refine lv_lconst (v := 0) hx hb dX10_rewind_11 (by decide) ?_
  refine pfX10_25 C hw hw.2.2.1 h0 dX10_rewind_12 (fun H locs hw => ?_)
  generalize e6 : uJ M3 a0 4 0 = M5 at hw
  replace hq := hq M5 e6.symm
  refine lv_aload_n hx hb dX10_rewind_15 rfl (lv_at hl 0 rfl) ?_
  refine lv_iconst (v := 0) hx hb dX10_rewind_16 (by decide) ?_
  refine pfX10_29 C hw hw.2.2.1 h0 dX10_rewind_17 (fun H locs hw => ?_)
  generalize e8 : uI M5 a0 5 0 = M7 at hw
  replace hq := hq M7 e8.symm
  exact r_vret C hr hlk hw dX10_rewind_20 (Nat.le_refl _) (Nat.le_refl _) ⟨rfl, hq⟩

set_option maxRecDepth 100000 in
def wp_X10_byteAt  (g : Gh) (M0 : Mem) (a0 : Nat) (p1 : Int32) (post : Int32 → Mem → Prop) : Prop :=
  okc (gB g) M0 a0 10 ∧ (((p1 < 0) → post (-1) M0) ∧ (¬ (p1 < 0) → (((mI M0 a0 1) ≤ p1) → post (-1) M0) ∧ (¬ ((mI M0 a0 1) ≤ p1) → ∃ q3, mR M0 a0 0 = some q3 ∧ (okc (gB g) M0 q3 16 ∧ ((((nI (mN M0 q3)) ≤ p1) → post (-1) M0) ∧ (¬ ((nI (mN M0 q3)) ≤ p1) → vp_in p1 (mN M0 q3) ∧ (post (mI M0 q3 (Int32.toNatClampNeg p1)) M0)))))))
set_option maxHeartbeats 4000000 in
set_option maxRecDepth 100000 in
theorem ct_X10_byteAt {l : Launch} {g : Gh} {M0 : Mem} {a0 : Nat} {p1 : Int32} {post : Int32 → Mem → Prop}  (hq : wp_X10_byteAt  g M0 a0 p1 post) : Ct l g yX10_byteAt cX10_byteAt 2 (some .int) 0 0 0 [.ref a0, .int p1] M0 (pI post) := by
  unfold wp_X10_byteAt at hq
  obtain ⟨h0, hq⟩ := hq
  refine Ct.of (by decide) (Nat.le_of_ble_eq_true rfl) ?_
  intro p e s m below meth c ls C hr hlk hn hl hw
  have hx := C.1.1
  have hb := C.1.2.1
  have hl : lv_has ls 2 [(0, .ref a0), (1, .int p1)] := hl
  refine lv_iload_n hx hb dX10_byteAt_0 rfl (lv_at hl 1 rfl) ?_
  refine lv_if_lt (tgt := 30) hx hb dX10_byteAt_1 (by decide) (fun c1 => ?_) (fun c1 => ?_)
  · replace hq := hq.1 c1
    refine lv_iconst (v := (-1)) hx hb dX10_byteAt_30 (by decide) ?_
    exact r_iret C hr hlk hw dX10_byteAt_31 (Nat.le_refl _) (Nat.le_refl _) ⟨_, rfl, hq⟩
  · replace hq := hq.2 c1
    refine lv_iload_n hx hb dX10_byteAt_4 rfl (lv_at hl 1 rfl) ?_
    refine lv_aload_n hx hb dX10_byteAt_5 rfl (lv_at hl 0 rfl) ?_
    refine gfX10_15 C hw hw.2.2.1 h0 dX10_byteAt_6 ?_
    refine lv_icmp_ge (tgt := 30) hx hb dX10_byteAt_9 (by decide) (fun c2 => ?_) (fun c2 => ?_)
    · replace hq := hq.1 c2
      refine lv_iconst (v := (-1)) hx hb dX10_byteAt_30 (by decide) ?_
      exact r_iret C hr hlk hw dX10_byteAt_31 (Nat.le_refl _) (Nat.le_refl _) ⟨_, rfl, hq⟩
    · replace hq := hq.2 c2
      refine lv_iload_n hx hb dX10_byteAt_12 rfl (lv_at hl 1 rfl) ?_
      refine lv_aload_n hx hb dX10_byteAt_13 rfl (lv_at hl 0 rfl) ?_
      obtain ⟨q3, e4, hq⟩ := hq
      refine gfX10_11 C hw hw.2.2.1 h0 e4 dX10_byteAt_14 ?_
      obtain ⟨h5, hq⟩ := hq
      refine q_alen C hw hw.2.2.1 h5 (by decide) (by decide) rfl dX10_byteAt_17 ?_
      refine lv_icmp_ge (tgt := 30) hx hb dX10_byteAt_18 (by decide) (fun c6 => ?_) (fun c6 => ?_)
      · replace hq := hq.1 c6
        refine lv_iconst (v := (-1)) hx hb dX10_byteAt_30 (by decide) ?_
        exact r_iret C hr hlk hw dX10_byteAt_31 (Nat.le_refl _) (Nat.le_refl _) ⟨_, rfl, hq⟩
      · replace hq := hq.2 c6
        refine lv_aload_n hx hb dX10_byteAt_21 rfl (lv_at hl 0 rfl) ?_
        refine gfX10_11 C hw hw.2.2.1 h0 e4 dX10_byteAt_22 ?_
        refine lv_iload_n hx hb dX10_byteAt_25 rfl (lv_at hl 1 rfl) ?_
        obtain ⟨h7, hq⟩ := hq
        refine q_sald C hw hw.2.2.1 h5 h7 dX10_byteAt_26 ?_
        refine lv_goto (tgt := 31) hx hb dX10_byteAt_27 (by decide) ?_
        exact r_iret C hr hlk hw dX10_byteAt_31 (Nat.le_refl _) (Nat.le_refl _) ⟨_, rfl, hq⟩

set_option maxRecDepth 100000 in
def bd_X10_skipBlanks_0  (g : Gh) (M0 : Mem) (a0 : Nat) (post : Mem → Prop)  (bk0 : Mem → Prop)   (M : Mem) : Prop :=
  (((mI M a0 1) ≤ (mI M a0 5)) → post M) ∧ (¬ ((mI M a0 1) ≤ (mI M a0 5)) → wp_X10_byteAt g M a0 (mI M a0 5) (fun v2 M3 => ((v2 = 32) → ∀ M5, M5 = uI M3 a0 5 ((mI M3 a0 5) + 1) → (bk0 (M5))) ∧ (¬ (v2 = 32) → post M3)))
set_option maxRecDepth 100000 in
def wp_X10_skipBlanks  (g : Gh) (M0 : Mem) (a0 : Nat) (post : Mem → Prop) : Prop :=
  okc (gB g) M0 a0 10 ∧ ((∃ n : Nat, lfp (fun bk z => bd_X10_skipBlanks_0  g M0 a0 post  bk z) n (M0)))
set_option maxHeartbeats 4000000 in
set_option maxRecDepth 100000 in
theorem lp_X10_skipBlanks_0 {l : Launch} {g : Gh} {p : Program} {e : Env} {s : State} {m : MethodId} {args : Array Value} {below : List Frame} {meth : Method} {c : Code} {M0 : Mem} {a0 : Nat} {post : Mem → Prop}  (C : Cx g p s m args c cX10_skipBlanks 1 RX10) (hr : meth.sig.returnType = none) (hlk : meth.locks = false) (hn : meth.name = "skipBlanks") (h0 : okc (gB g) M0 a0 10)  : ∀ (nf : Nat)   (M : Mem) (H : Heap) (locs : List Loc) (ls : Array Slot), lfp (fun bk z => bd_X10_skipBlanks_0  g M0 a0 post  bk z) nf (M) → Wd g s M0 M H locs → lv_has ls 1 [(0, .ref a0)] → W p l e (rmo 1 0 0) s m args below meth c H locs 0 0 (MQ below (Cq g M0 (pV post)) args s 0 0 (gA g)) (F0 m 0 ls []) := by
  have hx := C.1.1
  have hb := C.1.2.1
  intro nf
  induction nf with
  | zero => intro _ H locs ls hq; exact hq.elim
  | succ nf hk0 =>
    intro M H locs ls hq hw hl
    replace hq : bd_X10_skipBlanks_0  g M0 a0 post  (lfp (fun bk z => bd_X10_skipBlanks_0  g M0 a0 post  bk z) nf) M := hq
    unfold bd_X10_skipBlanks_0 at hq
    refine lv_aload_n hx hb dX10_skipBlanks_0 rfl (lv_at hl 0 rfl) ?_
    refine gfX10_29 C hw hw.2.2.1 h0 dX10_skipBlanks_1 ?_
    refine lv_aload_n hx hb dX10_skipBlanks_4 rfl (lv_at hl 0 rfl) ?_
    refine gfX10_15 C hw hw.2.2.1 h0 dX10_skipBlanks_5 ?_
    refine lv_icmp_ge (tgt := 37) hx hb dX10_skipBlanks_8 (by decide) (fun c1 => ?_) (fun c1 => ?_)
    · replace hq := hq.1 c1
      exact r_vret C hr hlk hw dX10_skipBlanks_37 (Nat.le_refl _) (Nat.le_refl _) ⟨rfl, hq⟩
    · replace hq := hq.2 c1
      refine lv_aload_n hx hb dX10_skipBlanks_11 rfl (lv_at hl 0 rfl) ?_
      refine lv_aload_n hx hb dX10_skipBlanks_12 rfl (lv_at hl 0 rfl) ?_
      refine gfX10_29 C hw hw.2.2.1 h0 dX10_skipBlanks_13 ?_
      refine r_callV (T := TX10) (N := 6) (ci := 10) (index := 35) (n := 1) (d2 := 0) (mc := 0) (ms := 0) (As := [.int (mI M a0 5)]) (rest := []) C hw (ct_X10_byteAt hq) kvX10_35 hq.1 (by decide) rfl ⟨by decide, by decide⟩ ⟨by decide, by decide⟩ rfl hl.1 rfl (Nat.le_of_ble_eq_true rfl) dX10_skipBlanks_16 (fun r M3 H locs hp hle hw => ?_)
      obtain ⟨v2, rfl, hq⟩ := hp
      refine W.eq (g2 := F0 m 19 ls [.int v2]) rfl ?_
      refine lv_bipush (v := 32) hx hb dX10_skipBlanks_19 (by decide) ?_
      refine lv_icmp_ne (tgt := 37) hx hb dX10_skipBlanks_21 (by decide) (fun c4 => ?_) (fun c4 => ?_)
      · replace hq := hq.2 c4
        exact r_vret C hr hlk hw dX10_skipBlanks_37 (Nat.le_refl _) (Nat.le_refl _) ⟨rfl, hq⟩
      · replace hq := hq.1 c4
        refine lv_aload_n hx hb dX10_skipBlanks_24 rfl (lv_at hl 0 rfl) ?_
        refine lv_dup hx hb dX10_skipBlanks_25 rfl ?_
        refine gfX10_29 C hw hw.2.2.1 h0 dX10_skipBlanks_26 ?_
        refine lv_iconst (v := 1) hx hb dX10_skipBlanks_29 (by decide) ?_
        refine lv_iadd hx hb dX10_skipBlanks_30 ?_
        refine pfX10_29 C hw hw.2.2.1 h0 dX10_skipBlanks_31 (fun H locs hw => ?_)
        generalize e6 : uI M3 a0 5 ((mI M3 a0 5) + 1) = M5 at hw
        replace hq := hq M5 e6.symm
        refine lv_goto (tgt := 0) hx hb dX10_skipBlanks_34 (by decide) ?_
        exact hk0 _ _ _ _ hq hw (lv_sub hl [0] rfl)
set_option maxHeartbeats 4000000 in
set_option maxRecDepth 100000 in
theorem ct_X10_skipBlanks {l : Launch} {g : Gh} {M0 : Mem} {a0 : Nat} {post : Mem → Prop}  (hq : wp_X10_skipBlanks  g M0 a0 post) : Ct l g yX10_skipBlanks cX10_skipBlanks 1 none 1 0 0 [.ref a0] M0 (pV post) := by
  unfold wp_X10_skipBlanks at hq
  obtain ⟨h0, hq⟩ := hq
  refine Ct.of (by decide) (Nat.le_of_ble_eq_true rfl) ?_
  intro p e s m below meth c ls C hr hlk hn hl hw
  have hx := C.1.1
  have hb := C.1.2.1
  have hl : lv_has ls 1 [(0, .ref a0)] := hl
  obtain ⟨nf, hq⟩ := hq
  exact lp_X10_skipBlanks_0  C hr hlk hn h0  nf _ _ _ _ hq hw (lv_sub hl [0] rfl)

set_option maxRecDepth 100000 in
def wp_X10_isLetter  (g : Gh) (M0 : Mem) (p0 : Int32) (post : Int32 → Mem → Prop) : Prop :=
  ((p0 < 97) → post 0 M0) ∧ (¬ (p0 < 97) → ((122 < p0) → post 0 M0) ∧ (¬ (122 < p0) → post 1 M0))
set_option maxHeartbeats 4000000 in
set_option maxRecDepth 100000 in
theorem ct_X10_isLetter {l : Launch} {g : Gh} {M0 : Mem} {p0 : Int32} {post : Int32 → Mem → Prop}  (hq : wp_X10_isLetter  g M0 p0 post) : Ct l g yX10_isLetter cX10_isLetter 1 (some .boolean) 0 0 0 [.int p0] M0 (pI post) := by
  unfold wp_X10_isLetter at hq
  refine Ct.of (by decide) (Nat.le_of_ble_eq_true rfl) ?_
  intro p e s m below meth c ls C hr hlk hn hl hw
  have hx := C.1.1
  have hb := C.1.2.1
  have hl : lv_has ls 1 [(0, .int p0)] := hl
  refine lv_iload_n hx hb dX10_isLetter_0 rfl (lv_at hl 0 rfl) ?_
  refine lv_bipush (v := 97) hx hb dX10_isLetter_1 (by decide) ?_
  refine lv_icmp_lt (tgt := 16) hx hb dX10_isLetter_3 (by decide) (fun c1 => ?_) (fun c1 => ?_)
  · replace hq := hq.1 c1
    refine lv_iconst (v := 0) hx hb dX10_isLetter_16 (by decide) ?_
    exact r_zret C hr hlk hw dX10_isLetter_17 (Nat.le_refl _) (Nat.le_refl _) (by decide) ⟨_, rfl, hq⟩
  · replace hq := hq.2 c1
    refine lv_iload_n hx hb dX10_isLetter_6 rfl (lv_at hl 0 rfl) ?_
    refine lv_bipush (v := 122) hx hb dX10_isLetter_7 (by decide) ?_
    refine lv_icmp_gt (tgt := 16) hx hb dX10_isLetter_9 (by decide) (fun c2 => ?_) (fun c2 => ?_)
    · replace hq := hq.1 c2
      refine lv_iconst (v := 0) hx hb dX10_isLetter_16 (by decide) ?_
      exact r_zret C hr hlk hw dX10_isLetter_17 (Nat.le_refl _) (Nat.le_refl _) (by decide) ⟨_, rfl, hq⟩
    · replace hq := hq.2 c2
      refine lv_iconst (v := 1) hx hb dX10_isLetter_12 (by decide) ?_
      refine lv_goto (tgt := 17) hx hb dX10_isLetter_13 (by decide) ?_
      exact r_zret C hr hlk hw dX10_isLetter_17 (Nat.le_refl _) (Nat.le_refl _) (by decide) ⟨_, rfl, hq⟩

set_option maxRecDepth 100000 in
def wp_X10_isDigit  (g : Gh) (M0 : Mem) (p0 : Int32) (post : Int32 → Mem → Prop) : Prop :=
  ((p0 < 48) → post 0 M0) ∧ (¬ (p0 < 48) → ((57 < p0) → post 0 M0) ∧ (¬ (57 < p0) → post 1 M0))
set_option maxHeartbeats 4000000 in
set_option maxRecDepth 100000 in
theorem ct_X10_isDigit {l : Launch} {g : Gh} {M0 : Mem} {p0 : Int32} {post : Int32 → Mem → Prop}  (hq : wp_X10_isDigit  g M0 p0 post) : Ct l g yX10_isDigit cX10_isDigit 1 (some .boolean) 0 0 0 [.int p0] M0 (pI post) := by
  unfold wp_X10_isDigit at hq
  refine Ct.of (by decide) (Nat.le_of_ble_eq_true rfl) ?_
  intro p e s m below meth c ls C hr hlk hn hl hw
  have hx := C.1.1
  have hb := C.1.2.1
  have hl : lv_has ls 1 [(0, .int p0)] := hl
  refine lv_iload_n hx hb dX10_isDigit_0 rfl (lv_at hl 0 rfl) ?_
  refine lv_bipush (v := 48) hx hb dX10_isDigit_1 (by decide) ?_
  refine lv_icmp_lt (tgt := 16) hx hb dX10_isDigit_3 (by decide) (fun c1 => ?_) (fun c1 => ?_)
  · replace hq := hq.1 c1
    refine lv_iconst (v := 0) hx hb dX10_isDigit_16 (by decide) ?_
    exact r_zret C hr hlk hw dX10_isDigit_17 (Nat.le_refl _) (Nat.le_refl _) (by decide) ⟨_, rfl, hq⟩
  · replace hq := hq.2 c1
    refine lv_iload_n hx hb dX10_isDigit_6 rfl (lv_at hl 0 rfl) ?_
    refine lv_bipush (v := 57) hx hb dX10_isDigit_7 (by decide) ?_
    refine lv_icmp_gt (tgt := 16) hx hb dX10_isDigit_9 (by decide) (fun c2 => ?_) (fun c2 => ?_)
    · replace hq := hq.1 c2
      refine lv_iconst (v := 0) hx hb dX10_isDigit_16 (by decide) ?_
      exact r_zret C hr hlk hw dX10_isDigit_17 (Nat.le_refl _) (Nat.le_refl _) (by decide) ⟨_, rfl, hq⟩
    · replace hq := hq.2 c2
      refine lv_iconst (v := 1) hx hb dX10_isDigit_12 (by decide) ?_
      refine lv_goto (tgt := 17) hx hb dX10_isDigit_13 (by decide) ?_
      exact r_zret C hr hlk hw dX10_isDigit_17 (Nat.le_refl _) (Nat.le_refl _) (by decide) ⟨_, rfl, hq⟩

set_option maxRecDepth 100000 in
def lb_X10_setRun_24  (g : Gh) (M0 : Mem) (a0 : Nat) (p1 : Int32) (p2 : Int32) (p3 : Int64) (p5 : Int32) (post : Mem → Prop)    (M : Mem) : Prop :=
  ((p1 = 0) → ((6 < p2) → ∀ M5, M5 = uI M a0 2 3 → (post M5)) ∧ (¬ (6 < p2) → ∀ M7, M7 = uI M a0 2 2 → (∀ M9, M9 = uJ M7 a0 4 (Int32.toInt64 p5) → (post M9)))) ∧ (¬ (p1 = 0) → ∀ M2, M2 = uI M a0 2 3 → (post M2))
set_option maxRecDepth 100000 in
def wp_X10_setRun  (g : Gh) (M0 : Mem) (a0 : Nat) (p1 : Int32) (p2 : Int32) (p3 : Int64) (p5 : Int32) (post : Mem → Prop) : Prop :=
  okc (gB g) M0 a0 10 ∧ (((p2 = 0) → ((12 < p1) → lb_X10_setRun_24  g M0 a0 p1 p2 p3 p5 post   M0) ∧ (¬ (12 < p1) → ∀ M13, M13 = uI M0 a0 2 1 → (∀ M15, M15 = uJ M13 a0 4 (-p3) → (post M15)))) ∧ (¬ (p2 = 0) → lb_X10_setRun_24  g M0 a0 p1 p2 p3 p5 post   M0))
set_option maxHeartbeats 4000000 in
set_option maxRecDepth 100000 in
theorem lt_X10_setRun_24 {l : Launch} {g : Gh} {p : Program} {e : Env} {s : State} {m : MethodId} {args : Array Value} {below : List Frame} {meth : Method} {c : Code} {H : Heap} {locs : List Loc} {ls : Array Slot} {M0 M : Mem} {a0 : Nat} {p1 : Int32} {p2 : Int32} {p3 : Int64} {p5 : Int32} {post : Mem → Prop}    (C : Cx g p s m args c cX10_setRun 6 RX10) (hr : meth.sig.returnType = none) (hlk : meth.locks = false) (hn : meth.name = "setRun") (h0 : okc (gB g) M0 a0 10)  (hq : lb_X10_setRun_24  g M0 a0 p1 p2 p3 p5 post   M) (hw : Wd g s M0 M H locs) (hl : lv_has ls 6 [(0, .ref a0), (1, .int p1), (2, .int p2), (3, .long p3), (5, .int p5)]) : W p l e (rmo 0 0 0) s m args below meth c H locs 0 0 (MQ below (Cq g M0 (pV post)) args s 0 0 (gA g)) (F0 m 24 ls []) := by
  have hx := C.1.1
  have hb := C.1.2.1
  unfold lb_X10_setRun_24 at hq
  refine lv_iload_n hx hb dX10_setRun_24 rfl (lv_at hl 1 rfl) ?_
  refine lv_if_ne (tgt := 49) hx hb dX10_setRun_25 (by decide) (fun c1 => ?_) (fun c1 => ?_)
  · replace hq := hq.2 c1
    refine lv_aload_n hx hb dX10_setRun_49 rfl (lv_at hl 0 rfl) ?_
    refine lv_iconst (v := 3) hx hb dX10_setRun_50 (by decide) ?_
    refine pfX10_19 C hw hw.2.2.1 h0 dX10_setRun_51 (fun H locs hw => ?_)
    generalize e3 : uI M a0 2 3 = M2 at hw
    replace hq := hq M2 e3.symm
    exact r_vret C hr hlk hw dX10_setRun_54 (Nat.le_refl _) (Nat.le_refl _) ⟨rfl, hq⟩
  · replace hq := hq.1 c1
    refine lv_iload_n hx hb dX10_setRun_28 rfl (lv_at hl 2 rfl) ?_
    refine lv_bipush (v := 6) hx hb dX10_setRun_29 (by decide) ?_
    refine lv_icmp_gt (tgt := 49) hx hb dX10_setRun_31 (by decide) (fun c4 => ?_) (fun c4 => ?_)
    · replace hq := hq.1 c4
      refine lv_aload_n hx hb dX10_setRun_49 rfl (lv_at hl 0 rfl) ?_
      refine lv_iconst (v := 3) hx hb dX10_setRun_50 (by decide) ?_
      refine pfX10_19 C hw hw.2.2.1 h0 dX10_setRun_51 (fun H locs hw => ?_)
      generalize e6 : uI M a0 2 3 = M5 at hw
      replace hq := hq M5 e6.symm
      exact r_vret C hr hlk hw dX10_setRun_54 (Nat.le_refl _) (Nat.le_refl _) ⟨rfl, hq⟩
    · replace hq := hq.2 c4
      refine lv_aload_n hx hb dX10_setRun_34 rfl (lv_at hl 0 rfl) ?_
      refine lv_iconst (v := 2) hx hb dX10_setRun_35 (by decide) ?_
      refine pfX10_19 C hw hw.2.2.1 h0 dX10_setRun_36 (fun H locs hw => ?_)
      generalize e8 : uI M a0 2 2 = M7 at hw
      replace hq := hq M7 e8.symm
      refine lv_aload_n hx hb dX10_setRun_39 rfl (lv_at hl 0 rfl) ?_
      refine lv_iload hx hb dX10_setRun_40 (lv_at hl 4 rfl) ?_
      refine lv_i2l (v := (Int32.toInt64 p5)) hx hb dX10_setRun_42 rfl ?_
      refine pfX10_25 C hw hw.2.2.1 h0 dX10_setRun_43 (fun H locs hw => ?_)
      generalize e10 : uJ M7 a0 4 (Int32.toInt64 p5) = M9 at hw
      replace hq := hq M9 e10.symm
      refine lv_goto (tgt := 54) hx hb dX10_setRun_46 (by decide) ?_
      exact r_vret C hr hlk hw dX10_setRun_54 (Nat.le_refl _) (Nat.le_refl _) ⟨rfl, hq⟩
set_option maxHeartbeats 4000000 in
set_option maxRecDepth 100000 in
theorem ct_X10_setRun {l : Launch} {g : Gh} {M0 : Mem} {a0 : Nat} {p1 : Int32} {p2 : Int32} {p3 : Int64} {p5 : Int32} {post : Mem → Prop}  (hq : wp_X10_setRun  g M0 a0 p1 p2 p3 p5 post) : Ct l g yX10_setRun cX10_setRun 6 none 0 0 0 [.ref a0, .int p1, .int p2, .long p3, .int p5] M0 (pV post) := by
  unfold wp_X10_setRun at hq
  obtain ⟨h0, hq⟩ := hq
  refine Ct.of (by decide) (Nat.le_of_ble_eq_true rfl) ?_
  intro p e s m below meth c ls C hr hlk hn hl hw
  have hx := C.1.1
  have hb := C.1.2.1
  have hl : lv_has ls 6 [(0, .ref a0), (1, .int p1), (2, .int p2), (3, .long p3), (5, .int p5)] := hl
  refine lv_iload_n hx hb dX10_setRun_0 rfl (lv_at hl 2 rfl) ?_
  refine lv_if_ne (tgt := 24) hx hb dX10_setRun_1 (by decide) (fun c11 => ?_) (fun c11 => ?_)
  · replace hq := hq.2 c11
    exact lt_X10_setRun_24  C hr hlk hn h0  hq hw (lv_sub hl [0, 1, 2, 3, 4] rfl)
  · replace hq := hq.1 c11
    refine lv_iload_n hx hb dX10_setRun_4 rfl (lv_at hl 1 rfl) ?_
    refine lv_bipush (v := 12) hx hb dX10_setRun_5 (by decide) ?_
    refine lv_icmp_gt (tgt := 24) hx hb dX10_setRun_7 (by decide) (fun c12 => ?_) (fun c12 => ?_)
    · replace hq := hq.1 c12
      exact lt_X10_setRun_24  C hr hlk hn h0  hq hw (lv_sub hl [0, 1, 2, 3, 4] rfl)
    · replace hq := hq.2 c12
      refine lv_aload_n hx hb dX10_setRun_10 rfl (lv_at hl 0 rfl) ?_
      refine lv_iconst (v := 1) hx hb dX10_setRun_11 (by decide) ?_
      refine pfX10_19 C hw hw.2.2.1 h0 dX10_setRun_12 (fun H locs hw => ?_)
      generalize e14 : uI M0 a0 2 1 = M13 at hw
      replace hq := hq M13 e14.symm
      refine lv_aload_n hx hb dX10_setRun_15 rfl (lv_at hl 0 rfl) ?_
      refine lv_lload_n hx hb dX10_setRun_16 rfl (lv_at hl 3 rfl) ?_
      refine lv_lneg hx hb dX10_setRun_17 ?_
      refine pfX10_25 C hw hw.2.2.1 h0 dX10_setRun_18 (fun H locs hw => ?_)
      generalize e16 : uJ M13 a0 4 (-p3) = M15 at hw
      replace hq := hq M15 e16.symm
      refine lv_goto (tgt := 54) hx hb dX10_setRun_21 (by decide) ?_
      exact r_vret C hr hlk hw dX10_setRun_54 (Nat.le_refl _) (Nat.le_refl _) ⟨rfl, hq⟩
