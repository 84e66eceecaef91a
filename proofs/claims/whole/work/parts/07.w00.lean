set_option maxRecDepth 100000 in
def wp_X0_init  (g : Gh) (M0 : Mem) (a0 : Nat) (post : Mem → Prop) : Prop :=
  okc (gB g) M0 a0 0 ∧ (post M0)
set_option maxHeartbeats 4000000 in
set_option maxRecDepth 100000 in
theorem ct_X0_init {l : Launch} {g : Gh} {M0 : Mem} {a0 : Nat} {post : Mem → Prop}  (hq : wp_X0_init  g M0 a0 post) : Ct l g yX0_init cX0_init 1 none 1 0 0 [.ref a0] M0 (pV post) := by
  unfold wp_X0_init at hq
  obtain ⟨h0, hq⟩ := hq
  refine Ct.of (by decide) (Nat.le_of_ble_eq_true rfl) ?_
  intro p e s m below meth c ls C hr hlk hn hl hw
  have hx := C.1.1
  have hb := C.1.2.1
  have hl : lv_has ls 1 [(0, .ref a0)] := hl
  refine lv_aload_n hx hb dX0_init_0 rfl (lv_at hl 0 rfl) ?_
  refine W.objInit hx hb C.1.2.2.2.1 (C.1.2.2.2.2 _ w_274) (C.1.2.2.2.2 _ w_35) (C.1.2.2.2.2 _ w_objInit) rfl (by rw [C.1.2.2.1]; exact hl.1) rfl dX0_init_1 (Nat.le_of_ble_eq_true rfl) (Nat.le_of_ble_eq_true rfl) ?_
  refine W.eq (g2 := F0 m 4 ls []) rfl ?_
  exact r_vret C hr hlk hw dX0_init_4 (Nat.le_refl _) (Nat.le_refl _) ⟨rfl, hq⟩

set_option maxRecDepth 100000 in
def wp_X0_tell  (g : Gh) (M0 : Mem) (a0 : Nat) (p1 : Int32) (post : Int32 → Mem → Prop) : Prop :=
  okc (gB g) M0 a0 0 ∧ (((p1 = 0) → post (mI M0 a0 0) M0) ∧ ((p1 = 1) → post (mI M0 a0 1) M0) ∧ ((p1 = 2) → post (mI M0 a0 2) M0) ∧ ((p1 = 3) → (((mI M0 a0 3) = 0) → post 0 M0) ∧ (¬ ((mI M0 a0 3) = 0) → post 1 M0)) ∧ ((p1 = 4) → (((mI M0 a0 4) = 0) → post 0 M0) ∧ (¬ ((mI M0 a0 4) = 0) → post 1 M0)) ∧ ((p1 = 5) → post (mI M0 a0 5) M0) ∧ ((¬ (p1 = 0) ∧ ¬ (p1 = 1) ∧ ¬ (p1 = 2) ∧ ¬ (p1 = 3) ∧ ¬ (p1 = 4) ∧ ¬ (p1 = 5)) → post (-1) M0))
set_option maxHeartbeats 4000000 in
set_option maxRecDepth 100000 in
theorem ct_X0_tell {l : Launch} {g : Gh} {M0 : Mem} {a0 : Nat} {p1 : Int32} {post : Int32 → Mem → Prop}  (hq : wp_X0_tell  g M0 a0 p1 post) : Ct l g yX0_tell cX0_tell 2 (some .int) 0 0 0 [.ref a0, .int p1] M0 (pI post) := by
  unfold wp_X0_tell at hq
  obtain ⟨h0, hq⟩ := hq
  refine Ct.of (by decide) (Nat.le_of_ble_eq_true rfl) ?_
  intro p e s m below meth c ls C hr hlk hn hl hw
  have hx := C.1.1
  have hb := C.1.2.1
  have hl : lv_has ls 2 [(0, .ref a0), (1, .int p1)] := hl
  refine lv_iload_n hx hb dX0_tell_0 rfl (lv_at hl 1 rfl) ?_
  by_cases c4 : p1 = 0
  · refine r_table (v := 0) (off := 39) (tgt := 40) hx hb dX0_tell_1 c4 (by decide) (by decide) rfl (by decide) ?_
    replace hq := hq.1 c4
    refine lv_aload_n hx hb dX0_tell_40 rfl (lv_at hl 0 rfl) ?_
    refine gfX0_9 C hw hw.2.2.1 h0 dX0_tell_41 ?_
    exact r_iret C hr hlk hw dX0_tell_44 (Nat.le_refl _) (Nat.le_refl _) ⟨_, rfl, hq⟩
  by_cases c5 : p1 = 1
  · refine r_table (v := 1) (off := 44) (tgt := 45) hx hb dX0_tell_1 c5 (by decide) (by decide) rfl (by decide) ?_
    replace hq := hq.2.1 c5
    refine lv_aload_n hx hb dX0_tell_45 rfl (lv_at hl 0 rfl) ?_
    refine gfX0_15 C hw hw.2.2.1 h0 dX0_tell_46 ?_
    exact r_iret C hr hlk hw dX0_tell_49 (Nat.le_refl _) (Nat.le_refl _) ⟨_, rfl, hq⟩
  by_cases c6 : p1 = 2
  · refine r_table (v := 2) (off := 49) (tgt := 50) hx hb dX0_tell_1 c6 (by decide) (by decide) rfl (by decide) ?_
    replace hq := hq.2.2.1 c6
    refine lv_aload_n hx hb dX0_tell_50 rfl (lv_at hl 0 rfl) ?_
    refine gfX0_18 C hw hw.2.2.1 h0 dX0_tell_51 ?_
    exact r_iret C hr hlk hw dX0_tell_54 (Nat.le_refl _) (Nat.le_refl _) ⟨_, rfl, hq⟩
  by_cases c7 : p1 = 3
  · refine r_table (v := 3) (off := 54) (tgt := 55) hx hb dX0_tell_1 c7 (by decide) (by decide) rfl (by decide) ?_
    replace hq := hq.2.2.2.1 c7
    refine lv_aload_n hx hb dX0_tell_55 rfl (lv_at hl 0 rfl) ?_
    refine gfX0_21 C hw hw.2.2.1 h0 dX0_tell_56 ?_
    refine lv_if_eq (tgt := 66) hx hb dX0_tell_59 (by decide) (fun c2 => ?_) (fun c2 => ?_)
    · replace hq := hq.1 c2
      refine lv_iconst (v := 0) hx hb dX0_tell_66 (by decide) ?_
      exact r_iret C hr hlk hw dX0_tell_67 (Nat.le_refl _) (Nat.le_refl _) ⟨_, rfl, hq⟩
    · replace hq := hq.2 c2
      refine lv_iconst (v := 1) hx hb dX0_tell_62 (by decide) ?_
      refine lv_goto (tgt := 67) hx hb dX0_tell_63 (by decide) ?_
      exact r_iret C hr hlk hw dX0_tell_67 (Nat.le_refl _) (Nat.le_refl _) ⟨_, rfl, hq⟩
  by_cases c8 : p1 = 4
  · refine r_table (v := 4) (off := 67) (tgt := 68) hx hb dX0_tell_1 c8 (by decide) (by decide) rfl (by decide) ?_
    replace hq := hq.2.2.2.2.1 c8
    refine lv_aload_n hx hb dX0_tell_68 rfl (lv_at hl 0 rfl) ?_
    refine gfX0_25 C hw hw.2.2.1 h0 dX0_tell_69 ?_
    refine lv_if_eq (tgt := 79) hx hb dX0_tell_72 (by decide) (fun c3 => ?_) (fun c3 => ?_)
    · replace hq := hq.1 c3
      refine lv_iconst (v := 0) hx hb dX0_tell_79 (by decide) ?_
      exact r_iret C hr hlk hw dX0_tell_80 (Nat.le_refl _) (Nat.le_refl _) ⟨_, rfl, hq⟩
    · replace hq := hq.2 c3
      refine lv_iconst (v := 1) hx hb dX0_tell_75 (by decide) ?_
      refine lv_goto (tgt := 80) hx hb dX0_tell_76 (by decide) ?_
      exact r_iret C hr hlk hw dX0_tell_80 (Nat.le_refl _) (Nat.le_refl _) ⟨_, rfl, hq⟩
  by_cases c9 : p1 = 5
  · refine r_table (v := 5) (off := 80) (tgt := 81) hx hb dX0_tell_1 c9 (by decide) (by decide) rfl (by decide) ?_
    replace hq := hq.2.2.2.2.2.1 c9
    refine lv_aload_n hx hb dX0_tell_81 rfl (lv_at hl 0 rfl) ?_
    refine gfX0_28 C hw hw.2.2.1 h0 dX0_tell_82 ?_
    exact r_iret C hr hlk hw dX0_tell_85 (Nat.le_refl _) (Nat.le_refl _) ⟨_, rfl, hq⟩
  refine r_tableOut (tgt := 86) (k := 5) hx hb dX0_tell_1 (by decide) (fun j hj => by rcases (show j = 0 ∨ j = 1 ∨ j = 2 ∨ j = 3 ∨ j = 4 ∨ j = 5 by omega) with rfl | rfl | rfl | rfl | rfl | rfl <;> assumption) (by decide) ?_
  replace hq := hq.2.2.2.2.2.2 ⟨c4, c5, c6, c7, c8, c9⟩
  refine lv_iconst (v := (-1)) hx hb dX0_tell_86 (by decide) ?_
  exact r_iret C hr hlk hw dX0_tell_87 (Nat.le_refl _) (Nat.le_refl _) ⟨_, rfl, hq⟩

set_option maxRecDepth 100000 in
def wp_X1_init  (g : Gh) (M0 : Mem) (a0 : Nat) (a1 : Nat) (a2 : Nat) (a3 : Nat) (post : Mem → Prop) : Prop :=
  okc (gB g) M0 a0 1 ∧ (∀ M1, M1 = uR M0 a0 0 (some a1) → (∀ M3, M3 = uR M1 a0 1 (some a2) → (∀ M5, M5 = uR M3 a0 2 (some a3) → (post M5))))
set_option maxHeartbeats 4000000 in
set_option maxRecDepth 100000 in
theorem ct_X1_init {l : Launch} {g : Gh} {M0 : Mem} {a0 : Nat} {a1 : Nat} {a2 : Nat} {a3 : Nat} {post : Mem → Prop}  (hq : wp_X1_init  g M0 a0 a1 a2 a3 post) : Ct l g yX1_init cX1_init 4 none 1 0 0 [.ref a0, .ref a1, .ref a2, .ref a3] M0 (pV post) := by
  unfold wp_X1_init at hq
  obtain ⟨h0, hq⟩ := hq
  refine Ct.of (by decide) (Nat.le_of_ble_eq_true rfl) ?_
  intro p e s m below meth c ls C hr hlk hn hl hw
  have hx := C.1.1
  have hb := C.1.2.1
  have hl : lv_has ls 4 [(0, .ref a0), (1, .ref a1), (2, .ref a2), (3, .ref a3)] := hl
  refine lv_aload_n hx hb dX1_init_0 rfl (lv_at hl 0 rfl) ?_
  refine W.objInit hx hb C.1.2.2.2.1 (C.1.2.2.2.2 _ w_605) (C.1.2.2.2.2 _ w_35) (C.1.2.2.2.2 _ w_objInit) rfl (by rw [C.1.2.2.1]; exact hl.1) rfl dX1_init_1 (Nat.le_of_ble_eq_true rfl) (Nat.le_of_ble_eq_true rfl) ?_
  refine W.eq (g2 := F0 m 4 ls []) rfl ?_
  refine lv_aload_n hx hb dX1_init_4 rfl (lv_at hl 0 rfl) ?_
  refine lv_aload_n hx hb dX1_init_5 rfl (lv_at hl 1 rfl) ?_
  refine pfX1_7 (v := (some a1)) C hw hw.2.2.1 h0 hn dX1_init_6 (fun H locs hw => ?_)
  generalize e2 : uR M0 a0 0 (some a1) = M1 at hw
  replace hq := hq M1 e2.symm
  refine lv_aload_n hx hb dX1_init_9 rfl (lv_at hl 0 rfl) ?_
  refine lv_aload_n hx hb dX1_init_10 rfl (lv_at hl 2 rfl) ?_
  refine pfX1_13 (v := (some a2)) C hw hw.2.2.1 h0 hn dX1_init_11 (fun H locs hw => ?_)
  generalize e4 : uR M1 a0 1 (some a2) = M3 at hw
  replace hq := hq M3 e4.symm
  refine lv_aload_n hx hb dX1_init_14 rfl (lv_at hl 0 rfl) ?_
  refine lv_aload_n hx hb dX1_init_15 rfl (lv_at hl 3 rfl) ?_
  refine pfX1_17 (v := (some a3)) C hw hw.2.2.1 h0 hn dX1_init_16 (fun H locs hw => ?_)
  generalize e6 : uR M3 a0 2 (some a3) = M5 at hw
  replace hq := hq M5 e6.symm
  exact r_vret C hr hlk hw dX1_init_19 (Nat.le_refl _) (Nat.le_refl _) ⟨rfl, hq⟩

set_option maxRecDepth 100000 in
def wp_X1_size  (g : Gh) (M0 : Mem) (a0 : Nat) (post : Int32 → Mem → Prop) : Prop :=
  okc (gB g) M0 a0 1 ∧ (∃ q1, mR M0 a0 0 = some q1 ∧ (okc (gB g) M0 q1 13 ∧ (∃ q4, mR M0 a0 1 = some q4 ∧ (okc (gB g) M0 q4 15 ∧ (∃ q7, mR M0 a0 2 = some q7 ∧ (okc (gB g) M0 q7 15 ∧ (post (if (if (nI (mN M0 q7)) < (nI (mN M0 q4)) then (nI (mN M0 q7)) else (nI (mN M0 q4))) < (nI (mN M0 q1)) then (if (nI (mN M0 q7)) < (nI (mN M0 q4)) then (nI (mN M0 q7)) else (nI (mN M0 q4))) else (nI (mN M0 q1))) M0)))))))
set_option maxHeartbeats 4000000 in
set_option maxRecDepth 100000 in
theorem ct_X1_size {l : Launch} {g : Gh} {M0 : Mem} {a0 : Nat} {post : Int32 → Mem → Prop}  (hq : wp_X1_size  g M0 a0 post) : Ct l g yX1_size cX1_size 1 (some .int) 1 0 0 [.ref a0] M0 (pI post) := by
  unfold wp_X1_size at hq
  obtain ⟨h0, hq⟩ := hq
  refine Ct.of (by decide) (Nat.le_of_ble_eq_true rfl) ?_
  intro p e s m below meth c ls C hr hlk hn hl hw
  have hx := C.1.1
  have hb := C.1.2.1
  have hl : lv_has ls 1 [(0, .ref a0)] := hl
  refine lv_aload_n hx hb dX1_size_0 rfl (lv_at hl 0 rfl) ?_
  obtain ⟨q1, e2, hq⟩ := hq
  refine gfX1_7 C hw hw.2.2.1 h0 e2 dX1_size_1 ?_
  obtain ⟨h3, hq⟩ := hq
  refine q_alen C hw hw.2.2.1 h3 (by decide) (by decide) rfl dX1_size_4 ?_
  refine lv_aload_n hx hb dX1_size_5 rfl (lv_at hl 0 rfl) ?_
  obtain ⟨q4, e5, hq⟩ := hq
  refine gfX1_13 C hw hw.2.2.1 h0 e5 dX1_size_6 ?_
  obtain ⟨h6, hq⟩ := hq
  refine q_alen C hw hw.2.2.1 h6 (by decide) (by decide) rfl dX1_size_9 ?_
  refine lv_aload_n hx hb dX1_size_10 rfl (lv_at hl 0 rfl) ?_
  obtain ⟨q7, e8, hq⟩ := hq
  refine gfX1_17 C hw hw.2.2.1 h0 e8 dX1_size_11 ?_
  obtain ⟨h9, hq⟩ := hq
  refine q_alen C hw hw.2.2.1 h9 (by decide) (by decide) rfl dX1_size_14 ?_
  refine va_mmin hx hb (by rw [C.1.2.2.1]; exact hl.1.symm) C.1.2.2.2.1 (C.1.2.2.2.2 _ w_676) (C.1.2.2.2.2 _ w_487) (C.1.2.2.2.2 _ w_14) (C.1.2.2.2.2 _ w_488) (by decide) (Nat.le_of_ble_eq_true rfl) (by decide) (by decide) dX1_size_15 ?_
  refine va_mmin hx hb (by rw [C.1.2.2.1]; exact hl.1.symm) C.1.2.2.2.1 (C.1.2.2.2.2 _ w_676) (C.1.2.2.2.2 _ w_487) (C.1.2.2.2.2 _ w_14) (C.1.2.2.2.2 _ w_488) (by decide) (Nat.le_of_ble_eq_true rfl) (by decide) (by decide) dX1_size_18 ?_
  exact r_iret C hr hlk hw dX1_size_21 (Nat.le_refl _) (Nat.le_refl _) ⟨_, rfl, hq⟩

set_option maxRecDepth 100000 in
def wp_X2_init  (g : Gh) (M0 : Mem) (a0 : Nat) (post : Mem → Prop) : Prop :=
  okc (gB g) M0 a0 2 ∧ ((0 + 1 ≤ 5 ∧ 0 + 200 ≤ 612) ∧ (∀ q2 M3, q2 = mT M0 → M3 = nw M0 13 200 → (∀ M7, M7 = uR M3 a0 0 (some q2) → (((0 + 1) + 1 ≤ 5 ∧ (0 + 200) + 200 ≤ 612) ∧ (∀ q10 M11, q10 = mT M7 → M11 = nw M7 15 200 → (∀ M15, M15 = uR M11 a0 1 (some q10) → ((((0 + 1) + 1) + 1 ≤ 5 ∧ ((0 + 200) + 200) + 200 ≤ 612) ∧ (∀ q18 M19, q18 = mT M15 → M19 = nw M15 15 200 → (∀ M23, M23 = uR M19 a0 2 (some q18) → (((((0 + 1) + 1) + 1) + 1 ≤ 5 ∧ (((0 + 200) + 200) + 200) + 6 ≤ 612) ∧ (∀ q26 M27, q26 = mT M23 → M27 = nw M23 14 6 → (∀ M31, M31 = uR M27 a0 4 (some q26) → ((((((0 + 1) + 1) + 1) + 1) + 1 ≤ 5 ∧ ((((0 + 200) + 200) + 200) + 6) + 6 ≤ 612) ∧ (∀ q34 M35, q34 = mT M31 → M35 = nw M31 14 6 → (∀ M39, M39 = uR M35 a0 5 (some q34) → (((((((0 + 1) + 1) + 1) + 1) + 1) ≤ 5 ∧ (((((0 + 200) + 200) + 200) + 6) + 6) ≤ 612) ∧ (post M39)))))))))))))))))
set_option maxHeartbeats 4000000 in
set_option maxRecDepth 100000 in
theorem ct_X2_init {l : Launch} {g : Gh} {M0 : Mem} {a0 : Nat} {post : Mem → Prop}  (hq : wp_X2_init  g M0 a0 post) : Ct l g yX2_init cX2_init 1 none 1 5 612 [.ref a0] M0 (pV post) := by
  unfold wp_X2_init at hq
  obtain ⟨h0, hq⟩ := hq
  have h00 := h0
  refine Ct.of (by decide) (Nat.le_of_ble_eq_true rfl) ?_
  intro p e s m below meth c ls C hr hlk hn hl hw
  have hx := C.1.1
  have hb := C.1.2.1
  have hl : lv_has ls 1 [(0, .ref a0)] := hl
  refine lv_aload_n hx hb dX2_init_0 rfl (lv_at hl 0 rfl) ?_
  refine W.objInit hx hb C.1.2.2.2.1 (C.1.2.2.2.2 _ w_77) (C.1.2.2.2.2 _ w_35) (C.1.2.2.2.2 _ w_objInit) rfl (by rw [C.1.2.2.1]; exact hl.1) rfl dX2_init_1 (Nat.le_of_ble_eq_true rfl) (Nat.le_of_ble_eq_true rfl) ?_
  refine W.eq (g2 := F0 m 4 ls []) rfl ?_
  refine lv_aload_n hx hb dX2_init_4 rfl (lv_at hl 0 rfl) ?_
  refine lv_sipush (v := 200) hx hb dX2_init_5 (by decide) ?_
  have hB := hw.B C.2.2.2.2.2
  obtain ⟨h1, hq⟩ := hq
  refine q_newa_13 (N' := 200) C hw (by decide) (by decide) (by decide) h1.1 h1.2 dX2_init_8 (fun H hw => ?_)
  have h6 := okc_nw (gB g) M0 13 200 hB
  have h0 := h0.up (mle_nw M0 13 200)
  generalize e4 : nw M0 13 200 = M3 at hw h6 h0
  generalize e5 : mT M0 = q2 at h6 ⊢
  replace hq := hq q2 M3 e5.symm e4.symm
  refine pfX2_11 (v := (some q2)) C hw (mle_rf _) h0 hn dX2_init_10 (fun H locs hw => ?_)
  generalize e8 : uR M3 a0 0 (some q2) = M7 at hw
  replace hq := hq M7 e8.symm
  have h0 : okc (gB g) M7 a0 2 := by rw [← e8]; exact okc_uR h0
  refine lv_aload_n hx hb dX2_init_13 rfl (lv_at hl 0 rfl) ?_
  refine lv_sipush (v := 200) hx hb dX2_init_14 (by decide) ?_
  have hB := hw.B C.2.2.2.2.2
  obtain ⟨h9, hq⟩ := hq
  refine q_newa_15 (N' := 200) C hw (by decide) (by decide) (by decide) h9.1 h9.2 dX2_init_17 (fun H hw => ?_)
  have h14 := okc_nw (gB g) M7 15 200 hB
  have h0 := h0.up (mle_nw M7 15 200)
  generalize e12 : nw M7 15 200 = M11 at hw h14 h0
  generalize e13 : mT M7 = q10 at h14 ⊢
  replace hq := hq q10 M11 e13.symm e12.symm
  refine pfX2_17 (v := (some q10)) C hw (mle_rf _) h0 hn dX2_init_19 (fun H locs hw => ?_)
  generalize e16 : uR M11 a0 1 (some q10) = M15 at hw
  replace hq := hq M15 e16.symm
  have h0 : okc (gB g) M15 a0 2 := by rw [← e16]; exact okc_uR h0
  refine lv_aload_n hx hb dX2_init_22 rfl (lv_at hl 0 rfl) ?_
  refine lv_sipush (v := 200) hx hb dX2_init_23 (by decide) ?_
  have hB := hw.B C.2.2.2.2.2
  obtain ⟨h17, hq⟩ := hq
  refine q_newa_15 (N' := 200) C hw (by decide) (by decide) (by decide) h17.1 h17.2 dX2_init_26 (fun H hw => ?_)
  have h22 := okc_nw (gB g) M15 15 200 hB
  have h0 := h0.up (mle_nw M15 15 200)
  generalize e20 : nw M15 15 200 = M19 at hw h22 h0
  generalize e21 : mT M15 = q18 at h22 ⊢
  replace hq := hq q18 M19 e21.symm e20.symm
  refine pfX2_21 (v := (some q18)) C hw (mle_rf _) h0 hn dX2_init_28 (fun H locs hw => ?_)
  generalize e24 : uR M19 a0 2 (some q18) = M23 at hw
  replace hq := hq M23 e24.symm
  have h0 : okc (gB g) M23 a0 2 := by rw [← e24]; exact okc_uR h0
  refine lv_aload_n hx hb dX2_init_31 rfl (lv_at hl 0 rfl) ?_
  refine lv_bipush (v := 6) hx hb dX2_init_32 (by decide) ?_
  have hB := hw.B C.2.2.2.2.2
  obtain ⟨h25, hq⟩ := hq
  refine q_newa_14 (N' := 6) C hw (by decide) (by decide) (by decide) h25.1 h25.2 dX2_init_34 (fun H hw => ?_)
  have h30 := okc_nw (gB g) M23 14 6 hB
  have h0 := h0.up (mle_nw M23 14 6)
  generalize e28 : nw M23 14 6 = M27 at hw h30 h0
  generalize e29 : mT M23 = q26 at h30 ⊢
  replace hq := hq q26 M27 e29.symm e28.symm
  refine pfX2_24 (v := (some q26)) C hw (mle_rf _) h0 hn dX2_init_36 (fun H locs hw => ?_)
  generalize e32 : uR M27 a0 4 (some q26) = M31 at hw
  replace hq := hq M31 e32.symm
  have h0 : okc (gB g) M31 a0 2 := by rw [← e32]; exact okc_uR h0
  refine lv_aload_n hx hb dX2_init_39 rfl (lv_at hl 0 rfl) ?_
  refine lv_bipush (v := 6) hx hb dX2_init_40 (by decide) ?_
  have hB := hw.B C.2.2.2.2.2
  obtain ⟨h33, hq⟩ := hq
  refine q_newa_14 (N' := 6) C hw (by decide) (by decide) (by decide) h33.1 h33.2 dX2_init_42 (fun H hw => ?_)
  have h38 := okc_nw (gB g) M31 14 6 hB
  have h0 := h0.up (mle_nw M31 14 6)
  generalize e36 : nw M31 14 6 = M35 at hw h38 h0
  generalize e37 : mT M31 = q34 at h38 ⊢
  replace hq := hq q34 M35 e37.symm e36.symm
  refine pfX2_28 (v := (some q34)) C hw (mle_rf _) h0 hn dX2_init_44 (fun H locs hw => ?_)
  generalize e40 : uR M35 a0 5 (some q34) = M39 at hw
  replace hq := hq M39 e40.symm
  have h0 : okc (gB g) M39 a0 2 := by rw [← e40]; exact okc_uR h0
  obtain ⟨h41, hq⟩ := hq
  exact r_vret C hr hlk hw dX2_init_47 h41.1 h41.2 ⟨rfl, hq⟩

set_option maxRecDepth 100000 in
def wp_X10_rewind  (g : Gh) (M0 : Mem) (a0 : Nat) (post : Mem → Prop) : Prop :=
  okc (gB g) M0 a0 10 ∧ (∀ M1, M1 = uI M0 a0 2 3 → (∀ M3, M3 = uI M1 a0 3 0 → (∀ M5, M5 = uJ M3 a0 4 0 → (∀ M7, M7 = uI M5 a0 5 0 → (post M7)))))
set_option maxHeartbeats 4000000 in
set_option maxRecDepth 100000 in
theorem ct_X10_rewind {l : Launch} {g : Gh} {M0 : Mem} {a0 : Nat} {post : Mem → Prop}  (hq : wp_X10_rewind  g M0 a0 post) : Ct l g yX10_rewind cX10_rewind 1 none 0 0 0 [.ref a0] M0 (pV post) := by
  unfold wp_X10_rewind at hq
  obtain ⟨h0, hq⟩ := hq
  refine Ct.of (by decide) (Nat.le_of_ble_eq_true rfl) ?_
  intro p e s m below meth c ls C hr hlk hn hl hw
  have hx := C.1.1
  have hb := C.1.2.1
  have hl : lv_has ls 1 [(0, .ref a0)] := hl
  refine lv_aload_n hx hb dX10_rewind_0 rfl (lv_at hl 0 rfl) ?_
  refine lv_iconst (v := 3) hx hb dX10_rewind_1 (by decide) ?_
  refine pfX10_19 C hw hw.2.2.1 h0 dX10_rewind_2 (fun H locs hw => ?_)
  generalize e2 : uI M0 a0 2 3 = M1 at hw
  replace hq := hq M1 e2.symm
  refine lv_aload_n hx hb dX10_rewind_5 rfl (lv_at hl 0 rfl) ?_
  refine lv_iconst (v := 0) hx hb dX10_rewind_6 (by decide) ?_
  refine pfX10_22 C hw hw.2.2.1 h0 dX10_rewind_7 (fun H locs hw => ?_)
  generalize e4 : uI M1 a0 3 0 = M3 at hw
  replace hq := hq M3 e4.symm
  refine lv_aload_n hx hb dX10_rewind_10 rfl (lv_at hl 0 rfl) ?_
  refine lv_lconst (v := 0) hx hb dX10_rewind_11 (by decide) ?_
  refine pfX10_25 C hw hw.2.2.1 h0 dX10_rewind_12 (fun H locs hw => ?_)
  generalize e6 : uJ M3 a0 4 0 = M5 at hw
  replace hq := hq M5 e6.symm
  refine lv_aload_n hx hb dX10_rewind_15 rfl (lv_at hl 0 rfl) ?_
  refine lv_iconst (v := 0) hx hb dX10_rewind_16 (by decide) ?_
  refine pfX10_29 C hw hw.2.2.1 h0 dX10_rewind_17 (fun H locs hw => ?_)
  generalize e8 : uI M5 a0 5 0 = M7 at hw
  replace hq := hq M7 e8.symm
  exact r_vret C hr hlk hw dX10_rewind_20 (Nat.le_refl _) (Nat.le_refl _) ⟨rfl, hq⟩

set_option maxRecDepth 100000 in
def wp_X10_byteAt  (g : Gh) (M0 : Mem) (a0 : Nat) (p1 : Int32) (post : Int32 → Mem → Prop) : Prop :=
  okc (gB g) M0 a0 10 ∧ (((p1 < 0) → post (-1) M0) ∧ (¬ (p1 < 0) → (((mI M0 a0 1) ≤ p1) → post (-1) M0) ∧ (¬ ((mI M0 a0 1) ≤ p1) → ∃ q3, mR M0 a0 0 = some q3 ∧ (okc (gB g) M0 q3 16 ∧ ((((nI (mN M0 q3)) ≤ p1) → post (-1) M0) ∧ (¬ ((nI (mN M0 q3)) ≤ p1) → vp_in p1 (mN M0 q3) ∧ (post (mI M0 q3 (Int32.toNatClampNeg p1)) M0)))))))
set_option maxHeartbeats 4000000 in
set_option maxRecDepth 100000 in
theorem ct_X10_byteAt {l : Launch} {g : Gh} {M0 : Mem} {a0 : Nat} {p1 : Int32} {post : Int32 → Mem → Prop}  (hq : wp_X10_byteAt  g M0 a0 p1 post) : Ct l g yX10_byteAt cX10_byteAt 2 (some .int) 0 0 0 [.ref a0, .int p1] M0 (pI post) := by
  unfold wp_X10_byteAt at hq
  obtain ⟨h0, hq⟩ := hq
  refine Ct.of (by decide) (Nat.le_of_ble_eq_true rfl) ?_
  intro p e s m below meth c ls C hr hlk hn hl hw
  have hx := C.1.1
  have hb := C.1.2.1
  have hl : lv_has ls 2 [(0, .ref a0), (1, .int p1)] := hl
  refine lv_iload_n hx hb dX10_byteAt_0 rfl (lv_at hl 1 rfl) ?_
  refine lv_if_lt (tgt := 30) hx hb dX10_byteAt_1 (by decide) (fun c1 => ?_) (fun c1 => ?_)
  · replace hq := hq.1 c1
    refine lv_iconst (v := (-1)) hx hb dX10_byteAt_30 (by decide) ?_
    exact r_iret C hr hlk hw dX10_byteAt_31 (Nat.le_refl _) (Nat.le_refl _) ⟨_, rfl, hq⟩
  · replace hq := hq.2 c1
    refine lv_iload_n hx hb dX10_byteAt_4 rfl (lv_at hl 1 rfl) ?_
    refine lv_aload_n hx hb dX10_byteAt_5 rfl (lv_at hl 0 rfl) ?_
    refine gfX10_15 C hw hw.2.2.1 h0 dX10_byteAt_6 ?_
    refine lv_icmp_ge (tgt := 30) hx hb dX10_byteAt_9 (by decide) (fun c2 => ?_) (fun c2 => ?_)
    · replace hq := hq.1 c2
      refine lv_iconst (v := (-1)) hx hb dX10_byteAt_30 (by decide) ?_
      exact r_iret C hr hlk hw dX10_byteAt_31 (Nat.le_refl _) (Nat.le_refl _) ⟨_, rfl, hq⟩
    · replace hq := hq.2 c2
      refine lv_iload_n hx hb dX10_byteAt_12 rfl (lv_at hl 1 rfl) ?_
      refine lv_aload_n hx hb dX10_byteAt_13 rfl (lv_at hl 0 rfl) ?_
      obtain ⟨q3, e4, hq⟩ := hq
      refine gfX10_11 C hw hw.2.2.1 h0 e4 dX10_byteAt_14 ?_
      obtain ⟨h5, hq⟩ := hq
      refine q_alen C hw hw.2.2.1 h5 (by decide) (by decide) rfl dX10_byteAt_17 ?_
      refine lv_icmp_ge (tgt := 30) hx hb dX10_byteAt_18 (by decide) (fun c6 => ?_) (fun c6 => ?_)
      · replace hq := hq.1 c6
        refine lv_iconst (v := (-1)) hx hb dX10_byteAt_30 (by decide) ?_
        exact r_iret C hr hlk hw dX10_byteAt_31 (Nat.le_refl _) (Nat.le_refl _) ⟨_, rfl, hq⟩
      · replace hq := hq.2 c6
        refine lv_aload_n hx hb dX10_byteAt_21 rfl (lv_at hl 0 rfl) ?_
        refine gfX10_11 C hw hw.2.2.1 h0 e4 dX10_byteAt_22 ?_
        refine lv_iload_n hx hb dX10_byteAt_25 rfl (lv_at hl 1 rfl) ?_
        obtain ⟨h7, hq⟩ := hq
        refine q_sald C hw hw.2.2.1 h5 h7 dX10_byteAt_26 ?_
        refine lv_goto (tgt := 31) hx hb dX10_byteAt_27 (by decide) ?_
        exact r_iret C hr hlk hw dX10_byteAt_31 (Nat.le_refl _) (Nat.le_refl _) ⟨_, rfl, hq⟩

set_option maxRecDepth 100000 in
def bd_X10_skipBlanks_0  (g : Gh) (M0 : Mem) (a0 : Nat) (post : Mem → Prop)  (bk0 : Mem → Prop)   (M : Mem) : Prop :=
  (((mI M a0 1) ≤ (mI M a0 5)) → post M) ∧ (¬ ((mI M a0 1) ≤ (mI M a0 5)) → wp_X10_byteAt g M a0 (mI M a0 5) (fun v2 M3 => ((v2 = 32) → ∀ M5, M5 = uI M3 a0 5 ((mI M3 a0 5) + 1) → (bk0 (M5))) ∧ (¬ (v2 = 32) → post M3)))
set_option maxRecDepth 100000 in
def wp_X10_skipBlanks  (g : Gh) (M0 : Mem) (a0 : Nat) (post : Mem → Prop) : Prop :=
  okc (gB g) M0 a0 10 ∧ ((∃ n : Nat, lfp (fun bk z => bd_X10_skipBlanks_0  g M0 a0 post  bk z) n (M0)))
set_option maxHeartbeats 4000000 in
set_option maxRecDepth 100000 in
theorem lp_X10_skipBlanks_0 {l : Launch} {g : Gh} {p : Program} {e : Env} {s : State} {m : MethodId} {args : Array Value} {below : List Frame} {meth : Method} {c : Code} {M0 : Mem} {a0 : Nat} {post : Mem → Prop}  (C : Cx g p s m args c cX10_skipBlanks 1 RX10) (hr : meth.sig.returnType = none) (hlk : meth.locks = false) (hn : meth.name = "skipBlanks") (h0 : okc (gB g) M0 a0 10)  : ∀ (nf : Nat)   (M : Mem) (H : Heap) (locs : List Loc) (ls : Array Slot), lfp (fun bk z => bd_X10_skipBlanks_0  g M0 a0 post  bk z) nf (M) → Wd g s M0 M H locs → lv_has ls 1 [(0, .ref a0)] → W p l e (rmo 1 0 0) s m args below meth c H locs 0 0 (MQ below (Cq g M0 (pV post)) args s 0 0 (gA g)) (F0 m 0 ls []) := by
  have hx := C.1.1
  have hb := C.1.2.1
  intro nf
  induction nf with
  | zero => intro _ H locs ls hq; exact hq.elim
  | succ nf hk0 =>
    intro M H locs ls hq hw hl
    replace hq : bd_X10_skipBlanks_0  g M0 a0 post  (lfp (fun bk z => bd_X10_skipBlanks_0  g M0 a0 post  bk z) nf) M := hq
    unfold bd_X10_skipBlanks_0 at hq
    refine lv_aload_n hx hb dX10_skipBlanks_0 rfl (lv_at hl 0 rfl) ?_
    refine gfX10_29 C hw hw.2.2.1 h0 dX10_skipBlanks_1 ?_
    refine lv_aload_n hx hb dX10_skipBlanks_4 rfl (lv_at hl 0 rfl) ?_
    refine gfX10_15 C hw hw.2.2.1 h0 dX10_skipBlanks_5 ?_
    refine lv_icmp_ge (tgt := 37) hx hb dX10_skipBlanks_8 (by decide) (fun c1 => ?_) (fun c1 => ?_)
    · replace hq := hq.1 c1
      exact r_vret C hr hlk hw dX10_skipBlanks_37 (Nat.le_refl _) (Nat.le_refl _) ⟨rfl, hq⟩
    · replace hq := hq.2 c1
      refine lv_aload_n hx hb dX10_skipBlanks_11 rfl (lv_at hl 0 rfl) ?_
      refine lv_aload_n hx hb dX10_skipBlanks_12 rfl (lv_at hl 0 rfl) ?_
      refine gfX10_29 C hw hw.2.2.1 h0 dX10_skipBlanks_13 ?_
      refine r_callV (T := TX10) (N := 6) (ci := 10) (index := 35) (n := 1) (d2 := 0) (mc := 0) (ms := 0) (As := [.int (mI M a0 5)]) (rest := []) C hw (ct_X10_byteAt hq) kvX10_35 hq.1 (by decide) rfl ⟨by decide, by decide⟩ ⟨by decide, by decide⟩ rfl hl.1 rfl (Nat.le_of_ble_eq_true rfl) dX10_skipBlanks_16 (fun r M3 H locs hp hle hw => ?_)
      obtain ⟨v2, rfl, hq⟩ := hp
      refine W.eq (g2 := F0 m 19 ls [.int v2]) rfl ?_
      refine lv_bipush (v := 32) hx hb dX10_skipBlanks_19 (by decide) ?_
      refine lv_icmp_ne (tgt := 37) hx hb dX10_skipBlanks_21 (by decide) (fun c4 => ?_) (fun c4 => ?_)
      · replace hq := hq.2 c4
        exact r_vret C hr hlk hw dX10_skipBlanks_37 (Nat.le_refl _) (Nat.le_refl _) ⟨rfl, hq⟩
      · replace hq := hq.1 c4
        refine lv_aload_n hx hb dX10_skipBlanks_24 rfl (lv_at hl 0 rfl) ?_
        refine lv_dup hx hb dX10_skipBlanks_25 rfl ?_
        refine gfX10_29 C hw hw.2.2.1 h0 dX10_skipBlanks_26 ?_
        refine lv_iconst (v := 1) hx hb dX10_skipBlanks_29 (by decide) ?_
        refine lv_iadd hx hb dX10_skipBlanks_30 ?_
        refine pfX10_29 C hw hw.2.2.1 h0 dX10_skipBlanks_31 (fun H locs hw => ?_)
        generalize e6 : uI M3 a0 5 ((mI M3 a0 5) + 1) = M5 at hw
        replace hq := hq M5 e6.symm
        refine lv_goto (tgt := 0) hx hb dX10_skipBlanks_34 (by decide) ?_
        exact hk0 _ _ _ _ hq hw (lv_sub hl [0] rfl)
set_option maxHeartbeats 4000000 in
set_option maxRecDepth 100000 in
theorem ct_X10_skipBlanks {l : Launch} {g : Gh} {M0 : Mem} {a0 : Nat} {post : Mem → Prop}  (hq : wp_X10_skipBlanks  g M0 a0 post) : Ct l g yX10_skipBlanks cX10_skipBlanks 1 none 1 0 0 [.ref a0] M0 (pV post) := by
  unfold wp_X10_skipBlanks at hq
  obtain ⟨h0, hq⟩ := hq
  refine Ct.of (by decide) (Nat.le_of_ble_eq_true rfl) ?_
  intro p e s m below meth c ls C hr hlk hn hl hw
  have hx := C.1.1
  have hb := C.1.2.1
  have hl : lv_has ls 1 [(0, .ref a0)] := hl
  obtain ⟨nf, hq⟩ := hq
  exact lp_X10_skipBlanks_0  C hr hlk hn h0  nf _ _ _ _ hq hw (lv_sub hl [0] rfl)

set_option maxRecDepth 100000 in
def wp_X10_isLetter  (g : Gh) (M0 : Mem) (p0 : Int32) (post : Int32 → Mem → Prop) : Prop :=
  ((p0 < 97) → post 0 M0) ∧ (¬ (p0 < 97) → ((122 < p0) → post 0 M0) ∧ (¬ (122 < p0) → post 1 M0))
set_option maxHeartbeats 4000000 in
set_option maxRecDepth 100000 in
theorem ct_X10_isLetter {l : Launch} {g : Gh} {M0 : Mem} {p0 : Int32} {post : Int32 → Mem → Prop}  (hq : wp_X10_isLetter  g M0 p0 post) : Ct l g yX10_isLetter cX10_isLetter 1 (some .boolean) 0 0 0 [.int p0] M0 (pI post) := by
  unfold wp_X10_isLetter at hq
  refine Ct.of (by decide) (Nat.le_of_ble_eq_true rfl) ?_
  intro p e s m below meth c ls C hr hlk hn hl hw
  have hx := C.1.1
  have hb := C.1.2.1
  have hl : lv_has ls 1 [(0, .int p0)] := hl
  refine lv_iload_n hx hb dX10_isLetter_0 rfl (lv_at hl 0 rfl) ?_
  refine lv_bipush (v := 97) hx hb dX10_isLetter_1 (by decide) ?_
  refine lv_icmp_lt (tgt := 16) hx hb dX10_isLetter_3 (by decide) (fun c1 => ?_) (fun c1 => ?_)
  · replace hq := hq.1 c1
    refine lv_iconst (v := 0) hx hb dX10_isLetter_16 (by decide) ?_
    exact r_zret C hr hlk hw dX10_isLetter_17 (Nat.le_refl _) (Nat.le_refl _) (by decide) ⟨_, rfl, hq⟩
  · replace hq := hq.2 c1
    refine lv_iload_n hx hb dX10_isLetter_6 rfl (lv_at hl 0 rfl) ?_
    refine lv_bipush (v := 122) hx hb dX10_isLetter_7 (by decide) ?_
    refine lv_icmp_gt (tgt := 16) hx hb dX10_isLetter_9 (by decide) (fun c2 => ?_) (fun c2 => ?_)
    · replace hq := hq.1 c2
      refine lv_iconst (v := 0) hx hb dX10_isLetter_16 (by decide) ?_
      exact r_zret C hr hlk hw dX10_isLetter_17 (Nat.le_refl _) (Nat.le_refl _) (by decide) ⟨_, rfl, hq⟩
    · replace hq := hq.2 c2
      refine lv_iconst (v := 1) hx hb dX10_isLetter_12 (by decide) ?_
      refine lv_goto (tgt := 17) hx hb dX10_isLetter_13 (by decide) ?_
      exact r_zret C hr hlk hw dX10_isLetter_17 (Nat.le_refl _) (Nat.le_refl _) (by decide) ⟨_, rfl, hq⟩

set_option maxRecDepth 100000 in
def wp_X10_isDigit  (g : Gh) (M0 : Mem) (p0 : Int32) (post : Int32 → Mem → Prop) : Prop :=
  ((p0 < 48) → post 0 M0) ∧ (¬ (p0 < 48) → ((57 < p0) → post 0 M0) ∧ (¬ (57 < p0) → post 1 M0))
set_option maxHeartbeats 4000000 in
set_option maxRecDepth 100000 in
theorem ct_X10_isDigit {l : Launch} {g : Gh} {M0 : Mem} {p0 : Int32} {post : Int32 → Mem → Prop}  (hq : wp_X10_isDigit  g M0 p0 post) : Ct l g yX10_isDigit cX10_isDigit 1 (some .boolean) 0 0 0 [.int p0] M0 (pI post) := by
  unfold wp_X10_isDigit at hq
  refine Ct.of (by decide) (Nat.le_of_ble_eq_true rfl) ?_
  intro p e s m below meth c ls C hr hlk hn hl hw
  have hx := C.1.1
  have hb := C.1.2.1
  have hl : lv_has ls 1 [(0, .int p0)] := hl
  refine lv_iload_n hx hb dX10_isDigit_0 rfl (lv_at hl 0 rfl) ?_
  refine lv_bipush (v := 48) hx hb dX10_isDigit_1 (by decide) ?_
  refine lv_icmp_lt (tgt := 16) hx hb dX10_isDigit_3 (by decide) (fun c1 => ?_) (fun c1 => ?_)
  · replace hq := hq.1 c1
    refine lv_iconst (v := 0) hx hb dX10_isDigit_16 (by decide) ?_
    exact r_zret C hr hlk hw dX10_isDigit_17 (Nat.le_refl _) (Nat.le_refl _) (by decide) ⟨_, rfl, hq⟩
  · replace hq := hq.2 c1
    refine lv_iload_n hx hb dX10_isDigit_6 rfl (lv_at hl 0 rfl) ?_
    refine lv_bipush (v := 57) hx hb dX10_isDigit_7 (by decide) ?_
    refine lv_icmp_gt (tgt := 16) hx hb dX10_isDigit_9 (by decide) (fun c2 => ?_) (fun c2 => ?_)
    · replace hq := hq.1 c2
      refine lv_iconst (v := 0) hx hb dX10_isDigit_16 (by decide) ?_
      exact r_zret C hr hlk hw dX10_isDigit_17 (Nat.le_refl _) (Nat.le_refl _) (by decide) ⟨_, rfl, hq⟩
    · replace hq := hq.2 c2
      refine lv_iconst (v := 1) hx hb dX10_isDigit_12 (by decide) ?_
      refine lv_goto (tgt := 17) hx hb dX10_isDigit_13 (by decide) ?_
      exact r_zret C hr hlk hw dX10_isDigit_17 (Nat.le_refl _) (Nat.le_refl _) (by decide) ⟨_, rfl, hq⟩

set_option maxRecDepth 100000 in
def lb_X10_setRun_24  (g : Gh) (M0 : Mem) (a0 : Nat) (p1 : Int32) (p2 : Int32) (p3 : Int64) (p5 : Int32) (post : Mem → Prop)    (M : Mem) : Prop :=
  ((p1 = 0) → ((6 < p2) → ∀ M5, M5 = uI M a0 2 3 → (post M5)) ∧ (¬ (6 < p2) → ∀ M7, M7 = uI M a0 2 2 → (∀ M9, M9 = uJ M7 a0 4 (Int32.toInt64 p5) → (post M9)))) ∧ (¬ (p1 = 0) → ∀ M2, M2 = uI M a0 2 3 → (post M2))
set_option maxRecDepth 100000 in
def wp_X10_setRun  (g : Gh) (M0 : Mem) (a0 : Nat) (p1 : Int32) (p2 : Int32) (p3 : Int64) (p5 : Int32) (post : Mem → Prop) : Prop :=
  okc (gB g) M0 a0 10 ∧ (((p2 = 0) → ((12 < p1) → lb_X10_setRun_24  g M0 a0 p1 p2 p3 p5 post   M0) ∧ (¬ (12 < p1) → ∀ M13, M13 = uI M0 a0 2 1 → (∀ M15, M15 = uJ M13 a0 4 (-p3) → (post M15)))) ∧ (¬ (p2 = 0) → lb_X10_setRun_24  g M0 a0 p1 p2 p3 p5 post   M0))
set_option maxHeartbeats 4000000 in
set_option maxRecDepth 100000 in
theorem lt_X10_setRun_24 {l : Launch} {g : Gh} {p : Program} {e : Env} {s : State} {m : MethodId} {args : Array Value} {below : List Frame} {meth : Method} {c : Code} {H : Heap} {locs : List Loc} {ls : Array Slot} {M0 M : Mem} {a0 : Nat} {p1 : Int32} {p2 : Int32} {p3 : Int64} {p5 : Int32} {post : Mem → Prop}    (C : Cx g p s m args c cX10_setRun 6 RX10) (hr : meth.sig.returnType = none) (hlk : meth.locks = false) (hn : meth.name = "setRun") (h0 : okc (gB g) M0 a0 10)  (hq : lb_X10_setRun_24  g M0 a0 p1 p2 p3 p5 post   M) (hw : Wd g s M0 M H locs) (hl : lv_has ls 6 [(0, .ref a0), (1, .int p1), (2, .int p2), (3, .long p3), (5, .int p5)]) : W p l e (rmo 0 0 0) s m args below meth c H locs 0 0 (MQ below (Cq g M0 (pV post)) args s 0 0 (gA g)) (F0 m 24 ls []) := by
  have hx := C.1.1
  have hb := C.1.2.1
  unfold lb_X10_setRun_24 at hq
  refine lv_iload_n hx hb dX10_setRun_24 rfl (lv_at hl 1 rfl) ?_
  refine lv_if_ne (tgt := 49) hx hb dX10_setRun_25 (by decide) (fun c1 => ?_) (fun c1 => ?_)
  · replace hq := hq.2 c1
    refine lv_aload_n hx hb dX10_setRun_49 rfl (lv_at hl 0 rfl) ?_
    refine lv_iconst (v := 3) hx hb dX10_setRun_50 (by decide) ?_
    refine pfX10_19 C hw hw.2.2.1 h0 dX10_setRun_51 (fun H locs hw => ?_)
    generalize e3 : uI M a0 2 3 = M2 at hw
    replace hq := hq M2 e3.symm
    exact r_vret C hr hlk hw dX10_setRun_54 (Nat.le_refl _) (Nat.le_refl _) ⟨rfl, hq⟩
  · replace hq := hq.1 c1
    refine lv_iload_n hx hb dX10_setRun_28 rfl (lv_at hl 2 rfl) ?_
    refine lv_bipush (v := 6) hx hb dX10_setRun_29 (by decide) ?_
    refine lv_icmp_gt (tgt := 49) hx hb dX10_setRun_31 (by decide) (fun c4 => ?_) (fun c4 => ?_)
    · replace hq := hq.1 c4
      refine lv_aload_n hx hb dX10_setRun_49 rfl (lv_at hl 0 rfl) ?_
      refine lv_iconst (v := 3) hx hb dX10_setRun_50 (by decide) ?_
      refine pfX10_19 C hw hw.2.2.1 h0 dX10_setRun_51 (fun H locs hw => ?_)
      generalize e6 : uI M a0 2 3 = M5 at hw
      replace hq := hq M5 e6.symm
      exact r_vret C hr hlk hw dX10_setRun_54 (Nat.le_refl _) (Nat.le_refl _) ⟨rfl, hq⟩
    · replace hq := hq.2 c4
      refine lv_aload_n hx hb dX10_setRun_34 rfl (lv_at hl 0 rfl) ?_
      refine lv_iconst (v := 2) hx hb dX10_setRun_35 (by decide) ?_
      refine pfX10_19 C hw hw.2.2.1 h0 dX10_setRun_36 (fun H locs hw => ?_)
      generalize e8 : uI M a0 2 2 = M7 at hw
      replace hq := hq M7 e8.symm
      refine lv_aload_n hx hb dX10_setRun_39 rfl (lv_at hl 0 rfl) ?_
      refine lv_iload hx hb dX10_setRun_40 (lv_at hl 4 rfl) ?_
      refine lv_i2l (v := (Int32.toInt64 p5)) hx hb dX10_setRun_42 rfl ?_
      refine pfX10_25 C hw hw.2.2.1 h0 dX10_setRun_43 (fun H locs hw => ?_)
      generalize e10 : uJ M7 a0 4 (Int32.toInt64 p5) = M9 at hw
      replace hq := hq M9 e10.symm
      refine lv_goto (tgt := 54) hx hb dX10_setRun_46 (by decide) ?_
      exact r_vret C hr hlk hw dX10_setRun_54 (Nat.le_refl _) (Nat.le_refl _) ⟨rfl, hq⟩
set_option maxHeartbeats 4000000 in
set_option maxRecDepth 100000 in
theorem ct_X10_setRun {l : Launch} {g : Gh} {M0 : Mem} {a0 : Nat} {p1 : Int32} {p2 : Int32} {p3 : Int64} {p5 : Int32} {post : Mem → Prop}  (hq : wp_X10_setRun  g M0 a0 p1 p2 p3 p5 post) : Ct l g yX10_setRun cX10_setRun 6 none 0 0 0 [.ref a0, .int p1, .int p2, .long p3, .int p5] M0 (pV post) := by
  unfold wp_X10_setRun at hq
  obtain ⟨h0, hq⟩ := hq
  refine Ct.of (by decide) (Nat.le_of_ble_eq_true rfl) ?_
  intro p e s m below meth c ls C hr hlk hn hl hw
  have hx := C.1.1
  have hb := C.1.2.1
  have hl : lv_has ls 6 [(0, .ref a0), (1, .int p1), (2, .int p2), (3, .long p3), (5, .int p5)] := hl
  refine lv_iload_n hx hb dX10_setRun_0 rfl (lv_at hl 2 rfl) ?_
  refine lv_if_ne (tgt := 24) hx hb dX10_setRun_1 (by decide) (fun c11 => ?_) (fun c11 => ?_)
  · replace hq := hq.2 c11
    exact lt_X10_setRun_24  C hr hlk hn h0  hq hw (lv_sub hl [0, 1, 2, 3, 4] rfl)
  · replace hq := hq.1 c11
    refine lv_iload_n hx hb dX10_setRun_4 rfl (lv_at hl 1 rfl) ?_
    refine lv_bipush (v := 12) hx hb dX10_setRun_5 (by decide) ?_
    refine lv_icmp_gt (tgt := 24) hx hb dX10_setRun_7 (by decide) (fun c12 => ?_) (fun c12 => ?_)
    · replace hq := hq.1 c12
      exact lt_X10_setRun_24  C hr hlk hn h0  hq hw (lv_sub hl [0, 1, 2, 3, 4] rfl)
    · replace hq := hq.2 c12
      refine lv_aload_n hx hb dX10_setRun_10 rfl (lv_at hl 0 rfl) ?_
      refine lv_iconst (v := 1) hx hb dX10_setRun_11 (by decide) ?_
      refine pfX10_19 C hw hw.2.2.1 h0 dX10_setRun_12 (fun H locs hw => ?_)
      generalize e14 : uI M0 a0 2 1 = M13 at hw
      replace hq := hq M13 e14.symm
      refine lv_aload_n hx hb dX10_setRun_15 rfl (lv_at hl 0 rfl) ?_
      refine lv_lload_n hx hb dX10_setRun_16 rfl (lv_at hl 3 rfl) ?_
      refine lv_lneg hx hb dX10_setRun_17 ?_
      refine pfX10_25 C hw hw.2.2.1 h0 dX10_setRun_18 (fun H locs hw => ?_)
      generalize e16 : uJ M13 a0 4 (-p3) = M15 at hw
      replace hq := hq M15 e16.symm
      refine lv_goto (tgt := 54) hx hb dX10_setRun_21 (by decide) ?_
      exact r_vret C hr hlk hw dX10_setRun_54 (Nat.le_refl _) (Nat.le_refl _) ⟨rfl, hq⟩

set_option maxRecDepth 100000 in
def lb_X10_readRun_91  (g : Gh) (M0 : Mem) (a0 : Nat) (post : Mem → Prop)  (x1 : Int32) (x2 : Int32) (x3 : Int64) (x5 : Int32)  (M : Mem) : Prop :=
  ∀ M1, M1 = uI M a0 5 (((mI M a0 3) + x1) + x2) → (wp_X10_setRun g M1 a0 x1 x2 x3 x5 (fun M4 => post M4))
set_option maxRecDepth 100000 in
def bd_X10_readRun_15  (g : Gh) (M0 : Mem) (a0 : Nat) (post : Mem → Prop)  (bk15 : Int32 × Int32 × Int64 × Int32 × Int32 × Mem → Prop) (x1 : Int32) (x2 : Int32) (x3 : Int64) (x5 : Int32) (x6 : Int32)  (M : Mem) : Prop :=
  (((mI M a0 1) ≤ x6) → lb_X10_readRun_91  g M0 a0 post  x1 x2 x3 x5 M) ∧ (¬ ((mI M a0 1) ≤ x6) → wp_X10_byteAt g M a0 x6 (fun v6 M7 => wp_X10_isLetter g M7 v6 (fun v8 M9 => ((v8 = 0) → wp_X10_isDigit g M9 v6 (fun v11 M12 => ((v11 = 0) → lb_X10_readRun_91  g M0 a0 post  x1 x2 x3 x5 M12) ∧ (¬ (v11 = 0) → bk15 (x1, (x2 + 1), x3, ((x5 * 10) + (v6 - 48)), (x6 + 1), M12)))) ∧ (¬ (v8 = 0) → bk15 ((x1 + 1), x2, ((x3 * 27) + (Int32.toInt64 ((v6 - 97) + 1))), x5, (x6 + 1), M9)))))
set_option maxRecDepth 100000 in
def wp_X10_readRun  (g : Gh) (M0 : Mem) (a0 : Nat) (post : Mem → Prop) : Prop :=
  okc (gB g) M0 a0 10 ∧ ((∃ n : Nat, lfp (fun bk z => bd_X10_readRun_15  g M0 a0 post  bk z.1 z.2.1 z.2.2.1 z.2.2.2.1 z.2.2.2.2.1 z.2.2.2.2.2) n (0, 0, 0, 0, (mI M0 a0 3), M0)))
set_option maxHeartbeats 4000000 in
set_option maxRecDepth 100000 in
theorem lt_X10_readRun_91 {l : Launch} {g : Gh} {p : Program} {e : Env} {s : State} {m : MethodId} {args : Array Value} {below : List Frame} {meth : Method} {c : Code} {H : Heap} {locs : List Loc} {ls : Array Slot} {M0 M : Mem} {a0 : Nat} {post : Mem → Prop} {x1 : Int32} {x2 : Int32} {x3 : Int64} {x5 : Int32}   (C : Cx g p s m args c cX10_readRun 8 RX10) (hr : meth.sig.returnType = none) (hlk : meth.locks = false) (hn : meth.name = "readRun") (h0 : okc (gB g) M0 a0 10)  (hq : lb_X10_readRun_91  g M0 a0 post  x1 x2 x3 x5 M) (hw : Wd g s M0 M H locs) (hl : lv_has ls 8 [(0, .ref a0), (1, .int x1), (2, .int x2), (3, .long x3), (5, .int x5)]) : W p l e (rmo 1 0 0) s m args below meth c H locs 0 0 (MQ below (Cq g M0 (pV post)) args s 0 0 (gA g)) (F0 m 91 ls []) := by
  have hx := C.1.1
  have hb := C.1.2.1
  unfold lb_X10_readRun_91 at hq
  refine lv_aload_n hx hb dX10_readRun_91 rfl (lv_at hl 0 rfl) ?_
  refine lv_aload_n hx hb dX10_readRun_92 rfl (lv_at hl 0 rfl) ?_
  refine gfX10_22 C hw hw.2.2.1 h0 dX10_readRun_93 ?_
  refine lv_iload_n hx hb dX10_readRun_96 rfl (lv_at hl 1 rfl) ?_
  refine lv_iadd hx hb dX10_readRun_97 ?_
  refine lv_iload_n hx hb dX10_readRun_98 rfl (lv_at hl 2 rfl) ?_
  refine lv_iadd hx hb dX10_readRun_99 ?_
  refine pfX10_29 C hw hw.2.2.1 h0 dX10_readRun_100 (fun H locs hw => ?_)
  generalize e2 : uI M a0 5 (((mI M a0 3) + x1) + x2) = M1 at hw
  replace hq := hq M1 e2.symm
  refine lv_aload_n hx hb dX10_readRun_103 rfl (lv_at hl 0 rfl) ?_
  refine lv_iload_n hx hb dX10_readRun_104 rfl (lv_at hl 1 rfl) ?_
  refine lv_iload_n hx hb dX10_readRun_105 rfl (lv_at hl 2 rfl) ?_
  refine lv_lload_n hx hb dX10_readRun_106 rfl (lv_at hl 3 rfl) ?_
  refine lv_iload hx hb dX10_readRun_107 (lv_at hl 4 rfl) ?_
  refine r_callV (T := TX10) (N := 6) (ci := 10) (index := 65) (n := 4) (d2 := 0) (mc := 0) (ms := 0) (As := [.int x1, .int x2, .long x3, .int x5]) (rest := []) C hw (ct_X10_setRun hq) kvX10_65 hq.1 (by decide) rfl ⟨by decide, by decide⟩ ⟨by decide, by decide⟩ rfl hl.1 rfl (Nat.le_of_ble_eq_true rfl) dX10_readRun_109 (fun r M4 H locs hp hle hw => ?_)
  obtain ⟨rfl, hq⟩ := hp
  refine W.eq (g2 := F0 m 112 ls []) rfl ?_
  exact r_vret C hr hlk hw dX10_readRun_112 (Nat.le_refl _) (Nat.le_refl _) ⟨rfl, hq⟩
set_option maxHeartbeats 4000000 in
set_option maxRecDepth 100000 in
theorem lp_X10_readRun_15 {l : Launch} {g : Gh} {p : Program} {e : Env} {s : State} {m : MethodId} {args : Array Value} {below : List Frame} {meth : Method} {c : Code} {M0 : Mem} {a0 : Nat} {post : Mem → Prop}  (C : Cx g p s m args c cX10_readRun 8 RX10) (hr : meth.sig.returnType = none) (hlk : meth.locks = false) (hn : meth.name = "readRun") (h0 : okc (gB g) M0 a0 10)  : ∀ (nf : Nat) (x1 : Int32) (x2 : Int32) (x3 : Int64) (x5 : Int32) (x6 : Int32)  (M : Mem) (H : Heap) (locs : List Loc) (ls : Array Slot), lfp (fun bk z => bd_X10_readRun_15  g M0 a0 post  bk z.1 z.2.1 z.2.2.1 z.2.2.2.1 z.2.2.2.2.1 z.2.2.2.2.2) nf (x1, x2, x3, x5, x6, M) → Wd g s M0 M H locs → lv_has ls 8 [(0, .ref a0), (1, .int x1), (2, .int x2), (3, .long x3), (5, .int x5), (6, .int x6)] → W p l e (rmo 1 0 0) s m args below meth c H locs 0 0 (MQ below (Cq g M0 (pV post)) args s 0 0 (gA g)) (F0 m 15 ls []) := by
  have hx := C.1.1
  have hb := C.1.2.1
  intro nf
  induction nf with
  | zero => intro _ _ _ _ _ _ H locs ls hq; exact hq.elim
  | succ nf hk15 =>
    intro x1 x2 x3 x5 x6 M H locs ls hq hw hl
    replace hq : bd_X10_readRun_15  g M0 a0 post  (lfp (fun bk z => bd_X10_readRun_15  g M0 a0 post  bk z.1 z.2.1 z.2.2.1 z.2.2.2.1 z.2.2.2.2.1 z.2.2.2.2.2) nf) x1 x2 x3 x5 x6 M := hq
    unfold bd_X10_readRun_15 at hq
    refine lv_iload hx hb dX10_readRun_15 (lv_at hl 5 rfl) ?_
    refine lv_aload_n hx hb dX10_readRun_17 rfl (lv_at hl 0 rfl) ?_
    refine gfX10_15 C hw hw.2.2.1 h0 dX10_readRun_18 ?_
    refine lv_icmp_ge (tgt := 91) hx hb dX10_readRun_21 (by decide) (fun c5 => ?_) (fun c5 => ?_)
    · replace hq := hq.1 c5
      exact lt_X10_readRun_91  C hr hlk hn h0  hq hw (lv_sub hl [0, 1, 2, 3, 4] rfl)
    · replace hq := hq.2 c5
      refine lv_aload_n hx hb dX10_readRun_24 rfl (lv_at hl 0 rfl) ?_
      refine lv_iload hx hb dX10_readRun_25 (lv_at hl 5 rfl) ?_
      refine r_callV (T := TX10) (N := 6) (ci := 10) (index := 35) (n := 1) (d2 := 0) (mc := 0) (ms := 0) (As := [.int x6]) (rest := []) C hw (ct_X10_byteAt hq) kvX10_35 hq.1 (by decide) rfl ⟨by decide, by decide⟩ ⟨by decide, by decide⟩ rfl hl.1 rfl (Nat.le_of_ble_eq_true rfl) dX10_readRun_27 (fun r M7 H locs hp hle hw => ?_)
      obtain ⟨v6, rfl, hq⟩ := hp
      refine W.eq (g2 := F0 m 30 ls [.int v6]) rfl ?_
      refine lv_istore (lv' := [(7, .int v6), (0, .ref a0), (1, .int x1), (2, .int x2), (3, .long x3), (5, .int x5), (6, .int x6)]) hx hb dX10_readRun_30 hl (by decide) rfl (fun ls hl => ?_)
      refine lv_iload hx hb dX10_readRun_32 (lv_at hl 0 rfl) ?_
      refine r_callS (index := 39) (n := 1) (d2 := 0) (mc := 0) (ms := 0) (As := [.int v6]) (rest := []) C hw (ct_X10_isLetter hq) ksX10_39 ⟨by decide, by decide⟩ ⟨by decide, by decide⟩ rfl hl.1 rfl (Nat.le_of_ble_eq_true rfl) dX10_readRun_34 (fun r M9 H locs hp hle hw => ?_)
      obtain ⟨v8, rfl, hq⟩ := hp
      refine W.eq (g2 := F0 m 37 ls [.int v8]) rfl ?_
      refine lv_if_eq (tgt := 61) hx hb dX10_readRun_37 (by decide) (fun c10 => ?_) (fun c10 => ?_)
      · replace hq := hq.1 c10
        refine lv_iload hx hb dX10_readRun_61 (lv_at hl 0 rfl) ?_
        refine r_callS (index := 43) (n := 1) (d2 := 0) (mc := 0) (ms := 0) (As := [.int v6]) (rest := []) C hw (ct_X10_isDigit hq) ksX10_43 ⟨by decide, by decide⟩ ⟨by decide, by decide⟩ rfl hl.1 rfl (Nat.le_of_ble_eq_true rfl) dX10_readRun_63 (fun r M12 H locs hp hle hw => ?_)
        obtain ⟨v11, rfl, hq⟩ := hp
        refine W.eq (g2 := F0 m 66 ls [.int v11]) rfl ?_
        refine lv_if_eq (tgt := 91) hx hb dX10_readRun_66 (by decide) (fun c13 => ?_) (fun c13 => ?_)
        · replace hq := hq.1 c13
          exact lt_X10_readRun_91  C hr hlk hn h0  hq hw (lv_sub hl [1, 2, 3, 4, 5] rfl)
        · replace hq := hq.2 c13
          refine lv_iinc (v := (x2 + 1)) (lv' := [(2, .int (x2 + 1)), (7, .int v6), (0, .ref a0), (1, .int x1), (3, .long x3), (5, .int x5), (6, .int x6)]) hx hb dX10_readRun_69 hl (k := 3) rfl rfl (by decide) rfl (fun ls hl => ?_)
          refine lv_iload hx hb dX10_readRun_72 (lv_at hl 5 rfl) ?_
          refine lv_bipush (v := 10) hx hb dX10_readRun_74 (by decide) ?_
          refine lv_imul hx hb dX10_readRun_76 ?_
          refine lv_iload hx hb dX10_readRun_77 (lv_at hl 1 rfl) ?_
          refine lv_bipush (v := 48) hx hb dX10_readRun_79 (by decide) ?_
          refine lv_isub hx hb dX10_readRun_81 ?_
          refine lv_iadd hx hb dX10_readRun_82 ?_
          refine lv_istore (lv' := [(5, .int ((x5 * 10) + (v6 - 48))), (2, .int (x2 + 1)), (7, .int v6), (0, .ref a0), (1, .int x1), (3, .long x3), (6, .int x6)]) hx hb dX10_readRun_83 hl (by decide) rfl (fun ls hl => ?_)
          refine lv_iinc (v := (x6 + 1)) (lv' := [(6, .int (x6 + 1)), (5, .int ((x5 * 10) + (v6 - 48))), (2, .int (x2 + 1)), (7, .int v6), (0, .ref a0), (1, .int x1), (3, .long x3)]) hx hb dX10_readRun_85 hl (k := 6) rfl rfl (by decide) rfl (fun ls hl => ?_)
          refine lv_goto (tgt := 15) hx hb dX10_readRun_88 (by decide) ?_
          exact hk15 _ _ _ _ _ _ _ _ _ hq hw (lv_sub hl [4, 5, 2, 6, 1, 0] rfl)
      · replace hq := hq.2 c10
        refine lv_iinc (v := (x1 + 1)) (lv' := [(1, .int (x1 + 1)), (7, .int v6), (0, .ref a0), (2, .int x2), (3, .long x3), (5, .int x5), (6, .int x6)]) hx hb dX10_readRun_40 hl (k := 2) rfl rfl (by decide) rfl (fun ls hl => ?_)
        refine lv_lload_n hx hb dX10_readRun_43 rfl (lv_at hl 4 rfl) ?_
        refine lv_ldc2 (v := 27) hx hb C.1.2.2.2.1 (C.1.2.2.2.2 _ w_446) dX10_readRun_44 ?_
        refine lv_lmul hx hb dX10_readRun_47 ?_
        refine lv_iload hx hb dX10_readRun_48 (lv_at hl 1 rfl) ?_
        refine lv_bipush (v := 97) hx hb dX10_readRun_50 (by decide) ?_
        refine lv_isub hx hb dX10_readRun_52 ?_
        refine lv_iconst (v := 1) hx hb dX10_readRun_53 (by decide) ?_
        refine lv_iadd hx hb dX10_readRun_54 ?_
        refine lv_i2l (v := (Int32.toInt64 ((v6 - 97) + 1))) hx hb dX10_readRun_55 rfl ?_
        refine lv_ladd hx hb dX10_readRun_56 ?_
        refine lv_lstore_n (lv' := [(3, .long ((x3 * 27) + (Int32.toInt64 ((v6 - 97) + 1)))), (1, .int (x1 + 1)), (7, .int v6), (0, .ref a0), (2, .int x2), (5, .int x5), (6, .int x6)]) hx hb dX10_readRun_57 rfl hl (by decide) rfl (fun ls hl => ?_)
        refine lv_goto (tgt := 85) hx hb dX10_readRun_58 (by decide) ?_
        refine lv_iinc (v := (x6 + 1)) (lv' := [(6, .int (x6 + 1)), (3, .long ((x3 * 27) + (Int32.toInt64 ((v6 - 97) + 1)))), (1, .int (x1 + 1)), (7, .int v6), (0, .ref a0), (2, .int x2), (5, .int x5)]) hx hb dX10_readRun_85 hl (k := 6) rfl rfl (by decide) rfl (fun ls hl => ?_)
        refine lv_goto (tgt := 15) hx hb dX10_readRun_88 (by decide) ?_
        exact hk15 _ _ _ _ _ _ _ _ _ hq hw (lv_sub hl [4, 2, 5, 1, 6, 0] rfl)
set_option maxHeartbeats 4000000 in
set_option maxRecDepth 100000 in
theorem ct_X10_readRun {l : Launch} {g : Gh} {M0 : Mem} {a0 : Nat} {post : Mem → Prop}  (hq : wp_X10_readRun  g M0 a0 post) : Ct l g yX10_readRun cX10_readRun 8 none 1 0 0 [.ref a0] M0 (pV post) := by
  unfold wp_X10_readRun at hq
  obtain ⟨h0, hq⟩ := hq
  refine Ct.of (by decide) (Nat.le_of_ble_eq_true rfl) ?_
  intro p e s m below meth c ls C hr hlk hn hl hw
  have hx := C.1.1
  have hb := C.1.2.1
  have hl : lv_has ls 8 [(0, .ref a0)] := hl
  refine lv_iconst (v := 0) hx hb dX10_readRun_0 (by decide) ?_
  refine lv_istore_n (lv' := [(1, .int 0), (0, .ref a0)]) hx hb dX10_readRun_1 rfl hl (by decide) rfl (fun ls hl => ?_)
  refine lv_iconst (v := 0) hx hb dX10_readRun_2 (by decide) ?_
  refine lv_istore_n (lv' := [(2, .int 0), (1, .int 0), (0, .ref a0)]) hx hb dX10_readRun_3 rfl hl (by decide) rfl (fun ls hl => ?_)
  refine lv_lconst (v := 0) hx hb dX10_readRun_4 (by decide) ?_
  refine lv_lstore_n (lv' := [(3, .long 0), (2, .int 0), (1, .int 0), (0, .ref a0)]) hx hb dX10_readRun_5 rfl hl (by decide) rfl (fun ls hl => ?_)
  refine lv_iconst (v := 0) hx hb dX10_readRun_6 (by decide) ?_
  refine lv_istore (lv' := [(5, .int 0), (3, .long 0), (2, .int 0), (1, .int 0), (0, .ref a0)]) hx hb dX10_readRun_7 hl (by decide) rfl (fun ls hl => ?_)
  refine lv_aload_n hx hb dX10_readRun_9 rfl (lv_at hl 4 rfl) ?_
  refine gfX10_22 C hw hw.2.2.1 h0 dX10_readRun_10 ?_
  refine lv_istore (lv' := [(6, .int (mI M0 a0 3)), (5, .int 0), (3, .long 0), (2, .int 0), (1, .int 0), (0, .ref a0)]) hx hb dX10_readRun_13 hl (by decide) rfl (fun ls hl => ?_)
  obtain ⟨nf, hq⟩ := hq
  exact lp_X10_readRun_15  C hr hlk hn h0  nf _ _ _ _ _ _ _ _ _ hq hw (lv_sub hl [5, 4, 3, 2, 1, 0] rfl)

set_option maxRecDepth 100000 in
def wp_J0_isLatin1_aae02  (g : Gh) (M0 : Mem) (i : Nat) (post : Int32 → Mem → Prop) : Prop :=
  i < 14 ∧ ((((1 : Int32) = 0) → post 0 M0) ∧ (¬ ((1 : Int32) = 0) → (((0 : Int32) = 0) → post 1 M0) ∧ (¬ ((0 : Int32) = 0) → post 0 M0)))
set_option maxHeartbeats 4000000 in
set_option maxRecDepth 100000 in
theorem ct_J0_isLatin1_aae02 {l : Launch} {g : Gh} {M0 : Mem} {i : Nat} {post : Int32 → Mem → Prop}  (hq : wp_J0_isLatin1_aae02  g M0 i post) : Ct l g yJ0_isLatin1_aae02 cJ0_isLatin1_aae02 1 (some .boolean) 0 0 0 [.ref (gK g i)] M0 (pI post) := by
  unfold wp_J0_isLatin1_aae02 at hq
  obtain ⟨h0, hq⟩ := hq
  refine Ct.of (by decide) (Nat.le_of_ble_eq_true rfl) ?_
  intro p e s m below meth c ls C hr hlk hn hl hw
  have hx := C.1.1
  have hb := C.1.2.1
  have hl : lv_has ls 1 [(0, .ref (gK g i))] := hl
  refine va_gets hx hb C.2.2.2.2.1.2.2.1 hw.2.2.2 C.1.2.2.2.1 (C.1.2.2.2.2 _ w_467) (fun _ h => h) dJ0_isLatin1_aae02_0 ?_
  refine lv_if_eq (tgt := 17) hx hb dJ0_isLatin1_aae02_3 (by decide) (fun c1 => ?_) (fun c1 => ?_)
  · replace hq := hq.1 c1
    refine lv_iconst (v := 0) hx hb dJ0_isLatin1_aae02_17 (by decide) ?_
    exact r_zret C hr hlk hw dJ0_isLatin1_aae02_18 (Nat.le_refl _) (Nat.le_refl _) (by decide) ⟨_, rfl, hq⟩
  · replace hq := hq.2 c1
    refine lv_aload_n hx hb dJ0_isLatin1_aae02_6 rfl (lv_at hl 0 rfl) ?_
    refine r_scod C hw h0 w_1608 dJ0_isLatin1_aae02_7 ?_
    refine lv_if_ne (tgt := 17) hx hb dJ0_isLatin1_aae02_10 (by decide) (fun c2 => ?_) (fun c2 => ?_)
    · replace hq := hq.2 c2
      refine lv_iconst (v := 0) hx hb dJ0_isLatin1_aae02_17 (by decide) ?_
      exact r_zret C hr hlk hw dJ0_isLatin1_aae02_18 (Nat.le_refl _) (Nat.le_refl _) (by decide) ⟨_, rfl, hq⟩
    · replace hq := hq.1 c2
      refine lv_iconst (v := 1) hx hb dJ0_isLatin1_aae02_13 (by decide) ?_
      refine lv_goto (tgt := 18) hx hb dJ0_isLatin1_aae02_14 (by decide) ?_
      exact r_zret C hr hlk hw dJ0_isLatin1_aae02_18 (Nat.le_refl _) (Nat.le_refl _) (by decide) ⟨_, rfl, hq⟩

set_option maxRecDepth 100000 in
def wp_J0_coder_7d493  (g : Gh) (M0 : Mem) (i : Nat) (post : Int32 → Mem → Prop) : Prop :=
  i < 14 ∧ ((((1 : Int32) = 0) → post 1 M0) ∧ (¬ ((1 : Int32) = 0) → post 0 M0))
set_option maxHeartbeats 4000000 in
set_option maxRecDepth 100000 in
theorem ct_J0_coder_7d493 {l : Launch} {g : Gh} {M0 : Mem} {i : Nat} {post : Int32 → Mem → Prop}  (hq : wp_J0_coder_7d493  g M0 i post) : Ct l g yJ0_coder_7d493 cJ0_coder_7d493 1 (some .byte) 0 0 0 [.ref (gK g i)] M0 (pI post) := by
  unfold wp_J0_coder_7d493 at hq
  obtain ⟨h0, hq⟩ := hq
  refine Ct.of (by decide) (Nat.le_of_ble_eq_true rfl) ?_
  intro p e s m below meth c ls C hr hlk hn hl hw
  have hx := C.1.1
  have hb := C.1.2.1
  have hl : lv_has ls 1 [(0, .ref (gK g i))] := hl
  refine va_gets hx hb C.2.2.2.2.1.2.2.1 hw.2.2.2 C.1.2.2.2.1 (C.1.2.2.2.2 _ w_467) (fun _ h => h) dJ0_coder_7d493_0 ?_
  refine lv_if_eq (tgt := 13) hx hb dJ0_coder_7d493_3 (by decide) (fun c1 => ?_) (fun c1 => ?_)
  · replace hq := hq.1 c1
    refine lv_iconst (v := 1) hx hb dJ0_coder_7d493_13 (by decide) ?_
    exact r_nret C hr hlk hw dJ0_coder_7d493_14 (Nat.le_refl _) (Nat.le_refl _) rfl ⟨_, rfl, hq⟩
  · replace hq := hq.2 c1
    refine lv_aload_n hx hb dJ0_coder_7d493_6 rfl (lv_at hl 0 rfl) ?_
    refine r_scod C hw h0 w_1608 dJ0_coder_7d493_7 ?_
    refine lv_goto (tgt := 14) hx hb dJ0_coder_7d493_10 (by decide) ?_
    exact r_nret C hr hlk hw dJ0_coder_7d493_14 (Nat.le_refl _) (Nat.le_refl _) rfl ⟨_, rfl, hq⟩

set_option maxRecDepth 100000 in
def wp_J0_length_8abf5  (g : Gh) (M0 : Mem) (i : Nat) (post : Int32 → Mem → Prop) : Prop :=
  i < 14 ∧ (wp_J0_coder_7d493 g M0 i (fun v1 M2 => post ((nI (stl.getD i 0)) >>> (v1 &&& 31)) M2))
set_option maxHeartbeats 4000000 in
set_option maxRecDepth 100000 in
theorem ct_J0_length_8abf5 {l : Launch} {g : Gh} {M0 : Mem} {i : Nat} {post : Int32 → Mem → Prop}  (hq : wp_J0_length_8abf5  g M0 i post) : Ct l g yJ0_length_8abf5 cJ0_length_8abf5 1 (some .int) 1 0 0 [.ref (gK g i)] M0 (pI post) := by
  unfold wp_J0_length_8abf5 at hq
  obtain ⟨h0, hq⟩ := hq
  refine Ct.of (by decide) (Nat.le_of_ble_eq_true rfl) ?_
  intro p e s m below meth c ls C hr hlk hn hl hw
  have hx := C.1.1
  have hb := C.1.2.1
  have hl : lv_has ls 1 [(0, .ref (gK g i))] := hl
  refine lv_aload_n hx hb dJ0_length_8abf5_0 rfl (lv_at hl 0 rfl) ?_
  refine r_sval C hw h0 w_1609 dJ0_length_8abf5_1 ?_
  refine r_slen C hw h0 dJ0_length_8abf5_4 ?_
  refine lv_aload_n hx hb dJ0_length_8abf5_5 rfl (lv_at hl 0 rfl) ?_
  refine r_callT (index := 335) (n := 0) (d2 := 0) (mc := 0) (ms := 0) (As := []) (rest := [.int (nI (stl.getD i 0))]) C hw (ct_J0_coder_7d493 hq) kvJ0_335 hq.1 ⟨by decide, by decide⟩ ⟨by decide, by decide⟩ rfl hl.1 rfl (Nat.le_of_ble_eq_true rfl) dJ0_length_8abf5_6 (fun r M2 H locs hp hle hw => ?_)
  obtain ⟨v1, rfl, hq⟩ := hp
  refine W.eq (g2 := F0 m 9 ls [.int v1, .int (nI (stl.getD i 0))]) rfl ?_
  refine lv_ishr hx hb dJ0_length_8abf5_9 ?_
  exact r_iret C hr hlk hw dJ0_length_8abf5_10 (Nat.le_refl _) (Nat.le_refl _) ⟨_, rfl, hq⟩

set_option maxRecDepth 100000 in
def wp_J1_canEncode_9a6ad  (g : Gh) (M0 : Mem) (p0 : Int32) (post : Int32 → Mem → Prop) : Prop :=
  ((p0 < 0) → post 0 M0) ∧ (¬ (p0 < 0) → ((255 < p0) → post 0 M0) ∧ (¬ (255 < p0) → post 1 M0))
set_option maxHeartbeats 4000000 in
set_option maxRecDepth 100000 in
theorem ct_J1_canEncode_9a6ad {l : Launch} {g : Gh} {M0 : Mem} {p0 : Int32} {post : Int32 → Mem → Prop}  (hq : wp_J1_canEncode_9a6ad  g M0 p0 post) : Ct l g yJ1_canEncode_9a6ad cJ1_canEncode_9a6ad 1 (some .boolean) 0 0 0 [.int p0] M0 (pI post) := by
  unfold wp_J1_canEncode_9a6ad at hq
  refine Ct.of (by decide) (Nat.le_of_ble_eq_true rfl) ?_
  intro p e s m below meth c ls C hr hlk hn hl hw
  have hx := C.1.1
  have hb := C.1.2.1
  have hl : lv_has ls 1 [(0, .int p0)] := hl
  refine lv_iload_n hx hb dJ1_canEncode_9a6ad_0 rfl (lv_at hl 0 rfl) ?_
  refine lv_if_lt (tgt := 15) hx hb dJ1_canEncode_9a6ad_1 (by decide) (fun c1 => ?_) (fun c1 => ?_)
  · replace hq := hq.1 c1
    refine lv_iconst (v := 0) hx hb dJ1_canEncode_9a6ad_15 (by decide) ?_
    exact r_zret C hr hlk hw dJ1_canEncode_9a6ad_16 (Nat.le_refl _) (Nat.le_refl _) (by decide) ⟨_, rfl, hq⟩
  · replace hq := hq.2 c1
    refine lv_iload_n hx hb dJ1_canEncode_9a6ad_4 rfl (lv_at hl 0 rfl) ?_
    refine lv_sipush (v := 255) hx hb dJ1_canEncode_9a6ad_5 (by decide) ?_
    refine lv_icmp_gt (tgt := 15) hx hb dJ1_canEncode_9a6ad_8 (by decide) (fun c2 => ?_) (fun c2 => ?_)
    · replace hq := hq.1 c2
      refine lv_iconst (v := 0) hx hb dJ1_canEncode_9a6ad_15 (by decide) ?_
      exact r_zret C hr hlk hw dJ1_canEncode_9a6ad_16 (Nat.le_refl _) (Nat.le_refl _) (by decide) ⟨_, rfl, hq⟩
    · replace hq := hq.2 c2
      refine lv_iconst (v := 1) hx hb dJ1_canEncode_9a6ad_11 (by decide) ?_
      refine lv_goto (tgt := 16) hx hb dJ1_canEncode_9a6ad_12 (by decide) ?_
      exact r_zret C hr hlk hw dJ1_canEncode_9a6ad_16 (Nat.le_refl _) (Nat.le_refl _) (by decide) ⟨_, rfl, hq⟩

set_option maxRecDepth 100000 in
def bd_J1_indexOfChar_4cfef_7  (g : Gh) (M0 : Mem) (i : Nat) (p1 : Int32) (p2 : Int32) (p3 : Int32) (post : Int32 → Mem → Prop)  (bk7 : Int32 × Int32 × Mem → Prop) (x4 : Int32) (x5 : Int32)  (M : Mem) : Prop :=
  ((p3 ≤ x5) → post (-1) M) ∧ (¬ (p3 ≤ x5) → vp_in x5 (stl.getD i 0) ∧ (((((stb.getD i []).getD (Int32.toNatClampNeg x5) 0) = x4) → post x5 M) ∧ (¬ (((stb.getD i []).getD (Int32.toNatClampNeg x5) 0) = x4) → bk7 (x4, (x5 + 1), M))))
set_option maxRecDepth 100000 in
def wp_J1_indexOfChar_4cfef  (g : Gh) (M0 : Mem) (i : Nat) (p1 : Int32) (p2 : Int32) (p3 : Int32) (post : Int32 → Mem → Prop) : Prop :=
  i < 14 ∧ ((∃ n : Nat, lfp (fun bk z => bd_J1_indexOfChar_4cfef_7  g M0 i p1 p2 p3 post  bk z.1 z.2.1 z.2.2) n (((Int32.toInt8 p1).toInt32), p2, M0)))
set_option maxHeartbeats 4000000 in
set_option maxRecDepth 100000 in
theorem lp_J1_indexOfChar_4cfef_7 {l : Launch} {g : Gh} {p : Program} {e : Env} {s : State} {m : MethodId} {args : Array Value} {below : List Frame} {meth : Method} {c : Code} {M0 : Mem} {i : Nat} {p1 : Int32} {p2 : Int32} {p3 : Int32} {post : Int32 → Mem → Prop}  (C : Cx g p s m args c cJ1_indexOfChar_4cfef 6 RJ1) (hr : meth.sig.returnType = (some .int)) (hlk : meth.locks = false) (hn : meth.name = "indexOfChar") (h0 : i < 14)  : ∀ (nf : Nat) (x4 : Int32) (x5 : Int32)  (M : Mem) (H : Heap) (locs : List Loc) (ls : Array Slot), lfp (fun bk z => bd_J1_indexOfChar_4cfef_7  g M0 i p1 p2 p3 post  bk z.1 z.2.1 z.2.2) nf (x4, x5, M) → Wd g s M0 M H locs → lv_has ls 6 [(0, .ref (gV g i)), (1, .int p1), (2, .int p2), (3, .int p3), (4, .int x4), (5, .int x5)] → W p l e (rmo 0 0 0) s m args below meth c H locs 0 0 (MQ below (Cq g M0 (pI post)) args s 0 0 (gA g)) (F0 m 7 ls []) := by
  have hx := C.1.1
  have hb := C.1.2.1
  intro nf
  induction nf with
  | zero => intro _ _ _ H locs ls hq; exact hq.elim
  | succ nf hk7 =>
    intro x4 x5 M H locs ls hq hw hl
    replace hq : bd_J1_indexOfChar_4cfef_7  g M0 i p1 p2 p3 post  (lfp (fun bk z => bd_J1_indexOfChar_4cfef_7  g M0 i p1 p2 p3 post  bk z.1 z.2.1 z.2.2) nf) x4 x5 M := hq
    unfold bd_J1_indexOfChar_4cfef_7 at hq
    refine lv_iload hx hb dJ1_indexOfChar_4cfef_7 (lv_at hl 5 rfl) ?_
    refine lv_iload_n hx hb dJ1_indexOfChar_4cfef_9 rfl (lv_at hl 3 rfl) ?_
    refine lv_icmp_ge (tgt := 31) hx hb dJ1_indexOfChar_4cfef_10 (by decide) (fun c1 => ?_) (fun c1 => ?_)
    · replace hq := hq.1 c1
      refine lv_iconst (v := (-1)) hx hb dJ1_indexOfChar_4cfef_31 (by decide) ?_
      exact r_iret C hr hlk hw dJ1_indexOfChar_4cfef_32 (Nat.le_refl _) (Nat.le_refl _) ⟨_, rfl, hq⟩
    · replace hq := hq.2 c1
      refine lv_aload_n hx hb dJ1_indexOfChar_4cfef_13 rfl (lv_at hl 0 rfl) ?_
      refine lv_iload hx hb dJ1_indexOfChar_4cfef_14 (lv_at hl 5 rfl) ?_
      obtain ⟨h2, hq⟩ := hq
      refine r_sbal C hw h0 h2 dJ1_indexOfChar_4cfef_16 ?_
      refine lv_iload hx hb dJ1_indexOfChar_4cfef_17 (lv_at hl 4 rfl) ?_
      refine lv_icmp_ne (tgt := 25) hx hb dJ1_indexOfChar_4cfef_19 (by decide) (fun c3 => ?_) (fun c3 => ?_)
      · replace hq := hq.2 c3
        refine lv_iinc (v := (x5 + 1)) (lv' := [(5, .int (x5 + 1)), (0, .ref (gV g i)), (1, .int p1), (2, .int p2), (3, .int p3), (4, .int x4)]) hx hb dJ1_indexOfChar_4cfef_25 hl (k := 5) rfl rfl (by decide) rfl (fun ls hl => ?_)
        refine lv_goto (tgt := 7) hx hb dJ1_indexOfChar_4cfef_28 (by decide) ?_
        exact hk7 _ _ _ _ _ _ hq hw (lv_sub hl [1, 2, 3, 4, 5, 0] rfl)
      · replace hq := hq.1 c3
        refine lv_iload hx hb dJ1_indexOfChar_4cfef_22 (lv_at hl 5 rfl) ?_
        exact r_iret C hr hlk hw dJ1_indexOfChar_4cfef_24 (Nat.le_refl _) (Nat.le_refl _) ⟨_, rfl, hq⟩
set_option maxHeartbeats 4000000 in
set_option maxRecDepth 100000 in
theorem ct_J1_indexOfChar_4cfef {l : Launch} {g : Gh} {M0 : Mem} {i : Nat} {p1 : Int32} {p2 : Int32} {p3 : Int32} {post : Int32 → Mem → Prop}  (hq : wp_J1_indexOfChar_4cfef  g M0 i p1 p2 p3 post) : Ct l g yJ1_indexOfChar_4cfef cJ1_indexOfChar_4cfef 6 (some .int) 0 0 0 [.ref (gV g i), .int p1, .int p2, .int p3] M0 (pI post) := by
  unfold wp_J1_indexOfChar_4cfef at hq
  obtain ⟨h0, hq⟩ := hq
  refine Ct.of (by decide) (Nat.le_of_ble_eq_true rfl) ?_
  intro p e s m below meth c ls C hr hlk hn hl hw
  have hx := C.1.1
  have hb := C.1.2.1
  have hl : lv_has ls 6 [(0, .ref (gV g i)), (1, .int p1), (2, .int p2), (3, .int p3)] := hl
  refine lv_iload_n hx hb dJ1_indexOfChar_4cfef_0 rfl (lv_at hl 1 rfl) ?_
  refine lv_i2b (v := ((Int32.toInt8 p1).toInt32)) hx hb dJ1_indexOfChar_4cfef_1 rfl ?_
  refine lv_istore (lv' := [(4, .int ((Int32.toInt8 p1).toInt32)), (0, .ref (gV g i)), (1, .int p1), (2, .int p2), (3, .int p3)]) hx hb dJ1_indexOfChar_4cfef_2 hl (by decide) rfl (fun ls hl => ?_)
  refine lv_iload_n hx hb dJ1_indexOfChar_4cfef_4 rfl (lv_at hl 3 rfl) ?_
  refine lv_istore (lv' := [(5, .int p2), (4, .int ((Int32.toInt8 p1).toInt32)), (0, .ref (gV g i)), (1, .int p1), (2, .int p2), (3, .int p3)]) hx hb dJ1_indexOfChar_4cfef_5 hl (by decide) rfl (fun ls hl => ?_)
  obtain ⟨nf, hq⟩ := hq
  exact lp_J1_indexOfChar_4cfef_7  C hr hlk hn h0  nf _ _ _ _ _ _ hq hw (lv_sub hl [2, 3, 4, 5, 1, 0] rfl)

set_option maxRecDepth 100000 in
def wp_J1_indexOf_4cfef  (g : Gh) (M0 : Mem) (i : Nat) (p1 : Int32) (p2 : Int32) (p3 : Int32) (post : Int32 → Mem → Prop) : Prop :=
  i < 14 ∧ (wp_J1_canEncode_9a6ad g M0 p1 (fun v1 M2 => ((v1 = 0) → post (-1) M2) ∧ (¬ (v1 = 0) → (((if p2 < 0 then 0 else p2) < (if (nI (stl.getD i 0)) < p3 then (nI (stl.getD i 0)) else p3)) → wp_J1_indexOfChar_4cfef g M2 i p1 (if p2 < 0 then 0 else p2) (if (nI (stl.getD i 0)) < p3 then (nI (stl.getD i 0)) else p3) (fun v5 M6 => post v5 M6)) ∧ (¬ ((if p2 < 0 then 0 else p2) < (if (nI (stl.getD i 0)) < p3 then (nI (stl.getD i 0)) else p3)) → post (-1) M2))))
set_option maxHeartbeats 4000000 in
set_option maxRecDepth 100000 in
theorem ct_J1_indexOf_4cfef {l : Launch} {g : Gh} {M0 : Mem} {i : Nat} {p1 : Int32} {p2 : Int32} {p3 : Int32} {post : Int32 → Mem → Prop}  (hq : wp_J1_indexOf_4cfef  g M0 i p1 p2 p3 post) : Ct l g yJ1_indexOf_4cfef cJ1_indexOf_4cfef 4 (some .int) 1 0 0 [.ref (gV g i), .int p1, .int p2, .int p3] M0 (pI post) := by
  unfold wp_J1_indexOf_4cfef at hq
  obtain ⟨h0, hq⟩ := hq
  refine Ct.of (by decide) (Nat.le_of_ble_eq_true rfl) ?_
  intro p e s m below meth c ls C hr hlk hn hl hw
  have hx := C.1.1
  have hb := C.1.2.1
  have hl : lv_has ls 4 [(0, .ref (gV g i)), (1, .int p1), (2, .int p2), (3, .int p3)] := hl
  refine lv_iload_n hx hb dJ1_indexOf_4cfef_0 rfl (lv_at hl 1 rfl) ?_
  refine r_callS (index := 88) (n := 1) (d2 := 0) (mc := 0) (ms := 0) (As := [.int p1]) (rest := []) C hw (ct_J1_canEncode_9a6ad hq) ksJ1_88 ⟨by decide, by decide⟩ ⟨by decide, by decide⟩ rfl hl.1 rfl (Nat.le_of_ble_eq_true rfl) dJ1_indexOf_4cfef_1 (fun r M2 H locs hp hle hw => ?_)
  obtain ⟨v1, rfl, hq⟩ := hp
  refine W.eq (g2 := F0 m 4 ls [.int v1]) rfl ?_
  refine lv_if_ne (tgt := 9) hx hb dJ1_indexOf_4cfef_4 (by decide) (fun c3 => ?_) (fun c3 => ?_)
  · replace hq := hq.2 c3
    refine lv_iload_n hx hb dJ1_indexOf_4cfef_9 rfl (lv_at hl 2 rfl) ?_
    refine lv_iconst (v := 0) hx hb dJ1_indexOf_4cfef_10 (by decide) ?_
    refine va_mmax hx hb (by rw [C.1.2.2.1]; exact hl.1.symm) C.1.2.2.2.1 (C.1.2.2.2.2 _ w_483) (C.1.2.2.2.2 _ w_484) (C.1.2.2.2.2 _ w_14) (C.1.2.2.2.2 _ w_485) (by decide) (Nat.le_of_ble_eq_true rfl) (by decide) (by decide) dJ1_indexOf_4cfef_11 ?_
    refine lv_istore_n (lv' := [(2, .int (if p2 < 0 then 0 else p2)), (0, .ref (gV g i)), (1, .int p1), (3, .int p3)]) hx hb dJ1_indexOf_4cfef_14 rfl hl (by decide) rfl (fun ls hl => ?_)
    refine lv_iload_n hx hb dJ1_indexOf_4cfef_15 rfl (lv_at hl 3 rfl) ?_
    refine lv_aload_n hx hb dJ1_indexOf_4cfef_16 rfl (lv_at hl 1 rfl) ?_
    refine r_slen C hw h0 dJ1_indexOf_4cfef_17 ?_
    refine va_mmin hx hb (by rw [C.1.2.2.1]; exact hl.1.symm) C.1.2.2.2.1 (C.1.2.2.2.2 _ w_486) (C.1.2.2.2.2 _ w_487) (C.1.2.2.2.2 _ w_14) (C.1.2.2.2.2 _ w_488) (by decide) (Nat.le_of_ble_eq_true rfl) (by decide) (by decide) dJ1_indexOf_4cfef_18 ?_
    refine lv_istore_n (lv' := [(3, .int (if (nI (stl.getD i 0)) < p3 then (nI (stl.getD i 0)) else p3)), (2, .int (if p2 < 0 then 0 else p2)), (0, .ref (gV g i)), (1, .int p1)]) hx hb dJ1_indexOf_4cfef_21 rfl hl (by decide) rfl (fun ls hl => ?_)
    refine lv_iload_n hx hb dJ1_indexOf_4cfef_22 rfl (lv_at hl 1 rfl) ?_
    refine lv_iload_n hx hb dJ1_indexOf_4cfef_23 rfl (lv_at hl 0 rfl) ?_
    refine lv_icmp_lt (tgt := 29) hx hb dJ1_indexOf_4cfef_24 (by decide) (fun c4 => ?_) (fun c4 => ?_)
    · replace hq := hq.1 c4
      refine lv_aload_n hx hb dJ1_indexOf_4cfef_29 rfl (lv_at hl 2 rfl) ?_
      refine lv_iload_n hx hb dJ1_indexOf_4cfef_30 rfl (lv_at hl 3 rfl) ?_
      refine lv_iload_n hx hb dJ1_indexOf_4cfef_31 rfl (lv_at hl 1 rfl) ?_
      refine lv_iload_n hx hb dJ1_indexOf_4cfef_32 rfl (lv_at hl 0 rfl) ?_
      refine r_callS (index := 95) (n := 4) (d2 := 0) (mc := 0) (ms := 0) (As := [.ref (gV g i), .int p1, .int (if p2 < 0 then 0 else p2), .int (if (nI (stl.getD i 0)) < p3 then (nI (stl.getD i 0)) else p3)]) (rest := []) C hw (ct_J1_indexOfChar_4cfef hq) ksJ1_95 ⟨by decide, by decide⟩ ⟨by decide, by decide⟩ rfl hl.1 rfl (Nat.le_of_ble_eq_true rfl) dJ1_indexOf_4cfef_33 (fun r M6 H locs hp hle hw => ?_)
      obtain ⟨v5, rfl, hq⟩ := hp
      refine W.eq (g2 := F0 m 36 ls [.int v5]) rfl ?_
      exact r_iret C hr hlk hw dJ1_indexOf_4cfef_36 (Nat.le_refl _) (Nat.le_refl _) ⟨_, rfl, hq⟩
    · replace hq := hq.2 c4
      refine lv_iconst (v := (-1)) hx hb dJ1_indexOf_4cfef_27 (by decide) ?_
      exact r_iret C hr hlk hw dJ1_indexOf_4cfef_28 (Nat.le_refl _) (Nat.le_refl _) ⟨_, rfl, hq⟩
  · replace hq := hq.1 c3
    refine lv_iconst (v := (-1)) hx hb dJ1_indexOf_4cfef_7 (by decide) ?_
    exact r_iret C hr hlk hw dJ1_indexOf_4cfef_8 (Nat.le_refl _) (Nat.le_refl _) ⟨_, rfl, hq⟩

set_option maxRecDepth 100000 in
def wp_J0_indexOf_7cf53  (g : Gh) (M0 : Mem) (i : Nat) (p1 : Int32) (p2 : Int32) (post : Int32 → Mem → Prop) : Prop :=
  i < 14 ∧ (wp_J0_isLatin1_aae02 g M0 i (fun v1 M2 => ((v1 = 0) → wp_J0_length_8abf5 g M2 i (fun v4 M5 => False)) ∧ (¬ (v1 = 0) → wp_J0_length_8abf5 g M2 i (fun v6 M7 => wp_J1_indexOf_4cfef g M7 i p1 p2 v6 (fun v8 M9 => post v8 M9)))))
set_option maxHeartbeats 4000000 in
set_option maxRecDepth 100000 in
theorem ct_J0_indexOf_7cf53 {l : Launch} {g : Gh} {M0 : Mem} {i : Nat} {p1 : Int32} {p2 : Int32} {post : Int32 → Mem → Prop}  (hq : wp_J0_indexOf_7cf53  g M0 i p1 p2 post) : Ct l g yJ0_indexOf_7cf53 cJ0_indexOf_7cf53 3 (some .int) 5 0 0 [.ref (gK g i), .int p1, .int p2] M0 (pI post) := by
  unfold wp_J0_indexOf_7cf53 at hq
  obtain ⟨h0, hq⟩ := hq
  refine Ct.of (by decide) (Nat.le_of_ble_eq_true rfl) ?_
  intro p e s m below meth c ls C hr hlk hn hl hw
  have hx := C.1.1
  have hb := C.1.2.1
  have hl : lv_has ls 3 [(0, .ref (gK g i)), (1, .int p1), (2, .int p2)] := hl
  refine lv_aload_n hx hb dJ0_indexOf_7cf53_0 rfl (lv_at hl 0 rfl) ?_
  refine r_callT (index := 492) (n := 0) (d2 := 0) (mc := 0) (ms := 0) (As := []) (rest := []) C hw (ct_J0_isLatin1_aae02 hq) kvJ0_492 hq.1 ⟨by decide, by decide⟩ ⟨by decide, by decide⟩ rfl hl.1 rfl (Nat.le_of_ble_eq_true rfl) dJ0_indexOf_7cf53_1 (fun r M2 H locs hp hle hw => ?_)
  obtain ⟨v1, rfl, hq⟩ := hp
  refine W.eq (g2 := F0 m 4 ls [.int v1]) rfl ?_
  refine lv_if_eq (tgt := 23) hx hb dJ0_indexOf_7cf53_4 (by decide) (fun c3 => ?_) (fun c3 => ?_)
  · replace hq := hq.1 c3
    refine lv_aload_n hx hb dJ0_indexOf_7cf53_23 rfl (lv_at hl 0 rfl) ?_
    refine r_sval C hw h0 w_1609 dJ0_indexOf_7cf53_24 ?_
    refine lv_iload_n hx hb dJ0_indexOf_7cf53_27 rfl (lv_at hl 1 rfl) ?_
    refine lv_iload_n hx hb dJ0_indexOf_7cf53_28 rfl (lv_at hl 2 rfl) ?_
    refine lv_aload_n hx hb dJ0_indexOf_7cf53_29 rfl (lv_at hl 0 rfl) ?_
    refine r_callT (index := 505) (n := 0) (d2 := 1) (mc := 0) (ms := 0) (As := []) (rest := [.int p2, .int p1, .ref (gV g i)]) C hw (ct_J0_length_8abf5 hq) kvJ0_505 hq.1 ⟨by decide, by decide⟩ ⟨by decide, by decide⟩ rfl hl.1 rfl (Nat.le_of_ble_eq_true rfl) dJ0_indexOf_7cf53_30 (fun r M5 H locs hp hle hw => ?_)
    obtain ⟨v4, rfl, hq⟩ := hp
    refine W.eq (g2 := F0 m 33 ls [.int v4, .int p2, .int p1, .ref (gV g i)]) rfl ?_
    exact hq.elim
  · replace hq := hq.2 c3
    refine lv_aload_n hx hb dJ0_indexOf_7cf53_7 rfl (lv_at hl 0 rfl) ?_
    refine r_sval C hw h0 w_1609 dJ0_indexOf_7cf53_8 ?_
    refine lv_iload_n hx hb dJ0_indexOf_7cf53_11 rfl (lv_at hl 1 rfl) ?_
    refine lv_iload_n hx hb dJ0_indexOf_7cf53_12 rfl (lv_at hl 2 rfl) ?_
    refine lv_aload_n hx hb dJ0_indexOf_7cf53_13 rfl (lv_at hl 0 rfl) ?_
    refine r_callT (index := 505) (n := 0) (d2 := 1) (mc := 0) (ms := 0) (As := []) (rest := [.int p2, .int p1, .ref (gV g i)]) C hw (ct_J0_length_8abf5 hq) kvJ0_505 hq.1 ⟨by decide, by decide⟩ ⟨by decide, by decide⟩ rfl hl.1 rfl (Nat.le_of_ble_eq_true rfl) dJ0_indexOf_7cf53_14 (fun r M7 H locs hp hle hw => ?_)
    obtain ⟨v6, rfl, hq⟩ := hp
    refine W.eq (g2 := F0 m 17 ls [.int v6, .int p2, .int p1, .ref (gV g i)]) rfl ?_
    refine r_callS (index := 637) (n := 4) (d2 := 1) (mc := 0) (ms := 0) (As := [.ref (gV g i), .int p1, .int p2, .int v6]) (rest := []) C hw (ct_J1_indexOf_4cfef hq) ksJ0_637 ⟨by decide, by decide⟩ ⟨by decide, by decide⟩ rfl hl.1 rfl (Nat.le_of_ble_eq_true rfl) dJ0_indexOf_7cf53_17 (fun r M9 H locs hp hle hw => ?_)
    obtain ⟨v8, rfl, hq⟩ := hp
    refine W.eq (g2 := F0 m 20 ls [.int v8]) rfl ?_
    refine lv_goto (tgt := 36) hx hb dJ0_indexOf_7cf53_20 (by decide) ?_
    exact r_iret C hr hlk hw dJ0_indexOf_7cf53_36 (Nat.le_refl _) (Nat.le_refl _) ⟨_, rfl, hq⟩

set_option maxRecDepth 100000 in
def wp_J0_indexOf_0f7a4  (g : Gh) (M0 : Mem) (i : Nat) (p1 : Int32) (post : Int32 → Mem → Prop) : Prop :=
  i < 14 ∧ (wp_J0_indexOf_7cf53 g M0 i p1 0 (fun v1 M2 => post v1 M2))
set_option maxHeartbeats 4000000 in
set_option maxRecDepth 100000 in
theorem ct_J0_indexOf_0f7a4 {l : Launch} {g : Gh} {M0 : Mem} {i : Nat} {p1 : Int32} {post : Int32 → Mem → Prop}  (hq : wp_J0_indexOf_0f7a4  g M0 i p1 post) : Ct l g yJ0_indexOf_0f7a4 cJ0_indexOf_0f7a4 2 (some .int) 6 0 0 [.ref (gK g i), .int p1] M0 (pI post) := by
  unfold wp_J0_indexOf_0f7a4 at hq
  obtain ⟨h0, hq⟩ := hq
  refine Ct.of (by decide) (Nat.le_of_ble_eq_true rfl) ?_
  intro p e s m below meth c ls C hr hlk hn hl hw
  have hx := C.1.1
  have hb := C.1.2.1
  have hl : lv_has ls 2 [(0, .ref (gK g i)), (1, .int p1)] := hl
  refine lv_aload_n hx hb dJ0_indexOf_0f7a4_0 rfl (lv_at hl 0 rfl) ?_
  refine lv_iload_n hx hb dJ0_indexOf_0f7a4_1 rfl (lv_at hl 1 rfl) ?_
  refine lv_iconst (v := 0) hx hb dJ0_indexOf_0f7a4_2 (by decide) ?_
  refine r_callT (index := 633) (n := 2) (d2 := 5) (mc := 0) (ms := 0) (As := [.int p1, .int 0]) (rest := []) C hw (ct_J0_indexOf_7cf53 hq) kvJ0_633 hq.1 ⟨by decide, by decide⟩ ⟨by decide, by decide⟩ rfl hl.1 rfl (Nat.le_of_ble_eq_true rfl) dJ0_indexOf_0f7a4_3 (fun r M2 H locs hp hle hw => ?_)
  obtain ⟨v1, rfl, hq⟩ := hp
  refine W.eq (g2 := F0 m 6 ls [.int v1]) rfl ?_
  exact r_iret C hr hlk hw dJ0_indexOf_0f7a4_6 (Nat.le_refl _) (Nat.le_refl _) ⟨_, rfl, hq⟩

set_option maxRecDepth 100000 in
def lb_X10_readSign_67  (g : Gh) (M0 : Mem) (a0 : Nat) (a1 : Nat) (post : Mem → Prop)  (x2 : Int32) (x3 : Int32) (s0 : Nat) (s1 : Int32) (M : Mem) : Prop :=
  okc (gB g) M0 s0 10 ∧ (∀ M2, M2 = uI M s0 2 s1 → (((x2 = 46) → ((x3 = 0) → ∀ M10, M10 = uI M2 a0 5 ((mI M2 a0 3) + 2) → (post M10)) ∧ (¬ (x3 = 0) → ∀ M8, M8 = uI M2 a0 5 ((mI M2 a0 3) + 1) → (post M8))) ∧ (¬ (x2 = 46) → ∀ M5, M5 = uI M2 a0 5 ((mI M2 a0 3) + 1) → (post M5))))
set_option maxRecDepth 100000 in
def lb_X10_readSign_54  (g : Gh) (M0 : Mem) (a0 : Nat) (a1 : Nat) (post : Mem → Prop)  (x2 : Int32) (x3 : Int32) (s0 : Int32) (M : Mem) : Prop :=
  ((s0 = 0) → lb_X10_readSign_67  g M0 a0 a1 post  x2 x3 a0 3 M) ∧ (¬ (s0 = 0) → lb_X10_readSign_67  g M0 a0 a1 post  x2 x3 a0 x2 M)
set_option maxRecDepth 100000 in
def lb_X10_readSign_35  (g : Gh) (M0 : Mem) (a0 : Nat) (a1 : Nat) (post : Mem → Prop)  (x2 : Int32) (s0 : Int32) (M : Mem) : Prop :=
  ((s0 = 0) → ∃ i14, a1 = gK g i14 ∧ (wp_J0_indexOf_0f7a4 g M i14 ((Int32.toUInt32 x2 % 65536).toInt32) (fun v16 M17 => ((v16 < 0) → lb_X10_readSign_54  g M0 a0 a1 post  x2 s0 0 M17) ∧ (¬ (v16 < 0) → lb_X10_readSign_54  g M0 a0 a1 post  x2 s0 1 M17)))) ∧ (¬ (s0 = 0) → lb_X10_readSign_54  g M0 a0 a1 post  x2 s0 0 M)
set_option maxRecDepth 100000 in
def wp_X10_readSign  (g : Gh) (M0 : Mem) (a0 : Nat) (a1 : Nat) (post : Mem → Prop) : Prop :=
  okc (gB g) M0 a0 10 ∧ (wp_X10_byteAt g M0 a0 (mI M0 a0 3) (fun v19 M20 => ((v19 = 46) → wp_X10_byteAt g M20 a0 ((mI M20 a0 3) + 1) (fun v22 M23 => ((v22 = 46) → lb_X10_readSign_35  g M0 a0 a1 post  v19 0 M23) ∧ (¬ (v22 = 46) → lb_X10_readSign_35  g M0 a0 a1 post  v19 1 M23))) ∧ (¬ (v19 = 46) → lb_X10_readSign_35  g M0 a0 a1 post  v19 0 M20)))
set_option maxHeartbeats 4000000 in
set_option maxRecDepth 100000 in
theorem lt_X10_readSign_67 {l : Launch} {g : Gh} {p : Program} {e : Env} {s : State} {m : MethodId} {args : Array Value} {below : List Frame} {meth : Method} {c : Code} {H : Heap} {locs : List Loc} {ls : Array Slot} {M0 M : Mem} {a0 : Nat} {a1 : Nat} {post : Mem → Prop} {x2 : Int32} {x3 : Int32} {s0 : Nat} {s1 : Int32}  (C : Cx g p s m args c cX10_readSign 5 RX10) (hr : meth.sig.returnType = none) (hlk : meth.locks = false) (hn : meth.name = "readSign") (h0 : okc (gB g) M0 a0 10)  (hq : lb_X10_readSign_67  g M0 a0 a1 post  x2 x3 s0 s1 M) (hw : Wd g s M0 M H locs) (hl : lv_has ls 5 [(0, .ref a0), (1, .ref a1), (2, .int x2), (3, .int x3)]) : W p l e (rmo 7 0 0) s m args below meth c H locs 0 0 (MQ below (Cq g M0 (pV post)) args s 0 0 (gA g)) (F0 m 67 ls [.int s1, .ref s0]) := by
  have hx := C.1.1
  have hb := C.1.2.1
  unfold lb_X10_readSign_67 at hq
  obtain ⟨h1, hq⟩ := hq
  refine pfX10_19 C hw hw.2.2.1 h1 dX10_readSign_67 (fun H locs hw => ?_)
  generalize e3 : uI M s0 2 s1 = M2 at hw
  replace hq := hq M2 e3.symm
  refine lv_aload_n hx hb dX10_readSign_70 rfl (lv_at hl 0 rfl) ?_
  refine lv_aload_n hx hb dX10_readSign_71 rfl (lv_at hl 0 rfl) ?_
  refine gfX10_22 C hw hw.2.2.1 h0 dX10_readSign_72 ?_
  refine lv_iload_n hx hb dX10_readSign_75 rfl (lv_at hl 2 rfl) ?_
  refine lv_bipush (v := 46) hx hb dX10_readSign_76 (by decide) ?_
  refine lv_icmp_ne (tgt := 89) hx hb dX10_readSign_78 (by decide) (fun c4 => ?_) (fun c4 => ?_)
  · replace hq := hq.2 c4
    refine lv_iconst (v := 1) hx hb dX10_readSign_89 (by decide) ?_
    refine lv_iadd hx hb dX10_readSign_90 ?_
    refine pfX10_29 C hw hw.2.2.1 h0 dX10_readSign_91 (fun H locs hw => ?_)
    generalize e6 : uI M2 a0 5 ((mI M2 a0 3) + 1) = M5 at hw
    replace hq := hq M5 e6.symm
    exact r_vret C hr hlk hw dX10_readSign_94 (Nat.le_refl _) (Nat.le_refl _) ⟨rfl, hq⟩
  · replace hq := hq.1 c4
    refine lv_iload_n hx hb dX10_readSign_81 rfl (lv_at hl 3 rfl) ?_
    refine lv_if_ne (tgt := 89) hx hb dX10_readSign_82 (by decide) (fun c7 => ?_) (fun c7 => ?_)
    · replace hq := hq.2 c7
      refine lv_iconst (v := 1) hx hb dX10_readSign_89 (by decide) ?_
      refine lv_iadd hx hb dX10_readSign_90 ?_
      refine pfX10_29 C hw hw.2.2.1 h0 dX10_readSign_91 (fun H locs hw => ?_)
      generalize e9 : uI M2 a0 5 ((mI M2 a0 3) + 1) = M8 at hw
      replace hq := hq M8 e9.symm
      exact r_vret C hr hlk hw dX10_readSign_94 (Nat.le_refl _) (Nat.le_refl _) ⟨rfl, hq⟩
    · replace hq := hq.1 c7
      refine lv_iconst (v := 2) hx hb dX10_readSign_85 (by decide) ?_
      refine lv_goto (tgt := 90) hx hb dX10_readSign_86 (by decide) ?_
      refine lv_iadd hx hb dX10_readSign_90 ?_
      refine pfX10_29 C hw hw.2.2.1 h0 dX10_readSign_91 (fun H locs hw => ?_)
      generalize e11 : uI M2 a0 5 ((mI M2 a0 3) + 2) = M10 at hw
      replace hq := hq M10 e11.symm
      exact r_vret C hr hlk hw dX10_readSign_94 (Nat.le_refl _) (Nat.le_refl _) ⟨rfl, hq⟩
set_option maxHeartbeats 4000000 in
set_option maxRecDepth 100000 in
theorem lt_X10_readSign_54 {l : Launch} {g : Gh} {p : Program} {e : Env} {s : State} {m : MethodId} {args : Array Value} {below : List Frame} {meth : Method} {c : Code} {H : Heap} {locs : List Loc} {ls : Array Slot} {M0 M : Mem} {a0 : Nat} {a1 : Nat} {post : Mem → Prop} {x2 : Int32} {x3 : Int32} {s0 : Int32}  (C : Cx g p s m args c cX10_readSign 5 RX10) (hr : meth.sig.returnType = none) (hlk : meth.locks = false) (hn : meth.name = "readSign") (h0 : okc (gB g) M0 a0 10)  (hq : lb_X10_readSign_54  g M0 a0 a1 post  x2 x3 s0 M) (hw : Wd g s M0 M H locs) (hl : lv_has ls 5 [(0, .ref a0), (1, .ref a1), (2, .int x2), (3, .int x3)]) : W p l e (rmo 7 0 0) s m args below meth c H locs 0 0 (MQ below (Cq g M0 (pV post)) args s 0 0 (gA g)) (F0 m 54 ls [.int s0]) := by
  have hx := C.1.1
  have hb := C.1.2.1
  unfold lb_X10_readSign_54 at hq
  refine lv_istore (lv' := [(4, .int s0), (0, .ref a0), (1, .ref a1), (2, .int x2), (3, .int x3)]) hx hb dX10_readSign_54 hl (by decide) rfl (fun ls hl => ?_)
  refine lv_aload_n hx hb dX10_readSign_56 rfl (lv_at hl 1 rfl) ?_
  refine lv_iload hx hb dX10_readSign_57 (lv_at hl 0 rfl) ?_
  refine lv_if_eq (tgt := 66) hx hb dX10_readSign_59 (by decide) (fun c12 => ?_) (fun c12 => ?_)
  · replace hq := hq.1 c12
    refine lv_iconst (v := 3) hx hb dX10_readSign_66 (by decide) ?_
    exact lt_X10_readSign_67  C hr hlk hn h0  hq hw (lv_sub hl [1, 2, 3, 4] rfl)
  · replace hq := hq.2 c12
    refine lv_iload_n hx hb dX10_readSign_62 rfl (lv_at hl 3 rfl) ?_
    refine lv_goto (tgt := 67) hx hb dX10_readSign_63 (by decide) ?_
    exact lt_X10_readSign_67  C hr hlk hn h0  hq hw (lv_sub hl [1, 2, 3, 4] rfl)
set_option maxHeartbeats 4000000 in
set_option maxRecDepth 100000 in
theorem lt_X10_readSign_35 {l : Launch} {g : Gh} {p : Program} {e : Env} {s : State} {m : MethodId} {args : Array Value} {below : List Frame} {meth : Method} {c : Code} {H : Heap} {locs : List Loc} {ls : Array Slot} {M0 M : Mem} {a0 : Nat} {a1 : Nat} {post : Mem → Prop} {x2 : Int32} {s0 : Int32}  (C : Cx g p s m args c cX10_readSign 5 RX10) (hr : meth.sig.returnType = none) (hlk : meth.locks = false) (hn : meth.name = "readSign") (h0 : okc (gB g) M0 a0 10)  (hq : lb_X10_readSign_35  g M0 a0 a1 post  x2 s0 M) (hw : Wd g s M0 M H locs) (hl : lv_has ls 5 [(0, .ref a0), (1, .ref a1), (2, .int x2)]) : W p l e (rmo 7 0 0) s m args below meth c H locs 0 0 (MQ below (Cq g M0 (pV post)) args s 0 0 (gA g)) (F0 m 35 ls [.int s0]) := by
  have hx := C.1.1
  have hb := C.1.2.1
  unfold lb_X10_readSign_35 at hq
  refine lv_istore_n (lv' := [(3, .int s0), (0, .ref a0), (1, .ref a1), (2, .int x2)]) hx hb dX10_readSign_35 rfl hl (by decide) rfl (fun ls hl => ?_)
  refine lv_iload_n hx hb dX10_readSign_36 rfl (lv_at hl 0 rfl) ?_
  refine lv_if_ne (tgt := 53) hx hb dX10_readSign_37 (by decide) (fun c13 => ?_) (fun c13 => ?_)
  · replace hq := hq.2 c13
    refine lv_iconst (v := 0) hx hb dX10_readSign_53 (by decide) ?_
    exact lt_X10_readSign_54  C hr hlk hn h0  hq hw (lv_sub hl [1, 2, 3, 0] rfl)
  · replace hq := hq.1 c13
    refine lv_aload_n hx hb dX10_readSign_40 rfl (lv_at hl 2 rfl) ?_
    refine lv_iload_n hx hb dX10_readSign_41 rfl (lv_at hl 3 rfl) ?_
    refine lv_i2c (v := ((Int32.toUInt32 x2 % 65536).toInt32)) hx hb dX10_readSign_42 rfl ?_
    obtain ⟨i14, e15, hq⟩ := hq
    refine W.eq (g2 := F0 m 43 ls [.int ((Int32.toUInt32 x2 % 65536).toInt32), .ref (gK g i14)]) (by rw [e15]) ?_
    refine r_callT (index := 69) (n := 1) (d2 := 6) (mc := 0) (ms := 0) (As := [.int ((Int32.toUInt32 x2 % 65536).toInt32)]) (rest := []) C hw (ct_J0_indexOf_0f7a4 hq) kvX10_69 hq.1 ⟨by decide, by decide⟩ ⟨by decide, by decide⟩ rfl hl.1 rfl (Nat.le_of_ble_eq_true rfl) dX10_readSign_43 (fun r M17 H locs hp hle hw => ?_)
    obtain ⟨v16, rfl, hq⟩ := hp
    refine W.eq (g2 := F0 m 46 ls [.int v16]) rfl ?_
    refine lv_if_lt (tgt := 53) hx hb dX10_readSign_46 (by decide) (fun c18 => ?_) (fun c18 => ?_)
    · replace hq := hq.1 c18
      refine lv_iconst (v := 0) hx hb dX10_readSign_53 (by decide) ?_
      exact lt_X10_readSign_54  C hr hlk hn h0  hq hw (lv_sub hl [1, 2, 3, 0] rfl)
    · replace hq := hq.2 c18
      refine lv_iconst (v := 1) hx hb dX10_readSign_49 (by decide) ?_
      refine lv_goto (tgt := 54) hx hb dX10_readSign_50 (by decide) ?_
      exact lt_X10_readSign_54  C hr hlk hn h0  hq hw (lv_sub hl [1, 2, 3, 0] rfl)
set_option maxHeartbeats 4000000 in
set_option maxRecDepth 100000 in
theorem ct_X10_readSign {l : Launch} {g : Gh} {M0 : Mem} {a0 : Nat} {a1 : Nat} {post : Mem → Prop}  (hq : wp_X10_readSign  g M0 a0 a1 post) : Ct l g yX10_readSign cX10_readSign 5 none 7 0 0 [.ref a0, .ref a1] M0 (pV post) := by
  unfold wp_X10_readSign at hq
  obtain ⟨h0, hq⟩ := hq
  refine Ct.of (by decide) (Nat.le_of_ble_eq_true rfl) ?_
  intro p e s m below meth c ls C hr hlk hn hl hw
  have hx := C.1.1
  have hb := C.1.2.1
  have hl : lv_has ls 5 [(0, .ref a0), (1, .ref a1)] := hl
  refine lv_aload_n hx hb dX10_readSign_0 rfl (lv_at hl 0 rfl) ?_
  refine lv_aload_n hx hb dX10_readSign_1 rfl (lv_at hl 0 rfl) ?_
  refine gfX10_22 C hw hw.2.2.1 h0 dX10_readSign_2 ?_
  refine r_callV (T := TX10) (N := 6) (ci := 10) (index := 35) (n := 1) (d2 := 0) (mc := 0) (ms := 0) (As := [.int (mI M0 a0 3)]) (rest := []) C hw (ct_X10_byteAt hq) kvX10_35 hq.1 (by decide) rfl ⟨by decide, by decide⟩ ⟨by decide, by decide⟩ rfl hl.1 rfl (Nat.le_of_ble_eq_true rfl) dX10_readSign_5 (fun r M20 H locs hp hle hw => ?_)
  obtain ⟨v19, rfl, hq⟩ := hp
  refine W.eq (g2 := F0 m 8 ls [.int v19]) rfl ?_
  refine lv_istore_n (lv' := [(2, .int v19), (0, .ref a0), (1, .ref a1)]) hx hb dX10_readSign_8 rfl hl (by decide) rfl (fun ls hl => ?_)
  refine lv_iload_n hx hb dX10_readSign_9 rfl (lv_at hl 0 rfl) ?_
  refine lv_bipush (v := 46) hx hb dX10_readSign_10 (by decide) ?_
  refine lv_icmp_ne (tgt := 34) hx hb dX10_readSign_12 (by decide) (fun c21 => ?_) (fun c21 => ?_)
  · replace hq := hq.2 c21
    refine lv_iconst (v := 0) hx hb dX10_readSign_34 (by decide) ?_
    exact lt_X10_readSign_35  C hr hlk hn h0  hq hw (lv_sub hl [1, 2, 0] rfl)
  · replace hq := hq.1 c21
    refine lv_aload_n hx hb dX10_readSign_15 rfl (lv_at hl 1 rfl) ?_
    refine lv_aload_n hx hb dX10_readSign_16 rfl (lv_at hl 1 rfl) ?_
    refine gfX10_22 C hw hw.2.2.1 h0 dX10_readSign_17 ?_
    refine lv_iconst (v := 1) hx hb dX10_readSign_20 (by decide) ?_
    refine lv_iadd hx hb dX10_readSign_21 ?_
    refine r_callV (T := TX10) (N := 6) (ci := 10) (index := 35) (n := 1) (d2 := 0) (mc := 0) (ms := 0) (As := [.int ((mI M20 a0 3) + 1)]) (rest := []) C hw (ct_X10_byteAt hq) kvX10_35 hq.1 (by decide) rfl ⟨by decide, by decide⟩ ⟨by decide, by decide⟩ rfl hl.1 rfl (Nat.le_of_ble_eq_true rfl) dX10_readSign_22 (fun r M23 H locs hp hle hw => ?_)
    obtain ⟨v22, rfl, hq⟩ := hp
    refine W.eq (g2 := F0 m 25 ls [.int v22]) rfl ?_
    refine lv_bipush (v := 46) hx hb dX10_readSign_25 (by decide) ?_
    refine lv_icmp_eq (tgt := 34) hx hb dX10_readSign_27 (by decide) (fun c24 => ?_) (fun c24 => ?_)
    · replace hq := hq.1 c24
      refine lv_iconst (v := 0) hx hb dX10_readSign_34 (by decide) ?_
      exact lt_X10_readSign_35  C hr hlk hn h0  hq hw (lv_sub hl [1, 2, 0] rfl)
    · replace hq := hq.2 c24
      refine lv_iconst (v := 1) hx hb dX10_readSign_30 (by decide) ?_
      refine lv_goto (tgt := 35) hx hb dX10_readSign_31 (by decide) ?_
      exact lt_X10_readSign_35  C hr hlk hn h0  hq hw (lv_sub hl [1, 2, 0] rfl)

set_option maxRecDepth 100000 in
def lb_X10_readNext_46  (g : Gh) (M0 : Mem) (a0 : Nat) (a1 : Nat) (post : Mem → Prop)   (s0 : Nat) (s1 : Int32) (M : Mem) : Prop :=
  okc (gB g) M0 s0 10 ∧ (∀ M2, M2 = uI M s0 2 s1 → ((((mI M2 a0 1) ≤ 200) → ∀ M5, M5 = uI M2 a0 3 (mI M2 a0 1) → (post M5)) ∧ (¬ ((mI M2 a0 1) ≤ 200) → ∀ M7, M7 = uI M2 a0 3 200 → (post M7))))
set_option maxRecDepth 100000 in
def lb_X10_readNext_30  (g : Gh) (M0 : Mem) (a0 : Nat) (a1 : Nat) (post : Mem → Prop)    (M : Mem) : Prop :=
  (((mI M a0 1) ≤ 200) → lb_X10_readNext_46  g M0 a0 a1 post  a0 0 M) ∧ (¬ ((mI M a0 1) ≤ 200) → lb_X10_readNext_46  g M0 a0 a1 post  a0 3 M)
set_option maxRecDepth 100000 in
def wp_X10_readNext  (g : Gh) (M0 : Mem) (a0 : Nat) (a1 : Nat) (post : Mem → Prop) : Prop :=
  okc (gB g) M0 a0 10 ∧ (wp_X10_skipBlanks g M0 a0 (fun M11 => ∀ M12, M12 = uJ M11 a0 4 0 → ((((mI M12 a0 1) ≤ (mI M12 a0 5)) → lb_X10_readNext_30  g M0 a0 a1 post   M12) ∧ (¬ ((mI M12 a0 1) ≤ (mI M12 a0 5)) → (((mI M12 a0 5) < 200) → ∀ M16, M16 = uI M12 a0 3 (mI M12 a0 5) → (wp_X10_byteAt g M16 a0 (mI M16 a0 3) (fun v18 M19 => wp_X10_isLetter g M19 v18 (fun v20 M21 => ((v20 = 0) → wp_X10_byteAt g M21 a0 (mI M21 a0 3) (fun v25 M26 => wp_X10_isDigit g M26 v25 (fun v27 M28 => ((v27 = 0) → wp_X10_readSign g M28 a0 a1 (fun M31 => post M31)) ∧ (¬ (v27 = 0) → wp_X10_readRun g M28 a0 (fun M33 => post M33))))) ∧ (¬ (v20 = 0) → wp_X10_readRun g M21 a0 (fun M24 => post M24)))))) ∧ (¬ ((mI M12 a0 5) < 200) → lb_X10_readNext_30  g M0 a0 a1 post   M12)))))
set_option maxHeartbeats 4000000 in
set_option maxRecDepth 100000 in
theorem lt_X10_readNext_46 {l : Launch} {g : Gh} {p : Program} {e : Env} {s : State} {m : MethodId} {args : Array Value} {below : List Frame} {meth : Method} {c : Code} {H : Heap} {locs : List Loc} {ls : Array Slot} {M0 M : Mem} {a0 : Nat} {a1 : Nat} {post : Mem → Prop}  {s0 : Nat} {s1 : Int32}  (C : Cx g p s m args c cX10_readNext 2 RX10) (hr : meth.sig.returnType = none) (hlk : meth.locks = false) (hn : meth.name = "readNext") (h0 : okc (gB g) M0 a0 10)  (hq : lb_X10_readNext_46  g M0 a0 a1 post  s0 s1 M) (hw : Wd g s M0 M H locs) (hl : lv_has ls 2 [(0, .ref a0), (1, .ref a1)]) : W p l e (rmo 8 0 0) s m args below meth c H locs 0 0 (MQ below (Cq g M0 (pV post)) args s 0 0 (gA g)) (F0 m 46 ls [.int s1, .ref s0]) := by
  have hx := C.1.1
  have hb := C.1.2.1
  unfold lb_X10_readNext_46 at hq
  obtain ⟨h1, hq⟩ := hq
  refine pfX10_19 C hw hw.2.2.1 h1 dX10_readNext_46 (fun H locs hw => ?_)
  generalize e3 : uI M s0 2 s1 = M2 at hw
  replace hq := hq M2 e3.symm
  refine lv_aload_n hx hb dX10_readNext_49 rfl (lv_at hl 0 rfl) ?_
  refine lv_aload_n hx hb dX10_readNext_50 rfl (lv_at hl 0 rfl) ?_
  refine gfX10_15 C hw hw.2.2.1 h0 dX10_readNext_51 ?_
  refine lv_sipush (v := 200) hx hb dX10_readNext_54 (by decide) ?_
  refine lv_icmp_le (tgt := 66) hx hb dX10_readNext_57 (by decide) (fun c4 => ?_) (fun c4 => ?_)
  · replace hq := hq.1 c4
    refine lv_aload_n hx hb dX10_readNext_66 rfl (lv_at hl 0 rfl) ?_
    refine gfX10_15 C hw hw.2.2.1 h0 dX10_readNext_67 ?_
    refine pfX10_22 C hw hw.2.2.1 h0 dX10_readNext_70 (fun H locs hw => ?_)
    generalize e6 : uI M2 a0 3 (mI M2 a0 1) = M5 at hw
    replace hq := hq M5 e6.symm
    exact r_vret C hr hlk hw dX10_readNext_73 (Nat.le_refl _) (Nat.le_refl _) ⟨rfl, hq⟩
  · replace hq := hq.2 c4
    refine lv_sipush (v := 200) hx hb dX10_readNext_60 (by decide) ?_
    refine lv_goto (tgt := 70) hx hb dX10_readNext_63 (by decide) ?_
    refine pfX10_22 C hw hw.2.2.1 h0 dX10_readNext_70 (fun H locs hw => ?_)
    generalize e8 : uI M2 a0 3 200 = M7 at hw
    replace hq := hq M7 e8.symm
    exact r_vret C hr hlk hw dX10_readNext_73 (Nat.le_refl _) (Nat.le_refl _) ⟨rfl, hq⟩
set_option maxHeartbeats 4000000 in
set_option maxRecDepth 100000 in
theorem lt_X10_readNext_30 {l : Launch} {g : Gh} {p : Program} {e : Env} {s : State} {m : MethodId} {args : Array Value} {below : List Frame} {meth : Method} {c : Code} {H : Heap} {locs : List Loc} {ls : Array Slot} {M0 M : Mem} {a0 : Nat} {a1 : Nat} {post : Mem → Prop}    (C : Cx g p s m args c cX10_readNext 2 RX10) (hr : meth.sig.returnType = none) (hlk : meth.locks = false) (hn : meth.name = "readNext") (h0 : okc (gB g) M0 a0 10)  (hq : lb_X10_readNext_30  g M0 a0 a1 post   M) (hw : Wd g s M0 M H locs) (hl : lv_has ls 2 [(0, .ref a0), (1, .ref a1)]) : W p l e (rmo 8 0 0) s m args below meth c H locs 0 0 (MQ below (Cq g M0 (pV post)) args s 0 0 (gA g)) (F0 m 30 ls []) := by
  have hx := C.1.1
  have hb := C.1.2.1
  unfold lb_X10_readNext_30 at hq
  refine lv_aload_n hx hb dX10_readNext_30 rfl (lv_at hl 0 rfl) ?_
  refine lv_aload_n hx hb dX10_readNext_31 rfl (lv_at hl 0 rfl) ?_
  refine gfX10_15 C hw hw.2.2.1 h0 dX10_readNext_32 ?_
  refine lv_sipush (v := 200) hx hb dX10_readNext_35 (by decide) ?_
  refine lv_icmp_le (tgt := 45) hx hb dX10_readNext_38 (by decide) (fun c9 => ?_) (fun c9 => ?_)
  · replace hq := hq.1 c9
    refine lv_iconst (v := 0) hx hb dX10_readNext_45 (by decide) ?_
    exact lt_X10_readNext_46  C hr hlk hn h0  hq hw (lv_sub hl [0, 1] rfl)
  · replace hq := hq.2 c9
    refine lv_iconst (v := 3) hx hb dX10_readNext_41 (by decide) ?_
    refine lv_goto (tgt := 46) hx hb dX10_readNext_42 (by decide) ?_
    exact lt_X10_readNext_46  C hr hlk hn h0  hq hw (lv_sub hl [0, 1] rfl)
set_option maxHeartbeats 4000000 in
set_option maxRecDepth 100000 in
theorem ct_X10_readNext {l : Launch} {g : Gh} {M0 : Mem} {a0 : Nat} {a1 : Nat} {post : Mem → Prop}  (hq : wp_X10_readNext  g M0 a0 a1 post) : Ct l g yX10_readNext cX10_readNext 2 none 8 0 0 [.ref a0, .ref a1] M0 (pV post) := by
  unfold wp_X10_readNext at hq
  obtain ⟨h0, hq⟩ := hq
  refine Ct.of (by decide) (Nat.le_of_ble_eq_true rfl) ?_
  intro p e s m below meth c ls C hr hlk hn hl hw
  have hx := C.1.1
  have hb := C.1.2.1
  have hl : lv_has ls 2 [(0, .ref a0), (1, .ref a1)] := hl
  refine lv_aload_n hx hb dX10_readNext_0 rfl (lv_at hl 0 rfl) ?_
  refine r_callV (T := TX10) (N := 6) (ci := 10) (index := 32) (n := 0) (d2 := 1) (mc := 0) (ms := 0) (As := []) (rest := []) C hw (ct_X10_skipBlanks hq) kvX10_32 hq.1 (by decide) rfl ⟨by decide, by decide⟩ ⟨by decide, by decide⟩ rfl hl.1 rfl (Nat.le_of_ble_eq_true rfl) dX10_readNext_1 (fun r M11 H locs hp hle hw => ?_)
  obtain ⟨rfl, hq⟩ := hp
  refine W.eq (g2 := F0 m 4 ls []) rfl ?_
  refine lv_aload_n hx hb dX10_readNext_4 rfl (lv_at hl 0 rfl) ?_
  refine lv_lconst (v := 0) hx hb dX10_readNext_5 (by decide) ?_
  refine pfX10_25 C hw hw.2.2.1 h0 dX10_readNext_6 (fun H locs hw => ?_)
  generalize e13 : uJ M11 a0 4 0 = M12 at hw
  replace hq := hq M12 e13.symm
  refine lv_aload_n hx hb dX10_readNext_9 rfl (lv_at hl 0 rfl) ?_
  refine gfX10_29 C hw hw.2.2.1 h0 dX10_readNext_10 ?_
  refine lv_aload_n hx hb dX10_readNext_13 rfl (lv_at hl 0 rfl) ?_
  refine gfX10_15 C hw hw.2.2.1 h0 dX10_readNext_14 ?_
  refine lv_icmp_ge (tgt := 30) hx hb dX10_readNext_17 (by decide) (fun c14 => ?_) (fun c14 => ?_)
  · replace hq := hq.1 c14
    exact lt_X10_readNext_30  C hr hlk hn h0  hq hw (lv_sub hl [0, 1] rfl)
  · replace hq := hq.2 c14
    refine lv_aload_n hx hb dX10_readNext_20 rfl (lv_at hl 0 rfl) ?_
    refine gfX10_29 C hw hw.2.2.1 h0 dX10_readNext_21 ?_
    refine lv_sipush (v := 200) hx hb dX10_readNext_24 (by decide) ?_
    refine lv_icmp_lt (tgt := 74) hx hb dX10_readNext_27 (by decide) (fun c15 => ?_) (fun c15 => ?_)
    · replace hq := hq.1 c15
      refine lv_aload_n hx hb dX10_readNext_74 rfl (lv_at hl 0 rfl) ?_
      refine lv_aload_n hx hb dX10_readNext_75 rfl (lv_at hl 0 rfl) ?_
      refine gfX10_29 C hw hw.2.2.1 h0 dX10_readNext_76 ?_
      refine pfX10_22 C hw hw.2.2.1 h0 dX10_readNext_79 (fun H locs hw => ?_)
      generalize e17 : uI M12 a0 3 (mI M12 a0 5) = M16 at hw
      replace hq := hq M16 e17.symm
      refine lv_aload_n hx hb dX10_readNext_82 rfl (lv_at hl 0 rfl) ?_
      refine lv_aload_n hx hb dX10_readNext_83 rfl (lv_at hl 0 rfl) ?_
      refine gfX10_22 C hw hw.2.2.1 h0 dX10_readNext_84 ?_
      refine r_callV (T := TX10) (N := 6) (ci := 10) (index := 35) (n := 1) (d2 := 0) (mc := 0) (ms := 0) (As := [.int (mI M16 a0 3)]) (rest := []) C hw (ct_X10_byteAt hq) kvX10_35 hq.1 (by decide) rfl ⟨by decide, by decide⟩ ⟨by decide, by decide⟩ rfl hl.1 rfl (Nat.le_of_ble_eq_true rfl) dX10_readNext_87 (fun r M19 H locs hp hle hw => ?_)
      obtain ⟨v18, rfl, hq⟩ := hp
      refine W.eq (g2 := F0 m 90 ls [.int v18]) rfl ?_
      refine r_callS (index := 39) (n := 1) (d2 := 0) (mc := 0) (ms := 0) (As := [.int v18]) (rest := []) C hw (ct_X10_isLetter hq) ksX10_39 ⟨by decide, by decide⟩ ⟨by decide, by decide⟩ rfl hl.1 rfl (Nat.le_of_ble_eq_true rfl) dX10_readNext_90 (fun r M21 H locs hp hle hw => ?_)
      obtain ⟨v20, rfl, hq⟩ := hp
      refine W.eq (g2 := F0 m 93 ls [.int v20]) rfl ?_
      refine lv_if_ne (tgt := 110) hx hb dX10_readNext_93 (by decide) (fun c22 => ?_) (fun c22 => ?_)
      · replace hq := hq.2 c22
        refine lv_aload_n hx hb dX10_readNext_110 rfl (lv_at hl 0 rfl) ?_
        refine r_callV (T := TX10) (N := 6) (ci := 10) (index := 46) (n := 0) (d2 := 1) (mc := 0) (ms := 0) (As := []) (rest := []) C hw (ct_X10_readRun hq) kvX10_46 hq.1 (by decide) rfl ⟨by decide, by decide⟩ ⟨by decide, by decide⟩ rfl hl.1 rfl (Nat.le_of_ble_eq_true rfl) dX10_readNext_111 (fun r M24 H locs hp hle hw => ?_)
        obtain ⟨rfl, hq⟩ := hp
        refine W.eq (g2 := F0 m 114 ls []) rfl ?_
        refine lv_goto (tgt := 122) hx hb dX10_readNext_114 (by decide) ?_
        exact r_vret C hr hlk hw dX10_readNext_122 (Nat.le_refl _) (Nat.le_refl _) ⟨rfl, hq⟩
      · replace hq := hq.1 c22
        refine lv_aload_n hx hb dX10_readNext_96 rfl (lv_at hl 0 rfl) ?_
        refine lv_aload_n hx hb dX10_readNext_97 rfl (lv_at hl 0 rfl) ?_
        refine gfX10_22 C hw hw.2.2.1 h0 dX10_readNext_98 ?_
        refine r_callV (T := TX10) (N := 6) (ci := 10) (index := 35) (n := 1) (d2 := 0) (mc := 0) (ms := 0) (As := [.int (mI M21 a0 3)]) (rest := []) C hw (ct_X10_byteAt hq) kvX10_35 hq.1 (by decide) rfl ⟨by decide, by decide⟩ ⟨by decide, by decide⟩ rfl hl.1 rfl (Nat.le_of_ble_eq_true rfl) dX10_readNext_101 (fun r M26 H locs hp hle hw => ?_)
        obtain ⟨v25, rfl, hq⟩ := hp
        refine W.eq (g2 := F0 m 104 ls [.int v25]) rfl ?_
        refine r_callS (index := 43) (n := 1) (d2 := 0) (mc := 0) (ms := 0) (As := [.int v25]) (rest := []) C hw (ct_X10_isDigit hq) ksX10_43 ⟨by decide, by decide⟩ ⟨by decide, by decide⟩ rfl hl.1 rfl (Nat.le_of_ble_eq_true rfl) dX10_readNext_104 (fun r M28 H locs hp hle hw => ?_)
        obtain ⟨v27, rfl, hq⟩ := hp
        refine W.eq (g2 := F0 m 107 ls [.int v27]) rfl ?_
        refine lv_if_eq (tgt := 117) hx hb dX10_readNext_107 (by decide) (fun c29 => ?_) (fun c29 => ?_)
        · replace hq := hq.1 c29
          refine lv_aload_n hx hb dX10_readNext_117 rfl (lv_at hl 0 rfl) ?_
          refine lv_aload_n hx hb dX10_readNext_118 rfl (lv_at hl 1 rfl) ?_
          refine r_callV (T := TX10) (N := 6) (ci := 10) (index := 49) (n := 1) (d2 := 7) (mc := 0) (ms := 0) (As := [.ref a1]) (rest := []) C hw (ct_X10_readSign hq) kvX10_49 hq.1 (by decide) rfl ⟨by decide, by decide⟩ ⟨by decide, by decide⟩ rfl hl.1 rfl (Nat.le_of_ble_eq_true rfl) dX10_readNext_119 (fun r M31 H locs hp hle hw => ?_)
          obtain ⟨rfl, hq⟩ := hp
          refine W.eq (g2 := F0 m 122 ls []) rfl ?_
          exact r_vret C hr hlk hw dX10_readNext_122 (Nat.le_refl _) (Nat.le_refl _) ⟨rfl, hq⟩
        · replace hq := hq.2 c29
          refine lv_aload_n hx hb dX10_readNext_110 rfl (lv_at hl 0 rfl) ?_
          refine r_callV (T := TX10) (N := 6) (ci := 10) (index := 46) (n := 0) (d2 := 1) (mc := 0) (ms := 0) (As := []) (rest := []) C hw (ct_X10_readRun hq) kvX10_46 hq.1 (by decide) rfl ⟨by decide, by decide⟩ ⟨by decide, by decide⟩ rfl hl.1 rfl (Nat.le_of_ble_eq_true rfl) dX10_readNext_111 (fun r M33 H locs hp hle hw => ?_)
          obtain ⟨rfl, hq⟩ := hp
          refine W.eq (g2 := F0 m 114 ls []) rfl ?_
          refine lv_goto (tgt := 122) hx hb dX10_readNext_114 (by decide) ?_
          exact r_vret C hr hlk hw dX10_readNext_122 (Nat.le_refl _) (Nat.le_refl _) ⟨rfl, hq⟩
    · replace hq := hq.2 c15
      exact lt_X10_readNext_30  C hr hlk hn h0  hq hw (lv_sub hl [0, 1] rfl)

set_option maxRecDepth 100000 in
def wp_X2_closeRange  (g : Gh) (M0 : Mem) (a0 : Nat) (p1 : Int32) (p2 : Int64) (post : Int32 → Mem → Prop) : Prop :=
  okc (gB g) M0 a0 2 ∧ (((p1 = 2) → (((mI M0 a0 3) < 1) → post 1 M0) ∧ (¬ ((mI M0 a0 3) < 1) → ∃ q3, mR M0 a0 2 = some q3 ∧ (okc (gB g) M0 q3 15 ∧ ((((mI M0 a0 3) ≤ (nI (mN M0 q3))) → ∃ q7, mR M0 a0 1 = some q7 ∧ (okc (gB g) M0 q7 15 ∧ (vp_in ((mI M0 a0 3) - 1) (mN M0 q7) ∧ (((0 ≤ (lg_cmp p2 (mJ M0 q7 (Int32.toNatClampNeg ((mI M0 a0 3) - 1))))) → vp_in ((mI M0 a0 3) - 1) (mN M0 q3) ∧ (∀ M13, M13 = uJ M0 q3 (Int32.toNatClampNeg ((mI M0 a0 3) - 1)) p2 → (∀ M15, M15 = uI M13 a0 7 1 → (post 0 M15)))) ∧ (¬ (0 ≤ (lg_cmp p2 (mJ M0 q7 (Int32.toNatClampNeg ((mI M0 a0 3) - 1))))) → post 2 M0))))) ∧ (¬ ((mI M0 a0 3) ≤ (nI (mN M0 q3))) → post 1 M0))))) ∧ (¬ (p1 = 2) → post 1 M0))
set_option maxHeartbeats 4000000 in
set_option maxRecDepth 100000 in
theorem ct_X2_closeRange {l : Launch} {g : Gh} {M0 : Mem} {a0 : Nat} {p1 : Int32} {p2 : Int64} {post : Int32 → Mem → Prop}  (hq : wp_X2_closeRange  g M0 a0 p1 p2 post) : Ct l g yX2_closeRange cX2_closeRange 4 (some .int) 0 0 0 [.ref a0, .int p1, .long p2] M0 (pI post) := by
  unfold wp_X2_closeRange at hq
  obtain ⟨h0, hq⟩ := hq
  refine Ct.of (by decide) (Nat.le_of_ble_eq_true rfl) ?_
  intro p e s m below meth c ls C hr hlk hn hl hw
  have hx := C.1.1
  have hb := C.1.2.1
  have hl : lv_has ls 4 [(0, .ref a0), (1, .int p1), (2, .long p2)] := hl
  refine lv_iload_n hx hb dX2_closeRange_0 rfl (lv_at hl 1 rfl) ?_
  refine lv_iconst (v := 2) hx hb dX2_closeRange_1 (by decide) ?_
  refine lv_icmp_ne (tgt := 25) hx hb dX2_closeRange_2 (by decide) (fun c1 => ?_) (fun c1 => ?_)
  · replace hq := hq.2 c1
    refine lv_iconst (v := 1) hx hb dX2_closeRange_25 (by decide) ?_
    exact r_iret C hr hlk hw dX2_closeRange_26 (Nat.le_refl _) (Nat.le_refl _) ⟨_, rfl, hq⟩
  · replace hq := hq.1 c1
    refine lv_aload_n hx hb dX2_closeRange_5 rfl (lv_at hl 0 rfl) ?_
    refine gfX2_31 C hw hw.2.2.1 h0 dX2_closeRange_6 ?_
    refine lv_iconst (v := 1) hx hb dX2_closeRange_9 (by decide) ?_
    refine lv_icmp_lt (tgt := 25) hx hb dX2_closeRange_10 (by decide) (fun c2 => ?_) (fun c2 => ?_)
    · replace hq := hq.1 c2
      refine lv_iconst (v := 1) hx hb dX2_closeRange_25 (by decide) ?_
      exact r_iret C hr hlk hw dX2_closeRange_26 (Nat.le_refl _) (Nat.le_refl _) ⟨_, rfl, hq⟩
    · replace hq := hq.2 c2
      refine lv_aload_n hx hb dX2_closeRange_13 rfl (lv_at hl 0 rfl) ?_
      refine gfX2_31 C hw hw.2.2.1 h0 dX2_closeRange_14 ?_
      refine lv_aload_n hx hb dX2_closeRange_17 rfl (lv_at hl 0 rfl) ?_
      obtain ⟨q3, e4, hq⟩ := hq
      refine gfX2_21 C hw hw.2.2.1 h0 e4 dX2_closeRange_18 ?_
      obtain ⟨h5, hq⟩ := hq
      refine q_alen C hw hw.2.2.1 h5 (by decide) (by decide) rfl dX2_closeRange_21 ?_
      refine lv_icmp_le (tgt := 27) hx hb dX2_closeRange_22 (by decide) (fun c6 => ?_) (fun c6 => ?_)
      · replace hq := hq.1 c6
        refine lv_lload_n hx hb dX2_closeRange_27 rfl (lv_at hl 2 rfl) ?_
        refine lv_aload_n hx hb dX2_closeRange_28 rfl (lv_at hl 0 rfl) ?_
        obtain ⟨q7, e8, hq⟩ := hq
        refine gfX2_17 C hw hw.2.2.1 h0 e8 dX2_closeRange_29 ?_
        refine lv_aload_n hx hb dX2_closeRange_32 rfl (lv_at hl 0 rfl) ?_
        refine gfX2_31 C hw hw.2.2.1 h0 dX2_closeRange_33 ?_
        refine lv_iconst (v := 1) hx hb dX2_closeRange_36 (by decide) ?_
        refine lv_isub hx hb dX2_closeRange_37 ?_
        obtain ⟨h9, hq⟩ := hq
        obtain ⟨h10, hq⟩ := hq
        refine q_lald C hw hw.2.2.1 h9 h10 dX2_closeRange_38 ?_
        refine W.lcmp hx hb dX2_closeRange_39 ?_
        refine lv_if_ge (tgt := 45) hx hb dX2_closeRange_40 (by decide) (fun c11 => ?_) (fun c11 => ?_)
        · replace hq := hq.1 c11
          refine lv_aload_n hx hb dX2_closeRange_45 rfl (lv_at hl 0 rfl) ?_
          refine gfX2_21 C hw hw.2.2.1 h0 e4 dX2_closeRange_46 ?_
          refine lv_aload_n hx hb dX2_closeRange_49 rfl (lv_at hl 0 rfl) ?_
          refine gfX2_31 C hw hw.2.2.1 h0 dX2_closeRange_50 ?_
          refine lv_iconst (v := 1) hx hb dX2_closeRange_53 (by decide) ?_
          refine lv_isub hx hb dX2_closeRange_54 ?_
          refine lv_lload_n hx hb dX2_closeRange_55 rfl (lv_at hl 2 rfl) ?_
          obtain ⟨h12, hq⟩ := hq
          refine q_last C hw hw.2.2.1 h5 h12 dX2_closeRange_56 (fun H locs hw => ?_)
          generalize e14 : uJ M0 q3 (Int32.toNatClampNeg ((mI M0 a0 3) - 1)) p2 = M13 at hw
          replace hq := hq M13 e14.symm
          have e4 : mR M13 a0 2 = some q3 := by rw [← e14, mR_uJ]; exact e4
          have e8 : mR M13 a0 1 = some q7 := by rw [← e14, mR_uJ]; exact e8
          refine lv_aload_n hx hb dX2_closeRange_57 rfl (lv_at hl 0 rfl) ?_
          refine lv_iconst (v := 1) hx hb dX2_closeRange_58 (by decide) ?_
          refine pfX2_38 C hw hw.2.2.1 h0 dX2_closeRange_59 (fun H locs hw => ?_)
          generalize e16 : uI M13 a0 7 1 = M15 at hw
          replace hq := hq M15 e16.symm
          have e4 : mR M15 a0 2 = some q3 := by rw [← e16, mR_uI]; exact e4
          have e8 : mR M15 a0 1 = some q7 := by rw [← e16, mR_uI]; exact e8
          refine lv_iconst (v := 0) hx hb dX2_closeRange_62 (by decide) ?_
          exact r_iret C hr hlk hw dX2_closeRange_63 (Nat.le_refl _) (Nat.le_refl _) ⟨_, rfl, hq⟩
        · replace hq := hq.2 c11
          refine lv_iconst (v := 2) hx hb dX2_closeRange_43 (by decide) ?_
          exact r_iret C hr hlk hw dX2_closeRange_44 (Nat.le_refl _) (Nat.le_refl _) ⟨_, rfl, hq⟩
      · replace hq := hq.2 c6
        refine lv_iconst (v := 1) hx hb dX2_closeRange_25 (by decide) ?_
        exact r_iret C hr hlk hw dX2_closeRange_26 (Nat.le_refl _) (Nat.le_refl _) ⟨_, rfl, hq⟩

set_option maxRecDepth 100000 in
def wp_X2_addItem  (g : Gh) (M0 : Mem) (a0 : Nat) (p1 : Int32) (p2 : Int64) (post : Mem → Prop) : Prop :=
  okc (gB g) M0 a0 2 ∧ (∃ q1, mR M0 a0 0 = some q1 ∧ (okc (gB g) M0 q1 13 ∧ ((((nI (mN M0 q1)) ≤ (mI M0 a0 3)) → post M0) ∧ (¬ ((nI (mN M0 q1)) ≤ (mI M0 a0 3)) → vp_in (mI M0 a0 3) (mN M0 q1) ∧ (∀ M6, M6 = uI M0 q1 (Int32.toNatClampNeg (mI M0 a0 3)) (vp_nar .byte ((Int32.toInt8 p1).toInt32)) → (∃ q8, mR M6 a0 1 = some q8 ∧ (okc (gB g) M0 q8 15 ∧ (vp_in (mI M6 a0 3) (mN M0 q8) ∧ (∀ M12, M12 = uJ M6 q8 (Int32.toNatClampNeg (mI M6 a0 3)) p2 → (∃ q14, mR M12 a0 2 = some q14 ∧ (okc (gB g) M0 q14 15 ∧ (vp_in (mI M12 a0 3) (mN M0 q14) ∧ (∀ M18, M18 = uJ M12 q14 (Int32.toNatClampNeg (mI M12 a0 3)) p2 → (∀ M20, M20 = uI M18 a0 3 ((mI M18 a0 3) + 1) → (post M20)))))))))))))))
set_option maxHeartbeats 4000000 in
set_option maxRecDepth 100000 in
theorem ct_X2_addItem {l : Launch} {g : Gh} {M0 : Mem} {a0 : Nat} {p1 : Int32} {p2 : Int64} {post : Mem → Prop}  (hq : wp_X2_addItem  g M0 a0 p1 p2 post) : Ct l g yX2_addItem cX2_addItem 4 none 0 0 0 [.ref a0, .int p1, .long p2] M0 (pV post) := by
  unfold wp_X2_addItem at hq
  obtain ⟨h0, hq⟩ := hq
  refine Ct.of (by decide) (Nat.le_of_ble_eq_true rfl) ?_
  intro p e s m below meth c ls C hr hlk hn hl hw
  have hx := C.1.1
  have hb := C.1.2.1
  have hl : lv_has ls 4 [(0, .ref a0), (1, .int p1), (2, .long p2)] := hl
  refine lv_aload_n hx hb dX2_addItem_0 rfl (lv_at hl 0 rfl) ?_
  refine gfX2_31 C hw hw.2.2.1 h0 dX2_addItem_1 ?_
  refine lv_aload_n hx hb dX2_addItem_4 rfl (lv_at hl 0 rfl) ?_
  obtain ⟨q1, e2, hq⟩ := hq
  refine gfX2_11 C hw hw.2.2.1 h0 e2 dX2_addItem_5 ?_
  obtain ⟨h3, hq⟩ := hq
  refine q_alen C hw hw.2.2.1 h3 (by decide) (by decide) rfl dX2_addItem_8 ?_
  refine lv_icmp_ge (tgt := 53) hx hb dX2_addItem_9 (by decide) (fun c4 => ?_) (fun c4 => ?_)
  · replace hq := hq.1 c4
    exact r_vret C hr hlk hw dX2_addItem_53 (Nat.le_refl _) (Nat.le_refl _) ⟨rfl, hq⟩
  · replace hq := hq.2 c4
    refine lv_aload_n hx hb dX2_addItem_12 rfl (lv_at hl 0 rfl) ?_
    refine gfX2_11 C hw hw.2.2.1 h0 e2 dX2_addItem_13 ?_
    refine lv_aload_n hx hb dX2_addItem_16 rfl (lv_at hl 0 rfl) ?_
    refine gfX2_31 C hw hw.2.2.1 h0 dX2_addItem_17 ?_
    refine lv_iload_n hx hb dX2_addItem_20 rfl (lv_at hl 1 rfl) ?_
    refine lv_i2b (v := ((Int32.toInt8 p1).toInt32)) hx hb dX2_addItem_21 rfl ?_
    obtain ⟨h5, hq⟩ := hq
    refine q_bast C hw hw.2.2.1 h3 h5 dX2_addItem_22 (fun H locs hw => ?_)
    generalize e7 : uI M0 q1 (Int32.toNatClampNeg (mI M0 a0 3)) (vp_nar .byte ((Int32.toInt8 p1).toInt32)) = M6 at hw
    replace hq := hq M6 e7.symm
    have e2 : mR M6 a0 0 = some q1 := by rw [← e7, mR_uI]; exact e2
    refine lv_aload_n hx hb dX2_addItem_23 rfl (lv_at hl 0 rfl) ?_
    obtain ⟨q8, e9, hq⟩ := hq
    refine gfX2_17 C hw hw.2.2.1 h0 e9 dX2_addItem_24 ?_
    refine lv_aload_n hx hb dX2_addItem_27 rfl (lv_at hl 0 rfl) ?_
    refine gfX2_31 C hw hw.2.2.1 h0 dX2_addItem_28 ?_
    refine lv_lload_n hx hb dX2_addItem_31 rfl (lv_at hl 2 rfl) ?_
    obtain ⟨h10, hq⟩ := hq
    obtain ⟨h11, hq⟩ := hq
    refine q_last C hw hw.2.2.1 h10 h11 dX2_addItem_32 (fun H locs hw => ?_)
    generalize e13 : uJ M6 q8 (Int32.toNatClampNeg (mI M6 a0 3)) p2 = M12 at hw
    replace hq := hq M12 e13.symm
    have e2 : mR M12 a0 0 = some q1 := by rw [← e13, mR_uJ]; exact e2
    have e9 : mR M12 a0 1 = some q8 := by rw [← e13, mR_uJ]; exact e9
    refine lv_aload_n hx hb dX2_addItem_33 rfl (lv_at hl 0 rfl) ?_
    obtain ⟨q14, e15, hq⟩ := hq
    refine gfX2_21 C hw hw.2.2.1 h0 e15 dX2_addItem_34 ?_
    refine lv_aload_n hx hb dX2_addItem_37 rfl (lv_at hl 0 rfl) ?_
    refine gfX2_31 C hw hw.2.2.1 h0 dX2_addItem_38 ?_
    refine lv_lload_n hx hb dX2_addItem_41 rfl (lv_at hl 2 rfl) ?_
    obtain ⟨h16, hq⟩ := hq
    obtain ⟨h17, hq⟩ := hq
    refine q_last C hw hw.2.2.1 h16 h17 dX2_addItem_42 (fun H locs hw => ?_)
    generalize e19 : uJ M12 q14 (Int32.toNatClampNeg (mI M12 a0 3)) p2 = M18 at hw
    replace hq := hq M18 e19.symm
    have e2 : mR M18 a0 0 = some q1 := by rw [← e19, mR_uJ]; exact e2
    have e9 : mR M18 a0 1 = some q8 := by rw [← e19, mR_uJ]; exact e9
    have e15 : mR M18 a0 2 = some q14 := by rw [← e19, mR_uJ]; exact e15
    refine lv_aload_n hx hb dX2_addItem_43 rfl (lv_at hl 0 rfl) ?_
    refine lv_dup hx hb dX2_addItem_44 rfl ?_
    refine gfX2_31 C hw hw.2.2.1 h0 dX2_addItem_45 ?_
    refine lv_iconst (v := 1) hx hb dX2_addItem_48 (by decide) ?_
    refine lv_iadd hx hb dX2_addItem_49 ?_
    refine pfX2_31 C hw hw.2.2.1 h0 dX2_addItem_50 (fun H locs hw => ?_)
    generalize e21 : uI M18 a0 3 ((mI M18 a0 3) + 1) = M20 at hw
    replace hq := hq M20 e21.symm
    have e2 : mR M20 a0 0 = some q1 := by rw [← e21, mR_uI]; exact e2
    have e9 : mR M20 a0 1 = some q8 := by rw [← e21, mR_uI]; exact e9
    have e15 : mR M20 a0 2 = some q14 := by rw [← e21, mR_uI]; exact e15
    exact r_vret C hr hlk hw dX2_addItem_53 (Nat.le_refl _) (Nat.le_refl _) ⟨rfl, hq⟩

set_option maxRecDepth 100000 in
def wp_X2_openBracket  (g : Gh) (M0 : Mem) (a0 : Nat) (p1 : Int32) (p2 : Int32) (post : Int32 → Mem → Prop) : Prop :=
  okc (gB g) M0 a0 2 ∧ ((((mI M0 a0 6) < 6) → ∃ q2, mR M0 a0 4 = some q2 ∧ (okc (gB g) M0 q2 14 ∧ (vp_in (mI M0 a0 6) (mN M0 q2) ∧ (∀ M6, M6 = uI M0 q2 (Int32.toNatClampNeg (mI M0 a0 6)) p2 → (∃ q8, mR M6 a0 5 = some q8 ∧ (okc (gB g) M0 q8 14 ∧ (vp_in (mI M6 a0 6) (mN M0 q8) ∧ (∀ M12, M12 = uI M6 q8 (Int32.toNatClampNeg (mI M6 a0 6)) 1 → (∀ M14, M14 = uI M12 a0 6 ((mI M12 a0 6) + 1) → (wp_X2_addItem g M14 a0 p1 0 (fun M17 => ∀ M18, M18 = uI M17 a0 7 0 → (post 0 M18)))))))))))) ∧ (¬ ((mI M0 a0 6) < 6) → post 3 M0))
set_option maxHeartbeats 4000000 in
set_option maxRecDepth 100000 in
theorem ct_X2_openBracket {l : Launch} {g : Gh} {M0 : Mem} {a0 : Nat} {p1 : Int32} {p2 : Int32} {post : Int32 → Mem → Prop}  (hq : wp_X2_openBracket  g M0 a0 p1 p2 post) : Ct l g yX2_openBracket cX2_openBracket 3 (some .int) 1 0 0 [.ref a0, .int p1, .int p2] M0 (pI post) := by
  unfold wp_X2_openBracket at hq
  obtain ⟨h0, hq⟩ := hq
  refine Ct.of (by decide) (Nat.le_of_ble_eq_true rfl) ?_
  intro p e s m below meth c ls C hr hlk hn hl hw
  have hx := C.1.1
  have hb := C.1.2.1
  have hl : lv_has ls 3 [(0, .ref a0), (1, .int p1), (2, .int p2)] := hl
  refine lv_aload_n hx hb dX2_openBracket_0 rfl (lv_at hl 0 rfl) ?_
  refine gfX2_35 C hw hw.2.2.1 h0 dX2_openBracket_1 ?_
  refine lv_bipush (v := 6) hx hb dX2_openBracket_4 (by decide) ?_
  refine lv_icmp_lt (tgt := 11) hx hb dX2_openBracket_6 (by decide) (fun c1 => ?_) (fun c1 => ?_)
  · replace hq := hq.1 c1
    refine lv_aload_n hx hb dX2_openBracket_11 rfl (lv_at hl 0 rfl) ?_
    obtain ⟨q2, e3, hq⟩ := hq
    refine gfX2_24 C hw hw.2.2.1 h0 e3 dX2_openBracket_12 ?_
    refine lv_aload_n hx hb dX2_openBracket_15 rfl (lv_at hl 0 rfl) ?_
    refine gfX2_35 C hw hw.2.2.1 h0 dX2_openBracket_16 ?_
    refine lv_iload_n hx hb dX2_openBracket_19 rfl (lv_at hl 2 rfl) ?_
    obtain ⟨h4, hq⟩ := hq
    obtain ⟨h5, hq⟩ := hq
    refine q_iast C hw hw.2.2.1 h4 h5 dX2_openBracket_20 (fun H locs hw => ?_)
    generalize e7 : uI M0 q2 (Int32.toNatClampNeg (mI M0 a0 6)) p2 = M6 at hw
    replace hq := hq M6 e7.symm
    have e3 : mR M6 a0 4 = some q2 := by rw [← e7, mR_uI]; exact e3
    refine lv_aload_n hx hb dX2_openBracket_21 rfl (lv_at hl 0 rfl) ?_
    obtain ⟨q8, e9, hq⟩ := hq
    refine gfX2_28 C hw hw.2.2.1 h0 e9 dX2_openBracket_22 ?_
    refine lv_aload_n hx hb dX2_openBracket_25 rfl (lv_at hl 0 rfl) ?_
    refine gfX2_35 C hw hw.2.2.1 h0 dX2_openBracket_26 ?_
    refine lv_iconst (v := 1) hx hb dX2_openBracket_29 (by decide) ?_
    obtain ⟨h10, hq⟩ := hq
    obtain ⟨h11, hq⟩ := hq
    refine q_iast C hw hw.2.2.1 h10 h11 dX2_openBracket_30 (fun H locs hw => ?_)
    generalize e13 : uI M6 q8 (Int32.toNatClampNeg (mI M6 a0 6)) 1 = M12 at hw
    replace hq := hq M12 e13.symm
    have e3 : mR M12 a0 4 = some q2 := by rw [← e13, mR_uI]; exact e3
    have e9 : mR M12 a0 5 = some q8 := by rw [← e13, mR_uI]; exact e9
    refine lv_aload_n hx hb dX2_openBracket_31 rfl (lv_at hl 0 rfl) ?_
    refine lv_dup hx hb dX2_openBracket_32 rfl ?_
    refine gfX2_35 C hw hw.2.2.1 h0 dX2_openBracket_33 ?_
    refine lv_iconst (v := 1) hx hb dX2_openBracket_36 (by decide) ?_
    refine lv_iadd hx hb dX2_openBracket_37 ?_
    refine pfX2_35 C hw hw.2.2.1 h0 dX2_openBracket_38 (fun H locs hw => ?_)
    generalize e15 : uI M12 a0 6 ((mI M12 a0 6) + 1) = M14 at hw
    replace hq := hq M14 e15.symm
    have e3 : mR M14 a0 4 = some q2 := by rw [← e15, mR_uI]; exact e3
    have e9 : mR M14 a0 5 = some q8 := by rw [← e15, mR_uI]; exact e9
    refine lv_aload_n hx hb dX2_openBracket_41 rfl (lv_at hl 0 rfl) ?_
    refine lv_iload_n hx hb dX2_openBracket_42 rfl (lv_at hl 1 rfl) ?_
    refine lv_lconst (v := 0) hx hb dX2_openBracket_43 (by decide) ?_
    refine r_callV (T := TX2) (N := 10) (ci := 2) (index := 85) (n := 2) (d2 := 0) (mc := 0) (ms := 0) (As := [.int p1, .long 0]) (rest := []) C hw (ct_X2_addItem hq) kvX2_85 hq.1 (by decide) rfl ⟨by decide, by decide⟩ ⟨by decide, by decide⟩ rfl hl.1 rfl (Nat.le_of_ble_eq_true rfl) dX2_openBracket_44 (fun r M17 H locs hp hle hw => ?_)
    obtain ⟨rfl, hq⟩ := hp
    refine W.eq (g2 := F0 m 47 ls []) rfl ?_
    refine lv_aload_n hx hb dX2_openBracket_47 rfl (lv_at hl 0 rfl) ?_
    refine lv_iconst (v := 0) hx hb dX2_openBracket_48 (by decide) ?_
    refine pfX2_38 C hw hw.2.2.1 h0 dX2_openBracket_49 (fun H locs hw => ?_)
    generalize e19 : uI M17 a0 7 0 = M18 at hw
    replace hq := hq M18 e19.symm
    refine lv_iconst (v := 0) hx hb dX2_openBracket_52 (by decide) ?_
    exact r_iret C hr hlk hw dX2_openBracket_53 (Nat.le_refl _) (Nat.le_refl _) ⟨_, rfl, hq⟩
  · replace hq := hq.2 c1
    refine lv_iconst (v := 3) hx hb dX2_openBracket_9 (by decide) ?_
    exact r_iret C hr hlk hw dX2_openBracket_10 (Nat.le_refl _) (Nat.le_refl _) ⟨_, rfl, hq⟩

set_option maxRecDepth 100000 in
def wp_X2_isInnermost  (g : Gh) (M0 : Mem) (a0 : Nat) (p1 : Int32) (post : Int32 → Mem → Prop) : Prop :=
  okc (gB g) M0 a0 2 ∧ ((((mI M0 a0 6) < 1) → post 0 M0) ∧ (¬ ((mI M0 a0 6) < 1) → ((6 < (mI M0 a0 6)) → post 0 M0) ∧ (¬ (6 < (mI M0 a0 6)) → ∃ q3, mR M0 a0 4 = some q3 ∧ (okc (gB g) M0 q3 14 ∧ (vp_in ((mI M0 a0 6) - 1) (mN M0 q3) ∧ ((((mI M0 q3 (Int32.toNatClampNeg ((mI M0 a0 6) - 1))) = p1) → post 1 M0) ∧ (¬ ((mI M0 q3 (Int32.toNatClampNeg ((mI M0 a0 6) - 1))) = p1) → post 0 M0)))))))
set_option maxHeartbeats 4000000 in
set_option maxRecDepth 100000 in
theorem ct_X2_isInnermost {l : Launch} {g : Gh} {M0 : Mem} {a0 : Nat} {p1 : Int32} {post : Int32 → Mem → Prop}  (hq : wp_X2_isInnermost  g M0 a0 p1 post) : Ct l g yX2_isInnermost cX2_isInnermost 2 (some .boolean) 0 0 0 [.ref a0, .int p1] M0 (pI post) := by
  unfold wp_X2_isInnermost at hq
  obtain ⟨h0, hq⟩ := hq
  refine Ct.of (by decide) (Nat.le_of_ble_eq_true rfl) ?_
  intro p e s m below meth c ls C hr hlk hn hl hw
  have hx := C.1.1
  have hb := C.1.2.1
  have hl : lv_has ls 2 [(0, .ref a0), (1, .int p1)] := hl
  refine lv_aload_n hx hb dX2_isInnermost_0 rfl (lv_at hl 0 rfl) ?_
  refine gfX2_35 C hw hw.2.2.1 h0 dX2_isInnermost_1 ?_
  refine lv_iconst (v := 1) hx hb dX2_isInnermost_4 (by decide) ?_
  refine lv_icmp_lt (tgt := 36) hx hb dX2_isInnermost_5 (by decide) (fun c1 => ?_) (fun c1 => ?_)
  · replace hq := hq.1 c1
    refine lv_iconst (v := 0) hx hb dX2_isInnermost_36 (by decide) ?_
    exact r_zret C hr hlk hw dX2_isInnermost_37 (Nat.le_refl _) (Nat.le_refl _) (by decide) ⟨_, rfl, hq⟩
  · replace hq := hq.2 c1
    refine lv_aload_n hx hb dX2_isInnermost_8 rfl (lv_at hl 0 rfl) ?_
    refine gfX2_35 C hw hw.2.2.1 h0 dX2_isInnermost_9 ?_
    refine lv_bipush (v := 6) hx hb dX2_isInnermost_12 (by decide) ?_
    refine lv_icmp_gt (tgt := 36) hx hb dX2_isInnermost_14 (by decide) (fun c2 => ?_) (fun c2 => ?_)
    · replace hq := hq.1 c2
      refine lv_iconst (v := 0) hx hb dX2_isInnermost_36 (by decide) ?_
      exact r_zret C hr hlk hw dX2_isInnermost_37 (Nat.le_refl _) (Nat.le_refl _) (by decide) ⟨_, rfl, hq⟩
    · replace hq := hq.2 c2
      refine lv_aload_n hx hb dX2_isInnermost_17 rfl (lv_at hl 0 rfl) ?_
      obtain ⟨q3, e4, hq⟩ := hq
      refine gfX2_24 C hw hw.2.2.1 h0 e4 dX2_isInnermost_18 ?_
      refine lv_aload_n hx hb dX2_isInnermost_21 rfl (lv_at hl 0 rfl) ?_
      refine gfX2_35 C hw hw.2.2.1 h0 dX2_isInnermost_22 ?_
      refine lv_iconst (v := 1) hx hb dX2_isInnermost_25 (by decide) ?_
      refine lv_isub hx hb dX2_isInnermost_26 ?_
      obtain ⟨h5, hq⟩ := hq
      obtain ⟨h6, hq⟩ := hq
      refine q_iald C hw hw.2.2.1 h5 h6 dX2_isInnermost_27 ?_
      refine lv_iload_n hx hb dX2_isInnermost_28 rfl (lv_at hl 1 rfl) ?_
      refine lv_icmp_ne (tgt := 36) hx hb dX2_isInnermost_29 (by decide) (fun c7 => ?_) (fun c7 => ?_)
      · replace hq := hq.2 c7
        refine lv_iconst (v := 0) hx hb dX2_isInnermost_36 (by decide) ?_
        exact r_zret C hr hlk hw dX2_isInnermost_37 (Nat.le_refl _) (Nat.le_refl _) (by decide) ⟨_, rfl, hq⟩
      · replace hq := hq.1 c7
        refine lv_iconst (v := 1) hx hb dX2_isInnermost_32 (by decide) ?_
        refine lv_goto (tgt := 37) hx hb dX2_isInnermost_33 (by decide) ?_
        exact r_zret C hr hlk hw dX2_isInnermost_37 (Nat.le_refl _) (Nat.le_refl _) (by decide) ⟨_, rfl, hq⟩

set_option maxRecDepth 100000 in
def wp_X2_nextOfSet  (g : Gh) (M0 : Mem) (a0 : Nat) (p1 : Int32) (post : Int32 → Mem → Prop) : Prop :=
  okc (gB g) M0 a0 2 ∧ (wp_X2_isInnermost g M0 a0 125 (fun v1 M2 => ((v1 = 0) → post 1 M2) ∧ (¬ (v1 = 0) → ∃ q4, mR M2 a0 5 = some q4 ∧ (okc (gB g) M0 q4 14 ∧ (vp_in ((mI M2 a0 6) - 1) (mN M0 q4) ∧ ((((mI M2 q4 (Int32.toNatClampNeg ((mI M2 a0 6) - 1))) < 5) → ∀ M9, M9 = uI M2 q4 (Int32.toNatClampNeg ((mI M2 a0 6) - 1)) ((mI M2 q4 (Int32.toNatClampNeg ((mI M2 a0 6) - 1))) + 1) → (wp_X2_addItem g M9 a0 p1 0 (fun M12 => ∀ M13, M13 = uI M12 a0 7 0 → (post 0 M13)))) ∧ (¬ ((mI M2 q4 (Int32.toNatClampNeg ((mI M2 a0 6) - 1))) < 5) → post 3 M2)))))))
set_option maxHeartbeats 4000000 in
set_option maxRecDepth 100000 in
theorem ct_X2_nextOfSet {l : Launch} {g : Gh} {M0 : Mem} {a0 : Nat} {p1 : Int32} {post : Int32 → Mem → Prop}  (hq : wp_X2_nextOfSet  g M0 a0 p1 post) : Ct l g yX2_nextOfSet cX2_nextOfSet 2 (some .int) 1 0 0 [.ref a0, .int p1] M0 (pI post) := by
  unfold wp_X2_nextOfSet at hq
  obtain ⟨h0, hq⟩ := hq
  refine Ct.of (by decide) (Nat.le_of_ble_eq_true rfl) ?_
  intro p e s m below meth c ls C hr hlk hn hl hw
  have hx := C.1.1
  have hb := C.1.2.1
  have hl : lv_has ls 2 [(0, .ref a0), (1, .int p1)] := hl
  refine lv_aload_n hx hb dX2_nextOfSet_0 rfl (lv_at hl 0 rfl) ?_
  refine lv_bipush (v := 125) hx hb dX2_nextOfSet_1 (by decide) ?_
  refine r_callV (T := TX2) (N := 10) (ci := 2) (index := 103) (n := 1) (d2 := 0) (mc := 0) (ms := 0) (As := [.int 125]) (rest := []) C hw (ct_X2_isInnermost hq) kvX2_103 hq.1 (by decide) rfl ⟨by decide, by decide⟩ ⟨by decide, by decide⟩ rfl hl.1 rfl (Nat.le_of_ble_eq_true rfl) dX2_nextOfSet_3 (fun r M2 H locs hp hle hw => ?_)
  obtain ⟨v1, rfl, hq⟩ := hp
  refine W.eq (g2 := F0 m 6 ls [.int v1]) rfl ?_
  refine lv_if_ne (tgt := 11) hx hb dX2_nextOfSet_6 (by decide) (fun c3 => ?_) (fun c3 => ?_)
  · replace hq := hq.2 c3
    refine lv_aload_n hx hb dX2_nextOfSet_11 rfl (lv_at hl 0 rfl) ?_
    obtain ⟨q4, e5, hq⟩ := hq
    refine gfX2_28 C hw hw.2.2.1 h0 e5 dX2_nextOfSet_12 ?_
    refine lv_aload_n hx hb dX2_nextOfSet_15 rfl (lv_at hl 0 rfl) ?_
    refine gfX2_35 C hw hw.2.2.1 h0 dX2_nextOfSet_16 ?_
    refine lv_iconst (v := 1) hx hb dX2_nextOfSet_19 (by decide) ?_
    refine lv_isub hx hb dX2_nextOfSet_20 ?_
    obtain ⟨h6, hq⟩ := hq
    obtain ⟨h7, hq⟩ := hq
    refine q_iald C hw hw.2.2.1 h6 h7 dX2_nextOfSet_21 ?_
    refine lv_iconst (v := 5) hx hb dX2_nextOfSet_22 (by decide) ?_
    refine lv_icmp_lt (tgt := 28) hx hb dX2_nextOfSet_23 (by decide) (fun c8 => ?_) (fun c8 => ?_)
    · replace hq := hq.1 c8
      refine lv_aload_n hx hb dX2_nextOfSet_28 rfl (lv_at hl 0 rfl) ?_
      refine gfX2_28 C hw hw.2.2.1 h0 e5 dX2_nextOfSet_29 ?_
      refine lv_aload_n hx hb dX2_nextOfSet_32 rfl (lv_at hl 0 rfl) ?_
      refine gfX2_35 C hw hw.2.2.1 h0 dX2_nextOfSet_33 ?_
      refine lv_iconst (v := 1) hx hb dX2_nextOfSet_36 (by decide) ?_
      refine lv_isub hx hb dX2_nextOfSet_37 ?_
      refine lv_dup2_11 hx hb dX2_nextOfSet_38 rfl rfl ?_
      refine q_iald C hw hw.2.2.1 h6 h7 dX2_nextOfSet_39 ?_
      refine lv_iconst (v := 1) hx hb dX2_nextOfSet_40 (by decide) ?_
      refine lv_iadd hx hb dX2_nextOfSet_41 ?_
      refine q_iast C hw hw.2.2.1 h6 h7 dX2_nextOfSet_42 (fun H locs hw => ?_)
      generalize e10 : uI M2 q4 (Int32.toNatClampNeg ((mI M2 a0 6) - 1)) ((mI M2 q4 (Int32.toNatClampNeg ((mI M2 a0 6) - 1))) + 1) = M9 at hw
      replace hq := hq M9 e10.symm
      have e5 : mR M9 a0 5 = some q4 := by rw [← e10, mR_uI]; exact e5
      refine lv_aload_n hx hb dX2_nextOfSet_43 rfl (lv_at hl 0 rfl) ?_
      refine lv_iload_n hx hb dX2_nextOfSet_44 rfl (lv_at hl 1 rfl) ?_
      refine lv_lconst (v := 0) hx hb dX2_nextOfSet_45 (by decide) ?_
      refine r_callV (T := TX2) (N := 10) (ci := 2) (index := 85) (n := 2) (d2 := 0) (mc := 0) (ms := 0) (As := [.int p1, .long 0]) (rest := []) C hw (ct_X2_addItem hq) kvX2_85 hq.1 (by decide) rfl ⟨by decide, by decide⟩ ⟨by decide, by decide⟩ rfl hl.1 rfl (Nat.le_of_ble_eq_true rfl) dX2_nextOfSet_46 (fun r M12 H locs hp hle hw => ?_)
      obtain ⟨rfl, hq⟩ := hp
      refine W.eq (g2 := F0 m 49 ls []) rfl ?_
      refine lv_aload_n hx hb dX2_nextOfSet_49 rfl (lv_at hl 0 rfl) ?_
      refine lv_iconst (v := 0) hx hb dX2_nextOfSet_50 (by decide) ?_
      refine pfX2_38 C hw hw.2.2.1 h0 dX2_nextOfSet_51 (fun H locs hw => ?_)
      generalize e14 : uI M12 a0 7 0 = M13 at hw
      replace hq := hq M13 e14.symm
      refine lv_iconst (v := 0) hx hb dX2_nextOfSet_54 (by decide) ?_
      exact r_iret C hr hlk hw dX2_nextOfSet_55 (Nat.le_refl _) (Nat.le_refl _) ⟨_, rfl, hq⟩
    · replace hq := hq.2 c8
      refine lv_iconst (v := 3) hx hb dX2_nextOfSet_26 (by decide) ?_
      exact r_iret C hr hlk hw dX2_nextOfSet_27 (Nat.le_refl _) (Nat.le_refl _) ⟨_, rfl, hq⟩
  · replace hq := hq.1 c3
    refine lv_iconst (v := 1) hx hb dX2_nextOfSet_9 (by decide) ?_
    exact r_iret C hr hlk hw dX2_nextOfSet_10 (Nat.le_refl _) (Nat.le_refl _) ⟨_, rfl, hq⟩
