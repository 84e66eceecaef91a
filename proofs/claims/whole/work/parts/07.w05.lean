set_option maxRecDepth 100000 in
def wp_X10_cutTo  (g : Gh) (M0 : Mem) (a0 : Nat) (p1 : Int32) (post : Int32 → Mem → Prop) : Prop :=
  okc (gB g) M0 a0 10 ∧ (((p1 < 0) → post 0 M0) ∧ (¬ (p1 < 0) → ((p1 ≤ (mI M0 a0 1)) → ∀ M3, M3 = uI M0 a0 1 p1 → (post 1 M3)) ∧ (¬ (p1 ≤ (mI M0 a0 1)) → post 0 M0)))
set_option maxHeartbeats 4000000 in
set_option maxRecDepth 100000 in
theorem ct_X10_cutTo {l : Launch} {g : Gh} {M0 : Mem} {a0 : Nat} {p1 : Int32} {post : Int32 → Mem → Prop}  (hq : wp_X10_cutTo  g M0 a0 p1 post) : Ct l g yX10_cutTo cX10_cutTo 2 (some .boolean) 0 0 0 [.ref a0, .int p1] M0 (pI post) := by
  unfold wp_X10_cutTo at hq
  obtain ⟨h0, hq⟩ := hq
  refine Ct.of (by decide) (Nat.le_of_ble_eq_true rfl) ?_
  intro p e s m below meth c ls C hr hlk hn hl hw
  have hx := C.1.1
  have hb := C.1.2.1
  have hl : lv_has ls 2 [(0, .ref a0), (1, .int p1)] := hl
  refine lv_iload_n hx hb dX10_cutTo_0 rfl (lv_at hl 1 rfl) ?_
  refine lv_if_lt (tgt := 12) hx hb dX10_cutTo_1 (by decide) (fun c1 => ?_) (fun c1 => ?_)
  · replace hq := hq.1 c1
    refine lv_iconst (v := 0) hx hb dX10_cutTo_12 (by decide) ?_
    exact r_zret C hr hlk hw dX10_cutTo_13 (Nat.le_refl _) (Nat.le_refl _) (by decide) ⟨_, rfl, hq⟩
  · replace hq := hq.2 c1
    refine lv_iload_n hx hb dX10_cutTo_4 rfl (lv_at hl 1 rfl) ?_
    refine lv_aload_n hx hb dX10_cutTo_5 rfl (lv_at hl 0 rfl) ?_
    refine gfX10_15 C hw hw.2.2.1 h0 dX10_cutTo_6 ?_
    refine lv_icmp_le (tgt := 14) hx hb dX10_cutTo_9 (by decide) (fun c2 => ?_) (fun c2 => ?_)
    · replace hq := hq.1 c2
      refine lv_aload_n hx hb dX10_cutTo_14 rfl (lv_at hl 0 rfl) ?_
      refine lv_iload_n hx hb dX10_cutTo_15 rfl (lv_at hl 1 rfl) ?_
      refine pfX10_15 C hw hw.2.2.1 h0 dX10_cutTo_16 (fun H locs hw => ?_)
      generalize e4 : uI M0 a0 1 p1 = M3 at hw
      replace hq := hq M3 e4.symm
      refine lv_iconst (v := 1) hx hb dX10_cutTo_19 (by decide) ?_
      exact r_zret C hr hlk hw dX10_cutTo_20 (Nat.le_refl _) (Nat.le_refl _) (by decide) ⟨_, rfl, hq⟩
    · replace hq := hq.2 c2
      refine lv_iconst (v := 0) hx hb dX10_cutTo_12 (by decide) ?_
      exact r_zret C hr hlk hw dX10_cutTo_13 (Nat.le_refl _) (Nat.le_refl _) (by decide) ⟨_, rfl, hq⟩

set_option maxRecDepth 100000 in
def wp_X10_wipe  (g : Gh) (M0 : Mem) (a0 : Nat) (post : Mem → Prop) : Prop :=
  okc (gB g) M0 a0 10 ∧ (∀ M1, M1 = uI M0 a0 1 0 → (post M1))
set_option maxHeartbeats 4000000 in
set_option maxRecDepth 100000 in
theorem ct_X10_wipe {l : Launch} {g : Gh} {M0 : Mem} {a0 : Nat} {post : Mem → Prop}  (hq : wp_X10_wipe  g M0 a0 post) : Ct l g yX10_wipe cX10_wipe 1 none 0 0 0 [.ref a0] M0 (pV post) := by
  unfold wp_X10_wipe at hq
  obtain ⟨h0, hq⟩ := hq
  refine Ct.of (by decide) (Nat.le_of_ble_eq_true rfl) ?_
  intro p e s m below meth c ls C hr hlk hn hl hw
  have hx := C.1.1
  have hb := C.1.2.1
  have hl : lv_has ls 1 [(0, .ref a0)] := hl
  refine lv_aload_n hx hb dX10_wipe_0 rfl (lv_at hl 0 rfl) ?_
  refine lv_iconst (v := 0) hx hb dX10_wipe_1 (by decide) ?_
  refine pfX10_15 C hw hw.2.2.1 h0 dX10_wipe_2 (fun H locs hw => ?_)
  generalize e2 : uI M0 a0 1 0 = M1 at hw
  replace hq := hq M1 e2.symm
  exact r_vret C hr hlk hw dX10_wipe_5 (Nat.le_refl _) (Nat.le_refl _) ⟨rfl, hq⟩

set_option maxRecDepth 100000 in
def wp_X11_init  (g : Gh) (M0 : Mem) (a0 : Nat) (post : Mem → Prop) : Prop :=
  okc (gB g) M0 a0 11 ∧ ((0 + 1 ≤ 194 ∧ 0 + 6 ≤ 3522) ∧ (∀ q2 M3, q2 = mT M0 → M3 = nw M0 10 0 → (((0 + 1) + 1 ≤ 194 ∧ (0 + 6) + 260 ≤ 3522) ∧ (wp_X10_init g M3 q2 (fun M8 => ∀ M10, M10 = uR M8 a0 0 (some q2) → ((((0 + 1) + 1) + 1 ≤ 194 ∧ ((0 + 6) + 260) + 10 ≤ 3522) ∧ (∀ q13 M14, q13 = mT M10 → M14 = nw M10 2 0 → (((((0 + 1) + 1) + 1) + 5 ≤ 194 ∧ (((0 + 6) + 260) + 10) + 612 ≤ 3522) ∧ (wp_X2_init g M14 q13 (fun M19 => ∀ M21, M21 = uR M19 a0 1 (some q13) → ((((((0 + 1) + 1) + 1) + 5) + 1 ≤ 194 ∧ ((((0 + 6) + 260) + 10) + 612) + 5 ≤ 3522) ∧ (∀ q24 M25, q24 = mT M21 → M25 = nw M21 7 0 → (((((((0 + 1) + 1) + 1) + 5) + 1) + 38 ≤ 194 ∧ (((((0 + 6) + 260) + 10) + 612) + 5) + 1336 ≤ 3522) ∧ (wp_X7_init g M25 q24 (fun M30 => ∀ M32, M32 = uR M30 a0 2 (some q24) → ((((((((0 + 1) + 1) + 1) + 5) + 1) + 38) + 1 ≤ 194 ∧ ((((((0 + 6) + 260) + 10) + 612) + 5) + 1336) + 60 ≤ 3522) ∧ (∀ q35 M36, q35 = mT M32 → M36 = nw M32 20 60 → (∀ M40, M40 = uR M36 a0 3 (some q35) → (∀ M42, M42 = uI M40 a0 4 0 → (((((((((0 + 1) + 1) + 1) + 5) + 1) + 38) + 1) + 1 ≤ 194 ∧ (((((((0 + 6) + 260) + 10) + 612) + 5) + 1336) + 60) + 9 ≤ 3522) ∧ (∀ q45 M46, q45 = mT M42 → M46 = nw M42 4 0 → ((((((((((0 + 1) + 1) + 1) + 5) + 1) + 38) + 1) + 1) + 5 ≤ 194 ∧ ((((((((0 + 6) + 260) + 10) + 612) + 5) + 1336) + 60) + 9) + 30 ≤ 3522) ∧ (wp_X4_init g M46 q45 (fun M51 => ∀ M53, M53 = uR M51 a0 5 (some q45) → (((((((((((0 + 1) + 1) + 1) + 5) + 1) + 38) + 1) + 1) + 5) + 1 ≤ 194 ∧ (((((((((0 + 6) + 260) + 10) + 612) + 5) + 1336) + 60) + 9) + 30) + 9 ≤ 3522) ∧ (∀ q56 M57, q56 = mT M53 → M57 = nw M53 4 0 → ((((((((((((0 + 1) + 1) + 1) + 5) + 1) + 38) + 1) + 1) + 5) + 1) + 5 ≤ 194 ∧ ((((((((((0 + 6) + 260) + 10) + 612) + 5) + 1336) + 60) + 9) + 30) + 9) + 30 ≤ 3522) ∧ (wp_X4_init g M57 q56 (fun M62 => ∀ M64, M64 = uR M62 a0 6 (some q56) → (∀ M66, M66 = uI M64 a0 7 0 → (((((((((((((0 + 1) + 1) + 1) + 5) + 1) + 38) + 1) + 1) + 5) + 1) + 5) + 1 ≤ 194 ∧ (((((((((((0 + 6) + 260) + 10) + 612) + 5) + 1336) + 60) + 9) + 30) + 9) + 30) + 15 ≤ 3522) ∧ (∀ q69 M70, q69 = mT M66 → M70 = nw M66 8 0 → ((((((((((((((0 + 1) + 1) + 1) + 5) + 1) + 38) + 1) + 1) + 5) + 1) + 5) + 1) + 5 ≤ 194 ∧ ((((((((((((0 + 6) + 260) + 10) + 612) + 5) + 1336) + 60) + 9) + 30) + 9) + 30) + 15) + 236 ≤ 3522) ∧ (wp_X8_init g M70 q69 (fun M75 => ∀ M77, M77 = uR M75 a0 8 (some q69) → (((((((((((((((0 + 1) + 1) + 1) + 5) + 1) + 38) + 1) + 1) + 5) + 1) + 5) + 1) + 5) + 1 ≤ 194 ∧ (((((((((((((0 + 6) + 260) + 10) + 612) + 5) + 1336) + 60) + 9) + 30) + 9) + 30) + 15) + 236) + 9 ≤ 3522) ∧ (∀ q80 M81, q80 = mT M77 → M81 = nw M77 6 0 → (∃ q85, mR M81 a0 5 = some q85 ∧ ((((((((((((((((0 + 1) + 1) + 1) + 5) + 1) + 38) + 1) + 1) + 5) + 1) + 5) + 1) + 5) + 1) + 122 ≤ 194 ∧ ((((((((((((((0 + 6) + 260) + 10) + 612) + 5) + 1336) + 60) + 9) + 30) + 9) + 30) + 15) + 236) + 9) + 842 ≤ 3522) ∧ (wp_X6_init g M81 q80 q85 (fun M88 => ∀ M90, M90 = uR M88 a0 9 (some q80) → (((((((((((((((((0 + 1) + 1) + 1) + 5) + 1) + 38) + 1) + 1) + 5) + 1) + 5) + 1) + 5) + 1) + 122) + 1 ≤ 194 ∧ (((((((((((((((0 + 6) + 260) + 10) + 612) + 5) + 1336) + 60) + 9) + 30) + 9) + 30) + 15) + 236) + 9) + 842) + 5 ≤ 3522) ∧ (∀ q93 M94, q93 = mT M90 → M94 = nw M90 5 0 → ((((((((((((((((((0 + 1) + 1) + 1) + 5) + 1) + 38) + 1) + 1) + 5) + 1) + 5) + 1) + 5) + 1) + 122) + 1) + 4 ≤ 194 ∧ ((((((((((((((((0 + 6) + 260) + 10) + 612) + 5) + 1336) + 60) + 9) + 30) + 9) + 30) + 15) + 236) + 9) + 842) + 5) + 48 ≤ 3522) ∧ (wp_X5_init g M94 q93 (fun M99 => ∀ M101, M101 = uR M99 a0 10 (some q93) → (((((((((((((((((((0 + 1) + 1) + 1) + 5) + 1) + 38) + 1) + 1) + 5) + 1) + 5) + 1) + 5) + 1) + 122) + 1) + 4) ≤ 194 ∧ (((((((((((((((((0 + 6) + 260) + 10) + 612) + 5) + 1336) + 60) + 9) + 30) + 9) + 30) + 15) + 236) + 9) + 842) + 5) + 48) ≤ 3522) ∧ (post M101))))))))))))))))))))))))))))))))))))))))))))))))
set_option maxHeartbeats 4000000 in
set_option maxRecDepth 100000 in
theorem ct_X11_init {l : Launch} {g : Gh} {M0 : Mem} {a0 : Nat} {post : Mem → Prop}  (hq : wp_X11_init  g M0 a0 post) : Ct l g yX11_init cX11_init 1 none 3 194 3522 [.ref a0] M0 (pV post) := by
  unfold wp_X11_init at hq
  obtain ⟨h0, hq⟩ := hq
  have h00 := h0
  refine Ct.of (by decide) (Nat.le_of_ble_eq_true rfl) ?_
  intro p e s m below meth c ls C hr hlk hn hl hw
  have hx := C.1.1
  have hb := C.1.2.1
  have hl : lv_has ls 1 [(0, .ref a0)] := hl
  refine lv_aload_n hx hb dX11_init_0 rfl (lv_at hl 0 rfl) ?_
  refine W.objInit hx hb C.1.2.2.2.1 (C.1.2.2.2.2 _ w_34) (C.1.2.2.2.2 _ w_35) (C.1.2.2.2.2 _ w_objInit) rfl (by rw [C.1.2.2.1]; exact hl.1) rfl dX11_init_1 (Nat.le_of_ble_eq_true rfl) (Nat.le_of_ble_eq_true rfl) ?_
  refine W.eq (g2 := F0 m 4 ls []) rfl ?_
  refine lv_aload_n hx hb dX11_init_4 rfl (lv_at hl 0 rfl) ?_
  have hB := hw.B C.2.2.2.2.2
  obtain ⟨h1, hq⟩ := hq
  refine r_new tyX10 (T := TX10) (N := 6) (ci := 10) C hw rfl (by decide) inX10 tyX10_ok w_37 w_38 w_2 df_10 h1.1 h1.2 dX11_init_5 (fun H hw => ?_)
  have h6 := okc_nw (gB g) M0 10 0 hB
  have h0 := h0.up (mle_nw M0 10 0)
  generalize e4 : nw M0 10 0 = M3 at hw h6 h0
  generalize e5 : mT M0 = q2 at h6 ⊢
  replace hq := hq q2 M3 e5.symm e4.symm
  refine lv_dup hx hb dX11_init_8 rfl ?_
  obtain ⟨h9, hq⟩ := hq
  refine r_callI (index := 9) (n := 0) (d2 := 1) (mc := 1) (ms := 260) (As := []) (rest := [.ref q2, .ref a0]) C hw (ct_X10_init hq) kiX11_9 ⟨by decide, by decide⟩ ⟨h9.1, h9.2⟩ rfl hl.1 rfl (Nat.le_of_ble_eq_true rfl) dX11_init_9 (fun r M8 H locs hp hle hw => ?_)
  obtain ⟨rfl, hq⟩ := hp
  have h0 := h0.up hle
  have h6 := h6.up hle
  refine W.eq (g2 := F0 m 12 ls [.ref q2, .ref a0]) rfl ?_
  refine pfX11_10 (v := (some q2)) C hw (mle_rf _) h0 hn dX11_init_12 (fun H locs hw => ?_)
  generalize e11 : uR M8 a0 0 (some q2) = M10 at hw
  replace hq := hq M10 e11.symm
  have h0 : okc (gB g) M10 a0 11 := by rw [← e11]; exact okc_uR h0
  refine lv_aload_n hx hb dX11_init_15 rfl (lv_at hl 0 rfl) ?_
  have hB := hw.B C.2.2.2.2.2
  obtain ⟨h12, hq⟩ := hq
  refine r_new tyX2 (T := TX2) (N := 10) (ci := 2) C hw rfl (by decide) inX2 tyX2_ok w_72 w_73 w_3 df_2 h12.1 h12.2 dX11_init_16 (fun H hw => ?_)
  have h17 := okc_nw (gB g) M10 2 0 hB
  have h0 := h0.up (mle_nw M10 2 0)
  generalize e15 : nw M10 2 0 = M14 at hw h17 h0
  generalize e16 : mT M10 = q13 at h17 ⊢
  replace hq := hq q13 M14 e16.symm e15.symm
  refine lv_dup hx hb dX11_init_19 rfl ?_
  obtain ⟨h20, hq⟩ := hq
  refine r_callI (index := 18) (n := 0) (d2 := 1) (mc := 5) (ms := 612) (As := []) (rest := [.ref q13, .ref a0]) C hw (ct_X2_init hq) kiX11_18 ⟨by decide, by decide⟩ ⟨h20.1, h20.2⟩ rfl hl.1 rfl (Nat.le_of_ble_eq_true rfl) dX11_init_20 (fun r M19 H locs hp hle hw => ?_)
  obtain ⟨rfl, hq⟩ := hp
  have h0 := h0.up hle
  have h17 := h17.up hle
  refine W.eq (g2 := F0 m 23 ls [.ref q13, .ref a0]) rfl ?_
  refine pfX11_19 (v := (some q13)) C hw (mle_rf _) h0 hn dX11_init_23 (fun H locs hw => ?_)
  generalize e22 : uR M19 a0 1 (some q13) = M21 at hw
  replace hq := hq M21 e22.symm
  have h0 : okc (gB g) M21 a0 11 := by rw [← e22]; exact okc_uR h0
  refine lv_aload_n hx hb dX11_init_26 rfl (lv_at hl 0 rfl) ?_
  have hB := hw.B C.2.2.2.2.2
  obtain ⟨h23, hq⟩ := hq
  refine r_new tyX7 (T := TX7) (N := 5) (ci := 7) C hw rfl (by decide) inX7 tyX7_ok w_114 w_115 w_4 df_7 h23.1 h23.2 dX11_init_27 (fun H hw => ?_)
  have h28 := okc_nw (gB g) M21 7 0 hB
  have h0 := h0.up (mle_nw M21 7 0)
  generalize e26 : nw M21 7 0 = M25 at hw h28 h0
  generalize e27 : mT M21 = q24 at h28 ⊢
  replace hq := hq q24 M25 e27.symm e26.symm
  refine lv_dup hx hb dX11_init_30 rfl ?_
  obtain ⟨h31, hq⟩ := hq
  refine r_callI (index := 25) (n := 0) (d2 := 2) (mc := 38) (ms := 1336) (As := []) (rest := [.ref q24, .ref a0]) C hw (ct_X7_init hq) kiX11_25 ⟨by decide, by decide⟩ ⟨h31.1, h31.2⟩ rfl hl.1 rfl (Nat.le_of_ble_eq_true rfl) dX11_init_31 (fun r M30 H locs hp hle hw => ?_)
  obtain ⟨rfl, hq⟩ := hp
  have h0 := h0.up hle
  have h28 := h28.up hle
  refine W.eq (g2 := F0 m 34 ls [.ref q24, .ref a0]) rfl ?_
  refine pfX11_26 (v := (some q24)) C hw (mle_rf _) h0 hn dX11_init_34 (fun H locs hw => ?_)
  generalize e33 : uR M30 a0 2 (some q24) = M32 at hw
  replace hq := hq M32 e33.symm
  have h0 : okc (gB g) M32 a0 11 := by rw [← e33]; exact okc_uR h0
  refine lv_aload_n hx hb dX11_init_37 rfl (lv_at hl 0 rfl) ?_
  refine lv_bipush (v := 60) hx hb dX11_init_38 (by decide) ?_
  have hB := hw.B C.2.2.2.2.2
  obtain ⟨h34, hq⟩ := hq
  refine r_newq (kd := 20) (N' := 60) C hw w_160 C.2.2.2.1.2.2 rfl (by decide) (by decide) (by decide) (by decide) (by decide) h34.1 h34.2 dX11_init_40 (fun H hw => ?_)
  have h39 := okc_nw (gB g) M32 20 60 hB
  have h0 := h0.up (mle_nw M32 20 60)
  generalize e37 : nw M32 20 60 = M36 at hw h39 h0
  generalize e38 : mT M32 = q35 at h39 ⊢
  replace hq := hq q35 M36 e38.symm e37.symm
  refine pfX11_32 (v := (some q35)) C hw (mle_rf _) h0 hn dX11_init_43 (fun H locs hw => ?_)
  generalize e41 : uR M36 a0 3 (some q35) = M40 at hw
  replace hq := hq M40 e41.symm
  have h0 : okc (gB g) M40 a0 11 := by rw [← e41]; exact okc_uR h0
  refine lv_aload_n hx hb dX11_init_46 rfl (lv_at hl 0 rfl) ?_
  refine lv_iconst (v := 0) hx hb dX11_init_47 (by decide) ?_
  refine pfX11_36 C hw (mle_rf _) h0 dX11_init_48 (fun H locs hw => ?_)
  generalize e43 : uI M40 a0 4 0 = M42 at hw
  replace hq := hq M42 e43.symm
  have h0 : okc (gB g) M42 a0 11 := by rw [← e43]; exact okc_uI h0
  refine lv_aload_n hx hb dX11_init_51 rfl (lv_at hl 0 rfl) ?_
  have hB := hw.B C.2.2.2.2.2
  obtain ⟨h44, hq⟩ := hq
  refine r_new tyX4 (T := TX4) (N := 9) (ci := 4) C hw rfl (by decide) inX4 tyX4_ok w_162 w_163 w_6 df_4 h44.1 h44.2 dX11_init_52 (fun H hw => ?_)
  have h49 := okc_nw (gB g) M42 4 0 hB
  have h0 := h0.up (mle_nw M42 4 0)
  generalize e47 : nw M42 4 0 = M46 at hw h49 h0
  generalize e48 : mT M42 = q45 at h49 ⊢
  replace hq := hq q45 M46 e48.symm e47.symm
  refine lv_dup hx hb dX11_init_55 rfl ?_
  obtain ⟨h52, hq⟩ := hq
  refine r_callI (index := 42) (n := 0) (d2 := 1) (mc := 5) (ms := 30) (As := []) (rest := [.ref q45, .ref a0]) C hw (ct_X4_init hq) kiX11_42 ⟨by decide, by decide⟩ ⟨h52.1, h52.2⟩ rfl hl.1 rfl (Nat.le_of_ble_eq_true rfl) dX11_init_56 (fun r M51 H locs hp hle hw => ?_)
  obtain ⟨rfl, hq⟩ := hp
  have h0 := h0.up hle
  have h49 := h49.up hle
  refine W.eq (g2 := F0 m 59 ls [.ref q45, .ref a0]) rfl ?_
  refine pfX11_43 (v := (some q45)) C hw (mle_rf _) h0 dX11_init_59 (fun H locs hw => ?_)
  generalize e54 : uR M51 a0 5 (some q45) = M53 at hw
  replace hq := hq M53 e54.symm
  have h0 : okc (gB g) M53 a0 11 := by rw [← e54]; exact okc_uR h0
  refine lv_aload_n hx hb dX11_init_62 rfl (lv_at hl 0 rfl) ?_
  have hB := hw.B C.2.2.2.2.2
  obtain ⟨h55, hq⟩ := hq
  refine r_new tyX4 (T := TX4) (N := 9) (ci := 4) C hw rfl (by decide) inX4 tyX4_ok w_162 w_163 w_6 df_4 h55.1 h55.2 dX11_init_63 (fun H hw => ?_)
  have h60 := okc_nw (gB g) M53 4 0 hB
  have h0 := h0.up (mle_nw M53 4 0)
  generalize e58 : nw M53 4 0 = M57 at hw h60 h0
  generalize e59 : mT M53 = q56 at h60 ⊢
  replace hq := hq q56 M57 e59.symm e58.symm
  refine lv_dup hx hb dX11_init_66 rfl ?_
  obtain ⟨h63, hq⟩ := hq
  refine r_callI (index := 42) (n := 0) (d2 := 1) (mc := 5) (ms := 30) (As := []) (rest := [.ref q56, .ref a0]) C hw (ct_X4_init hq) kiX11_42 ⟨by decide, by decide⟩ ⟨h63.1, h63.2⟩ rfl hl.1 rfl (Nat.le_of_ble_eq_true rfl) dX11_init_67 (fun r M62 H locs hp hle hw => ?_)
  obtain ⟨rfl, hq⟩ := hp
  have h0 := h0.up hle
  have h60 := h60.up hle
  refine W.eq (g2 := F0 m 70 ls [.ref q56, .ref a0]) rfl ?_
  refine pfX11_47 (v := (some q56)) C hw (mle_rf _) h0 dX11_init_70 (fun H locs hw => ?_)
  generalize e65 : uR M62 a0 6 (some q56) = M64 at hw
  replace hq := hq M64 e65.symm
  have h0 : okc (gB g) M64 a0 11 := by rw [← e65]; exact okc_uR h0
  refine lv_aload_n hx hb dX11_init_73 rfl (lv_at hl 0 rfl) ?_
  refine lv_iconst (v := 0) hx hb dX11_init_74 (by decide) ?_
  refine pfX11_50 C hw (mle_rf _) h0 dX11_init_75 (fun H locs hw => ?_)
  generalize e67 : uI M64 a0 7 0 = M66 at hw
  replace hq := hq M66 e67.symm
  have h0 : okc (gB g) M66 a0 11 := by rw [← e67]; exact okc_uI h0
  refine lv_aload_n hx hb dX11_init_78 rfl (lv_at hl 0 rfl) ?_
  have hB := hw.B C.2.2.2.2.2
  obtain ⟨h68, hq⟩ := hq
  refine r_new tyX8 (T := TX8) (N := 15) (ci := 8) C hw rfl (by decide) inX8 tyX8_ok w_206 w_207 w_7 df_8 h68.1 h68.2 dX11_init_79 (fun H hw => ?_)
  have h73 := okc_nw (gB g) M66 8 0 hB
  have h0 := h0.up (mle_nw M66 8 0)
  generalize e71 : nw M66 8 0 = M70 at hw h73 h0
  generalize e72 : mT M66 = q69 at h73 ⊢
  replace hq := hq q69 M70 e72.symm e71.symm
  refine lv_dup hx hb dX11_init_82 rfl ?_
  obtain ⟨h76, hq⟩ := hq
  refine r_callI (index := 55) (n := 0) (d2 := 1) (mc := 5) (ms := 236) (As := []) (rest := [.ref q69, .ref a0]) C hw (ct_X8_init hq) kiX11_55 ⟨by decide, by decide⟩ ⟨h76.1, h76.2⟩ rfl hl.1 rfl (Nat.le_of_ble_eq_true rfl) dX11_init_83 (fun r M75 H locs hp hle hw => ?_)
  obtain ⟨rfl, hq⟩ := hp
  have h0 := h0.up hle
  have h73 := h73.up hle
  refine W.eq (g2 := F0 m 86 ls [.ref q69, .ref a0]) rfl ?_
  refine pfX11_56 (v := (some q69)) C hw (mle_rf _) h0 hn dX11_init_86 (fun H locs hw => ?_)
  generalize e78 : uR M75 a0 8 (some q69) = M77 at hw
  replace hq := hq M77 e78.symm
  have h0 : okc (gB g) M77 a0 11 := by rw [← e78]; exact okc_uR h0
  refine lv_aload_n hx hb dX11_init_89 rfl (lv_at hl 0 rfl) ?_
  have hB := hw.B C.2.2.2.2.2
  obtain ⟨h79, hq⟩ := hq
  refine r_new tyX6 (T := TX6) (N := 9) (ci := 6) C hw rfl (by decide) inX6 tyX6_ok w_262 w_263 w_8 df_6 h79.1 h79.2 dX11_init_90 (fun H hw => ?_)
  have h84 := okc_nw (gB g) M77 6 0 hB
  have h0 := h0.up (mle_nw M77 6 0)
  generalize e82 : nw M77 6 0 = M81 at hw h84 h0
  generalize e83 : mT M77 = q80 at h84 ⊢
  replace hq := hq q80 M81 e83.symm e82.symm
  refine lv_dup hx hb dX11_init_93 rfl ?_
  refine lv_aload_n hx hb dX11_init_94 rfl (lv_at hl 0 rfl) ?_
  obtain ⟨q85, e86, hq⟩ := hq
  refine gfX11_43 C hw (mle_rf _) h0 e86 dX11_init_95 ?_
  obtain ⟨h89, hq⟩ := hq
  refine r_callI (index := 62) (n := 1) (d2 := 2) (mc := 122) (ms := 842) (As := [.ref q85]) (rest := [.ref q80, .ref a0]) C hw (ct_X6_init hq) kiX11_62 ⟨by decide, by decide⟩ ⟨h89.1, h89.2⟩ rfl hl.1 rfl (Nat.le_of_ble_eq_true rfl) dX11_init_98 (fun r M88 H locs hp hle hw => ?_)
  obtain ⟨rfl, hq⟩ := hp
  have h0 := h0.up hle
  have h84 := h84.up hle
  refine W.eq (g2 := F0 m 101 ls [.ref q80, .ref a0]) rfl ?_
  refine pfX11_65 (v := (some q80)) C hw (mle_rf _) h0 hn dX11_init_101 (fun H locs hw => ?_)
  generalize e91 : uR M88 a0 9 (some q80) = M90 at hw
  replace hq := hq M90 e91.symm
  have h0 : okc (gB g) M90 a0 11 := by rw [← e91]; exact okc_uR h0
  refine lv_aload_n hx hb dX11_init_104 rfl (lv_at hl 0 rfl) ?_
  have hB := hw.B C.2.2.2.2.2
  obtain ⟨h92, hq⟩ := hq
  refine r_new tyX5 (T := TX5) (N := 5) (ci := 5) C hw rfl (by decide) inX5 tyX5_ok w_330 w_331 w_10 df_5 h92.1 h92.2 dX11_init_105 (fun H hw => ?_)
  have h97 := okc_nw (gB g) M90 5 0 hB
  have h0 := h0.up (mle_nw M90 5 0)
  generalize e95 : nw M90 5 0 = M94 at hw h97 h0
  generalize e96 : mT M90 = q93 at h97 ⊢
  replace hq := hq q93 M94 e96.symm e95.symm
  refine lv_dup hx hb dX11_init_108 rfl ?_
  obtain ⟨h100, hq⟩ := hq
  refine r_callI (index := 71) (n := 0) (d2 := 1) (mc := 4) (ms := 48) (As := []) (rest := [.ref q93, .ref a0]) C hw (ct_X5_init hq) kiX11_71 ⟨by decide, by decide⟩ ⟨h100.1, h100.2⟩ rfl hl.1 rfl (Nat.le_of_ble_eq_true rfl) dX11_init_109 (fun r M99 H locs hp hle hw => ?_)
  obtain ⟨rfl, hq⟩ := hp
  have h0 := h0.up hle
  have h97 := h97.up hle
  refine W.eq (g2 := F0 m 112 ls [.ref q93, .ref a0]) rfl ?_
  refine pfX11_72 (v := (some q93)) C hw (mle_rf _) h0 hn dX11_init_112 (fun H locs hw => ?_)
  generalize e102 : uR M99 a0 10 (some q93) = M101 at hw
  replace hq := hq M101 e102.symm
  have h0 : okc (gB g) M101 a0 11 := by rw [← e102]; exact okc_uR h0
  obtain ⟨h103, hq⟩ := hq
  exact r_vret C hr hlk hw dX11_init_115 h103.1 h103.2 ⟨rfl, hq⟩

set_option maxRecDepth 100000 in
def wp_X11_feed  (g : Gh) (M0 : Mem) (a0 : Nat) (p1 : Int32) (p2 : Int32) (p3 : Int32) (p4 : Int32) (p5 : Int32) (post : Int32 → Mem → Prop) : Prop :=
  okc (gB g) M0 a0 11 ∧ (∃ q1, mR M0 a0 0 = some q1 ∧ (wp_X10_hasRoomFor g M0 q1 20 (fun v3 M4 => ((v3 = 0) → post (-1) M4) ∧ (¬ (v3 = 0) → ∃ q6, mR M4 a0 0 = some q6 ∧ (wp_X10_addNumber g M4 q6 p1 (fun M9 => ∃ q10, mR M9 a0 0 = some q10 ∧ (wp_X10_addNumber g M9 q10 p2 (fun M13 => ∃ q14, mR M13 a0 0 = some q14 ∧ (wp_X10_addNumber g M13 q14 p3 (fun M17 => ∃ q18, mR M17 a0 0 = some q18 ∧ (wp_X10_addNumber g M17 q18 p4 (fun M21 => ∃ q22, mR M21 a0 0 = some q22 ∧ (wp_X10_addNumber g M21 q22 p5 (fun M25 => ∃ q26, mR M25 a0 0 = some q26 ∧ (okc (gB g) M0 q26 10 ∧ (post (mI M25 q26 1) M25))))))))))))))))
set_option maxHeartbeats 4000000 in
set_option maxRecDepth 100000 in
theorem ct_X11_feed {l : Launch} {g : Gh} {M0 : Mem} {a0 : Nat} {p1 : Int32} {p2 : Int32} {p3 : Int32} {p4 : Int32} {p5 : Int32} {post : Int32 → Mem → Prop}  (hq : wp_X11_feed  g M0 a0 p1 p2 p3 p4 p5 post) : Ct l g yX11_feed cX11_feed 6 (some .int) 1 0 0 [.ref a0, .int p1, .int p2, .int p3, .int p4, .int p5] M0 (pI post) := by
  unfold wp_X11_feed at hq
  obtain ⟨h0, hq⟩ := hq
  refine Ct.of (by decide) (Nat.le_of_ble_eq_true rfl) ?_
  intro p e s m below meth c ls C hr hlk hn hl hw
  have hx := C.1.1
  have hb := C.1.2.1
  have hl : lv_has ls 6 [(0, .ref a0), (1, .int p1), (2, .int p2), (3, .int p3), (4, .int p4), (5, .int p5)] := hl
  refine lv_aload_n hx hb dX11_feed_0 rfl (lv_at hl 0 rfl) ?_
  obtain ⟨q1, e2, hq⟩ := hq
  refine gfX11_10 C hw hw.2.2.1 h0 e2 dX11_feed_1 ?_
  refine lv_bipush (v := 20) hx hb dX11_feed_4 (by decide) ?_
  refine r_callV (T := TX10) (N := 6) (ci := 10) (index := 76) (n := 1) (d2 := 0) (mc := 0) (ms := 0) (As := [.int 20]) (rest := []) C hw (ct_X10_hasRoomFor hq) kvX11_76 hq.1 (by decide) rfl ⟨by decide, by decide⟩ ⟨by decide, by decide⟩ rfl hl.1 rfl (Nat.le_of_ble_eq_true rfl) dX11_feed_6 (fun r M4 H locs hp hle hw => ?_)
  obtain ⟨v3, rfl, hq⟩ := hp
  refine W.eq (g2 := F0 m 9 ls [.int v3]) rfl ?_
  refine lv_if_ne (tgt := 14) hx hb dX11_feed_9 (by decide) (fun c5 => ?_) (fun c5 => ?_)
  · replace hq := hq.2 c5
    refine lv_aload_n hx hb dX11_feed_14 rfl (lv_at hl 0 rfl) ?_
    obtain ⟨q6, e7, hq⟩ := hq
    refine gfX11_10 C hw hw.2.2.1 h0 e7 dX11_feed_15 ?_
    refine lv_iload_n hx hb dX11_feed_18 rfl (lv_at hl 1 rfl) ?_
    refine r_callV (T := TX10) (N := 6) (ci := 10) (index := 80) (n := 1) (d2 := 0) (mc := 0) (ms := 0) (As := [.int p1]) (rest := []) C hw (ct_X10_addNumber hq) kvX11_80 hq.1 (by decide) rfl ⟨by decide, by decide⟩ ⟨by decide, by decide⟩ rfl hl.1 rfl (Nat.le_of_ble_eq_true rfl) dX11_feed_19 (fun r M9 H locs hp hle hw => ?_)
    obtain ⟨rfl, hq⟩ := hp
    refine W.eq (g2 := F0 m 22 ls []) rfl ?_
    refine lv_aload_n hx hb dX11_feed_22 rfl (lv_at hl 0 rfl) ?_
    obtain ⟨q10, e11, hq⟩ := hq
    refine gfX11_10 C hw hw.2.2.1 h0 e11 dX11_feed_23 ?_
    refine lv_iload_n hx hb dX11_feed_26 rfl (lv_at hl 2 rfl) ?_
    refine r_callV (T := TX10) (N := 6) (ci := 10) (index := 80) (n := 1) (d2 := 0) (mc := 0) (ms := 0) (As := [.int p2]) (rest := []) C hw (ct_X10_addNumber hq) kvX11_80 hq.1 (by decide) rfl ⟨by decide, by decide⟩ ⟨by decide, by decide⟩ rfl hl.1 rfl (Nat.le_of_ble_eq_true rfl) dX11_feed_27 (fun r M13 H locs hp hle hw => ?_)
    obtain ⟨rfl, hq⟩ := hp
    refine W.eq (g2 := F0 m 30 ls []) rfl ?_
    refine lv_aload_n hx hb dX11_feed_30 rfl (lv_at hl 0 rfl) ?_
    obtain ⟨q14, e15, hq⟩ := hq
    refine gfX11_10 C hw hw.2.2.1 h0 e15 dX11_feed_31 ?_
    refine lv_iload_n hx hb dX11_feed_34 rfl (lv_at hl 3 rfl) ?_
    refine r_callV (T := TX10) (N := 6) (ci := 10) (index := 80) (n := 1) (d2 := 0) (mc := 0) (ms := 0) (As := [.int p3]) (rest := []) C hw (ct_X10_addNumber hq) kvX11_80 hq.1 (by decide) rfl ⟨by decide, by decide⟩ ⟨by decide, by decide⟩ rfl hl.1 rfl (Nat.le_of_ble_eq_true rfl) dX11_feed_35 (fun r M17 H locs hp hle hw => ?_)
    obtain ⟨rfl, hq⟩ := hp
    refine W.eq (g2 := F0 m 38 ls []) rfl ?_
    refine lv_aload_n hx hb dX11_feed_38 rfl (lv_at hl 0 rfl) ?_
    obtain ⟨q18, e19, hq⟩ := hq
    refine gfX11_10 C hw hw.2.2.1 h0 e19 dX11_feed_39 ?_
    refine lv_iload hx hb dX11_feed_42 (lv_at hl 4 rfl) ?_
    refine r_callV (T := TX10) (N := 6) (ci := 10) (index := 80) (n := 1) (d2 := 0) (mc := 0) (ms := 0) (As := [.int p4]) (rest := []) C hw (ct_X10_addNumber hq) kvX11_80 hq.1 (by decide) rfl ⟨by decide, by decide⟩ ⟨by decide, by decide⟩ rfl hl.1 rfl (Nat.le_of_ble_eq_true rfl) dX11_feed_44 (fun r M21 H locs hp hle hw => ?_)
    obtain ⟨rfl, hq⟩ := hp
    refine W.eq (g2 := F0 m 47 ls []) rfl ?_
    refine lv_aload_n hx hb dX11_feed_47 rfl (lv_at hl 0 rfl) ?_
    obtain ⟨q22, e23, hq⟩ := hq
    refine gfX11_10 C hw hw.2.2.1 h0 e23 dX11_feed_48 ?_
    refine lv_iload hx hb dX11_feed_51 (lv_at hl 5 rfl) ?_
    refine r_callV (T := TX10) (N := 6) (ci := 10) (index := 80) (n := 1) (d2 := 0) (mc := 0) (ms := 0) (As := [.int p5]) (rest := []) C hw (ct_X10_addNumber hq) kvX11_80 hq.1 (by decide) rfl ⟨by decide, by decide⟩ ⟨by decide, by decide⟩ rfl hl.1 rfl (Nat.le_of_ble_eq_true rfl) dX11_feed_53 (fun r M25 H locs hp hle hw => ?_)
    obtain ⟨rfl, hq⟩ := hp
    refine W.eq (g2 := F0 m 56 ls []) rfl ?_
    refine lv_aload_n hx hb dX11_feed_56 rfl (lv_at hl 0 rfl) ?_
    obtain ⟨q26, e27, hq⟩ := hq
    refine gfX11_10 C hw hw.2.2.1 h0 e27 dX11_feed_57 ?_
    obtain ⟨h28, hq⟩ := hq
    refine gfX11_84 C hw hw.2.2.1 h28 dX11_feed_60 ?_
    exact r_iret C hr hlk hw dX11_feed_63 (Nat.le_refl _) (Nat.le_refl _) ⟨_, rfl, hq⟩
  · replace hq := hq.1 c5
    refine lv_iconst (v := (-1)) hx hb dX11_feed_12 (by decide) ?_
    exact r_iret C hr hlk hw dX11_feed_13 (Nat.le_refl _) (Nat.le_refl _) ⟨_, rfl, hq⟩

set_option maxRecDepth 100000 in
def wp_X11_end  (g : Gh) (M0 : Mem) (a0 : Nat) (p1 : Int32) (post : Int32 → Mem → Prop) : Prop :=
  okc (gB g) M0 a0 11 ∧ (∃ q1, mR M0 a0 0 = some q1 ∧ (wp_X10_cutTo g M0 q1 p1 (fun v3 M4 => (v3 = 0 ∨ v3 = 1) ∧ (post v3 M4))))
set_option maxHeartbeats 4000000 in
set_option maxRecDepth 100000 in
theorem ct_X11_end {l : Launch} {g : Gh} {M0 : Mem} {a0 : Nat} {p1 : Int32} {post : Int32 → Mem → Prop}  (hq : wp_X11_end  g M0 a0 p1 post) : Ct l g yX11_end cX11_end 2 (some .boolean) 1 0 0 [.ref a0, .int p1] M0 (pI post) := by
  unfold wp_X11_end at hq
  obtain ⟨h0, hq⟩ := hq
  refine Ct.of (by decide) (Nat.le_of_ble_eq_true rfl) ?_
  intro p e s m below meth c ls C hr hlk hn hl hw
  have hx := C.1.1
  have hb := C.1.2.1
  have hl : lv_has ls 2 [(0, .ref a0), (1, .int p1)] := hl
  refine lv_aload_n hx hb dX11_end_0 rfl (lv_at hl 0 rfl) ?_
  obtain ⟨q1, e2, hq⟩ := hq
  refine gfX11_10 C hw hw.2.2.1 h0 e2 dX11_end_1 ?_
  refine lv_iload_n hx hb dX11_end_4 rfl (lv_at hl 1 rfl) ?_
  refine r_callV (T := TX10) (N := 6) (ci := 10) (index := 87) (n := 1) (d2 := 0) (mc := 0) (ms := 0) (As := [.int p1]) (rest := []) C hw (ct_X10_cutTo hq) kvX11_87 hq.1 (by decide) rfl ⟨by decide, by decide⟩ ⟨by decide, by decide⟩ rfl hl.1 rfl (Nat.le_of_ble_eq_true rfl) dX11_end_5 (fun r M4 H locs hp hle hw => ?_)
  obtain ⟨v3, rfl, hq⟩ := hp
  refine W.eq (g2 := F0 m 8 ls [.int v3]) rfl ?_
  obtain ⟨h5, hq⟩ := hq
  exact r_zret C hr hlk hw dX11_end_8 (Nat.le_refl _) (Nat.le_refl _) h5 ⟨_, rfl, hq⟩

set_option maxRecDepth 100000 in
def wp_X11_questionAt  (g : Gh) (M0 : Mem) (a0 : Nat) (p1 : Int32) (post : Option Nat → Mem → Prop) : Prop :=
  okc (gB g) M0 a0 11 ∧ (((p1 < 0) → post none M0) ∧ (¬ (p1 < 0) → (((mI M0 a0 4) ≤ p1) → post none M0) ∧ (¬ ((mI M0 a0 4) ≤ p1) → ∃ q3, mR M0 a0 3 = some q3 ∧ (okc (gB g) M0 q3 20 ∧ ((((nI (mN M0 q3)) ≤ p1) → post none M0) ∧ (¬ ((nI (mN M0 q3)) ≤ p1) → vp_in p1 (mN M0 q3) ∧ (∃ q8, mR M0 q3 (Int32.toNatClampNeg p1) = some q8 ∧ (post (some q8) M0))))))))
set_option maxHeartbeats 4000000 in
set_option maxRecDepth 100000 in
theorem ct_X11_questionAt {l : Launch} {g : Gh} {M0 : Mem} {a0 : Nat} {p1 : Int32} {post : Option Nat → Mem → Prop}  (hq : wp_X11_questionAt  g M0 a0 p1 post) : Ct l g yX11_questionAt cX11_questionAt 2 (some (.object "QuizLeague$Question")) 0 0 0 [.ref a0, .int p1] M0 (pR post) := by
  unfold wp_X11_questionAt at hq
  obtain ⟨h0, hq⟩ := hq
  refine Ct.of (by decide) (Nat.le_of_ble_eq_true rfl) ?_
  intro p e s m below meth c ls C hr hlk hn hl hw
  have hx := C.1.1
  have hb := C.1.2.1
  have hl : lv_has ls 2 [(0, .ref a0), (1, .int p1)] := hl
  refine lv_iload_n hx hb dX11_questionAt_0 rfl (lv_at hl 1 rfl) ?_
  refine lv_if_lt (tgt := 30) hx hb dX11_questionAt_1 (by decide) (fun c1 => ?_) (fun c1 => ?_)
  · replace hq := hq.1 c1
    refine lv_null hx hb dX11_questionAt_30 ?_
    exact r_aret (v := none) C hr (Or.inl ⟨_, rfl⟩) hlk hw dX11_questionAt_31 (Nat.le_refl _) (Nat.le_refl _) ⟨_, rfl, hq⟩
  · replace hq := hq.2 c1
    refine lv_iload_n hx hb dX11_questionAt_4 rfl (lv_at hl 1 rfl) ?_
    refine lv_aload_n hx hb dX11_questionAt_5 rfl (lv_at hl 0 rfl) ?_
    refine gfX11_36 C hw hw.2.2.1 h0 dX11_questionAt_6 ?_
    refine lv_icmp_ge (tgt := 30) hx hb dX11_questionAt_9 (by decide) (fun c2 => ?_) (fun c2 => ?_)
    · replace hq := hq.1 c2
      refine lv_null hx hb dX11_questionAt_30 ?_
      exact r_aret (v := none) C hr (Or.inl ⟨_, rfl⟩) hlk hw dX11_questionAt_31 (Nat.le_refl _) (Nat.le_refl _) ⟨_, rfl, hq⟩
    · replace hq := hq.2 c2
      refine lv_iload_n hx hb dX11_questionAt_12 rfl (lv_at hl 1 rfl) ?_
      refine lv_aload_n hx hb dX11_questionAt_13 rfl (lv_at hl 0 rfl) ?_
      obtain ⟨q3, e4, hq⟩ := hq
      refine gfX11_32 C hw hw.2.2.1 h0 e4 dX11_questionAt_14 ?_
      obtain ⟨h5, hq⟩ := hq
      refine q_alen C hw hw.2.2.1 h5 (by decide) (by decide) rfl dX11_questionAt_17 ?_
      refine lv_icmp_ge (tgt := 30) hx hb dX11_questionAt_18 (by decide) (fun c6 => ?_) (fun c6 => ?_)
      · replace hq := hq.1 c6
        refine lv_null hx hb dX11_questionAt_30 ?_
        exact r_aret (v := none) C hr (Or.inl ⟨_, rfl⟩) hlk hw dX11_questionAt_31 (Nat.le_refl _) (Nat.le_refl _) ⟨_, rfl, hq⟩
      · replace hq := hq.2 c6
        refine lv_aload_n hx hb dX11_questionAt_21 rfl (lv_at hl 0 rfl) ?_
        refine gfX11_32 C hw hw.2.2.1 h0 e4 dX11_questionAt_22 ?_
        refine lv_iload_n hx hb dX11_questionAt_25 rfl (lv_at hl 1 rfl) ?_
        obtain ⟨h7, hq⟩ := hq
        obtain ⟨q8, e9, hq⟩ := hq
        refine q_aald C hw hw.2.2.1 h5 (by decide) (by decide) rfl h7 e9 dX11_questionAt_26 ?_
        refine lv_goto (tgt := 31) hx hb dX11_questionAt_27 (by decide) ?_
        exact r_aret (v := (some q8)) C hr (Or.inl ⟨_, rfl⟩) hlk hw dX11_questionAt_31 (Nat.le_refl _) (Nat.le_refl _) ⟨_, rfl, hq⟩

set_option maxRecDepth 100000 in
def wp_X11_strike  (g : Gh) (M0 : Mem) (a0 : Nat) (p1 : Int32) (p2 : Int32) (post : Int32 → Mem → Prop) : Prop :=
  okc (gB g) M0 a0 11 ∧ (wp_X11_questionAt g M0 a0 p1 (fun v1 M2 => (v1 = none → post 0 M2) ∧ (∀ q4, v1 = some q4 → ∃ q5, mR M2 a0 9 = some q5 ∧ (okc (gB g) M0 q5 6 ∧ ((((mI M2 q5 0) = 0) → okc (gB g) M0 q4 9 ∧ ((((mI M2 q4 4) = p2) → post 0 M2) ∧ (¬ ((mI M2 q4 4) = p2) → (p2 = 0 ∨ p2 = 1) ∧ (∀ M12, M12 = uI M2 q4 4 p2 → (post 1 M12))))) ∧ (¬ ((mI M2 q5 0) = 0) → post 0 M2))))))
set_option maxHeartbeats 4000000 in
set_option maxRecDepth 100000 in
theorem ct_X11_strike {l : Launch} {g : Gh} {M0 : Mem} {a0 : Nat} {p1 : Int32} {p2 : Int32} {post : Int32 → Mem → Prop}  (hq : wp_X11_strike  g M0 a0 p1 p2 post) : Ct l g yX11_strike cX11_strike 4 (some .boolean) 1 0 0 [.ref a0, .int p1, .int p2] M0 (pI post) := by
  unfold wp_X11_strike at hq
  obtain ⟨h0, hq⟩ := hq
  refine Ct.of (by decide) (Nat.le_of_ble_eq_true rfl) ?_
  intro p e s m below meth c ls C hr hlk hn hl hw
  have hx := C.1.1
  have hb := C.1.2.1
  have hl : lv_has ls 4 [(0, .ref a0), (1, .int p1), (2, .int p2)] := hl
  refine lv_aload_n hx hb dX11_strike_0 rfl (lv_at hl 0 rfl) ?_
  refine lv_iload_n hx hb dX11_strike_1 rfl (lv_at hl 1 rfl) ?_
  refine r_callV (T := TX11) (N := 11) (ci := 11) (index := 113) (n := 1) (d2 := 0) (mc := 0) (ms := 0) (As := [.int p1]) (rest := []) C hw (ct_X11_questionAt hq) kvX11_113 hq.1 (by decide) rfl ⟨by decide, by decide⟩ ⟨by decide, by decide⟩ rfl hl.1 rfl (Nat.le_of_ble_eq_true rfl) dX11_strike_2 (fun r M2 H locs hp hle hw => ?_)
  obtain ⟨v1, rfl, hq⟩ := hp
  refine W.eq (g2 := F0 m 5 ls [va_rf v1]) rfl ?_
  refine r_astore_n (lv' := [(3, va_rf v1), (0, .ref a0), (1, .int p1), (2, .int p2)]) hx hb dX11_strike_5 rfl hl (by decide) (by first | rfl | simp [va_cat]) (fun ls hl => ?_)
  refine r_aload_n hx hb dX11_strike_6 rfl (lv_at hl 0 rfl) ?_
  rcases v1 with _ | q4
  · refine lv_ifnullN (tgt := 28) hx hb dX11_strike_7 (by decide) ?_
    have hl : lv_has ls 4 [(3, .null), (0, .ref a0), (1, .int p1), (2, .int p2)] := hl
    replace hq := hq.1 rfl
    refine lv_iconst (v := 0) hx hb dX11_strike_28 (by decide) ?_
    exact r_zret C hr hlk hw dX11_strike_29 (Nat.le_refl _) (Nat.le_refl _) (by decide) ⟨_, rfl, hq⟩
  · refine lv_ifnull hx hb dX11_strike_7 ?_
    have hl : lv_has ls 4 [(3, .ref q4), (0, .ref a0), (1, .int p1), (2, .int p2)] := hl
    replace hq := hq.2 q4 rfl
    refine lv_aload_n hx hb dX11_strike_10 rfl (lv_at hl 1 rfl) ?_
    obtain ⟨q5, e6, hq⟩ := hq
    refine gfX11_65 C hw hw.2.2.1 h0 e6 dX11_strike_11 ?_
    obtain ⟨h7, hq⟩ := hq
    refine gfX11_125 C hw hw.2.2.1 h7 dX11_strike_14 ?_
    refine lv_if_ne (tgt := 28) hx hb dX11_strike_17 (by decide) (fun c8 => ?_) (fun c8 => ?_)
    · replace hq := hq.2 c8
      refine lv_iconst (v := 0) hx hb dX11_strike_28 (by decide) ?_
      exact r_zret C hr hlk hw dX11_strike_29 (Nat.le_refl _) (Nat.le_refl _) (by decide) ⟨_, rfl, hq⟩
    · replace hq := hq.1 c8
      refine lv_aload_n hx hb dX11_strike_20 rfl (lv_at hl 0 rfl) ?_
      obtain ⟨h9, hq⟩ := hq
      refine gfX11_129 C hw hw.2.2.1 h9 dX11_strike_21 ?_
      refine lv_iload_n hx hb dX11_strike_24 rfl (lv_at hl 3 rfl) ?_
      refine lv_icmp_ne (tgt := 30) hx hb dX11_strike_25 (by decide) (fun c10 => ?_) (fun c10 => ?_)
      · replace hq := hq.2 c10
        refine lv_aload_n hx hb dX11_strike_30 rfl (lv_at hl 0 rfl) ?_
        refine lv_iload_n hx hb dX11_strike_31 rfl (lv_at hl 3 rfl) ?_
        obtain ⟨h11, hq⟩ := hq
        refine pfX11_129 C hw hw.2.2.1 h9 h11 dX11_strike_32 (fun H locs hw => ?_)
        generalize e13 : uI M2 q4 4 p2 = M12 at hw
        replace hq := hq M12 e13.symm
        have e6 : mR M12 a0 9 = some q5 := by rw [← e13, mR_uI]; exact e6
        refine lv_iconst (v := 1) hx hb dX11_strike_35 (by decide) ?_
        exact r_zret C hr hlk hw dX11_strike_36 (Nat.le_refl _) (Nat.le_refl _) (by decide) ⟨_, rfl, hq⟩
      · replace hq := hq.1 c10
        refine lv_iconst (v := 0) hx hb dX11_strike_28 (by decide) ?_
        exact r_zret C hr hlk hw dX11_strike_29 (Nat.le_refl _) (Nat.le_refl _) (by decide) ⟨_, rfl, hq⟩

set_option maxRecDepth 100000 in
def wp_X11_seen  (g : Gh) (M0 : Mem) (a0 : Nat) (p1 : Int32) (p2 : Int32) (post : Int32 → Mem → Prop) : Prop :=
  okc (gB g) M0 a0 11 ∧ (wp_X11_questionAt g M0 a0 p2 (fun v1 M2 => (v1 = none → post 0 M2) ∧ (∀ q4, v1 = some q4 → wp_X11_isTeam g M2 p1 (fun v5 M6 => ((v5 = 0) → post 0 M6) ∧ (¬ (v5 = 0) → wp_X9_isSeenBy g M6 q4 p1 (fun v8 M9 => ((v8 = 0) → post 0 M9) ∧ (¬ (v8 = 0) → post 1 M9)))))))
set_option maxHeartbeats 4000000 in
set_option maxRecDepth 100000 in
theorem ct_X11_seen {l : Launch} {g : Gh} {M0 : Mem} {a0 : Nat} {p1 : Int32} {p2 : Int32} {post : Int32 → Mem → Prop}  (hq : wp_X11_seen  g M0 a0 p1 p2 post) : Ct l g yX11_seen cX11_seen 4 (some .boolean) 1 0 0 [.ref a0, .int p1, .int p2] M0 (pI post) := by
  unfold wp_X11_seen at hq
  obtain ⟨h0, hq⟩ := hq
  refine Ct.of (by decide) (Nat.le_of_ble_eq_true rfl) ?_
  intro p e s m below meth c ls C hr hlk hn hl hw
  have hx := C.1.1
  have hb := C.1.2.1
  have hl : lv_has ls 4 [(0, .ref a0), (1, .int p1), (2, .int p2)] := hl
  refine lv_aload_n hx hb dX11_seen_0 rfl (lv_at hl 0 rfl) ?_
  refine lv_iload_n hx hb dX11_seen_1 rfl (lv_at hl 2 rfl) ?_
  refine r_callV (T := TX11) (N := 11) (ci := 11) (index := 113) (n := 1) (d2 := 0) (mc := 0) (ms := 0) (As := [.int p2]) (rest := []) C hw (ct_X11_questionAt hq) kvX11_113 hq.1 (by decide) rfl ⟨by decide, by decide⟩ ⟨by decide, by decide⟩ rfl hl.1 rfl (Nat.le_of_ble_eq_true rfl) dX11_seen_2 (fun r M2 H locs hp hle hw => ?_)
  obtain ⟨v1, rfl, hq⟩ := hp
  refine W.eq (g2 := F0 m 5 ls [va_rf v1]) rfl ?_
  refine r_astore_n (lv' := [(3, va_rf v1), (0, .ref a0), (1, .int p1), (2, .int p2)]) hx hb dX11_seen_5 rfl hl (by decide) (by first | rfl | simp [va_cat]) (fun ls hl => ?_)
  refine r_aload_n hx hb dX11_seen_6 rfl (lv_at hl 0 rfl) ?_
  rcases v1 with _ | q4
  · refine lv_ifnullN (tgt := 29) hx hb dX11_seen_7 (by decide) ?_
    have hl : lv_has ls 4 [(3, .null), (0, .ref a0), (1, .int p1), (2, .int p2)] := hl
    replace hq := hq.1 rfl
    refine lv_iconst (v := 0) hx hb dX11_seen_29 (by decide) ?_
    exact r_zret C hr hlk hw dX11_seen_30 (Nat.le_refl _) (Nat.le_refl _) (by decide) ⟨_, rfl, hq⟩
  · refine lv_ifnull hx hb dX11_seen_7 ?_
    have hl : lv_has ls 4 [(3, .ref q4), (0, .ref a0), (1, .int p1), (2, .int p2)] := hl
    replace hq := hq.2 q4 rfl
    refine lv_iload_n hx hb dX11_seen_10 rfl (lv_at hl 2 rfl) ?_
    refine r_callS (index := 143) (n := 1) (d2 := 0) (mc := 0) (ms := 0) (As := [.int p1]) (rest := []) C hw (ct_X11_isTeam hq) ksX11_143 ⟨by decide, by decide⟩ ⟨by decide, by decide⟩ rfl hl.1 rfl (Nat.le_of_ble_eq_true rfl) dX11_seen_11 (fun r M6 H locs hp hle hw => ?_)
    obtain ⟨v5, rfl, hq⟩ := hp
    refine W.eq (g2 := F0 m 14 ls [.int v5]) rfl ?_
    refine lv_if_eq (tgt := 29) hx hb dX11_seen_14 (by decide) (fun c7 => ?_) (fun c7 => ?_)
    · replace hq := hq.1 c7
      refine lv_iconst (v := 0) hx hb dX11_seen_29 (by decide) ?_
      exact r_zret C hr hlk hw dX11_seen_30 (Nat.le_refl _) (Nat.le_refl _) (by decide) ⟨_, rfl, hq⟩
    · replace hq := hq.2 c7
      refine lv_aload_n hx hb dX11_seen_17 rfl (lv_at hl 0 rfl) ?_
      refine lv_iload_n hx hb dX11_seen_18 rfl (lv_at hl 2 rfl) ?_
      refine r_callV (T := TX9) (N := 6) (ci := 9) (index := 146) (n := 1) (d2 := 0) (mc := 0) (ms := 0) (As := [.int p1]) (rest := []) C hw (ct_X9_isSeenBy hq) kvX11_146 hq.1 (by decide) rfl ⟨by decide, by decide⟩ ⟨by decide, by decide⟩ rfl hl.1 rfl (Nat.le_of_ble_eq_true rfl) dX11_seen_19 (fun r M9 H locs hp hle hw => ?_)
      obtain ⟨v8, rfl, hq⟩ := hp
      refine W.eq (g2 := F0 m 22 ls [.int v8]) rfl ?_
      refine lv_if_eq (tgt := 29) hx hb dX11_seen_22 (by decide) (fun c10 => ?_) (fun c10 => ?_)
      · replace hq := hq.1 c10
        refine lv_iconst (v := 0) hx hb dX11_seen_29 (by decide) ?_
        exact r_zret C hr hlk hw dX11_seen_30 (Nat.le_refl _) (Nat.le_refl _) (by decide) ⟨_, rfl, hq⟩
      · replace hq := hq.2 c10
        refine lv_iconst (v := 1) hx hb dX11_seen_25 (by decide) ?_
        refine lv_goto (tgt := 30) hx hb dX11_seen_26 (by decide) ?_
        exact r_zret C hr hlk hw dX11_seen_30 (Nat.le_refl _) (Nat.le_refl _) (by decide) ⟨_, rfl, hq⟩

set_option maxRecDepth 100000 in
def wp_X11_law  (g : Gh) (M0 : Mem) (a0 : Nat) (post : Int32 → Mem → Prop) : Prop :=
  okc (gB g) M0 a0 11 ∧ (∃ q1, mR M0 a0 9 = some q1 ∧ (okc (gB g) M0 q1 6 ∧ ((((mI M0 q1 0) = 0) → ∃ q5, mR M0 a0 6 = some q5 ∧ (∃ q7, mR M0 a0 0 = some q7 ∧ (wp_X4_readFrom g M0 q5 q7 (fun M10 => ∃ q11, mR M10 a0 0 = some q11 ∧ (wp_X10_wipe g M10 q11 (fun M14 => ∃ q15, mR M14 a0 6 = some q15 ∧ (okc (gB g) M0 q15 4 ∧ (∀ M18, M18 = uI M14 a0 7 (mI M14 q15 7) → ((((mI M18 a0 7) = 0) → ∃ q21, mR M18 a0 5 = some q21 ∧ (∀ M23, M23 = uR M18 a0 5 (some q15) → (∀ M25, M25 = uR M23 a0 6 (some q21) → (∃ q27, mR M25 a0 5 = some q27 ∧ (okc (gB g) M0 q27 4 ∧ (post (mI M25 q27 1) M25)))))) ∧ (¬ ((mI M18 a0 7) = 0) → post ((-1) - (mI M18 q15 8)) M18)))))))))) ∧ (¬ ((mI M0 q1 0) = 0) → ∃ q30, mR M0 a0 0 = some q30 ∧ (wp_X10_wipe g M0 q30 (fun M33 => post (-300) M33))))))
set_option maxHeartbeats 4000000 in
set_option maxRecDepth 100000 in
theorem ct_X11_law {l : Launch} {g : Gh} {M0 : Mem} {a0 : Nat} {post : Int32 → Mem → Prop}  (hq : wp_X11_law  g M0 a0 post) : Ct l g yX11_law cX11_law 2 (some .int) 12 0 0 [.ref a0] M0 (pI post) := by
  unfold wp_X11_law at hq
  obtain ⟨h0, hq⟩ := hq
  refine Ct.of (by decide) (Nat.le_of_ble_eq_true rfl) ?_
  intro p e s m below meth c ls C hr hlk hn hl hw
  have hx := C.1.1
  have hb := C.1.2.1
  have hl : lv_has ls 2 [(0, .ref a0)] := hl
  refine lv_aload_n hx hb dX11_law_0 rfl (lv_at hl 0 rfl) ?_
  obtain ⟨q1, e2, hq⟩ := hq
  refine gfX11_65 C hw hw.2.2.1 h0 e2 dX11_law_1 ?_
  obtain ⟨h3, hq⟩ := hq
  refine gfX11_125 C hw hw.2.2.1 h3 dX11_law_4 ?_
  refine lv_if_eq (tgt := 21) hx hb dX11_law_7 (by decide) (fun c4 => ?_) (fun c4 => ?_)
  · replace hq := hq.1 c4
    refine lv_aload_n hx hb dX11_law_21 rfl (lv_at hl 0 rfl) ?_
    obtain ⟨q5, e6, hq⟩ := hq
    refine gfX11_47 C hw hw.2.2.1 h0 e6 dX11_law_22 ?_
    refine lv_aload_n hx hb dX11_law_25 rfl (lv_at hl 0 rfl) ?_
    obtain ⟨q7, e8, hq⟩ := hq
    refine gfX11_10 C hw hw.2.2.1 h0 e8 dX11_law_26 ?_
    refine r_callV (T := TX4) (N := 9) (ci := 4) (index := 149) (n := 1) (d2 := 11) (mc := 0) (ms := 0) (As := [.ref q7]) (rest := []) C hw (ct_X4_readFrom hq) kvX11_149 hq.1 (by decide) rfl ⟨by decide, by decide⟩ ⟨by decide, by decide⟩ rfl hl.1 rfl (Nat.le_of_ble_eq_true rfl) dX11_law_29 (fun r M10 H locs hp hle hw => ?_)
    obtain ⟨rfl, hq⟩ := hp
    refine W.eq (g2 := F0 m 32 ls []) rfl ?_
    refine lv_aload_n hx hb dX11_law_32 rfl (lv_at hl 0 rfl) ?_
    obtain ⟨q11, e12, hq⟩ := hq
    refine gfX11_10 C hw hw.2.2.1 h0 e12 dX11_law_33 ?_
    refine r_callV (T := TX10) (N := 6) (ci := 10) (index := 90) (n := 0) (d2 := 0) (mc := 0) (ms := 0) (As := []) (rest := []) C hw (ct_X10_wipe hq) kvX11_90 hq.1 (by decide) rfl ⟨by decide, by decide⟩ ⟨by decide, by decide⟩ rfl hl.1 rfl (Nat.le_of_ble_eq_true rfl) dX11_law_36 (fun r M14 H locs hp hle hw => ?_)
    obtain ⟨rfl, hq⟩ := hp
    refine W.eq (g2 := F0 m 39 ls []) rfl ?_
    refine lv_aload_n hx hb dX11_law_39 rfl (lv_at hl 0 rfl) ?_
    refine lv_aload_n hx hb dX11_law_40 rfl (lv_at hl 0 rfl) ?_
    obtain ⟨q15, e16, hq⟩ := hq
    refine gfX11_47 C hw hw.2.2.1 h0 e16 dX11_law_41 ?_
    obtain ⟨h17, hq⟩ := hq
    refine gfX11_150 C hw hw.2.2.1 h17 dX11_law_44 ?_
    refine pfX11_50 C hw hw.2.2.1 h0 dX11_law_47 (fun H locs hw => ?_)
    generalize e19 : uI M14 a0 7 (mI M14 q15 7) = M18 at hw
    replace hq := hq M18 e19.symm
    have e16 : mR M18 a0 6 = some q15 := by rw [← e19, mR_uI]; exact e16
    refine lv_aload_n hx hb dX11_law_50 rfl (lv_at hl 0 rfl) ?_
    refine gfX11_50 C hw hw.2.2.1 h0 dX11_law_51 ?_
    refine lv_if_eq (tgt := 67) hx hb dX11_law_54 (by decide) (fun c20 => ?_) (fun c20 => ?_)
    · replace hq := hq.1 c20
      refine lv_aload_n hx hb dX11_law_67 rfl (lv_at hl 0 rfl) ?_
      obtain ⟨q21, e22, hq⟩ := hq
      refine gfX11_43 C hw hw.2.2.1 h0 e22 dX11_law_68 ?_
      refine lv_astore_n (lv' := [(1, .ref q21), (0, .ref a0)]) hx hb dX11_law_71 rfl hl (by decide) rfl (fun ls hl => ?_)
      refine lv_aload_n hx hb dX11_law_72 rfl (lv_at hl 1 rfl) ?_
      refine lv_aload_n hx hb dX11_law_73 rfl (lv_at hl 1 rfl) ?_
      refine gfX11_47 C hw hw.2.2.1 h0 e16 dX11_law_74 ?_
      refine pfX11_43 (v := (some q15)) C hw hw.2.2.1 h0 dX11_law_77 (fun H locs hw => ?_)
      generalize e24 : uR M18 a0 5 (some q15) = M23 at hw
      replace hq := hq M23 e24.symm
      refine lv_aload_n hx hb dX11_law_80 rfl (lv_at hl 1 rfl) ?_
      refine lv_aload_n hx hb dX11_law_81 rfl (lv_at hl 0 rfl) ?_
      refine pfX11_47 (v := (some q21)) C hw hw.2.2.1 h0 dX11_law_82 (fun H locs hw => ?_)
      generalize e26 : uR M23 a0 6 (some q21) = M25 at hw
      replace hq := hq M25 e26.symm
      refine lv_aload_n hx hb dX11_law_85 rfl (lv_at hl 1 rfl) ?_
      obtain ⟨q27, e28, hq⟩ := hq
      refine gfX11_43 C hw hw.2.2.1 h0 e28 dX11_law_86 ?_
      obtain ⟨h29, hq⟩ := hq
      refine gfX11_152 C hw hw.2.2.1 h29 dX11_law_89 ?_
      exact r_iret C hr hlk hw dX11_law_92 (Nat.le_refl _) (Nat.le_refl _) ⟨_, rfl, hq⟩
    · replace hq := hq.2 c20
      refine lv_iconst (v := (-1)) hx hb dX11_law_57 (by decide) ?_
      refine lv_aload_n hx hb dX11_law_58 rfl (lv_at hl 0 rfl) ?_
      refine gfX11_47 C hw hw.2.2.1 h0 e16 dX11_law_59 ?_
      refine gfX11_151 C hw hw.2.2.1 h17 dX11_law_62 ?_
      refine lv_isub hx hb dX11_law_65 ?_
      exact r_iret C hr hlk hw dX11_law_66 (Nat.le_refl _) (Nat.le_refl _) ⟨_, rfl, hq⟩
  · replace hq := hq.2 c4
    refine lv_aload_n hx hb dX11_law_10 rfl (lv_at hl 0 rfl) ?_
    obtain ⟨q30, e31, hq⟩ := hq
    refine gfX11_10 C hw hw.2.2.1 h0 e31 dX11_law_11 ?_
    refine r_callV (T := TX10) (N := 6) (ci := 10) (index := 90) (n := 0) (d2 := 0) (mc := 0) (ms := 0) (As := []) (rest := []) C hw (ct_X10_wipe hq) kvX11_90 hq.1 (by decide) rfl ⟨by decide, by decide⟩ ⟨by decide, by decide⟩ rfl hl.1 rfl (Nat.le_of_ble_eq_true rfl) dX11_law_14 (fun r M33 H locs hp hle hw => ?_)
    obtain ⟨rfl, hq⟩ := hp
    refine W.eq (g2 := F0 m 17 ls []) rfl ?_
    refine lv_sipush (v := (-300)) hx hb dX11_law_17 (by decide) ?_
    exact r_iret C hr hlk hw dX11_law_20 (Nat.le_refl _) (Nat.le_refl _) ⟨_, rfl, hq⟩

set_option maxRecDepth 100000 in
def wp_X11_fault  (g : Gh) (M0 : Mem) (a0 : Nat) (post : Int32 → Mem → Prop) : Prop :=
  okc (gB g) M0 a0 11 ∧ (post (mI M0 a0 7) M0)
set_option maxHeartbeats 4000000 in
set_option maxRecDepth 100000 in
theorem ct_X11_fault {l : Launch} {g : Gh} {M0 : Mem} {a0 : Nat} {post : Int32 → Mem → Prop}  (hq : wp_X11_fault  g M0 a0 post) : Ct l g yX11_fault cX11_fault 1 (some .int) 0 0 0 [.ref a0] M0 (pI post) := by
  unfold wp_X11_fault at hq
  obtain ⟨h0, hq⟩ := hq
  refine Ct.of (by decide) (Nat.le_of_ble_eq_true rfl) ?_
  intro p e s m below meth c ls C hr hlk hn hl hw
  have hx := C.1.1
  have hb := C.1.2.1
  have hl : lv_has ls 1 [(0, .ref a0)] := hl
  refine lv_aload_n hx hb dX11_fault_0 rfl (lv_at hl 0 rfl) ?_
  refine gfX11_50 C hw hw.2.2.1 h0 dX11_fault_1 ?_
  exact r_iret C hr hlk hw dX11_fault_4 (Nat.le_refl _) (Nat.le_refl _) ⟨_, rfl, hq⟩

set_option maxRecDepth 100000 in
def wp_X11_packed  (g : Gh) (M0 : Mem) (a0 : Nat) (p1 : Int32) (post : Int32 → Mem → Prop) : Prop :=
  okc (gB g) M0 a0 11 ∧ (∃ q1, mR M0 a0 8 = some q1 ∧ (wp_X8_numberAt g M0 q1 p1 (fun v3 M4 => post v3 M4)))
set_option maxHeartbeats 4000000 in
set_option maxRecDepth 100000 in
theorem ct_X11_packed {l : Launch} {g : Gh} {M0 : Mem} {a0 : Nat} {p1 : Int32} {post : Int32 → Mem → Prop}  (hq : wp_X11_packed  g M0 a0 p1 post) : Ct l g yX11_packed cX11_packed 2 (some .int) 1 0 0 [.ref a0, .int p1] M0 (pI post) := by
  unfold wp_X11_packed at hq
  obtain ⟨h0, hq⟩ := hq
  refine Ct.of (by decide) (Nat.le_of_ble_eq_true rfl) ?_
  intro p e s m below meth c ls C hr hlk hn hl hw
  have hx := C.1.1
  have hb := C.1.2.1
  have hl : lv_has ls 2 [(0, .ref a0), (1, .int p1)] := hl
  refine lv_aload_n hx hb dX11_packed_0 rfl (lv_at hl 0 rfl) ?_
  obtain ⟨q1, e2, hq⟩ := hq
  refine gfX11_56 C hw hw.2.2.1 h0 e2 dX11_packed_1 ?_
  refine lv_iload_n hx hb dX11_packed_4 rfl (lv_at hl 1 rfl) ?_
  refine r_callV (T := TX8) (N := 15) (ci := 8) (index := 180) (n := 1) (d2 := 0) (mc := 0) (ms := 0) (As := [.int p1]) (rest := []) C hw (ct_X8_numberAt hq) kvX11_180 hq.1 (by decide) rfl ⟨by decide, by decide⟩ ⟨by decide, by decide⟩ rfl hl.1 rfl (Nat.le_of_ble_eq_true rfl) dX11_packed_5 (fun r M4 H locs hp hle hw => ?_)
  obtain ⟨v3, rfl, hq⟩ := hp
  refine W.eq (g2 := F0 m 8 ls [.int v3]) rfl ?_
  exact r_iret C hr hlk hw dX11_packed_8 (Nat.le_refl _) (Nat.le_refl _) ⟨_, rfl, hq⟩

set_option maxRecDepth 100000 in
def bd_X11_isPackSpoilt_2  (g : Gh) (M0 : Mem) (a0 : Nat) (post : Int32 → Mem → Prop)  (bk2 : Int32 × Mem → Prop) (x1 : Int32)  (M : Mem) : Prop :=
  ∃ q1, mR M a0 8 = some q1 ∧ (okc (gB g) M0 q1 8 ∧ ((((mI M q1 2) ≤ x1) → post 0 M) ∧ (¬ ((mI M q1 2) ≤ x1) → wp_X8_numberAt g M q1 x1 (fun v5 M6 => wp_X11_questionAt g M6 a0 v5 (fun v7 M8 => (v7 = none → post 1 M8) ∧ (∀ q10, v7 = some q10 → ∃ q11, mR M8 a0 8 = some q11 ∧ (okc (gB g) M0 q11 8 ∧ (wp_X9_isFreeFor g M8 q10 (mI M8 q11 0) (mI M8 q11 1) (fun v14 M15 => ((v14 = 0) → post 1 M15) ∧ (¬ (v14 = 0) → bk2 ((x1 + 1), M15)))))))))))
set_option maxRecDepth 100000 in
def wp_X11_isPackSpoilt  (g : Gh) (M0 : Mem) (a0 : Nat) (post : Int32 → Mem → Prop) : Prop :=
  okc (gB g) M0 a0 11 ∧ ((∃ n : Nat, lfp (fun bk z => bd_X11_isPackSpoilt_2  g M0 a0 post  bk z.1 z.2) n (0, M0)))
set_option maxHeartbeats 4000000 in
set_option maxRecDepth 100000 in
theorem lp_X11_isPackSpoilt_2 {l : Launch} {g : Gh} {p : Program} {e : Env} {s : State} {m : MethodId} {args : Array Value} {below : List Frame} {meth : Method} {c : Code} {M0 : Mem} {a0 : Nat} {post : Int32 → Mem → Prop}  (C : Cx g p s m args c cX11_isPackSpoilt 3 RX11) (hr : meth.sig.returnType = (some .boolean)) (hlk : meth.locks = false) (hn : meth.name = "isPackSpoilt") (h0 : okc (gB g) M0 a0 11)  : ∀ (nf : Nat) (x1 : Int32)  (M : Mem) (H : Heap) (locs : List Loc) (ls : Array Slot), lfp (fun bk z => bd_X11_isPackSpoilt_2  g M0 a0 post  bk z.1 z.2) nf (x1, M) → Wd g s M0 M H locs → lv_has ls 3 [(0, .ref a0), (1, .int x1)] → W p l e (rmo 2 0 0) s m args below meth c H locs 0 0 (MQ below (Cq g M0 (pI post)) args s 0 0 (gA g)) (F0 m 2 ls []) := by
  have hx := C.1.1
  have hb := C.1.2.1
  intro nf
  induction nf with
  | zero => intro _ _ H locs ls hq; exact hq.elim
  | succ nf hk2 =>
    intro x1 M H locs ls hq hw hl
    replace hq : bd_X11_isPackSpoilt_2  g M0 a0 post  (lfp (fun bk z => bd_X11_isPackSpoilt_2  g M0 a0 post  bk z.1 z.2) nf) x1 M := hq
    unfold bd_X11_isPackSpoilt_2 at hq
    refine lv_iload_n hx hb dX11_isPackSpoilt_2 rfl (lv_at hl 1 rfl) ?_
    refine lv_aload_n hx hb dX11_isPackSpoilt_3 rfl (lv_at hl 0 rfl) ?_
    obtain ⟨q1, e2, hq⟩ := hq
    refine gfX11_56 C hw hw.2.2.1 h0 e2 dX11_isPackSpoilt_4 ?_
    obtain ⟨h3, hq⟩ := hq
    refine gfX11_183 C hw hw.2.2.1 h3 dX11_isPackSpoilt_7 ?_
    refine lv_icmp_ge (tgt := 59) hx hb dX11_isPackSpoilt_10 (by decide) (fun c4 => ?_) (fun c4 => ?_)
    · replace hq := hq.1 c4
      refine lv_iconst (v := 0) hx hb dX11_isPackSpoilt_59 (by decide) ?_
      exact r_zret C hr hlk hw dX11_isPackSpoilt_60 (Nat.le_refl _) (Nat.le_refl _) (by decide) ⟨_, rfl, hq⟩
    · replace hq := hq.2 c4
      refine lv_aload_n hx hb dX11_isPackSpoilt_13 rfl (lv_at hl 0 rfl) ?_
      refine lv_aload_n hx hb dX11_isPackSpoilt_14 rfl (lv_at hl 0 rfl) ?_
      refine gfX11_56 C hw hw.2.2.1 h0 e2 dX11_isPackSpoilt_15 ?_
      refine lv_iload_n hx hb dX11_isPackSpoilt_18 rfl (lv_at hl 1 rfl) ?_
      refine r_callV (T := TX8) (N := 15) (ci := 8) (index := 180) (n := 1) (d2 := 0) (mc := 0) (ms := 0) (As := [.int x1]) (rest := [.ref a0]) C hw (ct_X8_numberAt hq) kvX11_180 hq.1 (by decide) rfl ⟨by decide, by decide⟩ ⟨by decide, by decide⟩ rfl hl.1 rfl (Nat.le_of_ble_eq_true rfl) dX11_isPackSpoilt_19 (fun r M6 H locs hp hle hw => ?_)
      obtain ⟨v5, rfl, hq⟩ := hp
      refine W.eq (g2 := F0 m 22 ls [.int v5, .ref a0]) rfl ?_
      refine r_callV (T := TX11) (N := 11) (ci := 11) (index := 113) (n := 1) (d2 := 0) (mc := 0) (ms := 0) (As := [.int v5]) (rest := []) C hw (ct_X11_questionAt hq) kvX11_113 hq.1 (by decide) rfl ⟨by decide, by decide⟩ ⟨by decide, by decide⟩ rfl hl.1 rfl (Nat.le_of_ble_eq_true rfl) dX11_isPackSpoilt_22 (fun r M8 H locs hp hle hw => ?_)
      obtain ⟨v7, rfl, hq⟩ := hp
      refine W.eq (g2 := F0 m 25 ls [va_rf v7]) rfl ?_
      refine r_astore_n (lv' := [(2, va_rf v7), (0, .ref a0), (1, .int x1)]) hx hb dX11_isPackSpoilt_25 rfl hl (by decide) (by first | rfl | simp [va_cat]) (fun ls hl => ?_)
      refine r_aload_n hx hb dX11_isPackSpoilt_26 rfl (lv_at hl 0 rfl) ?_
      rcases v7 with _ | q10
      · refine lv_ifnullN (tgt := 51) hx hb dX11_isPackSpoilt_27 (by decide) ?_
        have hl : lv_has ls 3 [(2, .null), (0, .ref a0), (1, .int x1)] := hl
        replace hq := hq.1 rfl
        refine lv_iconst (v := 1) hx hb dX11_isPackSpoilt_51 (by decide) ?_
        exact r_zret C hr hlk hw dX11_isPackSpoilt_52 (Nat.le_refl _) (Nat.le_refl _) (by decide) ⟨_, rfl, hq⟩
      · refine lv_ifnull hx hb dX11_isPackSpoilt_27 ?_
        have hl : lv_has ls 3 [(2, .ref q10), (0, .ref a0), (1, .int x1)] := hl
        replace hq := hq.2 q10 rfl
        refine lv_aload_n hx hb dX11_isPackSpoilt_30 rfl (lv_at hl 0 rfl) ?_
        refine lv_aload_n hx hb dX11_isPackSpoilt_31 rfl (lv_at hl 1 rfl) ?_
        obtain ⟨q11, e12, hq⟩ := hq
        refine gfX11_56 C hw hw.2.2.1 h0 e12 dX11_isPackSpoilt_32 ?_
        obtain ⟨h13, hq⟩ := hq
        refine gfX11_222 C hw hw.2.2.1 h13 dX11_isPackSpoilt_35 ?_
        refine lv_aload_n hx hb dX11_isPackSpoilt_38 rfl (lv_at hl 1 rfl) ?_
        refine gfX11_56 C hw hw.2.2.1 h0 e12 dX11_isPackSpoilt_39 ?_
        refine gfX11_225 C hw hw.2.2.1 h13 dX11_isPackSpoilt_42 ?_
        refine r_callV (T := TX9) (N := 6) (ci := 9) (index := 259) (n := 2) (d2 := 1) (mc := 0) (ms := 0) (As := [.int (mI M8 q11 0), .int (mI M8 q11 1)]) (rest := []) C hw (ct_X9_isFreeFor hq) kvX11_259 hq.1 (by decide) rfl ⟨by decide, by decide⟩ ⟨by decide, by decide⟩ rfl hl.1 rfl (Nat.le_of_ble_eq_true rfl) dX11_isPackSpoilt_45 (fun r M15 H locs hp hle hw => ?_)
        obtain ⟨v14, rfl, hq⟩ := hp
        refine W.eq (g2 := F0 m 48 ls [.int v14]) rfl ?_
        refine lv_if_ne (tgt := 53) hx hb dX11_isPackSpoilt_48 (by decide) (fun c16 => ?_) (fun c16 => ?_)
        · replace hq := hq.2 c16
          refine lv_iinc (v := (x1 + 1)) (lv' := [(1, .int (x1 + 1)), (2, .ref q10), (0, .ref a0)]) hx hb dX11_isPackSpoilt_53 hl (k := 2) rfl rfl (by decide) rfl (fun ls hl => ?_)
          refine lv_goto (tgt := 2) hx hb dX11_isPackSpoilt_56 (by decide) ?_
          exact hk2 _ _ _ _ _ hq hw (lv_sub hl [2, 0] rfl)
        · replace hq := hq.1 c16
          refine lv_iconst (v := 1) hx hb dX11_isPackSpoilt_51 (by decide) ?_
          exact r_zret C hr hlk hw dX11_isPackSpoilt_52 (Nat.le_refl _) (Nat.le_refl _) (by decide) ⟨_, rfl, hq⟩
set_option maxHeartbeats 4000000 in
set_option maxRecDepth 100000 in
theorem ct_X11_isPackSpoilt {l : Launch} {g : Gh} {M0 : Mem} {a0 : Nat} {post : Int32 → Mem → Prop}  (hq : wp_X11_isPackSpoilt  g M0 a0 post) : Ct l g yX11_isPackSpoilt cX11_isPackSpoilt 3 (some .boolean) 2 0 0 [.ref a0] M0 (pI post) := by
  unfold wp_X11_isPackSpoilt at hq
  obtain ⟨h0, hq⟩ := hq
  refine Ct.of (by decide) (Nat.le_of_ble_eq_true rfl) ?_
  intro p e s m below meth c ls C hr hlk hn hl hw
  have hx := C.1.1
  have hb := C.1.2.1
  have hl : lv_has ls 3 [(0, .ref a0)] := hl
  refine lv_iconst (v := 0) hx hb dX11_isPackSpoilt_0 (by decide) ?_
  refine lv_istore_n (lv' := [(1, .int 0), (0, .ref a0)]) hx hb dX11_isPackSpoilt_1 rfl hl (by decide) rfl (fun ls hl => ?_)
  obtain ⟨nf, hq⟩ := hq
  exact lp_X11_isPackSpoilt_2  C hr hlk hn h0  nf _ _ _ _ _ hq hw (lv_sub hl [1, 0] rfl)

set_option maxRecDepth 100000 in
def wp_X11_begin  (g : Gh) (M0 : Mem) (a0 : Nat) (post : Int32 → Mem → Prop) : Prop :=
  okc (gB g) M0 a0 11 ∧ (∃ q1, mR M0 a0 9 = some q1 ∧ (okc (gB g) M0 q1 6 ∧ ((((mI M0 q1 0) = 0) → ∃ q5, mR M0 a0 8 = some q5 ∧ (okc (gB g) M0 q5 8 ∧ ((((mI M0 q5 2) = 0) → post 0 M0) ∧ (¬ ((mI M0 q5 2) = 0) → ∃ q9, mR M0 a0 5 = some q9 ∧ (okc (gB g) M0 q9 4 ∧ ((((mI M0 q5 2) = (mI M0 q9 1)) → wp_X11_isPackSpoilt g M0 a0 (fun v13 M14 => ((v13 = 0) → ∃ q16, mR M14 a0 9 = some q16 ∧ (∃ q18, mR M14 a0 5 = some q18 ∧ (wp_X6_start g M14 q16 q18 (fun M21 => post 1 M21)))) ∧ (¬ (v13 = 0) → post 0 M14))) ∧ (¬ ((mI M0 q5 2) = (mI M0 q9 1)) → post 0 M0))))))) ∧ (¬ ((mI M0 q1 0) = 0) → post 0 M0))))
set_option maxHeartbeats 4000000 in
set_option maxRecDepth 100000 in
theorem ct_X11_begin {l : Launch} {g : Gh} {M0 : Mem} {a0 : Nat} {post : Int32 → Mem → Prop}  (hq : wp_X11_begin  g M0 a0 post) : Ct l g yX11_begin cX11_begin 1 (some .boolean) 6 0 0 [.ref a0] M0 (pI post) := by
  unfold wp_X11_begin at hq
  obtain ⟨h0, hq⟩ := hq
  refine Ct.of (by decide) (Nat.le_of_ble_eq_true rfl) ?_
  intro p e s m below meth c ls C hr hlk hn hl hw
  have hx := C.1.1
  have hb := C.1.2.1
  have hl : lv_has ls 1 [(0, .ref a0)] := hl
  refine lv_aload_n hx hb dX11_begin_0 rfl (lv_at hl 0 rfl) ?_
  obtain ⟨q1, e2, hq⟩ := hq
  refine gfX11_65 C hw hw.2.2.1 h0 e2 dX11_begin_1 ?_
  obtain ⟨h3, hq⟩ := hq
  refine gfX11_125 C hw hw.2.2.1 h3 dX11_begin_4 ?_
  refine lv_if_ne (tgt := 44) hx hb dX11_begin_7 (by decide) (fun c4 => ?_) (fun c4 => ?_)
  · replace hq := hq.2 c4
    refine lv_iconst (v := 0) hx hb dX11_begin_44 (by decide) ?_
    exact r_zret C hr hlk hw dX11_begin_45 (Nat.le_refl _) (Nat.le_refl _) (by decide) ⟨_, rfl, hq⟩
  · replace hq := hq.1 c4
    refine lv_aload_n hx hb dX11_begin_10 rfl (lv_at hl 0 rfl) ?_
    obtain ⟨q5, e6, hq⟩ := hq
    refine gfX11_56 C hw hw.2.2.1 h0 e6 dX11_begin_11 ?_
    obtain ⟨h7, hq⟩ := hq
    refine gfX11_183 C hw hw.2.2.1 h7 dX11_begin_14 ?_
    refine lv_if_eq (tgt := 44) hx hb dX11_begin_17 (by decide) (fun c8 => ?_) (fun c8 => ?_)
    · replace hq := hq.1 c8
      refine lv_iconst (v := 0) hx hb dX11_begin_44 (by decide) ?_
      exact r_zret C hr hlk hw dX11_begin_45 (Nat.le_refl _) (Nat.le_refl _) (by decide) ⟨_, rfl, hq⟩
    · replace hq := hq.2 c8
      refine lv_aload_n hx hb dX11_begin_20 rfl (lv_at hl 0 rfl) ?_
      refine gfX11_56 C hw hw.2.2.1 h0 e6 dX11_begin_21 ?_
      refine gfX11_183 C hw hw.2.2.1 h7 dX11_begin_24 ?_
      refine lv_aload_n hx hb dX11_begin_27 rfl (lv_at hl 0 rfl) ?_
      obtain ⟨q9, e10, hq⟩ := hq
      refine gfX11_43 C hw hw.2.2.1 h0 e10 dX11_begin_28 ?_
      obtain ⟨h11, hq⟩ := hq
      refine gfX11_152 C hw hw.2.2.1 h11 dX11_begin_31 ?_
      refine lv_icmp_ne (tgt := 44) hx hb dX11_begin_34 (by decide) (fun c12 => ?_) (fun c12 => ?_)
      · replace hq := hq.2 c12
        refine lv_iconst (v := 0) hx hb dX11_begin_44 (by decide) ?_
        exact r_zret C hr hlk hw dX11_begin_45 (Nat.le_refl _) (Nat.le_refl _) (by decide) ⟨_, rfl, hq⟩
      · replace hq := hq.1 c12
        refine lv_aload_n hx hb dX11_begin_37 rfl (lv_at hl 0 rfl) ?_
        refine r_callV (T := TX11) (N := 11) (ci := 11) (index := 184) (n := 0) (d2 := 2) (mc := 0) (ms := 0) (As := []) (rest := []) C hw (ct_X11_isPackSpoilt hq) kvX11_184 hq.1 (by decide) rfl ⟨by decide, by decide⟩ ⟨by decide, by decide⟩ rfl hl.1 rfl (Nat.le_of_ble_eq_true rfl) dX11_begin_38 (fun r M14 H locs hp hle hw => ?_)
        obtain ⟨v13, rfl, hq⟩ := hp
        refine W.eq (g2 := F0 m 41 ls [.int v13]) rfl ?_
        refine lv_if_eq (tgt := 46) hx hb dX11_begin_41 (by decide) (fun c15 => ?_) (fun c15 => ?_)
        · replace hq := hq.1 c15
          refine lv_aload_n hx hb dX11_begin_46 rfl (lv_at hl 0 rfl) ?_
          obtain ⟨q16, e17, hq⟩ := hq
          refine gfX11_65 C hw hw.2.2.1 h0 e17 dX11_begin_47 ?_
          refine lv_aload_n hx hb dX11_begin_50 rfl (lv_at hl 0 rfl) ?_
          obtain ⟨q18, e19, hq⟩ := hq
          refine gfX11_43 C hw hw.2.2.1 h0 e19 dX11_begin_51 ?_
          refine r_callV (T := TX6) (N := 9) (ci := 6) (index := 188) (n := 1) (d2 := 5) (mc := 0) (ms := 0) (As := [.ref q18]) (rest := []) C hw (ct_X6_start hq) kvX11_188 hq.1 (by decide) rfl ⟨by decide, by decide⟩ ⟨by decide, by decide⟩ rfl hl.1 rfl (Nat.le_of_ble_eq_true rfl) dX11_begin_54 (fun r M21 H locs hp hle hw => ?_)
          obtain ⟨rfl, hq⟩ := hp
          refine W.eq (g2 := F0 m 57 ls []) rfl ?_
          refine lv_iconst (v := 1) hx hb dX11_begin_57 (by decide) ?_
          exact r_zret C hr hlk hw dX11_begin_58 (Nat.le_refl _) (Nat.le_refl _) (by decide) ⟨_, rfl, hq⟩
        · replace hq := hq.2 c15
          refine lv_iconst (v := 0) hx hb dX11_begin_44 (by decide) ?_
          exact r_zret C hr hlk hw dX11_begin_45 (Nat.le_refl _) (Nat.le_refl _) (by decide) ⟨_, rfl, hq⟩

set_option maxRecDepth 100000 in
def wp_X11_nothing  (g : Gh) (M0 : Mem) (a0 : Nat) (p1 : Int32) (post : Int32 → Mem → Prop) : Prop :=
  okc (gB g) M0 a0 11 ∧ (∃ q1, mR M0 a0 9 = some q1 ∧ (wp_X6_mayCome g M0 q1 1 p1 (fun v3 M4 => ((v3 = 0) → post 0 M4) ∧ (¬ (v3 = 0) → ∃ q6, mR M4 a0 9 = some q6 ∧ (wp_X6_add g M4 q6 1 p1 0 (fun M9 => post 1 M9))))))
set_option maxHeartbeats 4000000 in
set_option maxRecDepth 100000 in
theorem ct_X11_nothing {l : Launch} {g : Gh} {M0 : Mem} {a0 : Nat} {p1 : Int32} {post : Int32 → Mem → Prop}  (hq : wp_X11_nothing  g M0 a0 p1 post) : Ct l g yX11_nothing cX11_nothing 2 (some .boolean) 5 0 0 [.ref a0, .int p1] M0 (pI post) := by
  unfold wp_X11_nothing at hq
  obtain ⟨h0, hq⟩ := hq
  refine Ct.of (by decide) (Nat.le_of_ble_eq_true rfl) ?_
  intro p e s m below meth c ls C hr hlk hn hl hw
  have hx := C.1.1
  have hb := C.1.2.1
  have hl : lv_has ls 2 [(0, .ref a0), (1, .int p1)] := hl
  refine lv_aload_n hx hb dX11_nothing_0 rfl (lv_at hl 0 rfl) ?_
  obtain ⟨q1, e2, hq⟩ := hq
  refine gfX11_65 C hw hw.2.2.1 h0 e2 dX11_nothing_1 ?_
  refine lv_iconst (v := 1) hx hb dX11_nothing_4 (by decide) ?_
  refine lv_iload_n hx hb dX11_nothing_5 rfl (lv_at hl 1 rfl) ?_
  refine r_callV (T := TX6) (N := 9) (ci := 6) (index := 191) (n := 2) (d2 := 2) (mc := 0) (ms := 0) (As := [.int 1, .int p1]) (rest := []) C hw (ct_X6_mayCome hq) kvX11_191 hq.1 (by decide) rfl ⟨by decide, by decide⟩ ⟨by decide, by decide⟩ rfl hl.1 rfl (Nat.le_of_ble_eq_true rfl) dX11_nothing_6 (fun r M4 H locs hp hle hw => ?_)
  obtain ⟨v3, rfl, hq⟩ := hp
  refine W.eq (g2 := F0 m 9 ls [.int v3]) rfl ?_
  refine lv_if_ne (tgt := 14) hx hb dX11_nothing_9 (by decide) (fun c5 => ?_) (fun c5 => ?_)
  · replace hq := hq.2 c5
    refine lv_aload_n hx hb dX11_nothing_14 rfl (lv_at hl 0 rfl) ?_
    obtain ⟨q6, e7, hq⟩ := hq
    refine gfX11_65 C hw hw.2.2.1 h0 e7 dX11_nothing_15 ?_
    refine lv_iconst (v := 1) hx hb dX11_nothing_18 (by decide) ?_
    refine lv_iload_n hx hb dX11_nothing_19 rfl (lv_at hl 1 rfl) ?_
    refine lv_iconst (v := 0) hx hb dX11_nothing_20 (by decide) ?_
    refine r_callV (T := TX6) (N := 9) (ci := 6) (index := 198) (n := 3) (d2 := 4) (mc := 0) (ms := 0) (As := [.int 1, .int p1, .int 0]) (rest := []) C hw (ct_X6_add hq) kvX11_198 hq.1 (by decide) rfl ⟨by decide, by decide⟩ ⟨by decide, by decide⟩ rfl hl.1 rfl (Nat.le_of_ble_eq_true rfl) dX11_nothing_21 (fun r M9 H locs hp hle hw => ?_)
    obtain ⟨rfl, hq⟩ := hp
    refine W.eq (g2 := F0 m 24 ls []) rfl ?_
    refine lv_iconst (v := 1) hx hb dX11_nothing_24 (by decide) ?_
    exact r_zret C hr hlk hw dX11_nothing_25 (Nat.le_refl _) (Nat.le_refl _) (by decide) ⟨_, rfl, hq⟩
  · replace hq := hq.1 c5
    refine lv_iconst (v := 0) hx hb dX11_nothing_12 (by decide) ?_
    exact r_zret C hr hlk hw dX11_nothing_13 (Nat.le_refl _) (Nat.le_refl _) (by decide) ⟨_, rfl, hq⟩

set_option maxRecDepth 100000 in
def wp_X11_dead  (g : Gh) (M0 : Mem) (a0 : Nat) (post : Int32 → Mem → Prop) : Prop :=
  okc (gB g) M0 a0 11 ∧ (∃ q1, mR M0 a0 9 = some q1 ∧ (wp_X6_mayCome g M0 q1 2 (-1) (fun v3 M4 => ((v3 = 0) → post 0 M4) ∧ (¬ (v3 = 0) → ∃ q6, mR M4 a0 9 = some q6 ∧ (wp_X6_add g M4 q6 2 (-1) 0 (fun M9 => post 1 M9))))))
set_option maxHeartbeats 4000000 in
set_option maxRecDepth 100000 in
theorem ct_X11_dead {l : Launch} {g : Gh} {M0 : Mem} {a0 : Nat} {post : Int32 → Mem → Prop}  (hq : wp_X11_dead  g M0 a0 post) : Ct l g yX11_dead cX11_dead 1 (some .boolean) 5 0 0 [.ref a0] M0 (pI post) := by
  unfold wp_X11_dead at hq
  obtain ⟨h0, hq⟩ := hq
  refine Ct.of (by decide) (Nat.le_of_ble_eq_true rfl) ?_
  intro p e s m below meth c ls C hr hlk hn hl hw
  have hx := C.1.1
  have hb := C.1.2.1
  have hl : lv_has ls 1 [(0, .ref a0)] := hl
  refine lv_aload_n hx hb dX11_dead_0 rfl (lv_at hl 0 rfl) ?_
  obtain ⟨q1, e2, hq⟩ := hq
  refine gfX11_65 C hw hw.2.2.1 h0 e2 dX11_dead_1 ?_
  refine lv_iconst (v := 2) hx hb dX11_dead_4 (by decide) ?_
  refine lv_iconst (v := (-1)) hx hb dX11_dead_5 (by decide) ?_
  refine r_callV (T := TX6) (N := 9) (ci := 6) (index := 191) (n := 2) (d2 := 2) (mc := 0) (ms := 0) (As := [.int 2, .int (-1)]) (rest := []) C hw (ct_X6_mayCome hq) kvX11_191 hq.1 (by decide) rfl ⟨by decide, by decide⟩ ⟨by decide, by decide⟩ rfl hl.1 rfl (Nat.le_of_ble_eq_true rfl) dX11_dead_6 (fun r M4 H locs hp hle hw => ?_)
  obtain ⟨v3, rfl, hq⟩ := hp
  refine W.eq (g2 := F0 m 9 ls [.int v3]) rfl ?_
  refine lv_if_ne (tgt := 14) hx hb dX11_dead_9 (by decide) (fun c5 => ?_) (fun c5 => ?_)
  · replace hq := hq.2 c5
    refine lv_aload_n hx hb dX11_dead_14 rfl (lv_at hl 0 rfl) ?_
    obtain ⟨q6, e7, hq⟩ := hq
    refine gfX11_65 C hw hw.2.2.1 h0 e7 dX11_dead_15 ?_
    refine lv_iconst (v := 2) hx hb dX11_dead_18 (by decide) ?_
    refine lv_iconst (v := (-1)) hx hb dX11_dead_19 (by decide) ?_
    refine lv_iconst (v := 0) hx hb dX11_dead_20 (by decide) ?_
    refine r_callV (T := TX6) (N := 9) (ci := 6) (index := 198) (n := 3) (d2 := 4) (mc := 0) (ms := 0) (As := [.int 2, .int (-1), .int 0]) (rest := []) C hw (ct_X6_add hq) kvX11_198 hq.1 (by decide) rfl ⟨by decide, by decide⟩ ⟨by decide, by decide⟩ rfl hl.1 rfl (Nat.le_of_ble_eq_true rfl) dX11_dead_21 (fun r M9 H locs hp hle hw => ?_)
    obtain ⟨rfl, hq⟩ := hp
    refine W.eq (g2 := F0 m 24 ls []) rfl ?_
    refine lv_iconst (v := 1) hx hb dX11_dead_24 (by decide) ?_
    exact r_zret C hr hlk hw dX11_dead_25 (Nat.le_refl _) (Nat.le_refl _) (by decide) ⟨_, rfl, hq⟩
  · replace hq := hq.1 c5
    refine lv_iconst (v := 0) hx hb dX11_dead_12 (by decide) ?_
    exact r_zret C hr hlk hw dX11_dead_13 (Nat.le_refl _) (Nat.le_refl _) (by decide) ⟨_, rfl, hq⟩

set_option maxRecDepth 100000 in
def wp_X11_appeal  (g : Gh) (M0 : Mem) (a0 : Nat) (p1 : Int32) (p2 : Int32) (post : Int32 → Mem → Prop) : Prop :=
  okc (gB g) M0 a0 11 ∧ (∃ q1, mR M0 a0 9 = some q1 ∧ (wp_X6_overrule g M0 q1 p1 p2 (fun v3 M4 => (v3 = 0 ∨ v3 = 1) ∧ (post v3 M4))))
set_option maxHeartbeats 4000000 in
set_option maxRecDepth 100000 in
theorem ct_X11_appeal {l : Launch} {g : Gh} {M0 : Mem} {a0 : Nat} {p1 : Int32} {p2 : Int32} {post : Int32 → Mem → Prop}  (hq : wp_X11_appeal  g M0 a0 p1 p2 post) : Ct l g yX11_appeal cX11_appeal 3 (some .boolean) 6 0 0 [.ref a0, .int p1, .int p2] M0 (pI post) := by
  unfold wp_X11_appeal at hq
  obtain ⟨h0, hq⟩ := hq
  refine Ct.of (by decide) (Nat.le_of_ble_eq_true rfl) ?_
  intro p e s m below meth c ls C hr hlk hn hl hw
  have hx := C.1.1
  have hb := C.1.2.1
  have hl : lv_has ls 3 [(0, .ref a0), (1, .int p1), (2, .int p2)] := hl
  refine lv_aload_n hx hb dX11_appeal_0 rfl (lv_at hl 0 rfl) ?_
  obtain ⟨q1, e2, hq⟩ := hq
  refine gfX11_65 C hw hw.2.2.1 h0 e2 dX11_appeal_1 ?_
  refine lv_iload_n hx hb dX11_appeal_4 rfl (lv_at hl 1 rfl) ?_
  refine lv_iload_n hx hb dX11_appeal_5 rfl (lv_at hl 2 rfl) ?_
  refine r_callV (T := TX6) (N := 9) (ci := 6) (index := 202) (n := 2) (d2 := 5) (mc := 0) (ms := 0) (As := [.int p1, .int p2]) (rest := []) C hw (ct_X6_overrule hq) kvX11_202 hq.1 (by decide) rfl ⟨by decide, by decide⟩ ⟨by decide, by decide⟩ rfl hl.1 rfl (Nat.le_of_ble_eq_true rfl) dX11_appeal_6 (fun r M4 H locs hp hle hw => ?_)
  obtain ⟨v3, rfl, hq⟩ := hp
  refine W.eq (g2 := F0 m 9 ls [.int v3]) rfl ?_
  obtain ⟨h5, hq⟩ := hq
  exact r_zret C hr hlk hw dX11_appeal_9 (Nat.le_refl _) (Nat.le_refl _) h5 ⟨_, rfl, hq⟩

set_option maxRecDepth 100000 in
def wp_X11_undo  (g : Gh) (M0 : Mem) (a0 : Nat) (post : Int32 → Mem → Prop) : Prop :=
  okc (gB g) M0 a0 11 ∧ (∃ q1, mR M0 a0 9 = some q1 ∧ (wp_X6_takeBack g M0 q1 (fun v3 M4 => (v3 = 0 ∨ v3 = 1) ∧ (post v3 M4))))
set_option maxHeartbeats 4000000 in
set_option maxRecDepth 100000 in
theorem ct_X11_undo {l : Launch} {g : Gh} {M0 : Mem} {a0 : Nat} {post : Int32 → Mem → Prop}  (hq : wp_X11_undo  g M0 a0 post) : Ct l g yX11_undo cX11_undo 1 (some .boolean) 6 0 0 [.ref a0] M0 (pI post) := by
  unfold wp_X11_undo at hq
  obtain ⟨h0, hq⟩ := hq
  refine Ct.of (by decide) (Nat.le_of_ble_eq_true rfl) ?_
  intro p e s m below meth c ls C hr hlk hn hl hw
  have hx := C.1.1
  have hb := C.1.2.1
  have hl : lv_has ls 1 [(0, .ref a0)] := hl
  refine lv_aload_n hx hb dX11_undo_0 rfl (lv_at hl 0 rfl) ?_
  obtain ⟨q1, e2, hq⟩ := hq
  refine gfX11_65 C hw hw.2.2.1 h0 e2 dX11_undo_1 ?_
  refine r_callV (T := TX6) (N := 9) (ci := 6) (index := 206) (n := 0) (d2 := 5) (mc := 0) (ms := 0) (As := []) (rest := []) C hw (ct_X6_takeBack hq) kvX11_206 hq.1 (by decide) rfl ⟨by decide, by decide⟩ ⟨by decide, by decide⟩ rfl hl.1 rfl (Nat.le_of_ble_eq_true rfl) dX11_undo_4 (fun r M4 H locs hp hle hw => ?_)
  obtain ⟨v3, rfl, hq⟩ := hp
  refine W.eq (g2 := F0 m 7 ls [.int v3]) rfl ?_
  obtain ⟨h5, hq⟩ := hq
  exact r_zret C hr hlk hw dX11_undo_7 (Nat.le_refl _) (Nat.le_refl _) h5 ⟨_, rfl, hq⟩

set_option maxRecDepth 100000 in
def wp_X11_now  (g : Gh) (M0 : Mem) (a0 : Nat) (p1 : Int32) (post : Int32 → Mem → Prop) : Prop :=
  okc (gB g) M0 a0 11 ∧ (∃ q1, mR M0 a0 9 = some q1 ∧ (okc (gB g) M0 q1 6 ∧ ((((mI M0 q1 0) = 0) → post (-1) M0) ∧ (¬ ((mI M0 q1 0) = 0) → wp_X6_tell g M0 q1 p1 (fun v5 M6 => post v5 M6)))))
set_option maxHeartbeats 4000000 in
set_option maxRecDepth 100000 in
theorem ct_X11_now {l : Launch} {g : Gh} {M0 : Mem} {a0 : Nat} {p1 : Int32} {post : Int32 → Mem → Prop}  (hq : wp_X11_now  g M0 a0 p1 post) : Ct l g yX11_now cX11_now 2 (some .int) 2 0 0 [.ref a0, .int p1] M0 (pI post) := by
  unfold wp_X11_now at hq
  obtain ⟨h0, hq⟩ := hq
  refine Ct.of (by decide) (Nat.le_of_ble_eq_true rfl) ?_
  intro p e s m below meth c ls C hr hlk hn hl hw
  have hx := C.1.1
  have hb := C.1.2.1
  have hl : lv_has ls 2 [(0, .ref a0), (1, .int p1)] := hl
  refine lv_aload_n hx hb dX11_now_0 rfl (lv_at hl 0 rfl) ?_
  obtain ⟨q1, e2, hq⟩ := hq
  refine gfX11_65 C hw hw.2.2.1 h0 e2 dX11_now_1 ?_
  obtain ⟨h3, hq⟩ := hq
  refine gfX11_125 C hw hw.2.2.1 h3 dX11_now_4 ?_
  refine lv_if_eq (tgt := 21) hx hb dX11_now_7 (by decide) (fun c4 => ?_) (fun c4 => ?_)
  · replace hq := hq.1 c4
    refine lv_iconst (v := (-1)) hx hb dX11_now_21 (by decide) ?_
    exact r_iret C hr hlk hw dX11_now_22 (Nat.le_refl _) (Nat.le_refl _) ⟨_, rfl, hq⟩
  · replace hq := hq.2 c4
    refine lv_aload_n hx hb dX11_now_10 rfl (lv_at hl 0 rfl) ?_
    refine gfX11_65 C hw hw.2.2.1 h0 e2 dX11_now_11 ?_
    refine lv_iload_n hx hb dX11_now_14 rfl (lv_at hl 1 rfl) ?_
    refine r_callV (T := TX6) (N := 9) (ci := 6) (index := 209) (n := 1) (d2 := 1) (mc := 0) (ms := 0) (As := [.int p1]) (rest := []) C hw (ct_X6_tell hq) kvX11_209 hq.1 (by decide) rfl ⟨by decide, by decide⟩ ⟨by decide, by decide⟩ rfl hl.1 rfl (Nat.le_of_ble_eq_true rfl) dX11_now_15 (fun r M6 H locs hp hle hw => ?_)
    obtain ⟨v5, rfl, hq⟩ := hp
    refine W.eq (g2 := F0 m 18 ls [.int v5]) rfl ?_
    refine lv_goto (tgt := 22) hx hb dX11_now_18 (by decide) ?_
    exact r_iret C hr hlk hw dX11_now_22 (Nat.le_refl _) (Nat.le_refl _) ⟨_, rfl, hq⟩

set_option maxRecDepth 100000 in
def lb_X11_finish_121  (g : Gh) (M0 : Mem) (a0 : Nat) (post : Int32 → Mem → Prop)    (M : Mem) : Prop :=
  ∃ q1, mR M a0 9 = some q1 ∧ (wp_X6_drop g M q1 (fun M4 => post 1 M4))
set_option maxRecDepth 100000 in
def bd_X11_finish_61  (g : Gh) (M0 : Mem) (a0 : Nat) (post : Int32 → Mem → Prop)  (bk61 : Int32 × Mem → Prop) (x1 : Int32)  (M : Mem) : Prop :=
  ∃ q5, mR M a0 8 = some q5 ∧ (okc (gB g) M0 q5 8 ∧ ((((mI M q5 2) ≤ x1) → lb_X11_finish_121  g M0 a0 post   M) ∧ (¬ ((mI M q5 2) ≤ x1) → wp_X8_numberAt g M q5 x1 (fun v9 M10 => wp_X11_questionAt g M10 a0 v9 (fun v11 M12 => (v11 = none → bk61 ((x1 + 1), M12)) ∧ (∀ q14, v11 = some q14 → ∃ q15, mR M12 a0 9 = some q15 ∧ (wp_X6_isKnown g M12 q15 x1 (fun v17 M18 => ∃ q19, mR M18 a0 8 = some q19 ∧ (okc (gB g) M0 q19 8 ∧ (wp_X9_addPlay g M18 q14 v17 (mI M18 q19 0) (mI M18 q19 1) (fun M23 => bk61 ((x1 + 1), M23))))))))))))
set_option maxRecDepth 100000 in
def wp_X11_finish  (g : Gh) (M0 : Mem) (a0 : Nat) (post : Int32 → Mem → Prop) : Prop :=
  okc (gB g) M0 a0 11 ∧ (∃ q24, mR M0 a0 9 = some q24 ∧ (okc (gB g) M0 q24 6 ∧ ((((mI M0 q24 0) = 0) → post 0 M0) ∧ (¬ ((mI M0 q24 0) = 0) → wp_X6_isOver g M0 q24 (fun v28 M29 => ((v28 = 0) → post 0 M29) ∧ (¬ (v28 = 0) → ∃ q31, mR M29 a0 10 = some q31 ∧ (∃ q33, mR M29 a0 8 = some q33 ∧ (okc (gB g) M0 q33 8 ∧ (∃ q36, mR M29 a0 9 = some q36 ∧ (wp_X6_pointsOf g M29 q36 0 (fun v38 M39 => ∃ q40, mR M39 a0 9 = some q40 ∧ (wp_X6_pointsOf g M39 q40 1 (fun v42 M43 => wp_X5_addMatch g M43 q31 (mI M29 q33 0) (mI M29 q33 1) v38 v42 (fun M45 => (∃ n : Nat, lfp (fun bk z => bd_X11_finish_61  g M0 a0 post  bk z.1 z.2) n (0, M45))))))))))))))))
set_option maxHeartbeats 4000000 in
set_option maxRecDepth 100000 in
theorem lt_X11_finish_121 {l : Launch} {g : Gh} {p : Program} {e : Env} {s : State} {m : MethodId} {args : Array Value} {below : List Frame} {meth : Method} {c : Code} {H : Heap} {locs : List Loc} {ls : Array Slot} {M0 M : Mem} {a0 : Nat} {post : Int32 → Mem → Prop}    (C : Cx g p s m args c cX11_finish 3 RX11) (hr : meth.sig.returnType = (some .boolean)) (hlk : meth.locks = false) (hn : meth.name = "finish") (h0 : okc (gB g) M0 a0 11)  (hq : lb_X11_finish_121  g M0 a0 post   M) (hw : Wd g s M0 M H locs) (hl : lv_has ls 3 [(0, .ref a0)]) : W p l e (rmo 3 0 0) s m args below meth c H locs 0 0 (MQ below (Cq g M0 (pI post)) args s 0 0 (gA g)) (F0 m 121 ls []) := by
  have hx := C.1.1
  have hb := C.1.2.1
  unfold lb_X11_finish_121 at hq
  refine lv_aload_n hx hb dX11_finish_121 rfl (lv_at hl 0 rfl) ?_
  obtain ⟨q1, e2, hq⟩ := hq
  refine gfX11_65 C hw hw.2.2.1 h0 e2 dX11_finish_122 ?_
  refine r_callV (T := TX6) (N := 9) (ci := 6) (index := 242) (n := 0) (d2 := 0) (mc := 0) (ms := 0) (As := []) (rest := []) C hw (ct_X6_drop hq) kvX11_242 hq.1 (by decide) rfl ⟨by decide, by decide⟩ ⟨by decide, by decide⟩ rfl hl.1 rfl (Nat.le_of_ble_eq_true rfl) dX11_finish_125 (fun r M4 H locs hp hle hw => ?_)
  obtain ⟨rfl, hq⟩ := hp
  refine W.eq (g2 := F0 m 128 ls []) rfl ?_
  refine lv_iconst (v := 1) hx hb dX11_finish_128 (by decide) ?_
  exact r_zret C hr hlk hw dX11_finish_129 (Nat.le_refl _) (Nat.le_refl _) (by decide) ⟨_, rfl, hq⟩
set_option maxHeartbeats 4000000 in
set_option maxRecDepth 100000 in
theorem lp_X11_finish_61 {l : Launch} {g : Gh} {p : Program} {e : Env} {s : State} {m : MethodId} {args : Array Value} {below : List Frame} {meth : Method} {c : Code} {M0 : Mem} {a0 : Nat} {post : Int32 → Mem → Prop}  (C : Cx g p s m args c cX11_finish 3 RX11) (hr : meth.sig.returnType = (some .boolean)) (hlk : meth.locks = false) (hn : meth.name = "finish") (h0 : okc (gB g) M0 a0 11)  : ∀ (nf : Nat) (x1 : Int32)  (M : Mem) (H : Heap) (locs : List Loc) (ls : Array Slot), lfp (fun bk z => bd_X11_finish_61  g M0 a0 post  bk z.1 z.2) nf (x1, M) → Wd g s M0 M H locs → lv_has ls 3 [(0, .ref a0), (1, .int x1)] → W p l e (rmo 3 0 0) s m args below meth c H locs 0 0 (MQ below (Cq g M0 (pI post)) args s 0 0 (gA g)) (F0 m 61 ls []) := by
  have hx := C.1.1
  have hb := C.1.2.1
  intro nf
  induction nf with
  | zero => intro _ _ H locs ls hq; exact hq.elim
  | succ nf hk61 =>
    intro x1 M H locs ls hq hw hl
    replace hq : bd_X11_finish_61  g M0 a0 post  (lfp (fun bk z => bd_X11_finish_61  g M0 a0 post  bk z.1 z.2) nf) x1 M := hq
    unfold bd_X11_finish_61 at hq
    refine lv_iload_n hx hb dX11_finish_61 rfl (lv_at hl 1 rfl) ?_
    refine lv_aload_n hx hb dX11_finish_62 rfl (lv_at hl 0 rfl) ?_
    obtain ⟨q5, e6, hq⟩ := hq
    refine gfX11_56 C hw hw.2.2.1 h0 e6 dX11_finish_63 ?_
    obtain ⟨h7, hq⟩ := hq
    refine gfX11_183 C hw hw.2.2.1 h7 dX11_finish_66 ?_
    refine lv_icmp_ge (tgt := 121) hx hb dX11_finish_69 (by decide) (fun c8 => ?_) (fun c8 => ?_)
    · replace hq := hq.1 c8
      exact lt_X11_finish_121  C hr hlk hn h0  hq hw (lv_sub hl [0] rfl)
    · replace hq := hq.2 c8
      refine lv_aload_n hx hb dX11_finish_72 rfl (lv_at hl 0 rfl) ?_
      refine lv_aload_n hx hb dX11_finish_73 rfl (lv_at hl 0 rfl) ?_
      refine gfX11_56 C hw hw.2.2.1 h0 e6 dX11_finish_74 ?_
      refine lv_iload_n hx hb dX11_finish_77 rfl (lv_at hl 1 rfl) ?_
      refine r_callV (T := TX8) (N := 15) (ci := 8) (index := 180) (n := 1) (d2 := 0) (mc := 0) (ms := 0) (As := [.int x1]) (rest := [.ref a0]) C hw (ct_X8_numberAt hq) kvX11_180 hq.1 (by decide) rfl ⟨by decide, by decide⟩ ⟨by decide, by decide⟩ rfl hl.1 rfl (Nat.le_of_ble_eq_true rfl) dX11_finish_78 (fun r M10 H locs hp hle hw => ?_)
      obtain ⟨v9, rfl, hq⟩ := hp
      refine W.eq (g2 := F0 m 81 ls [.int v9, .ref a0]) rfl ?_
      refine r_callV (T := TX11) (N := 11) (ci := 11) (index := 113) (n := 1) (d2 := 0) (mc := 0) (ms := 0) (As := [.int v9]) (rest := []) C hw (ct_X11_questionAt hq) kvX11_113 hq.1 (by decide) rfl ⟨by decide, by decide⟩ ⟨by decide, by decide⟩ rfl hl.1 rfl (Nat.le_of_ble_eq_true rfl) dX11_finish_81 (fun r M12 H locs hp hle hw => ?_)
      obtain ⟨v11, rfl, hq⟩ := hp
      refine W.eq (g2 := F0 m 84 ls [va_rf v11]) rfl ?_
      refine r_astore_n (lv' := [(2, va_rf v11), (0, .ref a0), (1, .int x1)]) hx hb dX11_finish_84 rfl hl (by decide) (by first | rfl | simp [va_cat]) (fun ls hl => ?_)
      refine r_aload_n hx hb dX11_finish_85 rfl (lv_at hl 0 rfl) ?_
      rcases v11 with _ | q14
      · refine lv_ifnullN (tgt := 115) hx hb dX11_finish_86 (by decide) ?_
        have hl : lv_has ls 3 [(2, .null), (0, .ref a0), (1, .int x1)] := hl
        replace hq := hq.1 rfl
        refine lv_iinc (v := (x1 + 1)) (lv' := [(1, .int (x1 + 1)), (2, .null), (0, .ref a0)]) hx hb dX11_finish_115 hl (k := 2) rfl rfl (by decide) rfl (fun ls hl => ?_)
        refine lv_goto (tgt := 61) hx hb dX11_finish_118 (by decide) ?_
        exact hk61 _ _ _ _ _ hq hw (lv_sub hl [2, 0] rfl)
      · refine lv_ifnull hx hb dX11_finish_86 ?_
        have hl : lv_has ls 3 [(2, .ref q14), (0, .ref a0), (1, .int x1)] := hl
        replace hq := hq.2 q14 rfl
        refine lv_aload_n hx hb dX11_finish_89 rfl (lv_at hl 0 rfl) ?_
        refine lv_aload_n hx hb dX11_finish_90 rfl (lv_at hl 1 rfl) ?_
        obtain ⟨q15, e16, hq⟩ := hq
        refine gfX11_65 C hw hw.2.2.1 h0 e16 dX11_finish_91 ?_
        refine lv_iload_n hx hb dX11_finish_94 rfl (lv_at hl 2 rfl) ?_
        refine r_callV (T := TX6) (N := 9) (ci := 6) (index := 235) (n := 1) (d2 := 0) (mc := 0) (ms := 0) (As := [.int x1]) (rest := [.ref q14]) C hw (ct_X6_isKnown hq) kvX11_235 hq.1 (by decide) rfl ⟨by decide, by decide⟩ ⟨by decide, by decide⟩ rfl hl.1 rfl (Nat.le_of_ble_eq_true rfl) dX11_finish_95 (fun r M18 H locs hp hle hw => ?_)
        obtain ⟨v17, rfl, hq⟩ := hp
        refine W.eq (g2 := F0 m 98 ls [.int v17, .ref q14]) rfl ?_
        refine lv_aload_n hx hb dX11_finish_98 rfl (lv_at hl 1 rfl) ?_
        obtain ⟨q19, e20, hq⟩ := hq
        refine gfX11_56 C hw hw.2.2.1 h0 e20 dX11_finish_99 ?_
        obtain ⟨h21, hq⟩ := hq
        refine gfX11_222 C hw hw.2.2.1 h21 dX11_finish_102 ?_
        refine lv_aload_n hx hb dX11_finish_105 rfl (lv_at hl 1 rfl) ?_
        refine gfX11_56 C hw hw.2.2.1 h0 e20 dX11_finish_106 ?_
        refine gfX11_225 C hw hw.2.2.1 h21 dX11_finish_109 ?_
        refine r_callV (T := TX9) (N := 6) (ci := 9) (index := 238) (n := 3) (d2 := 0) (mc := 0) (ms := 0) (As := [.int v17, .int (mI M18 q19 0), .int (mI M18 q19 1)]) (rest := []) C hw (ct_X9_addPlay hq) kvX11_238 hq.1 (by decide) rfl ⟨by decide, by decide⟩ ⟨by decide, by decide⟩ rfl hl.1 rfl (Nat.le_of_ble_eq_true rfl) dX11_finish_112 (fun r M23 H locs hp hle hw => ?_)
        obtain ⟨rfl, hq⟩ := hp
        refine W.eq (g2 := F0 m 115 ls []) rfl ?_
        refine lv_iinc (v := (x1 + 1)) (lv' := [(1, .int (x1 + 1)), (2, .ref q14), (0, .ref a0)]) hx hb dX11_finish_115 hl (k := 2) rfl rfl (by decide) rfl (fun ls hl => ?_)
        refine lv_goto (tgt := 61) hx hb dX11_finish_118 (by decide) ?_
        exact hk61 _ _ _ _ _ hq hw (lv_sub hl [2, 0] rfl)
set_option maxHeartbeats 4000000 in
set_option maxRecDepth 100000 in
theorem ct_X11_finish {l : Launch} {g : Gh} {M0 : Mem} {a0 : Nat} {post : Int32 → Mem → Prop}  (hq : wp_X11_finish  g M0 a0 post) : Ct l g yX11_finish cX11_finish 3 (some .boolean) 3 0 0 [.ref a0] M0 (pI post) := by
  unfold wp_X11_finish at hq
  obtain ⟨h0, hq⟩ := hq
  refine Ct.of (by decide) (Nat.le_of_ble_eq_true rfl) ?_
  intro p e s m below meth c ls C hr hlk hn hl hw
  have hx := C.1.1
  have hb := C.1.2.1
  have hl : lv_has ls 3 [(0, .ref a0)] := hl
  refine lv_aload_n hx hb dX11_finish_0 rfl (lv_at hl 0 rfl) ?_
  obtain ⟨q24, e25, hq⟩ := hq
  refine gfX11_65 C hw hw.2.2.1 h0 e25 dX11_finish_1 ?_
  obtain ⟨h26, hq⟩ := hq
  refine gfX11_125 C hw hw.2.2.1 h26 dX11_finish_4 ?_
  refine lv_if_eq (tgt := 20) hx hb dX11_finish_7 (by decide) (fun c27 => ?_) (fun c27 => ?_)
  · replace hq := hq.1 c27
    refine lv_iconst (v := 0) hx hb dX11_finish_20 (by decide) ?_
    exact r_zret C hr hlk hw dX11_finish_21 (Nat.le_refl _) (Nat.le_refl _) (by decide) ⟨_, rfl, hq⟩
  · replace hq := hq.2 c27
    refine lv_aload_n hx hb dX11_finish_10 rfl (lv_at hl 0 rfl) ?_
    refine gfX11_65 C hw hw.2.2.1 h0 e25 dX11_finish_11 ?_
    refine r_callV (T := TX6) (N := 9) (ci := 6) (index := 219) (n := 0) (d2 := 0) (mc := 0) (ms := 0) (As := []) (rest := []) C hw (ct_X6_isOver hq) kvX11_219 hq.1 (by decide) rfl ⟨by decide, by decide⟩ ⟨by decide, by decide⟩ rfl hl.1 rfl (Nat.le_of_ble_eq_true rfl) dX11_finish_14 (fun r M29 H locs hp hle hw => ?_)
    obtain ⟨v28, rfl, hq⟩ := hp
    refine W.eq (g2 := F0 m 17 ls [.int v28]) rfl ?_
    refine lv_if_ne (tgt := 22) hx hb dX11_finish_17 (by decide) (fun c30 => ?_) (fun c30 => ?_)
    · replace hq := hq.2 c30
      refine lv_aload_n hx hb dX11_finish_22 rfl (lv_at hl 0 rfl) ?_
      obtain ⟨q31, e32, hq⟩ := hq
      refine gfX11_72 C hw hw.2.2.1 h0 e32 dX11_finish_23 ?_
      refine lv_aload_n hx hb dX11_finish_26 rfl (lv_at hl 0 rfl) ?_
      obtain ⟨q33, e34, hq⟩ := hq
      refine gfX11_56 C hw hw.2.2.1 h0 e34 dX11_finish_27 ?_
      obtain ⟨h35, hq⟩ := hq
      refine gfX11_222 C hw hw.2.2.1 h35 dX11_finish_30 ?_
      refine lv_aload_n hx hb dX11_finish_33 rfl (lv_at hl 0 rfl) ?_
      refine gfX11_56 C hw hw.2.2.1 h0 e34 dX11_finish_34 ?_
      refine gfX11_225 C hw hw.2.2.1 h35 dX11_finish_37 ?_
      refine lv_aload_n hx hb dX11_finish_40 rfl (lv_at hl 0 rfl) ?_
      obtain ⟨q36, e37, hq⟩ := hq
      refine gfX11_65 C hw hw.2.2.1 h0 e37 dX11_finish_41 ?_
      refine lv_iconst (v := 0) hx hb dX11_finish_44 (by decide) ?_
      refine r_callV (T := TX6) (N := 9) (ci := 6) (index := 228) (n := 1) (d2 := 0) (mc := 0) (ms := 0) (As := [.int 0]) (rest := [.int (mI M29 q33 1), .int (mI M29 q33 0), .ref q31]) C hw (ct_X6_pointsOf hq) kvX11_228 hq.1 (by decide) rfl ⟨by decide, by decide⟩ ⟨by decide, by decide⟩ rfl hl.1 rfl (Nat.le_of_ble_eq_true rfl) dX11_finish_45 (fun r M39 H locs hp hle hw => ?_)
      obtain ⟨v38, rfl, hq⟩ := hp
      refine W.eq (g2 := F0 m 48 ls [.int v38, .int (mI M29 q33 1), .int (mI M29 q33 0), .ref q31]) rfl ?_
      refine lv_aload_n hx hb dX11_finish_48 rfl (lv_at hl 0 rfl) ?_
      obtain ⟨q40, e41, hq⟩ := hq
      refine gfX11_65 C hw hw.2.2.1 h0 e41 dX11_finish_49 ?_
      refine lv_iconst (v := 1) hx hb dX11_finish_52 (by decide) ?_
      refine r_callV (T := TX6) (N := 9) (ci := 6) (index := 228) (n := 1) (d2 := 0) (mc := 0) (ms := 0) (As := [.int 1]) (rest := [.int v38, .int (mI M29 q33 1), .int (mI M29 q33 0), .ref q31]) C hw (ct_X6_pointsOf hq) kvX11_228 hq.1 (by decide) rfl ⟨by decide, by decide⟩ ⟨by decide, by decide⟩ rfl hl.1 rfl (Nat.le_of_ble_eq_true rfl) dX11_finish_53 (fun r M43 H locs hp hle hw => ?_)
      obtain ⟨v42, rfl, hq⟩ := hp
      refine W.eq (g2 := F0 m 56 ls [.int v42, .int v38, .int (mI M29 q33 1), .int (mI M29 q33 0), .ref q31]) rfl ?_
      refine r_callV (T := TX5) (N := 5) (ci := 5) (index := 231) (n := 4) (d2 := 2) (mc := 0) (ms := 0) (As := [.int (mI M29 q33 0), .int (mI M29 q33 1), .int v38, .int v42]) (rest := []) C hw (ct_X5_addMatch hq) kvX11_231 hq.1 (by decide) rfl ⟨by decide, by decide⟩ ⟨by decide, by decide⟩ rfl hl.1 rfl (Nat.le_of_ble_eq_true rfl) dX11_finish_56 (fun r M45 H locs hp hle hw => ?_)
      obtain ⟨rfl, hq⟩ := hp
      refine W.eq (g2 := F0 m 59 ls []) rfl ?_
      refine lv_iconst (v := 0) hx hb dX11_finish_59 (by decide) ?_
      refine lv_istore_n (lv' := [(1, .int 0), (0, .ref a0)]) hx hb dX11_finish_60 rfl hl (by decide) rfl (fun ls hl => ?_)
      obtain ⟨nf, hq⟩ := hq
      exact lp_X11_finish_61  C hr hlk hn h0  nf _ _ _ _ _ hq hw (lv_sub hl [1, 0] rfl)
    · replace hq := hq.1 c30
      refine lv_iconst (v := 0) hx hb dX11_finish_20 (by decide) ?_
      exact r_zret C hr hlk hw dX11_finish_21 (Nat.le_refl _) (Nat.le_refl _) (by decide) ⟨_, rfl, hq⟩

set_option maxRecDepth 100000 in
def wp_X11_call  (g : Gh) (M0 : Mem) (a0 : Nat) (post : Int32 → Mem → Prop) : Prop :=
  okc (gB g) M0 a0 11 ∧ (∃ q1, mR M0 a0 9 = some q1 ∧ (okc (gB g) M0 q1 6 ∧ (wp_X6_drop g M0 q1 (fun M5 => ((mI M0 q1 0) = 0 ∨ (mI M0 q1 0) = 1) ∧ (post (mI M0 q1 0) M5)))))
set_option maxHeartbeats 4000000 in
set_option maxRecDepth 100000 in
theorem ct_X11_call {l : Launch} {g : Gh} {M0 : Mem} {a0 : Nat} {post : Int32 → Mem → Prop}  (hq : wp_X11_call  g M0 a0 post) : Ct l g yX11_call cX11_call 2 (some .boolean) 1 0 0 [.ref a0] M0 (pI post) := by
  unfold wp_X11_call at hq
  obtain ⟨h0, hq⟩ := hq
  refine Ct.of (by decide) (Nat.le_of_ble_eq_true rfl) ?_
  intro p e s m below meth c ls C hr hlk hn hl hw
  have hx := C.1.1
  have hb := C.1.2.1
  have hl : lv_has ls 2 [(0, .ref a0)] := hl
  refine lv_aload_n hx hb dX11_call_0 rfl (lv_at hl 0 rfl) ?_
  obtain ⟨q1, e2, hq⟩ := hq
  refine gfX11_65 C hw hw.2.2.1 h0 e2 dX11_call_1 ?_
  obtain ⟨h3, hq⟩ := hq
  refine gfX11_125 C hw hw.2.2.1 h3 dX11_call_4 ?_
  refine lv_istore_n (lv' := [(1, .int (mI M0 q1 0)), (0, .ref a0)]) hx hb dX11_call_7 rfl hl (by decide) rfl (fun ls hl => ?_)
  refine lv_aload_n hx hb dX11_call_8 rfl (lv_at hl 1 rfl) ?_
  refine gfX11_65 C hw hw.2.2.1 h0 e2 dX11_call_9 ?_
  refine r_callV (T := TX6) (N := 9) (ci := 6) (index := 242) (n := 0) (d2 := 0) (mc := 0) (ms := 0) (As := []) (rest := []) C hw (ct_X6_drop hq) kvX11_242 hq.1 (by decide) rfl ⟨by decide, by decide⟩ ⟨by decide, by decide⟩ rfl hl.1 rfl (Nat.le_of_ble_eq_true rfl) dX11_call_12 (fun r M5 H locs hp hle hw => ?_)
  obtain ⟨rfl, hq⟩ := hp
  refine W.eq (g2 := F0 m 15 ls []) rfl ?_
  refine lv_iload_n hx hb dX11_call_15 rfl (lv_at hl 0 rfl) ?_
  obtain ⟨h6, hq⟩ := hq
  exact r_zret C hr hlk hw dX11_call_16 (Nat.le_refl _) (Nat.le_refl _) h6 ⟨_, rfl, hq⟩

set_option maxRecDepth 100000 in
def wp_X11_table  (g : Gh) (M0 : Mem) (a0 : Nat) (p1 : Int32) (p2 : Int32) (post : Int32 → Mem → Prop) : Prop :=
  okc (gB g) M0 a0 11 ∧ (∃ q1, mR M0 a0 10 = some q1 ∧ (wp_X5_teamAt g M0 q1 p1 (fun v3 M4 => wp_X11_isTeam g M4 v3 (fun v5 M6 => ((v5 = 0) → post (-1) M6) ∧ (¬ (v5 = 0) → ∃ q8, mR M6 a0 10 = some q8 ∧ (wp_X5_tell g M6 q8 v3 p2 (fun v10 M11 => post v10 M11)))))))
set_option maxHeartbeats 4000000 in
set_option maxRecDepth 100000 in
theorem ct_X11_table {l : Launch} {g : Gh} {M0 : Mem} {a0 : Nat} {p1 : Int32} {p2 : Int32} {post : Int32 → Mem → Prop}  (hq : wp_X11_table  g M0 a0 p1 p2 post) : Ct l g yX11_table cX11_table 4 (some .int) 4 0 0 [.ref a0, .int p1, .int p2] M0 (pI post) := by
  unfold wp_X11_table at hq
  obtain ⟨h0, hq⟩ := hq
  refine Ct.of (by decide) (Nat.le_of_ble_eq_true rfl) ?_
  intro p e s m below meth c ls C hr hlk hn hl hw
  have hx := C.1.1
  have hb := C.1.2.1
  have hl : lv_has ls 4 [(0, .ref a0), (1, .int p1), (2, .int p2)] := hl
  refine lv_aload_n hx hb dX11_table_0 rfl (lv_at hl 0 rfl) ?_
  obtain ⟨q1, e2, hq⟩ := hq
  refine gfX11_72 C hw hw.2.2.1 h0 e2 dX11_table_1 ?_
  refine lv_iload_n hx hb dX11_table_4 rfl (lv_at hl 1 rfl) ?_
  refine r_callV (T := TX5) (N := 5) (ci := 5) (index := 245) (n := 1) (d2 := 3) (mc := 0) (ms := 0) (As := [.int p1]) (rest := []) C hw (ct_X5_teamAt hq) kvX11_245 hq.1 (by decide) rfl ⟨by decide, by decide⟩ ⟨by decide, by decide⟩ rfl hl.1 rfl (Nat.le_of_ble_eq_true rfl) dX11_table_5 (fun r M4 H locs hp hle hw => ?_)
  obtain ⟨v3, rfl, hq⟩ := hp
  refine W.eq (g2 := F0 m 8 ls [.int v3]) rfl ?_
  refine lv_istore_n (lv' := [(3, .int v3), (0, .ref a0), (1, .int p1), (2, .int p2)]) hx hb dX11_table_8 rfl hl (by decide) rfl (fun ls hl => ?_)
  refine lv_iload_n hx hb dX11_table_9 rfl (lv_at hl 0 rfl) ?_
  refine r_callS (index := 143) (n := 1) (d2 := 0) (mc := 0) (ms := 0) (As := [.int v3]) (rest := []) C hw (ct_X11_isTeam hq) ksX11_143 ⟨by decide, by decide⟩ ⟨by decide, by decide⟩ rfl hl.1 rfl (Nat.le_of_ble_eq_true rfl) dX11_table_10 (fun r M6 H locs hp hle hw => ?_)
  obtain ⟨v5, rfl, hq⟩ := hp
  refine W.eq (g2 := F0 m 13 ls [.int v5]) rfl ?_
  refine lv_if_eq (tgt := 28) hx hb dX11_table_13 (by decide) (fun c7 => ?_) (fun c7 => ?_)
  · replace hq := hq.1 c7
    refine lv_iconst (v := (-1)) hx hb dX11_table_28 (by decide) ?_
    exact r_iret C hr hlk hw dX11_table_29 (Nat.le_refl _) (Nat.le_refl _) ⟨_, rfl, hq⟩
  · replace hq := hq.2 c7
    refine lv_aload_n hx hb dX11_table_16 rfl (lv_at hl 1 rfl) ?_
    obtain ⟨q8, e9, hq⟩ := hq
    refine gfX11_72 C hw hw.2.2.1 h0 e9 dX11_table_17 ?_
    refine lv_iload_n hx hb dX11_table_20 rfl (lv_at hl 0 rfl) ?_
    refine lv_iload_n hx hb dX11_table_21 rfl (lv_at hl 3 rfl) ?_
    refine r_callV (T := TX5) (N := 5) (ci := 5) (index := 248) (n := 2) (d2 := 1) (mc := 0) (ms := 0) (As := [.int v3, .int p2]) (rest := []) C hw (ct_X5_tell hq) kvX11_248 hq.1 (by decide) rfl ⟨by decide, by decide⟩ ⟨by decide, by decide⟩ rfl hl.1 rfl (Nat.le_of_ble_eq_true rfl) dX11_table_22 (fun r M11 H locs hp hle hw => ?_)
    obtain ⟨v10, rfl, hq⟩ := hp
    refine W.eq (g2 := F0 m 25 ls [.int v10]) rfl ?_
    refine lv_goto (tgt := 29) hx hb dX11_table_25 (by decide) ?_
    exact r_iret C hr hlk hw dX11_table_29 (Nat.le_refl _) (Nat.le_refl _) ⟨_, rfl, hq⟩

set_option maxRecDepth 100000 in
def wp_X11_count  (g : Gh) (M0 : Mem) (a0 : Nat) (p1 : Int32) (post : Int32 → Mem → Prop) : Prop :=
  okc (gB g) M0 a0 11 ∧ (((p1 = 0) → post (mI M0 a0 4) M0) ∧ ((p1 = 1) → ∃ q2, mR M0 a0 5 = some q2 ∧ (okc (gB g) M0 q2 4 ∧ (post (mI M0 q2 1) M0))) ∧ ((p1 = 2) → ∃ q5, mR M0 a0 5 = some q5 ∧ (okc (gB g) M0 q5 4 ∧ (post (mI M0 q5 0) M0))) ∧ ((p1 = 3) → ∃ q8, mR M0 a0 8 = some q8 ∧ (okc (gB g) M0 q8 8 ∧ (post (mI M0 q8 2) M0))) ∧ ((p1 = 4) → ∃ q11, mR M0 a0 8 = some q11 ∧ (okc (gB g) M0 q11 8 ∧ (post (mI M0 q11 3) M0))) ∧ ((p1 = 5) → ∃ q14, mR M0 a0 10 = some q14 ∧ (okc (gB g) M0 q14 5 ∧ (post (mI M0 q14 4) M0))) ∧ ((p1 = 6) → ∃ q17, mR M0 a0 0 = some q17 ∧ (okc (gB g) M0 q17 10 ∧ (post (mI M0 q17 1) M0))) ∧ ((¬ (p1 = 0) ∧ ¬ (p1 = 1) ∧ ¬ (p1 = 2) ∧ ¬ (p1 = 3) ∧ ¬ (p1 = 4) ∧ ¬ (p1 = 5) ∧ ¬ (p1 = 6)) → post (-1) M0))
set_option maxHeartbeats 4000000 in
set_option maxRecDepth 100000 in
theorem ct_X11_count {l : Launch} {g : Gh} {M0 : Mem} {a0 : Nat} {p1 : Int32} {post : Int32 → Mem → Prop}  (hq : wp_X11_count  g M0 a0 p1 post) : Ct l g yX11_count cX11_count 2 (some .int) 0 0 0 [.ref a0, .int p1] M0 (pI post) := by
  unfold wp_X11_count at hq
  obtain ⟨h0, hq⟩ := hq
  refine Ct.of (by decide) (Nat.le_of_ble_eq_true rfl) ?_
  intro p e s m below meth c ls C hr hlk hn hl hw
  have hx := C.1.1
  have hb := C.1.2.1
  have hl : lv_has ls 2 [(0, .ref a0), (1, .int p1)] := hl
  refine lv_iload_n hx hb dX11_count_0 rfl (lv_at hl 1 rfl) ?_
  by_cases c20 : p1 = 0
  · refine r_table (v := 0) (off := 43) (tgt := 44) hx hb dX11_count_1 c20 (by decide) (by decide) rfl (by decide) ?_
    replace hq := hq.1 c20
    refine lv_aload_n hx hb dX11_count_44 rfl (lv_at hl 0 rfl) ?_
    refine gfX11_36 C hw hw.2.2.1 h0 dX11_count_45 ?_
    exact r_iret C hr hlk hw dX11_count_48 (Nat.le_refl _) (Nat.le_refl _) ⟨_, rfl, hq⟩
  by_cases c21 : p1 = 1
  · refine r_table (v := 1) (off := 48) (tgt := 49) hx hb dX11_count_1 c21 (by decide) (by decide) rfl (by decide) ?_
    replace hq := hq.2.1 c21
    refine lv_aload_n hx hb dX11_count_49 rfl (lv_at hl 0 rfl) ?_
    obtain ⟨q2, e3, hq⟩ := hq
    refine gfX11_43 C hw hw.2.2.1 h0 e3 dX11_count_50 ?_
    obtain ⟨h4, hq⟩ := hq
    refine gfX11_152 C hw hw.2.2.1 h4 dX11_count_53 ?_
    exact r_iret C hr hlk hw dX11_count_56 (Nat.le_refl _) (Nat.le_refl _) ⟨_, rfl, hq⟩
  by_cases c22 : p1 = 2
  · refine r_table (v := 2) (off := 56) (tgt := 57) hx hb dX11_count_1 c22 (by decide) (by decide) rfl (by decide) ?_
    replace hq := hq.2.2.1 c22
    refine lv_aload_n hx hb dX11_count_57 rfl (lv_at hl 0 rfl) ?_
    obtain ⟨q5, e6, hq⟩ := hq
    refine gfX11_43 C hw hw.2.2.1 h0 e6 dX11_count_58 ?_
    obtain ⟨h7, hq⟩ := hq
    refine gfX11_250 C hw hw.2.2.1 h7 dX11_count_61 ?_
    exact r_iret C hr hlk hw dX11_count_64 (Nat.le_refl _) (Nat.le_refl _) ⟨_, rfl, hq⟩
  by_cases c23 : p1 = 3
  · refine r_table (v := 3) (off := 64) (tgt := 65) hx hb dX11_count_1 c23 (by decide) (by decide) rfl (by decide) ?_
    replace hq := hq.2.2.2.1 c23
    refine lv_aload_n hx hb dX11_count_65 rfl (lv_at hl 0 rfl) ?_
    obtain ⟨q8, e9, hq⟩ := hq
    refine gfX11_56 C hw hw.2.2.1 h0 e9 dX11_count_66 ?_
    obtain ⟨h10, hq⟩ := hq
    refine gfX11_183 C hw hw.2.2.1 h10 dX11_count_69 ?_
    exact r_iret C hr hlk hw dX11_count_72 (Nat.le_refl _) (Nat.le_refl _) ⟨_, rfl, hq⟩
  by_cases c24 : p1 = 4
  · refine r_table (v := 4) (off := 72) (tgt := 73) hx hb dX11_count_1 c24 (by decide) (by decide) rfl (by decide) ?_
    replace hq := hq.2.2.2.2.1 c24
    refine lv_aload_n hx hb dX11_count_73 rfl (lv_at hl 0 rfl) ?_
    obtain ⟨q11, e12, hq⟩ := hq
    refine gfX11_56 C hw hw.2.2.1 h0 e12 dX11_count_74 ?_
    obtain ⟨h13, hq⟩ := hq
    refine gfX11_253 C hw hw.2.2.1 h13 dX11_count_77 ?_
    exact r_iret C hr hlk hw dX11_count_80 (Nat.le_refl _) (Nat.le_refl _) ⟨_, rfl, hq⟩
  by_cases c25 : p1 = 5
  · refine r_table (v := 5) (off := 80) (tgt := 81) hx hb dX11_count_1 c25 (by decide) (by decide) rfl (by decide) ?_
    replace hq := hq.2.2.2.2.2.1 c25
    refine lv_aload_n hx hb dX11_count_81 rfl (lv_at hl 0 rfl) ?_
    obtain ⟨q14, e15, hq⟩ := hq
    refine gfX11_72 C hw hw.2.2.1 h0 e15 dX11_count_82 ?_
    obtain ⟨h16, hq⟩ := hq
    refine gfX11_256 C hw hw.2.2.1 h16 dX11_count_85 ?_
    exact r_iret C hr hlk hw dX11_count_88 (Nat.le_refl _) (Nat.le_refl _) ⟨_, rfl, hq⟩
  by_cases c26 : p1 = 6
  · refine r_table (v := 6) (off := 88) (tgt := 89) hx hb dX11_count_1 c26 (by decide) (by decide) rfl (by decide) ?_
    replace hq := hq.2.2.2.2.2.2.1 c26
    refine lv_aload_n hx hb dX11_count_89 rfl (lv_at hl 0 rfl) ?_
    obtain ⟨q17, e18, hq⟩ := hq
    refine gfX11_10 C hw hw.2.2.1 h0 e18 dX11_count_90 ?_
    obtain ⟨h19, hq⟩ := hq
    refine gfX11_84 C hw hw.2.2.1 h19 dX11_count_93 ?_
    exact r_iret C hr hlk hw dX11_count_96 (Nat.le_refl _) (Nat.le_refl _) ⟨_, rfl, hq⟩
  refine r_tableOut (tgt := 97) (k := 6) hx hb dX11_count_1 (by decide) (fun j hj => by rcases (show j = 0 ∨ j = 1 ∨ j = 2 ∨ j = 3 ∨ j = 4 ∨ j = 5 ∨ j = 6 by omega) with rfl | rfl | rfl | rfl | rfl | rfl | rfl <;> assumption) (by decide) ?_
  replace hq := hq.2.2.2.2.2.2.2 ⟨c20, c21, c22, c23, c24, c25, c26⟩
  refine lv_iconst (v := (-1)) hx hb dX11_count_97 (by decide) ?_
  exact r_iret C hr hlk hw dX11_count_98 (Nat.le_refl _) (Nat.le_refl _) ⟨_, rfl, hq⟩
