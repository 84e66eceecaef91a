set_option maxRecDepth 100000 in
def wp_X12_node  (g : Gh) (M0 : Mem) (a0 : Nat) (p1 : Int32) (p2 : Int64) (p4 : Int64) (post : Int32 → Mem → Prop) : Prop :=
  okc (gB g) M0 a0 12 ∧ (∀ M1, M1 = uI M0 a0 17 ((mI M0 a0 17) + 1) → (∃ q3, mR M1 a0 11 = some q3 ∧ (okc (gB g) M0 q3 14 ∧ (vp_in ((420 * (mI M0 a0 16)) + (mI M0 a0 17)) (mN M0 q3) ∧ (∀ M7, M7 = uI M1 q3 (Int32.toNatClampNeg ((420 * (mI M0 a0 16)) + (mI M0 a0 17))) p1 → (∃ q9, mR M7 a0 12 = some q9 ∧ (okc (gB g) M0 q9 14 ∧ (vp_in ((420 * (mI M0 a0 16)) + (mI M0 a0 17)) (mN M0 q9) ∧ (∀ M13, M13 = uI M7 q9 (Int32.toNatClampNeg ((420 * (mI M0 a0 16)) + (mI M0 a0 17))) (-1) → (∃ q15, mR M13 a0 13 = some q15 ∧ (okc (gB g) M0 q15 14 ∧ (vp_in ((420 * (mI M0 a0 16)) + (mI M0 a0 17)) (mN M0 q15) ∧ (∀ M19, M19 = uI M13 q15 (Int32.toNatClampNeg ((420 * (mI M0 a0 16)) + (mI M0 a0 17))) (-1) → (∃ q21, mR M19 a0 14 = some q21 ∧ (okc (gB g) M0 q21 15 ∧ (vp_in ((420 * (mI M0 a0 16)) + (mI M0 a0 17)) (mN M0 q21) ∧ (∀ M25, M25 = uJ M19 q21 (Int32.toNatClampNeg ((420 * (mI M0 a0 16)) + (mI M0 a0 17))) p2 → (∃ q27, mR M25 a0 15 = some q27 ∧ (okc (gB g) M0 q27 15 ∧ (vp_in ((420 * (mI M0 a0 16)) + (mI M0 a0 17)) (mN M0 q27) ∧ (∀ M31, M31 = uJ M25 q27 (Int32.toNatClampNeg ((420 * (mI M0 a0 16)) + (mI M0 a0 17))) p4 → (post ((420 * (mI M0 a0 16)) + (mI M0 a0 17)) M31))))))))))))))))))))))
set_option maxHeartbeats 4000000 in
set_option maxRecDepth 100000 in
theorem ct_X12_node {l : Launch} {g : Gh} {M0 : Mem} {a0 : Nat} {p1 : Int32} {p2 : Int64} {p4 : Int64} {post : Int32 → Mem → Prop}  (hq : wp_X12_node  g M0 a0 p1 p2 p4 post) : Ct l g yX12_node cX12_node 7 (some .int) 0 0 0 [.ref a0, .int p1, .long p2, .long p4] M0 (pI post) := by
  unfold wp_X12_node at hq
  obtain ⟨h0, hq⟩ := hq
  refine Ct.of (by decide) (Nat.le_of_ble_eq_true rfl) ?_
  intro p e s m below meth c ls C hr hlk hn hl hw
  have hx := C.1.1
  have hb := C.1.2.1
  have hl : lv_has ls 7 [(0, .ref a0), (1, .int p1), (2, .long p2), (4, .long p4)] := hl
  refine lv_sipush (v := 420) hx hb dX12_node_0 (by decide) ?_
  refine lv_aload_n hx hb dX12_node_3 rfl (lv_at hl 0 rfl) ?_
  refine gfX12_181 C hw hw.2.2.1 h0 dX12_node_4 ?_
  refine lv_imul hx hb dX12_node_7 ?_
  refine lv_aload_n hx hb dX12_node_8 rfl (lv_at hl 0 rfl) ?_
  refine gfX12_184 C hw hw.2.2.1 h0 dX12_node_9 ?_
  refine lv_iadd hx hb dX12_node_12 ?_
  refine lv_istore (lv' := [(6, .int ((420 * (mI M0 a0 16)) + (mI M0 a0 17))), (0, .ref a0), (1, .int p1), (2, .long p2), (4, .long p4)]) hx hb dX12_node_13 hl (by decide) rfl (fun ls hl => ?_)
  refine lv_aload_n hx hb dX12_node_15 rfl (lv_at hl 1 rfl) ?_
  refine lv_dup hx hb dX12_node_16 rfl ?_
  refine gfX12_184 C hw hw.2.2.1 h0 dX12_node_17 ?_
  refine lv_iconst (v := 1) hx hb dX12_node_20 (by decide) ?_
  refine lv_iadd hx hb dX12_node_21 ?_
  refine pfX12_184 C hw hw.2.2.1 h0 dX12_node_22 (fun H locs hw => ?_)
  generalize e2 : uI M0 a0 17 ((mI M0 a0 17) + 1) = M1 at hw
  replace hq := hq M1 e2.symm
  refine lv_aload_n hx hb dX12_node_25 rfl (lv_at hl 1 rfl) ?_
  obtain ⟨q3, e4, hq⟩ := hq
  refine gfX12_13 C hw hw.2.2.1 h0 e4 dX12_node_26 ?_
  refine lv_iload hx hb dX12_node_29 (lv_at hl 0 rfl) ?_
  refine lv_iload_n hx hb dX12_node_31 rfl (lv_at hl 2 rfl) ?_
  obtain ⟨h5, hq⟩ := hq
  obtain ⟨h6, hq⟩ := hq
  refine q_iast C hw hw.2.2.1 h5 h6 dX12_node_32 (fun H locs hw => ?_)
  generalize e8 : uI M1 q3 (Int32.toNatClampNeg ((420 * (mI M0 a0 16)) + (mI M0 a0 17))) p1 = M7 at hw
  replace hq := hq M7 e8.symm
  have e4 : mR M7 a0 11 = some q3 := by rw [← e8, mR_uI]; exact e4
  refine lv_aload_n hx hb dX12_node_33 rfl (lv_at hl 1 rfl) ?_
  obtain ⟨q9, e10, hq⟩ := hq
  refine gfX12_16 C hw hw.2.2.1 h0 e10 dX12_node_34 ?_
  refine lv_iload hx hb dX12_node_37 (lv_at hl 0 rfl) ?_
  refine lv_iconst (v := (-1)) hx hb dX12_node_39 (by decide) ?_
  obtain ⟨h11, hq⟩ := hq
  obtain ⟨h12, hq⟩ := hq
  refine q_iast C hw hw.2.2.1 h11 h12 dX12_node_40 (fun H locs hw => ?_)
  generalize e14 : uI M7 q9 (Int32.toNatClampNeg ((420 * (mI M0 a0 16)) + (mI M0 a0 17))) (-1) = M13 at hw
  replace hq := hq M13 e14.symm
  have e4 : mR M13 a0 11 = some q3 := by rw [← e14, mR_uI]; exact e4
  have e10 : mR M13 a0 12 = some q9 := by rw [← e14, mR_uI]; exact e10
  refine lv_aload_n hx hb dX12_node_41 rfl (lv_at hl 1 rfl) ?_
  obtain ⟨q15, e16, hq⟩ := hq
  refine gfX12_19 C hw hw.2.2.1 h0 e16 dX12_node_42 ?_
  refine lv_iload hx hb dX12_node_45 (lv_at hl 0 rfl) ?_
  refine lv_iconst (v := (-1)) hx hb dX12_node_47 (by decide) ?_
  obtain ⟨h17, hq⟩ := hq
  obtain ⟨h18, hq⟩ := hq
  refine q_iast C hw hw.2.2.1 h17 h18 dX12_node_48 (fun H locs hw => ?_)
  generalize e20 : uI M13 q15 (Int32.toNatClampNeg ((420 * (mI M0 a0 16)) + (mI M0 a0 17))) (-1) = M19 at hw
  replace hq := hq M19 e20.symm
  have e4 : mR M19 a0 11 = some q3 := by rw [← e20, mR_uI]; exact e4
  have e10 : mR M19 a0 12 = some q9 := by rw [← e20, mR_uI]; exact e10
  have e16 : mR M19 a0 13 = some q15 := by rw [← e20, mR_uI]; exact e16
  refine lv_aload_n hx hb dX12_node_49 rfl (lv_at hl 1 rfl) ?_
  obtain ⟨q21, e22, hq⟩ := hq
  refine gfX12_22 C hw hw.2.2.1 h0 e22 dX12_node_50 ?_
  refine lv_iload hx hb dX12_node_53 (lv_at hl 0 rfl) ?_
  refine lv_lload_n hx hb dX12_node_55 rfl (lv_at hl 3 rfl) ?_
  obtain ⟨h23, hq⟩ := hq
  obtain ⟨h24, hq⟩ := hq
  refine q_last C hw hw.2.2.1 h23 h24 dX12_node_56 (fun H locs hw => ?_)
  generalize e26 : uJ M19 q21 (Int32.toNatClampNeg ((420 * (mI M0 a0 16)) + (mI M0 a0 17))) p2 = M25 at hw
  replace hq := hq M25 e26.symm
  have e4 : mR M25 a0 11 = some q3 := by rw [← e26, mR_uJ]; exact e4
  have e10 : mR M25 a0 12 = some q9 := by rw [← e26, mR_uJ]; exact e10
  have e16 : mR M25 a0 13 = some q15 := by rw [← e26, mR_uJ]; exact e16
  have e22 : mR M25 a0 14 = some q21 := by rw [← e26, mR_uJ]; exact e22
  refine lv_aload_n hx hb dX12_node_57 rfl (lv_at hl 1 rfl) ?_
  obtain ⟨q27, e28, hq⟩ := hq
  refine gfX12_26 C hw hw.2.2.1 h0 e28 dX12_node_58 ?_
  refine lv_iload hx hb dX12_node_61 (lv_at hl 0 rfl) ?_
  refine lv_lload hx hb dX12_node_63 (lv_at hl 4 rfl) ?_
  obtain ⟨h29, hq⟩ := hq
  obtain ⟨h30, hq⟩ := hq
  refine q_last C hw hw.2.2.1 h29 h30 dX12_node_65 (fun H locs hw => ?_)
  generalize e32 : uJ M25 q27 (Int32.toNatClampNeg ((420 * (mI M0 a0 16)) + (mI M0 a0 17))) p4 = M31 at hw
  replace hq := hq M31 e32.symm
  have e4 : mR M31 a0 11 = some q3 := by rw [← e32, mR_uJ]; exact e4
  have e10 : mR M31 a0 12 = some q9 := by rw [← e32, mR_uJ]; exact e10
  have e16 : mR M31 a0 13 = some q15 := by rw [← e32, mR_uJ]; exact e16
  have e22 : mR M31 a0 14 = some q21 := by rw [← e32, mR_uJ]; exact e22
  have e28 : mR M31 a0 15 = some q27 := by rw [← e32, mR_uJ]; exact e28
  refine lv_iload hx hb dX12_node_66 (lv_at hl 0 rfl) ?_
  exact r_iret C hr hlk hw dX12_node_68 (Nat.le_refl _) (Nat.le_refl _) ⟨_, rfl, hq⟩

set_option maxRecDepth 100000 in
def wp_X12_hang  (g : Gh) (M0 : Mem) (a0 : Nat) (p1 : Int32) (p2 : Int32) (p3 : Int32) (post : Mem → Prop) : Prop :=
  okc (gB g) M0 a0 12 ∧ (((p2 = (-1)) → ∃ q8, mR M0 a0 12 = some q8 ∧ (okc (gB g) M0 q8 14 ∧ (vp_in p1 (mN M0 q8) ∧ (∀ M12, M12 = uI M0 q8 (Int32.toNatClampNeg p1) p3 → (post M12))))) ∧ (¬ (p2 = (-1)) → ∃ q2, mR M0 a0 13 = some q2 ∧ (okc (gB g) M0 q2 14 ∧ (vp_in p2 (mN M0 q2) ∧ (∀ M6, M6 = uI M0 q2 (Int32.toNatClampNeg p2) p3 → (post M6))))))
set_option maxHeartbeats 4000000 in
set_option maxRecDepth 100000 in
theorem ct_X12_hang {l : Launch} {g : Gh} {M0 : Mem} {a0 : Nat} {p1 : Int32} {p2 : Int32} {p3 : Int32} {post : Mem → Prop}  (hq : wp_X12_hang  g M0 a0 p1 p2 p3 post) : Ct l g yX12_hang cX12_hang 4 none 0 0 0 [.ref a0, .int p1, .int p2, .int p3] M0 (pV post) := by
  unfold wp_X12_hang at hq
  obtain ⟨h0, hq⟩ := hq
  refine Ct.of (by decide) (Nat.le_of_ble_eq_true rfl) ?_
  intro p e s m below meth c ls C hr hlk hn hl hw
  have hx := C.1.1
  have hb := C.1.2.1
  have hl : lv_has ls 4 [(0, .ref a0), (1, .int p1), (2, .int p2), (3, .int p3)] := hl
  refine lv_iload_n hx hb dX12_hang_0 rfl (lv_at hl 2 rfl) ?_
  refine lv_iconst (v := (-1)) hx hb dX12_hang_1 (by decide) ?_
  refine lv_icmp_ne (tgt := 15) hx hb dX12_hang_2 (by decide) (fun c1 => ?_) (fun c1 => ?_)
  · replace hq := hq.2 c1
    refine lv_aload_n hx hb dX12_hang_15 rfl (lv_at hl 0 rfl) ?_
    obtain ⟨q2, e3, hq⟩ := hq
    refine gfX12_19 C hw hw.2.2.1 h0 e3 dX12_hang_16 ?_
    refine lv_iload_n hx hb dX12_hang_19 rfl (lv_at hl 2 rfl) ?_
    refine lv_iload_n hx hb dX12_hang_20 rfl (lv_at hl 3 rfl) ?_
    obtain ⟨h4, hq⟩ := hq
    obtain ⟨h5, hq⟩ := hq
    refine q_iast C hw hw.2.2.1 h4 h5 dX12_hang_21 (fun H locs hw => ?_)
    generalize e7 : uI M0 q2 (Int32.toNatClampNeg p2) p3 = M6 at hw
    replace hq := hq M6 e7.symm
    have e3 : mR M6 a0 13 = some q2 := by rw [← e7, mR_uI]; exact e3
    exact r_vret C hr hlk hw dX12_hang_22 (Nat.le_refl _) (Nat.le_refl _) ⟨rfl, hq⟩
  · replace hq := hq.1 c1
    refine lv_aload_n hx hb dX12_hang_5 rfl (lv_at hl 0 rfl) ?_
    obtain ⟨q8, e9, hq⟩ := hq
    refine gfX12_16 C hw hw.2.2.1 h0 e9 dX12_hang_6 ?_
    refine lv_iload_n hx hb dX12_hang_9 rfl (lv_at hl 1 rfl) ?_
    refine lv_iload_n hx hb dX12_hang_10 rfl (lv_at hl 3 rfl) ?_
    obtain ⟨h10, hq⟩ := hq
    obtain ⟨h11, hq⟩ := hq
    refine q_iast C hw hw.2.2.1 h10 h11 dX12_hang_11 (fun H locs hw => ?_)
    generalize e13 : uI M0 q8 (Int32.toNatClampNeg p1) p3 = M12 at hw
    replace hq := hq M12 e13.symm
    have e9 : mR M12 a0 12 = some q8 := by rw [← e13, mR_uI]; exact e9
    refine lv_goto (tgt := 22) hx hb dX12_hang_12 (by decide) ?_
    exact r_vret C hr hlk hw dX12_hang_22 (Nat.le_refl _) (Nat.le_refl _) ⟨rfl, hq⟩

set_option maxRecDepth 100000 in
def wp_X12_isPart  (g : Gh) (M0 : Mem) (a0 : Nat) (post : Int32 → Mem → Prop) : Prop :=
  okc (gB g) M0 a0 12 ∧ ((((mI M0 a0 6) = 2) → post 1 M0) ∧ (¬ ((mI M0 a0 6) = 2) → (((mI M0 a0 6) = 3) → post 1 M0) ∧ (¬ ((mI M0 a0 6) = 3) → wp_X12_isSign g M0 a0 91 (fun v3 M4 => ((v3 = 0) → wp_X12_isSign g M4 a0 40 (fun v6 M7 => ((v6 = 0) → wp_X12_isSign g M7 a0 123 (fun v9 M10 => ((v9 = 0) → post 0 M10) ∧ (¬ (v9 = 0) → post 1 M10))) ∧ (¬ (v6 = 0) → post 1 M7))) ∧ (¬ (v3 = 0) → post 1 M4)))))
set_option maxHeartbeats 4000000 in
set_option maxRecDepth 100000 in
theorem ct_X12_isPart {l : Launch} {g : Gh} {M0 : Mem} {a0 : Nat} {post : Int32 → Mem → Prop}  (hq : wp_X12_isPart  g M0 a0 post) : Ct l g yX12_isPart cX12_isPart 1 (some .boolean) 1 0 0 [.ref a0] M0 (pI post) := by
  unfold wp_X12_isPart at hq
  obtain ⟨h0, hq⟩ := hq
  refine Ct.of (by decide) (Nat.le_of_ble_eq_true rfl) ?_
  intro p e s m below meth c ls C hr hlk hn hl hw
  have hx := C.1.1
  have hb := C.1.2.1
  have hl : lv_has ls 1 [(0, .ref a0)] := hl
  refine lv_aload_n hx hb dX12_isPart_0 rfl (lv_at hl 0 rfl) ?_
  refine gfX12_143 C hw hw.2.2.1 h0 dX12_isPart_1 ?_
  refine lv_iconst (v := 2) hx hb dX12_isPart_4 (by decide) ?_
  refine lv_icmp_eq (tgt := 43) hx hb dX12_isPart_5 (by decide) (fun c1 => ?_) (fun c1 => ?_)
  · replace hq := hq.1 c1
    refine lv_iconst (v := 1) hx hb dX12_isPart_43 (by decide) ?_
    refine lv_goto (tgt := 48) hx hb dX12_isPart_44 (by decide) ?_
    exact r_zret C hr hlk hw dX12_isPart_48 (Nat.le_refl _) (Nat.le_refl _) (by decide) ⟨_, rfl, hq⟩
  · replace hq := hq.2 c1
    refine lv_aload_n hx hb dX12_isPart_8 rfl (lv_at hl 0 rfl) ?_
    refine gfX12_143 C hw hw.2.2.1 h0 dX12_isPart_9 ?_
    refine lv_iconst (v := 3) hx hb dX12_isPart_12 (by decide) ?_
    refine lv_icmp_eq (tgt := 43) hx hb dX12_isPart_13 (by decide) (fun c2 => ?_) (fun c2 => ?_)
    · replace hq := hq.1 c2
      refine lv_iconst (v := 1) hx hb dX12_isPart_43 (by decide) ?_
      refine lv_goto (tgt := 48) hx hb dX12_isPart_44 (by decide) ?_
      exact r_zret C hr hlk hw dX12_isPart_48 (Nat.le_refl _) (Nat.le_refl _) (by decide) ⟨_, rfl, hq⟩
    · replace hq := hq.2 c2
      refine lv_aload_n hx hb dX12_isPart_16 rfl (lv_at hl 0 rfl) ?_
      refine lv_bipush (v := 91) hx hb dX12_isPart_17 (by decide) ?_
      refine r_callV (T := TX12) (N := 67) (ci := 12) (index := 187) (n := 1) (d2 := 0) (mc := 0) (ms := 0) (As := [.int 91]) (rest := []) C hw (ct_X12_isSign hq) kvX12_187 hq.1 (by decide) rfl ⟨by decide, by decide⟩ ⟨by decide, by decide⟩ rfl hl.1 rfl (Nat.le_of_ble_eq_true rfl) dX12_isPart_19 (fun r M4 H locs hp hle hw => ?_)
      obtain ⟨v3, rfl, hq⟩ := hp
      refine W.eq (g2 := F0 m 22 ls [.int v3]) rfl ?_
      refine lv_if_ne (tgt := 43) hx hb dX12_isPart_22 (by decide) (fun c5 => ?_) (fun c5 => ?_)
      · replace hq := hq.2 c5
        refine lv_iconst (v := 1) hx hb dX12_isPart_43 (by decide) ?_
        refine lv_goto (tgt := 48) hx hb dX12_isPart_44 (by decide) ?_
        exact r_zret C hr hlk hw dX12_isPart_48 (Nat.le_refl _) (Nat.le_refl _) (by decide) ⟨_, rfl, hq⟩
      · replace hq := hq.1 c5
        refine lv_aload_n hx hb dX12_isPart_25 rfl (lv_at hl 0 rfl) ?_
        refine lv_bipush (v := 40) hx hb dX12_isPart_26 (by decide) ?_
        refine r_callV (T := TX12) (N := 67) (ci := 12) (index := 187) (n := 1) (d2 := 0) (mc := 0) (ms := 0) (As := [.int 40]) (rest := []) C hw (ct_X12_isSign hq) kvX12_187 hq.1 (by decide) rfl ⟨by decide, by decide⟩ ⟨by decide, by decide⟩ rfl hl.1 rfl (Nat.le_of_ble_eq_true rfl) dX12_isPart_28 (fun r M7 H locs hp hle hw => ?_)
        obtain ⟨v6, rfl, hq⟩ := hp
        refine W.eq (g2 := F0 m 31 ls [.int v6]) rfl ?_
        refine lv_if_ne (tgt := 43) hx hb dX12_isPart_31 (by decide) (fun c8 => ?_) (fun c8 => ?_)
        · replace hq := hq.2 c8
          refine lv_iconst (v := 1) hx hb dX12_isPart_43 (by decide) ?_
          refine lv_goto (tgt := 48) hx hb dX12_isPart_44 (by decide) ?_
          exact r_zret C hr hlk hw dX12_isPart_48 (Nat.le_refl _) (Nat.le_refl _) (by decide) ⟨_, rfl, hq⟩
        · replace hq := hq.1 c8
          refine lv_aload_n hx hb dX12_isPart_34 rfl (lv_at hl 0 rfl) ?_
          refine lv_bipush (v := 123) hx hb dX12_isPart_35 (by decide) ?_
          refine r_callV (T := TX12) (N := 67) (ci := 12) (index := 187) (n := 1) (d2 := 0) (mc := 0) (ms := 0) (As := [.int 123]) (rest := []) C hw (ct_X12_isSign hq) kvX12_187 hq.1 (by decide) rfl ⟨by decide, by decide⟩ ⟨by decide, by decide⟩ rfl hl.1 rfl (Nat.le_of_ble_eq_true rfl) dX12_isPart_37 (fun r M10 H locs hp hle hw => ?_)
          obtain ⟨v9, rfl, hq⟩ := hp
          refine W.eq (g2 := F0 m 40 ls [.int v9]) rfl ?_
          refine lv_if_eq (tgt := 47) hx hb dX12_isPart_40 (by decide) (fun c11 => ?_) (fun c11 => ?_)
          · replace hq := hq.1 c11
            refine lv_iconst (v := 0) hx hb dX12_isPart_47 (by decide) ?_
            exact r_zret C hr hlk hw dX12_isPart_48 (Nat.le_refl _) (Nat.le_refl _) (by decide) ⟨_, rfl, hq⟩
          · replace hq := hq.2 c11
            refine lv_iconst (v := 1) hx hb dX12_isPart_43 (by decide) ?_
            refine lv_goto (tgt := 48) hx hb dX12_isPart_44 (by decide) ?_
            exact r_zret C hr hlk hw dX12_isPart_48 (Nat.le_refl _) (Nat.le_refl _) (by decide) ⟨_, rfl, hq⟩

set_option maxRecDepth 100000 in
def wp_X12_none  (g : Gh) (M0 : Mem) (a0 : Nat) (p1 : Int32) (post : Int32 → Mem → Prop) : Prop :=
  okc (gB g) M0 a0 12 ∧ (wp_X12_bad g M0 a0 p1 (fun v1 M2 => post (-1) M2))
set_option maxHeartbeats 4000000 in
set_option maxRecDepth 100000 in
theorem ct_X12_none {l : Launch} {g : Gh} {M0 : Mem} {a0 : Nat} {p1 : Int32} {post : Int32 → Mem → Prop}  (hq : wp_X12_none  g M0 a0 p1 post) : Ct l g yX12_none cX12_none 2 (some .int) 1 0 0 [.ref a0, .int p1] M0 (pI post) := by
  unfold wp_X12_none at hq
  obtain ⟨h0, hq⟩ := hq
  refine Ct.of (by decide) (Nat.le_of_ble_eq_true rfl) ?_
  intro p e s m below meth c ls C hr hlk hn hl hw
  have hx := C.1.1
  have hb := C.1.2.1
  have hl : lv_has ls 2 [(0, .ref a0), (1, .int p1)] := hl
  refine lv_aload_n hx hb dX12_none_0 rfl (lv_at hl 0 rfl) ?_
  refine lv_iload_n hx hb dX12_none_1 rfl (lv_at hl 1 rfl) ?_
  refine r_callV (T := TX12) (N := 67) (ci := 12) (index := 213) (n := 1) (d2 := 0) (mc := 0) (ms := 0) (As := [.int p1]) (rest := []) C hw (ct_X12_bad hq) kvX12_213 hq.1 (by decide) rfl ⟨by decide, by decide⟩ ⟨by decide, by decide⟩ rfl hl.1 rfl (Nat.le_of_ble_eq_true rfl) dX12_none_2 (fun r M2 H locs hp hle hw => ?_)
  obtain ⟨v1, rfl, hq⟩ := hp
  refine W.eq (g2 := F0 m 5 ls [.int v1]) rfl ?_
  refine lv_pop hx hb dX12_none_5 rfl ?_
  refine lv_iconst (v := (-1)) hx hb dX12_none_6 (by decide) ?_
  exact r_iret C hr hlk hw dX12_none_7 (Nat.le_refl _) (Nat.le_refl _) ⟨_, rfl, hq⟩

set_option maxRecDepth 100000 in
def lb_X12_readPart_326 (w_X12_readForm : Gh → Mem → Nat → (Int32 → Mem → Prop) → Prop) (g : Gh) (M0 : Mem) (a0 : Nat) (post : Int32 → Mem → Prop)  (x2 : Int32) (s0 : Nat) (s1 : Int32) (M : Mem) : Prop :=
  wp_X12_isSign g M s0 s1 (fun v1 M2 => ((v1 = 0) → wp_X12_none g M2 a0 1 (fun v8 M9 => post v8 M9)) ∧ (¬ (v1 = 0) → ∀ M4, M4 = uI M2 a0 18 ((mI M2 a0 18) - 1) → (wp_X12_go g M4 a0 1 (fun M7 => post x2 M7))))
set_option maxRecDepth 100000 in
def lb_X12_readPart_301 (w_X12_readForm : Gh → Mem → Nat → (Int32 → Mem → Prop) → Prop) (g : Gh) (M0 : Mem) (a0 : Nat) (post : Int32 → Mem → Prop)  (x1 : Int32) (x2 : Int32)  (M : Mem) : Prop :=
  ((x1 = 91) → lb_X12_readPart_326 w_X12_readForm g M0 a0 post  x2 a0 93 M) ∧ (¬ (x1 = 91) → ((x1 = 40) → lb_X12_readPart_326 w_X12_readForm g M0 a0 post  x2 a0 41 M) ∧ (¬ (x1 = 40) → lb_X12_readPart_326 w_X12_readForm g M0 a0 post  x2 a0 125 M))
set_option maxRecDepth 100000 in
def lb_X12_readPart_288 (w_X12_readForm : Gh → Mem → Nat → (Int32 → Mem → Prop) → Prop) (g : Gh) (M0 : Mem) (a0 : Nat) (post : Int32 → Mem → Prop) (bk216 : Int32 × Int32 × Int32 × Int32 × Int32 × Mem → Prop) (x1 : Int32) (x2 : Int32) (x3 : Int32) (x4 : Int32) (x5 : Int32)  (M : Mem) : Prop :=
  ((x5 = 0) → bk216 (x1, x2, x3, x4, x5, M)) ∧ (¬ (x5 = 0) → wp_X12_go g M a0 1 (fun M14 => bk216 (x1, x2, x3, x4, x5, M14)))
set_option maxRecDepth 100000 in
def lb_X12_readPart_282 (w_X12_readForm : Gh → Mem → Nat → (Int32 → Mem → Prop) → Prop) (g : Gh) (M0 : Mem) (a0 : Nat) (post : Int32 → Mem → Prop)    (M : Mem) : Prop :=
  wp_X12_none g M a0 3 (fun v15 M16 => post v15 M16)
set_option maxRecDepth 100000 in
def lb_X12_readPart_269 (w_X12_readForm : Gh → Mem → Nat → (Int32 → Mem → Prop) → Prop) (g : Gh) (M0 : Mem) (a0 : Nat) (post : Int32 → Mem → Prop) (bk216 : Int32 × Int32 × Int32 × Int32 × Int32 × Mem → Prop) (x1 : Int32) (x2 : Int32) (x3 : Int32) (x4 : Int32) (s0 : Int32) (M : Mem) : Prop :=
  ((s0 = 0) → lb_X12_readPart_288 w_X12_readForm g M0 a0 post bk216 x1 x2 x3 x4 s0 M) ∧ (¬ (s0 = 0) → ((x4 = 5) → lb_X12_readPart_282 w_X12_readForm g M0 a0 post   M) ∧ (¬ (x4 = 5) → lb_X12_readPart_288 w_X12_readForm g M0 a0 post bk216 x1 x2 x3 x4 s0 M))
set_option maxRecDepth 100000 in
def bd_X12_readPart_216 (w_X12_readForm : Gh → Mem → Nat → (Int32 → Mem → Prop) → Prop) (g : Gh) (M0 : Mem) (a0 : Nat) (post : Int32 → Mem → Prop)  (bk216 : Int32 × Int32 × Int32 × Int32 × Int32 × Mem → Prop) (x1 : Int32) (x2 : Int32) (x3 : Int32) (x4 : Int32) (x5 : Int32)  (M : Mem) : Prop :=
  ((x5 = 0) → lb_X12_readPart_301 w_X12_readForm g M0 a0 post  x1 x2 M) ∧ (¬ (x5 = 0) → w_X12_readForm g M a0 (fun v20 M21 => ((v20 = (-1)) → post (-1) M21) ∧ (¬ (v20 = (-1)) → wp_X12_hang g M21 a0 x2 x3 v20 (fun M24 => ((x1 = 123) → wp_X12_isSign g M24 a0 44 (fun v26 M27 => ((v26 = 0) → lb_X12_readPart_269 w_X12_readForm g M0 a0 post bk216 x1 x2 v20 (x4 + 1) 0 M27) ∧ (¬ (v26 = 0) → lb_X12_readPart_269 w_X12_readForm g M0 a0 post bk216 x1 x2 v20 (x4 + 1) 1 M27))) ∧ (¬ (x1 = 123) → lb_X12_readPart_269 w_X12_readForm g M0 a0 post bk216 x1 x2 v20 (x4 + 1) 0 M24)))))
set_option maxRecDepth 100000 in
def lb_X12_readPart_197 (w_X12_readForm : Gh → Mem → Nat → (Int32 → Mem → Prop) → Prop) (g : Gh) (M0 : Mem) (a0 : Nat) (post : Int32 → Mem → Prop)  (x1 : Int32) (s0 : Nat) (s1 : Int32) (M : Mem) : Prop :=
  wp_X12_node g M s0 s1 0 0 (fun v29 M30 => wp_X12_go g M30 a0 1 (fun M32 => (∃ n : Nat, lfp (fun bk z => bd_X12_readPart_216 w_X12_readForm g M0 a0 post  bk z.1 z.2.1 z.2.2.1 z.2.2.2.1 z.2.2.2.2.1 z.2.2.2.2.2) n (x1, v29, (-1), 0, 1, M32))))
set_option maxRecDepth 100000 in
def wp_X12_readPart (w_X12_readForm : Gh → Mem → Nat → (Int32 → Mem → Prop) → Prop) (g : Gh) (M0 : Mem) (a0 : Nat) (post : Int32 → Mem → Prop) : Prop :=
  okc (gB g) M0 a0 12 ∧ (wp_X12_isPart g M0 a0 (fun v33 M34 => ((v33 = 0) → wp_X12_none g M34 a0 1 (fun v82 M83 => post v82 M83)) ∧ (¬ (v33 = 0) → (((mI M34 a0 6) = 2) → wp_X12_node g M34 a0 2 (mJ M34 a0 8) (mJ M34 a0 8) (fun v78 M79 => wp_X12_go g M79 a0 1 (fun M81 => post v78 M81))) ∧ (¬ ((mI M34 a0 6) = 2) → (((mI M34 a0 6) = 3) → wp_X12_node g M34 a0 3 (mJ M34 a0 8) (mJ M34 a0 8) (fun v45 M46 => wp_X12_go g M46 a0 1 (fun M48 => wp_X12_isSign g M48 a0 46 (fun v49 M50 => ((v49 = 0) → post v45 M50) ∧ (¬ (v49 = 0) → wp_X12_go g M50 a0 1 (fun M53 => (((mI M53 a0 6) = 3) → ∃ q55, mR M53 a0 14 = some q55 ∧ (okc (gB g) M0 q55 15 ∧ (vp_in v45 (mN M0 q55) ∧ (((0 ≤ (lg_cmp (mJ M53 a0 8) (mJ M53 q55 (Int32.toNatClampNeg v45)))) → ∃ q60, mR M53 a0 11 = some q60 ∧ (okc (gB g) M0 q60 14 ∧ (vp_in v45 (mN M0 q60) ∧ (∀ M64, M64 = uI M53 q60 (Int32.toNatClampNeg v45) 4 → (∃ q66, mR M64 a0 15 = some q66 ∧ (okc (gB g) M0 q66 15 ∧ (vp_in v45 (mN M0 q66) ∧ (∀ M70, M70 = uJ M64 q66 (Int32.toNatClampNeg v45) (mJ M64 a0 8) → (wp_X12_go g M70 a0 1 (fun M73 => post v45 M73)))))))))) ∧ (¬ (0 ≤ (lg_cmp (mJ M53 a0 8) (mJ M53 q55 (Int32.toNatClampNeg v45)))) → wp_X12_none g M53 a0 2 (fun v74 M75 => post v74 M75)))))) ∧ (¬ ((mI M53 a0 6) = 3) → wp_X12_none g M53 a0 1 (fun v76 M77 => post v76 M77)))))))) ∧ (¬ ((mI M34 a0 6) = 3) → (((mI M34 a0 18) = 6) → wp_X12_none g M34 a0 3 (fun v43 M44 => post v43 M44)) ∧ (¬ ((mI M34 a0 18) = 6) → ∀ M39, M39 = uI M34 a0 18 ((mI M34 a0 18) + 1) → ((((mI M39 a0 7) = 91) → lb_X12_readPart_197 w_X12_readForm g M0 a0 post  (mI M39 a0 7) a0 5 M39) ∧ (¬ ((mI M39 a0 7) = 91) → (((mI M39 a0 7) = 40) → lb_X12_readPart_197 w_X12_readForm g M0 a0 post  (mI M39 a0 7) a0 6 M39) ∧ (¬ ((mI M39 a0 7) = 40) → lb_X12_readPart_197 w_X12_readForm g M0 a0 post  (mI M39 a0 7) a0 7 M39)))))))))
set_option maxHeartbeats 4000000 in
set_option maxRecDepth 100000 in
theorem lt_X12_readPart_326 {l : Launch} {g : Gh} {p : Program} {e : Env} {s : State} {m : MethodId} {args : Array Value} {below : List Frame} {meth : Method} {c : Code} {H : Heap} {locs : List Loc} {ls : Array Slot} {M0 M : Mem} {a0 : Nat} {post : Int32 → Mem → Prop} {x2 : Int32} {s0 : Nat} {s1 : Int32} {d : Nat} {w_X12_readForm : Gh → Mem → Nat → (Int32 → Mem → Prop) → Prop} {d_X12_readForm : Nat} (hd_X12_readForm : d_X12_readForm ≤ d) (hr_X12_readForm : ∀ {l : Launch} {g : Gh} {M0 : Mem} {a0 : Nat} {post : Int32 → Mem → Prop}, w_X12_readForm g M0 a0 post → okc (gB g) M0 a0 12 ∧ Ct l g yX12_readForm cX12_readForm 5 (some .int) d_X12_readForm 0 0 [.ref a0] M0 (pI post)) (C : Cx g p s m args c cX12_readPart 7 RX12) (hr : meth.sig.returnType = (some .int)) (hlk : meth.locks = false) (hn : meth.name = "readPart") (h0 : okc (gB g) M0 a0 12)  (hq : lb_X12_readPart_326 w_X12_readForm g M0 a0 post  x2 s0 s1 M) (hw : Wd g s M0 M H locs) (hl : lv_has ls 7 [(0, .ref a0), (2, .int x2)]) : W p l e (rmo (d + 8) 0 0) s m args below meth c H locs 0 0 (MQ below (Cq g M0 (pI post)) args s 0 0 (gA g)) (F0 m 326 ls [.int s1, .ref s0]) := by
  have hx := C.1.1
  have hb := C.1.2.1
  unfold lb_X12_readPart_326 at hq
  refine r_callV (T := TX12) (N := 67) (ci := 12) (index := 187) (n := 1) (d2 := 0) (mc := 0) (ms := 0) (As := [.int s1]) (rest := []) C hw (ct_X12_isSign hq) kvX12_187 hq.1 (by decide) rfl ⟨by simp only [rmo]; omega, by simp only [rmo]; omega⟩ ⟨Nat.le_refl _, Nat.le_refl _⟩ rfl hl.1 rfl (Nat.le_of_ble_eq_true rfl) dX12_readPart_326 (fun r M2 H locs hp hle hw => ?_)
  obtain ⟨v1, rfl, hq⟩ := hp
  refine W.eq (g2 := F0 m 329 ls [.int v1]) rfl ?_
  refine lv_if_ne (tgt := 338) hx hb dX12_readPart_329 (by decide) (fun c3 => ?_) (fun c3 => ?_)
  · replace hq := hq.2 c3
    refine lv_aload_n hx hb dX12_readPart_338 rfl (lv_at hl 0 rfl) ?_
    refine lv_dup hx hb dX12_readPart_339 rfl ?_
    refine gfX12_219 C hw hw.2.2.1 h0 dX12_readPart_340 ?_
    refine lv_iconst (v := 1) hx hb dX12_readPart_343 (by decide) ?_
    refine lv_isub hx hb dX12_readPart_344 ?_
    refine pfX12_219 C hw hw.2.2.1 h0 dX12_readPart_345 (fun H locs hw => ?_)
    generalize e5 : uI M2 a0 18 ((mI M2 a0 18) - 1) = M4 at hw
    replace hq := hq M4 e5.symm
    refine lv_aload_n hx hb dX12_readPart_348 rfl (lv_at hl 0 rfl) ?_
    refine lv_iconst (v := 1) hx hb dX12_readPart_349 (by decide) ?_
    refine r_callV (T := TX12) (N := 67) (ci := 12) (index := 202) (n := 1) (d2 := 2) (mc := 0) (ms := 0) (As := [.int 1]) (rest := []) C hw (ct_X12_go hq) kvX12_202 hq.1 (by decide) rfl ⟨by simp only [rmo]; omega, by simp only [rmo]; omega⟩ ⟨Nat.le_refl _, Nat.le_refl _⟩ rfl hl.1 rfl (Nat.le_of_ble_eq_true rfl) dX12_readPart_350 (fun r M7 H locs hp hle hw => ?_)
    obtain ⟨rfl, hq⟩ := hp
    refine W.eq (g2 := F0 m 353 ls []) rfl ?_
    refine lv_iload_n hx hb dX12_readPart_353 rfl (lv_at hl 1 rfl) ?_
    exact r_iret C hr hlk hw dX12_readPart_354 (Nat.le_refl _) (Nat.le_refl _) ⟨_, rfl, hq⟩
  · replace hq := hq.1 c3
    refine lv_aload_n hx hb dX12_readPart_332 rfl (lv_at hl 0 rfl) ?_
    refine lv_iconst (v := 1) hx hb dX12_readPart_333 (by decide) ?_
    refine r_callV (T := TX12) (N := 67) (ci := 12) (index := 216) (n := 1) (d2 := 1) (mc := 0) (ms := 0) (As := [.int 1]) (rest := []) C hw (ct_X12_none hq) kvX12_216 hq.1 (by decide) rfl ⟨by simp only [rmo]; omega, by simp only [rmo]; omega⟩ ⟨Nat.le_refl _, Nat.le_refl _⟩ rfl hl.1 rfl (Nat.le_of_ble_eq_true rfl) dX12_readPart_334 (fun r M9 H locs hp hle hw => ?_)
    obtain ⟨v8, rfl, hq⟩ := hp
    refine W.eq (g2 := F0 m 337 ls [.int v8]) rfl ?_
    exact r_iret C hr hlk hw dX12_readPart_337 (Nat.le_refl _) (Nat.le_refl _) ⟨_, rfl, hq⟩
set_option maxHeartbeats 4000000 in
set_option maxRecDepth 100000 in
theorem lt_X12_readPart_301 {l : Launch} {g : Gh} {p : Program} {e : Env} {s : State} {m : MethodId} {args : Array Value} {below : List Frame} {meth : Method} {c : Code} {H : Heap} {locs : List Loc} {ls : Array Slot} {M0 M : Mem} {a0 : Nat} {post : Int32 → Mem → Prop} {x1 : Int32} {x2 : Int32}  {d : Nat} {w_X12_readForm : Gh → Mem → Nat → (Int32 → Mem → Prop) → Prop} {d_X12_readForm : Nat} (hd_X12_readForm : d_X12_readForm ≤ d) (hr_X12_readForm : ∀ {l : Launch} {g : Gh} {M0 : Mem} {a0 : Nat} {post : Int32 → Mem → Prop}, w_X12_readForm g M0 a0 post → okc (gB g) M0 a0 12 ∧ Ct l g yX12_readForm cX12_readForm 5 (some .int) d_X12_readForm 0 0 [.ref a0] M0 (pI post)) (C : Cx g p s m args c cX12_readPart 7 RX12) (hr : meth.sig.returnType = (some .int)) (hlk : meth.locks = false) (hn : meth.name = "readPart") (h0 : okc (gB g) M0 a0 12)  (hq : lb_X12_readPart_301 w_X12_readForm g M0 a0 post  x1 x2 M) (hw : Wd g s M0 M H locs) (hl : lv_has ls 7 [(0, .ref a0), (1, .int x1), (2, .int x2)]) : W p l e (rmo (d + 8) 0 0) s m args below meth c H locs 0 0 (MQ below (Cq g M0 (pI post)) args s 0 0 (gA g)) (F0 m 301 ls []) := by
  have hx := C.1.1
  have hb := C.1.2.1
  unfold lb_X12_readPart_301 at hq
  refine lv_aload_n hx hb dX12_readPart_301 rfl (lv_at hl 0 rfl) ?_
  refine lv_iload_n hx hb dX12_readPart_302 rfl (lv_at hl 1 rfl) ?_
  refine lv_bipush (v := 91) hx hb dX12_readPart_303 (by decide) ?_
  refine lv_icmp_ne (tgt := 313) hx hb dX12_readPart_305 (by decide) (fun c10 => ?_) (fun c10 => ?_)
  · replace hq := hq.2 c10
    refine lv_iload_n hx hb dX12_readPart_313 rfl (lv_at hl 1 rfl) ?_
    refine lv_bipush (v := 40) hx hb dX12_readPart_314 (by decide) ?_
    refine lv_icmp_ne (tgt := 324) hx hb dX12_readPart_316 (by decide) (fun c11 => ?_) (fun c11 => ?_)
    · replace hq := hq.2 c11
      refine lv_bipush (v := 125) hx hb dX12_readPart_324 (by decide) ?_
      exact lt_X12_readPart_326 hd_X12_readForm hr_X12_readForm C hr hlk hn h0  hq hw (lv_sub hl [0, 2] rfl)
    · replace hq := hq.1 c11
      refine lv_bipush (v := 41) hx hb dX12_readPart_319 (by decide) ?_
      refine lv_goto (tgt := 326) hx hb dX12_readPart_321 (by decide) ?_
      exact lt_X12_readPart_326 hd_X12_readForm hr_X12_readForm C hr hlk hn h0  hq hw (lv_sub hl [0, 2] rfl)
  · replace hq := hq.1 c10
    refine lv_bipush (v := 93) hx hb dX12_readPart_308 (by decide) ?_
    refine lv_goto (tgt := 326) hx hb dX12_readPart_310 (by decide) ?_
    exact lt_X12_readPart_326 hd_X12_readForm hr_X12_readForm C hr hlk hn h0  hq hw (lv_sub hl [0, 2] rfl)
set_option maxHeartbeats 4000000 in
set_option maxRecDepth 100000 in
theorem lt_X12_readPart_288 {l : Launch} {g : Gh} {p : Program} {e : Env} {s : State} {m : MethodId} {args : Array Value} {below : List Frame} {meth : Method} {c : Code} {H : Heap} {locs : List Loc} {ls : Array Slot} {M0 M : Mem} {a0 : Nat} {post : Int32 → Mem → Prop} {x1 : Int32} {x2 : Int32} {x3 : Int32} {x4 : Int32} {x5 : Int32}  {d : Nat} {w_X12_readForm : Gh → Mem → Nat → (Int32 → Mem → Prop) → Prop} {d_X12_readForm : Nat} (hd_X12_readForm : d_X12_readForm ≤ d) (hr_X12_readForm : ∀ {l : Launch} {g : Gh} {M0 : Mem} {a0 : Nat} {post : Int32 → Mem → Prop}, w_X12_readForm g M0 a0 post → okc (gB g) M0 a0 12 ∧ Ct l g yX12_readForm cX12_readForm 5 (some .int) d_X12_readForm 0 0 [.ref a0] M0 (pI post)) (C : Cx g p s m args c cX12_readPart 7 RX12) (hr : meth.sig.returnType = (some .int)) (hlk : meth.locks = false) (hn : meth.name = "readPart") (h0 : okc (gB g) M0 a0 12) {bk216 : Int32 × Int32 × Int32 × Int32 × Int32 × Mem → Prop} (hk216 : ∀ (x1 : Int32) (x2 : Int32) (x3 : Int32) (x4 : Int32) (x5 : Int32) (M : Mem) (H : Heap) (locs : List Loc) (ls : Array Slot), bk216 (x1, x2, x3, x4, x5, M) → Wd g s M0 M H locs → lv_has ls 7 [(0, .ref a0), (1, .int x1), (2, .int x2), (3, .int x3), (4, .int x4), (5, .int x5)] → W p l e (rmo (d + 8) 0 0) s m args below meth c H locs 0 0 (MQ below (Cq g M0 (pI post)) args s 0 0 (gA g)) (F0 m 216 ls [])) (hq : lb_X12_readPart_288 w_X12_readForm g M0 a0 post bk216 x1 x2 x3 x4 x5 M) (hw : Wd g s M0 M H locs) (hl : lv_has ls 7 [(0, .ref a0), (1, .int x1), (2, .int x2), (3, .int x3), (4, .int x4), (5, .int x5)]) : W p l e (rmo (d + 8) 0 0) s m args below meth c H locs 0 0 (MQ below (Cq g M0 (pI post)) args s 0 0 (gA g)) (F0 m 288 ls []) := by
  have hx := C.1.1
  have hb := C.1.2.1
  unfold lb_X12_readPart_288 at hq
  refine lv_iload hx hb dX12_readPart_288 (lv_at hl 5 rfl) ?_
  refine lv_if_eq (tgt := 298) hx hb dX12_readPart_290 (by decide) (fun c12 => ?_) (fun c12 => ?_)
  · replace hq := hq.1 c12
    refine lv_goto (tgt := 216) hx hb dX12_readPart_298 (by decide) ?_
    exact hk216 _ _ _ _ _ _ _ _ _ hq hw (lv_sub hl [0, 1, 2, 3, 4, 5] rfl)
  · replace hq := hq.2 c12
    refine lv_aload_n hx hb dX12_readPart_293 rfl (lv_at hl 0 rfl) ?_
    refine lv_iconst (v := 1) hx hb dX12_readPart_294 (by decide) ?_
    refine r_callV (T := TX12) (N := 67) (ci := 12) (index := 202) (n := 1) (d2 := 2) (mc := 0) (ms := 0) (As := [.int 1]) (rest := []) C hw (ct_X12_go hq) kvX12_202 hq.1 (by decide) rfl ⟨by simp only [rmo]; omega, by simp only [rmo]; omega⟩ ⟨Nat.le_refl _, Nat.le_refl _⟩ rfl hl.1 rfl (Nat.le_of_ble_eq_true rfl) dX12_readPart_295 (fun r M14 H locs hp hle hw => ?_)
    obtain ⟨rfl, hq⟩ := hp
    refine W.eq (g2 := F0 m 298 ls []) rfl ?_
    refine lv_goto (tgt := 216) hx hb dX12_readPart_298 (by decide) ?_
    exact hk216 _ _ _ _ _ _ _ _ _ hq hw (lv_sub hl [0, 1, 2, 3, 4, 5] rfl)
set_option maxHeartbeats 4000000 in
set_option maxRecDepth 100000 in
theorem lt_X12_readPart_282 {l : Launch} {g : Gh} {p : Program} {e : Env} {s : State} {m : MethodId} {args : Array Value} {below : List Frame} {meth : Method} {c : Code} {H : Heap} {locs : List Loc} {ls : Array Slot} {M0 M : Mem} {a0 : Nat} {post : Int32 → Mem → Prop}   {d : Nat} {w_X12_readForm : Gh → Mem → Nat → (Int32 → Mem → Prop) → Prop} {d_X12_readForm : Nat} (hd_X12_readForm : d_X12_readForm ≤ d) (hr_X12_readForm : ∀ {l : Launch} {g : Gh} {M0 : Mem} {a0 : Nat} {post : Int32 → Mem → Prop}, w_X12_readForm g M0 a0 post → okc (gB g) M0 a0 12 ∧ Ct l g yX12_readForm cX12_readForm 5 (some .int) d_X12_readForm 0 0 [.ref a0] M0 (pI post)) (C : Cx g p s m args c cX12_readPart 7 RX12) (hr : meth.sig.returnType = (some .int)) (hlk : meth.locks = false) (hn : meth.name = "readPart") (h0 : okc (gB g) M0 a0 12)  (hq : lb_X12_readPart_282 w_X12_readForm g M0 a0 post   M) (hw : Wd g s M0 M H locs) (hl : lv_has ls 7 [(0, .ref a0)]) : W p l e (rmo (d + 8) 0 0) s m args below meth c H locs 0 0 (MQ below (Cq g M0 (pI post)) args s 0 0 (gA g)) (F0 m 282 ls []) := by
  have hx := C.1.1
  have hb := C.1.2.1
  unfold lb_X12_readPart_282 at hq
  refine lv_aload_n hx hb dX12_readPart_282 rfl (lv_at hl 0 rfl) ?_
  refine lv_iconst (v := 3) hx hb dX12_readPart_283 (by decide) ?_
  refine r_callV (T := TX12) (N := 67) (ci := 12) (index := 216) (n := 1) (d2 := 1) (mc := 0) (ms := 0) (As := [.int 3]) (rest := []) C hw (ct_X12_none hq) kvX12_216 hq.1 (by decide) rfl ⟨by simp only [rmo]; omega, by simp only [rmo]; omega⟩ ⟨Nat.le_refl _, Nat.le_refl _⟩ rfl hl.1 rfl (Nat.le_of_ble_eq_true rfl) dX12_readPart_284 (fun r M16 H locs hp hle hw => ?_)
  obtain ⟨v15, rfl, hq⟩ := hp
  refine W.eq (g2 := F0 m 287 ls [.int v15]) rfl ?_
  exact r_iret C hr hlk hw dX12_readPart_287 (Nat.le_refl _) (Nat.le_refl _) ⟨_, rfl, hq⟩
set_option maxHeartbeats 4000000 in
set_option maxRecDepth 100000 in
theorem lt_X12_readPart_269 {l : Launch} {g : Gh} {p : Program} {e : Env} {s : State} {m : MethodId} {args : Array Value} {below : List Frame} {meth : Method} {c : Code} {H : Heap} {locs : List Loc} {ls : Array Slot} {M0 M : Mem} {a0 : Nat} {post : Int32 → Mem → Prop} {x1 : Int32} {x2 : Int32} {x3 : Int32} {x4 : Int32} {s0 : Int32} {d : Nat} {w_X12_readForm : Gh → Mem → Nat → (Int32 → Mem → Prop) → Prop} {d_X12_readForm : Nat} (hd_X12_readForm : d_X12_readForm ≤ d) (hr_X12_readForm : ∀ {l : Launch} {g : Gh} {M0 : Mem} {a0 : Nat} {post : Int32 → Mem → Prop}, w_X12_readForm g M0 a0 post → okc (gB g) M0 a0 12 ∧ Ct l g yX12_readForm cX12_readForm 5 (some .int) d_X12_readForm 0 0 [.ref a0] M0 (pI post)) (C : Cx g p s m args c cX12_readPart 7 RX12) (hr : meth.sig.returnType = (some .int)) (hlk : meth.locks = false) (hn : meth.name = "readPart") (h0 : okc (gB g) M0 a0 12) {bk216 : Int32 × Int32 × Int32 × Int32 × Int32 × Mem → Prop} (hk216 : ∀ (x1 : Int32) (x2 : Int32) (x3 : Int32) (x4 : Int32) (x5 : Int32) (M : Mem) (H : Heap) (locs : List Loc) (ls : Array Slot), bk216 (x1, x2, x3, x4, x5, M) → Wd g s M0 M H locs → lv_has ls 7 [(0, .ref a0), (1, .int x1), (2, .int x2), (3, .int x3), (4, .int x4), (5, .int x5)] → W p l e (rmo (d + 8) 0 0) s m args below meth c H locs 0 0 (MQ below (Cq g M0 (pI post)) args s 0 0 (gA g)) (F0 m 216 ls [])) (hq : lb_X12_readPart_269 w_X12_readForm g M0 a0 post bk216 x1 x2 x3 x4 s0 M) (hw : Wd g s M0 M H locs) (hl : lv_has ls 7 [(0, .ref a0), (1, .int x1), (2, .int x2), (3, .int x3), (4, .int x4)]) : W p l e (rmo (d + 8) 0 0) s m args below meth c H locs 0 0 (MQ below (Cq g M0 (pI post)) args s 0 0 (gA g)) (F0 m 269 ls [.int s0]) := by
  have hx := C.1.1
  have hb := C.1.2.1
  unfold lb_X12_readPart_269 at hq
  refine lv_istore (lv' := [(5, .int s0), (0, .ref a0), (1, .int x1), (2, .int x2), (3, .int x3), (4, .int x4)]) hx hb dX12_readPart_269 hl (by decide) rfl (fun ls hl => ?_)
  refine lv_iload hx hb dX12_readPart_271 (lv_at hl 0 rfl) ?_
  refine lv_if_eq (tgt := 288) hx hb dX12_readPart_273 (by decide) (fun c17 => ?_) (fun c17 => ?_)
  · replace hq := hq.1 c17
    exact lt_X12_readPart_288 hd_X12_readForm hr_X12_readForm C hr hlk hn h0 hk216 hq hw (lv_sub hl [1, 2, 3, 4, 5, 0] rfl)
  · replace hq := hq.2 c17
    refine lv_iload hx hb dX12_readPart_276 (lv_at hl 5 rfl) ?_
    refine lv_iconst (v := 5) hx hb dX12_readPart_278 (by decide) ?_
    refine lv_icmp_ne (tgt := 288) hx hb dX12_readPart_279 (by decide) (fun c18 => ?_) (fun c18 => ?_)
    · replace hq := hq.2 c18
      exact lt_X12_readPart_288 hd_X12_readForm hr_X12_readForm C hr hlk hn h0 hk216 hq hw (lv_sub hl [1, 2, 3, 4, 5, 0] rfl)
    · replace hq := hq.1 c18
      exact lt_X12_readPart_282 hd_X12_readForm hr_X12_readForm C hr hlk hn h0  hq hw (lv_sub hl [1] rfl)
set_option maxHeartbeats 4000000 in
set_option maxRecDepth 100000 in
theorem lp_X12_readPart_216 {l : Launch} {g : Gh} {p : Program} {e : Env} {s : State} {m : MethodId} {args : Array Value} {below : List Frame} {meth : Method} {c : Code} {M0 : Mem} {a0 : Nat} {post : Int32 → Mem → Prop} {d : Nat} {w_X12_readForm : Gh → Mem → Nat → (Int32 → Mem → Prop) → Prop} {d_X12_readForm : Nat} (hd_X12_readForm : d_X12_readForm ≤ d) (hr_X12_readForm : ∀ {l : Launch} {g : Gh} {M0 : Mem} {a0 : Nat} {post : Int32 → Mem → Prop}, w_X12_readForm g M0 a0 post → okc (gB g) M0 a0 12 ∧ Ct l g yX12_readForm cX12_readForm 5 (some .int) d_X12_readForm 0 0 [.ref a0] M0 (pI post)) (C : Cx g p s m args c cX12_readPart 7 RX12) (hr : meth.sig.returnType = (some .int)) (hlk : meth.locks = false) (hn : meth.name = "readPart") (h0 : okc (gB g) M0 a0 12)  : ∀ (nf : Nat) (x1 : Int32) (x2 : Int32) (x3 : Int32) (x4 : Int32) (x5 : Int32)  (M : Mem) (H : Heap) (locs : List Loc) (ls : Array Slot), lfp (fun bk z => bd_X12_readPart_216 w_X12_readForm g M0 a0 post  bk z.1 z.2.1 z.2.2.1 z.2.2.2.1 z.2.2.2.2.1 z.2.2.2.2.2) nf (x1, x2, x3, x4, x5, M) → Wd g s M0 M H locs → lv_has ls 7 [(0, .ref a0), (1, .int x1), (2, .int x2), (3, .int x3), (4, .int x4), (5, .int x5)] → W p l e (rmo (d + 8) 0 0) s m args below meth c H locs 0 0 (MQ below (Cq g M0 (pI post)) args s 0 0 (gA g)) (F0 m 216 ls []) := by
  have hx := C.1.1
  have hb := C.1.2.1
  intro nf
  induction nf with
  | zero => intro _ _ _ _ _ _ H locs ls hq; exact hq.elim
  | succ nf hk216 =>
    intro x1 x2 x3 x4 x5 M H locs ls hq hw hl
    replace hq : bd_X12_readPart_216 w_X12_readForm g M0 a0 post  (lfp (fun bk z => bd_X12_readPart_216 w_X12_readForm g M0 a0 post  bk z.1 z.2.1 z.2.2.1 z.2.2.2.1 z.2.2.2.2.1 z.2.2.2.2.2) nf) x1 x2 x3 x4 x5 M := hq
    unfold bd_X12_readPart_216 at hq
    refine lv_iload hx hb dX12_readPart_216 (lv_at hl 5 rfl) ?_
    refine lv_if_eq (tgt := 301) hx hb dX12_readPart_218 (by decide) (fun c19 => ?_) (fun c19 => ?_)
    · replace hq := hq.1 c19
      exact lt_X12_readPart_301 hd_X12_readForm hr_X12_readForm C hr hlk hn h0  hq hw (lv_sub hl [0, 1, 2] rfl)
    · replace hq := hq.2 c19
      refine lv_aload_n hx hb dX12_readPart_221 rfl (lv_at hl 0 rfl) ?_
      refine r_callV (T := TX12) (N := 67) (ci := 12) (index := 222) (n := 0) (d2 := d_X12_readForm) (mc := 0) (ms := 0) (As := []) (rest := []) C hw (hr_X12_readForm hq).2 kvX12_222 (hr_X12_readForm (l := l) hq).1 (by decide) rfl ⟨by simp only [rmo]; omega, by simp only [rmo]; omega⟩ ⟨Nat.le_refl _, Nat.le_refl _⟩ rfl hl.1 rfl (Nat.le_of_ble_eq_true rfl) dX12_readPart_222 (fun r M21 H locs hp hle hw => ?_)
      obtain ⟨v20, rfl, hq⟩ := hp
      refine W.eq (g2 := F0 m 225 ls [.int v20]) rfl ?_
      refine lv_istore (lv' := [(6, .int v20), (0, .ref a0), (1, .int x1), (2, .int x2), (3, .int x3), (4, .int x4), (5, .int x5)]) hx hb dX12_readPart_225 hl (by decide) rfl (fun ls hl => ?_)
      refine lv_iload hx hb dX12_readPart_227 (lv_at hl 0 rfl) ?_
      refine lv_iconst (v := (-1)) hx hb dX12_readPart_229 (by decide) ?_
      refine lv_icmp_ne (tgt := 235) hx hb dX12_readPart_230 (by decide) (fun c22 => ?_) (fun c22 => ?_)
      · replace hq := hq.2 c22
        refine lv_aload_n hx hb dX12_readPart_235 rfl (lv_at hl 1 rfl) ?_
        refine lv_iload_n hx hb dX12_readPart_236 rfl (lv_at hl 3 rfl) ?_
        refine lv_iload_n hx hb dX12_readPart_237 rfl (lv_at hl 4 rfl) ?_
        refine lv_iload hx hb dX12_readPart_238 (lv_at hl 0 rfl) ?_
        refine r_callV (T := TX12) (N := 67) (ci := 12) (index := 198) (n := 3) (d2 := 0) (mc := 0) (ms := 0) (As := [.int x2, .int x3, .int v20]) (rest := []) C hw (ct_X12_hang hq) kvX12_198 hq.1 (by decide) rfl ⟨by simp only [rmo]; omega, by simp only [rmo]; omega⟩ ⟨Nat.le_refl _, Nat.le_refl _⟩ rfl hl.1 rfl (Nat.le_of_ble_eq_true rfl) dX12_readPart_240 (fun r M24 H locs hp hle hw => ?_)
        obtain ⟨rfl, hq⟩ := hp
        refine W.eq (g2 := F0 m 243 ls []) rfl ?_
        refine lv_iload hx hb dX12_readPart_243 (lv_at hl 0 rfl) ?_
        refine lv_istore_n (lv' := [(3, .int v20), (6, .int v20), (0, .ref a0), (1, .int x1), (2, .int x2), (4, .int x4), (5, .int x5)]) hx hb dX12_readPart_245 rfl hl (by decide) rfl (fun ls hl => ?_)
        refine lv_iinc (v := (x4 + 1)) (lv' := [(4, .int (x4 + 1)), (3, .int v20), (6, .int v20), (0, .ref a0), (1, .int x1), (2, .int x2), (5, .int x5)]) hx hb dX12_readPart_246 hl (k := 5) rfl rfl (by decide) rfl (fun ls hl => ?_)
        refine lv_iload_n hx hb dX12_readPart_249 rfl (lv_at hl 4 rfl) ?_
        refine lv_bipush (v := 123) hx hb dX12_readPart_250 (by decide) ?_
        refine lv_icmp_ne (tgt := 268) hx hb dX12_readPart_252 (by decide) (fun c25 => ?_) (fun c25 => ?_)
        · replace hq := hq.2 c25
          refine lv_iconst (v := 0) hx hb dX12_readPart_268 (by decide) ?_
          exact lt_X12_readPart_269 hd_X12_readForm hr_X12_readForm C hr hlk hn h0 hk216 hq hw (lv_sub hl [3, 4, 5, 1, 0] rfl)
        · replace hq := hq.1 c25
          refine lv_aload_n hx hb dX12_readPart_255 rfl (lv_at hl 3 rfl) ?_
          refine lv_bipush (v := 44) hx hb dX12_readPart_256 (by decide) ?_
          refine r_callV (T := TX12) (N := 67) (ci := 12) (index := 187) (n := 1) (d2 := 0) (mc := 0) (ms := 0) (As := [.int 44]) (rest := []) C hw (ct_X12_isSign hq) kvX12_187 hq.1 (by decide) rfl ⟨by simp only [rmo]; omega, by simp only [rmo]; omega⟩ ⟨Nat.le_refl _, Nat.le_refl _⟩ rfl hl.1 rfl (Nat.le_of_ble_eq_true rfl) dX12_readPart_258 (fun r M27 H locs hp hle hw => ?_)
          obtain ⟨v26, rfl, hq⟩ := hp
          refine W.eq (g2 := F0 m 261 ls [.int v26]) rfl ?_
          refine lv_if_eq (tgt := 268) hx hb dX12_readPart_261 (by decide) (fun c28 => ?_) (fun c28 => ?_)
          · replace hq := hq.1 c28
            refine lv_iconst (v := 0) hx hb dX12_readPart_268 (by decide) ?_
            exact lt_X12_readPart_269 hd_X12_readForm hr_X12_readForm C hr hlk hn h0 hk216 hq hw (lv_sub hl [3, 4, 5, 1, 0] rfl)
          · replace hq := hq.2 c28
            refine lv_iconst (v := 1) hx hb dX12_readPart_264 (by decide) ?_
            refine lv_goto (tgt := 269) hx hb dX12_readPart_265 (by decide) ?_
            exact lt_X12_readPart_269 hd_X12_readForm hr_X12_readForm C hr hlk hn h0 hk216 hq hw (lv_sub hl [3, 4, 5, 1, 0] rfl)
      · replace hq := hq.1 c22
        refine lv_iconst (v := (-1)) hx hb dX12_readPart_233 (by decide) ?_
        exact r_iret C hr hlk hw dX12_readPart_234 (Nat.le_refl _) (Nat.le_refl _) ⟨_, rfl, hq⟩
set_option maxHeartbeats 4000000 in
set_option maxRecDepth 100000 in
theorem lt_X12_readPart_197 {l : Launch} {g : Gh} {p : Program} {e : Env} {s : State} {m : MethodId} {args : Array Value} {below : List Frame} {meth : Method} {c : Code} {H : Heap} {locs : List Loc} {ls : Array Slot} {M0 M : Mem} {a0 : Nat} {post : Int32 → Mem → Prop} {x1 : Int32} {s0 : Nat} {s1 : Int32} {d : Nat} {w_X12_readForm : Gh → Mem → Nat → (Int32 → Mem → Prop) → Prop} {d_X12_readForm : Nat} (hd_X12_readForm : d_X12_readForm ≤ d) (hr_X12_readForm : ∀ {l : Launch} {g : Gh} {M0 : Mem} {a0 : Nat} {post : Int32 → Mem → Prop}, w_X12_readForm g M0 a0 post → okc (gB g) M0 a0 12 ∧ Ct l g yX12_readForm cX12_readForm 5 (some .int) d_X12_readForm 0 0 [.ref a0] M0 (pI post)) (C : Cx g p s m args c cX12_readPart 7 RX12) (hr : meth.sig.returnType = (some .int)) (hlk : meth.locks = false) (hn : meth.name = "readPart") (h0 : okc (gB g) M0 a0 12)  (hq : lb_X12_readPart_197 w_X12_readForm g M0 a0 post  x1 s0 s1 M) (hw : Wd g s M0 M H locs) (hl : lv_has ls 7 [(0, .ref a0), (1, .int x1)]) : W p l e (rmo (d + 8) 0 0) s m args below meth c H locs 0 0 (MQ below (Cq g M0 (pI post)) args s 0 0 (gA g)) (F0 m 197 ls [.int s1, .ref s0]) := by
  have hx := C.1.1
  have hb := C.1.2.1
  unfold lb_X12_readPart_197 at hq
  refine lv_lconst (v := 0) hx hb dX12_readPart_197 (by decide) ?_
  refine lv_lconst (v := 0) hx hb dX12_readPart_198 (by decide) ?_
  refine r_callV (T := TX12) (N := 67) (ci := 12) (index := 190) (n := 3) (d2 := 0) (mc := 0) (ms := 0) (As := [.int s1, .long 0, .long 0]) (rest := []) C hw (ct_X12_node hq) kvX12_190 hq.1 (by decide) rfl ⟨by simp only [rmo]; omega, by simp only [rmo]; omega⟩ ⟨Nat.le_refl _, Nat.le_refl _⟩ rfl hl.1 rfl (Nat.le_of_ble_eq_true rfl) dX12_readPart_199 (fun r M30 H locs hp hle hw => ?_)
  obtain ⟨v29, rfl, hq⟩ := hp
  refine W.eq (g2 := F0 m 202 ls [.int v29]) rfl ?_
  refine lv_istore_n (lv' := [(2, .int v29), (0, .ref a0), (1, .int x1)]) hx hb dX12_readPart_202 rfl hl (by decide) rfl (fun ls hl => ?_)
  refine lv_aload_n hx hb dX12_readPart_203 rfl (lv_at hl 1 rfl) ?_
  refine lv_iconst (v := 1) hx hb dX12_readPart_204 (by decide) ?_
  refine r_callV (T := TX12) (N := 67) (ci := 12) (index := 202) (n := 1) (d2 := 2) (mc := 0) (ms := 0) (As := [.int 1]) (rest := []) C hw (ct_X12_go hq) kvX12_202 hq.1 (by decide) rfl ⟨by simp only [rmo]; omega, by simp only [rmo]; omega⟩ ⟨Nat.le_refl _, Nat.le_refl _⟩ rfl hl.1 rfl (Nat.le_of_ble_eq_true rfl) dX12_readPart_205 (fun r M32 H locs hp hle hw => ?_)
  obtain ⟨rfl, hq⟩ := hp
  refine W.eq (g2 := F0 m 208 ls []) rfl ?_
  refine lv_iconst (v := (-1)) hx hb dX12_readPart_208 (by decide) ?_
  refine lv_istore_n (lv' := [(3, .int (-1)), (2, .int v29), (0, .ref a0), (1, .int x1)]) hx hb dX12_readPart_209 rfl hl (by decide) rfl (fun ls hl => ?_)
  refine lv_iconst (v := 0) hx hb dX12_readPart_210 (by decide) ?_
  refine lv_istore (lv' := [(4, .int 0), (3, .int (-1)), (2, .int v29), (0, .ref a0), (1, .int x1)]) hx hb dX12_readPart_211 hl (by decide) rfl (fun ls hl => ?_)
  refine lv_iconst (v := 1) hx hb dX12_readPart_213 (by decide) ?_
  refine lv_istore (lv' := [(5, .int 1), (4, .int 0), (3, .int (-1)), (2, .int v29), (0, .ref a0), (1, .int x1)]) hx hb dX12_readPart_214 hl (by decide) rfl (fun ls hl => ?_)
  obtain ⟨nf, hq⟩ := hq
  exact lp_X12_readPart_216 hd_X12_readForm hr_X12_readForm C hr hlk hn h0  nf _ _ _ _ _ _ _ _ _ hq hw (lv_sub hl [4, 5, 3, 2, 1, 0] rfl)
set_option maxHeartbeats 4000000 in
set_option maxRecDepth 100000 in
theorem ct_X12_readPart {l : Launch} {g : Gh} {M0 : Mem} {a0 : Nat} {post : Int32 → Mem → Prop} {d : Nat} {w_X12_readForm : Gh → Mem → Nat → (Int32 → Mem → Prop) → Prop} {d_X12_readForm : Nat} (hd_X12_readForm : d_X12_readForm ≤ d) (hr_X12_readForm : ∀ {l : Launch} {g : Gh} {M0 : Mem} {a0 : Nat} {post : Int32 → Mem → Prop}, w_X12_readForm g M0 a0 post → okc (gB g) M0 a0 12 ∧ Ct l g yX12_readForm cX12_readForm 5 (some .int) d_X12_readForm 0 0 [.ref a0] M0 (pI post)) (hq : wp_X12_readPart w_X12_readForm g M0 a0 post) : Ct l g yX12_readPart cX12_readPart 7 (some .int) (d + 8) 0 0 [.ref a0] M0 (pI post) := by
  unfold wp_X12_readPart at hq
  obtain ⟨h0, hq⟩ := hq
  refine Ct.of (by decide) (Nat.le_of_ble_eq_true rfl) ?_
  intro p e s m below meth c ls C hr hlk hn hl hw
  have hx := C.1.1
  have hb := C.1.2.1
  have hl : lv_has ls 7 [(0, .ref a0)] := hl
  refine lv_aload_n hx hb dX12_readPart_0 rfl (lv_at hl 0 rfl) ?_
  refine r_callV (T := TX12) (N := 67) (ci := 12) (index := 209) (n := 0) (d2 := 1) (mc := 0) (ms := 0) (As := []) (rest := []) C hw (ct_X12_isPart hq) kvX12_209 hq.1 (by decide) rfl ⟨by simp only [rmo]; omega, by simp only [rmo]; omega⟩ ⟨Nat.le_refl _, Nat.le_refl _⟩ rfl hl.1 rfl (Nat.le_of_ble_eq_true rfl) dX12_readPart_1 (fun r M34 H locs hp hle hw => ?_)
  obtain ⟨v33, rfl, hq⟩ := hp
  refine W.eq (g2 := F0 m 4 ls [.int v33]) rfl ?_
  refine lv_if_ne (tgt := 13) hx hb dX12_readPart_4 (by decide) (fun c35 => ?_) (fun c35 => ?_)
  · replace hq := hq.2 c35
    refine lv_aload_n hx hb dX12_readPart_13 rfl (lv_at hl 0 rfl) ?_
    refine gfX12_143 C hw hw.2.2.1 h0 dX12_readPart_14 ?_
    refine lv_iconst (v := 2) hx hb dX12_readPart_17 (by decide) ?_
    refine lv_icmp_ne (tgt := 42) hx hb dX12_readPart_18 (by decide) (fun c36 => ?_) (fun c36 => ?_)
    · replace hq := hq.2 c36
      refine lv_aload_n hx hb dX12_readPart_42 rfl (lv_at hl 0 rfl) ?_
      refine gfX12_143 C hw hw.2.2.1 h0 dX12_readPart_43 ?_
      refine lv_iconst (v := 3) hx hb dX12_readPart_46 (by decide) ?_
      refine lv_icmp_ne (tgt := 143) hx hb dX12_readPart_47 (by decide) (fun c37 => ?_) (fun c37 => ?_)
      · replace hq := hq.2 c37
        refine lv_aload_n hx hb dX12_readPart_143 rfl (lv_at hl 0 rfl) ?_
        refine gfX12_219 C hw hw.2.2.1 h0 dX12_readPart_144 ?_
        refine lv_bipush (v := 6) hx hb dX12_readPart_147 (by decide) ?_
        refine lv_icmp_ne (tgt := 158) hx hb dX12_readPart_149 (by decide) (fun c38 => ?_) (fun c38 => ?_)
        · replace hq := hq.2 c38
          refine lv_aload_n hx hb dX12_readPart_158 rfl (lv_at hl 0 rfl) ?_
          refine lv_dup hx hb dX12_readPart_159 rfl ?_
          refine gfX12_219 C hw hw.2.2.1 h0 dX12_readPart_160 ?_
          refine lv_iconst (v := 1) hx hb dX12_readPart_163 (by decide) ?_
          refine lv_iadd hx hb dX12_readPart_164 ?_
          refine pfX12_219 C hw hw.2.2.1 h0 dX12_readPart_165 (fun H locs hw => ?_)
          generalize e40 : uI M34 a0 18 ((mI M34 a0 18) + 1) = M39 at hw
          replace hq := hq M39 e40.symm
          refine lv_aload_n hx hb dX12_readPart_168 rfl (lv_at hl 0 rfl) ?_
          refine gfX12_156 C hw hw.2.2.1 h0 dX12_readPart_169 ?_
          refine lv_istore_n (lv' := [(1, .int (mI M39 a0 7)), (0, .ref a0)]) hx hb dX12_readPart_172 rfl hl (by decide) rfl (fun ls hl => ?_)
          refine lv_aload_n hx hb dX12_readPart_173 rfl (lv_at hl 1 rfl) ?_
          refine lv_iload_n hx hb dX12_readPart_174 rfl (lv_at hl 0 rfl) ?_
          refine lv_bipush (v := 91) hx hb dX12_readPart_175 (by decide) ?_
          refine lv_icmp_ne (tgt := 184) hx hb dX12_readPart_177 (by decide) (fun c41 => ?_) (fun c41 => ?_)
          · replace hq := hq.2 c41
            refine lv_iload_n hx hb dX12_readPart_184 rfl (lv_at hl 0 rfl) ?_
            refine lv_bipush (v := 40) hx hb dX12_readPart_185 (by decide) ?_
            refine lv_icmp_ne (tgt := 195) hx hb dX12_readPart_187 (by decide) (fun c42 => ?_) (fun c42 => ?_)
            · replace hq := hq.2 c42
              refine lv_bipush (v := 7) hx hb dX12_readPart_195 (by decide) ?_
              exact lt_X12_readPart_197 hd_X12_readForm hr_X12_readForm C hr hlk hn h0  hq hw (lv_sub hl [1, 0] rfl)
            · replace hq := hq.1 c42
              refine lv_bipush (v := 6) hx hb dX12_readPart_190 (by decide) ?_
              refine lv_goto (tgt := 197) hx hb dX12_readPart_192 (by decide) ?_
              exact lt_X12_readPart_197 hd_X12_readForm hr_X12_readForm C hr hlk hn h0  hq hw (lv_sub hl [1, 0] rfl)
          · replace hq := hq.1 c41
            refine lv_iconst (v := 5) hx hb dX12_readPart_180 (by decide) ?_
            refine lv_goto (tgt := 197) hx hb dX12_readPart_181 (by decide) ?_
            exact lt_X12_readPart_197 hd_X12_readForm hr_X12_readForm C hr hlk hn h0  hq hw (lv_sub hl [1, 0] rfl)
        · replace hq := hq.1 c38
          refine lv_aload_n hx hb dX12_readPart_152 rfl (lv_at hl 0 rfl) ?_
          refine lv_iconst (v := 3) hx hb dX12_readPart_153 (by decide) ?_
          refine r_callV (T := TX12) (N := 67) (ci := 12) (index := 216) (n := 1) (d2 := 1) (mc := 0) (ms := 0) (As := [.int 3]) (rest := []) C hw (ct_X12_none hq) kvX12_216 hq.1 (by decide) rfl ⟨by simp only [rmo]; omega, by simp only [rmo]; omega⟩ ⟨Nat.le_refl _, Nat.le_refl _⟩ rfl hl.1 rfl (Nat.le_of_ble_eq_true rfl) dX12_readPart_154 (fun r M44 H locs hp hle hw => ?_)
          obtain ⟨v43, rfl, hq⟩ := hp
          refine W.eq (g2 := F0 m 157 ls [.int v43]) rfl ?_
          exact r_iret C hr hlk hw dX12_readPart_157 (Nat.le_refl _) (Nat.le_refl _) ⟨_, rfl, hq⟩
      · replace hq := hq.1 c37
        refine lv_aload_n hx hb dX12_readPart_50 rfl (lv_at hl 0 rfl) ?_
        refine lv_iconst (v := 3) hx hb dX12_readPart_51 (by decide) ?_
        refine lv_aload_n hx hb dX12_readPart_52 rfl (lv_at hl 0 rfl) ?_
        refine gfX12_163 C hw hw.2.2.1 h0 dX12_readPart_53 ?_
        refine lv_aload_n hx hb dX12_readPart_56 rfl (lv_at hl 0 rfl) ?_
        refine gfX12_163 C hw hw.2.2.1 h0 dX12_readPart_57 ?_
        refine r_callV (T := TX12) (N := 67) (ci := 12) (index := 190) (n := 3) (d2 := 0) (mc := 0) (ms := 0) (As := [.int 3, .long (mJ M34 a0 8), .long (mJ M34 a0 8)]) (rest := []) C hw (ct_X12_node hq) kvX12_190 hq.1 (by decide) rfl ⟨by simp only [rmo]; omega, by simp only [rmo]; omega⟩ ⟨Nat.le_refl _, Nat.le_refl _⟩ rfl hl.1 rfl (Nat.le_of_ble_eq_true rfl) dX12_readPart_60 (fun r M46 H locs hp hle hw => ?_)
        obtain ⟨v45, rfl, hq⟩ := hp
        refine W.eq (g2 := F0 m 63 ls [.int v45]) rfl ?_
        refine lv_istore_n (lv' := [(1, .int v45), (0, .ref a0)]) hx hb dX12_readPart_63 rfl hl (by decide) rfl (fun ls hl => ?_)
        refine lv_aload_n hx hb dX12_readPart_64 rfl (lv_at hl 1 rfl) ?_
        refine lv_iconst (v := 1) hx hb dX12_readPart_65 (by decide) ?_
        refine r_callV (T := TX12) (N := 67) (ci := 12) (index := 202) (n := 1) (d2 := 2) (mc := 0) (ms := 0) (As := [.int 1]) (rest := []) C hw (ct_X12_go hq) kvX12_202 hq.1 (by decide) rfl ⟨by simp only [rmo]; omega, by simp only [rmo]; omega⟩ ⟨Nat.le_refl _, Nat.le_refl _⟩ rfl hl.1 rfl (Nat.le_of_ble_eq_true rfl) dX12_readPart_66 (fun r M48 H locs hp hle hw => ?_)
        obtain ⟨rfl, hq⟩ := hp
        refine W.eq (g2 := F0 m 69 ls []) rfl ?_
        refine lv_aload_n hx hb dX12_readPart_69 rfl (lv_at hl 1 rfl) ?_
        refine lv_bipush (v := 46) hx hb dX12_readPart_70 (by decide) ?_
        refine r_callV (T := TX12) (N := 67) (ci := 12) (index := 187) (n := 1) (d2 := 0) (mc := 0) (ms := 0) (As := [.int 46]) (rest := []) C hw (ct_X12_isSign hq) kvX12_187 hq.1 (by decide) rfl ⟨by simp only [rmo]; omega, by simp only [rmo]; omega⟩ ⟨Nat.le_refl _, Nat.le_refl _⟩ rfl hl.1 rfl (Nat.le_of_ble_eq_true rfl) dX12_readPart_72 (fun r M50 H locs hp hle hw => ?_)
        obtain ⟨v49, rfl, hq⟩ := hp
        refine W.eq (g2 := F0 m 75 ls [.int v49]) rfl ?_
        refine lv_if_ne (tgt := 80) hx hb dX12_readPart_75 (by decide) (fun c51 => ?_) (fun c51 => ?_)
        · replace hq := hq.2 c51
          refine lv_aload_n hx hb dX12_readPart_80 rfl (lv_at hl 1 rfl) ?_
          refine lv_iconst (v := 1) hx hb dX12_readPart_81 (by decide) ?_
          refine r_callV (T := TX12) (N := 67) (ci := 12) (index := 202) (n := 1) (d2 := 2) (mc := 0) (ms := 0) (As := [.int 1]) (rest := []) C hw (ct_X12_go hq) kvX12_202 hq.1 (by decide) rfl ⟨by simp only [rmo]; omega, by simp only [rmo]; omega⟩ ⟨Nat.le_refl _, Nat.le_refl _⟩ rfl hl.1 rfl (Nat.le_of_ble_eq_true rfl) dX12_readPart_82 (fun r M53 H locs hp hle hw => ?_)
          obtain ⟨rfl, hq⟩ := hp
          refine W.eq (g2 := F0 m 85 ls []) rfl ?_
          refine lv_aload_n hx hb dX12_readPart_85 rfl (lv_at hl 1 rfl) ?_
          refine gfX12_143 C hw hw.2.2.1 h0 dX12_readPart_86 ?_
          refine lv_iconst (v := 3) hx hb dX12_readPart_89 (by decide) ?_
          refine lv_icmp_eq (tgt := 99) hx hb dX12_readPart_90 (by decide) (fun c54 => ?_) (fun c54 => ?_)
          · replace hq := hq.1 c54
            refine lv_aload_n hx hb dX12_readPart_99 rfl (lv_at hl 1 rfl) ?_
            refine gfX12_163 C hw hw.2.2.1 h0 dX12_readPart_100 ?_
            refine lv_aload_n hx hb dX12_readPart_103 rfl (lv_at hl 1 rfl) ?_
            obtain ⟨q55, e56, hq⟩ := hq
            refine gfX12_22 C hw hw.2.2.1 h0 e56 dX12_readPart_104 ?_
            refine lv_iload_n hx hb dX12_readPart_107 rfl (lv_at hl 0 rfl) ?_
            obtain ⟨h57, hq⟩ := hq
            obtain ⟨h58, hq⟩ := hq
            refine q_lald C hw hw.2.2.1 h57 h58 dX12_readPart_108 ?_
            refine W.lcmp hx hb dX12_readPart_109 ?_
            refine lv_if_ge (tgt := 119) hx hb dX12_readPart_110 (by decide) (fun c59 => ?_) (fun c59 => ?_)
            · replace hq := hq.1 c59
              refine lv_aload_n hx hb dX12_readPart_119 rfl (lv_at hl 1 rfl) ?_
              obtain ⟨q60, e61, hq⟩ := hq
              refine gfX12_13 C hw hw.2.2.1 h0 e61 dX12_readPart_120 ?_
              refine lv_iload_n hx hb dX12_readPart_123 rfl (lv_at hl 0 rfl) ?_
              refine lv_iconst (v := 4) hx hb dX12_readPart_124 (by decide) ?_
              obtain ⟨h62, hq⟩ := hq
              obtain ⟨h63, hq⟩ := hq
              refine q_iast C hw hw.2.2.1 h62 h63 dX12_readPart_125 (fun H locs hw => ?_)
              generalize e65 : uI M53 q60 (Int32.toNatClampNeg v45) 4 = M64 at hw
              replace hq := hq M64 e65.symm
              have e56 : mR M64 a0 14 = some q55 := by rw [← e65, mR_uI]; exact e56
              have e61 : mR M64 a0 11 = some q60 := by rw [← e65, mR_uI]; exact e61
              refine lv_aload_n hx hb dX12_readPart_126 rfl (lv_at hl 1 rfl) ?_
              obtain ⟨q66, e67, hq⟩ := hq
              refine gfX12_26 C hw hw.2.2.1 h0 e67 dX12_readPart_127 ?_
              refine lv_iload_n hx hb dX12_readPart_130 rfl (lv_at hl 0 rfl) ?_
              refine lv_aload_n hx hb dX12_readPart_131 rfl (lv_at hl 1 rfl) ?_
              refine gfX12_163 C hw hw.2.2.1 h0 dX12_readPart_132 ?_
              obtain ⟨h68, hq⟩ := hq
              obtain ⟨h69, hq⟩ := hq
              refine q_last C hw hw.2.2.1 h68 h69 dX12_readPart_135 (fun H locs hw => ?_)
              generalize e71 : uJ M64 q66 (Int32.toNatClampNeg v45) (mJ M64 a0 8) = M70 at hw
              replace hq := hq M70 e71.symm
              have e56 : mR M70 a0 14 = some q55 := by rw [← e71, mR_uJ]; exact e56
              have e61 : mR M70 a0 11 = some q60 := by rw [← e71, mR_uJ]; exact e61
              have e67 : mR M70 a0 15 = some q66 := by rw [← e71, mR_uJ]; exact e67
              refine lv_aload_n hx hb dX12_readPart_136 rfl (lv_at hl 1 rfl) ?_
              refine lv_iconst (v := 1) hx hb dX12_readPart_137 (by decide) ?_
              refine r_callV (T := TX12) (N := 67) (ci := 12) (index := 202) (n := 1) (d2 := 2) (mc := 0) (ms := 0) (As := [.int 1]) (rest := []) C hw (ct_X12_go hq) kvX12_202 hq.1 (by decide) rfl ⟨by simp only [rmo]; omega, by simp only [rmo]; omega⟩ ⟨Nat.le_refl _, Nat.le_refl _⟩ rfl hl.1 rfl (Nat.le_of_ble_eq_true rfl) dX12_readPart_138 (fun r M73 H locs hp hle hw => ?_)
              obtain ⟨rfl, hq⟩ := hp
              refine W.eq (g2 := F0 m 141 ls []) rfl ?_
              refine lv_iload_n hx hb dX12_readPart_141 rfl (lv_at hl 0 rfl) ?_
              exact r_iret C hr hlk hw dX12_readPart_142 (Nat.le_refl _) (Nat.le_refl _) ⟨_, rfl, hq⟩
            · replace hq := hq.2 c59
              refine lv_aload_n hx hb dX12_readPart_113 rfl (lv_at hl 1 rfl) ?_
              refine lv_iconst (v := 2) hx hb dX12_readPart_114 (by decide) ?_
              refine r_callV (T := TX12) (N := 67) (ci := 12) (index := 216) (n := 1) (d2 := 1) (mc := 0) (ms := 0) (As := [.int 2]) (rest := []) C hw (ct_X12_none hq) kvX12_216 hq.1 (by decide) rfl ⟨by simp only [rmo]; omega, by simp only [rmo]; omega⟩ ⟨Nat.le_refl _, Nat.le_refl _⟩ rfl hl.1 rfl (Nat.le_of_ble_eq_true rfl) dX12_readPart_115 (fun r M75 H locs hp hle hw => ?_)
              obtain ⟨v74, rfl, hq⟩ := hp
              refine W.eq (g2 := F0 m 118 ls [.int v74]) rfl ?_
              exact r_iret C hr hlk hw dX12_readPart_118 (Nat.le_refl _) (Nat.le_refl _) ⟨_, rfl, hq⟩
          · replace hq := hq.2 c54
            refine lv_aload_n hx hb dX12_readPart_93 rfl (lv_at hl 1 rfl) ?_
            refine lv_iconst (v := 1) hx hb dX12_readPart_94 (by decide) ?_
            refine r_callV (T := TX12) (N := 67) (ci := 12) (index := 216) (n := 1) (d2 := 1) (mc := 0) (ms := 0) (As := [.int 1]) (rest := []) C hw (ct_X12_none hq) kvX12_216 hq.1 (by decide) rfl ⟨by simp only [rmo]; omega, by simp only [rmo]; omega⟩ ⟨Nat.le_refl _, Nat.le_refl _⟩ rfl hl.1 rfl (Nat.le_of_ble_eq_true rfl) dX12_readPart_95 (fun r M77 H locs hp hle hw => ?_)
            obtain ⟨v76, rfl, hq⟩ := hp
            refine W.eq (g2 := F0 m 98 ls [.int v76]) rfl ?_
            exact r_iret C hr hlk hw dX12_readPart_98 (Nat.le_refl _) (Nat.le_refl _) ⟨_, rfl, hq⟩
        · replace hq := hq.1 c51
          refine lv_iload_n hx hb dX12_readPart_78 rfl (lv_at hl 0 rfl) ?_
          exact r_iret C hr hlk hw dX12_readPart_79 (Nat.le_refl _) (Nat.le_refl _) ⟨_, rfl, hq⟩
    · replace hq := hq.1 c36
      refine lv_aload_n hx hb dX12_readPart_21 rfl (lv_at hl 0 rfl) ?_
      refine lv_iconst (v := 2) hx hb dX12_readPart_22 (by decide) ?_
      refine lv_aload_n hx hb dX12_readPart_23 rfl (lv_at hl 0 rfl) ?_
      refine gfX12_163 C hw hw.2.2.1 h0 dX12_readPart_24 ?_
      refine lv_aload_n hx hb dX12_readPart_27 rfl (lv_at hl 0 rfl) ?_
      refine gfX12_163 C hw hw.2.2.1 h0 dX12_readPart_28 ?_
      refine r_callV (T := TX12) (N := 67) (ci := 12) (index := 190) (n := 3) (d2 := 0) (mc := 0) (ms := 0) (As := [.int 2, .long (mJ M34 a0 8), .long (mJ M34 a0 8)]) (rest := []) C hw (ct_X12_node hq) kvX12_190 hq.1 (by decide) rfl ⟨by simp only [rmo]; omega, by simp only [rmo]; omega⟩ ⟨Nat.le_refl _, Nat.le_refl _⟩ rfl hl.1 rfl (Nat.le_of_ble_eq_true rfl) dX12_readPart_31 (fun r M79 H locs hp hle hw => ?_)
      obtain ⟨v78, rfl, hq⟩ := hp
      refine W.eq (g2 := F0 m 34 ls [.int v78]) rfl ?_
      refine lv_istore_n (lv' := [(1, .int v78), (0, .ref a0)]) hx hb dX12_readPart_34 rfl hl (by decide) rfl (fun ls hl => ?_)
      refine lv_aload_n hx hb dX12_readPart_35 rfl (lv_at hl 1 rfl) ?_
      refine lv_iconst (v := 1) hx hb dX12_readPart_36 (by decide) ?_
      refine r_callV (T := TX12) (N := 67) (ci := 12) (index := 202) (n := 1) (d2 := 2) (mc := 0) (ms := 0) (As := [.int 1]) (rest := []) C hw (ct_X12_go hq) kvX12_202 hq.1 (by decide) rfl ⟨by simp only [rmo]; omega, by simp only [rmo]; omega⟩ ⟨Nat.le_refl _, Nat.le_refl _⟩ rfl hl.1 rfl (Nat.le_of_ble_eq_true rfl) dX12_readPart_37 (fun r M81 H locs hp hle hw => ?_)
      obtain ⟨rfl, hq⟩ := hp
      refine W.eq (g2 := F0 m 40 ls []) rfl ?_
      refine lv_iload_n hx hb dX12_readPart_40 rfl (lv_at hl 0 rfl) ?_
      exact r_iret C hr hlk hw dX12_readPart_41 (Nat.le_refl _) (Nat.le_refl _) ⟨_, rfl, hq⟩
  · replace hq := hq.1 c35
    refine lv_aload_n hx hb dX12_readPart_7 rfl (lv_at hl 0 rfl) ?_
    refine lv_iconst (v := 1) hx hb dX12_readPart_8 (by decide) ?_
    refine r_callV (T := TX12) (N := 67) (ci := 12) (index := 216) (n := 1) (d2 := 1) (mc := 0) (ms := 0) (As := [.int 1]) (rest := []) C hw (ct_X12_none hq) kvX12_216 hq.1 (by decide) rfl ⟨by simp only [rmo]; omega, by simp only [rmo]; omega⟩ ⟨Nat.le_refl _, Nat.le_refl _⟩ rfl hl.1 rfl (Nat.le_of_ble_eq_true rfl) dX12_readPart_9 (fun r M83 H locs hp hle hw => ?_)
    obtain ⟨v82, rfl, hq⟩ := hp
    refine W.eq (g2 := F0 m 12 ls [.int v82]) rfl ?_
    exact r_iret C hr hlk hw dX12_readPart_12 (Nat.le_refl _) (Nat.le_refl _) ⟨_, rfl, hq⟩

set_option maxRecDepth 100000 in
def bd_X12_readRow_10 (w_X12_readPart : Gh → Mem → Nat → (Int32 → Mem → Prop) → Prop) (g : Gh) (M0 : Mem) (a0 : Nat) (post : Int32 → Mem → Prop)  (bk10 : Int32 × Int32 × Mem → Prop) (x1 : Int32) (x2 : Int32)  (M : Mem) : Prop :=
  w_X12_readPart g M a0 (fun v1 M2 => ((v1 = (-1)) → post (-1) M2) ∧ (¬ (v1 = (-1)) → wp_X12_hang g M2 a0 x1 x2 v1 (fun M5 => wp_X12_isPart g M5 a0 (fun v6 M7 => ((v6 = 0) → post x1 M7) ∧ (¬ (v6 = 0) → bk10 (x1, v1, M7))))))
set_option maxRecDepth 100000 in
def wp_X12_readRow (w_X12_readPart : Gh → Mem → Nat → (Int32 → Mem → Prop) → Prop) (g : Gh) (M0 : Mem) (a0 : Nat) (post : Int32 → Mem → Prop) : Prop :=
  okc (gB g) M0 a0 12 ∧ (wp_X12_node g M0 a0 1 0 0 (fun v9 M10 => (∃ n : Nat, lfp (fun bk z => bd_X12_readRow_10 w_X12_readPart g M0 a0 post  bk z.1 z.2.1 z.2.2) n (v9, (-1), M10))))
set_option maxHeartbeats 4000000 in
set_option maxRecDepth 100000 in
theorem lp_X12_readRow_10 {l : Launch} {g : Gh} {p : Program} {e : Env} {s : State} {m : MethodId} {args : Array Value} {below : List Frame} {meth : Method} {c : Code} {M0 : Mem} {a0 : Nat} {post : Int32 → Mem → Prop} {d : Nat} {w_X12_readPart : Gh → Mem → Nat → (Int32 → Mem → Prop) → Prop} {d_X12_readPart : Nat} (hd_X12_readPart : d_X12_readPart ≤ d) (hr_X12_readPart : ∀ {l : Launch} {g : Gh} {M0 : Mem} {a0 : Nat} {post : Int32 → Mem → Prop}, w_X12_readPart g M0 a0 post → okc (gB g) M0 a0 12 ∧ Ct l g yX12_readPart cX12_readPart 7 (some .int) d_X12_readPart 0 0 [.ref a0] M0 (pI post)) (C : Cx g p s m args c cX12_readRow 4 RX12) (hr : meth.sig.returnType = (some .int)) (hlk : meth.locks = false) (hn : meth.name = "readRow") (h0 : okc (gB g) M0 a0 12)  : ∀ (nf : Nat) (x1 : Int32) (x2 : Int32)  (M : Mem) (H : Heap) (locs : List Loc) (ls : Array Slot), lfp (fun bk z => bd_X12_readRow_10 w_X12_readPart g M0 a0 post  bk z.1 z.2.1 z.2.2) nf (x1, x2, M) → Wd g s M0 M H locs → lv_has ls 4 [(0, .ref a0), (1, .int x1), (2, .int x2)] → W p l e (rmo (d + 8) 0 0) s m args below meth c H locs 0 0 (MQ below (Cq g M0 (pI post)) args s 0 0 (gA g)) (F0 m 10 ls []) := by
  have hx := C.1.1
  have hb := C.1.2.1
  intro nf
  induction nf with
  | zero => intro _ _ _ H locs ls hq; exact hq.elim
  | succ nf hk10 =>
    intro x1 x2 M H locs ls hq hw hl
    replace hq : bd_X12_readRow_10 w_X12_readPart g M0 a0 post  (lfp (fun bk z => bd_X12_readRow_10 w_X12_readPart g M0 a0 post  bk z.1 z.2.1 z.2.2) nf) x1 x2 M := hq
    unfold bd_X12_readRow_10 at hq
    refine lv_aload_n hx hb dX12_readRow_10 rfl (lv_at hl 0 rfl) ?_
    refine r_callV (T := TX12) (N := 67) (ci := 12) (index := 206) (n := 0) (d2 := d_X12_readPart) (mc := 0) (ms := 0) (As := []) (rest := []) C hw (hr_X12_readPart hq).2 kvX12_206 (hr_X12_readPart (l := l) hq).1 (by decide) rfl ⟨by simp only [rmo]; omega, by simp only [rmo]; omega⟩ ⟨Nat.le_refl _, Nat.le_refl _⟩ rfl hl.1 rfl (Nat.le_of_ble_eq_true rfl) dX12_readRow_11 (fun r M2 H locs hp hle hw => ?_)
    obtain ⟨v1, rfl, hq⟩ := hp
    refine W.eq (g2 := F0 m 14 ls [.int v1]) rfl ?_
    refine lv_istore_n (lv' := [(3, .int v1), (0, .ref a0), (1, .int x1), (2, .int x2)]) hx hb dX12_readRow_14 rfl hl (by decide) rfl (fun ls hl => ?_)
    refine lv_iload_n hx hb dX12_readRow_15 rfl (lv_at hl 0 rfl) ?_
    refine lv_iconst (v := (-1)) hx hb dX12_readRow_16 (by decide) ?_
    refine lv_icmp_ne (tgt := 22) hx hb dX12_readRow_17 (by decide) (fun c3 => ?_) (fun c3 => ?_)
    · replace hq := hq.2 c3
      refine lv_aload_n hx hb dX12_readRow_22 rfl (lv_at hl 1 rfl) ?_
      refine lv_iload_n hx hb dX12_readRow_23 rfl (lv_at hl 2 rfl) ?_
      refine lv_iload_n hx hb dX12_readRow_24 rfl (lv_at hl 3 rfl) ?_
      refine lv_iload_n hx hb dX12_readRow_25 rfl (lv_at hl 0 rfl) ?_
      refine r_callV (T := TX12) (N := 67) (ci := 12) (index := 198) (n := 3) (d2 := 0) (mc := 0) (ms := 0) (As := [.int x1, .int x2, .int v1]) (rest := []) C hw (ct_X12_hang hq) kvX12_198 hq.1 (by decide) rfl ⟨by simp only [rmo]; omega, by simp only [rmo]; omega⟩ ⟨Nat.le_refl _, Nat.le_refl _⟩ rfl hl.1 rfl (Nat.le_of_ble_eq_true rfl) dX12_readRow_26 (fun r M5 H locs hp hle hw => ?_)
      obtain ⟨rfl, hq⟩ := hp
      refine W.eq (g2 := F0 m 29 ls []) rfl ?_
      refine lv_iload_n hx hb dX12_readRow_29 rfl (lv_at hl 0 rfl) ?_
      refine lv_istore_n (lv' := [(2, .int v1), (3, .int v1), (0, .ref a0), (1, .int x1)]) hx hb dX12_readRow_30 rfl hl (by decide) rfl (fun ls hl => ?_)
      refine lv_aload_n hx hb dX12_readRow_31 rfl (lv_at hl 2 rfl) ?_
      refine r_callV (T := TX12) (N := 67) (ci := 12) (index := 209) (n := 0) (d2 := 1) (mc := 0) (ms := 0) (As := []) (rest := []) C hw (ct_X12_isPart hq) kvX12_209 hq.1 (by decide) rfl ⟨by simp only [rmo]; omega, by simp only [rmo]; omega⟩ ⟨Nat.le_refl _, Nat.le_refl _⟩ rfl hl.1 rfl (Nat.le_of_ble_eq_true rfl) dX12_readRow_32 (fun r M7 H locs hp hle hw => ?_)
      obtain ⟨v6, rfl, hq⟩ := hp
      refine W.eq (g2 := F0 m 35 ls [.int v6]) rfl ?_
      refine lv_if_ne (tgt := 10) hx hb dX12_readRow_35 (by decide) (fun c8 => ?_) (fun c8 => ?_)
      · replace hq := hq.2 c8
        exact hk10 _ _ _ _ _ _ hq hw (lv_sub hl [2, 3, 0] rfl)
      · replace hq := hq.1 c8
        refine lv_iload_n hx hb dX12_readRow_38 rfl (lv_at hl 3 rfl) ?_
        exact r_iret C hr hlk hw dX12_readRow_39 (Nat.le_refl _) (Nat.le_refl _) ⟨_, rfl, hq⟩
    · replace hq := hq.1 c3
      refine lv_iconst (v := (-1)) hx hb dX12_readRow_20 (by decide) ?_
      exact r_iret C hr hlk hw dX12_readRow_21 (Nat.le_refl _) (Nat.le_refl _) ⟨_, rfl, hq⟩
set_option maxHeartbeats 4000000 in
set_option maxRecDepth 100000 in
theorem ct_X12_readRow {l : Launch} {g : Gh} {M0 : Mem} {a0 : Nat} {post : Int32 → Mem → Prop} {d : Nat} {w_X12_readPart : Gh → Mem → Nat → (Int32 → Mem → Prop) → Prop} {d_X12_readPart : Nat} (hd_X12_readPart : d_X12_readPart ≤ d) (hr_X12_readPart : ∀ {l : Launch} {g : Gh} {M0 : Mem} {a0 : Nat} {post : Int32 → Mem → Prop}, w_X12_readPart g M0 a0 post → okc (gB g) M0 a0 12 ∧ Ct l g yX12_readPart cX12_readPart 7 (some .int) d_X12_readPart 0 0 [.ref a0] M0 (pI post)) (hq : wp_X12_readRow w_X12_readPart g M0 a0 post) : Ct l g yX12_readRow cX12_readRow 4 (some .int) (d + 8) 0 0 [.ref a0] M0 (pI post) := by
  unfold wp_X12_readRow at hq
  obtain ⟨h0, hq⟩ := hq
  refine Ct.of (by decide) (Nat.le_of_ble_eq_true rfl) ?_
  intro p e s m below meth c ls C hr hlk hn hl hw
  have hx := C.1.1
  have hb := C.1.2.1
  have hl : lv_has ls 4 [(0, .ref a0)] := hl
  refine lv_aload_n hx hb dX12_readRow_0 rfl (lv_at hl 0 rfl) ?_
  refine lv_iconst (v := 1) hx hb dX12_readRow_1 (by decide) ?_
  refine lv_lconst (v := 0) hx hb dX12_readRow_2 (by decide) ?_
  refine lv_lconst (v := 0) hx hb dX12_readRow_3 (by decide) ?_
  refine r_callV (T := TX12) (N := 67) (ci := 12) (index := 190) (n := 3) (d2 := 0) (mc := 0) (ms := 0) (As := [.int 1, .long 0, .long 0]) (rest := []) C hw (ct_X12_node hq) kvX12_190 hq.1 (by decide) rfl ⟨by simp only [rmo]; omega, by simp only [rmo]; omega⟩ ⟨Nat.le_refl _, Nat.le_refl _⟩ rfl hl.1 rfl (Nat.le_of_ble_eq_true rfl) dX12_readRow_4 (fun r M10 H locs hp hle hw => ?_)
  obtain ⟨v9, rfl, hq⟩ := hp
  refine W.eq (g2 := F0 m 7 ls [.int v9]) rfl ?_
  refine lv_istore_n (lv' := [(1, .int v9), (0, .ref a0)]) hx hb dX12_readRow_7 rfl hl (by decide) rfl (fun ls hl => ?_)
  refine lv_iconst (v := (-1)) hx hb dX12_readRow_8 (by decide) ?_
  refine lv_istore_n (lv' := [(2, .int (-1)), (1, .int v9), (0, .ref a0)]) hx hb dX12_readRow_9 rfl hl (by decide) rfl (fun ls hl => ?_)
  obtain ⟨nf, hq⟩ := hq
  exact lp_X12_readRow_10 hd_X12_readPart hr_X12_readPart C hr hlk hn h0  nf _ _ _ _ _ _ hq hw (lv_sub hl [2, 1, 0] rfl)

set_option maxRecDepth 100000 in
def bd_X12_readForm_12 (w_X12_readRow : Gh → Mem → Nat → (Int32 → Mem → Prop) → Prop) (g : Gh) (M0 : Mem) (a0 : Nat) (post : Int32 → Mem → Prop)  (bk12 : Int32 × Int32 × Int32 × Mem → Prop) (x1 : Int32) (x2 : Int32) (x3 : Int32)  (M : Mem) : Prop :=
  ((x3 = 0) → post x1 M) ∧ (¬ (x3 = 0) → w_X12_readRow g M a0 (fun v2 M3 => ((v2 = (-1)) → post (-1) M3) ∧ (¬ (v2 = (-1)) → wp_X12_hang g M3 a0 x1 x2 v2 (fun M6 => wp_X12_isSign g M6 a0 124 (fun v7 M8 => ((v7 = 0) → bk12 (x1, v2, v7, M8)) ∧ (¬ (v7 = 0) → wp_X12_go g M8 a0 1 (fun M11 => bk12 (x1, v2, v7, M11))))))))
set_option maxRecDepth 100000 in
def wp_X12_readForm (w_X12_readRow : Gh → Mem → Nat → (Int32 → Mem → Prop) → Prop) (g : Gh) (M0 : Mem) (a0 : Nat) (post : Int32 → Mem → Prop) : Prop :=
  okc (gB g) M0 a0 12 ∧ (wp_X12_node g M0 a0 0 0 0 (fun v12 M13 => (∃ n : Nat, lfp (fun bk z => bd_X12_readForm_12 w_X12_readRow g M0 a0 post  bk z.1 z.2.1 z.2.2.1 z.2.2.2) n (v12, (-1), 1, M13))))
set_option maxHeartbeats 4000000 in
set_option maxRecDepth 100000 in
theorem lp_X12_readForm_12 {l : Launch} {g : Gh} {p : Program} {e : Env} {s : State} {m : MethodId} {args : Array Value} {below : List Frame} {meth : Method} {c : Code} {M0 : Mem} {a0 : Nat} {post : Int32 → Mem → Prop} {d : Nat} {w_X12_readRow : Gh → Mem → Nat → (Int32 → Mem → Prop) → Prop} {d_X12_readRow : Nat} (hd_X12_readRow : d_X12_readRow ≤ d) (hr_X12_readRow : ∀ {l : Launch} {g : Gh} {M0 : Mem} {a0 : Nat} {post : Int32 → Mem → Prop}, w_X12_readRow g M0 a0 post → okc (gB g) M0 a0 12 ∧ Ct l g yX12_readRow cX12_readRow 4 (some .int) d_X12_readRow 0 0 [.ref a0] M0 (pI post)) (C : Cx g p s m args c cX12_readForm 5 RX12) (hr : meth.sig.returnType = (some .int)) (hlk : meth.locks = false) (hn : meth.name = "readForm") (h0 : okc (gB g) M0 a0 12)  : ∀ (nf : Nat) (x1 : Int32) (x2 : Int32) (x3 : Int32)  (M : Mem) (H : Heap) (locs : List Loc) (ls : Array Slot), lfp (fun bk z => bd_X12_readForm_12 w_X12_readRow g M0 a0 post  bk z.1 z.2.1 z.2.2.1 z.2.2.2) nf (x1, x2, x3, M) → Wd g s M0 M H locs → lv_has ls 5 [(0, .ref a0), (1, .int x1), (2, .int x2), (3, .int x3)] → W p l e (rmo (d + 8) 0 0) s m args below meth c H locs 0 0 (MQ below (Cq g M0 (pI post)) args s 0 0 (gA g)) (F0 m 12 ls []) := by
  have hx := C.1.1
  have hb := C.1.2.1
  intro nf
  induction nf with
  | zero => intro _ _ _ _ H locs ls hq; exact hq.elim
  | succ nf hk12 =>
    intro x1 x2 x3 M H locs ls hq hw hl
    replace hq : bd_X12_readForm_12 w_X12_readRow g M0 a0 post  (lfp (fun bk z => bd_X12_readForm_12 w_X12_readRow g M0 a0 post  bk z.1 z.2.1 z.2.2.1 z.2.2.2) nf) x1 x2 x3 M := hq
    unfold bd_X12_readForm_12 at hq
    refine lv_iload_n hx hb dX12_readForm_12 rfl (lv_at hl 3 rfl) ?_
    refine lv_if_eq (tgt := 60) hx hb dX12_readForm_13 (by decide) (fun c1 => ?_) (fun c1 => ?_)
    · replace hq := hq.1 c1
      refine lv_iload_n hx hb dX12_readForm_60 rfl (lv_at hl 1 rfl) ?_
      exact r_iret C hr hlk hw dX12_readForm_61 (Nat.le_refl _) (Nat.le_refl _) ⟨_, rfl, hq⟩
    · replace hq := hq.2 c1
      refine lv_aload_n hx hb dX12_readForm_16 rfl (lv_at hl 0 rfl) ?_
      refine r_callV (T := TX12) (N := 67) (ci := 12) (index := 194) (n := 0) (d2 := d_X12_readRow) (mc := 0) (ms := 0) (As := []) (rest := []) C hw (hr_X12_readRow hq).2 kvX12_194 (hr_X12_readRow (l := l) hq).1 (by decide) rfl ⟨by simp only [rmo]; omega, by simp only [rmo]; omega⟩ ⟨Nat.le_refl _, Nat.le_refl _⟩ rfl hl.1 rfl (Nat.le_of_ble_eq_true rfl) dX12_readForm_17 (fun r M3 H locs hp hle hw => ?_)
      obtain ⟨v2, rfl, hq⟩ := hp
      refine W.eq (g2 := F0 m 20 ls [.int v2]) rfl ?_
      refine lv_istore (lv' := [(4, .int v2), (0, .ref a0), (1, .int x1), (2, .int x2), (3, .int x3)]) hx hb dX12_readForm_20 hl (by decide) rfl (fun ls hl => ?_)
      refine lv_iload hx hb dX12_readForm_22 (lv_at hl 0 rfl) ?_
      refine lv_iconst (v := (-1)) hx hb dX12_readForm_24 (by decide) ?_
      refine lv_icmp_ne (tgt := 30) hx hb dX12_readForm_25 (by decide) (fun c4 => ?_) (fun c4 => ?_)
      · replace hq := hq.2 c4
        refine lv_aload_n hx hb dX12_readForm_30 rfl (lv_at hl 1 rfl) ?_
        refine lv_iload_n hx hb dX12_readForm_31 rfl (lv_at hl 2 rfl) ?_
        refine lv_iload_n hx hb dX12_readForm_32 rfl (lv_at hl 3 rfl) ?_
        refine lv_iload hx hb dX12_readForm_33 (lv_at hl 0 rfl) ?_
        refine r_callV (T := TX12) (N := 67) (ci := 12) (index := 198) (n := 3) (d2 := 0) (mc := 0) (ms := 0) (As := [.int x1, .int x2, .int v2]) (rest := []) C hw (ct_X12_hang hq) kvX12_198 hq.1 (by decide) rfl ⟨by simp only [rmo]; omega, by simp only [rmo]; omega⟩ ⟨Nat.le_refl _, Nat.le_refl _⟩ rfl hl.1 rfl (Nat.le_of_ble_eq_true rfl) dX12_readForm_35 (fun r M6 H locs hp hle hw => ?_)
        obtain ⟨rfl, hq⟩ := hp
        refine W.eq (g2 := F0 m 38 ls []) rfl ?_
        refine lv_iload hx hb dX12_readForm_38 (lv_at hl 0 rfl) ?_
        refine lv_istore_n (lv' := [(2, .int v2), (4, .int v2), (0, .ref a0), (1, .int x1), (3, .int x3)]) hx hb dX12_readForm_40 rfl hl (by decide) rfl (fun ls hl => ?_)
        refine lv_aload_n hx hb dX12_readForm_41 rfl (lv_at hl 2 rfl) ?_
        refine lv_bipush (v := 124) hx hb dX12_readForm_42 (by decide) ?_
        refine r_callV (T := TX12) (N := 67) (ci := 12) (index := 187) (n := 1) (d2 := 0) (mc := 0) (ms := 0) (As := [.int 124]) (rest := []) C hw (ct_X12_isSign hq) kvX12_187 hq.1 (by decide) rfl ⟨by simp only [rmo]; omega, by simp only [rmo]; omega⟩ ⟨Nat.le_refl _, Nat.le_refl _⟩ rfl hl.1 rfl (Nat.le_of_ble_eq_true rfl) dX12_readForm_44 (fun r M8 H locs hp hle hw => ?_)
        obtain ⟨v7, rfl, hq⟩ := hp
        refine W.eq (g2 := F0 m 47 ls [.int v7]) rfl ?_
        refine lv_istore_n (lv' := [(3, .int v7), (2, .int v2), (4, .int v2), (0, .ref a0), (1, .int x1)]) hx hb dX12_readForm_47 rfl hl (by decide) rfl (fun ls hl => ?_)
        refine lv_iload_n hx hb dX12_readForm_48 rfl (lv_at hl 0 rfl) ?_
        refine lv_if_eq (tgt := 57) hx hb dX12_readForm_49 (by decide) (fun c9 => ?_) (fun c9 => ?_)
        · replace hq := hq.1 c9
          refine lv_goto (tgt := 12) hx hb dX12_readForm_57 (by decide) ?_
          exact hk12 _ _ _ _ _ _ _ hq hw (lv_sub hl [3, 4, 1, 0] rfl)
        · replace hq := hq.2 c9
          refine lv_aload_n hx hb dX12_readForm_52 rfl (lv_at hl 3 rfl) ?_
          refine lv_iconst (v := 1) hx hb dX12_readForm_53 (by decide) ?_
          refine r_callV (T := TX12) (N := 67) (ci := 12) (index := 202) (n := 1) (d2 := 2) (mc := 0) (ms := 0) (As := [.int 1]) (rest := []) C hw (ct_X12_go hq) kvX12_202 hq.1 (by decide) rfl ⟨by simp only [rmo]; omega, by simp only [rmo]; omega⟩ ⟨Nat.le_refl _, Nat.le_refl _⟩ rfl hl.1 rfl (Nat.le_of_ble_eq_true rfl) dX12_readForm_54 (fun r M11 H locs hp hle hw => ?_)
          obtain ⟨rfl, hq⟩ := hp
          refine W.eq (g2 := F0 m 57 ls []) rfl ?_
          refine lv_goto (tgt := 12) hx hb dX12_readForm_57 (by decide) ?_
          exact hk12 _ _ _ _ _ _ _ hq hw (lv_sub hl [3, 4, 1, 0] rfl)
      · replace hq := hq.1 c4
        refine lv_iconst (v := (-1)) hx hb dX12_readForm_28 (by decide) ?_
        exact r_iret C hr hlk hw dX12_readForm_29 (Nat.le_refl _) (Nat.le_refl _) ⟨_, rfl, hq⟩
set_option maxHeartbeats 4000000 in
set_option maxRecDepth 100000 in
theorem ct_X12_readForm {l : Launch} {g : Gh} {M0 : Mem} {a0 : Nat} {post : Int32 → Mem → Prop} {d : Nat} {w_X12_readRow : Gh → Mem → Nat → (Int32 → Mem → Prop) → Prop} {d_X12_readRow : Nat} (hd_X12_readRow : d_X12_readRow ≤ d) (hr_X12_readRow : ∀ {l : Launch} {g : Gh} {M0 : Mem} {a0 : Nat} {post : Int32 → Mem → Prop}, w_X12_readRow g M0 a0 post → okc (gB g) M0 a0 12 ∧ Ct l g yX12_readRow cX12_readRow 4 (some .int) d_X12_readRow 0 0 [.ref a0] M0 (pI post)) (hq : wp_X12_readForm w_X12_readRow g M0 a0 post) : Ct l g yX12_readForm cX12_readForm 5 (some .int) (d + 8) 0 0 [.ref a0] M0 (pI post) := by
  unfold wp_X12_readForm at hq
  obtain ⟨h0, hq⟩ := hq
  refine Ct.of (by decide) (Nat.le_of_ble_eq_true rfl) ?_
  intro p e s m below meth c ls C hr hlk hn hl hw
  have hx := C.1.1
  have hb := C.1.2.1
  have hl : lv_has ls 5 [(0, .ref a0)] := hl
  refine lv_aload_n hx hb dX12_readForm_0 rfl (lv_at hl 0 rfl) ?_
  refine lv_iconst (v := 0) hx hb dX12_readForm_1 (by decide) ?_
  refine lv_lconst (v := 0) hx hb dX12_readForm_2 (by decide) ?_
  refine lv_lconst (v := 0) hx hb dX12_readForm_3 (by decide) ?_
  refine r_callV (T := TX12) (N := 67) (ci := 12) (index := 190) (n := 3) (d2 := 0) (mc := 0) (ms := 0) (As := [.int 0, .long 0, .long 0]) (rest := []) C hw (ct_X12_node hq) kvX12_190 hq.1 (by decide) rfl ⟨by simp only [rmo]; omega, by simp only [rmo]; omega⟩ ⟨Nat.le_refl _, Nat.le_refl _⟩ rfl hl.1 rfl (Nat.le_of_ble_eq_true rfl) dX12_readForm_4 (fun r M13 H locs hp hle hw => ?_)
  obtain ⟨v12, rfl, hq⟩ := hp
  refine W.eq (g2 := F0 m 7 ls [.int v12]) rfl ?_
  refine lv_istore_n (lv' := [(1, .int v12), (0, .ref a0)]) hx hb dX12_readForm_7 rfl hl (by decide) rfl (fun ls hl => ?_)
  refine lv_iconst (v := (-1)) hx hb dX12_readForm_8 (by decide) ?_
  refine lv_istore_n (lv' := [(2, .int (-1)), (1, .int v12), (0, .ref a0)]) hx hb dX12_readForm_9 rfl hl (by decide) rfl (fun ls hl => ?_)
  refine lv_iconst (v := 1) hx hb dX12_readForm_10 (by decide) ?_
  refine lv_istore_n (lv' := [(3, .int 1), (2, .int (-1)), (1, .int v12), (0, .ref a0)]) hx hb dX12_readForm_11 rfl hl (by decide) rfl (fun ls hl => ?_)
  obtain ⟨nf, hq⟩ := hq
  exact lp_X12_readForm_12 hd_X12_readRow hr_X12_readRow C hr hlk hn h0  nf _ _ _ _ _ _ _ hq hw (lv_sub hl [3, 2, 1, 0] rfl)
def wpPart : Nat → Gh → Mem → Nat → (Int32 → Mem → Prop) → Prop
  | 0 => fun _ _ _ _ => False
  | n + 1 => wp_X12_readPart (wp_X12_readForm (wp_X12_readRow (wpPart n)))
def wpForm (n : Nat) : Gh → Mem → Nat → (Int32 → Mem → Prop) → Prop := wp_X12_readForm (wp_X12_readRow (wpPart n))
theorem ctPart2 : ∀ (n : Nat) {l : Launch} {g : Gh} {M0 : Mem} {a0 : Nat} {post : Int32 → Mem → Prop}, wpPart n g M0 a0 post → okc (gB g) M0 a0 12 ∧ Ct l g yX12_readPart cX12_readPart 7 (some .int) (24 * n) 0 0 [.ref a0] M0 (pI post)
  | 0, _, _, _, _, _, h => h.elim
  | n + 1, l, g, M0, a0, post, h => by
    have h : wp_X12_readPart (wp_X12_readForm (wp_X12_readRow (wpPart n))) g M0 a0 post := h
    have h2 := ct_X12_readPart (l := l) (d := 24 * n + 16) (Nat.le_refl _) (fun h => ⟨h.1, ct_X12_readForm (d := 24 * n + 8) (Nat.le_refl _) (fun h => ⟨h.1, ct_X12_readRow (d := 24 * n) (Nat.le_refl _) (fun h => ctPart2 n h) h⟩) h⟩) h
    rw [show 24 * (n + 1) = 24 * n + 16 + 8 by omega]
    exact ⟨h.1, h2⟩
theorem ctForm (n : Nat) {l : Launch} {g : Gh} {M0 : Mem} {a0 : Nat} {post : Int32 → Mem → Prop} (h : wpForm n g M0 a0 post) : Ct l g yX12_readForm cX12_readForm 5 (some .int) (24 * n + 16) 0 0 [.ref a0] M0 (pI post) :=
  ct_X12_readForm (d := 24 * n + 8) (Nat.le_refl _) (fun h => ⟨h.1, ct_X12_readRow (d := 24 * n) (Nat.le_refl _) (fun h => ctPart2 n h) h⟩) h

set_option maxRecDepth 100000 in
def lb_X12_question_89  (g : Gh) (M0 : Mem) (a0 : Nat) (p1 : Int32) (post : Int32 → Mem → Prop)  (x2 : Int32)  (M : Mem) : Prop :=
  ((x2 = (-1)) → post ((-1) - (mI M a0 10)) M) ∧ (¬ (x2 = (-1)) → ∃ q2, mR M a0 19 = some q2 ∧ (okc (gB g) M0 q2 14 ∧ (vp_in (mI M a0 16) (mN M0 q2) ∧ (∀ M6, M6 = uI M q2 (Int32.toNatClampNeg (mI M a0 16)) p1 → (∃ q8, mR M6 a0 20 = some q8 ∧ (okc (gB g) M0 q8 14 ∧ (vp_in (mI M6 a0 16) (mN M0 q8) ∧ (∀ M12, M12 = uI M6 q8 (Int32.toNatClampNeg (mI M6 a0 16)) 0 → (∃ q14, mR M12 a0 21 = some q14 ∧ (okc (gB g) M0 q14 14 ∧ (vp_in (mI M12 a0 16) (mN M0 q14) ∧ (∀ M18, M18 = uI M12 q14 (Int32.toNatClampNeg (mI M12 a0 16)) 0 → (∃ q20, mR M18 a0 22 = some q20 ∧ (okc (gB g) M0 q20 14 ∧ (vp_in (mI M18 a0 16) (mN M0 q20) ∧ (∀ M24, M24 = uI M18 q20 (Int32.toNatClampNeg (mI M18 a0 16)) 0 → (∃ q26, mR M24 a0 23 = some q26 ∧ (okc (gB g) M0 q26 17 ∧ (vp_in (mI M24 a0 16) (mN M0 q26) ∧ (∀ M30, M30 = uI M24 q26 (Int32.toNatClampNeg (mI M24 a0 16)) (vp_nar .boolean 0) → (∀ M32, M32 = uI M30 a0 16 ((mI M30 a0 16) + 1) → (post ((mI M32 a0 16) - 1) M32))))))))))))))))))))))
set_option maxRecDepth 100000 in
def wp_X12_question  (g : Gh) (M0 : Mem) (a0 : Nat) (p1 : Int32) (post : Int32 → Mem → Prop) : Prop :=
  okc (gB g) M0 a0 12 ∧ (∀ M34, M34 = uI M0 a0 0 0 → (∀ M36, M36 = uI M34 a0 3 (mI M34 a0 2) → (∀ M38, M38 = uI M36 a0 2 0 → ((((mI M38 a0 16) = 60) → post (-300) M38) ∧ (¬ ((mI M38 a0 16) = 60) → ((p1 < 0) → post (-300) M38) ∧ (¬ (p1 < 0) → ((p1 < 8) → ∀ M43, M43 = uI M38 a0 4 0 → (∀ M45, M45 = uI M43 a0 17 0 → (∀ M47, M47 = uI M45 a0 18 0 → (∀ M49, M49 = uI M47 a0 9 0 → (wp_X12_go g M49 a0 1 (fun M52 => wpForm 8 g M52 a0 (fun v53 M54 => ((v53 = (-1)) → lb_X12_question_89  g M0 a0 p1 post  v53 M54) ∧ (¬ (v53 = (-1)) → (((mI M54 a0 6) = 0) → lb_X12_question_89  g M0 a0 p1 post  v53 M54) ∧ (¬ ((mI M54 a0 6) = 0) → wp_X12_none g M54 a0 1 (fun v57 M58 => lb_X12_question_89  g M0 a0 p1 post  v57 M58)))))))))) ∧ (¬ (p1 < 8) → post (-300) M38)))))))
set_option maxHeartbeats 4000000 in
set_option maxRecDepth 100000 in
theorem lt_X12_question_89 {l : Launch} {g : Gh} {p : Program} {e : Env} {s : State} {m : MethodId} {args : Array Value} {below : List Frame} {meth : Method} {c : Code} {H : Heap} {locs : List Loc} {ls : Array Slot} {M0 M : Mem} {a0 : Nat} {p1 : Int32} {post : Int32 → Mem → Prop} {x2 : Int32}   (C : Cx g p s m args c cX12_question 3 RX12) (hr : meth.sig.returnType = (some .int)) (hlk : meth.locks = false) (hn : meth.name = "question") (h0 : okc (gB g) M0 a0 12)  (hq : lb_X12_question_89  g M0 a0 p1 post  x2 M) (hw : Wd g s M0 M H locs) (hl : lv_has ls 3 [(0, .ref a0), (1, .int p1), (2, .int x2)]) : W p l e (rmo 209 0 0) s m args below meth c H locs 0 0 (MQ below (Cq g M0 (pI post)) args s 0 0 (gA g)) (F0 m 89 ls []) := by
  have hx := C.1.1
  have hb := C.1.2.1
  unfold lb_X12_question_89 at hq
  refine lv_iload_n hx hb dX12_question_89 rfl (lv_at hl 2 rfl) ?_
  refine lv_iconst (v := (-1)) hx hb dX12_question_90 (by decide) ?_
  refine lv_icmp_ne (tgt := 101) hx hb dX12_question_91 (by decide) (fun c1 => ?_) (fun c1 => ?_)
  · replace hq := hq.2 c1
    refine lv_aload_n hx hb dX12_question_101 rfl (lv_at hl 0 rfl) ?_
    obtain ⟨q2, e3, hq⟩ := hq
    refine gfX12_29 C hw hw.2.2.1 h0 e3 dX12_question_102 ?_
    refine lv_aload_n hx hb dX12_question_105 rfl (lv_at hl 0 rfl) ?_
    refine gfX12_181 C hw hw.2.2.1 h0 dX12_question_106 ?_
    refine lv_iload_n hx hb dX12_question_109 rfl (lv_at hl 1 rfl) ?_
    obtain ⟨h4, hq⟩ := hq
    obtain ⟨h5, hq⟩ := hq
    refine q_iast C hw hw.2.2.1 h4 h5 dX12_question_110 (fun H locs hw => ?_)
    generalize e7 : uI M q2 (Int32.toNatClampNeg (mI M a0 16)) p1 = M6 at hw
    replace hq := hq M6 e7.symm
    have e3 : mR M6 a0 19 = some q2 := by rw [← e7, mR_uI]; exact e3
    refine lv_aload_n hx hb dX12_question_111 rfl (lv_at hl 0 rfl) ?_
    obtain ⟨q8, e9, hq⟩ := hq
    refine gfX12_32 C hw hw.2.2.1 h0 e9 dX12_question_112 ?_
    refine lv_aload_n hx hb dX12_question_115 rfl (lv_at hl 0 rfl) ?_
    refine gfX12_181 C hw hw.2.2.1 h0 dX12_question_116 ?_
    refine lv_iconst (v := 0) hx hb dX12_question_119 (by decide) ?_
    obtain ⟨h10, hq⟩ := hq
    obtain ⟨h11, hq⟩ := hq
    refine q_iast C hw hw.2.2.1 h10 h11 dX12_question_120 (fun H locs hw => ?_)
    generalize e13 : uI M6 q8 (Int32.toNatClampNeg (mI M6 a0 16)) 0 = M12 at hw
    replace hq := hq M12 e13.symm
    have e3 : mR M12 a0 19 = some q2 := by rw [← e13, mR_uI]; exact e3
    have e9 : mR M12 a0 20 = some q8 := by rw [← e13, mR_uI]; exact e9
    refine lv_aload_n hx hb dX12_question_121 rfl (lv_at hl 0 rfl) ?_
    obtain ⟨q14, e15, hq⟩ := hq
    refine gfX12_35 C hw hw.2.2.1 h0 e15 dX12_question_122 ?_
    refine lv_aload_n hx hb dX12_question_125 rfl (lv_at hl 0 rfl) ?_
    refine gfX12_181 C hw hw.2.2.1 h0 dX12_question_126 ?_
    refine lv_iconst (v := 0) hx hb dX12_question_129 (by decide) ?_
    obtain ⟨h16, hq⟩ := hq
    obtain ⟨h17, hq⟩ := hq
    refine q_iast C hw hw.2.2.1 h16 h17 dX12_question_130 (fun H locs hw => ?_)
    generalize e19 : uI M12 q14 (Int32.toNatClampNeg (mI M12 a0 16)) 0 = M18 at hw
    replace hq := hq M18 e19.symm
    have e3 : mR M18 a0 19 = some q2 := by rw [← e19, mR_uI]; exact e3
    have e9 : mR M18 a0 20 = some q8 := by rw [← e19, mR_uI]; exact e9
    have e15 : mR M18 a0 21 = some q14 := by rw [← e19, mR_uI]; exact e15
    refine lv_aload_n hx hb dX12_question_131 rfl (lv_at hl 0 rfl) ?_
    obtain ⟨q20, e21, hq⟩ := hq
    refine gfX12_38 C hw hw.2.2.1 h0 e21 dX12_question_132 ?_
    refine lv_aload_n hx hb dX12_question_135 rfl (lv_at hl 0 rfl) ?_
    refine gfX12_181 C hw hw.2.2.1 h0 dX12_question_136 ?_
    refine lv_iconst (v := 0) hx hb dX12_question_139 (by decide) ?_
    obtain ⟨h22, hq⟩ := hq
    obtain ⟨h23, hq⟩ := hq
    refine q_iast C hw hw.2.2.1 h22 h23 dX12_question_140 (fun H locs hw => ?_)
    generalize e25 : uI M18 q20 (Int32.toNatClampNeg (mI M18 a0 16)) 0 = M24 at hw
    replace hq := hq M24 e25.symm
    have e3 : mR M24 a0 19 = some q2 := by rw [← e25, mR_uI]; exact e3
    have e9 : mR M24 a0 20 = some q8 := by rw [← e25, mR_uI]; exact e9
    have e15 : mR M24 a0 21 = some q14 := by rw [← e25, mR_uI]; exact e15
    have e21 : mR M24 a0 22 = some q20 := by rw [← e25, mR_uI]; exact e21
    refine lv_aload_n hx hb dX12_question_141 rfl (lv_at hl 0 rfl) ?_
    obtain ⟨q26, e27, hq⟩ := hq
    refine gfX12_41 C hw hw.2.2.1 h0 e27 dX12_question_142 ?_
    refine lv_aload_n hx hb dX12_question_145 rfl (lv_at hl 0 rfl) ?_
    refine gfX12_181 C hw hw.2.2.1 h0 dX12_question_146 ?_
    refine lv_iconst (v := 0) hx hb dX12_question_149 (by decide) ?_
    obtain ⟨h28, hq⟩ := hq
    obtain ⟨h29, hq⟩ := hq
    refine q_zast C hw hw.2.2.1 h28 h29 dX12_question_150 (fun H locs hw => ?_)
    generalize e31 : uI M24 q26 (Int32.toNatClampNeg (mI M24 a0 16)) (vp_nar .boolean 0) = M30 at hw
    replace hq := hq M30 e31.symm
    have e3 : mR M30 a0 19 = some q2 := by rw [← e31, mR_uI]; exact e3
    have e9 : mR M30 a0 20 = some q8 := by rw [← e31, mR_uI]; exact e9
    have e15 : mR M30 a0 21 = some q14 := by rw [← e31, mR_uI]; exact e15
    have e21 : mR M30 a0 22 = some q20 := by rw [← e31, mR_uI]; exact e21
    have e27 : mR M30 a0 23 = some q26 := by rw [← e31, mR_uI]; exact e27
    refine lv_aload_n hx hb dX12_question_151 rfl (lv_at hl 0 rfl) ?_
    refine lv_dup hx hb dX12_question_152 rfl ?_
    refine gfX12_181 C hw hw.2.2.1 h0 dX12_question_153 ?_
    refine lv_iconst (v := 1) hx hb dX12_question_156 (by decide) ?_
    refine lv_iadd hx hb dX12_question_157 ?_
    refine pfX12_181 C hw hw.2.2.1 h0 dX12_question_158 (fun H locs hw => ?_)
    generalize e33 : uI M30 a0 16 ((mI M30 a0 16) + 1) = M32 at hw
    replace hq := hq M32 e33.symm
    have e3 : mR M32 a0 19 = some q2 := by rw [← e33, mR_uI]; exact e3
    have e9 : mR M32 a0 20 = some q8 := by rw [← e33, mR_uI]; exact e9
    have e15 : mR M32 a0 21 = some q14 := by rw [← e33, mR_uI]; exact e15
    have e21 : mR M32 a0 22 = some q20 := by rw [← e33, mR_uI]; exact e21
    have e27 : mR M32 a0 23 = some q26 := by rw [← e33, mR_uI]; exact e27
    refine lv_aload_n hx hb dX12_question_161 rfl (lv_at hl 0 rfl) ?_
    refine gfX12_181 C hw hw.2.2.1 h0 dX12_question_162 ?_
    refine lv_iconst (v := 1) hx hb dX12_question_165 (by decide) ?_
    refine lv_isub hx hb dX12_question_166 ?_
    exact r_iret C hr hlk hw dX12_question_167 (Nat.le_refl _) (Nat.le_refl _) ⟨_, rfl, hq⟩
  · replace hq := hq.1 c1
    refine lv_iconst (v := (-1)) hx hb dX12_question_94 (by decide) ?_
    refine lv_aload_n hx hb dX12_question_95 rfl (lv_at hl 0 rfl) ?_
    refine gfX12_178 C hw hw.2.2.1 h0 dX12_question_96 ?_
    refine lv_isub hx hb dX12_question_99 ?_
    exact r_iret C hr hlk hw dX12_question_100 (Nat.le_refl _) (Nat.le_refl _) ⟨_, rfl, hq⟩
set_option maxHeartbeats 4000000 in
set_option maxRecDepth 100000 in
theorem ct_X12_question {l : Launch} {g : Gh} {M0 : Mem} {a0 : Nat} {p1 : Int32} {post : Int32 → Mem → Prop}  (hq : wp_X12_question  g M0 a0 p1 post) : Ct l g yX12_question cX12_question 3 (some .int) 209 0 0 [.ref a0, .int p1] M0 (pI post) := by
  unfold wp_X12_question at hq
  obtain ⟨h0, hq⟩ := hq
  refine Ct.of (by decide) (Nat.le_of_ble_eq_true rfl) ?_
  intro p e s m below meth c ls C hr hlk hn hl hw
  have hx := C.1.1
  have hb := C.1.2.1
  have hl : lv_has ls 3 [(0, .ref a0), (1, .int p1)] := hl
  refine lv_aload_n hx hb dX12_question_0 rfl (lv_at hl 0 rfl) ?_
  refine lv_iconst (v := 0) hx hb dX12_question_1 (by decide) ?_
  refine pfX12_123 C hw hw.2.2.1 h0 dX12_question_2 (fun H locs hw => ?_)
  generalize e35 : uI M0 a0 0 0 = M34 at hw
  replace hq := hq M34 e35.symm
  refine lv_aload_n hx hb dX12_question_5 rfl (lv_at hl 0 rfl) ?_
  refine lv_aload_n hx hb dX12_question_6 rfl (lv_at hl 0 rfl) ?_
  refine gfX12_127 C hw hw.2.2.1 h0 dX12_question_7 ?_
  refine pfX12_134 C hw hw.2.2.1 h0 dX12_question_10 (fun H locs hw => ?_)
  generalize e37 : uI M34 a0 3 (mI M34 a0 2) = M36 at hw
  replace hq := hq M36 e37.symm
  refine lv_aload_n hx hb dX12_question_13 rfl (lv_at hl 0 rfl) ?_
  refine lv_iconst (v := 0) hx hb dX12_question_14 (by decide) ?_
  refine pfX12_127 C hw hw.2.2.1 h0 dX12_question_15 (fun H locs hw => ?_)
  generalize e39 : uI M36 a0 2 0 = M38 at hw
  replace hq := hq M38 e39.symm
  refine lv_aload_n hx hb dX12_question_18 rfl (lv_at hl 0 rfl) ?_
  refine gfX12_181 C hw hw.2.2.1 h0 dX12_question_19 ?_
  refine lv_bipush (v := 60) hx hb dX12_question_22 (by decide) ?_
  refine lv_icmp_eq (tgt := 37) hx hb dX12_question_24 (by decide) (fun c40 => ?_) (fun c40 => ?_)
  · replace hq := hq.1 c40
    refine lv_sipush (v := (-300)) hx hb dX12_question_37 (by decide) ?_
    exact r_iret C hr hlk hw dX12_question_40 (Nat.le_refl _) (Nat.le_refl _) ⟨_, rfl, hq⟩
  · replace hq := hq.2 c40
    refine lv_iload_n hx hb dX12_question_27 rfl (lv_at hl 1 rfl) ?_
    refine lv_if_lt (tgt := 37) hx hb dX12_question_28 (by decide) (fun c41 => ?_) (fun c41 => ?_)
    · replace hq := hq.1 c41
      refine lv_sipush (v := (-300)) hx hb dX12_question_37 (by decide) ?_
      exact r_iret C hr hlk hw dX12_question_40 (Nat.le_refl _) (Nat.le_refl _) ⟨_, rfl, hq⟩
    · replace hq := hq.2 c41
      refine lv_iload_n hx hb dX12_question_31 rfl (lv_at hl 1 rfl) ?_
      refine lv_bipush (v := 8) hx hb dX12_question_32 (by decide) ?_
      refine lv_icmp_lt (tgt := 41) hx hb dX12_question_34 (by decide) (fun c42 => ?_) (fun c42 => ?_)
      · replace hq := hq.1 c42
        refine lv_aload_n hx hb dX12_question_41 rfl (lv_at hl 0 rfl) ?_
        refine lv_iconst (v := 0) hx hb dX12_question_42 (by decide) ?_
        refine pfX12_137 C hw hw.2.2.1 h0 dX12_question_43 (fun H locs hw => ?_)
        generalize e44 : uI M38 a0 4 0 = M43 at hw
        replace hq := hq M43 e44.symm
        refine lv_aload_n hx hb dX12_question_46 rfl (lv_at hl 0 rfl) ?_
        refine lv_iconst (v := 0) hx hb dX12_question_47 (by decide) ?_
        refine pfX12_184 C hw hw.2.2.1 h0 dX12_question_48 (fun H locs hw => ?_)
        generalize e46 : uI M43 a0 17 0 = M45 at hw
        replace hq := hq M45 e46.symm
        refine lv_aload_n hx hb dX12_question_51 rfl (lv_at hl 0 rfl) ?_
        refine lv_iconst (v := 0) hx hb dX12_question_52 (by decide) ?_
        refine pfX12_219 C hw hw.2.2.1 h0 dX12_question_53 (fun H locs hw => ?_)
        generalize e48 : uI M45 a0 18 0 = M47 at hw
        replace hq := hq M47 e48.symm
        refine lv_aload_n hx hb dX12_question_56 rfl (lv_at hl 0 rfl) ?_
        refine lv_iconst (v := 0) hx hb dX12_question_57 (by decide) ?_
        refine pfX12_175 C hw hw.2.2.1 h0 dX12_question_58 (fun H locs hw => ?_)
        generalize e50 : uI M47 a0 9 0 = M49 at hw
        replace hq := hq M49 e50.symm
        refine lv_aload_n hx hb dX12_question_61 rfl (lv_at hl 0 rfl) ?_
        refine lv_iconst (v := 1) hx hb dX12_question_62 (by decide) ?_
        refine r_callV (T := TX12) (N := 67) (ci := 12) (index := 202) (n := 1) (d2 := 2) (mc := 0) (ms := 0) (As := [.int 1]) (rest := []) C hw (ct_X12_go hq) kvX12_202 hq.1 (by decide) rfl ⟨by decide, by decide⟩ ⟨by decide, by decide⟩ rfl hl.1 rfl (Nat.le_of_ble_eq_true rfl) dX12_question_63 (fun r M52 H locs hp hle hw => ?_)
        obtain ⟨rfl, hq⟩ := hp
        refine W.eq (g2 := F0 m 66 ls []) rfl ?_
        refine lv_aload_n hx hb dX12_question_66 rfl (lv_at hl 0 rfl) ?_
        refine r_callV (T := TX12) (N := 67) (ci := 12) (index := 222) (n := 0) (d2 := 208) (mc := 0) (ms := 0) (As := []) (rest := []) C hw (ctForm 8 hq) kvX12_222 (h0.up hw.2.2.1) (by decide) rfl ⟨by decide, by decide⟩ ⟨by decide, by decide⟩ rfl hl.1 rfl (Nat.le_of_ble_eq_true rfl) dX12_question_67 (fun r M54 H locs hp hle hw => ?_)
        obtain ⟨v53, rfl, hq⟩ := hp
        refine W.eq (g2 := F0 m 70 ls [.int v53]) rfl ?_
        refine lv_istore_n (lv' := [(2, .int v53), (0, .ref a0), (1, .int p1)]) hx hb dX12_question_70 rfl hl (by decide) rfl (fun ls hl => ?_)
        refine lv_iload_n hx hb dX12_question_71 rfl (lv_at hl 0 rfl) ?_
        refine lv_iconst (v := (-1)) hx hb dX12_question_72 (by decide) ?_
        refine lv_icmp_eq (tgt := 89) hx hb dX12_question_73 (by decide) (fun c55 => ?_) (fun c55 => ?_)
        · replace hq := hq.1 c55
          exact lt_X12_question_89  C hr hlk hn h0  hq hw (lv_sub hl [1, 2, 0] rfl)
        · replace hq := hq.2 c55
          refine lv_aload_n hx hb dX12_question_76 rfl (lv_at hl 1 rfl) ?_
          refine gfX12_143 C hw hw.2.2.1 h0 dX12_question_77 ?_
          refine lv_if_eq (tgt := 89) hx hb dX12_question_80 (by decide) (fun c56 => ?_) (fun c56 => ?_)
          · replace hq := hq.1 c56
            exact lt_X12_question_89  C hr hlk hn h0  hq hw (lv_sub hl [1, 2, 0] rfl)
          · replace hq := hq.2 c56
            refine lv_aload_n hx hb dX12_question_83 rfl (lv_at hl 1 rfl) ?_
            refine lv_iconst (v := 1) hx hb dX12_question_84 (by decide) ?_
            refine r_callV (T := TX12) (N := 67) (ci := 12) (index := 216) (n := 1) (d2 := 1) (mc := 0) (ms := 0) (As := [.int 1]) (rest := []) C hw (ct_X12_none hq) kvX12_216 hq.1 (by decide) rfl ⟨by decide, by decide⟩ ⟨by decide, by decide⟩ rfl hl.1 rfl (Nat.le_of_ble_eq_true rfl) dX12_question_85 (fun r M58 H locs hp hle hw => ?_)
            obtain ⟨v57, rfl, hq⟩ := hp
            refine W.eq (g2 := F0 m 88 ls [.int v57]) rfl ?_
            refine lv_istore_n (lv' := [(2, .int v57), (0, .ref a0), (1, .int p1)]) hx hb dX12_question_88 rfl hl (by decide) rfl (fun ls hl => ?_)
            exact lt_X12_question_89  C hr hlk hn h0  hq hw (lv_sub hl [1, 2, 0] rfl)
      · replace hq := hq.2 c42
        refine lv_sipush (v := (-300)) hx hb dX12_question_37 (by decide) ?_
        exact r_iret C hr hlk hw dX12_question_40 (Nat.le_refl _) (Nat.le_refl _) ⟨_, rfl, hq⟩
