set_option maxRecDepth 100000 in
def wp_X4_faultOfHead  (g : Gh) (M0 : Mem) (a0 : Nat) (a1 : Nat) (post : Int32 → Mem → Prop) : Prop :=
  okc (gB g) M0 a0 4 ∧ (wp_X10_isWord g M0 a1 (gK g 3) (fun v1 M2 => ((v1 = 0) → post 1 M2) ∧ (¬ (v1 = 0) → (((mI M2 a0 0) < 6) → wp_X10_readNext g M2 a1 (gK g 2) (fun M6 => wp_X4_faultOfNumber g M6 a1 1 8 (fun v7 M8 => ((v7 = 0) → ∃ q10, mR M8 a0 2 = some q10 ∧ (okc (gB g) M0 a1 10 ∧ (okc (gB g) M0 q10 14 ∧ (vp_in (mI M8 a0 0) (mN M0 q10) ∧ (∀ M15, M15 = uI M8 q10 (Int32.toNatClampNeg (mI M8 a0 0)) (Int64.toInt32 (mJ M8 a1 4)) → (wp_X10_readNext g M15 a1 (gK g 2) (fun M18 => ∃ q19, mR M18 a0 3 = some q19 ∧ (wp_X10_isWord g M18 a1 (gK g 4) (fun v21 M22 => okc (gB g) M0 q19 17 ∧ (vp_in (mI M18 a0 0) (mN M0 q19) ∧ (∀ M25, M25 = uI M22 q19 (Int32.toNatClampNeg (mI M18 a0 0)) (vp_nar .boolean v21) → (∃ q27, mR M25 a0 3 = some q27 ∧ (okc (gB g) M0 q27 17 ∧ (vp_in (mI M25 a0 0) (mN M0 q27) ∧ ((((mI M25 q27 (Int32.toNatClampNeg (mI M25 a0 0))) = 0) → wp_X10_isWord g M25 a1 (gK g 5) (fun v34 M35 => ((v34 = 0) → post 1 M35) ∧ (¬ (v34 = 0) → wp_X10_readNext g M35 a1 (gK g 2) (fun M38 => post 0 M38)))) ∧ (¬ ((mI M25 q27 (Int32.toNatClampNeg (mI M25 a0 0))) = 0) → wp_X10_readNext g M25 a1 (gK g 2) (fun M33 => post 0 M33))))))))))))))))) ∧ (¬ (v7 = 0) → post v7 M8)))) ∧ (¬ ((mI M2 a0 0) < 6) → post 3 M2))))
set_option maxHeartbeats 4000000 in
set_option maxRecDepth 100000 in
theorem ct_X4_faultOfHead {l : Launch} {g : Gh} {M0 : Mem} {a0 : Nat} {a1 : Nat} {post : Int32 → Mem → Prop}  (hq : wp_X4_faultOfHead  g M0 a0 a1 post) : Ct l g yX4_faultOfHead cX4_faultOfHead 3 (some .int) 9 0 0 [.ref a0, .ref a1] M0 (pI post) := by
  unfold wp_X4_faultOfHead at hq
  obtain ⟨h0, hq⟩ := hq
  refine Ct.of (by decide) (Nat.le_of_ble_eq_true rfl) ?_
  intro p e s m below meth c ls C hr hlk hn hl hw
  have hx := C.1.1
  have hb := C.1.2.1
  have hl : lv_has ls 3 [(0, .ref a0), (1, .ref a1)] := hl
  refine lv_aload_n hx hb dX4_faultOfHead_0 rfl (lv_at hl 1 rfl) ?_
  refine va_ldcS hx hb C.1.2.2.2.1 (C.2.2.2.2.1.2.1 3 _ rfl) dX4_faultOfHead_1 ?_
  refine r_callV (T := TX10) (N := 6) (ci := 10) (index := 66) (n := 1) (d2 := 5) (mc := 0) (ms := 0) (As := [.ref (gK g 3)]) (rest := []) C hw (ct_X10_isWord hq) kvX4_66 hq.1 (by decide) rfl ⟨by decide, by decide⟩ ⟨by decide, by decide⟩ rfl hl.1 rfl (Nat.le_of_ble_eq_true rfl) dX4_faultOfHead_3 (fun r M2 H locs hp hle hw => ?_)
  obtain ⟨v1, rfl, hq⟩ := hp
  refine W.eq (g2 := F0 m 6 ls [.int v1]) rfl ?_
  refine lv_if_ne (tgt := 11) hx hb dX4_faultOfHead_6 (by decide) (fun c3 => ?_) (fun c3 => ?_)
  · replace hq := hq.2 c3
    refine lv_aload_n hx hb dX4_faultOfHead_11 rfl (lv_at hl 0 rfl) ?_
    refine gfX4_28 C hw hw.2.2.1 h0 dX4_faultOfHead_12 ?_
    refine lv_bipush (v := 6) hx hb dX4_faultOfHead_15 (by decide) ?_
    refine lv_icmp_lt (tgt := 22) hx hb dX4_faultOfHead_17 (by decide) (fun c4 => ?_) (fun c4 => ?_)
    · replace hq := hq.1 c4
      refine lv_aload_n hx hb dX4_faultOfHead_22 rfl (lv_at hl 1 rfl) ?_
      refine va_ldcS hx hb C.1.2.2.2.1 (C.2.2.2.2.1.2.1 2 _ rfl) dX4_faultOfHead_23 ?_
      refine r_callV (T := TX10) (N := 6) (ci := 10) (index := 48) (n := 1) (d2 := 8) (mc := 0) (ms := 0) (As := [.ref (gK g 2)]) (rest := []) C hw (ct_X10_readNext hq) kvX4_48 hq.1 (by decide) rfl ⟨by decide, by decide⟩ ⟨by decide, by decide⟩ rfl hl.1 rfl (Nat.le_of_ble_eq_true rfl) dX4_faultOfHead_25 (fun r M6 H locs hp hle hw => ?_)
      obtain ⟨rfl, hq⟩ := hp
      refine W.eq (g2 := F0 m 28 ls []) rfl ?_
      refine lv_aload_n hx hb dX4_faultOfHead_28 rfl (lv_at hl 1 rfl) ?_
      refine lv_iconst (v := 1) hx hb dX4_faultOfHead_29 (by decide) ?_
      refine lv_bipush (v := 8) hx hb dX4_faultOfHead_30 (by decide) ?_
      refine r_callS (index := 70) (n := 3) (d2 := 0) (mc := 0) (ms := 0) (As := [.ref a1, .int 1, .int 8]) (rest := []) C hw (ct_X4_faultOfNumber hq) ksX4_70 ⟨by decide, by decide⟩ ⟨by decide, by decide⟩ rfl hl.1 rfl (Nat.le_of_ble_eq_true rfl) dX4_faultOfHead_32 (fun r M8 H locs hp hle hw => ?_)
      obtain ⟨v7, rfl, hq⟩ := hp
      refine W.eq (g2 := F0 m 35 ls [.int v7]) rfl ?_
      refine lv_istore_n (lv' := [(2, .int v7), (0, .ref a0), (1, .ref a1)]) hx hb dX4_faultOfHead_35 rfl hl (by decide) rfl (fun ls hl => ?_)
      refine lv_iload_n hx hb dX4_faultOfHead_36 rfl (lv_at hl 0 rfl) ?_
      refine lv_if_eq (tgt := 42) hx hb dX4_faultOfHead_37 (by decide) (fun c9 => ?_) (fun c9 => ?_)
      · replace hq := hq.1 c9
        refine lv_aload_n hx hb dX4_faultOfHead_42 rfl (lv_at hl 1 rfl) ?_
        obtain ⟨q10, e11, hq⟩ := hq
        refine gfX4_11 C hw hw.2.2.1 h0 e11 dX4_faultOfHead_43 ?_
        refine lv_aload_n hx hb dX4_faultOfHead_46 rfl (lv_at hl 1 rfl) ?_
        refine gfX4_28 C hw hw.2.2.1 h0 dX4_faultOfHead_47 ?_
        refine lv_aload_n hx hb dX4_faultOfHead_50 rfl (lv_at hl 2 rfl) ?_
        obtain ⟨h12, hq⟩ := hq
        refine gfX4_74 C hw hw.2.2.1 h12 dX4_faultOfHead_51 ?_
        refine lv_l2i (v := (Int64.toInt32 (mJ M8 a1 4))) hx hb dX4_faultOfHead_54 rfl ?_
        obtain ⟨h13, hq⟩ := hq
        obtain ⟨h14, hq⟩ := hq
        refine q_iast C hw hw.2.2.1 h13 h14 dX4_faultOfHead_55 (fun H locs hw => ?_)
        generalize e16 : uI M8 q10 (Int32.toNatClampNeg (mI M8 a0 0)) (Int64.toInt32 (mJ M8 a1 4)) = M15 at hw
        replace hq := hq M15 e16.symm
        have e11 : mR M15 a0 2 = some q10 := by rw [← e16, mR_uI]; exact e11
        refine lv_aload_n hx hb dX4_faultOfHead_56 rfl (lv_at hl 2 rfl) ?_
        refine va_ldcS hx hb C.1.2.2.2.1 (C.2.2.2.2.1.2.1 2 _ rfl) dX4_faultOfHead_57 ?_
        refine r_callV (T := TX10) (N := 6) (ci := 10) (index := 48) (n := 1) (d2 := 8) (mc := 0) (ms := 0) (As := [.ref (gK g 2)]) (rest := []) C hw (ct_X10_readNext hq) kvX4_48 hq.1 (by decide) rfl ⟨by decide, by decide⟩ ⟨by decide, by decide⟩ rfl hl.1 rfl (Nat.le_of_ble_eq_true rfl) dX4_faultOfHead_59 (fun r M18 H locs hp hle hw => ?_)
        obtain ⟨rfl, hq⟩ := hp
        refine W.eq (g2 := F0 m 62 ls []) rfl ?_
        refine lv_aload_n hx hb dX4_faultOfHead_62 rfl (lv_at hl 1 rfl) ?_
        obtain ⟨q19, e20, hq⟩ := hq
        refine gfX4_15 C hw hw.2.2.1 h0 e20 dX4_faultOfHead_63 ?_
        refine lv_aload_n hx hb dX4_faultOfHead_66 rfl (lv_at hl 1 rfl) ?_
        refine gfX4_28 C hw hw.2.2.1 h0 dX4_faultOfHead_67 ?_
        refine lv_aload_n hx hb dX4_faultOfHead_70 rfl (lv_at hl 2 rfl) ?_
        refine va_ldcS hx hb C.1.2.2.2.1 (C.2.2.2.2.1.2.1 4 _ rfl) dX4_faultOfHead_71 ?_
        refine r_callV (T := TX10) (N := 6) (ci := 10) (index := 66) (n := 1) (d2 := 5) (mc := 0) (ms := 0) (As := [.ref (gK g 4)]) (rest := [.int (mI M18 a0 0), .ref q19]) C hw (ct_X10_isWord hq) kvX4_66 hq.1 (by decide) rfl ⟨by decide, by decide⟩ ⟨by decide, by decide⟩ rfl hl.1 rfl (Nat.le_of_ble_eq_true rfl) dX4_faultOfHead_73 (fun r M22 H locs hp hle hw => ?_)
        obtain ⟨v21, rfl, hq⟩ := hp
        refine W.eq (g2 := F0 m 76 ls [.int v21, .int (mI M18 a0 0), .ref q19]) rfl ?_
        obtain ⟨h23, hq⟩ := hq
        obtain ⟨h24, hq⟩ := hq
        refine q_zast C hw hw.2.2.1 h23 h24 dX4_faultOfHead_76 (fun H locs hw => ?_)
        generalize e26 : uI M22 q19 (Int32.toNatClampNeg (mI M18 a0 0)) (vp_nar .boolean v21) = M25 at hw
        replace hq := hq M25 e26.symm
        refine lv_aload_n hx hb dX4_faultOfHead_77 rfl (lv_at hl 1 rfl) ?_
        obtain ⟨q27, e28, hq⟩ := hq
        refine gfX4_15 C hw hw.2.2.1 h0 e28 dX4_faultOfHead_78 ?_
        refine lv_aload_n hx hb dX4_faultOfHead_81 rfl (lv_at hl 1 rfl) ?_
        refine gfX4_28 C hw hw.2.2.1 h0 dX4_faultOfHead_82 ?_
        obtain ⟨h29, hq⟩ := hq
        obtain ⟨h30, hq⟩ := hq
        refine q_zald C hw hw.2.2.1 h29 h30 dX4_faultOfHead_85 ?_
        refine lv_if_ne (tgt := 100) hx hb dX4_faultOfHead_86 (by decide) (fun c31 => ?_) (fun c31 => ?_)
        · replace hq := hq.2 c31
          refine lv_aload_n hx hb dX4_faultOfHead_100 rfl (lv_at hl 2 rfl) ?_
          refine va_ldcS hx hb C.1.2.2.2.1 (C.2.2.2.2.1.2.1 2 _ rfl) dX4_faultOfHead_101 ?_
          refine r_callV (T := TX10) (N := 6) (ci := 10) (index := 48) (n := 1) (d2 := 8) (mc := 0) (ms := 0) (As := [.ref (gK g 2)]) (rest := []) C hw (ct_X10_readNext hq) kvX4_48 hq.1 (by decide) rfl ⟨by decide, by decide⟩ ⟨by decide, by decide⟩ rfl hl.1 rfl (Nat.le_of_ble_eq_true rfl) dX4_faultOfHead_103 (fun r M33 H locs hp hle hw => ?_)
          obtain ⟨rfl, hq⟩ := hp
          refine W.eq (g2 := F0 m 106 ls []) rfl ?_
          refine lv_iconst (v := 0) hx hb dX4_faultOfHead_106 (by decide) ?_
          exact r_iret C hr hlk hw dX4_faultOfHead_107 (Nat.le_refl _) (Nat.le_refl _) ⟨_, rfl, hq⟩
        · replace hq := hq.1 c31
          refine lv_aload_n hx hb dX4_faultOfHead_89 rfl (lv_at hl 2 rfl) ?_
          refine va_ldcS hx hb C.1.2.2.2.1 (C.2.2.2.2.1.2.1 5 _ rfl) dX4_faultOfHead_90 ?_
          refine r_callV (T := TX10) (N := 6) (ci := 10) (index := 66) (n := 1) (d2 := 5) (mc := 0) (ms := 0) (As := [.ref (gK g 5)]) (rest := []) C hw (ct_X10_isWord hq) kvX4_66 hq.1 (by decide) rfl ⟨by decide, by decide⟩ ⟨by decide, by decide⟩ rfl hl.1 rfl (Nat.le_of_ble_eq_true rfl) dX4_faultOfHead_92 (fun r M35 H locs hp hle hw => ?_)
          obtain ⟨v34, rfl, hq⟩ := hp
          refine W.eq (g2 := F0 m 95 ls [.int v34]) rfl ?_
          refine lv_if_ne (tgt := 100) hx hb dX4_faultOfHead_95 (by decide) (fun c36 => ?_) (fun c36 => ?_)
          · replace hq := hq.2 c36
            refine lv_aload_n hx hb dX4_faultOfHead_100 rfl (lv_at hl 2 rfl) ?_
            refine va_ldcS hx hb C.1.2.2.2.1 (C.2.2.2.2.1.2.1 2 _ rfl) dX4_faultOfHead_101 ?_
            refine r_callV (T := TX10) (N := 6) (ci := 10) (index := 48) (n := 1) (d2 := 8) (mc := 0) (ms := 0) (As := [.ref (gK g 2)]) (rest := []) C hw (ct_X10_readNext hq) kvX4_48 hq.1 (by decide) rfl ⟨by decide, by decide⟩ ⟨by decide, by decide⟩ rfl hl.1 rfl (Nat.le_of_ble_eq_true rfl) dX4_faultOfHead_103 (fun r M38 H locs hp hle hw => ?_)
            obtain ⟨rfl, hq⟩ := hp
            refine W.eq (g2 := F0 m 106 ls []) rfl ?_
            refine lv_iconst (v := 0) hx hb dX4_faultOfHead_106 (by decide) ?_
            exact r_iret C hr hlk hw dX4_faultOfHead_107 (Nat.le_refl _) (Nat.le_refl _) ⟨_, rfl, hq⟩
          · replace hq := hq.1 c36
            refine lv_iconst (v := 1) hx hb dX4_faultOfHead_98 (by decide) ?_
            exact r_iret C hr hlk hw dX4_faultOfHead_99 (Nat.le_refl _) (Nat.le_refl _) ⟨_, rfl, hq⟩
      · replace hq := hq.2 c9
        refine lv_iload_n hx hb dX4_faultOfHead_40 rfl (lv_at hl 0 rfl) ?_
        exact r_iret C hr hlk hw dX4_faultOfHead_41 (Nat.le_refl _) (Nat.le_refl _) ⟨_, rfl, hq⟩
    · replace hq := hq.2 c4
      refine lv_iconst (v := 3) hx hb dX4_faultOfHead_20 (by decide) ?_
      exact r_iret C hr hlk hw dX4_faultOfHead_21 (Nat.le_refl _) (Nat.le_refl _) ⟨_, rfl, hq⟩
  · replace hq := hq.1 c3
    refine lv_iconst (v := 1) hx hb dX4_faultOfHead_9 (by decide) ?_
    exact r_iret C hr hlk hw dX4_faultOfHead_10 (Nat.le_refl _) (Nat.le_refl _) ⟨_, rfl, hq⟩

set_option maxRecDepth 100000 in
def wp_X4_readPoints  (g : Gh) (M0 : Mem) (a0 : Nat) (a1 : Nat) (p2 : Int32) (post : Int32 → Mem → Prop) : Prop :=
  wp_X10_readNext g M0 a0 (gK g 2) (fun M2 => wp_X4_faultOfNumber g M2 a0 0 20 (fun v3 M4 => ((v3 = 0) → ((p2 < 0) → post v3 M4) ∧ (¬ (p2 < 0) → okc (gB g) M0 a1 14 ∧ ((((nI (mN M0 a1)) ≤ p2) → post v3 M4) ∧ (¬ ((nI (mN M0 a1)) ≤ p2) → okc (gB g) M0 a0 10 ∧ (vp_in p2 (mN M0 a1) ∧ (∀ M11, M11 = uI M4 a1 (Int32.toNatClampNeg p2) (Int64.toInt32 (mJ M4 a0 4)) → (wp_X10_readNext g M11 a0 (gK g 2) (fun M14 => post v3 M14)))))))) ∧ (¬ (v3 = 0) → post v3 M4)))
set_option maxHeartbeats 4000000 in
set_option maxRecDepth 100000 in
theorem ct_X4_readPoints {l : Launch} {g : Gh} {M0 : Mem} {a0 : Nat} {a1 : Nat} {p2 : Int32} {post : Int32 → Mem → Prop}  (hq : wp_X4_readPoints  g M0 a0 a1 p2 post) : Ct l g yX4_readPoints cX4_readPoints 4 (some .int) 9 0 0 [.ref a0, .ref a1, .int p2] M0 (pI post) := by
  unfold wp_X4_readPoints at hq
  refine Ct.of (by decide) (Nat.le_of_ble_eq_true rfl) ?_
  intro p e s m below meth c ls C hr hlk hn hl hw
  have hx := C.1.1
  have hb := C.1.2.1
  have hl : lv_has ls 4 [(0, .ref a0), (1, .ref a1), (2, .int p2)] := hl
  refine lv_aload_n hx hb dX4_readPoints_0 rfl (lv_at hl 0 rfl) ?_
  refine va_ldcS hx hb C.1.2.2.2.1 (C.2.2.2.2.1.2.1 2 _ rfl) dX4_readPoints_1 ?_
  refine r_callV (T := TX10) (N := 6) (ci := 10) (index := 48) (n := 1) (d2 := 8) (mc := 0) (ms := 0) (As := [.ref (gK g 2)]) (rest := []) C hw (ct_X10_readNext hq) kvX4_48 hq.1 (by decide) rfl ⟨by decide, by decide⟩ ⟨by decide, by decide⟩ rfl hl.1 rfl (Nat.le_of_ble_eq_true rfl) dX4_readPoints_3 (fun r M2 H locs hp hle hw => ?_)
  obtain ⟨rfl, hq⟩ := hp
  refine W.eq (g2 := F0 m 6 ls []) rfl ?_
  refine lv_aload_n hx hb dX4_readPoints_6 rfl (lv_at hl 0 rfl) ?_
  refine lv_iconst (v := 0) hx hb dX4_readPoints_7 (by decide) ?_
  refine lv_bipush (v := 20) hx hb dX4_readPoints_8 (by decide) ?_
  refine r_callS (index := 70) (n := 3) (d2 := 0) (mc := 0) (ms := 0) (As := [.ref a0, .int 0, .int 20]) (rest := []) C hw (ct_X4_faultOfNumber hq) ksX4_70 ⟨by decide, by decide⟩ ⟨by decide, by decide⟩ rfl hl.1 rfl (Nat.le_of_ble_eq_true rfl) dX4_readPoints_10 (fun r M4 H locs hp hle hw => ?_)
  obtain ⟨v3, rfl, hq⟩ := hp
  refine W.eq (g2 := F0 m 13 ls [.int v3]) rfl ?_
  refine lv_istore_n (lv' := [(3, .int v3), (0, .ref a0), (1, .ref a1), (2, .int p2)]) hx hb dX4_readPoints_13 rfl hl (by decide) rfl (fun ls hl => ?_)
  refine lv_iload_n hx hb dX4_readPoints_14 rfl (lv_at hl 0 rfl) ?_
  refine lv_if_ne (tgt := 42) hx hb dX4_readPoints_15 (by decide) (fun c5 => ?_) (fun c5 => ?_)
  · replace hq := hq.2 c5
    refine lv_iload_n hx hb dX4_readPoints_42 rfl (lv_at hl 0 rfl) ?_
    exact r_iret C hr hlk hw dX4_readPoints_43 (Nat.le_refl _) (Nat.le_refl _) ⟨_, rfl, hq⟩
  · replace hq := hq.1 c5
    refine lv_iload_n hx hb dX4_readPoints_18 rfl (lv_at hl 3 rfl) ?_
    refine lv_if_lt (tgt := 42) hx hb dX4_readPoints_19 (by decide) (fun c6 => ?_) (fun c6 => ?_)
    · replace hq := hq.1 c6
      refine lv_iload_n hx hb dX4_readPoints_42 rfl (lv_at hl 0 rfl) ?_
      exact r_iret C hr hlk hw dX4_readPoints_43 (Nat.le_refl _) (Nat.le_refl _) ⟨_, rfl, hq⟩
    · replace hq := hq.2 c6
      refine lv_iload_n hx hb dX4_readPoints_22 rfl (lv_at hl 3 rfl) ?_
      refine lv_aload_n hx hb dX4_readPoints_23 rfl (lv_at hl 2 rfl) ?_
      obtain ⟨h7, hq⟩ := hq
      refine q_alen C hw hw.2.2.1 h7 (by decide) (by decide) rfl dX4_readPoints_24 ?_
      refine lv_icmp_ge (tgt := 42) hx hb dX4_readPoints_25 (by decide) (fun c8 => ?_) (fun c8 => ?_)
      · replace hq := hq.1 c8
        refine lv_iload_n hx hb dX4_readPoints_42 rfl (lv_at hl 0 rfl) ?_
        exact r_iret C hr hlk hw dX4_readPoints_43 (Nat.le_refl _) (Nat.le_refl _) ⟨_, rfl, hq⟩
      · replace hq := hq.2 c8
        refine lv_aload_n hx hb dX4_readPoints_28 rfl (lv_at hl 2 rfl) ?_
        refine lv_iload_n hx hb dX4_readPoints_29 rfl (lv_at hl 3 rfl) ?_
        refine lv_aload_n hx hb dX4_readPoints_30 rfl (lv_at hl 1 rfl) ?_
        obtain ⟨h9, hq⟩ := hq
        refine gfX4_74 C hw hw.2.2.1 h9 dX4_readPoints_31 ?_
        refine lv_l2i (v := (Int64.toInt32 (mJ M4 a0 4))) hx hb dX4_readPoints_34 rfl ?_
        obtain ⟨h10, hq⟩ := hq
        refine q_iast C hw hw.2.2.1 h7 h10 dX4_readPoints_35 (fun H locs hw => ?_)
        generalize e12 : uI M4 a1 (Int32.toNatClampNeg p2) (Int64.toInt32 (mJ M4 a0 4)) = M11 at hw
        replace hq := hq M11 e12.symm
        refine lv_aload_n hx hb dX4_readPoints_36 rfl (lv_at hl 1 rfl) ?_
        refine va_ldcS hx hb C.1.2.2.2.1 (C.2.2.2.2.1.2.1 2 _ rfl) dX4_readPoints_37 ?_
        refine r_callV (T := TX10) (N := 6) (ci := 10) (index := 48) (n := 1) (d2 := 8) (mc := 0) (ms := 0) (As := [.ref (gK g 2)]) (rest := []) C hw (ct_X10_readNext hq) kvX4_48 hq.1 (by decide) rfl ⟨by decide, by decide⟩ ⟨by decide, by decide⟩ rfl hl.1 rfl (Nat.le_of_ble_eq_true rfl) dX4_readPoints_39 (fun r M14 H locs hp hle hw => ?_)
        obtain ⟨rfl, hq⟩ := hp
        refine W.eq (g2 := F0 m 42 ls []) rfl ?_
        refine lv_iload_n hx hb dX4_readPoints_42 rfl (lv_at hl 0 rfl) ?_
        exact r_iret C hr hlk hw dX4_readPoints_43 (Nat.le_refl _) (Nat.le_refl _) ⟨_, rfl, hq⟩

set_option maxRecDepth 100000 in
def lb_X4_faultOfPoints_100  (g : Gh) (M0 : Mem) (a0 : Nat) (a1 : Nat) (p2 : Int32) (post : Int32 → Mem → Prop)  (x3 : Int32)  (M : Mem) : Prop :=
  ((x3 = 0) → okc (gB g) M0 a1 10 ∧ ((((mI M a1 2) = 59) → ∃ q4, mR M a0 2 = some q4 ∧ (okc (gB g) M0 q4 14 ∧ (vp_in p2 (mN M0 q4) ∧ (∀ M8, M8 = uI M a0 1 ((mI M a0 1) + (mI M q4 (Int32.toNatClampNeg p2))) → (∀ M10, M10 = uI M8 a0 0 ((mI M8 a0 0) + 1) → (wp_X10_readNext g M10 a1 (gK g 2) (fun M13 => post 0 M13))))))) ∧ (¬ ((mI M a1 2) = 59) → post 1 M))) ∧ (¬ (x3 = 0) → post x3 M)
set_option maxRecDepth 100000 in
def lb_X4_faultOfPoints_77  (g : Gh) (M0 : Mem) (a0 : Nat) (a1 : Nat) (p2 : Int32) (post : Int32 → Mem → Prop)  (x3 : Int32)  (M : Mem) : Prop :=
  ((x3 = 0) → wp_X10_isWord g M a1 (gK g 8) (fun v15 M16 => ((v15 = 0) → lb_X4_faultOfPoints_100  g M0 a0 a1 p2 post  x3 M16) ∧ (¬ (v15 = 0) → ∃ q18, mR M16 a0 6 = some q18 ∧ (wp_X4_readPoints g M16 a1 q18 p2 (fun v20 M21 => lb_X4_faultOfPoints_100  g M0 a0 a1 p2 post  v20 M21))))) ∧ (¬ (x3 = 0) → lb_X4_faultOfPoints_100  g M0 a0 a1 p2 post  x3 M)
set_option maxRecDepth 100000 in
def wp_X4_faultOfPoints  (g : Gh) (M0 : Mem) (a0 : Nat) (a1 : Nat) (p2 : Int32) (post : Int32 → Mem → Prop) : Prop :=
  okc (gB g) M0 a0 4 ∧ (((p2 < 0) → post 1 M0) ∧ (¬ (p2 < 0) → ((6 ≤ p2) → post 1 M0) ∧ (¬ (6 ≤ p2) → wp_X10_isWord g M0 a1 (gK g 6) (fun v24 M25 => ((v24 = 0) → post 1 M25) ∧ (¬ (v24 = 0) → ∃ q27, mR M25 a0 5 = some q27 ∧ (okc (gB g) M0 q27 14 ∧ (vp_in p2 (mN M0 q27) ∧ (∀ M31, M31 = uI M25 q27 (Int32.toNatClampNeg p2) (-1) → (∃ q33, mR M31 a0 6 = some q33 ∧ (okc (gB g) M0 q33 14 ∧ (vp_in p2 (mN M0 q33) ∧ (∀ M37, M37 = uI M31 q33 (Int32.toNatClampNeg p2) 0 → (∃ q39, mR M37 a0 4 = some q39 ∧ (wp_X4_readPoints g M37 a1 q39 p2 (fun v41 M42 => ((v41 = 0) → ∃ q44, mR M42 a0 3 = some q44 ∧ (okc (gB g) M0 q44 17 ∧ (vp_in p2 (mN M0 q44) ∧ ((((mI M42 q44 (Int32.toNatClampNeg p2)) = 0) → wp_X10_isWord g M42 a1 (gK g 7) (fun v49 M50 => ((v49 = 0) → lb_X4_faultOfPoints_77  g M0 a0 a1 p2 post  v41 M50) ∧ (¬ (v49 = 0) → ∃ q52, mR M50 a0 5 = some q52 ∧ (wp_X4_readPoints g M50 a1 q52 p2 (fun v54 M55 => lb_X4_faultOfPoints_77  g M0 a0 a1 p2 post  v54 M55))))) ∧ (¬ ((mI M42 q44 (Int32.toNatClampNeg p2)) = 0) → lb_X4_faultOfPoints_77  g M0 a0 a1 p2 post  v41 M42))))) ∧ (¬ (v41 = 0) → lb_X4_faultOfPoints_77  g M0 a0 a1 p2 post  v41 M42))))))))))))))))
set_option maxHeartbeats 4000000 in
set_option maxRecDepth 100000 in
theorem lt_X4_faultOfPoints_100 {l : Launch} {g : Gh} {p : Program} {e : Env} {s : State} {m : MethodId} {args : Array Value} {below : List Frame} {meth : Method} {c : Code} {H : Heap} {locs : List Loc} {ls : Array Slot} {M0 M : Mem} {a0 : Nat} {a1 : Nat} {p2 : Int32} {post : Int32 → Mem → Prop} {x3 : Int32}   (C : Cx g p s m args c cX4_faultOfPoints 4 RX4) (hr : meth.sig.returnType = (some .int)) (hlk : meth.locks = false) (hn : meth.name = "faultOfPoints") (h0 : okc (gB g) M0 a0 4)  (hq : lb_X4_faultOfPoints_100  g M0 a0 a1 p2 post  x3 M) (hw : Wd g s M0 M H locs) (hl : lv_has ls 4 [(0, .ref a0), (1, .ref a1), (2, .int p2), (3, .int x3)]) : W p l e (rmo 10 0 0) s m args below meth c H locs 0 0 (MQ below (Cq g M0 (pI post)) args s 0 0 (gA g)) (F0 m 100 ls []) := by
  have hx := C.1.1
  have hb := C.1.2.1
  unfold lb_X4_faultOfPoints_100 at hq
  refine lv_iload_n hx hb dX4_faultOfPoints_100 rfl (lv_at hl 3 rfl) ?_
  refine lv_if_eq (tgt := 106) hx hb dX4_faultOfPoints_101 (by decide) (fun c1 => ?_) (fun c1 => ?_)
  · replace hq := hq.1 c1
    refine lv_aload_n hx hb dX4_faultOfPoints_106 rfl (lv_at hl 1 rfl) ?_
    obtain ⟨h2, hq⟩ := hq
    refine gfX4_52 C hw hw.2.2.1 h2 dX4_faultOfPoints_107 ?_
    refine lv_bipush (v := 59) hx hb dX4_faultOfPoints_110 (by decide) ?_
    refine lv_icmp_eq (tgt := 117) hx hb dX4_faultOfPoints_112 (by decide) (fun c3 => ?_) (fun c3 => ?_)
    · replace hq := hq.1 c3
      refine lv_aload_n hx hb dX4_faultOfPoints_117 rfl (lv_at hl 0 rfl) ?_
      refine lv_dup hx hb dX4_faultOfPoints_118 rfl ?_
      refine gfX4_32 C hw hw.2.2.1 h0 dX4_faultOfPoints_119 ?_
      refine lv_aload_n hx hb dX4_faultOfPoints_122 rfl (lv_at hl 0 rfl) ?_
      obtain ⟨q4, e5, hq⟩ := hq
      refine gfX4_11 C hw hw.2.2.1 h0 e5 dX4_faultOfPoints_123 ?_
      refine lv_iload_n hx hb dX4_faultOfPoints_126 rfl (lv_at hl 2 rfl) ?_
      obtain ⟨h6, hq⟩ := hq
      obtain ⟨h7, hq⟩ := hq
      refine q_iald C hw hw.2.2.1 h6 h7 dX4_faultOfPoints_127 ?_
      refine lv_iadd hx hb dX4_faultOfPoints_128 ?_
      refine pfX4_32 C hw hw.2.2.1 h0 dX4_faultOfPoints_129 (fun H locs hw => ?_)
      generalize e9 : uI M a0 1 ((mI M a0 1) + (mI M q4 (Int32.toNatClampNeg p2))) = M8 at hw
      replace hq := hq M8 e9.symm
      have e5 : mR M8 a0 2 = some q4 := by rw [← e9, mR_uI]; exact e5
      refine lv_aload_n hx hb dX4_faultOfPoints_132 rfl (lv_at hl 0 rfl) ?_
      refine lv_dup hx hb dX4_faultOfPoints_133 rfl ?_
      refine gfX4_28 C hw hw.2.2.1 h0 dX4_faultOfPoints_134 ?_
      refine lv_iconst (v := 1) hx hb dX4_faultOfPoints_137 (by decide) ?_
      refine lv_iadd hx hb dX4_faultOfPoints_138 ?_
      refine pfX4_28 C hw hw.2.2.1 h0 dX4_faultOfPoints_139 (fun H locs hw => ?_)
      generalize e11 : uI M8 a0 0 ((mI M8 a0 0) + 1) = M10 at hw
      replace hq := hq M10 e11.symm
      have e5 : mR M10 a0 2 = some q4 := by rw [← e11, mR_uI]; exact e5
      refine lv_aload_n hx hb dX4_faultOfPoints_142 rfl (lv_at hl 1 rfl) ?_
      refine va_ldcS hx hb C.1.2.2.2.1 (C.2.2.2.2.1.2.1 2 _ rfl) dX4_faultOfPoints_143 ?_
      refine r_callV (T := TX10) (N := 6) (ci := 10) (index := 48) (n := 1) (d2 := 8) (mc := 0) (ms := 0) (As := [.ref (gK g 2)]) (rest := []) C hw (ct_X10_readNext hq) kvX4_48 hq.1 (by decide) rfl ⟨by decide, by decide⟩ ⟨by decide, by decide⟩ rfl hl.1 rfl (Nat.le_of_ble_eq_true rfl) dX4_faultOfPoints_145 (fun r M13 H locs hp hle hw => ?_)
      obtain ⟨rfl, hq⟩ := hp
      refine W.eq (g2 := F0 m 148 ls []) rfl ?_
      refine lv_iconst (v := 0) hx hb dX4_faultOfPoints_148 (by decide) ?_
      exact r_iret C hr hlk hw dX4_faultOfPoints_149 (Nat.le_refl _) (Nat.le_refl _) ⟨_, rfl, hq⟩
    · replace hq := hq.2 c3
      refine lv_iconst (v := 1) hx hb dX4_faultOfPoints_115 (by decide) ?_
      exact r_iret C hr hlk hw dX4_faultOfPoints_116 (Nat.le_refl _) (Nat.le_refl _) ⟨_, rfl, hq⟩
  · replace hq := hq.2 c1
    refine lv_iload_n hx hb dX4_faultOfPoints_104 rfl (lv_at hl 3 rfl) ?_
    exact r_iret C hr hlk hw dX4_faultOfPoints_105 (Nat.le_refl _) (Nat.le_refl _) ⟨_, rfl, hq⟩
set_option maxHeartbeats 4000000 in
set_option maxRecDepth 100000 in
theorem lt_X4_faultOfPoints_77 {l : Launch} {g : Gh} {p : Program} {e : Env} {s : State} {m : MethodId} {args : Array Value} {below : List Frame} {meth : Method} {c : Code} {H : Heap} {locs : List Loc} {ls : Array Slot} {M0 M : Mem} {a0 : Nat} {a1 : Nat} {p2 : Int32} {post : Int32 → Mem → Prop} {x3 : Int32}   (C : Cx g p s m args c cX4_faultOfPoints 4 RX4) (hr : meth.sig.returnType = (some .int)) (hlk : meth.locks = false) (hn : meth.name = "faultOfPoints") (h0 : okc (gB g) M0 a0 4)  (hq : lb_X4_faultOfPoints_77  g M0 a0 a1 p2 post  x3 M) (hw : Wd g s M0 M H locs) (hl : lv_has ls 4 [(0, .ref a0), (1, .ref a1), (2, .int p2), (3, .int x3)]) : W p l e (rmo 10 0 0) s m args below meth c H locs 0 0 (MQ below (Cq g M0 (pI post)) args s 0 0 (gA g)) (F0 m 77 ls []) := by
  have hx := C.1.1
  have hb := C.1.2.1
  unfold lb_X4_faultOfPoints_77 at hq
  refine lv_iload_n hx hb dX4_faultOfPoints_77 rfl (lv_at hl 3 rfl) ?_
  refine lv_if_ne (tgt := 100) hx hb dX4_faultOfPoints_78 (by decide) (fun c14 => ?_) (fun c14 => ?_)
  · replace hq := hq.2 c14
    exact lt_X4_faultOfPoints_100  C hr hlk hn h0  hq hw (lv_sub hl [0, 1, 2, 3] rfl)
  · replace hq := hq.1 c14
    refine lv_aload_n hx hb dX4_faultOfPoints_81 rfl (lv_at hl 1 rfl) ?_
    refine va_ldcS hx hb C.1.2.2.2.1 (C.2.2.2.2.1.2.1 8 _ rfl) dX4_faultOfPoints_82 ?_
    refine r_callV (T := TX10) (N := 6) (ci := 10) (index := 66) (n := 1) (d2 := 5) (mc := 0) (ms := 0) (As := [.ref (gK g 8)]) (rest := []) C hw (ct_X10_isWord hq) kvX4_66 hq.1 (by decide) rfl ⟨by decide, by decide⟩ ⟨by decide, by decide⟩ rfl hl.1 rfl (Nat.le_of_ble_eq_true rfl) dX4_faultOfPoints_84 (fun r M16 H locs hp hle hw => ?_)
    obtain ⟨v15, rfl, hq⟩ := hp
    refine W.eq (g2 := F0 m 87 ls [.int v15]) rfl ?_
    refine lv_if_eq (tgt := 100) hx hb dX4_faultOfPoints_87 (by decide) (fun c17 => ?_) (fun c17 => ?_)
    · replace hq := hq.1 c17
      exact lt_X4_faultOfPoints_100  C hr hlk hn h0  hq hw (lv_sub hl [0, 1, 2, 3] rfl)
    · replace hq := hq.2 c17
      refine lv_aload_n hx hb dX4_faultOfPoints_90 rfl (lv_at hl 1 rfl) ?_
      refine lv_aload_n hx hb dX4_faultOfPoints_91 rfl (lv_at hl 0 rfl) ?_
      obtain ⟨q18, e19, hq⟩ := hq
      refine gfX4_25 C hw hw.2.2.1 h0 e19 dX4_faultOfPoints_92 ?_
      refine lv_iload_n hx hb dX4_faultOfPoints_95 rfl (lv_at hl 2 rfl) ?_
      refine r_callS (index := 84) (n := 3) (d2 := 9) (mc := 0) (ms := 0) (As := [.ref a1, .ref q18, .int p2]) (rest := []) C hw (ct_X4_readPoints hq) ksX4_84 ⟨by decide, by decide⟩ ⟨by decide, by decide⟩ rfl hl.1 rfl (Nat.le_of_ble_eq_true rfl) dX4_faultOfPoints_96 (fun r M21 H locs hp hle hw => ?_)
      obtain ⟨v20, rfl, hq⟩ := hp
      refine W.eq (g2 := F0 m 99 ls [.int v20]) rfl ?_
      refine lv_istore_n (lv' := [(3, .int v20), (0, .ref a0), (1, .ref a1), (2, .int p2)]) hx hb dX4_faultOfPoints_99 rfl hl (by decide) rfl (fun ls hl => ?_)
      exact lt_X4_faultOfPoints_100  C hr hlk hn h0  hq hw (lv_sub hl [1, 2, 3, 0] rfl)
set_option maxHeartbeats 4000000 in
set_option maxRecDepth 100000 in
theorem ct_X4_faultOfPoints {l : Launch} {g : Gh} {M0 : Mem} {a0 : Nat} {a1 : Nat} {p2 : Int32} {post : Int32 → Mem → Prop}  (hq : wp_X4_faultOfPoints  g M0 a0 a1 p2 post) : Ct l g yX4_faultOfPoints cX4_faultOfPoints 4 (some .int) 10 0 0 [.ref a0, .ref a1, .int p2] M0 (pI post) := by
  unfold wp_X4_faultOfPoints at hq
  obtain ⟨h0, hq⟩ := hq
  refine Ct.of (by decide) (Nat.le_of_ble_eq_true rfl) ?_
  intro p e s m below meth c ls C hr hlk hn hl hw
  have hx := C.1.1
  have hb := C.1.2.1
  have hl : lv_has ls 4 [(0, .ref a0), (1, .ref a1), (2, .int p2)] := hl
  refine lv_iload_n hx hb dX4_faultOfPoints_0 rfl (lv_at hl 2 rfl) ?_
  refine lv_if_lt (tgt := 19) hx hb dX4_faultOfPoints_1 (by decide) (fun c22 => ?_) (fun c22 => ?_)
  · replace hq := hq.1 c22
    refine lv_iconst (v := 1) hx hb dX4_faultOfPoints_19 (by decide) ?_
    exact r_iret C hr hlk hw dX4_faultOfPoints_20 (Nat.le_refl _) (Nat.le_refl _) ⟨_, rfl, hq⟩
  · replace hq := hq.2 c22
    refine lv_iload_n hx hb dX4_faultOfPoints_4 rfl (lv_at hl 2 rfl) ?_
    refine lv_bipush (v := 6) hx hb dX4_faultOfPoints_5 (by decide) ?_
    refine lv_icmp_ge (tgt := 19) hx hb dX4_faultOfPoints_7 (by decide) (fun c23 => ?_) (fun c23 => ?_)
    · replace hq := hq.1 c23
      refine lv_iconst (v := 1) hx hb dX4_faultOfPoints_19 (by decide) ?_
      exact r_iret C hr hlk hw dX4_faultOfPoints_20 (Nat.le_refl _) (Nat.le_refl _) ⟨_, rfl, hq⟩
    · replace hq := hq.2 c23
      refine lv_aload_n hx hb dX4_faultOfPoints_10 rfl (lv_at hl 1 rfl) ?_
      refine va_ldcS hx hb C.1.2.2.2.1 (C.2.2.2.2.1.2.1 6 _ rfl) dX4_faultOfPoints_11 ?_
      refine r_callV (T := TX10) (N := 6) (ci := 10) (index := 66) (n := 1) (d2 := 5) (mc := 0) (ms := 0) (As := [.ref (gK g 6)]) (rest := []) C hw (ct_X10_isWord hq) kvX4_66 hq.1 (by decide) rfl ⟨by decide, by decide⟩ ⟨by decide, by decide⟩ rfl hl.1 rfl (Nat.le_of_ble_eq_true rfl) dX4_faultOfPoints_13 (fun r M25 H locs hp hle hw => ?_)
      obtain ⟨v24, rfl, hq⟩ := hp
      refine W.eq (g2 := F0 m 16 ls [.int v24]) rfl ?_
      refine lv_if_ne (tgt := 21) hx hb dX4_faultOfPoints_16 (by decide) (fun c26 => ?_) (fun c26 => ?_)
      · replace hq := hq.2 c26
        refine lv_aload_n hx hb dX4_faultOfPoints_21 rfl (lv_at hl 0 rfl) ?_
        obtain ⟨q27, e28, hq⟩ := hq
        refine gfX4_22 C hw hw.2.2.1 h0 e28 dX4_faultOfPoints_22 ?_
        refine lv_iload_n hx hb dX4_faultOfPoints_25 rfl (lv_at hl 2 rfl) ?_
        refine lv_iconst (v := (-1)) hx hb dX4_faultOfPoints_26 (by decide) ?_
        obtain ⟨h29, hq⟩ := hq
        obtain ⟨h30, hq⟩ := hq
        refine q_iast C hw hw.2.2.1 h29 h30 dX4_faultOfPoints_27 (fun H locs hw => ?_)
        generalize e32 : uI M25 q27 (Int32.toNatClampNeg p2) (-1) = M31 at hw
        replace hq := hq M31 e32.symm
        have e28 : mR M31 a0 5 = some q27 := by rw [← e32, mR_uI]; exact e28
        refine lv_aload_n hx hb dX4_faultOfPoints_28 rfl (lv_at hl 0 rfl) ?_
        obtain ⟨q33, e34, hq⟩ := hq
        refine gfX4_25 C hw hw.2.2.1 h0 e34 dX4_faultOfPoints_29 ?_
        refine lv_iload_n hx hb dX4_faultOfPoints_32 rfl (lv_at hl 2 rfl) ?_
        refine lv_iconst (v := 0) hx hb dX4_faultOfPoints_33 (by decide) ?_
        obtain ⟨h35, hq⟩ := hq
        obtain ⟨h36, hq⟩ := hq
        refine q_iast C hw hw.2.2.1 h35 h36 dX4_faultOfPoints_34 (fun H locs hw => ?_)
        generalize e38 : uI M31 q33 (Int32.toNatClampNeg p2) 0 = M37 at hw
        replace hq := hq M37 e38.symm
        have e28 : mR M37 a0 5 = some q27 := by rw [← e38, mR_uI]; exact e28
        have e34 : mR M37 a0 6 = some q33 := by rw [← e38, mR_uI]; exact e34
        refine lv_aload_n hx hb dX4_faultOfPoints_35 rfl (lv_at hl 1 rfl) ?_
        refine lv_aload_n hx hb dX4_faultOfPoints_36 rfl (lv_at hl 0 rfl) ?_
        obtain ⟨q39, e40, hq⟩ := hq
        refine gfX4_19 C hw hw.2.2.1 h0 e40 dX4_faultOfPoints_37 ?_
        refine lv_iload_n hx hb dX4_faultOfPoints_40 rfl (lv_at hl 2 rfl) ?_
        refine r_callS (index := 84) (n := 3) (d2 := 9) (mc := 0) (ms := 0) (As := [.ref a1, .ref q39, .int p2]) (rest := []) C hw (ct_X4_readPoints hq) ksX4_84 ⟨by decide, by decide⟩ ⟨by decide, by decide⟩ rfl hl.1 rfl (Nat.le_of_ble_eq_true rfl) dX4_faultOfPoints_41 (fun r M42 H locs hp hle hw => ?_)
        obtain ⟨v41, rfl, hq⟩ := hp
        refine W.eq (g2 := F0 m 44 ls [.int v41]) rfl ?_
        refine lv_istore_n (lv' := [(3, .int v41), (0, .ref a0), (1, .ref a1), (2, .int p2)]) hx hb dX4_faultOfPoints_44 rfl hl (by decide) rfl (fun ls hl => ?_)
        refine lv_iload_n hx hb dX4_faultOfPoints_45 rfl (lv_at hl 0 rfl) ?_
        refine lv_if_ne (tgt := 77) hx hb dX4_faultOfPoints_46 (by decide) (fun c43 => ?_) (fun c43 => ?_)
        · replace hq := hq.2 c43
          exact lt_X4_faultOfPoints_77  C hr hlk hn h0  hq hw (lv_sub hl [1, 2, 3, 0] rfl)
        · replace hq := hq.1 c43
          refine lv_aload_n hx hb dX4_faultOfPoints_49 rfl (lv_at hl 1 rfl) ?_
          obtain ⟨q44, e45, hq⟩ := hq
          refine gfX4_15 C hw hw.2.2.1 h0 e45 dX4_faultOfPoints_50 ?_
          refine lv_iload_n hx hb dX4_faultOfPoints_53 rfl (lv_at hl 3 rfl) ?_
          obtain ⟨h46, hq⟩ := hq
          obtain ⟨h47, hq⟩ := hq
          refine q_zald C hw hw.2.2.1 h46 h47 dX4_faultOfPoints_54 ?_
          refine lv_if_ne (tgt := 77) hx hb dX4_faultOfPoints_55 (by decide) (fun c48 => ?_) (fun c48 => ?_)
          · replace hq := hq.2 c48
            exact lt_X4_faultOfPoints_77  C hr hlk hn h0  hq hw (lv_sub hl [1, 2, 3, 0] rfl)
          · replace hq := hq.1 c48
            refine lv_aload_n hx hb dX4_faultOfPoints_58 rfl (lv_at hl 2 rfl) ?_
            refine va_ldcS hx hb C.1.2.2.2.1 (C.2.2.2.2.1.2.1 7 _ rfl) dX4_faultOfPoints_59 ?_
            refine r_callV (T := TX10) (N := 6) (ci := 10) (index := 66) (n := 1) (d2 := 5) (mc := 0) (ms := 0) (As := [.ref (gK g 7)]) (rest := []) C hw (ct_X10_isWord hq) kvX4_66 hq.1 (by decide) rfl ⟨by decide, by decide⟩ ⟨by decide, by decide⟩ rfl hl.1 rfl (Nat.le_of_ble_eq_true rfl) dX4_faultOfPoints_61 (fun r M50 H locs hp hle hw => ?_)
            obtain ⟨v49, rfl, hq⟩ := hp
            refine W.eq (g2 := F0 m 64 ls [.int v49]) rfl ?_
            refine lv_if_eq (tgt := 77) hx hb dX4_faultOfPoints_64 (by decide) (fun c51 => ?_) (fun c51 => ?_)
            · replace hq := hq.1 c51
              exact lt_X4_faultOfPoints_77  C hr hlk hn h0  hq hw (lv_sub hl [1, 2, 3, 0] rfl)
            · replace hq := hq.2 c51
              refine lv_aload_n hx hb dX4_faultOfPoints_67 rfl (lv_at hl 2 rfl) ?_
              refine lv_aload_n hx hb dX4_faultOfPoints_68 rfl (lv_at hl 1 rfl) ?_
              obtain ⟨q52, e53, hq⟩ := hq
              refine gfX4_22 C hw hw.2.2.1 h0 e53 dX4_faultOfPoints_69 ?_
              refine lv_iload_n hx hb dX4_faultOfPoints_72 rfl (lv_at hl 3 rfl) ?_
              refine r_callS (index := 84) (n := 3) (d2 := 9) (mc := 0) (ms := 0) (As := [.ref a1, .ref q52, .int p2]) (rest := []) C hw (ct_X4_readPoints hq) ksX4_84 ⟨by decide, by decide⟩ ⟨by decide, by decide⟩ rfl hl.1 rfl (Nat.le_of_ble_eq_true rfl) dX4_faultOfPoints_73 (fun r M55 H locs hp hle hw => ?_)
              obtain ⟨v54, rfl, hq⟩ := hp
              refine W.eq (g2 := F0 m 76 ls [.int v54]) rfl ?_
              refine lv_istore_n (lv' := [(3, .int v54), (0, .ref a0), (1, .ref a1), (2, .int p2)]) hx hb dX4_faultOfPoints_76 rfl hl (by decide) rfl (fun ls hl => ?_)
              exact lt_X4_faultOfPoints_77  C hr hlk hn h0  hq hw (lv_sub hl [1, 2, 3, 0] rfl)
      · replace hq := hq.1 c26
        refine lv_iconst (v := 1) hx hb dX4_faultOfPoints_19 (by decide) ?_
        exact r_iret C hr hlk hw dX4_faultOfPoints_20 (Nat.le_refl _) (Nat.le_refl _) ⟨_, rfl, hq⟩

set_option maxRecDepth 100000 in
def lb_X4_readFrom_86  (g : Gh) (M0 : Mem) (a0 : Nat) (a1 : Nat) (post : Mem → Prop)    (M : Mem) : Prop :=
  okc (gB g) M0 a1 10 ∧ (∀ M2, M2 = uI M a0 8 (mI M a1 3) → (post M2))
set_option maxRecDepth 100000 in
def lb_X4_readFrom_79  (g : Gh) (M0 : Mem) (a0 : Nat) (a1 : Nat) (post : Mem → Prop) (bk32 : Int32 × Mem → Prop) (x2 : Int32)  (M : Mem) : Prop :=
  (((mI M a0 7) = 0) → bk32 ((x2 + 1), M)) ∧ (¬ ((mI M a0 7) = 0) → lb_X4_readFrom_86  g M0 a0 a1 post   M)
set_option maxRecDepth 100000 in
def lb_X4_readFrom_50  (g : Gh) (M0 : Mem) (a0 : Nat) (a1 : Nat) (post : Mem → Prop) (bk32 : Int32 × Mem → Prop) (x2 : Int32)  (M : Mem) : Prop :=
  wp_X4_faultOfHead g M a0 a1 (fun v5 M6 => ∀ M7, M7 = uI M6 a0 7 v5 → ((((mI M7 a0 7) = 0) → wp_X4_faultOfPoints g M7 a0 a1 (mI M7 a0 0) (fun v10 M11 => ∀ M12, M12 = uI M11 a0 7 v10 → (lb_X4_readFrom_79  g M0 a0 a1 post bk32 x2 M12))) ∧ (¬ ((mI M7 a0 7) = 0) → lb_X4_readFrom_79  g M0 a0 a1 post bk32 x2 M7)))
set_option maxRecDepth 100000 in
def bd_X4_readFrom_32  (g : Gh) (M0 : Mem) (a0 : Nat) (a1 : Nat) (post : Mem → Prop)  (bk32 : Int32 × Mem → Prop) (x2 : Int32)  (M : Mem) : Prop :=
  ((6 < x2) → post M) ∧ (¬ (6 < x2) → ((x2 ≤ 0) → lb_X4_readFrom_50  g M0 a0 a1 post bk32 x2 M) ∧ (¬ (x2 ≤ 0) → okc (gB g) M0 a1 10 ∧ ((((mI M a1 2) = 0) → post M) ∧ (¬ ((mI M a1 2) = 0) → lb_X4_readFrom_50  g M0 a0 a1 post bk32 x2 M))))
set_option maxRecDepth 100000 in
def wp_X4_readFrom  (g : Gh) (M0 : Mem) (a0 : Nat) (a1 : Nat) (post : Mem → Prop) : Prop :=
  okc (gB g) M0 a0 4 ∧ (∀ M18, M18 = uI M0 a0 0 0 → (∀ M20, M20 = uI M18 a0 1 0 → (∀ M22, M22 = uI M20 a0 7 0 → (∀ M24, M24 = uI M22 a0 8 0 → (wp_X10_rewind g M24 a1 (fun M27 => wp_X10_readNext g M27 a1 (gK g 2) (fun M29 => (∃ n : Nat, lfp (fun bk z => bd_X4_readFrom_32  g M0 a0 a1 post  bk z.1 z.2) n (0, M29)))))))))
set_option maxHeartbeats 4000000 in
set_option maxRecDepth 100000 in
theorem lt_X4_readFrom_86 {l : Launch} {g : Gh} {p : Program} {e : Env} {s : State} {m : MethodId} {args : Array Value} {below : List Frame} {meth : Method} {c : Code} {H : Heap} {locs : List Loc} {ls : Array Slot} {M0 M : Mem} {a0 : Nat} {a1 : Nat} {post : Mem → Prop}    (C : Cx g p s m args c cX4_readFrom 3 RX4) (hr : meth.sig.returnType = none) (hlk : meth.locks = false) (hn : meth.name = "readFrom") (h0 : okc (gB g) M0 a0 4)  (hq : lb_X4_readFrom_86  g M0 a0 a1 post   M) (hw : Wd g s M0 M H locs) (hl : lv_has ls 3 [(0, .ref a0), (1, .ref a1)]) : W p l e (rmo 11 0 0) s m args below meth c H locs 0 0 (MQ below (Cq g M0 (pV post)) args s 0 0 (gA g)) (F0 m 86 ls []) := by
  have hx := C.1.1
  have hb := C.1.2.1
  unfold lb_X4_readFrom_86 at hq
  refine lv_aload_n hx hb dX4_readFrom_86 rfl (lv_at hl 0 rfl) ?_
  refine lv_aload_n hx hb dX4_readFrom_87 rfl (lv_at hl 1 rfl) ?_
  obtain ⟨h1, hq⟩ := hq
  refine gfX4_63 C hw hw.2.2.1 h1 dX4_readFrom_88 ?_
  refine pfX4_38 C hw hw.2.2.1 h0 dX4_readFrom_91 (fun H locs hw => ?_)
  generalize e3 : uI M a0 8 (mI M a1 3) = M2 at hw
  replace hq := hq M2 e3.symm
  exact r_vret C hr hlk hw dX4_readFrom_94 (Nat.le_refl _) (Nat.le_refl _) ⟨rfl, hq⟩
set_option maxHeartbeats 4000000 in
set_option maxRecDepth 100000 in
theorem lt_X4_readFrom_79 {l : Launch} {g : Gh} {p : Program} {e : Env} {s : State} {m : MethodId} {args : Array Value} {below : List Frame} {meth : Method} {c : Code} {H : Heap} {locs : List Loc} {ls : Array Slot} {M0 M : Mem} {a0 : Nat} {a1 : Nat} {post : Mem → Prop} {x2 : Int32}   (C : Cx g p s m args c cX4_readFrom 3 RX4) (hr : meth.sig.returnType = none) (hlk : meth.locks = false) (hn : meth.name = "readFrom") (h0 : okc (gB g) M0 a0 4) {bk32 : Int32 × Mem → Prop} (hk32 : ∀ (x2 : Int32) (M : Mem) (H : Heap) (locs : List Loc) (ls : Array Slot), bk32 (x2, M) → Wd g s M0 M H locs → lv_has ls 3 [(0, .ref a0), (1, .ref a1), (2, .int x2)] → W p l e (rmo 11 0 0) s m args below meth c H locs 0 0 (MQ below (Cq g M0 (pV post)) args s 0 0 (gA g)) (F0 m 32 ls [])) (hq : lb_X4_readFrom_79  g M0 a0 a1 post bk32 x2 M) (hw : Wd g s M0 M H locs) (hl : lv_has ls 3 [(0, .ref a0), (1, .ref a1), (2, .int x2)]) : W p l e (rmo 11 0 0) s m args below meth c H locs 0 0 (MQ below (Cq g M0 (pV post)) args s 0 0 (gA g)) (F0 m 79 ls []) := by
  have hx := C.1.1
  have hb := C.1.2.1
  unfold lb_X4_readFrom_79 at hq
  refine lv_aload_n hx hb dX4_readFrom_79 rfl (lv_at hl 0 rfl) ?_
  refine gfX4_35 C hw hw.2.2.1 h0 dX4_readFrom_80 ?_
  refine lv_if_eq (tgt := 95) hx hb dX4_readFrom_83 (by decide) (fun c4 => ?_) (fun c4 => ?_)
  · replace hq := hq.1 c4
    refine lv_iinc (v := (x2 + 1)) (lv' := [(2, .int (x2 + 1)), (0, .ref a0), (1, .ref a1)]) hx hb dX4_readFrom_95 hl (k := 2) rfl rfl (by decide) rfl (fun ls hl => ?_)
    refine lv_goto (tgt := 32) hx hb dX4_readFrom_98 (by decide) ?_
    exact hk32 _ _ _ _ _ hq hw (lv_sub hl [1, 2, 0] rfl)
  · replace hq := hq.2 c4
    exact lt_X4_readFrom_86  C hr hlk hn h0  hq hw (lv_sub hl [0, 1] rfl)
set_option maxHeartbeats 4000000 in
set_option maxRecDepth 100000 in
theorem lt_X4_readFrom_50 {l : Launch} {g : Gh} {p : Program} {e : Env} {s : State} {m : MethodId} {args : Array Value} {below : List Frame} {meth : Method} {c : Code} {H : Heap} {locs : List Loc} {ls : Array Slot} {M0 M : Mem} {a0 : Nat} {a1 : Nat} {post : Mem → Prop} {x2 : Int32}   (C : Cx g p s m args c cX4_readFrom 3 RX4) (hr : meth.sig.returnType = none) (hlk : meth.locks = false) (hn : meth.name = "readFrom") (h0 : okc (gB g) M0 a0 4) {bk32 : Int32 × Mem → Prop} (hk32 : ∀ (x2 : Int32) (M : Mem) (H : Heap) (locs : List Loc) (ls : Array Slot), bk32 (x2, M) → Wd g s M0 M H locs → lv_has ls 3 [(0, .ref a0), (1, .ref a1), (2, .int x2)] → W p l e (rmo 11 0 0) s m args below meth c H locs 0 0 (MQ below (Cq g M0 (pV post)) args s 0 0 (gA g)) (F0 m 32 ls [])) (hq : lb_X4_readFrom_50  g M0 a0 a1 post bk32 x2 M) (hw : Wd g s M0 M H locs) (hl : lv_has ls 3 [(0, .ref a0), (1, .ref a1), (2, .int x2)]) : W p l e (rmo 11 0 0) s m args below meth c H locs 0 0 (MQ below (Cq g M0 (pV post)) args s 0 0 (gA g)) (F0 m 50 ls []) := by
  have hx := C.1.1
  have hb := C.1.2.1
  unfold lb_X4_readFrom_50 at hq
  refine lv_aload_n hx hb dX4_readFrom_50 rfl (lv_at hl 0 rfl) ?_
  refine lv_aload_n hx hb dX4_readFrom_51 rfl (lv_at hl 0 rfl) ?_
  refine lv_aload_n hx hb dX4_readFrom_52 rfl (lv_at hl 1 rfl) ?_
  refine r_callV (T := TX4) (N := 9) (ci := 4) (index := 55) (n := 1) (d2 := 9) (mc := 0) (ms := 0) (As := [.ref a1]) (rest := [.ref a0]) C hw (ct_X4_faultOfHead hq) kvX4_55 hq.1 (by decide) rfl ⟨by decide, by decide⟩ ⟨by decide, by decide⟩ rfl hl.1 rfl (Nat.le_of_ble_eq_true rfl) dX4_readFrom_53 (fun r M6 H locs hp hle hw => ?_)
  obtain ⟨v5, rfl, hq⟩ := hp
  refine W.eq (g2 := F0 m 56 ls [.int v5, .ref a0]) rfl ?_
  refine pfX4_35 C hw hw.2.2.1 h0 dX4_readFrom_56 (fun H locs hw => ?_)
  generalize e8 : uI M6 a0 7 v5 = M7 at hw
  replace hq := hq M7 e8.symm
  refine lv_aload_n hx hb dX4_readFrom_59 rfl (lv_at hl 0 rfl) ?_
  refine gfX4_35 C hw hw.2.2.1 h0 dX4_readFrom_60 ?_
  refine lv_if_ne (tgt := 79) hx hb dX4_readFrom_63 (by decide) (fun c9 => ?_) (fun c9 => ?_)
  · replace hq := hq.2 c9
    exact lt_X4_readFrom_79  C hr hlk hn h0 hk32 hq hw (lv_sub hl [0, 1, 2] rfl)
  · replace hq := hq.1 c9
    refine lv_aload_n hx hb dX4_readFrom_66 rfl (lv_at hl 0 rfl) ?_
    refine lv_aload_n hx hb dX4_readFrom_67 rfl (lv_at hl 0 rfl) ?_
    refine lv_aload_n hx hb dX4_readFrom_68 rfl (lv_at hl 1 rfl) ?_
    refine lv_aload_n hx hb dX4_readFrom_69 rfl (lv_at hl 0 rfl) ?_
    refine gfX4_28 C hw hw.2.2.1 h0 dX4_readFrom_70 ?_
    refine r_callV (T := TX4) (N := 9) (ci := 4) (index := 59) (n := 2) (d2 := 10) (mc := 0) (ms := 0) (As := [.ref a1, .int (mI M7 a0 0)]) (rest := [.ref a0]) C hw (ct_X4_faultOfPoints hq) kvX4_59 hq.1 (by decide) rfl ⟨by decide, by decide⟩ ⟨by decide, by decide⟩ rfl hl.1 rfl (Nat.le_of_ble_eq_true rfl) dX4_readFrom_73 (fun r M11 H locs hp hle hw => ?_)
    obtain ⟨v10, rfl, hq⟩ := hp
    refine W.eq (g2 := F0 m 76 ls [.int v10, .ref a0]) rfl ?_
    refine pfX4_35 C hw hw.2.2.1 h0 dX4_readFrom_76 (fun H locs hw => ?_)
    generalize e13 : uI M11 a0 7 v10 = M12 at hw
    replace hq := hq M12 e13.symm
    exact lt_X4_readFrom_79  C hr hlk hn h0 hk32 hq hw (lv_sub hl [0, 1, 2] rfl)
set_option maxHeartbeats 4000000 in
set_option maxRecDepth 100000 in
theorem lp_X4_readFrom_32 {l : Launch} {g : Gh} {p : Program} {e : Env} {s : State} {m : MethodId} {args : Array Value} {below : List Frame} {meth : Method} {c : Code} {M0 : Mem} {a0 : Nat} {a1 : Nat} {post : Mem → Prop}  (C : Cx g p s m args c cX4_readFrom 3 RX4) (hr : meth.sig.returnType = none) (hlk : meth.locks = false) (hn : meth.name = "readFrom") (h0 : okc (gB g) M0 a0 4)  : ∀ (nf : Nat) (x2 : Int32)  (M : Mem) (H : Heap) (locs : List Loc) (ls : Array Slot), lfp (fun bk z => bd_X4_readFrom_32  g M0 a0 a1 post  bk z.1 z.2) nf (x2, M) → Wd g s M0 M H locs → lv_has ls 3 [(0, .ref a0), (1, .ref a1), (2, .int x2)] → W p l e (rmo 11 0 0) s m args below meth c H locs 0 0 (MQ below (Cq g M0 (pV post)) args s 0 0 (gA g)) (F0 m 32 ls []) := by
  have hx := C.1.1
  have hb := C.1.2.1
  intro nf
  induction nf with
  | zero => intro _ _ H locs ls hq; exact hq.elim
  | succ nf hk32 =>
    intro x2 M H locs ls hq hw hl
    replace hq : bd_X4_readFrom_32  g M0 a0 a1 post  (lfp (fun bk z => bd_X4_readFrom_32  g M0 a0 a1 post  bk z.1 z.2) nf) x2 M := hq
    unfold bd_X4_readFrom_32 at hq
    refine lv_iload_n hx hb dX4_readFrom_32 rfl (lv_at hl 2 rfl) ?_
    refine lv_bipush (v := 6) hx hb dX4_readFrom_33 (by decide) ?_
    refine lv_icmp_gt (tgt := 101) hx hb dX4_readFrom_35 (by decide) (fun c14 => ?_) (fun c14 => ?_)
    · replace hq := hq.1 c14
      exact r_vret C hr hlk hw dX4_readFrom_101 (Nat.le_refl _) (Nat.le_refl _) ⟨rfl, hq⟩
    · replace hq := hq.2 c14
      refine lv_iload_n hx hb dX4_readFrom_38 rfl (lv_at hl 2 rfl) ?_
      refine lv_if_le (tgt := 50) hx hb dX4_readFrom_39 (by decide) (fun c15 => ?_) (fun c15 => ?_)
      · replace hq := hq.1 c15
        exact lt_X4_readFrom_50  C hr hlk hn h0 hk32 hq hw (lv_sub hl [0, 1, 2] rfl)
      · replace hq := hq.2 c15
        refine lv_aload_n hx hb dX4_readFrom_42 rfl (lv_at hl 1 rfl) ?_
        obtain ⟨h16, hq⟩ := hq
        refine gfX4_52 C hw hw.2.2.1 h16 dX4_readFrom_43 ?_
        refine lv_if_ne (tgt := 50) hx hb dX4_readFrom_46 (by decide) (fun c17 => ?_) (fun c17 => ?_)
        · replace hq := hq.2 c17
          exact lt_X4_readFrom_50  C hr hlk hn h0 hk32 hq hw (lv_sub hl [0, 1, 2] rfl)
        · replace hq := hq.1 c17
          exact r_vret C hr hlk hw dX4_readFrom_49 (Nat.le_refl _) (Nat.le_refl _) ⟨rfl, hq⟩
set_option maxHeartbeats 4000000 in
set_option maxRecDepth 100000 in
theorem ct_X4_readFrom {l : Launch} {g : Gh} {M0 : Mem} {a0 : Nat} {a1 : Nat} {post : Mem → Prop}  (hq : wp_X4_readFrom  g M0 a0 a1 post) : Ct l g yX4_readFrom cX4_readFrom 3 none 11 0 0 [.ref a0, .ref a1] M0 (pV post) := by
  unfold wp_X4_readFrom at hq
  obtain ⟨h0, hq⟩ := hq
  refine Ct.of (by decide) (Nat.le_of_ble_eq_true rfl) ?_
  intro p e s m below meth c ls C hr hlk hn hl hw
  have hx := C.1.1
  have hb := C.1.2.1
  have hl : lv_has ls 3 [(0, .ref a0), (1, .ref a1)] := hl
  refine lv_aload_n hx hb dX4_readFrom_0 rfl (lv_at hl 0 rfl) ?_
  refine lv_iconst (v := 0) hx hb dX4_readFrom_1 (by decide) ?_
  refine pfX4_28 C hw hw.2.2.1 h0 dX4_readFrom_2 (fun H locs hw => ?_)
  generalize e19 : uI M0 a0 0 0 = M18 at hw
  replace hq := hq M18 e19.symm
  refine lv_aload_n hx hb dX4_readFrom_5 rfl (lv_at hl 0 rfl) ?_
  refine lv_iconst (v := 0) hx hb dX4_readFrom_6 (by decide) ?_
  refine pfX4_32 C hw hw.2.2.1 h0 dX4_readFrom_7 (fun H locs hw => ?_)
  generalize e21 : uI M18 a0 1 0 = M20 at hw
  replace hq := hq M20 e21.symm
  refine lv_aload_n hx hb dX4_readFrom_10 rfl (lv_at hl 0 rfl) ?_
  refine lv_iconst (v := 0) hx hb dX4_readFrom_11 (by decide) ?_
  refine pfX4_35 C hw hw.2.2.1 h0 dX4_readFrom_12 (fun H locs hw => ?_)
  generalize e23 : uI M20 a0 7 0 = M22 at hw
  replace hq := hq M22 e23.symm
  refine lv_aload_n hx hb dX4_readFrom_15 rfl (lv_at hl 0 rfl) ?_
  refine lv_iconst (v := 0) hx hb dX4_readFrom_16 (by decide) ?_
  refine pfX4_38 C hw hw.2.2.1 h0 dX4_readFrom_17 (fun H locs hw => ?_)
  generalize e25 : uI M22 a0 8 0 = M24 at hw
  replace hq := hq M24 e25.symm
  refine lv_aload_n hx hb dX4_readFrom_20 rfl (lv_at hl 1 rfl) ?_
  refine r_callV (T := TX10) (N := 6) (ci := 10) (index := 41) (n := 0) (d2 := 0) (mc := 0) (ms := 0) (As := []) (rest := []) C hw (ct_X10_rewind hq) kvX4_41 hq.1 (by decide) rfl ⟨by decide, by decide⟩ ⟨by decide, by decide⟩ rfl hl.1 rfl (Nat.le_of_ble_eq_true rfl) dX4_readFrom_21 (fun r M27 H locs hp hle hw => ?_)
  obtain ⟨rfl, hq⟩ := hp
  refine W.eq (g2 := F0 m 24 ls []) rfl ?_
  refine lv_aload_n hx hb dX4_readFrom_24 rfl (lv_at hl 1 rfl) ?_
  refine va_ldcS hx hb C.1.2.2.2.1 (C.2.2.2.2.1.2.1 2 _ rfl) dX4_readFrom_25 ?_
  refine r_callV (T := TX10) (N := 6) (ci := 10) (index := 48) (n := 1) (d2 := 8) (mc := 0) (ms := 0) (As := [.ref (gK g 2)]) (rest := []) C hw (ct_X10_readNext hq) kvX4_48 hq.1 (by decide) rfl ⟨by decide, by decide⟩ ⟨by decide, by decide⟩ rfl hl.1 rfl (Nat.le_of_ble_eq_true rfl) dX4_readFrom_27 (fun r M29 H locs hp hle hw => ?_)
  obtain ⟨rfl, hq⟩ := hp
  refine W.eq (g2 := F0 m 30 ls []) rfl ?_
  refine lv_iconst (v := 0) hx hb dX4_readFrom_30 (by decide) ?_
  refine lv_istore_n (lv' := [(2, .int 0), (0, .ref a0), (1, .ref a1)]) hx hb dX4_readFrom_31 rfl hl (by decide) rfl (fun ls hl => ?_)
  obtain ⟨nf, hq⟩ := hq
  exact lp_X4_readFrom_32  C hr hlk hn h0  nf _ _ _ _ _ hq hw (lv_sub hl [1, 2, 0] rfl)

set_option maxRecDepth 100000 in
def bd_X4_roundOf_4  (g : Gh) (M0 : Mem) (a0 : Nat) (p1 : Int32) (post : Int32 → Mem → Prop)  (bk4 : Int32 × Int32 × Mem → Prop) (x2 : Int32) (x3 : Int32)  (M : Mem) : Prop :=
  (((mI M a0 0) ≤ x3) → post 0 M) ∧ (¬ ((mI M a0 0) ≤ x3) → ((6 ≤ x3) → post 0 M) ∧ (¬ (6 ≤ x3) → ∃ q3, mR M a0 2 = some q3 ∧ (okc (gB g) M0 q3 14 ∧ (vp_in x3 (mN M0 q3) ∧ ((((x2 + (mI M q3 (Int32.toNatClampNeg x3))) ≤ p1) → bk4 ((x2 + (mI M q3 (Int32.toNatClampNeg x3))), (x3 + 1), M)) ∧ (¬ ((x2 + (mI M q3 (Int32.toNatClampNeg x3))) ≤ p1) → post x3 M))))))
set_option maxRecDepth 100000 in
def wp_X4_roundOf  (g : Gh) (M0 : Mem) (a0 : Nat) (p1 : Int32) (post : Int32 → Mem → Prop) : Prop :=
  okc (gB g) M0 a0 4 ∧ ((∃ n : Nat, lfp (fun bk z => bd_X4_roundOf_4  g M0 a0 p1 post  bk z.1 z.2.1 z.2.2) n (0, 0, M0)))
set_option maxHeartbeats 4000000 in
set_option maxRecDepth 100000 in
theorem lp_X4_roundOf_4 {l : Launch} {g : Gh} {p : Program} {e : Env} {s : State} {m : MethodId} {args : Array Value} {below : List Frame} {meth : Method} {c : Code} {M0 : Mem} {a0 : Nat} {p1 : Int32} {post : Int32 → Mem → Prop}  (C : Cx g p s m args c cX4_roundOf 4 RX4) (hr : meth.sig.returnType = (some .int)) (hlk : meth.locks = false) (hn : meth.name = "roundOf") (h0 : okc (gB g) M0 a0 4)  : ∀ (nf : Nat) (x2 : Int32) (x3 : Int32)  (M : Mem) (H : Heap) (locs : List Loc) (ls : Array Slot), lfp (fun bk z => bd_X4_roundOf_4  g M0 a0 p1 post  bk z.1 z.2.1 z.2.2) nf (x2, x3, M) → Wd g s M0 M H locs → lv_has ls 4 [(0, .ref a0), (1, .int p1), (2, .int x2), (3, .int x3)] → W p l e (rmo 0 0 0) s m args below meth c H locs 0 0 (MQ below (Cq g M0 (pI post)) args s 0 0 (gA g)) (F0 m 4 ls []) := by
  have hx := C.1.1
  have hb := C.1.2.1
  intro nf
  induction nf with
  | zero => intro _ _ _ H locs ls hq; exact hq.elim
  | succ nf hk4 =>
    intro x2 x3 M H locs ls hq hw hl
    replace hq : bd_X4_roundOf_4  g M0 a0 p1 post  (lfp (fun bk z => bd_X4_roundOf_4  g M0 a0 p1 post  bk z.1 z.2.1 z.2.2) nf) x2 x3 M := hq
    unfold bd_X4_roundOf_4 at hq
    refine lv_iload_n hx hb dX4_roundOf_4 rfl (lv_at hl 3 rfl) ?_
    refine lv_aload_n hx hb dX4_roundOf_5 rfl (lv_at hl 0 rfl) ?_
    refine gfX4_28 C hw hw.2.2.1 h0 dX4_roundOf_6 ?_
    refine lv_icmp_ge (tgt := 40) hx hb dX4_roundOf_9 (by decide) (fun c1 => ?_) (fun c1 => ?_)
    · replace hq := hq.1 c1
      refine lv_iconst (v := 0) hx hb dX4_roundOf_40 (by decide) ?_
      exact r_iret C hr hlk hw dX4_roundOf_41 (Nat.le_refl _) (Nat.le_refl _) ⟨_, rfl, hq⟩
    · replace hq := hq.2 c1
      refine lv_iload_n hx hb dX4_roundOf_12 rfl (lv_at hl 3 rfl) ?_
      refine lv_bipush (v := 6) hx hb dX4_roundOf_13 (by decide) ?_
      refine lv_icmp_ge (tgt := 40) hx hb dX4_roundOf_15 (by decide) (fun c2 => ?_) (fun c2 => ?_)
      · replace hq := hq.1 c2
        refine lv_iconst (v := 0) hx hb dX4_roundOf_40 (by decide) ?_
        exact r_iret C hr hlk hw dX4_roundOf_41 (Nat.le_refl _) (Nat.le_refl _) ⟨_, rfl, hq⟩
      · replace hq := hq.2 c2
        refine lv_iload_n hx hb dX4_roundOf_18 rfl (lv_at hl 2 rfl) ?_
        refine lv_aload_n hx hb dX4_roundOf_19 rfl (lv_at hl 0 rfl) ?_
        obtain ⟨q3, e4, hq⟩ := hq
        refine gfX4_11 C hw hw.2.2.1 h0 e4 dX4_roundOf_20 ?_
        refine lv_iload_n hx hb dX4_roundOf_23 rfl (lv_at hl 3 rfl) ?_
        obtain ⟨h5, hq⟩ := hq
        obtain ⟨h6, hq⟩ := hq
        refine q_iald C hw hw.2.2.1 h5 h6 dX4_roundOf_24 ?_
        refine lv_iadd hx hb dX4_roundOf_25 ?_
        refine lv_istore_n (lv' := [(2, .int (x2 + (mI M q3 (Int32.toNatClampNeg x3)))), (0, .ref a0), (1, .int p1), (3, .int x3)]) hx hb dX4_roundOf_26 rfl hl (by decide) rfl (fun ls hl => ?_)
        refine lv_iload_n hx hb dX4_roundOf_27 rfl (lv_at hl 2 rfl) ?_
        refine lv_iload_n hx hb dX4_roundOf_28 rfl (lv_at hl 0 rfl) ?_
        refine lv_icmp_ge (tgt := 34) hx hb dX4_roundOf_29 (by decide) (fun c7 => ?_) (fun c7 => ?_)
        · replace hq := hq.1 c7
          refine lv_iinc (v := (x3 + 1)) (lv' := [(3, .int (x3 + 1)), (2, .int (x2 + (mI M q3 (Int32.toNatClampNeg x3)))), (0, .ref a0), (1, .int p1)]) hx hb dX4_roundOf_34 hl (k := 3) rfl rfl (by decide) rfl (fun ls hl => ?_)
          refine lv_goto (tgt := 4) hx hb dX4_roundOf_37 (by decide) ?_
          exact hk4 _ _ _ _ _ _ hq hw (lv_sub hl [2, 3, 1, 0] rfl)
        · replace hq := hq.2 c7
          refine lv_iload_n hx hb dX4_roundOf_32 rfl (lv_at hl 3 rfl) ?_
          exact r_iret C hr hlk hw dX4_roundOf_33 (Nat.le_refl _) (Nat.le_refl _) ⟨_, rfl, hq⟩
set_option maxHeartbeats 4000000 in
set_option maxRecDepth 100000 in
theorem ct_X4_roundOf {l : Launch} {g : Gh} {M0 : Mem} {a0 : Nat} {p1 : Int32} {post : Int32 → Mem → Prop}  (hq : wp_X4_roundOf  g M0 a0 p1 post) : Ct l g yX4_roundOf cX4_roundOf 4 (some .int) 0 0 0 [.ref a0, .int p1] M0 (pI post) := by
  unfold wp_X4_roundOf at hq
  obtain ⟨h0, hq⟩ := hq
  refine Ct.of (by decide) (Nat.le_of_ble_eq_true rfl) ?_
  intro p e s m below meth c ls C hr hlk hn hl hw
  have hx := C.1.1
  have hb := C.1.2.1
  have hl : lv_has ls 4 [(0, .ref a0), (1, .int p1)] := hl
  refine lv_iconst (v := 0) hx hb dX4_roundOf_0 (by decide) ?_
  refine lv_istore_n (lv' := [(2, .int 0), (0, .ref a0), (1, .int p1)]) hx hb dX4_roundOf_1 rfl hl (by decide) rfl (fun ls hl => ?_)
  refine lv_iconst (v := 0) hx hb dX4_roundOf_2 (by decide) ?_
  refine lv_istore_n (lv' := [(3, .int 0), (2, .int 0), (0, .ref a0), (1, .int p1)]) hx hb dX4_roundOf_3 rfl hl (by decide) rfl (fun ls hl => ?_)
  obtain ⟨nf, hq⟩ := hq
  exact lp_X4_roundOf_4  C hr hlk hn h0  nf _ _ _ _ _ _ hq hw (lv_sub hl [2, 3, 1, 0] rfl)

set_option maxRecDepth 100000 in
def wp_X5_init  (g : Gh) (M0 : Mem) (a0 : Nat) (post : Mem → Prop) : Prop :=
  okc (gB g) M0 a0 5 ∧ ((0 + 1 ≤ 4 ∧ 0 + 12 ≤ 48) ∧ (∀ q2 M3, q2 = mT M0 → M3 = nw M0 14 12 → (∀ M7, M7 = uR M3 a0 0 (some q2) → (((0 + 1) + 1 ≤ 4 ∧ (0 + 12) + 12 ≤ 48) ∧ (∀ q10 M11, q10 = mT M7 → M11 = nw M7 14 12 → (∀ M15, M15 = uR M11 a0 1 (some q10) → ((((0 + 1) + 1) + 1 ≤ 4 ∧ ((0 + 12) + 12) + 12 ≤ 48) ∧ (∀ q18 M19, q18 = mT M15 → M19 = nw M15 14 12 → (∀ M23, M23 = uR M19 a0 2 (some q18) → (((((0 + 1) + 1) + 1) + 1 ≤ 4 ∧ (((0 + 12) + 12) + 12) + 12 ≤ 48) ∧ (∀ q26 M27, q26 = mT M23 → M27 = nw M23 14 12 → (∀ M31, M31 = uR M27 a0 3 (some q26) → (∀ M33, M33 = uI M31 a0 4 0 → ((((((0 + 1) + 1) + 1) + 1) ≤ 4 ∧ ((((0 + 12) + 12) + 12) + 12) ≤ 48) ∧ (post M33)))))))))))))))
set_option maxHeartbeats 4000000 in
set_option maxRecDepth 100000 in
theorem ct_X5_init {l : Launch} {g : Gh} {M0 : Mem} {a0 : Nat} {post : Mem → Prop}  (hq : wp_X5_init  g M0 a0 post) : Ct l g yX5_init cX5_init 1 none 1 4 48 [.ref a0] M0 (pV post) := by
  unfold wp_X5_init at hq
  obtain ⟨h0, hq⟩ := hq
  have h00 := h0
  refine Ct.of (by decide) (Nat.le_of_ble_eq_true rfl) ?_
  intro p e s m below meth c ls C hr hlk hn hl hw
  have hx := C.1.1
  have hb := C.1.2.1
  have hl : lv_has ls 1 [(0, .ref a0)] := hl
  refine lv_aload_n hx hb dX5_init_0 rfl (lv_at hl 0 rfl) ?_
  refine W.objInit hx hb C.1.2.2.2.1 (C.1.2.2.2.2 _ w_335) (C.1.2.2.2.2 _ w_35) (C.1.2.2.2.2 _ w_objInit) rfl (by rw [C.1.2.2.1]; exact hl.1) rfl dX5_init_1 (Nat.le_of_ble_eq_true rfl) (Nat.le_of_ble_eq_true rfl) ?_
  refine W.eq (g2 := F0 m 4 ls []) rfl ?_
  refine lv_aload_n hx hb dX5_init_4 rfl (lv_at hl 0 rfl) ?_
  refine lv_bipush (v := 12) hx hb dX5_init_5 (by decide) ?_
  have hB := hw.B C.2.2.2.2.2
  obtain ⟨h1, hq⟩ := hq
  refine q_newa_14 (N' := 12) C hw (by decide) (by decide) (by decide) h1.1 h1.2 dX5_init_7 (fun H hw => ?_)
  have h6 := okc_nw (gB g) M0 14 12 hB
  have h0 := h0.up (mle_nw M0 14 12)
  generalize e4 : nw M0 14 12 = M3 at hw h6 h0
  generalize e5 : mT M0 = q2 at h6 ⊢
  replace hq := hq q2 M3 e5.symm e4.symm
  refine pfX5_9 (v := (some q2)) C hw (mle_rf _) h0 hn dX5_init_9 (fun H locs hw => ?_)
  generalize e8 : uR M3 a0 0 (some q2) = M7 at hw
  replace hq := hq M7 e8.symm
  have h0 : okc (gB g) M7 a0 5 := by rw [← e8]; exact okc_uR h0
  refine lv_aload_n hx hb dX5_init_12 rfl (lv_at hl 0 rfl) ?_
  refine lv_bipush (v := 12) hx hb dX5_init_13 (by decide) ?_
  have hB := hw.B C.2.2.2.2.2
  obtain ⟨h9, hq⟩ := hq
  refine q_newa_14 (N' := 12) C hw (by decide) (by decide) (by decide) h9.1 h9.2 dX5_init_15 (fun H hw => ?_)
  have h14 := okc_nw (gB g) M7 14 12 hB
  have h0 := h0.up (mle_nw M7 14 12)
  generalize e12 : nw M7 14 12 = M11 at hw h14 h0
  generalize e13 : mT M7 = q10 at h14 ⊢
  replace hq := hq q10 M11 e13.symm e12.symm
  refine pfX5_15 (v := (some q10)) C hw (mle_rf _) h0 hn dX5_init_17 (fun H locs hw => ?_)
  generalize e16 : uR M11 a0 1 (some q10) = M15 at hw
  replace hq := hq M15 e16.symm
  have h0 : okc (gB g) M15 a0 5 := by rw [← e16]; exact okc_uR h0
  refine lv_aload_n hx hb dX5_init_20 rfl (lv_at hl 0 rfl) ?_
  refine lv_bipush (v := 12) hx hb dX5_init_21 (by decide) ?_
  have hB := hw.B C.2.2.2.2.2
  obtain ⟨h17, hq⟩ := hq
  refine q_newa_14 (N' := 12) C hw (by decide) (by decide) (by decide) h17.1 h17.2 dX5_init_23 (fun H hw => ?_)
  have h22 := okc_nw (gB g) M15 14 12 hB
  have h0 := h0.up (mle_nw M15 14 12)
  generalize e20 : nw M15 14 12 = M19 at hw h22 h0
  generalize e21 : mT M15 = q18 at h22 ⊢
  replace hq := hq q18 M19 e21.symm e20.symm
  refine pfX5_18 (v := (some q18)) C hw (mle_rf _) h0 hn dX5_init_25 (fun H locs hw => ?_)
  generalize e24 : uR M19 a0 2 (some q18) = M23 at hw
  replace hq := hq M23 e24.symm
  have h0 : okc (gB g) M23 a0 5 := by rw [← e24]; exact okc_uR h0
  refine lv_aload_n hx hb dX5_init_28 rfl (lv_at hl 0 rfl) ?_
  refine lv_bipush (v := 12) hx hb dX5_init_29 (by decide) ?_
  have hB := hw.B C.2.2.2.2.2
  obtain ⟨h25, hq⟩ := hq
  refine q_newa_14 (N' := 12) C hw (by decide) (by decide) (by decide) h25.1 h25.2 dX5_init_31 (fun H hw => ?_)
  have h30 := okc_nw (gB g) M23 14 12 hB
  have h0 := h0.up (mle_nw M23 14 12)
  generalize e28 : nw M23 14 12 = M27 at hw h30 h0
  generalize e29 : mT M23 = q26 at h30 ⊢
  replace hq := hq q26 M27 e29.symm e28.symm
  refine pfX5_21 (v := (some q26)) C hw (mle_rf _) h0 hn dX5_init_33 (fun H locs hw => ?_)
  generalize e32 : uR M27 a0 3 (some q26) = M31 at hw
  replace hq := hq M31 e32.symm
  have h0 : okc (gB g) M31 a0 5 := by rw [← e32]; exact okc_uR h0
  refine lv_aload_n hx hb dX5_init_36 rfl (lv_at hl 0 rfl) ?_
  refine lv_iconst (v := 0) hx hb dX5_init_37 (by decide) ?_
  refine pfX5_24 C hw (mle_rf _) h0 dX5_init_38 (fun H locs hw => ?_)
  generalize e34 : uI M31 a0 4 0 = M33 at hw
  replace hq := hq M33 e34.symm
  have h0 : okc (gB g) M33 a0 5 := by rw [← e34]; exact okc_uI h0
  obtain ⟨h35, hq⟩ := hq
  exact r_vret C hr hlk hw dX5_init_41 h35.1 h35.2 ⟨rfl, hq⟩

set_option maxRecDepth 100000 in
def wp_X11_isTeam  (g : Gh) (M0 : Mem) (p0 : Int32) (post : Int32 → Mem → Prop) : Prop :=
  ((p0 < 0) → post 0 M0) ∧ (¬ (p0 < 0) → ((12 ≤ p0) → post 0 M0) ∧ (¬ (12 ≤ p0) → post 1 M0))
set_option maxHeartbeats 4000000 in
set_option maxRecDepth 100000 in
theorem ct_X11_isTeam {l : Launch} {g : Gh} {M0 : Mem} {p0 : Int32} {post : Int32 → Mem → Prop}  (hq : wp_X11_isTeam  g M0 p0 post) : Ct l g yX11_isTeam cX11_isTeam 1 (some .boolean) 0 0 0 [.int p0] M0 (pI post) := by
  unfold wp_X11_isTeam at hq
  refine Ct.of (by decide) (Nat.le_of_ble_eq_true rfl) ?_
  intro p e s m below meth c ls C hr hlk hn hl hw
  have hx := C.1.1
  have hb := C.1.2.1
  have hl : lv_has ls 1 [(0, .int p0)] := hl
  refine lv_iload_n hx hb dX11_isTeam_0 rfl (lv_at hl 0 rfl) ?_
  refine lv_if_lt (tgt := 14) hx hb dX11_isTeam_1 (by decide) (fun c1 => ?_) (fun c1 => ?_)
  · replace hq := hq.1 c1
    refine lv_iconst (v := 0) hx hb dX11_isTeam_14 (by decide) ?_
    exact r_zret C hr hlk hw dX11_isTeam_15 (Nat.le_refl _) (Nat.le_refl _) (by decide) ⟨_, rfl, hq⟩
  · replace hq := hq.2 c1
    refine lv_iload_n hx hb dX11_isTeam_4 rfl (lv_at hl 0 rfl) ?_
    refine lv_bipush (v := 12) hx hb dX11_isTeam_5 (by decide) ?_
    refine lv_icmp_ge (tgt := 14) hx hb dX11_isTeam_7 (by decide) (fun c2 => ?_) (fun c2 => ?_)
    · replace hq := hq.1 c2
      refine lv_iconst (v := 0) hx hb dX11_isTeam_14 (by decide) ?_
      exact r_zret C hr hlk hw dX11_isTeam_15 (Nat.le_refl _) (Nat.le_refl _) (by decide) ⟨_, rfl, hq⟩
    · replace hq := hq.2 c2
      refine lv_iconst (v := 1) hx hb dX11_isTeam_10 (by decide) ?_
      refine lv_goto (tgt := 15) hx hb dX11_isTeam_11 (by decide) ?_
      exact r_zret C hr hlk hw dX11_isTeam_15 (Nat.le_refl _) (Nat.le_refl _) (by decide) ⟨_, rfl, hq⟩

set_option maxRecDepth 100000 in
def lb_X5_addSide_37  (g : Gh) (M0 : Mem) (a0 : Nat) (p1 : Int32) (p2 : Int32) (p3 : Int32) (post : Mem → Prop)   (s0 : Nat) (s1 : Int32) (s2 : Int32) (s3 : Int32) (M : Mem) : Prop :=
  okc (gB g) M0 s0 14 ∧ (vp_in s1 (mN M0 s0) ∧ (∀ M3, M3 = uI M s0 (Int32.toNatClampNeg s1) (s2 + s3) → (∃ q5, mR M3 a0 1 = some q5 ∧ (okc (gB g) M0 q5 14 ∧ (vp_in p1 (mN M0 q5) ∧ (∀ M9, M9 = uI M3 q5 (Int32.toNatClampNeg p1) ((mI M3 q5 (Int32.toNatClampNeg p1)) + 1) → (∃ q11, mR M9 a0 2 = some q11 ∧ (okc (gB g) M0 q11 14 ∧ (vp_in p1 (mN M0 q11) ∧ (∀ M15, M15 = uI M9 q11 (Int32.toNatClampNeg p1) ((mI M9 q11 (Int32.toNatClampNeg p1)) + p2) → (∃ q17, mR M15 a0 3 = some q17 ∧ (okc (gB g) M0 q17 14 ∧ (vp_in p1 (mN M0 q17) ∧ (∀ M21, M21 = uI M15 q17 (Int32.toNatClampNeg p1) ((mI M15 q17 (Int32.toNatClampNeg p1)) + p3) → (post M21)))))))))))))))
set_option maxRecDepth 100000 in
def lb_X5_addSide_17  (g : Gh) (M0 : Mem) (a0 : Nat) (p1 : Int32) (p2 : Int32) (p3 : Int32) (post : Mem → Prop)   (s0 : Int32) (M : Mem) : Prop :=
  ∃ q23, mR M a0 0 = some q23 ∧ (okc (gB g) M0 q23 14 ∧ (vp_in p1 (mN M0 q23) ∧ (((p2 = p3) → lb_X5_addSide_37  g M0 a0 p1 p2 p3 post  q23 p1 (mI M q23 (Int32.toNatClampNeg p1)) 1 M) ∧ (¬ (p2 = p3) → lb_X5_addSide_37  g M0 a0 p1 p2 p3 post  q23 p1 (mI M q23 (Int32.toNatClampNeg p1)) s0 M))))
set_option maxRecDepth 100000 in
def wp_X5_addSide  (g : Gh) (M0 : Mem) (a0 : Nat) (p1 : Int32) (p2 : Int32) (p3 : Int32) (post : Mem → Prop) : Prop :=
  okc (gB g) M0 a0 5 ∧ (wp_X11_isTeam g M0 p1 (fun v28 M29 => ((v28 = 0) → post M29) ∧ (¬ (v28 = 0) → ((p2 ≤ p3) → lb_X5_addSide_17  g M0 a0 p1 p2 p3 post  0 M29) ∧ (¬ (p2 ≤ p3) → lb_X5_addSide_17  g M0 a0 p1 p2 p3 post  2 M29))))
set_option maxHeartbeats 4000000 in
set_option maxRecDepth 100000 in
theorem lt_X5_addSide_37 {l : Launch} {g : Gh} {p : Program} {e : Env} {s : State} {m : MethodId} {args : Array Value} {below : List Frame} {meth : Method} {c : Code} {H : Heap} {locs : List Loc} {ls : Array Slot} {M0 M : Mem} {a0 : Nat} {p1 : Int32} {p2 : Int32} {p3 : Int32} {post : Mem → Prop}  {s0 : Nat} {s1 : Int32} {s2 : Int32} {s3 : Int32}  (C : Cx g p s m args c cX5_addSide 5 RX5) (hr : meth.sig.returnType = none) (hlk : meth.locks = false) (hn : meth.name = "addSide") (h0 : okc (gB g) M0 a0 5)  (hq : lb_X5_addSide_37  g M0 a0 p1 p2 p3 post  s0 s1 s2 s3 M) (hw : Wd g s M0 M H locs) (hl : lv_has ls 5 [(0, .ref a0), (1, .int p1), (2, .int p2), (3, .int p3)]) : W p l e (rmo 1 0 0) s m args below meth c H locs 0 0 (MQ below (Cq g M0 (pV post)) args s 0 0 (gA g)) (F0 m 37 ls [.int s3, .int s2, .int s1, .ref s0]) := by
  have hx := C.1.1
  have hb := C.1.2.1
  unfold lb_X5_addSide_37 at hq
  refine lv_iadd hx hb dX5_addSide_37 ?_
  obtain ⟨h1, hq⟩ := hq
  obtain ⟨h2, hq⟩ := hq
  refine q_iast C hw hw.2.2.1 h1 h2 dX5_addSide_38 (fun H locs hw => ?_)
  generalize e4 : uI M s0 (Int32.toNatClampNeg s1) (s2 + s3) = M3 at hw
  replace hq := hq M3 e4.symm
  refine lv_aload_n hx hb dX5_addSide_39 rfl (lv_at hl 0 rfl) ?_
  obtain ⟨q5, e6, hq⟩ := hq
  refine gfX5_15 C hw hw.2.2.1 h0 e6 dX5_addSide_40 ?_
  refine lv_iload_n hx hb dX5_addSide_43 rfl (lv_at hl 1 rfl) ?_
  refine lv_dup2_11 hx hb dX5_addSide_44 rfl rfl ?_
  obtain ⟨h7, hq⟩ := hq
  obtain ⟨h8, hq⟩ := hq
  refine q_iald C hw hw.2.2.1 h7 h8 dX5_addSide_45 ?_
  refine lv_iconst (v := 1) hx hb dX5_addSide_46 (by decide) ?_
  refine lv_iadd hx hb dX5_addSide_47 ?_
  refine q_iast C hw hw.2.2.1 h7 h8 dX5_addSide_48 (fun H locs hw => ?_)
  generalize e10 : uI M3 q5 (Int32.toNatClampNeg p1) ((mI M3 q5 (Int32.toNatClampNeg p1)) + 1) = M9 at hw
  replace hq := hq M9 e10.symm
  have e6 : mR M9 a0 1 = some q5 := by rw [← e10, mR_uI]; exact e6
  refine lv_aload_n hx hb dX5_addSide_49 rfl (lv_at hl 0 rfl) ?_
  obtain ⟨q11, e12, hq⟩ := hq
  refine gfX5_18 C hw hw.2.2.1 h0 e12 dX5_addSide_50 ?_
  refine lv_iload_n hx hb dX5_addSide_53 rfl (lv_at hl 1 rfl) ?_
  refine lv_dup2_11 hx hb dX5_addSide_54 rfl rfl ?_
  obtain ⟨h13, hq⟩ := hq
  obtain ⟨h14, hq⟩ := hq
  refine q_iald C hw hw.2.2.1 h13 h14 dX5_addSide_55 ?_
  refine lv_iload_n hx hb dX5_addSide_56 rfl (lv_at hl 2 rfl) ?_
  refine lv_iadd hx hb dX5_addSide_57 ?_
  refine q_iast C hw hw.2.2.1 h13 h14 dX5_addSide_58 (fun H locs hw => ?_)
  generalize e16 : uI M9 q11 (Int32.toNatClampNeg p1) ((mI M9 q11 (Int32.toNatClampNeg p1)) + p2) = M15 at hw
  replace hq := hq M15 e16.symm
  have e6 : mR M15 a0 1 = some q5 := by rw [← e16, mR_uI]; exact e6
  have e12 : mR M15 a0 2 = some q11 := by rw [← e16, mR_uI]; exact e12
  refine lv_aload_n hx hb dX5_addSide_59 rfl (lv_at hl 0 rfl) ?_
  obtain ⟨q17, e18, hq⟩ := hq
  refine gfX5_21 C hw hw.2.2.1 h0 e18 dX5_addSide_60 ?_
  refine lv_iload_n hx hb dX5_addSide_63 rfl (lv_at hl 1 rfl) ?_
  refine lv_dup2_11 hx hb dX5_addSide_64 rfl rfl ?_
  obtain ⟨h19, hq⟩ := hq
  obtain ⟨h20, hq⟩ := hq
  refine q_iald C hw hw.2.2.1 h19 h20 dX5_addSide_65 ?_
  refine lv_iload_n hx hb dX5_addSide_66 rfl (lv_at hl 3 rfl) ?_
  refine lv_iadd hx hb dX5_addSide_67 ?_
  refine q_iast C hw hw.2.2.1 h19 h20 dX5_addSide_68 (fun H locs hw => ?_)
  generalize e22 : uI M15 q17 (Int32.toNatClampNeg p1) ((mI M15 q17 (Int32.toNatClampNeg p1)) + p3) = M21 at hw
  replace hq := hq M21 e22.symm
  have e6 : mR M21 a0 1 = some q5 := by rw [← e22, mR_uI]; exact e6
  have e12 : mR M21 a0 2 = some q11 := by rw [← e22, mR_uI]; exact e12
  have e18 : mR M21 a0 3 = some q17 := by rw [← e22, mR_uI]; exact e18
  exact r_vret C hr hlk hw dX5_addSide_69 (Nat.le_refl _) (Nat.le_refl _) ⟨rfl, hq⟩
set_option maxHeartbeats 4000000 in
set_option maxRecDepth 100000 in
theorem lt_X5_addSide_17 {l : Launch} {g : Gh} {p : Program} {e : Env} {s : State} {m : MethodId} {args : Array Value} {below : List Frame} {meth : Method} {c : Code} {H : Heap} {locs : List Loc} {ls : Array Slot} {M0 M : Mem} {a0 : Nat} {p1 : Int32} {p2 : Int32} {p3 : Int32} {post : Mem → Prop}  {s0 : Int32}  (C : Cx g p s m args c cX5_addSide 5 RX5) (hr : meth.sig.returnType = none) (hlk : meth.locks = false) (hn : meth.name = "addSide") (h0 : okc (gB g) M0 a0 5)  (hq : lb_X5_addSide_17  g M0 a0 p1 p2 p3 post  s0 M) (hw : Wd g s M0 M H locs) (hl : lv_has ls 5 [(0, .ref a0), (1, .int p1), (2, .int p2), (3, .int p3)]) : W p l e (rmo 1 0 0) s m args below meth c H locs 0 0 (MQ below (Cq g M0 (pV post)) args s 0 0 (gA g)) (F0 m 17 ls [.int s0]) := by
  have hx := C.1.1
  have hb := C.1.2.1
  unfold lb_X5_addSide_17 at hq
  refine lv_istore (lv' := [(4, .int s0), (0, .ref a0), (1, .int p1), (2, .int p2), (3, .int p3)]) hx hb dX5_addSide_17 hl (by decide) rfl (fun ls hl => ?_)
  refine lv_aload_n hx hb dX5_addSide_19 rfl (lv_at hl 1 rfl) ?_
  obtain ⟨q23, e24, hq⟩ := hq
  refine gfX5_9 C hw hw.2.2.1 h0 e24 dX5_addSide_20 ?_
  refine lv_iload_n hx hb dX5_addSide_23 rfl (lv_at hl 2 rfl) ?_
  refine lv_dup2_11 hx hb dX5_addSide_24 rfl rfl ?_
  obtain ⟨h25, hq⟩ := hq
  obtain ⟨h26, hq⟩ := hq
  refine q_iald C hw hw.2.2.1 h25 h26 dX5_addSide_25 ?_
  refine lv_iload_n hx hb dX5_addSide_26 rfl (lv_at hl 3 rfl) ?_
  refine lv_iload_n hx hb dX5_addSide_27 rfl (lv_at hl 4 rfl) ?_
  refine lv_icmp_ne (tgt := 35) hx hb dX5_addSide_28 (by decide) (fun c27 => ?_) (fun c27 => ?_)
  · replace hq := hq.2 c27
    refine lv_iload hx hb dX5_addSide_35 (lv_at hl 0 rfl) ?_
    exact lt_X5_addSide_37  C hr hlk hn h0  hq hw (lv_sub hl [1, 2, 3, 4] rfl)
  · replace hq := hq.1 c27
    refine lv_iconst (v := 1) hx hb dX5_addSide_31 (by decide) ?_
    refine lv_goto (tgt := 37) hx hb dX5_addSide_32 (by decide) ?_
    exact lt_X5_addSide_37  C hr hlk hn h0  hq hw (lv_sub hl [1, 2, 3, 4] rfl)
set_option maxHeartbeats 4000000 in
set_option maxRecDepth 100000 in
theorem ct_X5_addSide {l : Launch} {g : Gh} {M0 : Mem} {a0 : Nat} {p1 : Int32} {p2 : Int32} {p3 : Int32} {post : Mem → Prop}  (hq : wp_X5_addSide  g M0 a0 p1 p2 p3 post) : Ct l g yX5_addSide cX5_addSide 5 none 1 0 0 [.ref a0, .int p1, .int p2, .int p3] M0 (pV post) := by
  unfold wp_X5_addSide at hq
  obtain ⟨h0, hq⟩ := hq
  refine Ct.of (by decide) (Nat.le_of_ble_eq_true rfl) ?_
  intro p e s m below meth c ls C hr hlk hn hl hw
  have hx := C.1.1
  have hb := C.1.2.1
  have hl : lv_has ls 5 [(0, .ref a0), (1, .int p1), (2, .int p2), (3, .int p3)] := hl
  refine lv_iload_n hx hb dX5_addSide_0 rfl (lv_at hl 1 rfl) ?_
  refine r_callSN (index := 36) (n := 1) (d2 := 0) (mc := 0) (ms := 0) (As := [.int p1]) (rest := []) C hw (ct_X11_isTeam hq) ksX5_36 ⟨by decide, by decide⟩ ⟨by decide, by decide⟩ rfl hl.1 rfl (Nat.le_of_ble_eq_true rfl) dX5_addSide_1 (fun r M29 H locs hp hle hw => ?_)
  obtain ⟨v28, rfl, hq⟩ := hp
  refine W.eq (g2 := F0 m 4 ls [.int v28]) rfl ?_
  refine lv_if_eq (tgt := 69) hx hb dX5_addSide_4 (by decide) (fun c30 => ?_) (fun c30 => ?_)
  · replace hq := hq.1 c30
    exact r_vret C hr hlk hw dX5_addSide_69 (Nat.le_refl _) (Nat.le_refl _) ⟨rfl, hq⟩
  · replace hq := hq.2 c30
    refine lv_iload_n hx hb dX5_addSide_7 rfl (lv_at hl 2 rfl) ?_
    refine lv_iload_n hx hb dX5_addSide_8 rfl (lv_at hl 3 rfl) ?_
    refine lv_icmp_le (tgt := 16) hx hb dX5_addSide_9 (by decide) (fun c31 => ?_) (fun c31 => ?_)
    · replace hq := hq.1 c31
      refine lv_iconst (v := 0) hx hb dX5_addSide_16 (by decide) ?_
      exact lt_X5_addSide_17  C hr hlk hn h0  hq hw (lv_sub hl [0, 1, 2, 3] rfl)
    · replace hq := hq.2 c31
      refine lv_iconst (v := 2) hx hb dX5_addSide_12 (by decide) ?_
      refine lv_goto (tgt := 17) hx hb dX5_addSide_13 (by decide) ?_
      exact lt_X5_addSide_17  C hr hlk hn h0  hq hw (lv_sub hl [0, 1, 2, 3] rfl)

set_option maxRecDepth 100000 in
def wp_X5_addMatch  (g : Gh) (M0 : Mem) (a0 : Nat) (p1 : Int32) (p2 : Int32) (p3 : Int32) (p4 : Int32) (post : Mem → Prop) : Prop :=
  okc (gB g) M0 a0 5 ∧ (∀ M1, M1 = uI M0 a0 4 ((mI M0 a0 4) + 1) → (wp_X5_addSide g M1 a0 p1 p3 p4 (fun M4 => wp_X5_addSide g M4 a0 p2 p4 p3 (fun M6 => post M6))))
set_option maxHeartbeats 4000000 in
set_option maxRecDepth 100000 in
theorem ct_X5_addMatch {l : Launch} {g : Gh} {M0 : Mem} {a0 : Nat} {p1 : Int32} {p2 : Int32} {p3 : Int32} {p4 : Int32} {post : Mem → Prop}  (hq : wp_X5_addMatch  g M0 a0 p1 p2 p3 p4 post) : Ct l g yX5_addMatch cX5_addMatch 5 none 2 0 0 [.ref a0, .int p1, .int p2, .int p3, .int p4] M0 (pV post) := by
  unfold wp_X5_addMatch at hq
  obtain ⟨h0, hq⟩ := hq
  refine Ct.of (by decide) (Nat.le_of_ble_eq_true rfl) ?_
  intro p e s m below meth c ls C hr hlk hn hl hw
  have hx := C.1.1
  have hb := C.1.2.1
  have hl : lv_has ls 5 [(0, .ref a0), (1, .int p1), (2, .int p2), (3, .int p3), (4, .int p4)] := hl
  refine lv_aload_n hx hb dX5_addMatch_0 rfl (lv_at hl 0 rfl) ?_
  refine lv_dup hx hb dX5_addMatch_1 rfl ?_
  refine gfX5_24 C hw hw.2.2.1 h0 dX5_addMatch_2 ?_
  refine lv_iconst (v := 1) hx hb dX5_addMatch_5 (by decide) ?_
  refine lv_iadd hx hb dX5_addMatch_6 ?_
  refine pfX5_24 C hw hw.2.2.1 h0 dX5_addMatch_7 (fun H locs hw => ?_)
  generalize e2 : uI M0 a0 4 ((mI M0 a0 4) + 1) = M1 at hw
  replace hq := hq M1 e2.symm
  refine lv_aload_n hx hb dX5_addMatch_10 rfl (lv_at hl 0 rfl) ?_
  refine lv_iload_n hx hb dX5_addMatch_11 rfl (lv_at hl 1 rfl) ?_
  refine lv_iload_n hx hb dX5_addMatch_12 rfl (lv_at hl 3 rfl) ?_
  refine lv_iload hx hb dX5_addMatch_13 (lv_at hl 4 rfl) ?_
  refine r_callV (T := TX5) (N := 5) (ci := 5) (index := 28) (n := 3) (d2 := 1) (mc := 0) (ms := 0) (As := [.int p1, .int p3, .int p4]) (rest := []) C hw (ct_X5_addSide hq) kvX5_28 hq.1 (by decide) rfl ⟨by decide, by decide⟩ ⟨by decide, by decide⟩ rfl hl.1 rfl (Nat.le_of_ble_eq_true rfl) dX5_addMatch_15 (fun r M4 H locs hp hle hw => ?_)
  obtain ⟨rfl, hq⟩ := hp
  refine W.eq (g2 := F0 m 18 ls []) rfl ?_
  refine lv_aload_n hx hb dX5_addMatch_18 rfl (lv_at hl 0 rfl) ?_
  refine lv_iload_n hx hb dX5_addMatch_19 rfl (lv_at hl 2 rfl) ?_
  refine lv_iload hx hb dX5_addMatch_20 (lv_at hl 4 rfl) ?_
  refine lv_iload_n hx hb dX5_addMatch_22 rfl (lv_at hl 3 rfl) ?_
  refine r_callV (T := TX5) (N := 5) (ci := 5) (index := 28) (n := 3) (d2 := 1) (mc := 0) (ms := 0) (As := [.int p2, .int p4, .int p3]) (rest := []) C hw (ct_X5_addSide hq) kvX5_28 hq.1 (by decide) rfl ⟨by decide, by decide⟩ ⟨by decide, by decide⟩ rfl hl.1 rfl (Nat.le_of_ble_eq_true rfl) dX5_addMatch_23 (fun r M6 H locs hp hle hw => ?_)
  obtain ⟨rfl, hq⟩ := hp
  refine W.eq (g2 := F0 m 26 ls []) rfl ?_
  exact r_vret C hr hlk hw dX5_addMatch_26 (Nat.le_refl _) (Nat.le_refl _) ⟨rfl, hq⟩

set_option maxRecDepth 100000 in
def wp_X5_isAhead  (g : Gh) (M0 : Mem) (a0 : Nat) (p1 : Int32) (p2 : Int32) (post : Int32 → Mem → Prop) : Prop :=
  okc (gB g) M0 a0 5 ∧ (wp_X11_isTeam g M0 p1 (fun v1 M2 => ((v1 = 0) → post 0 M2) ∧ (¬ (v1 = 0) → wp_X11_isTeam g M2 p2 (fun v4 M5 => ((v4 = 0) → post 0 M5) ∧ (¬ (v4 = 0) → ∃ q7, mR M5 a0 0 = some q7 ∧ (okc (gB g) M0 q7 14 ∧ (vp_in p1 (mN M0 q7) ∧ (vp_in p2 (mN M0 q7) ∧ ((((mI M5 q7 (Int32.toNatClampNeg p1)) = (mI M5 q7 (Int32.toNatClampNeg p2))) → ∃ q13, mR M5 a0 2 = some q13 ∧ (okc (gB g) M0 q13 14 ∧ (vp_in p1 (mN M0 q13) ∧ (∃ q17, mR M5 a0 3 = some q17 ∧ (okc (gB g) M0 q17 14 ∧ (vp_in p1 (mN M0 q17) ∧ (vp_in p2 (mN M0 q13) ∧ (vp_in p2 (mN M0 q17) ∧ (((((mI M5 q13 (Int32.toNatClampNeg p1)) - (mI M5 q17 (Int32.toNatClampNeg p1))) = ((mI M5 q13 (Int32.toNatClampNeg p2)) - (mI M5 q17 (Int32.toNatClampNeg p2)))) → (((mI M5 q13 (Int32.toNatClampNeg p1)) = (mI M5 q13 (Int32.toNatClampNeg p2))) → ((p2 ≤ p1) → post 0 M5) ∧ (¬ (p2 ≤ p1) → post 1 M5)) ∧ (¬ ((mI M5 q13 (Int32.toNatClampNeg p1)) = (mI M5 q13 (Int32.toNatClampNeg p2))) → (((mI M5 q13 (Int32.toNatClampNeg p1)) ≤ (mI M5 q13 (Int32.toNatClampNeg p2))) → post 0 M5) ∧ (¬ ((mI M5 q13 (Int32.toNatClampNeg p1)) ≤ (mI M5 q13 (Int32.toNatClampNeg p2))) → post 1 M5))) ∧ (¬ (((mI M5 q13 (Int32.toNatClampNeg p1)) - (mI M5 q17 (Int32.toNatClampNeg p1))) = ((mI M5 q13 (Int32.toNatClampNeg p2)) - (mI M5 q17 (Int32.toNatClampNeg p2)))) → ((((mI M5 q13 (Int32.toNatClampNeg p1)) - (mI M5 q17 (Int32.toNatClampNeg p1))) ≤ ((mI M5 q13 (Int32.toNatClampNeg p2)) - (mI M5 q17 (Int32.toNatClampNeg p2)))) → post 0 M5) ∧ (¬ (((mI M5 q13 (Int32.toNatClampNeg p1)) - (mI M5 q17 (Int32.toNatClampNeg p1))) ≤ ((mI M5 q13 (Int32.toNatClampNeg p2)) - (mI M5 q17 (Int32.toNatClampNeg p2)))) → post 1 M5))))))))))) ∧ (¬ ((mI M5 q7 (Int32.toNatClampNeg p1)) = (mI M5 q7 (Int32.toNatClampNeg p2))) → (((mI M5 q7 (Int32.toNatClampNeg p1)) ≤ (mI M5 q7 (Int32.toNatClampNeg p2))) → post 0 M5) ∧ (¬ ((mI M5 q7 (Int32.toNatClampNeg p1)) ≤ (mI M5 q7 (Int32.toNatClampNeg p2))) → post 1 M5)))))))))))
set_option maxHeartbeats 4000000 in
set_option maxRecDepth 100000 in
theorem ct_X5_isAhead {l : Launch} {g : Gh} {M0 : Mem} {a0 : Nat} {p1 : Int32} {p2 : Int32} {post : Int32 → Mem → Prop}  (hq : wp_X5_isAhead  g M0 a0 p1 p2 post) : Ct l g yX5_isAhead cX5_isAhead 5 (some .boolean) 1 0 0 [.ref a0, .int p1, .int p2] M0 (pI post) := by
  unfold wp_X5_isAhead at hq
  obtain ⟨h0, hq⟩ := hq
  refine Ct.of (by decide) (Nat.le_of_ble_eq_true rfl) ?_
  intro p e s m below meth c ls C hr hlk hn hl hw
  have hx := C.1.1
  have hb := C.1.2.1
  have hl : lv_has ls 5 [(0, .ref a0), (1, .int p1), (2, .int p2)] := hl
  refine lv_iload_n hx hb dX5_isAhead_0 rfl (lv_at hl 1 rfl) ?_
  refine r_callSN (index := 36) (n := 1) (d2 := 0) (mc := 0) (ms := 0) (As := [.int p1]) (rest := []) C hw (ct_X11_isTeam hq) ksX5_36 ⟨by decide, by decide⟩ ⟨by decide, by decide⟩ rfl hl.1 rfl (Nat.le_of_ble_eq_true rfl) dX5_isAhead_1 (fun r M2 H locs hp hle hw => ?_)
  obtain ⟨v1, rfl, hq⟩ := hp
  refine W.eq (g2 := F0 m 4 ls [.int v1]) rfl ?_
  refine lv_if_eq (tgt := 14) hx hb dX5_isAhead_4 (by decide) (fun c3 => ?_) (fun c3 => ?_)
  · replace hq := hq.1 c3
    refine lv_iconst (v := 0) hx hb dX5_isAhead_14 (by decide) ?_
    exact r_zret C hr hlk hw dX5_isAhead_15 (Nat.le_refl _) (Nat.le_refl _) (by decide) ⟨_, rfl, hq⟩
  · replace hq := hq.2 c3
    refine lv_iload_n hx hb dX5_isAhead_7 rfl (lv_at hl 2 rfl) ?_
    refine r_callSN (index := 36) (n := 1) (d2 := 0) (mc := 0) (ms := 0) (As := [.int p2]) (rest := []) C hw (ct_X11_isTeam hq) ksX5_36 ⟨by decide, by decide⟩ ⟨by decide, by decide⟩ rfl hl.1 rfl (Nat.le_of_ble_eq_true rfl) dX5_isAhead_8 (fun r M5 H locs hp hle hw => ?_)
    obtain ⟨v4, rfl, hq⟩ := hp
    refine W.eq (g2 := F0 m 11 ls [.int v4]) rfl ?_
    refine lv_if_ne (tgt := 16) hx hb dX5_isAhead_11 (by decide) (fun c6 => ?_) (fun c6 => ?_)
    · replace hq := hq.2 c6
      refine lv_aload_n hx hb dX5_isAhead_16 rfl (lv_at hl 0 rfl) ?_
      obtain ⟨q7, e8, hq⟩ := hq
      refine gfX5_9 C hw hw.2.2.1 h0 e8 dX5_isAhead_17 ?_
      refine lv_iload_n hx hb dX5_isAhead_20 rfl (lv_at hl 1 rfl) ?_
      obtain ⟨h9, hq⟩ := hq
      obtain ⟨h10, hq⟩ := hq
      refine q_iald C hw hw.2.2.1 h9 h10 dX5_isAhead_21 ?_
      refine lv_aload_n hx hb dX5_isAhead_22 rfl (lv_at hl 0 rfl) ?_
      refine gfX5_9 C hw hw.2.2.1 h0 e8 dX5_isAhead_23 ?_
      refine lv_iload_n hx hb dX5_isAhead_26 rfl (lv_at hl 2 rfl) ?_
      obtain ⟨h11, hq⟩ := hq
      refine q_iald C hw hw.2.2.1 h9 h11 dX5_isAhead_27 ?_
      refine lv_icmp_eq (tgt := 52) hx hb dX5_isAhead_28 (by decide) (fun c12 => ?_) (fun c12 => ?_)
      · replace hq := hq.1 c12
        refine lv_aload_n hx hb dX5_isAhead_52 rfl (lv_at hl 0 rfl) ?_
        obtain ⟨q13, e14, hq⟩ := hq
        refine gfX5_18 C hw hw.2.2.1 h0 e14 dX5_isAhead_53 ?_
        refine lv_iload_n hx hb dX5_isAhead_56 rfl (lv_at hl 1 rfl) ?_
        obtain ⟨h15, hq⟩ := hq
        obtain ⟨h16, hq⟩ := hq
        refine q_iald C hw hw.2.2.1 h15 h16 dX5_isAhead_57 ?_
        refine lv_aload_n hx hb dX5_isAhead_58 rfl (lv_at hl 0 rfl) ?_
        obtain ⟨q17, e18, hq⟩ := hq
        refine gfX5_21 C hw hw.2.2.1 h0 e18 dX5_isAhead_59 ?_
        refine lv_iload_n hx hb dX5_isAhead_62 rfl (lv_at hl 1 rfl) ?_
        obtain ⟨h19, hq⟩ := hq
        obtain ⟨h20, hq⟩ := hq
        refine q_iald C hw hw.2.2.1 h19 h20 dX5_isAhead_63 ?_
        refine lv_isub hx hb dX5_isAhead_64 ?_
        refine lv_istore_n (lv' := [(3, .int ((mI M5 q13 (Int32.toNatClampNeg p1)) - (mI M5 q17 (Int32.toNatClampNeg p1)))), (0, .ref a0), (1, .int p1), (2, .int p2)]) hx hb dX5_isAhead_65 rfl hl (by decide) rfl (fun ls hl => ?_)
        refine lv_aload_n hx hb dX5_isAhead_66 rfl (lv_at hl 1 rfl) ?_
        refine gfX5_18 C hw hw.2.2.1 h0 e14 dX5_isAhead_67 ?_
        refine lv_iload_n hx hb dX5_isAhead_70 rfl (lv_at hl 3 rfl) ?_
        obtain ⟨h21, hq⟩ := hq
        refine q_iald C hw hw.2.2.1 h15 h21 dX5_isAhead_71 ?_
        refine lv_aload_n hx hb dX5_isAhead_72 rfl (lv_at hl 1 rfl) ?_
        refine gfX5_21 C hw hw.2.2.1 h0 e18 dX5_isAhead_73 ?_
        refine lv_iload_n hx hb dX5_isAhead_76 rfl (lv_at hl 3 rfl) ?_
        obtain ⟨h22, hq⟩ := hq
        refine q_iald C hw hw.2.2.1 h19 h22 dX5_isAhead_77 ?_
        refine lv_isub hx hb dX5_isAhead_78 ?_
        refine lv_istore (lv' := [(4, .int ((mI M5 q13 (Int32.toNatClampNeg p2)) - (mI M5 q17 (Int32.toNatClampNeg p2)))), (3, .int ((mI M5 q13 (Int32.toNatClampNeg p1)) - (mI M5 q17 (Int32.toNatClampNeg p1)))), (0, .ref a0), (1, .int p1), (2, .int p2)]) hx hb dX5_isAhead_79 hl (by decide) rfl (fun ls hl => ?_)
        refine lv_iload_n hx hb dX5_isAhead_81 rfl (lv_at hl 1 rfl) ?_
        refine lv_iload hx hb dX5_isAhead_82 (lv_at hl 0 rfl) ?_
        refine lv_icmp_eq (tgt := 99) hx hb dX5_isAhead_84 (by decide) (fun c23 => ?_) (fun c23 => ?_)
        · replace hq := hq.1 c23
          refine lv_aload_n hx hb dX5_isAhead_99 rfl (lv_at hl 2 rfl) ?_
          refine gfX5_18 C hw hw.2.2.1 h0 e14 dX5_isAhead_100 ?_
          refine lv_iload_n hx hb dX5_isAhead_103 rfl (lv_at hl 3 rfl) ?_
          refine q_iald C hw hw.2.2.1 h15 h16 dX5_isAhead_104 ?_
          refine lv_aload_n hx hb dX5_isAhead_105 rfl (lv_at hl 2 rfl) ?_
          refine gfX5_18 C hw hw.2.2.1 h0 e14 dX5_isAhead_106 ?_
          refine lv_iload_n hx hb dX5_isAhead_109 rfl (lv_at hl 4 rfl) ?_
          refine q_iald C hw hw.2.2.1 h15 h21 dX5_isAhead_110 ?_
          refine lv_icmp_eq (tgt := 137) hx hb dX5_isAhead_111 (by decide) (fun c24 => ?_) (fun c24 => ?_)
          · replace hq := hq.1 c24
            refine lv_iload_n hx hb dX5_isAhead_137 rfl (lv_at hl 3 rfl) ?_
            refine lv_iload_n hx hb dX5_isAhead_138 rfl (lv_at hl 4 rfl) ?_
            refine lv_icmp_ge (tgt := 146) hx hb dX5_isAhead_139 (by decide) (fun c25 => ?_) (fun c25 => ?_)
            · replace hq := hq.1 c25
              refine lv_iconst (v := 0) hx hb dX5_isAhead_146 (by decide) ?_
              exact r_zret C hr hlk hw dX5_isAhead_147 (Nat.le_refl _) (Nat.le_refl _) (by decide) ⟨_, rfl, hq⟩
            · replace hq := hq.2 c25
              refine lv_iconst (v := 1) hx hb dX5_isAhead_142 (by decide) ?_
              refine lv_goto (tgt := 147) hx hb dX5_isAhead_143 (by decide) ?_
              exact r_zret C hr hlk hw dX5_isAhead_147 (Nat.le_refl _) (Nat.le_refl _) (by decide) ⟨_, rfl, hq⟩
          · replace hq := hq.2 c24
            refine lv_aload_n hx hb dX5_isAhead_114 rfl (lv_at hl 2 rfl) ?_
            refine gfX5_18 C hw hw.2.2.1 h0 e14 dX5_isAhead_115 ?_
            refine lv_iload_n hx hb dX5_isAhead_118 rfl (lv_at hl 3 rfl) ?_
            refine q_iald C hw hw.2.2.1 h15 h16 dX5_isAhead_119 ?_
            refine lv_aload_n hx hb dX5_isAhead_120 rfl (lv_at hl 2 rfl) ?_
            refine gfX5_18 C hw hw.2.2.1 h0 e14 dX5_isAhead_121 ?_
            refine lv_iload_n hx hb dX5_isAhead_124 rfl (lv_at hl 4 rfl) ?_
            refine q_iald C hw hw.2.2.1 h15 h21 dX5_isAhead_125 ?_
            refine lv_icmp_le (tgt := 133) hx hb dX5_isAhead_126 (by decide) (fun c26 => ?_) (fun c26 => ?_)
            · replace hq := hq.1 c26
              refine lv_iconst (v := 0) hx hb dX5_isAhead_133 (by decide) ?_
              refine lv_goto (tgt := 147) hx hb dX5_isAhead_134 (by decide) ?_
              exact r_zret C hr hlk hw dX5_isAhead_147 (Nat.le_refl _) (Nat.le_refl _) (by decide) ⟨_, rfl, hq⟩
            · replace hq := hq.2 c26
              refine lv_iconst (v := 1) hx hb dX5_isAhead_129 (by decide) ?_
              refine lv_goto (tgt := 147) hx hb dX5_isAhead_130 (by decide) ?_
              exact r_zret C hr hlk hw dX5_isAhead_147 (Nat.le_refl _) (Nat.le_refl _) (by decide) ⟨_, rfl, hq⟩
        · replace hq := hq.2 c23
          refine lv_iload_n hx hb dX5_isAhead_87 rfl (lv_at hl 1 rfl) ?_
          refine lv_iload hx hb dX5_isAhead_88 (lv_at hl 0 rfl) ?_
          refine lv_icmp_le (tgt := 97) hx hb dX5_isAhead_90 (by decide) (fun c27 => ?_) (fun c27 => ?_)
          · replace hq := hq.1 c27
            refine lv_iconst (v := 0) hx hb dX5_isAhead_97 (by decide) ?_
            exact r_zret C hr hlk hw dX5_isAhead_98 (Nat.le_refl _) (Nat.le_refl _) (by decide) ⟨_, rfl, hq⟩
          · replace hq := hq.2 c27
            refine lv_iconst (v := 1) hx hb dX5_isAhead_93 (by decide) ?_
            refine lv_goto (tgt := 98) hx hb dX5_isAhead_94 (by decide) ?_
            exact r_zret C hr hlk hw dX5_isAhead_98 (Nat.le_refl _) (Nat.le_refl _) (by decide) ⟨_, rfl, hq⟩
      · replace hq := hq.2 c12
        refine lv_aload_n hx hb dX5_isAhead_31 rfl (lv_at hl 0 rfl) ?_
        refine gfX5_9 C hw hw.2.2.1 h0 e8 dX5_isAhead_32 ?_
        refine lv_iload_n hx hb dX5_isAhead_35 rfl (lv_at hl 1 rfl) ?_
        refine q_iald C hw hw.2.2.1 h9 h10 dX5_isAhead_36 ?_
        refine lv_aload_n hx hb dX5_isAhead_37 rfl (lv_at hl 0 rfl) ?_
        refine gfX5_9 C hw hw.2.2.1 h0 e8 dX5_isAhead_38 ?_
        refine lv_iload_n hx hb dX5_isAhead_41 rfl (lv_at hl 2 rfl) ?_
        refine q_iald C hw hw.2.2.1 h9 h11 dX5_isAhead_42 ?_
        refine lv_icmp_le (tgt := 50) hx hb dX5_isAhead_43 (by decide) (fun c28 => ?_) (fun c28 => ?_)
        · replace hq := hq.1 c28
          refine lv_iconst (v := 0) hx hb dX5_isAhead_50 (by decide) ?_
          exact r_zret C hr hlk hw dX5_isAhead_51 (Nat.le_refl _) (Nat.le_refl _) (by decide) ⟨_, rfl, hq⟩
        · replace hq := hq.2 c28
          refine lv_iconst (v := 1) hx hb dX5_isAhead_46 (by decide) ?_
          refine lv_goto (tgt := 51) hx hb dX5_isAhead_47 (by decide) ?_
          exact r_zret C hr hlk hw dX5_isAhead_51 (Nat.le_refl _) (Nat.le_refl _) (by decide) ⟨_, rfl, hq⟩
    · replace hq := hq.1 c6
      refine lv_iconst (v := 0) hx hb dX5_isAhead_14 (by decide) ?_
      exact r_zret C hr hlk hw dX5_isAhead_15 (Nat.le_refl _) (Nat.le_refl _) (by decide) ⟨_, rfl, hq⟩

set_option maxRecDepth 100000 in
def bd_X5_placeOf_4  (g : Gh) (M0 : Mem) (a0 : Nat) (p1 : Int32) (post : Int32 → Mem → Prop)  (bk4 : Int32 × Int32 × Mem → Prop) (x2 : Int32) (x3 : Int32)  (M : Mem) : Prop :=
  ((12 ≤ x3) → post x2 M) ∧ (¬ (12 ≤ x3) → ((x3 = p1) → bk4 (x2, (x3 + 1), M)) ∧ (¬ (x3 = p1) → wp_X5_isAhead g M a0 x3 p1 (fun v3 M4 => ((v3 = 0) → bk4 (x2, (x3 + 1), M4)) ∧ (¬ (v3 = 0) → bk4 ((x2 + 1), (x3 + 1), M4)))))
set_option maxRecDepth 100000 in
def wp_X5_placeOf  (g : Gh) (M0 : Mem) (a0 : Nat) (p1 : Int32) (post : Int32 → Mem → Prop) : Prop :=
  okc (gB g) M0 a0 5 ∧ ((∃ n : Nat, lfp (fun bk z => bd_X5_placeOf_4  g M0 a0 p1 post  bk z.1 z.2.1 z.2.2) n (0, 0, M0)))
set_option maxHeartbeats 4000000 in
set_option maxRecDepth 100000 in
theorem lp_X5_placeOf_4 {l : Launch} {g : Gh} {p : Program} {e : Env} {s : State} {m : MethodId} {args : Array Value} {below : List Frame} {meth : Method} {c : Code} {M0 : Mem} {a0 : Nat} {p1 : Int32} {post : Int32 → Mem → Prop}  (C : Cx g p s m args c cX5_placeOf 4 RX5) (hr : meth.sig.returnType = (some .int)) (hlk : meth.locks = false) (hn : meth.name = "placeOf") (h0 : okc (gB g) M0 a0 5)  : ∀ (nf : Nat) (x2 : Int32) (x3 : Int32)  (M : Mem) (H : Heap) (locs : List Loc) (ls : Array Slot), lfp (fun bk z => bd_X5_placeOf_4  g M0 a0 p1 post  bk z.1 z.2.1 z.2.2) nf (x2, x3, M) → Wd g s M0 M H locs → lv_has ls 4 [(0, .ref a0), (1, .int p1), (2, .int x2), (3, .int x3)] → W p l e (rmo 2 0 0) s m args below meth c H locs 0 0 (MQ below (Cq g M0 (pI post)) args s 0 0 (gA g)) (F0 m 4 ls []) := by
  have hx := C.1.1
  have hb := C.1.2.1
  intro nf
  induction nf with
  | zero => intro _ _ _ H locs ls hq; exact hq.elim
  | succ nf hk4 =>
    intro x2 x3 M H locs ls hq hw hl
    replace hq : bd_X5_placeOf_4  g M0 a0 p1 post  (lfp (fun bk z => bd_X5_placeOf_4  g M0 a0 p1 post  bk z.1 z.2.1 z.2.2) nf) x2 x3 M := hq
    unfold bd_X5_placeOf_4 at hq
    refine lv_iload_n hx hb dX5_placeOf_4 rfl (lv_at hl 3 rfl) ?_
    refine lv_bipush (v := 12) hx hb dX5_placeOf_5 (by decide) ?_
    refine lv_icmp_ge (tgt := 33) hx hb dX5_placeOf_7 (by decide) (fun c1 => ?_) (fun c1 => ?_)
    · replace hq := hq.1 c1
      refine lv_iload_n hx hb dX5_placeOf_33 rfl (lv_at hl 2 rfl) ?_
      exact r_iret C hr hlk hw dX5_placeOf_34 (Nat.le_refl _) (Nat.le_refl _) ⟨_, rfl, hq⟩
    · replace hq := hq.2 c1
      refine lv_iload_n hx hb dX5_placeOf_10 rfl (lv_at hl 3 rfl) ?_
      refine lv_iload_n hx hb dX5_placeOf_11 rfl (lv_at hl 1 rfl) ?_
      refine lv_icmp_eq (tgt := 27) hx hb dX5_placeOf_12 (by decide) (fun c2 => ?_) (fun c2 => ?_)
      · replace hq := hq.1 c2
        refine lv_iinc (v := (x3 + 1)) (lv' := [(3, .int (x3 + 1)), (0, .ref a0), (1, .int p1), (2, .int x2)]) hx hb dX5_placeOf_27 hl (k := 3) rfl rfl (by decide) rfl (fun ls hl => ?_)
        refine lv_goto (tgt := 4) hx hb dX5_placeOf_30 (by decide) ?_
        exact hk4 _ _ _ _ _ _ hq hw (lv_sub hl [1, 2, 3, 0] rfl)
      · replace hq := hq.2 c2
        refine lv_aload_n hx hb dX5_placeOf_15 rfl (lv_at hl 0 rfl) ?_
        refine lv_iload_n hx hb dX5_placeOf_16 rfl (lv_at hl 3 rfl) ?_
        refine lv_iload_n hx hb dX5_placeOf_17 rfl (lv_at hl 1 rfl) ?_
        refine r_callV (T := TX5) (N := 5) (ci := 5) (index := 40) (n := 2) (d2 := 1) (mc := 0) (ms := 0) (As := [.int x3, .int p1]) (rest := []) C hw (ct_X5_isAhead hq) kvX5_40 hq.1 (by decide) rfl ⟨by decide, by decide⟩ ⟨by decide, by decide⟩ rfl hl.1 rfl (Nat.le_of_ble_eq_true rfl) dX5_placeOf_18 (fun r M4 H locs hp hle hw => ?_)
        obtain ⟨v3, rfl, hq⟩ := hp
        refine W.eq (g2 := F0 m 21 ls [.int v3]) rfl ?_
        refine lv_if_eq (tgt := 27) hx hb dX5_placeOf_21 (by decide) (fun c5 => ?_) (fun c5 => ?_)
        · replace hq := hq.1 c5
          refine lv_iinc (v := (x3 + 1)) (lv' := [(3, .int (x3 + 1)), (0, .ref a0), (1, .int p1), (2, .int x2)]) hx hb dX5_placeOf_27 hl (k := 3) rfl rfl (by decide) rfl (fun ls hl => ?_)
          refine lv_goto (tgt := 4) hx hb dX5_placeOf_30 (by decide) ?_
          exact hk4 _ _ _ _ _ _ hq hw (lv_sub hl [1, 2, 3, 0] rfl)
        · replace hq := hq.2 c5
          refine lv_iinc (v := (x2 + 1)) (lv' := [(2, .int (x2 + 1)), (0, .ref a0), (1, .int p1), (3, .int x3)]) hx hb dX5_placeOf_24 hl (k := 2) rfl rfl (by decide) rfl (fun ls hl => ?_)
          refine lv_iinc (v := (x3 + 1)) (lv' := [(3, .int (x3 + 1)), (2, .int (x2 + 1)), (0, .ref a0), (1, .int p1)]) hx hb dX5_placeOf_27 hl (k := 3) rfl rfl (by decide) rfl (fun ls hl => ?_)
          refine lv_goto (tgt := 4) hx hb dX5_placeOf_30 (by decide) ?_
          exact hk4 _ _ _ _ _ _ hq hw (lv_sub hl [2, 3, 1, 0] rfl)
set_option maxHeartbeats 4000000 in
set_option maxRecDepth 100000 in
theorem ct_X5_placeOf {l : Launch} {g : Gh} {M0 : Mem} {a0 : Nat} {p1 : Int32} {post : Int32 → Mem → Prop}  (hq : wp_X5_placeOf  g M0 a0 p1 post) : Ct l g yX5_placeOf cX5_placeOf 4 (some .int) 2 0 0 [.ref a0, .int p1] M0 (pI post) := by
  unfold wp_X5_placeOf at hq
  obtain ⟨h0, hq⟩ := hq
  refine Ct.of (by decide) (Nat.le_of_ble_eq_true rfl) ?_
  intro p e s m below meth c ls C hr hlk hn hl hw
  have hx := C.1.1
  have hb := C.1.2.1
  have hl : lv_has ls 4 [(0, .ref a0), (1, .int p1)] := hl
  refine lv_iconst (v := 0) hx hb dX5_placeOf_0 (by decide) ?_
  refine lv_istore_n (lv' := [(2, .int 0), (0, .ref a0), (1, .int p1)]) hx hb dX5_placeOf_1 rfl hl (by decide) rfl (fun ls hl => ?_)
  refine lv_iconst (v := 0) hx hb dX5_placeOf_2 (by decide) ?_
  refine lv_istore_n (lv' := [(3, .int 0), (2, .int 0), (0, .ref a0), (1, .int p1)]) hx hb dX5_placeOf_3 rfl hl (by decide) rfl (fun ls hl => ?_)
  obtain ⟨nf, hq⟩ := hq
  exact lp_X5_placeOf_4  C hr hlk hn h0  nf _ _ _ _ _ _ hq hw (lv_sub hl [2, 3, 1, 0] rfl)

set_option maxRecDepth 100000 in
def bd_X5_teamAt_2  (g : Gh) (M0 : Mem) (a0 : Nat) (p1 : Int32) (post : Int32 → Mem → Prop)  (bk2 : Int32 × Mem → Prop) (x2 : Int32)  (M : Mem) : Prop :=
  ((12 ≤ x2) → post (-1) M) ∧ (¬ (12 ≤ x2) → wp_X5_placeOf g M a0 x2 (fun v2 M3 => ((v2 = p1) → post x2 M3) ∧ (¬ (v2 = p1) → bk2 ((x2 + 1), M3))))
set_option maxRecDepth 100000 in
def wp_X5_teamAt  (g : Gh) (M0 : Mem) (a0 : Nat) (p1 : Int32) (post : Int32 → Mem → Prop) : Prop :=
  okc (gB g) M0 a0 5 ∧ ((∃ n : Nat, lfp (fun bk z => bd_X5_teamAt_2  g M0 a0 p1 post  bk z.1 z.2) n (0, M0)))
set_option maxHeartbeats 4000000 in
set_option maxRecDepth 100000 in
theorem lp_X5_teamAt_2 {l : Launch} {g : Gh} {p : Program} {e : Env} {s : State} {m : MethodId} {args : Array Value} {below : List Frame} {meth : Method} {c : Code} {M0 : Mem} {a0 : Nat} {p1 : Int32} {post : Int32 → Mem → Prop}  (C : Cx g p s m args c cX5_teamAt 3 RX5) (hr : meth.sig.returnType = (some .int)) (hlk : meth.locks = false) (hn : meth.name = "teamAt") (h0 : okc (gB g) M0 a0 5)  : ∀ (nf : Nat) (x2 : Int32)  (M : Mem) (H : Heap) (locs : List Loc) (ls : Array Slot), lfp (fun bk z => bd_X5_teamAt_2  g M0 a0 p1 post  bk z.1 z.2) nf (x2, M) → Wd g s M0 M H locs → lv_has ls 3 [(0, .ref a0), (1, .int p1), (2, .int x2)] → W p l e (rmo 3 0 0) s m args below meth c H locs 0 0 (MQ below (Cq g M0 (pI post)) args s 0 0 (gA g)) (F0 m 2 ls []) := by
  have hx := C.1.1
  have hb := C.1.2.1
  intro nf
  induction nf with
  | zero => intro _ _ H locs ls hq; exact hq.elim
  | succ nf hk2 =>
    intro x2 M H locs ls hq hw hl
    replace hq : bd_X5_teamAt_2  g M0 a0 p1 post  (lfp (fun bk z => bd_X5_teamAt_2  g M0 a0 p1 post  bk z.1 z.2) nf) x2 M := hq
    unfold bd_X5_teamAt_2 at hq
    refine lv_iload_n hx hb dX5_teamAt_2 rfl (lv_at hl 2 rfl) ?_
    refine lv_bipush (v := 12) hx hb dX5_teamAt_3 (by decide) ?_
    refine lv_icmp_ge (tgt := 25) hx hb dX5_teamAt_5 (by decide) (fun c1 => ?_) (fun c1 => ?_)
    · replace hq := hq.1 c1
      refine lv_iconst (v := (-1)) hx hb dX5_teamAt_25 (by decide) ?_
      exact r_iret C hr hlk hw dX5_teamAt_26 (Nat.le_refl _) (Nat.le_refl _) ⟨_, rfl, hq⟩
    · replace hq := hq.2 c1
      refine lv_aload_n hx hb dX5_teamAt_8 rfl (lv_at hl 0 rfl) ?_
      refine lv_iload_n hx hb dX5_teamAt_9 rfl (lv_at hl 2 rfl) ?_
      refine r_callV (T := TX5) (N := 5) (ci := 5) (index := 32) (n := 1) (d2 := 2) (mc := 0) (ms := 0) (As := [.int x2]) (rest := []) C hw (ct_X5_placeOf hq) kvX5_32 hq.1 (by decide) rfl ⟨by decide, by decide⟩ ⟨by decide, by decide⟩ rfl hl.1 rfl (Nat.le_of_ble_eq_true rfl) dX5_teamAt_10 (fun r M3 H locs hp hle hw => ?_)
      obtain ⟨v2, rfl, hq⟩ := hp
      refine W.eq (g2 := F0 m 13 ls [.int v2]) rfl ?_
      refine lv_iload_n hx hb dX5_teamAt_13 rfl (lv_at hl 1 rfl) ?_
      refine lv_icmp_ne (tgt := 19) hx hb dX5_teamAt_14 (by decide) (fun c4 => ?_) (fun c4 => ?_)
      · replace hq := hq.2 c4
        refine lv_iinc (v := (x2 + 1)) (lv' := [(2, .int (x2 + 1)), (0, .ref a0), (1, .int p1)]) hx hb dX5_teamAt_19 hl (k := 2) rfl rfl (by decide) rfl (fun ls hl => ?_)
        refine lv_goto (tgt := 2) hx hb dX5_teamAt_22 (by decide) ?_
        exact hk2 _ _ _ _ _ hq hw (lv_sub hl [1, 2, 0] rfl)
      · replace hq := hq.1 c4
        refine lv_iload_n hx hb dX5_teamAt_17 rfl (lv_at hl 2 rfl) ?_
        exact r_iret C hr hlk hw dX5_teamAt_18 (Nat.le_refl _) (Nat.le_refl _) ⟨_, rfl, hq⟩
set_option maxHeartbeats 4000000 in
set_option maxRecDepth 100000 in
theorem ct_X5_teamAt {l : Launch} {g : Gh} {M0 : Mem} {a0 : Nat} {p1 : Int32} {post : Int32 → Mem → Prop}  (hq : wp_X5_teamAt  g M0 a0 p1 post) : Ct l g yX5_teamAt cX5_teamAt 3 (some .int) 3 0 0 [.ref a0, .int p1] M0 (pI post) := by
  unfold wp_X5_teamAt at hq
  obtain ⟨h0, hq⟩ := hq
  refine Ct.of (by decide) (Nat.le_of_ble_eq_true rfl) ?_
  intro p e s m below meth c ls C hr hlk hn hl hw
  have hx := C.1.1
  have hb := C.1.2.1
  have hl : lv_has ls 3 [(0, .ref a0), (1, .int p1)] := hl
  refine lv_iconst (v := 0) hx hb dX5_teamAt_0 (by decide) ?_
  refine lv_istore_n (lv' := [(2, .int 0), (0, .ref a0), (1, .int p1)]) hx hb dX5_teamAt_1 rfl hl (by decide) rfl (fun ls hl => ?_)
  obtain ⟨nf, hq⟩ := hq
  exact lp_X5_teamAt_2  C hr hlk hn h0  nf _ _ _ _ _ hq hw (lv_sub hl [1, 2, 0] rfl)

set_option maxRecDepth 100000 in
def wp_X5_tell  (g : Gh) (M0 : Mem) (a0 : Nat) (p1 : Int32) (p2 : Int32) (post : Int32 → Mem → Prop) : Prop :=
  okc (gB g) M0 a0 5 ∧ (wp_X11_isTeam g M0 p1 (fun v1 M2 => ((v1 = 0) → post (-1) M2) ∧ (¬ (v1 = 0) → ((p2 = 0) → post p1 M2) ∧ ((p2 = 1) → ∃ q5, mR M2 a0 0 = some q5 ∧ (okc (gB g) M0 q5 14 ∧ (vp_in p1 (mN M0 q5) ∧ (post (mI M2 q5 (Int32.toNatClampNeg p1)) M2)))) ∧ ((p2 = 2) → ∃ q9, mR M2 a0 1 = some q9 ∧ (okc (gB g) M0 q9 14 ∧ (vp_in p1 (mN M0 q9) ∧ (post (mI M2 q9 (Int32.toNatClampNeg p1)) M2)))) ∧ ((p2 = 3) → ∃ q13, mR M2 a0 2 = some q13 ∧ (okc (gB g) M0 q13 14 ∧ (vp_in p1 (mN M0 q13) ∧ (post (mI M2 q13 (Int32.toNatClampNeg p1)) M2)))) ∧ ((p2 = 4) → ∃ q17, mR M2 a0 3 = some q17 ∧ (okc (gB g) M0 q17 14 ∧ (vp_in p1 (mN M0 q17) ∧ (post (mI M2 q17 (Int32.toNatClampNeg p1)) M2)))) ∧ ((¬ (p2 = 0) ∧ ¬ (p2 = 1) ∧ ¬ (p2 = 2) ∧ ¬ (p2 = 3) ∧ ¬ (p2 = 4)) → post (-1) M2))))
set_option maxHeartbeats 4000000 in
set_option maxRecDepth 100000 in
theorem ct_X5_tell {l : Launch} {g : Gh} {M0 : Mem} {a0 : Nat} {p1 : Int32} {p2 : Int32} {post : Int32 → Mem → Prop}  (hq : wp_X5_tell  g M0 a0 p1 p2 post) : Ct l g yX5_tell cX5_tell 3 (some .int) 1 0 0 [.ref a0, .int p1, .int p2] M0 (pI post) := by
  unfold wp_X5_tell at hq
  obtain ⟨h0, hq⟩ := hq
  refine Ct.of (by decide) (Nat.le_of_ble_eq_true rfl) ?_
  intro p e s m below meth c ls C hr hlk hn hl hw
  have hx := C.1.1
  have hb := C.1.2.1
  have hl : lv_has ls 3 [(0, .ref a0), (1, .int p1), (2, .int p2)] := hl
  refine lv_iload_n hx hb dX5_tell_0 rfl (lv_at hl 1 rfl) ?_
  refine r_callSN (index := 36) (n := 1) (d2 := 0) (mc := 0) (ms := 0) (As := [.int p1]) (rest := []) C hw (ct_X11_isTeam hq) ksX5_36 ⟨by decide, by decide⟩ ⟨by decide, by decide⟩ rfl hl.1 rfl (Nat.le_of_ble_eq_true rfl) dX5_tell_1 (fun r M2 H locs hp hle hw => ?_)
  obtain ⟨v1, rfl, hq⟩ := hp
  refine W.eq (g2 := F0 m 4 ls [.int v1]) rfl ?_
  refine lv_if_ne (tgt := 9) hx hb dX5_tell_4 (by decide) (fun c3 => ?_) (fun c3 => ?_)
  · replace hq := hq.2 c3
    refine lv_iload_n hx hb dX5_tell_9 rfl (lv_at hl 2 rfl) ?_
    by_cases c21 : p2 = 0
    · refine r_table (v := 0) (off := 34) (tgt := 44) hx hb dX5_tell_10 c21 (by decide) (by decide) rfl (by decide) ?_
      replace hq := hq.1 c21
      refine lv_iload_n hx hb dX5_tell_44 rfl (lv_at hl 1 rfl) ?_
      exact r_iret C hr hlk hw dX5_tell_45 (Nat.le_refl _) (Nat.le_refl _) ⟨_, rfl, hq⟩
    by_cases c22 : p2 = 1
    · refine r_table (v := 1) (off := 36) (tgt := 46) hx hb dX5_tell_10 c22 (by decide) (by decide) rfl (by decide) ?_
      replace hq := hq.2.1 c22
      refine lv_aload_n hx hb dX5_tell_46 rfl (lv_at hl 0 rfl) ?_
      obtain ⟨q5, e6, hq⟩ := hq
      refine gfX5_9 C hw hw.2.2.1 h0 e6 dX5_tell_47 ?_
      refine lv_iload_n hx hb dX5_tell_50 rfl (lv_at hl 1 rfl) ?_
      obtain ⟨h7, hq⟩ := hq
      obtain ⟨h8, hq⟩ := hq
      refine q_iald C hw hw.2.2.1 h7 h8 dX5_tell_51 ?_
      exact r_iret C hr hlk hw dX5_tell_52 (Nat.le_refl _) (Nat.le_refl _) ⟨_, rfl, hq⟩
    by_cases c23 : p2 = 2
    · refine r_table (v := 2) (off := 43) (tgt := 53) hx hb dX5_tell_10 c23 (by decide) (by decide) rfl (by decide) ?_
      replace hq := hq.2.2.1 c23
      refine lv_aload_n hx hb dX5_tell_53 rfl (lv_at hl 0 rfl) ?_
      obtain ⟨q9, e10, hq⟩ := hq
      refine gfX5_15 C hw hw.2.2.1 h0 e10 dX5_tell_54 ?_
      refine lv_iload_n hx hb dX5_tell_57 rfl (lv_at hl 1 rfl) ?_
      obtain ⟨h11, hq⟩ := hq
      obtain ⟨h12, hq⟩ := hq
      refine q_iald C hw hw.2.2.1 h11 h12 dX5_tell_58 ?_
      exact r_iret C hr hlk hw dX5_tell_59 (Nat.le_refl _) (Nat.le_refl _) ⟨_, rfl, hq⟩
    by_cases c24 : p2 = 3
    · refine r_table (v := 3) (off := 50) (tgt := 60) hx hb dX5_tell_10 c24 (by decide) (by decide) rfl (by decide) ?_
      replace hq := hq.2.2.2.1 c24
      refine lv_aload_n hx hb dX5_tell_60 rfl (lv_at hl 0 rfl) ?_
      obtain ⟨q13, e14, hq⟩ := hq
      refine gfX5_18 C hw hw.2.2.1 h0 e14 dX5_tell_61 ?_
      refine lv_iload_n hx hb dX5_tell_64 rfl (lv_at hl 1 rfl) ?_
      obtain ⟨h15, hq⟩ := hq
      obtain ⟨h16, hq⟩ := hq
      refine q_iald C hw hw.2.2.1 h15 h16 dX5_tell_65 ?_
      exact r_iret C hr hlk hw dX5_tell_66 (Nat.le_refl _) (Nat.le_refl _) ⟨_, rfl, hq⟩
    by_cases c25 : p2 = 4
    · refine r_table (v := 4) (off := 57) (tgt := 67) hx hb dX5_tell_10 c25 (by decide) (by decide) rfl (by decide) ?_
      replace hq := hq.2.2.2.2.1 c25
      refine lv_aload_n hx hb dX5_tell_67 rfl (lv_at hl 0 rfl) ?_
      obtain ⟨q17, e18, hq⟩ := hq
      refine gfX5_21 C hw hw.2.2.1 h0 e18 dX5_tell_68 ?_
      refine lv_iload_n hx hb dX5_tell_71 rfl (lv_at hl 1 rfl) ?_
      obtain ⟨h19, hq⟩ := hq
      obtain ⟨h20, hq⟩ := hq
      refine q_iald C hw hw.2.2.1 h19 h20 dX5_tell_72 ?_
      exact r_iret C hr hlk hw dX5_tell_73 (Nat.le_refl _) (Nat.le_refl _) ⟨_, rfl, hq⟩
    refine r_tableOut (tgt := 74) (k := 4) hx hb dX5_tell_10 (by decide) (fun j hj => by rcases (show j = 0 ∨ j = 1 ∨ j = 2 ∨ j = 3 ∨ j = 4 by omega) with rfl | rfl | rfl | rfl | rfl <;> assumption) (by decide) ?_
    replace hq := hq.2.2.2.2.2 ⟨c21, c22, c23, c24, c25⟩
    refine lv_iconst (v := (-1)) hx hb dX5_tell_74 (by decide) ?_
    exact r_iret C hr hlk hw dX5_tell_75 (Nat.le_refl _) (Nat.le_refl _) ⟨_, rfl, hq⟩
  · replace hq := hq.1 c3
    refine lv_iconst (v := (-1)) hx hb dX5_tell_7 (by decide) ?_
    exact r_iret C hr hlk hw dX5_tell_8 (Nat.le_refl _) (Nat.le_refl _) ⟨_, rfl, hq⟩

set_option maxRecDepth 100000 in
def lb_X6_init_50  (g : Gh) (M0 : Mem) (a0 : Nat) (a1 : Nat) (post : Mem → Prop)    (M : Mem) (ck sk : Nat) : Prop :=
  (ck + 1 ≤ 122 ∧ sk + 2 ≤ 842) ∧ (∀ q2 M3, q2 = mT M → M3 = nw M 14 2 → (∀ M7, M7 = uR M3 a0 8 (some q2) → (((ck + 1) ≤ 122 ∧ (sk + 2) ≤ 842) ∧ (post M7))))
set_option maxRecDepth 100000 in
def bd_X6_init_25  (g : Gh) (M0 : Mem) (a0 : Nat) (a1 : Nat) (post : Mem → Prop)  (bk25 : Int32 × Mem × Nat × Nat → Prop) (x2 : Int32)  (M : Mem) (ck sk : Nat) : Prop :=
  ((120 ≤ x2) → lb_X6_init_50  g M0 a0 a1 post   M ck sk) ∧ (¬ (120 ≤ x2) → ∃ q11, mR M a0 2 = some q11 ∧ ((ck + 1 ≤ 122 ∧ sk + 6 ≤ 842) ∧ (∀ q14 M15, q14 = mT M → M15 = nw M 0 0 → (((ck + 1) ≤ 122 ∧ (sk + 6) ≤ 842) ∧ (wp_X0_init g M15 q14 (fun M20 => okc (gB g) M20 q11 18 ∧ (vp_in x2 (mN M20 q11) ∧ (∀ M24, M24 = uR M20 q11 (Int32.toNatClampNeg x2) (some q14) → (bk25 ((x2 + 1), M24, (ck + 1), (sk + 6)))))))))))
set_option maxRecDepth 100000 in
def wp_X6_init  (g : Gh) (M0 : Mem) (a0 : Nat) (a1 : Nat) (post : Mem → Prop) : Prop :=
  okc (gB g) M0 a0 6 ∧ (∀ M26, M26 = uI M0 a0 0 0 → (∀ M28, M28 = uR M26 a0 1 (some a1) → ((0 + 1 ≤ 122 ∧ 0 + 120 ≤ 842) ∧ (∀ q31 M32, q31 = mT M28 → M32 = nw M28 18 120 → (∀ M36, M36 = uR M32 a0 2 (some q31) → ((∃ n : Nat, lfp (fun bk z => bd_X6_init_25  g M0 a0 a1 post  bk z.1 z.2.1 z.2.2.1 z.2.2.2) n (0, M36, (0 + 1), (0 + 120)))))))))
set_option maxHeartbeats 4000000 in
set_option maxRecDepth 100000 in
theorem lt_X6_init_50 {l : Launch} {g : Gh} {p : Program} {e : Env} {s : State} {m : MethodId} {args : Array Value} {below : List Frame} {meth : Method} {c : Code} {H : Heap} {locs : List Loc} {ls : Array Slot} {M0 M : Mem} {a0 : Nat} {a1 : Nat} {post : Mem → Prop}   {ck sk : Nat}  (C : Cx g p s m args c cX6_init 3 RX6) (hr : meth.sig.returnType = none) (hlk : meth.locks = false) (hn : meth.name = "<init>") (h0 : okc (gB g) M0 a0 6)  (hq : lb_X6_init_50  g M0 a0 a1 post   M ck sk) (hw : Wd g s M0 M H locs) (hl : lv_has ls 3 [(0, .ref a0), (1, .ref a1)]) : W p l e (rmo 2 122 842) s m args below meth c H locs ck sk (MQ below (Cq g M0 (pV post)) args s 122 842 (gA g)) (F0 m 50 ls []) := by
  have hx := C.1.1
  have hb := C.1.2.1
  unfold lb_X6_init_50 at hq
  have h00 := h0
  replace h0 := h0.up hw.2.2.1
  refine lv_aload_n hx hb dX6_init_50 rfl (lv_at hl 0 rfl) ?_
  refine lv_iconst (v := 2) hx hb dX6_init_51 (by decide) ?_
  have hB := hw.B C.2.2.2.2.2
  obtain ⟨h1, hq⟩ := hq
  refine q_newa_14 (N' := 2) C hw (by decide) (by decide) (by decide) h1.1 h1.2 dX6_init_52 (fun H hw => ?_)
  have h6 := okc_nw (gB g) M 14 2 hB
  have h0 := h0.up (mle_nw M 14 2)
  generalize e4 : nw M 14 2 = M3 at hw h6 h0
  generalize e5 : mT M = q2 at h6 ⊢
  replace hq := hq q2 M3 e5.symm e4.symm
  refine pfX6_26 (v := (some q2)) C hw (mle_rf _) h0 hn dX6_init_54 (fun H locs hw => ?_)
  generalize e8 : uR M3 a0 8 (some q2) = M7 at hw
  replace hq := hq M7 e8.symm
  have h0 : okc (gB g) M7 a0 6 := by rw [← e8]; exact okc_uR h0
  obtain ⟨h9, hq⟩ := hq
  exact r_vret C hr hlk hw dX6_init_57 h9.1 h9.2 ⟨rfl, hq⟩
set_option maxHeartbeats 4000000 in
set_option maxRecDepth 100000 in
theorem lp_X6_init_25 {l : Launch} {g : Gh} {p : Program} {e : Env} {s : State} {m : MethodId} {args : Array Value} {below : List Frame} {meth : Method} {c : Code} {M0 : Mem} {a0 : Nat} {a1 : Nat} {post : Mem → Prop}  (C : Cx g p s m args c cX6_init 3 RX6) (hr : meth.sig.returnType = none) (hlk : meth.locks = false) (hn : meth.name = "<init>") (h0 : okc (gB g) M0 a0 6)  : ∀ (nf : Nat) (x2 : Int32)  (M : Mem) (ck sk : Nat) (H : Heap) (locs : List Loc) (ls : Array Slot), lfp (fun bk z => bd_X6_init_25  g M0 a0 a1 post  bk z.1 z.2.1 z.2.2.1 z.2.2.2) nf (x2, M, ck, sk) → Wd g s M0 M H locs → lv_has ls 3 [(0, .ref a0), (1, .ref a1), (2, .int x2)] → W p l e (rmo 2 122 842) s m args below meth c H locs ck sk (MQ below (Cq g M0 (pV post)) args s 122 842 (gA g)) (F0 m 25 ls []) := by
  have hx := C.1.1
  have hb := C.1.2.1
  intro nf
  induction nf with
  | zero => intro _ _ _ _ H locs ls hq; exact hq.elim
  | succ nf hk25 =>
    intro x2 M ck sk H locs ls hq hw hl
    replace hq : bd_X6_init_25  g M0 a0 a1 post  (lfp (fun bk z => bd_X6_init_25  g M0 a0 a1 post  bk z.1 z.2.1 z.2.2.1 z.2.2.2) nf) x2 M ck sk := hq
    unfold bd_X6_init_25 at hq
    have h00 := h0
    replace h0 := h0.up hw.2.2.1
    refine lv_iload_n hx hb dX6_init_25 rfl (lv_at hl 2 rfl) ?_
    refine lv_bipush (v := 120) hx hb dX6_init_26 (by decide) ?_
    refine lv_icmp_ge (tgt := 50) hx hb dX6_init_28 (by decide) (fun c10 => ?_) (fun c10 => ?_)
    · replace hq := hq.1 c10
      exact lt_X6_init_50  C hr hlk hn h00  hq hw (lv_sub hl [0, 1] rfl)
    · replace hq := hq.2 c10
      refine lv_aload_n hx hb dX6_init_31 rfl (lv_at hl 0 rfl) ?_
      obtain ⟨q11, e12, hq⟩ := hq
      refine gfX6_21 C hw (mle_rf _) h0 e12 dX6_init_32 ?_
      refine lv_iload_n hx hb dX6_init_35 rfl (lv_at hl 2 rfl) ?_
      have hB := hw.B C.2.2.2.2.2
      obtain ⟨h13, hq⟩ := hq
      refine r_new tyX0 (T := TX0) (N := 6) (ci := 0) C hw rfl (by decide) inX0 tyX0_ok w_268 w_270 w_9 df_0 h13.1 h13.2 dX6_init_36 (fun H hw => ?_)
      have h18 := okc_nw (gB g) M 0 0 hB
      have h0 := h0.up (mle_nw M 0 0)
      generalize e16 : nw M 0 0 = M15 at hw h18 h0
      generalize e17 : mT M = q14 at h18 ⊢
      replace hq := hq q14 M15 e17.symm e16.symm
      refine lv_dup hx hb dX6_init_39 rfl ?_
      obtain ⟨h21, hq⟩ := hq
      refine r_callIN (index := 25) (n := 0) (d2 := 1) (mc := 0) (ms := 0) (As := []) (rest := [.ref q14, .int x2, .ref q11]) C hw (ct_X0_init hq) kiX6_25 ⟨by decide, by decide⟩ ⟨h21.1, h21.2⟩ rfl hl.1 rfl (Nat.le_of_ble_eq_true rfl) dX6_init_40 (fun r M20 H locs hp hle hw => ?_)
      obtain ⟨rfl, hq⟩ := hp
      have h0 := h0.up hle
      have h18 := h18.up hle
      refine W.eq (g2 := F0 m 43 ls [.ref q14, .int x2, .ref q11]) rfl ?_
      obtain ⟨h22, hq⟩ := hq
      obtain ⟨h23, hq⟩ := hq
      refine q_aast (ci := 0) C hw (mle_rf _) h22 (by decide) (by decide) rfl h18 (by decide) rfl h23 dX6_init_43 (fun H locs hw => ?_)
      generalize e25 : uR M20 q11 (Int32.toNatClampNeg x2) (some q14) = M24 at hw
      replace hq := hq M24 e25.symm
      have h0 : okc (gB g) M24 a0 6 := by rw [← e25]; exact okc_uR h0
      refine lv_iinc (v := (x2 + 1)) (lv' := [(2, .int (x2 + 1)), (0, .ref a0), (1, .ref a1)]) hx hb dX6_init_44 hl (k := 2) rfl rfl (by decide) rfl (fun ls hl => ?_)
      refine lv_goto (tgt := 25) hx hb dX6_init_47 (by decide) ?_
      exact hk25 _ _ _ _ _ _ _ hq hw (lv_sub hl [1, 2, 0] rfl)
set_option maxHeartbeats 4000000 in
set_option maxRecDepth 100000 in
theorem ct_X6_init {l : Launch} {g : Gh} {M0 : Mem} {a0 : Nat} {a1 : Nat} {post : Mem → Prop}  (hq : wp_X6_init  g M0 a0 a1 post) : Ct l g yX6_init cX6_init 3 none 2 122 842 [.ref a0, .ref a1] M0 (pV post) := by
  unfold wp_X6_init at hq
  obtain ⟨h0, hq⟩ := hq
  have h00 := h0
  refine Ct.of (by decide) (Nat.le_of_ble_eq_true rfl) ?_
  intro p e s m below meth c ls C hr hlk hn hl hw
  have hx := C.1.1
  have hb := C.1.2.1
  have hl : lv_has ls 3 [(0, .ref a0), (1, .ref a1)] := hl
  refine lv_aload_n hx hb dX6_init_0 rfl (lv_at hl 0 rfl) ?_
  refine W.objInit hx hb C.1.2.2.2.1 (C.1.2.2.2.2 _ w_267) (C.1.2.2.2.2 _ w_35) (C.1.2.2.2.2 _ w_objInit) rfl (by rw [C.1.2.2.1]; exact hl.1) rfl dX6_init_1 (Nat.le_of_ble_eq_true rfl) (Nat.le_of_ble_eq_true rfl) ?_
  refine W.eq (g2 := F0 m 4 ls []) rfl ?_
  refine lv_aload_n hx hb dX6_init_4 rfl (lv_at hl 0 rfl) ?_
  refine lv_iconst (v := 0) hx hb dX6_init_5 (by decide) ?_
  refine pfX6_9 C hw (mle_rf _) h0 (by decide) dX6_init_6 (fun H locs hw => ?_)
  generalize e27 : uI M0 a0 0 0 = M26 at hw
  replace hq := hq M26 e27.symm
  have h0 : okc (gB g) M26 a0 6 := by rw [← e27]; exact okc_uI h0
  refine lv_aload_n hx hb dX6_init_9 rfl (lv_at hl 0 rfl) ?_
  refine lv_aload_n hx hb dX6_init_10 rfl (lv_at hl 1 rfl) ?_
  refine pfX6_15 (v := (some a1)) C hw (mle_rf _) h0 dX6_init_11 (fun H locs hw => ?_)
  generalize e29 : uR M26 a0 1 (some a1) = M28 at hw
  replace hq := hq M28 e29.symm
  have h0 : okc (gB g) M28 a0 6 := by rw [← e29]; exact okc_uR h0
  refine lv_aload_n hx hb dX6_init_14 rfl (lv_at hl 0 rfl) ?_
  refine lv_bipush (v := 120) hx hb dX6_init_15 (by decide) ?_
  have hB := hw.B C.2.2.2.2.2
  obtain ⟨h30, hq⟩ := hq
  refine r_newq (kd := 18) (N' := 120) C hw w_268 C.2.2.2.1.1 rfl (by decide) (by decide) (by decide) (by decide) (by decide) h30.1 h30.2 dX6_init_17 (fun H hw => ?_)
  have h35 := okc_nw (gB g) M28 18 120 hB
  have h0 := h0.up (mle_nw M28 18 120)
  generalize e33 : nw M28 18 120 = M32 at hw h35 h0
  generalize e34 : mT M28 = q31 at h35 ⊢
  replace hq := hq q31 M32 e34.symm e33.symm
  refine pfX6_21 (v := (some q31)) C hw (mle_rf _) h0 hn dX6_init_20 (fun H locs hw => ?_)
  generalize e37 : uR M32 a0 2 (some q31) = M36 at hw
  replace hq := hq M36 e37.symm
  have h0 : okc (gB g) M36 a0 6 := by rw [← e37]; exact okc_uR h0
  refine lv_iconst (v := 0) hx hb dX6_init_23 (by decide) ?_
  refine lv_istore_n (lv' := [(2, .int 0), (0, .ref a0), (1, .ref a1)]) hx hb dX6_init_24 rfl hl (by decide) rfl (fun ls hl => ?_)
  obtain ⟨nf, hq⟩ := hq
  exact lp_X6_init_25  C hr hlk hn h00  nf _ _ _ _ _ _ _ hq hw (lv_sub hl [1, 2, 0] rfl)

set_option maxRecDepth 100000 in
def wp_X6_isOver  (g : Gh) (M0 : Mem) (a0 : Nat) (post : Int32 → Mem → Prop) : Prop :=
  okc (gB g) M0 a0 6 ∧ (∃ q1, mR M0 a0 1 = some q1 ∧ (okc (gB g) M0 q1 4 ∧ ((((mI M0 a0 5) < (mI M0 q1 1)) → post 0 M0) ∧ (¬ ((mI M0 a0 5) < (mI M0 q1 1)) → post 1 M0))))
set_option maxHeartbeats 4000000 in
set_option maxRecDepth 100000 in
theorem ct_X6_isOver {l : Launch} {g : Gh} {M0 : Mem} {a0 : Nat} {post : Int32 → Mem → Prop}  (hq : wp_X6_isOver  g M0 a0 post) : Ct l g yX6_isOver cX6_isOver 1 (some .boolean) 0 0 0 [.ref a0] M0 (pI post) := by
  unfold wp_X6_isOver at hq
  obtain ⟨h0, hq⟩ := hq
  refine Ct.of (by decide) (Nat.le_of_ble_eq_true rfl) ?_
  intro p e s m below meth c ls C hr hlk hn hl hw
  have hx := C.1.1
  have hb := C.1.2.1
  have hl : lv_has ls 1 [(0, .ref a0)] := hl
  refine lv_aload_n hx hb dX6_isOver_0 rfl (lv_at hl 0 rfl) ?_
  refine gfX6_37 C hw hw.2.2.1 h0 dX6_isOver_1 ?_
  refine lv_aload_n hx hb dX6_isOver_4 rfl (lv_at hl 0 rfl) ?_
  obtain ⟨q1, e2, hq⟩ := hq
  refine gfX6_15 C hw hw.2.2.1 h0 e2 dX6_isOver_5 ?_
  obtain ⟨h3, hq⟩ := hq
  refine gfX6_40 C hw hw.2.2.1 h3 dX6_isOver_8 ?_
  refine lv_icmp_lt (tgt := 18) hx hb dX6_isOver_11 (by decide) (fun c4 => ?_) (fun c4 => ?_)
  · replace hq := hq.1 c4
    refine lv_iconst (v := 0) hx hb dX6_isOver_18 (by decide) ?_
    exact r_zret C hr hlk hw dX6_isOver_19 (Nat.le_refl _) (Nat.le_refl _) (by decide) ⟨_, rfl, hq⟩
  · replace hq := hq.2 c4
    refine lv_iconst (v := 1) hx hb dX6_isOver_14 (by decide) ?_
    refine lv_goto (tgt := 19) hx hb dX6_isOver_15 (by decide) ?_
    exact r_zret C hr hlk hw dX6_isOver_19 (Nat.le_refl _) (Nat.le_refl _) (by decide) ⟨_, rfl, hq⟩

set_option maxRecDepth 100000 in
def wp_X6_isBuzz  (g : Gh) (M0 : Mem) (a0 : Nat) (post : Int32 → Mem → Prop) : Prop :=
  okc (gB g) M0 a0 6 ∧ (∃ q1, mR M0 a0 1 = some q1 ∧ (wp_X4_roundOf g M0 q1 (mI M0 a0 5) (fun v3 M4 => ((v3 < 0) → post 0 M4) ∧ (¬ (v3 < 0) → ((6 ≤ v3) → post 0 M4) ∧ (¬ (6 ≤ v3) → ∃ q7, mR M4 a0 1 = some q7 ∧ (okc (gB g) M0 q7 4 ∧ (∃ q10, mR M4 q7 3 = some q10 ∧ (okc (gB g) M0 q10 17 ∧ (vp_in v3 (mN M0 q10) ∧ ((((mI M4 q10 (Int32.toNatClampNeg v3)) = 0) → post 0 M4) ∧ (¬ ((mI M4 q10 (Int32.toNatClampNeg v3)) = 0) → post 1 M4)))))))))))
set_option maxHeartbeats 4000000 in
set_option maxRecDepth 100000 in
theorem ct_X6_isBuzz {l : Launch} {g : Gh} {M0 : Mem} {a0 : Nat} {post : Int32 → Mem → Prop}  (hq : wp_X6_isBuzz  g M0 a0 post) : Ct l g yX6_isBuzz cX6_isBuzz 2 (some .boolean) 1 0 0 [.ref a0] M0 (pI post) := by
  unfold wp_X6_isBuzz at hq
  obtain ⟨h0, hq⟩ := hq
  refine Ct.of (by decide) (Nat.le_of_ble_eq_true rfl) ?_
  intro p e s m below meth c ls C hr hlk hn hl hw
  have hx := C.1.1
  have hb := C.1.2.1
  have hl : lv_has ls 2 [(0, .ref a0)] := hl
  refine lv_aload_n hx hb dX6_isBuzz_0 rfl (lv_at hl 0 rfl) ?_
  obtain ⟨q1, e2, hq⟩ := hq
  refine gfX6_15 C hw hw.2.2.1 h0 e2 dX6_isBuzz_1 ?_
  refine lv_aload_n hx hb dX6_isBuzz_4 rfl (lv_at hl 0 rfl) ?_
  refine gfX6_37 C hw hw.2.2.1 h0 dX6_isBuzz_5 ?_
  refine r_callV (T := TX4) (N := 9) (ci := 4) (index := 106) (n := 1) (d2 := 0) (mc := 0) (ms := 0) (As := [.int (mI M0 a0 5)]) (rest := []) C hw (ct_X4_roundOf hq) kvX6_106 hq.1 (by decide) rfl ⟨by decide, by decide⟩ ⟨by decide, by decide⟩ rfl hl.1 rfl (Nat.le_of_ble_eq_true rfl) dX6_isBuzz_8 (fun r M4 H locs hp hle hw => ?_)
  obtain ⟨v3, rfl, hq⟩ := hp
  refine W.eq (g2 := F0 m 11 ls [.int v3]) rfl ?_
  refine lv_istore_n (lv' := [(1, .int v3), (0, .ref a0)]) hx hb dX6_isBuzz_11 rfl hl (by decide) rfl (fun ls hl => ?_)
  refine lv_iload_n hx hb dX6_isBuzz_12 rfl (lv_at hl 0 rfl) ?_
  refine lv_if_lt (tgt := 38) hx hb dX6_isBuzz_13 (by decide) (fun c5 => ?_) (fun c5 => ?_)
  · replace hq := hq.1 c5
    refine lv_iconst (v := 0) hx hb dX6_isBuzz_38 (by decide) ?_
    exact r_zret C hr hlk hw dX6_isBuzz_39 (Nat.le_refl _) (Nat.le_refl _) (by decide) ⟨_, rfl, hq⟩
  · replace hq := hq.2 c5
    refine lv_iload_n hx hb dX6_isBuzz_16 rfl (lv_at hl 0 rfl) ?_
    refine lv_bipush (v := 6) hx hb dX6_isBuzz_17 (by decide) ?_
    refine lv_icmp_ge (tgt := 38) hx hb dX6_isBuzz_19 (by decide) (fun c6 => ?_) (fun c6 => ?_)
    · replace hq := hq.1 c6
      refine lv_iconst (v := 0) hx hb dX6_isBuzz_38 (by decide) ?_
      exact r_zret C hr hlk hw dX6_isBuzz_39 (Nat.le_refl _) (Nat.le_refl _) (by decide) ⟨_, rfl, hq⟩
    · replace hq := hq.2 c6
      refine lv_aload_n hx hb dX6_isBuzz_22 rfl (lv_at hl 1 rfl) ?_
      obtain ⟨q7, e8, hq⟩ := hq
      refine gfX6_15 C hw hw.2.2.1 h0 e8 dX6_isBuzz_23 ?_
      obtain ⟨h9, hq⟩ := hq
      obtain ⟨q10, e11, hq⟩ := hq
      refine gfX6_121 C hw hw.2.2.1 h9 e11 dX6_isBuzz_26 ?_
      refine lv_iload_n hx hb dX6_isBuzz_29 rfl (lv_at hl 0 rfl) ?_
      obtain ⟨h12, hq⟩ := hq
      obtain ⟨h13, hq⟩ := hq
      refine q_zald C hw hw.2.2.1 h12 h13 dX6_isBuzz_30 ?_
      refine lv_if_eq (tgt := 38) hx hb dX6_isBuzz_31 (by decide) (fun c14 => ?_) (fun c14 => ?_)
      · replace hq := hq.1 c14
        refine lv_iconst (v := 0) hx hb dX6_isBuzz_38 (by decide) ?_
        exact r_zret C hr hlk hw dX6_isBuzz_39 (Nat.le_refl _) (Nat.le_refl _) (by decide) ⟨_, rfl, hq⟩
      · replace hq := hq.2 c14
        refine lv_iconst (v := 1) hx hb dX6_isBuzz_34 (by decide) ?_
        refine lv_goto (tgt := 39) hx hb dX6_isBuzz_35 (by decide) ?_
        exact r_zret C hr hlk hw dX6_isBuzz_39 (Nat.le_refl _) (Nat.le_refl _) (by decide) ⟨_, rfl, hq⟩

set_option maxRecDepth 100000 in
def wp_X6_goTo  (g : Gh) (M0 : Mem) (a0 : Nat) (p1 : Int32) (post : Mem → Prop) : Prop :=
  okc (gB g) M0 a0 6 ∧ (∀ M1, M1 = uI M0 a0 5 p1 → (∀ M3, M3 = uI M1 a0 7 0 → (wp_X6_isOver g M3 a0 (fun v5 M6 => ((v5 = 0) → wp_X6_isBuzz g M6 a0 (fun v8 M9 => ((v8 = 0) → ∀ M11, M11 = uI M9 a0 6 (p1 - p1 / 2 * 2) → (post M11)) ∧ (¬ (v8 = 0) → ∀ M13, M13 = uI M9 a0 6 2 → (post M13)))) ∧ (¬ (v5 = 0) → ∀ M15, M15 = uI M6 a0 6 3 → (post M15))))))
set_option maxHeartbeats 4000000 in
set_option maxRecDepth 100000 in
theorem ct_X6_goTo {l : Launch} {g : Gh} {M0 : Mem} {a0 : Nat} {p1 : Int32} {post : Mem → Prop}  (hq : wp_X6_goTo  g M0 a0 p1 post) : Ct l g yX6_goTo cX6_goTo 2 none 2 0 0 [.ref a0, .int p1] M0 (pV post) := by
  unfold wp_X6_goTo at hq
  obtain ⟨h0, hq⟩ := hq
  refine Ct.of (by decide) (Nat.le_of_ble_eq_true rfl) ?_
  intro p e s m below meth c ls C hr hlk hn hl hw
  have hx := C.1.1
  have hb := C.1.2.1
  have hl : lv_has ls 2 [(0, .ref a0), (1, .int p1)] := hl
  refine lv_aload_n hx hb dX6_goTo_0 rfl (lv_at hl 0 rfl) ?_
  refine lv_iload_n hx hb dX6_goTo_1 rfl (lv_at hl 1 rfl) ?_
  refine pfX6_37 C hw hw.2.2.1 h0 dX6_goTo_2 (fun H locs hw => ?_)
  generalize e2 : uI M0 a0 5 p1 = M1 at hw
  replace hq := hq M1 e2.symm
  refine lv_aload_n hx hb dX6_goTo_5 rfl (lv_at hl 0 rfl) ?_
  refine lv_iconst (v := 0) hx hb dX6_goTo_6 (by decide) ?_
  refine pfX6_93 C hw hw.2.2.1 h0 (by decide) dX6_goTo_7 (fun H locs hw => ?_)
  generalize e4 : uI M1 a0 7 0 = M3 at hw
  replace hq := hq M3 e4.symm
  refine lv_aload_n hx hb dX6_goTo_10 rfl (lv_at hl 0 rfl) ?_
  refine r_callV (T := TX6) (N := 9) (ci := 6) (index := 45) (n := 0) (d2 := 0) (mc := 0) (ms := 0) (As := []) (rest := []) C hw (ct_X6_isOver hq) kvX6_45 hq.1 (by decide) rfl ⟨by decide, by decide⟩ ⟨by decide, by decide⟩ rfl hl.1 rfl (Nat.le_of_ble_eq_true rfl) dX6_goTo_11 (fun r M6 H locs hp hle hw => ?_)
  obtain ⟨v5, rfl, hq⟩ := hp
  refine W.eq (g2 := F0 m 14 ls [.int v5]) rfl ?_
  refine lv_if_eq (tgt := 25) hx hb dX6_goTo_14 (by decide) (fun c7 => ?_) (fun c7 => ?_)
  · replace hq := hq.1 c7
    refine lv_aload_n hx hb dX6_goTo_25 rfl (lv_at hl 0 rfl) ?_
    refine lv_aload_n hx hb dX6_goTo_26 rfl (lv_at hl 0 rfl) ?_
    refine r_callV (T := TX6) (N := 9) (ci := 6) (index := 49) (n := 0) (d2 := 1) (mc := 0) (ms := 0) (As := []) (rest := [.ref a0]) C hw (ct_X6_isBuzz hq) kvX6_49 hq.1 (by decide) rfl ⟨by decide, by decide⟩ ⟨by decide, by decide⟩ rfl hl.1 rfl (Nat.le_of_ble_eq_true rfl) dX6_goTo_27 (fun r M9 H locs hp hle hw => ?_)
    obtain ⟨v8, rfl, hq⟩ := hp
    refine W.eq (g2 := F0 m 30 ls [.int v8, .ref a0]) rfl ?_
    refine lv_if_eq (tgt := 37) hx hb dX6_goTo_30 (by decide) (fun c10 => ?_) (fun c10 => ?_)
    · replace hq := hq.1 c10
      refine lv_iload_n hx hb dX6_goTo_37 rfl (lv_at hl 1 rfl) ?_
      refine lv_iconst (v := 2) hx hb dX6_goTo_38 (by decide) ?_
      refine lv_irem hx hb dX6_goTo_39 (by decide) ?_
      refine pfX6_79 C hw hw.2.2.1 h0 dX6_goTo_40 (fun H locs hw => ?_)
      generalize e12 : uI M9 a0 6 (p1 - p1 / 2 * 2) = M11 at hw
      replace hq := hq M11 e12.symm
      exact r_vret C hr hlk hw dX6_goTo_43 (Nat.le_refl _) (Nat.le_refl _) ⟨rfl, hq⟩
    · replace hq := hq.2 c10
      refine lv_iconst (v := 2) hx hb dX6_goTo_33 (by decide) ?_
      refine lv_goto (tgt := 40) hx hb dX6_goTo_34 (by decide) ?_
      refine pfX6_79 C hw hw.2.2.1 h0 dX6_goTo_40 (fun H locs hw => ?_)
      generalize e14 : uI M9 a0 6 2 = M13 at hw
      replace hq := hq M13 e14.symm
      exact r_vret C hr hlk hw dX6_goTo_43 (Nat.le_refl _) (Nat.le_refl _) ⟨rfl, hq⟩
  · replace hq := hq.2 c7
    refine lv_aload_n hx hb dX6_goTo_17 rfl (lv_at hl 0 rfl) ?_
    refine lv_iconst (v := 3) hx hb dX6_goTo_18 (by decide) ?_
    refine pfX6_79 C hw hw.2.2.1 h0 dX6_goTo_19 (fun H locs hw => ?_)
    generalize e16 : uI M6 a0 6 3 = M15 at hw
    replace hq := hq M15 e16.symm
    refine lv_goto (tgt := 43) hx hb dX6_goTo_22 (by decide) ?_
    exact r_vret C hr hlk hw dX6_goTo_43 (Nat.le_refl _) (Nat.le_refl _) ⟨rfl, hq⟩
