set_option maxRecDepth 100000 in
def lb_X4_faultOfHead_56  (g : Gh) (M0 : Mem) (a0 : Nat) (a1 : Nat) (post : Int32 → Mem → Prop)    (M : Mem) : Prop :=
  wp_X10_readNext g M a1 (gK g 2) (fun M2 => ∃ q3, mR M2 a0 3 = some q3 ∧ (wp_X10_isWord g M2 a1 (gK g 4) (fun v5 M6 => okc (gB g) M0 q3 17 ∧ (vp_in (mI M2 a0 0) (mN M0 q3) ∧ (∀ M9, M9 = uI M6 q3 (Int32.toNatClampNeg (mI M2 a0 0)) (vp_nar .boolean v5) → (∃ q11, mR M9 a0 3 = some q11 ∧ (okc (gB g) M0 q11 17 ∧ (vp_in (mI M9 a0 0) (mN M0 q11) ∧ ((((mI M9 q11 (Int32.toNatClampNeg (mI M9 a0 0))) = 0) → wp_X10_isWord g M9 a1 (gK g 5) (fun v18 M19 => ((v18 = 0) → post 1 M19) ∧ (¬ (v18 = 0) → wp_X10_readNext g M19 a1 (gK g 2) (fun M22 => post 0 M22)))) ∧ (¬ ((mI M9 q11 (Int32.toNatClampNeg (mI M9 a0 0))) = 0) → wp_X10_readNext g M9 a1 (gK g 2) (fun M17 => post 0 M17)))))))))))
set_option maxRecDepth 100000 in
def wp_X4_faultOfHead  (g : Gh) (M0 : Mem) (a0 : Nat) (a1 : Nat) (post : Int32 → Mem → Prop) : Prop :=
  okc (gB g) M0 a0 4 ∧ (wp_X10_isWord g M0 a1 (gK g 3) (fun v23 M24 => ((v23 = 0) → post 1 M24) ∧ (¬ (v23 = 0) → (((mI M24 a0 0) < 6) → wp_X10_readNext g M24 a1 (gK g 2) (fun M28 => wp_X4_faultOfNumber g M28 a1 1 8 (fun v29 M30 => ((v29 = 0) → ∃ q32, mR M30 a0 2 = some q32 ∧ (okc (gB g) M0 a1 10 ∧ (okc (gB g) M0 q32 14 ∧ (vp_in (mI M30 a0 0) (mN M0 q32) ∧ (∀ M37, M37 = uI M30 q32 (Int32.toNatClampNeg (mI M30 a0 0)) (Int64.toInt32 (mJ M30 a1 4)) → (lb_X4_faultOfHead_56  g M0 a0 a1 post   M37)))))) ∧ (¬ (v29 = 0) → post v29 M30)))) ∧ (¬ ((mI M24 a0 0) < 6) → post 3 M24))))
set_option maxHeartbeats 4000000 in
set_option maxRecDepth 100000 in
theorem lt_X4_faultOfHead_56 {l : Launch} {g : Gh} {p : Program} {e : Env} {s : State} {m : MethodId} {args : Array Value} {below : List Frame} {meth : Method} {c : Code} {H : Heap} {locs : List Loc} {ls : Array Slot} {M0 M : Mem} {a0 : Nat} {a1 : Nat} {post : Int32 → Mem → Prop}    (C : Cx g p s m args c cX4_faultOfHead 3 RX4) (hr : meth.sig.returnType = (some .int)) (hlk : meth.locks = false) (hn : meth.name = "faultOfHead") (h0 : okc (gB g) M0 a0 4)  (hq : lb_X4_faultOfHead_56  g M0 a0 a1 post   M) (hw : Wd g s M0 M H locs) (hl : lv_has ls 3 [(0, .ref a0), (1, .ref a1)]) : W p l e (rmo 9 0 0) s m args below meth c H locs 0 0 (MQ below (Cq g M0 (pI post)) args s 0 0 (gA g)) (F0 m 56 ls []) := by
  have hx := C.1.1
  have hb := C.1.2.1
  unfold lb_X4_faultOfHead_56 at hq
  refine lv_aload_n hx hb dX4_faultOfHead_56 rfl (lv_at hl 1 rfl) ?_
  refine va_ldcS hx hb C.1.2.2.2.1 (st_2 C.2.2.2.2.1) dX4_faultOfHead_57 ?_
  refine r_callV (T := TX10) (N := 6) (ci := 10) (index := 48) (n := 1) (d2 := 8) (mc := 0) (ms := 0) (As := [.ref (gK g 2)]) (rest := []) C hw (ct_X10_readNext hq) kvX4_48 hq.1 (by decide) rfl ⟨by decide, by decide⟩ ⟨by decide, by decide⟩ rfl hl.1 rfl (Nat.le_of_ble_eq_true rfl) dX4_faultOfHead_59 (fun r M2 H locs hp hle hw => ?_)
  obtain ⟨rfl, hq⟩ := hp
  refine W.eq (g2 := F0 m 62 ls []) rfl ?_
  refine lv_aload_n hx hb dX4_faultOfHead_62 rfl (lv_at hl 0 rfl) ?_
  obtain ⟨q3, e4, hq⟩ := hq
  refine gfX4_15 C hw hw.2.2.1 h0 e4 dX4_faultOfHead_63 ?_
  refine lv_aload_n hx hb dX4_faultOfHead_66 rfl (lv_at hl 0 rfl) ?_
  refine gfX4_28 C hw hw.2.2.1 h0 dX4_faultOfHead_67 ?_
  refine lv_aload_n hx hb dX4_faultOfHead_70 rfl (lv_at hl 1 rfl) ?_
  refine va_ldcS hx hb C.1.2.2.2.1 (st_4 C.2.2.2.2.1) dX4_faultOfHead_71 ?_
  refine r_callV (T := TX10) (N := 6) (ci := 10) (index := 66) (n := 1) (d2 := 5) (mc := 0) (ms := 0) (As := [.ref (gK g 4)]) (rest := [.int (mI M2 a0 0), .ref q3]) C hw (ct_X10_isWord hq) kvX4_66 hq.1 (by decide) rfl ⟨by decide, by decide⟩ ⟨by decide, by decide⟩ rfl hl.1 rfl (Nat.le_of_ble_eq_true rfl) dX4_faultOfHead_73 (fun r M6 H locs hp hle hw => ?_)
  obtain ⟨v5, rfl, hq⟩ := hp
  refine W.eq (g2 := F0 m 76 ls [.int v5, .int (mI M2 a0 0), .ref q3]) rfl ?_
  obtain ⟨h7, hq⟩ := hq
  obtain ⟨h8, hq⟩ := hq
  refine q_zast C hw hw.2.2.1 h7 h8 dX4_faultOfHead_76 (fun H locs hw => ?_)
  generalize e10 : uI M6 q3 (Int32.toNatClampNeg (mI M2 a0 0)) (vp_nar .boolean v5) = M9 at hw
  replace hq := hq M9 e10.symm
  refine lv_aload_n hx hb dX4_faultOfHead_77 rfl (lv_at hl 0 rfl) ?_
  obtain ⟨q11, e12, hq⟩ := hq
  refine gfX4_15 C hw hw.2.2.1 h0 e12 dX4_faultOfHead_78 ?_
  refine lv_aload_n hx hb dX4_faultOfHead_81 rfl (lv_at hl 0 rfl) ?_
  refine gfX4_28 C hw hw.2.2.1 h0 dX4_faultOfHead_82 ?_
  obtain ⟨h13, hq⟩ := hq
  obtain ⟨h14, hq⟩ := hq
  refine q_zald C hw hw.2.2.1 h13 h14 dX4_faultOfHead_85 ?_
  refine lv_if_ne (tgt := 100) hx hb dX4_faultOfHead_86 (by decide) (fun c15 => ?_) (fun c15 => ?_)
  · replace hq := hq.2 c15
    refine lv_aload_n hx hb dX4_faultOfHead_100 rfl (lv_at hl 1 rfl) ?_
    refine va_ldcS hx hb C.1.2.2.2.1 (st_2 C.2.2.2.2.1) dX4_faultOfHead_101 ?_
    refine r_callV (T := TX10) (N := 6) (ci := 10) (index := 48) (n := 1) (d2 := 8) (mc := 0) (ms := 0) (As := [.ref (gK g 2)]) (rest := []) C hw (ct_X10_readNext hq) kvX4_48 hq.1 (by decide) rfl ⟨by decide, by decide⟩ ⟨by decide, by decide⟩ rfl hl.1 rfl (Nat.le_of_ble_eq_true rfl) dX4_faultOfHead_103 (fun r M17 H locs hp hle hw => ?_)
    obtain ⟨rfl, hq⟩ := hp
    refine W.eq (g2 := F0 m 106 ls []) rfl ?_
    refine lv_iconst (v := 0) hx hb dX4_faultOfHead_106 (by decide) ?_
    exact r_iret C hr hlk hw dX4_faultOfHead_107 (Nat.le_refl _) (Nat.le_refl _) ⟨_, rfl, hq⟩
  · replace hq := hq.1 c15
    refine lv_aload_n hx hb dX4_faultOfHead_89 rfl (lv_at hl 1 rfl) ?_
    refine va_ldcS hx hb C.1.2.2.2.1 (st_5 C.2.2.2.2.1) dX4_faultOfHead_90 ?_
    refine r_callV (T := TX10) (N := 6) (ci := 10) (index := 66) (n := 1) (d2 := 5) (mc := 0) (ms := 0) (As := [.ref (gK g 5)]) (rest := []) C hw (ct_X10_isWord hq) kvX4_66 hq.1 (by decide) rfl ⟨by decide, by decide⟩ ⟨by decide, by decide⟩ rfl hl.1 rfl (Nat.le_of_ble_eq_true rfl) dX4_faultOfHead_92 (fun r M19 H locs hp hle hw => ?_)
    obtain ⟨v18, rfl, hq⟩ := hp
    refine W.eq (g2 := F0 m 95 ls [.int v18]) rfl ?_
    refine lv_if_ne (tgt := 100) hx hb dX4_faultOfHead_95 (by decide) (fun c20 => ?_) (fun c20 => ?_)
    · replace hq := hq.2 c20
      refine lv_aload_n hx hb dX4_faultOfHead_100 rfl (lv_at hl 1 rfl) ?_
      refine va_ldcS hx hb C.1.2.2.2.1 (st_2 C.2.2.2.2.1) dX4_faultOfHead_101 ?_
      refine r_callV (T := TX10) (N := 6) (ci := 10) (index := 48) (n := 1) (d2 := 8) (mc := 0) (ms := 0) (As := [.ref (gK g 2)]) (rest := []) C hw (ct_X10_readNext hq) kvX4_48 hq.1 (by decide) rfl ⟨by decide, by decide⟩ ⟨by decide, by decide⟩ rfl hl.1 rfl (Nat.le_of_ble_eq_true rfl) dX4_faultOfHead_103 (fun r M22 H locs hp hle hw => ?_)
      obtain ⟨rfl, hq⟩ := hp
      refine W.eq (g2 := F0 m 106 ls []) rfl ?_
      refine lv_iconst (v := 0) hx hb dX4_faultOfHead_106 (by decide) ?_
      exact r_iret C hr hlk hw dX4_faultOfHead_107 (Nat.le_refl _) (Nat.le_refl _) ⟨_, rfl, hq⟩
    · replace hq := hq.1 c20
      refine lv_iconst (v := 1) hx hb dX4_faultOfHead_98 (by decide) ?_
      exact r_iret C hr hlk hw dX4_faultOfHead_99 (Nat.le_refl _) (Nat.le_refl _) ⟨_, rfl, hq⟩
set_option maxHeartbeats 4000000 in
set_option maxRecDepth 100000 in
theorem ct_X4_faultOfHead {l : Launch} {g : Gh} {M0 : Mem} {a0 : Nat} {a1 : Nat} {post : Int32 → Mem → Prop}  (hq : wp_X4_faultOfHead  g M0 a0 a1 post) : Ct l g yX4_faultOfHead cX4_faultOfHead 3 (some .int) 9 0 0 [.ref a0, .ref a1] M0 (pI post) := by
  unfold wp_X4_faultOfHead at hq
  obtain ⟨h0, hq⟩ := hq
  refine Ct.of (by decide) (Nat.le_of_ble_eq_true rfl) ?_
  intro p e s m below meth c ls C hr hlk hn hl hw
  have hx := C.1.1
  have hb := C.1.2.1
  have hl : lv_has ls 3 [(0, .ref a0), (1, .ref a1)] := hl
  refine lv_aload_n hx hb dX4_faultOfHead_0 rfl (lv_at hl 1 rfl) ?_
  refine va_ldcS hx hb C.1.2.2.2.1 (st_3 C.2.2.2.2.1) dX4_faultOfHead_1 ?_
  refine r_callV (T := TX10) (N := 6) (ci := 10) (index := 66) (n := 1) (d2 := 5) (mc := 0) (ms := 0) (As := [.ref (gK g 3)]) (rest := []) C hw (ct_X10_isWord hq) kvX4_66 hq.1 (by decide) rfl ⟨by decide, by decide⟩ ⟨by decide, by decide⟩ rfl hl.1 rfl (Nat.le_of_ble_eq_true rfl) dX4_faultOfHead_3 (fun r M24 H locs hp hle hw => ?_)
  obtain ⟨v23, rfl, hq⟩ := hp
  refine W.eq (g2 := F0 m 6 ls [.int v23]) rfl ?_
  refine lv_if_ne (tgt := 11) hx hb dX4_faultOfHead_6 (by decide) (fun c25 => ?_) (fun c25 => ?_)
  · replace hq := hq.2 c25
    refine lv_aload_n hx hb dX4_faultOfHead_11 rfl (lv_at hl 0 rfl) ?_
    refine gfX4_28 C hw hw.2.2.1 h0 dX4_faultOfHead_12 ?_
    refine lv_bipush (v := 6) hx hb dX4_faultOfHead_15 (by decide) ?_
    refine lv_icmp_lt (tgt := 22) hx hb dX4_faultOfHead_17 (by decide) (fun c26 => ?_) (fun c26 => ?_)
    · replace hq := hq.1 c26
      refine lv_aload_n hx hb dX4_faultOfHead_22 rfl (lv_at hl 1 rfl) ?_
      refine va_ldcS hx hb C.1.2.2.2.1 (st_2 C.2.2.2.2.1) dX4_faultOfHead_23 ?_
      refine r_callV (T := TX10) (N := 6) (ci := 10) (index := 48) (n := 1) (d2 := 8) (mc := 0) (ms := 0) (As := [.ref (gK g 2)]) (rest := []) C hw (ct_X10_readNext hq) kvX4_48 hq.1 (by decide) rfl ⟨by decide, by decide⟩ ⟨by decide, by decide⟩ rfl hl.1 rfl (Nat.le_of_ble_eq_true rfl) dX4_faultOfHead_25 (fun r M28 H locs hp hle hw => ?_)
      obtain ⟨rfl, hq⟩ := hp
      refine W.eq (g2 := F0 m 28 ls []) rfl ?_
      refine lv_aload_n hx hb dX4_faultOfHead_28 rfl (lv_at hl 1 rfl) ?_
      refine lv_iconst (v := 1) hx hb dX4_faultOfHead_29 (by decide) ?_
      refine lv_bipush (v := 8) hx hb dX4_faultOfHead_30 (by decide) ?_
      refine r_callS (index := 70) (n := 3) (d2 := 0) (mc := 0) (ms := 0) (As := [.ref a1, .int 1, .int 8]) (rest := []) C hw (ct_X4_faultOfNumber hq) ksX4_70 ⟨by decide, by decide⟩ ⟨by decide, by decide⟩ rfl hl.1 rfl (Nat.le_of_ble_eq_true rfl) dX4_faultOfHead_32 (fun r M30 H locs hp hle hw => ?_)
      obtain ⟨v29, rfl, hq⟩ := hp
      refine W.eq (g2 := F0 m 35 ls [.int v29]) rfl ?_
      refine lv_istore_n (lv' := [(2, .int v29), (0, .ref a0), (1, .ref a1)]) hx hb dX4_faultOfHead_35 rfl hl (by decide) rfl (fun ls hl => ?_)
      refine lv_iload_n hx hb dX4_faultOfHead_36 rfl (lv_at hl 0 rfl) ?_
      refine lv_if_eq (tgt := 42) hx hb dX4_faultOfHead_37 (by decide) (fun c31 => ?_) (fun c31 => ?_)
      · replace hq := hq.1 c31
        refine lv_aload_n hx hb dX4_faultOfHead_42 rfl (lv_at hl 1 rfl) ?_
        obtain ⟨q32, e33, hq⟩ := hq
        refine gfX4_11 C hw hw.2.2.1 h0 e33 dX4_faultOfHead_43 ?_
        refine lv_aload_n hx hb dX4_faultOfHead_46 rfl (lv_at hl 1 rfl) ?_
        refine gfX4_28 C hw hw.2.2.1 h0 dX4_faultOfHead_47 ?_
        refine lv_aload_n hx hb dX4_faultOfHead_50 rfl (lv_at hl 2 rfl) ?_
        obtain ⟨h34, hq⟩ := hq
        refine gfX4_74 C hw hw.2.2.1 h34 dX4_faultOfHead_51 ?_
        refine lv_l2i (v := (Int64.toInt32 (mJ M30 a1 4))) hx hb dX4_faultOfHead_54 rfl ?_
        obtain ⟨h35, hq⟩ := hq
        obtain ⟨h36, hq⟩ := hq
        refine q_iast C hw hw.2.2.1 h35 h36 dX4_faultOfHead_55 (fun H locs hw => ?_)
        generalize e38 : uI M30 q32 (Int32.toNatClampNeg (mI M30 a0 0)) (Int64.toInt32 (mJ M30 a1 4)) = M37 at hw
        replace hq := hq M37 e38.symm
        have e33 : mR M37 a0 2 = some q32 := by rw [← e38, mR_uI]; exact e33
        exact lt_X4_faultOfHead_56  C hr hlk hn h0  hq hw (lv_sub hl [1, 2] rfl)
      · replace hq := hq.2 c31
        refine lv_iload_n hx hb dX4_faultOfHead_40 rfl (lv_at hl 0 rfl) ?_
        exact r_iret C hr hlk hw dX4_faultOfHead_41 (Nat.le_refl _) (Nat.le_refl _) ⟨_, rfl, hq⟩
    · replace hq := hq.2 c26
      refine lv_iconst (v := 3) hx hb dX4_faultOfHead_20 (by decide) ?_
      exact r_iret C hr hlk hw dX4_faultOfHead_21 (Nat.le_refl _) (Nat.le_refl _) ⟨_, rfl, hq⟩
  · replace hq := hq.1 c25
    refine lv_iconst (v := 1) hx hb dX4_faultOfHead_9 (by decide) ?_
    exact r_iret C hr hlk hw dX4_faultOfHead_10 (Nat.le_refl _) (Nat.le_refl _) ⟨_, rfl, hq⟩

set_option maxRecDepth 100000 in
def wp_X4_readPoints  (g : Gh) (M0 : Mem) (a0 : Nat) (a1 : Nat) (p2 : Int32) (post : Int32 → Mem → Prop) : Prop :=
  wp_X10_readNext g M0 a0 (gK g 2) (fun M2 => wp_X4_faultOfNumber g M2 a0 0 20 (fun v3 M4 => ((v3 = 0) → ((p2 < 0) → post v3 M4) ∧ (¬ (p2 < 0) → okc (gB g) M0 a1 14 ∧ ((((nI (mN M0 a1)) ≤ p2) → post v3 M4) ∧ (¬ ((nI (mN M0 a1)) ≤ p2) → okc (gB g) M0 a0 10 ∧ (vp_in p2 (mN M0 a1) ∧ (∀ M11, M11 = uI M4 a1 (Int32.toNatClampNeg p2) (Int64.toInt32 (mJ M4 a0 4)) → (wp_X10_readNext g M11 a0 (gK g 2) (fun M14 => post v3 M14)))))))) ∧ (¬ (v3 = 0) → post v3 M4)))
set_option maxHeartbeats 4000000 in
set_option maxRecDepth 100000 in
theorem ct_X4_readPoints {l : Launch} {g : Gh} {M0 : Mem} {a0 : Nat} {a1 : Nat} {p2 : Int32} {post : Int32 → Mem → Prop}  (hq : wp_X4_readPoints  g M0 a0 a1 p2 post) : Ct l g yX4_readPoints cX4_readPoints 4 (some .int) 9 0 0 [.ref a0, .ref a1, .int p2] M0 (pI post) := by
  unfold wp_X4_readPoints at hq
  refine Ct.of (by decide) (Nat.le_of_ble_eq_true rfl) ?_
  intro p e s m below meth c ls C hr hlk hn hl hw
  have hx := C.1.1
  have hb := C.1.2.1
  have hl : lv_has ls 4 [(0, .ref a0), (1, .ref a1), (2, .int p2)] := hl
  refine lv_aload_n hx hb dX4_readPoints_0 rfl (lv_at hl 0 rfl) ?_
  refine va_ldcS hx hb C.1.2.2.2.1 (st_2 C.2.2.2.2.1) dX4_readPoints_1 ?_
  refine r_callV (T := TX10) (N := 6) (ci := 10) (index := 48) (n := 1) (d2 := 8) (mc := 0) (ms := 0) (As := [.ref (gK g 2)]) (rest := []) C hw (ct_X10_readNext hq) kvX4_48 hq.1 (by decide) rfl ⟨by decide, by decide⟩ ⟨by decide, by decide⟩ rfl hl.1 rfl (Nat.le_of_ble_eq_true rfl) dX4_readPoints_3 (fun r M2 H locs hp hle hw => ?_)
  obtain ⟨rfl, hq⟩ := hp
  refine W.eq (g2 := F0 m 6 ls []) rfl ?_
  refine lv_aload_n hx hb dX4_readPoints_6 rfl (lv_at hl 0 rfl) ?_
  refine lv_iconst (v := 0) hx hb dX4_readPoints_7 (by decide) ?_
  refine lv_bipush (v := 20) hx hb dX4_readPoints_8 (by decide) ?_
  refine r_callS (index := 70) (n := 3) (d2 := 0) (mc := 0) (ms := 0) (As := [.ref a0, .int 0, .int 20]) (rest := []) C hw (ct_X4_faultOfNumber hq) ksX4_70 ⟨by decide, by decide⟩ ⟨by decide, by decide⟩ rfl hl.1 rfl (Nat.le_of_ble_eq_true rfl) dX4_readPoints_10 (fun r M4 H locs hp hle hw => ?_)
  obtain ⟨v3, rfl, hq⟩ := hp
  refine W.eq (g2 := F0 m 13 ls [.int v3]) rfl ?_
  refine lv_istore_n (lv' := [(3, .int v3), (0, .ref a0), (1, .ref a1), (2, .int p2)]) hx hb dX4_readPoints_13 rfl hl (by decide) rfl (fun ls hl => ?_)
  refine lv_iload_n hx hb dX4_readPoints_14 rfl (lv_at hl 0 rfl) ?_
  refine lv_if_ne (tgt := 42) hx hb dX4_readPoints_15 (by decide) (fun c5 => ?_) (fun c5 => ?_)
  · replace hq := hq.2 c5
    refine lv_iload_n hx hb dX4_readPoints_42 rfl (lv_at hl 0 rfl) ?_
    exact r_iret C hr hlk hw dX4_readPoints_43 (Nat.le_refl _) (Nat.le_refl _) ⟨_, rfl, hq⟩
  · replace hq := hq.1 c5
    refine lv_iload_n hx hb dX4_readPoints_18 rfl (lv_at hl 3 rfl) ?_
    refine lv_if_lt (tgt := 42) hx hb dX4_readPoints_19 (by decide) (fun c6 => ?_) (fun c6 => ?_)
    · replace hq := hq.1 c6
      refine lv_iload_n hx hb dX4_readPoints_42 rfl (lv_at hl 0 rfl) ?_
      exact r_iret C hr hlk hw dX4_readPoints_43 (Nat.le_refl _) (Nat.le_refl _) ⟨_, rfl, hq⟩
    · replace hq := hq.2 c6
      refine lv_iload_n hx hb dX4_readPoints_22 rfl (lv_at hl 3 rfl) ?_
      refine lv_aload_n hx hb dX4_readPoints_23 rfl (lv_at hl 2 rfl) ?_
      obtain ⟨h7, hq⟩ := hq
      refine q_alen C hw hw.2.2.1 h7 (by decide) (by decide) rfl dX4_readPoints_24 ?_
      refine lv_icmp_ge (tgt := 42) hx hb dX4_readPoints_25 (by decide) (fun c8 => ?_) (fun c8 => ?_)
      · replace hq := hq.1 c8
        refine lv_iload_n hx hb dX4_readPoints_42 rfl (lv_at hl 0 rfl) ?_
        exact r_iret C hr hlk hw dX4_readPoints_43 (Nat.le_refl _) (Nat.le_refl _) ⟨_, rfl, hq⟩
      · replace hq := hq.2 c8
        refine lv_aload_n hx hb dX4_readPoints_28 rfl (lv_at hl 2 rfl) ?_
        refine lv_iload_n hx hb dX4_readPoints_29 rfl (lv_at hl 3 rfl) ?_
        refine lv_aload_n hx hb dX4_readPoints_30 rfl (lv_at hl 1 rfl) ?_
        obtain ⟨h9, hq⟩ := hq
        refine gfX4_74 C hw hw.2.2.1 h9 dX4_readPoints_31 ?_
        refine lv_l2i (v := (Int64.toInt32 (mJ M4 a0 4))) hx hb dX4_readPoints_34 rfl ?_
        obtain ⟨h10, hq⟩ := hq
        refine q_iast C hw hw.2.2.1 h7 h10 dX4_readPoints_35 (fun H locs hw => ?_)
        generalize e12 : uI M4 a1 (Int32.toNatClampNeg p2) (Int64.toInt32 (mJ M4 a0 4)) = M11 at hw
        replace hq := hq M11 e12.symm
        refine lv_aload_n hx hb dX4_readPoints_36 rfl (lv_at hl 1 rfl) ?_
        refine va_ldcS hx hb C.1.2.2.2.1 (st_2 C.2.2.2.2.1) dX4_readPoints_37 ?_
        refine r_callV (T := TX10) (N := 6) (ci := 10) (index := 48) (n := 1) (d2 := 8) (mc := 0) (ms := 0) (As := [.ref (gK g 2)]) (rest := []) C hw (ct_X10_readNext hq) kvX4_48 hq.1 (by decide) rfl ⟨by decide, by decide⟩ ⟨by decide, by decide⟩ rfl hl.1 rfl (Nat.le_of_ble_eq_true rfl) dX4_readPoints_39 (fun r M14 H locs hp hle hw => ?_)
        obtain ⟨rfl, hq⟩ := hp
        refine W.eq (g2 := F0 m 42 ls []) rfl ?_
        refine lv_iload_n hx hb dX4_readPoints_42 rfl (lv_at hl 0 rfl) ?_
        exact r_iret C hr hlk hw dX4_readPoints_43 (Nat.le_refl _) (Nat.le_refl _) ⟨_, rfl, hq⟩

set_option maxRecDepth 100000 in
def lb_X4_faultOfPoints_100  (g : Gh) (M0 : Mem) (a0 : Nat) (a1 : Nat) (p2 : Int32) (post : Int32 → Mem → Prop)  (x3 : Int32)  (M : Mem) : Prop :=
  ((x3 = 0) → okc (gB g) M0 a1 10 ∧ ((((mI M a1 2) = 59) → ∃ q4, mR M a0 2 = some q4 ∧ (okc (gB g) M0 q4 14 ∧ (vp_in p2 (mN M0 q4) ∧ (∀ M8, M8 = uI M a0 1 ((mI M a0 1) + (mI M q4 (Int32.toNatClampNeg p2))) → (∀ M10, M10 = uI M8 a0 0 ((mI M8 a0 0) + 1) → (wp_X10_readNext g M10 a1 (gK g 2) (fun M13 => post 0 M13))))))) ∧ (¬ ((mI M a1 2) = 59) → post 1 M))) ∧ (¬ (x3 = 0) → post x3 M)
set_option maxRecDepth 100000 in
def lb_X4_faultOfPoints_77  (g : Gh) (M0 : Mem) (a0 : Nat) (a1 : Nat) (p2 : Int32) (post : Int32 → Mem → Prop)  (x3 : Int32)  (M : Mem) : Prop :=
  ((x3 = 0) → wp_X10_isWord g M a1 (gK g 8) (fun v15 M16 => ((v15 = 0) → lb_X4_faultOfPoints_100  g M0 a0 a1 p2 post  x3 M16) ∧ (¬ (v15 = 0) → ∃ q18, mR M16 a0 6 = some q18 ∧ (wp_X4_readPoints g M16 a1 q18 p2 (fun v20 M21 => lb_X4_faultOfPoints_100  g M0 a0 a1 p2 post  v20 M21))))) ∧ (¬ (x3 = 0) → lb_X4_faultOfPoints_100  g M0 a0 a1 p2 post  x3 M)
set_option maxRecDepth 100000 in
def lb_X4_faultOfPoints_58  (g : Gh) (M0 : Mem) (a0 : Nat) (a1 : Nat) (p2 : Int32) (post : Int32 → Mem → Prop)  (x3 : Int32)  (M : Mem) : Prop :=
  wp_X10_isWord g M a1 (gK g 7) (fun v22 M23 => ((v22 = 0) → lb_X4_faultOfPoints_77  g M0 a0 a1 p2 post  x3 M23) ∧ (¬ (v22 = 0) → ∃ q25, mR M23 a0 5 = some q25 ∧ (wp_X4_readPoints g M23 a1 q25 p2 (fun v27 M28 => lb_X4_faultOfPoints_77  g M0 a0 a1 p2 post  v27 M28))))
set_option maxRecDepth 100000 in
def wp_X4_faultOfPoints  (g : Gh) (M0 : Mem) (a0 : Nat) (a1 : Nat) (p2 : Int32) (post : Int32 → Mem → Prop) : Prop :=
  okc (gB g) M0 a0 4 ∧ (((p2 < 0) → post 1 M0) ∧ (¬ (p2 < 0) → ((6 ≤ p2) → post 1 M0) ∧ (¬ (6 ≤ p2) → wp_X10_isWord g M0 a1 (gK g 6) (fun v31 M32 => ((v31 = 0) → post 1 M32) ∧ (¬ (v31 = 0) → ∃ q34, mR M32 a0 5 = some q34 ∧ (okc (gB g) M0 q34 14 ∧ (vp_in p2 (mN M0 q34) ∧ (∀ M38, M38 = uI M32 q34 (Int32.toNatClampNeg p2) (-1) → (∃ q40, mR M38 a0 6 = some q40 ∧ (okc (gB g) M0 q40 14 ∧ (vp_in p2 (mN M0 q40) ∧ (∀ M44, M44 = uI M38 q40 (Int32.toNatClampNeg p2) 0 → (∃ q46, mR M44 a0 4 = some q46 ∧ (wp_X4_readPoints g M44 a1 q46 p2 (fun v48 M49 => ((v48 = 0) → ∃ q51, mR M49 a0 3 = some q51 ∧ (okc (gB g) M0 q51 17 ∧ (vp_in p2 (mN M0 q51) ∧ ((((mI M49 q51 (Int32.toNatClampNeg p2)) = 0) → lb_X4_faultOfPoints_58  g M0 a0 a1 p2 post  v48 M49) ∧ (¬ ((mI M49 q51 (Int32.toNatClampNeg p2)) = 0) → lb_X4_faultOfPoints_77  g M0 a0 a1 p2 post  v48 M49))))) ∧ (¬ (v48 = 0) → lb_X4_faultOfPoints_77  g M0 a0 a1 p2 post  v48 M49))))))))))))))))
set_option maxHeartbeats 4000000 in
set_option maxRecDepth 100000 in
theorem lt_X4_faultOfPoints_100 {l : Launch} {g : Gh} {p : Program} {e : Env} {s : State} {m : MethodId} {args : Array Value} {below : List Frame} {meth : Method} {c : Code} {H : Heap} {locs : List Loc} {ls : Array Slot} {M0 M : Mem} {a0 : Nat} {a1 : Nat} {p2 : Int32} {post : Int32 → Mem → Prop} {x3 : Int32}   (C : Cx g p s m args c cX4_faultOfPoints 4 RX4) (hr : meth.sig.returnType = (some .int)) (hlk : meth.locks = false) (hn : meth.name = "faultOfPoints") (h0 : okc (gB g) M0 a0 4)  (hq : lb_X4_faultOfPoints_100  g M0 a0 a1 p2 post  x3 M) (hw : Wd g s M0 M H locs) (hl : lv_has ls 4 [(0, .ref a0), (1, .ref a1), (2, .int p2), (3, .int x3)]) : W p l e (rmo 10 0 0) s m args below meth c H locs 0 0 (MQ below (Cq g M0 (pI post)) args s 0 0 (gA g)) (F0 m 100 ls []) := by
  have hx := C.1.1
  have hb := C.1.2.1
  unfold lb_X4_faultOfPoints_100 at hq
  refine lv_iload_n hx hb dX4_faultOfPoints_100 rfl (lv_at hl 3 rfl) ?_
  refine lv_if_eq (tgt := 106) hx hb dX4_faultOfPoints_101 (by decide) (fun c1 => ?_) (fun c1 => ?_)
  · replace hq := hq.1 c1
    refine lv_aload_n hx hb dX4_faultOfPoints_106 rfl (lv_at hl 1 rfl) ?_
    obtain ⟨h2, hq⟩ := hq
    refine gfX4_52 C hw hw.2.2.1 h2 dX4_faultOfPoints_107 ?_
    refine lv_bipush (v := 59) hx hb dX4_faultOfPoints_110 (by decide) ?_
    refine lv_icmp_eq (tgt := 117) hx hb dX4_faultOfPoints_112 (by decide) (fun c3 => ?_) (fun c3 => ?_)
    · replace hq := hq.1 c3
      refine lv_aload_n hx hb dX4_faultOfPoints_117 rfl (lv_at hl 0 rfl) ?_
      refine lv_dup hx hb dX4_faultOfPoints_118 rfl ?_
      refine gfX4_32 C hw hw.2.2.1 h0 dX4_faultOfPoints_119 ?_
      refine lv_aload_n hx hb dX4_faultOfPoints_122 rfl (lv_at hl 0 rfl) ?_
      obtain ⟨q4, e5, hq⟩ := hq
      refine gfX4_11 C hw hw.2.2.1 h0 e5 dX4_faultOfPoints_123 ?_
      refine lv_iload_n hx hb dX4_faultOfPoints_126 rfl (lv_at hl 2 rfl) ?_
      obtain ⟨h6, hq⟩ := hq
      obtain ⟨h7, hq⟩ := hq
      refine q_iald C hw hw.2.2.1 h6 h7 dX4_faultOfPoints_127 ?_
      refine lv_iadd hx hb dX4_faultOfPoints_128 ?_
      refine pfX4_32 C hw hw.2.2.1 h0 dX4_faultOfPoints_129 (fun H locs hw => ?_)
      generalize e9 : uI M a0 1 ((mI M a0 1) + (mI M q4 (Int32.toNatClampNeg p2))) = M8 at hw
      replace hq := hq M8 e9.symm
      have e5 : mR M8 a0 2 = some q4 := by rw [← e9, mR_uI]; exact e5
      refine lv_aload_n hx hb dX4_faultOfPoints_132 rfl (lv_at hl 0 rfl) ?_
      refine lv_dup hx hb dX4_faultOfPoints_133 rfl ?_
      refine gfX4_28 C hw hw.2.2.1 h0 dX4_faultOfPoints_134 ?_
      refine lv_iconst (v := 1) hx hb dX4_faultOfPoints_137 (by decide) ?_
      refine lv_iadd hx hb dX4_faultOfPoints_138 ?_
      refine pfX4_28 C hw hw.2.2.1 h0 dX4_faultOfPoints_139 (fun H locs hw => ?_)
      generalize e11 : uI M8 a0 0 ((mI M8 a0 0) + 1) = M10 at hw
      replace hq := hq M10 e11.symm
      have e5 : mR M10 a0 2 = some q4 := by rw [← e11, mR_uI]; exact e5
      refine lv_aload_n hx hb dX4_faultOfPoints_142 rfl (lv_at hl 1 rfl) ?_
      refine va_ldcS hx hb C.1.2.2.2.1 (st_2 C.2.2.2.2.1) dX4_faultOfPoints_143 ?_
      refine r_callV (T := TX10) (N := 6) (ci := 10) (index := 48) (n := 1) (d2 := 8) (mc := 0) (ms := 0) (As := [.ref (gK g 2)]) (rest := []) C hw (ct_X10_readNext hq) kvX4_48 hq.1 (by decide) rfl ⟨by decide, by decide⟩ ⟨by decide, by decide⟩ rfl hl.1 rfl (Nat.le_of_ble_eq_true rfl) dX4_faultOfPoints_145 (fun r M13 H locs hp hle hw => ?_)
      obtain ⟨rfl, hq⟩ := hp
      refine W.eq (g2 := F0 m 148 ls []) rfl ?_
      refine lv_iconst (v := 0) hx hb dX4_faultOfPoints_148 (by decide) ?_
      exact r_iret C hr hlk hw dX4_faultOfPoints_149 (Nat.le_refl _) (Nat.le_refl _) ⟨_, rfl, hq⟩
    · replace hq := hq.2 c3
      refine lv_iconst (v := 1) hx hb dX4_faultOfPoints_115 (by decide) ?_
      exact r_iret C hr hlk hw dX4_faultOfPoints_116 (Nat.le_refl _) (Nat.le_refl _) ⟨_, rfl, hq⟩
  · replace hq := hq.2 c1
    refine lv_iload_n hx hb dX4_faultOfPoints_104 rfl (lv_at hl 3 rfl) ?_
    exact r_iret C hr hlk hw dX4_faultOfPoints_105 (Nat.le_refl _) (Nat.le_refl _) ⟨_, rfl, hq⟩
set_option maxHeartbeats 4000000 in
set_option maxRecDepth 100000 in
theorem lt_X4_faultOfPoints_77 {l : Launch} {g : Gh} {p : Program} {e : Env} {s : State} {m : MethodId} {args : Array Value} {below : List Frame} {meth : Method} {c : Code} {H : Heap} {locs : List Loc} {ls : Array Slot} {M0 M : Mem} {a0 : Nat} {a1 : Nat} {p2 : Int32} {post : Int32 → Mem → Prop} {x3 : Int32}   (C : Cx g p s m args c cX4_faultOfPoints 4 RX4) (hr : meth.sig.returnType = (some .int)) (hlk : meth.locks = false) (hn : meth.name = "faultOfPoints") (h0 : okc (gB g) M0 a0 4)  (hq : lb_X4_faultOfPoints_77  g M0 a0 a1 p2 post  x3 M) (hw : Wd g s M0 M H locs) (hl : lv_has ls 4 [(0, .ref a0), (1, .ref a1), (2, .int p2), (3, .int x3)]) : W p l e (rmo 10 0 0) s m args below meth c H locs 0 0 (MQ below (Cq g M0 (pI post)) args s 0 0 (gA g)) (F0 m 77 ls []) := by
  have hx := C.1.1
  have hb := C.1.2.1
  unfold lb_X4_faultOfPoints_77 at hq
  refine lv_iload_n hx hb dX4_faultOfPoints_77 rfl (lv_at hl 3 rfl) ?_
  refine lv_if_ne (tgt := 100) hx hb dX4_faultOfPoints_78 (by decide) (fun c14 => ?_) (fun c14 => ?_)
  · replace hq := hq.2 c14
    exact lt_X4_faultOfPoints_100  C hr hlk hn h0  hq hw (lv_sub hl [0, 1, 2, 3] rfl)
  · replace hq := hq.1 c14
    refine lv_aload_n hx hb dX4_faultOfPoints_81 rfl (lv_at hl 1 rfl) ?_
    refine va_ldcS hx hb C.1.2.2.2.1 (st_8 C.2.2.2.2.1) dX4_faultOfPoints_82 ?_
    refine r_callV (T := TX10) (N := 6) (ci := 10) (index := 66) (n := 1) (d2 := 5) (mc := 0) (ms := 0) (As := [.ref (gK g 8)]) (rest := []) C hw (ct_X10_isWord hq) kvX4_66 hq.1 (by decide) rfl ⟨by decide, by decide⟩ ⟨by decide, by decide⟩ rfl hl.1 rfl (Nat.le_of_ble_eq_true rfl) dX4_faultOfPoints_84 (fun r M16 H locs hp hle hw => ?_)
    obtain ⟨v15, rfl, hq⟩ := hp
    refine W.eq (g2 := F0 m 87 ls [.int v15]) rfl ?_
    refine lv_if_eq (tgt := 100) hx hb dX4_faultOfPoints_87 (by decide) (fun c17 => ?_) (fun c17 => ?_)
    · replace hq := hq.1 c17
      exact lt_X4_faultOfPoints_100  C hr hlk hn h0  hq hw (lv_sub hl [0, 1, 2, 3] rfl)
    · replace hq := hq.2 c17
      refine lv_aload_n hx hb dX4_faultOfPoints_90 rfl (lv_at hl 1 rfl) ?_
      refine lv_aload_n hx hb dX4_faultOfPoints_91 rfl (lv_at hl 0 rfl) ?_
      obtain ⟨q18, e19, hq⟩ := hq
      refine gfX4_25 C hw hw.2.2.1 h0 e19 dX4_faultOfPoints_92 ?_
      refine lv_iload_n hx hb dX4_faultOfPoints_95 rfl (lv_at hl 2 rfl) ?_
      refine r_callS (index := 84) (n := 3) (d2 := 9) (mc := 0) (ms := 0) (As := [.ref a1, .ref q18, .int p2]) (rest := []) C hw (ct_X4_readPoints hq) ksX4_84 ⟨by decide, by decide⟩ ⟨by decide, by decide⟩ rfl hl.1 rfl (Nat.le_of_ble_eq_true rfl) dX4_faultOfPoints_96 (fun r M21 H locs hp hle hw => ?_)
      obtain ⟨v20, rfl, hq⟩ := hp
      refine W.eq (g2 := F0 m 99 ls [.int v20]) rfl ?_
      refine lv_istore_n (lv' := [(3, .int v20), (0, .ref a0), (1, .ref a1), (2, .int p2)]) hx hb dX4_faultOfPoints_99 rfl hl (by decide) rfl (fun ls hl => ?_)
      exact lt_X4_faultOfPoints_100  C hr hlk hn h0  hq hw (lv_sub hl [1, 2, 3, 0] rfl)
set_option maxHeartbeats 4000000 in
set_option maxRecDepth 100000 in
theorem lt_X4_faultOfPoints_58 {l : Launch} {g : Gh} {p : Program} {e : Env} {s : State} {m : MethodId} {args : Array Value} {below : List Frame} {meth : Method} {c : Code} {H : Heap} {locs : List Loc} {ls : Array Slot} {M0 M : Mem} {a0 : Nat} {a1 : Nat} {p2 : Int32} {post : Int32 → Mem → Prop} {x3 : Int32}   (C : Cx g p s m args c cX4_faultOfPoints 4 RX4) (hr : meth.sig.returnType = (some .int)) (hlk : meth.locks = false) (hn : meth.name = "faultOfPoints") (h0 : okc (gB g) M0 a0 4)  (hq : lb_X4_faultOfPoints_58  g M0 a0 a1 p2 post  x3 M) (hw : Wd g s M0 M H locs) (hl : lv_has ls 4 [(0, .ref a0), (1, .ref a1), (2, .int p2), (3, .int x3)]) : W p l e (rmo 10 0 0) s m args below meth c H locs 0 0 (MQ below (Cq g M0 (pI post)) args s 0 0 (gA g)) (F0 m 58 ls []) := by
  have hx := C.1.1
  have hb := C.1.2.1
  unfold lb_X4_faultOfPoints_58 at hq
  refine lv_aload_n hx hb dX4_faultOfPoints_58 rfl (lv_at hl 1 rfl) ?_
  refine va_ldcS hx hb C.1.2.2.2.1 (st_7 C.2.2.2.2.1) dX4_faultOfPoints_59 ?_
  refine r_callV (T := TX10) (N := 6) (ci := 10) (index := 66) (n := 1) (d2 := 5) (mc := 0) (ms := 0) (As := [.ref (gK g 7)]) (rest := []) C hw (ct_X10_isWord hq) kvX4_66 hq.1 (by decide) rfl ⟨by decide, by decide⟩ ⟨by decide, by decide⟩ rfl hl.1 rfl (Nat.le_of_ble_eq_true rfl) dX4_faultOfPoints_61 (fun r M23 H locs hp hle hw => ?_)
  obtain ⟨v22, rfl, hq⟩ := hp
  refine W.eq (g2 := F0 m 64 ls [.int v22]) rfl ?_
  refine lv_if_eq (tgt := 77) hx hb dX4_faultOfPoints_64 (by decide) (fun c24 => ?_) (fun c24 => ?_)
  · replace hq := hq.1 c24
    exact lt_X4_faultOfPoints_77  C hr hlk hn h0  hq hw (lv_sub hl [0, 1, 2, 3] rfl)
  · replace hq := hq.2 c24
    refine lv_aload_n hx hb dX4_faultOfPoints_67 rfl (lv_at hl 1 rfl) ?_
    refine lv_aload_n hx hb dX4_faultOfPoints_68 rfl (lv_at hl 0 rfl) ?_
    obtain ⟨q25, e26, hq⟩ := hq
    refine gfX4_22 C hw hw.2.2.1 h0 e26 dX4_faultOfPoints_69 ?_
    refine lv_iload_n hx hb dX4_faultOfPoints_72 rfl (lv_at hl 2 rfl) ?_
    refine r_callS (index := 84) (n := 3) (d2 := 9) (mc := 0) (ms := 0) (As := [.ref a1, .ref q25, .int p2]) (rest := []) C hw (ct_X4_readPoints hq) ksX4_84 ⟨by decide, by decide⟩ ⟨by decide, by decide⟩ rfl hl.1 rfl (Nat.le_of_ble_eq_true rfl) dX4_faultOfPoints_73 (fun r M28 H locs hp hle hw => ?_)
    obtain ⟨v27, rfl, hq⟩ := hp
    refine W.eq (g2 := F0 m 76 ls [.int v27]) rfl ?_
    refine lv_istore_n (lv' := [(3, .int v27), (0, .ref a0), (1, .ref a1), (2, .int p2)]) hx hb dX4_faultOfPoints_76 rfl hl (by decide) rfl (fun ls hl => ?_)
    exact lt_X4_faultOfPoints_77  C hr hlk hn h0  hq hw (lv_sub hl [1, 2, 3, 0] rfl)
set_option maxHeartbeats 4000000 in
set_option maxRecDepth 100000 in
theorem ct_X4_faultOfPoints {l : Launch} {g : Gh} {M0 : Mem} {a0 : Nat} {a1 : Nat} {p2 : Int32} {post : Int32 → Mem → Prop}  (hq : wp_X4_faultOfPoints  g M0 a0 a1 p2 post) : Ct l g yX4_faultOfPoints cX4_faultOfPoints 4 (some .int) 10 0 0 [.ref a0, .ref a1, .int p2] M0 (pI post) := by
  unfold wp_X4_faultOfPoints at hq
  obtain ⟨h0, hq⟩ := hq
  refine Ct.of (by decide) (Nat.le_of_ble_eq_true rfl) ?_
  intro p e s m below meth c ls C hr hlk hn hl hw
  have hx := C.1.1
  have hb := C.1.2.1
  have hl : lv_has ls 4 [(0, .ref a0), (1, .ref a1), (2, .int p2)] := hl
  refine lv_iload_n hx hb dX4_faultOfPoints_0 rfl (lv_at hl 2 rfl) ?_
  refine lv_if_lt (tgt := 19) hx hb dX4_faultOfPoints_1 (by decide) (fun c29 => ?_) (fun c29 => ?_)
  · replace hq := hq.1 c29
    refine lv_iconst (v := 1) hx hb dX4_faultOfPoints_19 (by decide) ?_
    exact r_iret C hr hlk hw dX4_faultOfPoints_20 (Nat.le_refl _) (Nat.le_refl _) ⟨_, rfl, hq⟩
  · replace hq := hq.2 c29
    refine lv_iload_n hx hb dX4_faultOfPoints_4 rfl (lv_at hl 2 rfl) ?_
    refine lv_bipush (v := 6) hx hb dX4_faultOfPoints_5 (by decide) ?_
    refine lv_icmp_ge (tgt := 19) hx hb dX4_faultOfPoints_7 (by decide) (fun c30 => ?_) (fun c30 => ?_)
    · replace hq := hq.1 c30
      refine lv_iconst (v := 1) hx hb dX4_faultOfPoints_19 (by decide) ?_
      exact r_iret C hr hlk hw dX4_faultOfPoints_20 (Nat.le_refl _) (Nat.le_refl _) ⟨_, rfl, hq⟩
    · replace hq := hq.2 c30
      refine lv_aload_n hx hb dX4_faultOfPoints_10 rfl (lv_at hl 1 rfl) ?_
      refine va_ldcS hx hb C.1.2.2.2.1 (st_6 C.2.2.2.2.1) dX4_faultOfPoints_11 ?_
      refine r_callV (T := TX10) (N := 6) (ci := 10) (index := 66) (n := 1) (d2 := 5) (mc := 0) (ms := 0) (As := [.ref (gK g 6)]) (rest := []) C hw (ct_X10_isWord hq) kvX4_66 hq.1 (by decide) rfl ⟨by decide, by decide⟩ ⟨by decide, by decide⟩ rfl hl.1 rfl (Nat.le_of_ble_eq_true rfl) dX4_faultOfPoints_13 (fun r M32 H locs hp hle hw => ?_)
      obtain ⟨v31, rfl, hq⟩ := hp
      refine W.eq (g2 := F0 m 16 ls [.int v31]) rfl ?_
      refine lv_if_ne (tgt := 21) hx hb dX4_faultOfPoints_16 (by decide) (fun c33 => ?_) (fun c33 => ?_)
      · replace hq := hq.2 c33
        refine lv_aload_n hx hb dX4_faultOfPoints_21 rfl (lv_at hl 0 rfl) ?_
        obtain ⟨q34, e35, hq⟩ := hq
        refine gfX4_22 C hw hw.2.2.1 h0 e35 dX4_faultOfPoints_22 ?_
        refine lv_iload_n hx hb dX4_faultOfPoints_25 rfl (lv_at hl 2 rfl) ?_
        refine lv_iconst (v := (-1)) hx hb dX4_faultOfPoints_26 (by decide) ?_
        obtain ⟨h36, hq⟩ := hq
        obtain ⟨h37, hq⟩ := hq
        refine q_iast C hw hw.2.2.1 h36 h37 dX4_faultOfPoints_27 (fun H locs hw => ?_)
        generalize e39 : uI M32 q34 (Int32.toNatClampNeg p2) (-1) = M38 at hw
        replace hq := hq M38 e39.symm
        have e35 : mR M38 a0 5 = some q34 := by rw [← e39, mR_uI]; exact e35
        refine lv_aload_n hx hb dX4_faultOfPoints_28 rfl (lv_at hl 0 rfl) ?_
        obtain ⟨q40, e41, hq⟩ := hq
        refine gfX4_25 C hw hw.2.2.1 h0 e41 dX4_faultOfPoints_29 ?_
        refine lv_iload_n hx hb dX4_faultOfPoints_32 rfl (lv_at hl 2 rfl) ?_
        refine lv_iconst (v := 0) hx hb dX4_faultOfPoints_33 (by decide) ?_
        obtain ⟨h42, hq⟩ := hq
        obtain ⟨h43, hq⟩ := hq
        refine q_iast C hw hw.2.2.1 h42 h43 dX4_faultOfPoints_34 (fun H locs hw => ?_)
        generalize e45 : uI M38 q40 (Int32.toNatClampNeg p2) 0 = M44 at hw
        replace hq := hq M44 e45.symm
        have e35 : mR M44 a0 5 = some q34 := by rw [← e45, mR_uI]; exact e35
        have e41 : mR M44 a0 6 = some q40 := by rw [← e45, mR_uI]; exact e41
        refine lv_aload_n hx hb dX4_faultOfPoints_35 rfl (lv_at hl 1 rfl) ?_
        refine lv_aload_n hx hb dX4_faultOfPoints_36 rfl (lv_at hl 0 rfl) ?_
        obtain ⟨q46, e47, hq⟩ := hq
        refine gfX4_19 C hw hw.2.2.1 h0 e47 dX4_faultOfPoints_37 ?_
        refine lv_iload_n hx hb dX4_faultOfPoints_40 rfl (lv_at hl 2 rfl) ?_
        refine r_callS (index := 84) (n := 3) (d2 := 9) (mc := 0) (ms := 0) (As := [.ref a1, .ref q46, .int p2]) (rest := []) C hw (ct_X4_readPoints hq) ksX4_84 ⟨by decide, by decide⟩ ⟨by decide, by decide⟩ rfl hl.1 rfl (Nat.le_of_ble_eq_true rfl) dX4_faultOfPoints_41 (fun r M49 H locs hp hle hw => ?_)
        obtain ⟨v48, rfl, hq⟩ := hp
        refine W.eq (g2 := F0 m 44 ls [.int v48]) rfl ?_
        refine lv_istore_n (lv' := [(3, .int v48), (0, .ref a0), (1, .ref a1), (2, .int p2)]) hx hb dX4_faultOfPoints_44 rfl hl (by decide) rfl (fun ls hl => ?_)
        refine lv_iload_n hx hb dX4_faultOfPoints_45 rfl (lv_at hl 0 rfl) ?_
        refine lv_if_ne (tgt := 77) hx hb dX4_faultOfPoints_46 (by decide) (fun c50 => ?_) (fun c50 => ?_)
        · replace hq := hq.2 c50
          exact lt_X4_faultOfPoints_77  C hr hlk hn h0  hq hw (lv_sub hl [1, 2, 3, 0] rfl)
        · replace hq := hq.1 c50
          refine lv_aload_n hx hb dX4_faultOfPoints_49 rfl (lv_at hl 1 rfl) ?_
          obtain ⟨q51, e52, hq⟩ := hq
          refine gfX4_15 C hw hw.2.2.1 h0 e52 dX4_faultOfPoints_50 ?_
          refine lv_iload_n hx hb dX4_faultOfPoints_53 rfl (lv_at hl 3 rfl) ?_
          obtain ⟨h53, hq⟩ := hq
          obtain ⟨h54, hq⟩ := hq
          refine q_zald C hw hw.2.2.1 h53 h54 dX4_faultOfPoints_54 ?_
          refine lv_if_ne (tgt := 77) hx hb dX4_faultOfPoints_55 (by decide) (fun c55 => ?_) (fun c55 => ?_)
          · replace hq := hq.2 c55
            exact lt_X4_faultOfPoints_77  C hr hlk hn h0  hq hw (lv_sub hl [1, 2, 3, 0] rfl)
          · replace hq := hq.1 c55
            exact lt_X4_faultOfPoints_58  C hr hlk hn h0  hq hw (lv_sub hl [1, 2, 3, 0] rfl)
      · replace hq := hq.1 c33
        refine lv_iconst (v := 1) hx hb dX4_faultOfPoints_19 (by decide) ?_
        exact r_iret C hr hlk hw dX4_faultOfPoints_20 (Nat.le_refl _) (Nat.le_refl _) ⟨_, rfl, hq⟩
