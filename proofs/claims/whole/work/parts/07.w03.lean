set_option maxRecDepth 100000 in
def wp_X2_isInnermost  (g : Gh) (M0 : Mem) (a0 : Nat) (p1 : Int32) (post : Int32 → Mem → Prop) : Prop :=
  okc (gB g) M0 a0 2 ∧ ((((mI M0 a0 6) < 1) → post 0 M0) ∧ (¬ ((mI M0 a0 6) < 1) → ((6 < (mI M0 a0 6)) → post 0 M0) ∧ (¬ (6 < (mI M0 a0 6)) → ∃ q3, mR M0 a0 4 = some q3 ∧ (okc (gB g) M0 q3 14 ∧ (vp_in ((mI M0 a0 6) - 1) (mN M0 q3) ∧ ((((mI M0 q3 (Int32.toNatClampNeg ((mI M0 a0 6) - 1))) = p1) → post 1 M0) ∧ (¬ ((mI M0 q3 (Int32.toNatClampNeg ((mI M0 a0 6) - 1))) = p1) → post 0 M0)))))))
set_option maxHeartbeats 4000000 in
set_option maxRecDepth 100000 in
theorem ct_X2_isInnermost {l : Launch} {g : Gh} {M0 : Mem} {a0 : Nat} {p1 : Int32} {post : Int32 → Mem → Prop}  (hq : wp_X2_isInnermost  g M0 a0 p1 post) : Ct l g yX2_isInnermost cX2_isInnermost 2 (some .boolean) 0 0 0 [.ref a0, .int p1] M0 (pI post) := by
  unfold wp_X2_isInnermost at hq
  obtain ⟨h0, hq⟩ := hq
  refine Ct.of (by decide) (Nat.le_of_ble_eq_true rfl) ?_
  intro p e s m below meth c ls C hr hlk hn hl hw
  have hx := C.1.1
  have hb := C.1.2.1
  have hl : lv_has ls 2 [(0, .ref a0), (1, .int p1)] := hl
  refine lv_aload_n hx hb dX2_isInnermost_0 rfl (lv_at hl 0 rfl) ?_
  refine gfX2_35 C hw hw.2.2.1 h0 dX2_isInnermost_1 ?_
  refine lv_iconst (v := 1) hx hb dX2_isInnermost_4 (by decide) ?_
  refine lv_icmp_lt (tgt := 36) hx hb dX2_isInnermost_5 (by decide) (fun c1 => ?_) (fun c1 => ?_)
  · replace hq := hq.1 c1
    refine lv_iconst (v := 0) hx hb dX2_isInnermost_36 (by decide) ?_
    exact r_zret C hr hlk hw dX2_isInnermost_37 (Nat.le_refl _) (Nat.le_refl _) (by decide) ⟨_, rfl, hq⟩
  · replace hq := hq.2 c1
    refine lv_aload_n hx hb dX2_isInnermost_8 rfl (lv_at hl 0 rfl) ?_
    refine gfX2_35 C hw hw.2.2.1 h0 dX2_isInnermost_9 ?_
    refine lv_bipush (v := 6) hx hb dX2_isInnermost_12 (by decide) ?_
    refine lv_icmp_gt (tgt := 36) hx hb dX2_isInnermost_14 (by decide) (fun c2 => ?_) (fun c2 => ?_)
    · replace hq := hq.1 c2
      refine lv_iconst (v := 0) hx hb dX2_isInnermost_36 (by decide) ?_
      exact r_zret C hr hlk hw dX2_isInnermost_37 (Nat.le_refl _) (Nat.le_refl _) (by decide) ⟨_, rfl, hq⟩
    · replace hq := hq.2 c2
      refine lv_aload_n hx hb dX2_isInnermost_17 rfl (lv_at hl 0 rfl) ?_
      obtain ⟨q3, e4, hq⟩ := hq
      refine gfX2_24 C hw hw.2.2.1 h0 e4 dX2_isInnermost_18 ?_
      refine lv_aload_n hx hb dX2_isInnermost_21 rfl (lv_at hl 0 rfl) ?_
      refine gfX2_35 C hw hw.2.2.1 h0 dX2_isInnermost_22 ?_
      refine lv_iconst (v := 1) hx hb dX2_isInnermost_25 (by decide) ?_
      refine lv_isub hx hb dX2_isInnermost_26 ?_
      obtain ⟨h5, hq⟩ := hq
      obtain ⟨h6, hq⟩ := hq
      refine q_iald C hw hw.2.2.1 h5 h6 dX2_isInnermost_27 ?_
      refine lv_iload_n hx hb dX2_isInnermost_28 rfl (lv_at hl 1 rfl) ?_
      refine lv_icmp_ne (tgt := 36) hx hb dX2_isInnermost_29 (by decide) (fun c7 => ?_) (fun c7 => ?_)
      · replace hq := hq.2 c7
        refine lv_iconst (v := 0) hx hb dX2_isInnermost_36 (by decide) ?_
        exact r_zret C hr hlk hw dX2_isInnermost_37 (Nat.le_refl _) (Nat.le_refl _) (by decide) ⟨_, rfl, hq⟩
      · replace hq := hq.1 c7
        refine lv_iconst (v := 1) hx hb dX2_isInnermost_32 (by decide) ?_
        refine lv_goto (tgt := 37) hx hb dX2_isInnermost_33 (by decide) ?_
        exact r_zret C hr hlk hw dX2_isInnermost_37 (Nat.le_refl _) (Nat.le_refl _) (by decide) ⟨_, rfl, hq⟩

set_option maxRecDepth 100000 in
def lb_X2_nextOfSet_49  (g : Gh) (M0 : Mem) (a0 : Nat) (p1 : Int32) (post : Int32 → Mem → Prop)    (M : Mem) : Prop :=
  ∀ M1, M1 = uI M a0 7 0 → (post 0 M1)
set_option maxRecDepth 100000 in
def wp_X2_nextOfSet  (g : Gh) (M0 : Mem) (a0 : Nat) (p1 : Int32) (post : Int32 → Mem → Prop) : Prop :=
  okc (gB g) M0 a0 2 ∧ (wp_X2_isInnermost g M0 a0 125 (fun v3 M4 => ((v3 = 0) → post 1 M4) ∧ (¬ (v3 = 0) → ∃ q6, mR M4 a0 5 = some q6 ∧ (okc (gB g) M0 q6 14 ∧ (vp_in ((mI M4 a0 6) - 1) (mN M0 q6) ∧ ((((mI M4 q6 (Int32.toNatClampNeg ((mI M4 a0 6) - 1))) < 5) → ∀ M11, M11 = uI M4 q6 (Int32.toNatClampNeg ((mI M4 a0 6) - 1)) ((mI M4 q6 (Int32.toNatClampNeg ((mI M4 a0 6) - 1))) + 1) → (wp_X2_addItem g M11 a0 p1 0 (fun M14 => lb_X2_nextOfSet_49  g M0 a0 p1 post   M14))) ∧ (¬ ((mI M4 q6 (Int32.toNatClampNeg ((mI M4 a0 6) - 1))) < 5) → post 3 M4)))))))
set_option maxHeartbeats 4000000 in
set_option maxRecDepth 100000 in
theorem lt_X2_nextOfSet_49 {l : Launch} {g : Gh} {p : Program} {e : Env} {s : State} {m : MethodId} {args : Array Value} {below : List Frame} {meth : Method} {c : Code} {H : Heap} {locs : List Loc} {ls : Array Slot} {M0 M : Mem} {a0 : Nat} {p1 : Int32} {post : Int32 → Mem → Prop}    (C : Cx g p s m args c cX2_nextOfSet 2 RX2) (hr : meth.sig.returnType = (some .int)) (hlk : meth.locks = false) (hn : meth.name = "nextOfSet") (h0 : okc (gB g) M0 a0 2)  (hq : lb_X2_nextOfSet_49  g M0 a0 p1 post   M) (hw : Wd g s M0 M H locs) (hl : lv_has ls 2 [(0, .ref a0), (1, .int p1)]) : W p l e (rmo 1 0 0) s m args below meth c H locs 0 0 (MQ below (Cq g M0 (pI post)) args s 0 0 (gA g)) (F0 m 49 ls []) := by
  have hx := C.1.1
  have hb := C.1.2.1
  unfold lb_X2_nextOfSet_49 at hq
  refine lv_aload_n hx hb dX2_nextOfSet_49 rfl (lv_at hl 0 rfl) ?_
  refine lv_iconst (v := 0) hx hb dX2_nextOfSet_50 (by decide) ?_
  refine pfX2_38 C hw hw.2.2.1 h0 dX2_nextOfSet_51 (fun H locs hw => ?_)
  generalize e2 : uI M a0 7 0 = M1 at hw
  replace hq := hq M1 e2.symm
  refine lv_iconst (v := 0) hx hb dX2_nextOfSet_54 (by decide) ?_
  exact r_iret C hr hlk hw dX2_nextOfSet_55 (Nat.le_refl _) (Nat.le_refl _) ⟨_, rfl, hq⟩
set_option maxHeartbeats 4000000 in
set_option maxRecDepth 100000 in
theorem ct_X2_nextOfSet {l : Launch} {g : Gh} {M0 : Mem} {a0 : Nat} {p1 : Int32} {post : Int32 → Mem → Prop}  (hq : wp_X2_nextOfSet  g M0 a0 p1 post) : Ct l g yX2_nextOfSet cX2_nextOfSet 2 (some .int) 1 0 0 [.ref a0, .int p1] M0 (pI post) := by
  unfold wp_X2_nextOfSet at hq
  obtain ⟨h0, hq⟩ := hq
  refine Ct.of (by decide) (Nat.le_of_ble_eq_true rfl) ?_
  intro p e s m below meth c ls C hr hlk hn hl hw
  have hx := C.1.1
  have hb := C.1.2.1
  have hl : lv_has ls 2 [(0, .ref a0), (1, .int p1)] := hl
  refine lv_aload_n hx hb dX2_nextOfSet_0 rfl (lv_at hl 0 rfl) ?_
  refine lv_bipush (v := 125) hx hb dX2_nextOfSet_1 (by decide) ?_
  refine r_callV (T := TX2) (N := 10) (ci := 2) (index := 103) (n := 1) (d2 := 0) (mc := 0) (ms := 0) (As := [.int 125]) (rest := []) C hw (ct_X2_isInnermost hq) kvX2_103 hq.1 (by decide) rfl ⟨by decide, by decide⟩ ⟨by decide, by decide⟩ rfl hl.1 rfl (Nat.le_of_ble_eq_true rfl) dX2_nextOfSet_3 (fun r M4 H locs hp hle hw => ?_)
  obtain ⟨v3, rfl, hq⟩ := hp
  refine W.eq (g2 := F0 m 6 ls [.int v3]) rfl ?_
  refine lv_if_ne (tgt := 11) hx hb dX2_nextOfSet_6 (by decide) (fun c5 => ?_) (fun c5 => ?_)
  · replace hq := hq.2 c5
    refine lv_aload_n hx hb dX2_nextOfSet_11 rfl (lv_at hl 0 rfl) ?_
    obtain ⟨q6, e7, hq⟩ := hq
    refine gfX2_28 C hw hw.2.2.1 h0 e7 dX2_nextOfSet_12 ?_
    refine lv_aload_n hx hb dX2_nextOfSet_15 rfl (lv_at hl 0 rfl) ?_
    refine gfX2_35 C hw hw.2.2.1 h0 dX2_nextOfSet_16 ?_
    refine lv_iconst (v := 1) hx hb dX2_nextOfSet_19 (by decide) ?_
    refine lv_isub hx hb dX2_nextOfSet_20 ?_
    obtain ⟨h8, hq⟩ := hq
    obtain ⟨h9, hq⟩ := hq
    refine q_iald C hw hw.2.2.1 h8 h9 dX2_nextOfSet_21 ?_
    refine lv_iconst (v := 5) hx hb dX2_nextOfSet_22 (by decide) ?_
    refine lv_icmp_lt (tgt := 28) hx hb dX2_nextOfSet_23 (by decide) (fun c10 => ?_) (fun c10 => ?_)
    · replace hq := hq.1 c10
      refine lv_aload_n hx hb dX2_nextOfSet_28 rfl (lv_at hl 0 rfl) ?_
      refine gfX2_28 C hw hw.2.2.1 h0 e7 dX2_nextOfSet_29 ?_
      refine lv_aload_n hx hb dX2_nextOfSet_32 rfl (lv_at hl 0 rfl) ?_
      refine gfX2_35 C hw hw.2.2.1 h0 dX2_nextOfSet_33 ?_
      refine lv_iconst (v := 1) hx hb dX2_nextOfSet_36 (by decide) ?_
      refine lv_isub hx hb dX2_nextOfSet_37 ?_
      refine lv_dup2_11 hx hb dX2_nextOfSet_38 rfl rfl ?_
      refine q_iald C hw hw.2.2.1 h8 h9 dX2_nextOfSet_39 ?_
      refine lv_iconst (v := 1) hx hb dX2_nextOfSet_40 (by decide) ?_
      refine lv_iadd hx hb dX2_nextOfSet_41 ?_
      refine q_iast C hw hw.2.2.1 h8 h9 dX2_nextOfSet_42 (fun H locs hw => ?_)
      generalize e12 : uI M4 q6 (Int32.toNatClampNeg ((mI M4 a0 6) - 1)) ((mI M4 q6 (Int32.toNatClampNeg ((mI M4 a0 6) - 1))) + 1) = M11 at hw
      replace hq := hq M11 e12.symm
      have e7 : mR M11 a0 5 = some q6 := by rw [← e12, mR_uI]; exact e7
      refine lv_aload_n hx hb dX2_nextOfSet_43 rfl (lv_at hl 0 rfl) ?_
      refine lv_iload_n hx hb dX2_nextOfSet_44 rfl (lv_at hl 1 rfl) ?_
      refine lv_lconst (v := 0) hx hb dX2_nextOfSet_45 (by decide) ?_
      refine r_callV (T := TX2) (N := 10) (ci := 2) (index := 85) (n := 2) (d2 := 0) (mc := 0) (ms := 0) (As := [.int p1, .long 0]) (rest := []) C hw (ct_X2_addItem hq) kvX2_85 hq.1 (by decide) rfl ⟨by decide, by decide⟩ ⟨by decide, by decide⟩ rfl hl.1 rfl (Nat.le_of_ble_eq_true rfl) dX2_nextOfSet_46 (fun r M14 H locs hp hle hw => ?_)
      obtain ⟨rfl, hq⟩ := hp
      refine W.eq (g2 := F0 m 49 ls []) rfl ?_
      exact lt_X2_nextOfSet_49  C hr hlk hn h0  hq hw (lv_sub hl [0, 1] rfl)
    · replace hq := hq.2 c10
      refine lv_iconst (v := 3) hx hb dX2_nextOfSet_26 (by decide) ?_
      exact r_iret C hr hlk hw dX2_nextOfSet_27 (Nat.le_refl _) (Nat.le_refl _) ⟨_, rfl, hq⟩
  · replace hq := hq.1 c5
    refine lv_iconst (v := 1) hx hb dX2_nextOfSet_9 (by decide) ?_
    exact r_iret C hr hlk hw dX2_nextOfSet_10 (Nat.le_refl _) (Nat.le_refl _) ⟨_, rfl, hq⟩

set_option maxRecDepth 100000 in
def wp_X2_closeBracket  (g : Gh) (M0 : Mem) (a0 : Nat) (p1 : Int32) (post : Int32 → Mem → Prop) : Prop :=
  okc (gB g) M0 a0 2 ∧ (wp_X2_isInnermost g M0 a0 p1 (fun v1 M2 => ((v1 = 0) → post 1 M2) ∧ (¬ (v1 = 0) → ∀ M4, M4 = uI M2 a0 6 ((mI M2 a0 6) - 1) → (wp_X2_addItem g M4 a0 p1 0 (fun M7 => ∀ M8, M8 = uI M7 a0 7 1 → (post 0 M8))))))
set_option maxHeartbeats 4000000 in
set_option maxRecDepth 100000 in
theorem ct_X2_closeBracket {l : Launch} {g : Gh} {M0 : Mem} {a0 : Nat} {p1 : Int32} {post : Int32 → Mem → Prop}  (hq : wp_X2_closeBracket  g M0 a0 p1 post) : Ct l g yX2_closeBracket cX2_closeBracket 2 (some .int) 1 0 0 [.ref a0, .int p1] M0 (pI post) := by
  unfold wp_X2_closeBracket at hq
  obtain ⟨h0, hq⟩ := hq
  refine Ct.of (by decide) (Nat.le_of_ble_eq_true rfl) ?_
  intro p e s m below meth c ls C hr hlk hn hl hw
  have hx := C.1.1
  have hb := C.1.2.1
  have hl : lv_has ls 2 [(0, .ref a0), (1, .int p1)] := hl
  refine lv_aload_n hx hb dX2_closeBracket_0 rfl (lv_at hl 0 rfl) ?_
  refine lv_iload_n hx hb dX2_closeBracket_1 rfl (lv_at hl 1 rfl) ?_
  refine r_callV (T := TX2) (N := 10) (ci := 2) (index := 103) (n := 1) (d2 := 0) (mc := 0) (ms := 0) (As := [.int p1]) (rest := []) C hw (ct_X2_isInnermost hq) kvX2_103 hq.1 (by decide) rfl ⟨by decide, by decide⟩ ⟨by decide, by decide⟩ rfl hl.1 rfl (Nat.le_of_ble_eq_true rfl) dX2_closeBracket_2 (fun r M2 H locs hp hle hw => ?_)
  obtain ⟨v1, rfl, hq⟩ := hp
  refine W.eq (g2 := F0 m 5 ls [.int v1]) rfl ?_
  refine lv_if_ne (tgt := 10) hx hb dX2_closeBracket_5 (by decide) (fun c3 => ?_) (fun c3 => ?_)
  · replace hq := hq.2 c3
    refine lv_aload_n hx hb dX2_closeBracket_10 rfl (lv_at hl 0 rfl) ?_
    refine lv_dup hx hb dX2_closeBracket_11 rfl ?_
    refine gfX2_35 C hw hw.2.2.1 h0 dX2_closeBracket_12 ?_
    refine lv_iconst (v := 1) hx hb dX2_closeBracket_15 (by decide) ?_
    refine lv_isub hx hb dX2_closeBracket_16 ?_
    refine pfX2_35 C hw hw.2.2.1 h0 dX2_closeBracket_17 (fun H locs hw => ?_)
    generalize e5 : uI M2 a0 6 ((mI M2 a0 6) - 1) = M4 at hw
    replace hq := hq M4 e5.symm
    refine lv_aload_n hx hb dX2_closeBracket_20 rfl (lv_at hl 0 rfl) ?_
    refine lv_iload_n hx hb dX2_closeBracket_21 rfl (lv_at hl 1 rfl) ?_
    refine lv_lconst (v := 0) hx hb dX2_closeBracket_22 (by decide) ?_
    refine r_callV (T := TX2) (N := 10) (ci := 2) (index := 85) (n := 2) (d2 := 0) (mc := 0) (ms := 0) (As := [.int p1, .long 0]) (rest := []) C hw (ct_X2_addItem hq) kvX2_85 hq.1 (by decide) rfl ⟨by decide, by decide⟩ ⟨by decide, by decide⟩ rfl hl.1 rfl (Nat.le_of_ble_eq_true rfl) dX2_closeBracket_23 (fun r M7 H locs hp hle hw => ?_)
    obtain ⟨rfl, hq⟩ := hp
    refine W.eq (g2 := F0 m 26 ls []) rfl ?_
    refine lv_aload_n hx hb dX2_closeBracket_26 rfl (lv_at hl 0 rfl) ?_
    refine lv_iconst (v := 1) hx hb dX2_closeBracket_27 (by decide) ?_
    refine pfX2_38 C hw hw.2.2.1 h0 dX2_closeBracket_28 (fun H locs hw => ?_)
    generalize e9 : uI M7 a0 7 1 = M8 at hw
    replace hq := hq M8 e9.symm
    refine lv_iconst (v := 0) hx hb dX2_closeBracket_31 (by decide) ?_
    exact r_iret C hr hlk hw dX2_closeBracket_32 (Nat.le_refl _) (Nat.le_refl _) ⟨_, rfl, hq⟩
  · replace hq := hq.1 c3
    refine lv_iconst (v := 1) hx hb dX2_closeBracket_8 (by decide) ?_
    exact r_iret C hr hlk hw dX2_closeBracket_9 (Nat.le_refl _) (Nat.le_refl _) ⟨_, rfl, hq⟩

set_option maxRecDepth 100000 in
def lb_X2_faultBehindPart_117  (g : Gh) (M0 : Mem) (a0 : Nat) (p1 : Int32) (post : Int32 → Mem → Prop)    (M : Mem) : Prop :=
  wp_X2_closeBracket g M a0 p1 (fun v1 M2 => post v1 M2)
set_option maxRecDepth 100000 in
def wp_X2_faultBehindPart  (g : Gh) (M0 : Mem) (a0 : Nat) (p1 : Int32) (post : Int32 → Mem → Prop) : Prop :=
  okc (gB g) M0 a0 2 ∧ (((p1 = 0) → (((mI M0 a0 6) = 0) → post 0 M0) ∧ (¬ ((mI M0 a0 6) = 0) → post 1 M0)) ∧ ((p1 = 41) → lb_X2_faultBehindPart_117  g M0 a0 p1 post   M0) ∧ ((p1 = 44) → wp_X2_nextOfSet g M0 a0 p1 (fun v5 M6 => post v5 M6)) ∧ ((p1 = 46) → (((mI M0 a0 7) = 2) → ∀ M8, M8 = uI M0 a0 7 3 → (post 0 M8)) ∧ (¬ ((mI M0 a0 7) = 2) → post 1 M0)) ∧ ((p1 = 93) → lb_X2_faultBehindPart_117  g M0 a0 p1 post   M0) ∧ ((p1 = 124) → wp_X2_addItem g M0 a0 p1 0 (fun M11 => ∀ M12, M12 = uI M11 a0 7 0 → (post 0 M12))) ∧ ((p1 = 125) → lb_X2_faultBehindPart_117  g M0 a0 p1 post   M0) ∧ ((¬ (p1 = 0) ∧ ¬ (p1 = 41) ∧ ¬ (p1 = 44) ∧ ¬ (p1 = 46) ∧ ¬ (p1 = 93) ∧ ¬ (p1 = 124) ∧ ¬ (p1 = 125)) → post 1 M0))
set_option maxHeartbeats 4000000 in
set_option maxRecDepth 100000 in
theorem lt_X2_faultBehindPart_117 {l : Launch} {g : Gh} {p : Program} {e : Env} {s : State} {m : MethodId} {args : Array Value} {below : List Frame} {meth : Method} {c : Code} {H : Heap} {locs : List Loc} {ls : Array Slot} {M0 M : Mem} {a0 : Nat} {p1 : Int32} {post : Int32 → Mem → Prop}    (C : Cx g p s m args c cX2_faultBehindPart 2 RX2) (hr : meth.sig.returnType = (some .int)) (hlk : meth.locks = false) (hn : meth.name = "faultBehindPart") (h0 : okc (gB g) M0 a0 2)  (hq : lb_X2_faultBehindPart_117  g M0 a0 p1 post   M) (hw : Wd g s M0 M H locs) (hl : lv_has ls 2 [(0, .ref a0), (1, .int p1)]) : W p l e (rmo 2 0 0) s m args below meth c H locs 0 0 (MQ below (Cq g M0 (pI post)) args s 0 0 (gA g)) (F0 m 117 ls []) := by
  have hx := C.1.1
  have hb := C.1.2.1
  unfold lb_X2_faultBehindPart_117 at hq
  refine lv_aload_n hx hb dX2_faultBehindPart_117 rfl (lv_at hl 0 rfl) ?_
  refine lv_iload_n hx hb dX2_faultBehindPart_118 rfl (lv_at hl 1 rfl) ?_
  refine r_callV (T := TX2) (N := 10) (ci := 2) (index := 100) (n := 1) (d2 := 1) (mc := 0) (ms := 0) (As := [.int p1]) (rest := []) C hw (ct_X2_closeBracket hq) kvX2_100 hq.1 (by decide) rfl ⟨by decide, by decide⟩ ⟨by decide, by decide⟩ rfl hl.1 rfl (Nat.le_of_ble_eq_true rfl) dX2_faultBehindPart_119 (fun r M2 H locs hp hle hw => ?_)
  obtain ⟨v1, rfl, hq⟩ := hp
  refine W.eq (g2 := F0 m 122 ls [.int v1]) rfl ?_
  exact r_iret C hr hlk hw dX2_faultBehindPart_122 (Nat.le_refl _) (Nat.le_refl _) ⟨_, rfl, hq⟩
set_option maxHeartbeats 4000000 in
set_option maxRecDepth 100000 in
theorem ct_X2_faultBehindPart {l : Launch} {g : Gh} {M0 : Mem} {a0 : Nat} {p1 : Int32} {post : Int32 → Mem → Prop}  (hq : wp_X2_faultBehindPart  g M0 a0 p1 post) : Ct l g yX2_faultBehindPart cX2_faultBehindPart 2 (some .int) 2 0 0 [.ref a0, .int p1] M0 (pI post) := by
  unfold wp_X2_faultBehindPart at hq
  obtain ⟨h0, hq⟩ := hq
  refine Ct.of (by decide) (Nat.le_of_ble_eq_true rfl) ?_
  intro p e s m below meth c ls C hr hlk hn hl hw
  have hx := C.1.1
  have hb := C.1.2.1
  have hl : lv_has ls 2 [(0, .ref a0), (1, .int p1)] := hl
  refine lv_iload_n hx hb dX2_faultBehindPart_0 rfl (lv_at hl 1 rfl) ?_
  by_cases c14 : p1 = 0
  · refine r_lookup (v := 0) (off := 67) (tgt := 68) hx hb dX2_faultBehindPart_1 (by decide) c14 (by decide +kernel) (by decide) ?_
    replace hq := hq.1 c14
    refine lv_aload_n hx hb dX2_faultBehindPart_68 rfl (lv_at hl 0 rfl) ?_
    refine gfX2_35 C hw hw.2.2.1 h0 dX2_faultBehindPart_69 ?_
    refine lv_if_ne (tgt := 79) hx hb dX2_faultBehindPart_72 (by decide) (fun c4 => ?_) (fun c4 => ?_)
    · replace hq := hq.2 c4
      refine lv_iconst (v := 1) hx hb dX2_faultBehindPart_79 (by decide) ?_
      exact r_iret C hr hlk hw dX2_faultBehindPart_80 (Nat.le_refl _) (Nat.le_refl _) ⟨_, rfl, hq⟩
    · replace hq := hq.1 c4
      refine lv_iconst (v := 0) hx hb dX2_faultBehindPart_75 (by decide) ?_
      refine lv_goto (tgt := 80) hx hb dX2_faultBehindPart_76 (by decide) ?_
      exact r_iret C hr hlk hw dX2_faultBehindPart_80 (Nat.le_refl _) (Nat.le_refl _) ⟨_, rfl, hq⟩
  by_cases c15 : p1 = 41
  · refine r_lookup (v := 41) (off := 116) (tgt := 117) hx hb dX2_faultBehindPart_1 (by decide) c15 (by decide +kernel) (by decide) ?_
    replace hq := hq.2.1 c15
    exact lt_X2_faultBehindPart_117  C hr hlk hn h0  hq hw (lv_sub hl [0, 1] rfl)
  by_cases c16 : p1 = 44
  · refine r_lookup (v := 44) (off := 110) (tgt := 111) hx hb dX2_faultBehindPart_1 (by decide) c16 (by decide +kernel) (by decide) ?_
    replace hq := hq.2.2.1 c16
    refine lv_aload_n hx hb dX2_faultBehindPart_111 rfl (lv_at hl 0 rfl) ?_
    refine lv_iload_n hx hb dX2_faultBehindPart_112 rfl (lv_at hl 1 rfl) ?_
    refine r_callV (T := TX2) (N := 10) (ci := 2) (index := 97) (n := 1) (d2 := 1) (mc := 0) (ms := 0) (As := [.int p1]) (rest := []) C hw (ct_X2_nextOfSet hq) kvX2_97 hq.1 (by decide) rfl ⟨by decide, by decide⟩ ⟨by decide, by decide⟩ rfl hl.1 rfl (Nat.le_of_ble_eq_true rfl) dX2_faultBehindPart_113 (fun r M6 H locs hp hle hw => ?_)
    obtain ⟨v5, rfl, hq⟩ := hp
    refine W.eq (g2 := F0 m 116 ls [.int v5]) rfl ?_
    exact r_iret C hr hlk hw dX2_faultBehindPart_116 (Nat.le_refl _) (Nat.le_refl _) ⟨_, rfl, hq⟩
  by_cases c17 : p1 = 46
  · refine r_lookup (v := 46) (off := 80) (tgt := 81) hx hb dX2_faultBehindPart_1 (by decide) c17 (by decide +kernel) (by decide) ?_
    replace hq := hq.2.2.2.1 c17
    refine lv_aload_n hx hb dX2_faultBehindPart_81 rfl (lv_at hl 0 rfl) ?_
    refine gfX2_38 C hw hw.2.2.1 h0 dX2_faultBehindPart_82 ?_
    refine lv_iconst (v := 2) hx hb dX2_faultBehindPart_85 (by decide) ?_
    refine lv_icmp_eq (tgt := 91) hx hb dX2_faultBehindPart_86 (by decide) (fun c7 => ?_) (fun c7 => ?_)
    · replace hq := hq.1 c7
      refine lv_aload_n hx hb dX2_faultBehindPart_91 rfl (lv_at hl 0 rfl) ?_
      refine lv_iconst (v := 3) hx hb dX2_faultBehindPart_92 (by decide) ?_
      refine pfX2_38 C hw hw.2.2.1 h0 dX2_faultBehindPart_93 (fun H locs hw => ?_)
      generalize e9 : uI M0 a0 7 3 = M8 at hw
      replace hq := hq M8 e9.symm
      refine lv_iconst (v := 0) hx hb dX2_faultBehindPart_96 (by decide) ?_
      exact r_iret C hr hlk hw dX2_faultBehindPart_97 (Nat.le_refl _) (Nat.le_refl _) ⟨_, rfl, hq⟩
    · replace hq := hq.2 c7
      refine lv_iconst (v := 1) hx hb dX2_faultBehindPart_89 (by decide) ?_
      exact r_iret C hr hlk hw dX2_faultBehindPart_90 (Nat.le_refl _) (Nat.le_refl _) ⟨_, rfl, hq⟩
  by_cases c18 : p1 = 93
  · refine r_lookup (v := 93) (off := 116) (tgt := 117) hx hb dX2_faultBehindPart_1 (by decide) c18 (by decide +kernel) (by decide) ?_
    replace hq := hq.2.2.2.2.1 c18
    exact lt_X2_faultBehindPart_117  C hr hlk hn h0  hq hw (lv_sub hl [0, 1] rfl)
  by_cases c19 : p1 = 124
  · refine r_lookup (v := 124) (off := 97) (tgt := 98) hx hb dX2_faultBehindPart_1 (by decide) c19 (by decide +kernel) (by decide) ?_
    replace hq := hq.2.2.2.2.2.1 c19
    refine lv_aload_n hx hb dX2_faultBehindPart_98 rfl (lv_at hl 0 rfl) ?_
    refine lv_iload_n hx hb dX2_faultBehindPart_99 rfl (lv_at hl 1 rfl) ?_
    refine lv_lconst (v := 0) hx hb dX2_faultBehindPart_100 (by decide) ?_
    refine r_callV (T := TX2) (N := 10) (ci := 2) (index := 85) (n := 2) (d2 := 0) (mc := 0) (ms := 0) (As := [.int p1, .long 0]) (rest := []) C hw (ct_X2_addItem hq) kvX2_85 hq.1 (by decide) rfl ⟨by decide, by decide⟩ ⟨by decide, by decide⟩ rfl hl.1 rfl (Nat.le_of_ble_eq_true rfl) dX2_faultBehindPart_101 (fun r M11 H locs hp hle hw => ?_)
    obtain ⟨rfl, hq⟩ := hp
    refine W.eq (g2 := F0 m 104 ls []) rfl ?_
    refine lv_aload_n hx hb dX2_faultBehindPart_104 rfl (lv_at hl 0 rfl) ?_
    refine lv_iconst (v := 0) hx hb dX2_faultBehindPart_105 (by decide) ?_
    refine pfX2_38 C hw hw.2.2.1 h0 dX2_faultBehindPart_106 (fun H locs hw => ?_)
    generalize e13 : uI M11 a0 7 0 = M12 at hw
    replace hq := hq M12 e13.symm
    refine lv_iconst (v := 0) hx hb dX2_faultBehindPart_109 (by decide) ?_
    exact r_iret C hr hlk hw dX2_faultBehindPart_110 (Nat.le_refl _) (Nat.le_refl _) ⟨_, rfl, hq⟩
  by_cases c20 : p1 = 125
  · refine r_lookup (v := 125) (off := 116) (tgt := 117) hx hb dX2_faultBehindPart_1 (by decide) c20 (by decide +kernel) (by decide) ?_
    replace hq := hq.2.2.2.2.2.2.1 c20
    exact lt_X2_faultBehindPart_117  C hr hlk hn h0  hq hw (lv_sub hl [0, 1] rfl)
  refine r_lookupOut (tgt := 123) hx hb dX2_faultBehindPart_1 (by decide) (List.forall_mem_cons.mpr ⟨fun h => c14 (Int32.toInt_inj.mp (h.trans (show (0 : Int) = (0 : Int32).toInt by decide))), List.forall_mem_cons.mpr ⟨fun h => c15 (Int32.toInt_inj.mp (h.trans (show (41 : Int) = (41 : Int32).toInt by decide))), List.forall_mem_cons.mpr ⟨fun h => c16 (Int32.toInt_inj.mp (h.trans (show (44 : Int) = (44 : Int32).toInt by decide))), List.forall_mem_cons.mpr ⟨fun h => c17 (Int32.toInt_inj.mp (h.trans (show (46 : Int) = (46 : Int32).toInt by decide))), List.forall_mem_cons.mpr ⟨fun h => c18 (Int32.toInt_inj.mp (h.trans (show (93 : Int) = (93 : Int32).toInt by decide))), List.forall_mem_cons.mpr ⟨fun h => c19 (Int32.toInt_inj.mp (h.trans (show (124 : Int) = (124 : Int32).toInt by decide))), List.forall_mem_cons.mpr ⟨fun h => c20 (Int32.toInt_inj.mp (h.trans (show (125 : Int) = (125 : Int32).toInt by decide))), List.forall_mem_nil _⟩⟩⟩⟩⟩⟩⟩) (by decide) ?_
  replace hq := hq.2.2.2.2.2.2.2 ⟨c14, c15, c16, c17, c18, c19, c20⟩
  refine lv_iconst (v := 1) hx hb dX2_faultBehindPart_123 (by decide) ?_
  exact r_iret C hr hlk hw dX2_faultBehindPart_124 (Nat.le_refl _) (Nat.le_refl _) ⟨_, rfl, hq⟩

set_option maxRecDepth 100000 in
def lb_X2_faultOf_102  (g : Gh) (M0 : Mem) (a0 : Nat) (p1 : Int32) (p2 : Int64) (post : Int32 → Mem → Prop)    (M : Mem) : Prop :=
  wp_X2_openBracket g M a0 p1 41 (fun v1 M2 => post v1 M2)
set_option maxRecDepth 100000 in
def wp_X2_faultOf  (g : Gh) (M0 : Mem) (a0 : Nat) (p1 : Int32) (p2 : Int64) (post : Int32 → Mem → Prop) : Prop :=
  okc (gB g) M0 a0 2 ∧ ((((mI M0 a0 7) = 3) → wp_X2_closeRange g M0 a0 p1 p2 (fun v25 M26 => post v25 M26)) ∧ (¬ ((mI M0 a0 7) = 3) → ((p1 = 1) → wp_X2_addItem g M0 a0 p1 p2 (fun M6 => ∀ M7, M7 = uI M6 a0 7 1 → (post 0 M7))) ∧ ((p1 = 2) → wp_X2_addItem g M0 a0 p1 p2 (fun M10 => ∀ M11, M11 = uI M10 a0 7 2 → (post 0 M11))) ∧ ((p1 = 40) → lb_X2_faultOf_102  g M0 a0 p1 p2 post   M0) ∧ ((p1 = 91) → wp_X2_openBracket g M0 a0 p1 93 (fun v13 M14 => post v13 M14)) ∧ ((p1 = 123) → wp_X2_openBracket g M0 a0 p1 125 (fun v15 M16 => post v15 M16)) ∧ ((¬ (p1 = 1) ∧ ¬ (p1 = 2) ∧ ¬ (p1 = 40) ∧ ¬ (p1 = 91) ∧ ¬ (p1 = 123)) → (((mI M0 a0 7) = 0) → post 1 M0) ∧ (¬ ((mI M0 a0 7) = 0) → wp_X2_faultBehindPart g M0 a0 p1 (fun v18 M19 => post v18 M19)))))
set_option maxHeartbeats 4000000 in
set_option maxRecDepth 100000 in
theorem lt_X2_faultOf_102 {l : Launch} {g : Gh} {p : Program} {e : Env} {s : State} {m : MethodId} {args : Array Value} {below : List Frame} {meth : Method} {c : Code} {H : Heap} {locs : List Loc} {ls : Array Slot} {M0 M : Mem} {a0 : Nat} {p1 : Int32} {p2 : Int64} {post : Int32 → Mem → Prop}    (C : Cx g p s m args c cX2_faultOf 4 RX2) (hr : meth.sig.returnType = (some .int)) (hlk : meth.locks = false) (hn : meth.name = "faultOf") (h0 : okc (gB g) M0 a0 2)  (hq : lb_X2_faultOf_102  g M0 a0 p1 p2 post   M) (hw : Wd g s M0 M H locs) (hl : lv_has ls 4 [(0, .ref a0), (1, .int p1), (2, .long p2)]) : W p l e (rmo 3 0 0) s m args below meth c H locs 0 0 (MQ below (Cq g M0 (pI post)) args s 0 0 (gA g)) (F0 m 102 ls []) := by
  have hx := C.1.1
  have hb := C.1.2.1
  unfold lb_X2_faultOf_102 at hq
  refine lv_aload_n hx hb dX2_faultOf_102 rfl (lv_at hl 0 rfl) ?_
  refine lv_iload_n hx hb dX2_faultOf_103 rfl (lv_at hl 1 rfl) ?_
  refine lv_bipush (v := 41) hx hb dX2_faultOf_104 (by decide) ?_
  refine r_callV (T := TX2) (N := 10) (ci := 2) (index := 89) (n := 2) (d2 := 1) (mc := 0) (ms := 0) (As := [.int p1, .int 41]) (rest := []) C hw (ct_X2_openBracket hq) kvX2_89 hq.1 (by decide) rfl ⟨by decide, by decide⟩ ⟨by decide, by decide⟩ rfl hl.1 rfl (Nat.le_of_ble_eq_true rfl) dX2_faultOf_106 (fun r M2 H locs hp hle hw => ?_)
  obtain ⟨v1, rfl, hq⟩ := hp
  refine W.eq (g2 := F0 m 109 ls [.int v1]) rfl ?_
  exact r_iret C hr hlk hw dX2_faultOf_109 (Nat.le_refl _) (Nat.le_refl _) ⟨_, rfl, hq⟩
set_option maxHeartbeats 4000000 in
set_option maxRecDepth 100000 in
theorem ct_X2_faultOf {l : Launch} {g : Gh} {M0 : Mem} {a0 : Nat} {p1 : Int32} {p2 : Int64} {post : Int32 → Mem → Prop}  (hq : wp_X2_faultOf  g M0 a0 p1 p2 post) : Ct l g yX2_faultOf cX2_faultOf 4 (some .int) 3 0 0 [.ref a0, .int p1, .long p2] M0 (pI post) := by
  unfold wp_X2_faultOf at hq
  obtain ⟨h0, hq⟩ := hq
  refine Ct.of (by decide) (Nat.le_of_ble_eq_true rfl) ?_
  intro p e s m below meth c ls C hr hlk hn hl hw
  have hx := C.1.1
  have hb := C.1.2.1
  have hl : lv_has ls 4 [(0, .ref a0), (1, .int p1), (2, .long p2)] := hl
  refine lv_aload_n hx hb dX2_faultOf_0 rfl (lv_at hl 0 rfl) ?_
  refine gfX2_38 C hw hw.2.2.1 h0 dX2_faultOf_1 ?_
  refine lv_iconst (v := 3) hx hb dX2_faultOf_4 (by decide) ?_
  refine lv_icmp_ne (tgt := 15) hx hb dX2_faultOf_5 (by decide) (fun c3 => ?_) (fun c3 => ?_)
  · replace hq := hq.2 c3
    refine lv_iload_n hx hb dX2_faultOf_15 rfl (lv_at hl 1 rfl) ?_
    by_cases c20 : p1 = 1
    · refine r_lookup (v := 1) (off := 52) (tgt := 68) hx hb dX2_faultOf_16 (by decide) c20 (by decide +kernel) (by decide) ?_
      replace hq := hq.1 c20
      refine lv_aload_n hx hb dX2_faultOf_68 rfl (lv_at hl 0 rfl) ?_
      refine lv_iload_n hx hb dX2_faultOf_69 rfl (lv_at hl 1 rfl) ?_
      refine lv_lload_n hx hb dX2_faultOf_70 rfl (lv_at hl 2 rfl) ?_
      refine r_callV (T := TX2) (N := 10) (ci := 2) (index := 85) (n := 2) (d2 := 0) (mc := 0) (ms := 0) (As := [.int p1, .long p2]) (rest := []) C hw (ct_X2_addItem hq) kvX2_85 hq.1 (by decide) rfl ⟨by decide, by decide⟩ ⟨by decide, by decide⟩ rfl hl.1 rfl (Nat.le_of_ble_eq_true rfl) dX2_faultOf_71 (fun r M6 H locs hp hle hw => ?_)
      obtain ⟨rfl, hq⟩ := hp
      refine W.eq (g2 := F0 m 74 ls []) rfl ?_
      refine lv_aload_n hx hb dX2_faultOf_74 rfl (lv_at hl 0 rfl) ?_
      refine lv_iconst (v := 1) hx hb dX2_faultOf_75 (by decide) ?_
      refine pfX2_38 C hw hw.2.2.1 h0 dX2_faultOf_76 (fun H locs hw => ?_)
      generalize e8 : uI M6 a0 7 1 = M7 at hw
      replace hq := hq M7 e8.symm
      refine lv_iconst (v := 0) hx hb dX2_faultOf_79 (by decide) ?_
      exact r_iret C hr hlk hw dX2_faultOf_80 (Nat.le_refl _) (Nat.le_refl _) ⟨_, rfl, hq⟩
    by_cases c21 : p1 = 2
    · refine r_lookup (v := 2) (off := 65) (tgt := 81) hx hb dX2_faultOf_16 (by decide) c21 (by decide +kernel) (by decide) ?_
      replace hq := hq.2.1 c21
      refine lv_aload_n hx hb dX2_faultOf_81 rfl (lv_at hl 0 rfl) ?_
      refine lv_iload_n hx hb dX2_faultOf_82 rfl (lv_at hl 1 rfl) ?_
      refine lv_lload_n hx hb dX2_faultOf_83 rfl (lv_at hl 2 rfl) ?_
      refine r_callV (T := TX2) (N := 10) (ci := 2) (index := 85) (n := 2) (d2 := 0) (mc := 0) (ms := 0) (As := [.int p1, .long p2]) (rest := []) C hw (ct_X2_addItem hq) kvX2_85 hq.1 (by decide) rfl ⟨by decide, by decide⟩ ⟨by decide, by decide⟩ rfl hl.1 rfl (Nat.le_of_ble_eq_true rfl) dX2_faultOf_84 (fun r M10 H locs hp hle hw => ?_)
      obtain ⟨rfl, hq⟩ := hp
      refine W.eq (g2 := F0 m 87 ls []) rfl ?_
      refine lv_aload_n hx hb dX2_faultOf_87 rfl (lv_at hl 0 rfl) ?_
      refine lv_iconst (v := 2) hx hb dX2_faultOf_88 (by decide) ?_
      refine pfX2_38 C hw hw.2.2.1 h0 dX2_faultOf_89 (fun H locs hw => ?_)
      generalize e12 : uI M10 a0 7 2 = M11 at hw
      replace hq := hq M11 e12.symm
      refine lv_iconst (v := 0) hx hb dX2_faultOf_92 (by decide) ?_
      exact r_iret C hr hlk hw dX2_faultOf_93 (Nat.le_refl _) (Nat.le_refl _) ⟨_, rfl, hq⟩
    by_cases c22 : p1 = 40
    · refine r_lookup (v := 40) (off := 86) (tgt := 102) hx hb dX2_faultOf_16 (by decide) c22 (by decide +kernel) (by decide) ?_
      replace hq := hq.2.2.1 c22
      exact lt_X2_faultOf_102  C hr hlk hn h0  hq hw (lv_sub hl [0, 1, 2] rfl)
    by_cases c23 : p1 = 91
    · refine r_lookup (v := 91) (off := 78) (tgt := 94) hx hb dX2_faultOf_16 (by decide) c23 (by decide +kernel) (by decide) ?_
      replace hq := hq.2.2.2.1 c23
      refine lv_aload_n hx hb dX2_faultOf_94 rfl (lv_at hl 0 rfl) ?_
      refine lv_iload_n hx hb dX2_faultOf_95 rfl (lv_at hl 1 rfl) ?_
      refine lv_bipush (v := 93) hx hb dX2_faultOf_96 (by decide) ?_
      refine r_callV (T := TX2) (N := 10) (ci := 2) (index := 89) (n := 2) (d2 := 1) (mc := 0) (ms := 0) (As := [.int p1, .int 93]) (rest := []) C hw (ct_X2_openBracket hq) kvX2_89 hq.1 (by decide) rfl ⟨by decide, by decide⟩ ⟨by decide, by decide⟩ rfl hl.1 rfl (Nat.le_of_ble_eq_true rfl) dX2_faultOf_98 (fun r M14 H locs hp hle hw => ?_)
      obtain ⟨v13, rfl, hq⟩ := hp
      refine W.eq (g2 := F0 m 101 ls [.int v13]) rfl ?_
      exact r_iret C hr hlk hw dX2_faultOf_101 (Nat.le_refl _) (Nat.le_refl _) ⟨_, rfl, hq⟩
    by_cases c24 : p1 = 123
    · refine r_lookup (v := 123) (off := 94) (tgt := 110) hx hb dX2_faultOf_16 (by decide) c24 (by decide +kernel) (by decide) ?_
      replace hq := hq.2.2.2.2.1 c24
      refine lv_aload_n hx hb dX2_faultOf_110 rfl (lv_at hl 0 rfl) ?_
      refine lv_iload_n hx hb dX2_faultOf_111 rfl (lv_at hl 1 rfl) ?_
      refine lv_bipush (v := 125) hx hb dX2_faultOf_112 (by decide) ?_
      refine r_callV (T := TX2) (N := 10) (ci := 2) (index := 89) (n := 2) (d2 := 1) (mc := 0) (ms := 0) (As := [.int p1, .int 125]) (rest := []) C hw (ct_X2_openBracket hq) kvX2_89 hq.1 (by decide) rfl ⟨by decide, by decide⟩ ⟨by decide, by decide⟩ rfl hl.1 rfl (Nat.le_of_ble_eq_true rfl) dX2_faultOf_114 (fun r M16 H locs hp hle hw => ?_)
      obtain ⟨v15, rfl, hq⟩ := hp
      refine W.eq (g2 := F0 m 117 ls [.int v15]) rfl ?_
      exact r_iret C hr hlk hw dX2_faultOf_117 (Nat.le_refl _) (Nat.le_refl _) ⟨_, rfl, hq⟩
    refine r_lookupOut (tgt := 118) hx hb dX2_faultOf_16 (by decide) (List.forall_mem_cons.mpr ⟨fun h => c20 (Int32.toInt_inj.mp (h.trans (show (1 : Int) = (1 : Int32).toInt by decide))), List.forall_mem_cons.mpr ⟨fun h => c21 (Int32.toInt_inj.mp (h.trans (show (2 : Int) = (2 : Int32).toInt by decide))), List.forall_mem_cons.mpr ⟨fun h => c22 (Int32.toInt_inj.mp (h.trans (show (40 : Int) = (40 : Int32).toInt by decide))), List.forall_mem_cons.mpr ⟨fun h => c23 (Int32.toInt_inj.mp (h.trans (show (91 : Int) = (91 : Int32).toInt by decide))), List.forall_mem_cons.mpr ⟨fun h => c24 (Int32.toInt_inj.mp (h.trans (show (123 : Int) = (123 : Int32).toInt by decide))), List.forall_mem_nil _⟩⟩⟩⟩⟩) (by decide) ?_
    replace hq := hq.2.2.2.2.2 ⟨c20, c21, c22, c23, c24⟩
    refine lv_aload_n hx hb dX2_faultOf_118 rfl (lv_at hl 0 rfl) ?_
    refine gfX2_38 C hw hw.2.2.1 h0 dX2_faultOf_119 ?_
    refine lv_if_ne (tgt := 129) hx hb dX2_faultOf_122 (by decide) (fun c17 => ?_) (fun c17 => ?_)
    · replace hq := hq.2 c17
      refine lv_aload_n hx hb dX2_faultOf_129 rfl (lv_at hl 0 rfl) ?_
      refine lv_iload_n hx hb dX2_faultOf_130 rfl (lv_at hl 1 rfl) ?_
      refine r_callV (T := TX2) (N := 10) (ci := 2) (index := 93) (n := 1) (d2 := 2) (mc := 0) (ms := 0) (As := [.int p1]) (rest := []) C hw (ct_X2_faultBehindPart hq) kvX2_93 hq.1 (by decide) rfl ⟨by decide, by decide⟩ ⟨by decide, by decide⟩ rfl hl.1 rfl (Nat.le_of_ble_eq_true rfl) dX2_faultOf_131 (fun r M19 H locs hp hle hw => ?_)
      obtain ⟨v18, rfl, hq⟩ := hp
      refine W.eq (g2 := F0 m 134 ls [.int v18]) rfl ?_
      exact r_iret C hr hlk hw dX2_faultOf_134 (Nat.le_refl _) (Nat.le_refl _) ⟨_, rfl, hq⟩
    · replace hq := hq.1 c17
      refine lv_iconst (v := 1) hx hb dX2_faultOf_125 (by decide) ?_
      refine lv_goto (tgt := 134) hx hb dX2_faultOf_126 (by decide) ?_
      exact r_iret C hr hlk hw dX2_faultOf_134 (Nat.le_refl _) (Nat.le_refl _) ⟨_, rfl, hq⟩
  · replace hq := hq.1 c3
    refine lv_aload_n hx hb dX2_faultOf_8 rfl (lv_at hl 0 rfl) ?_
    refine lv_iload_n hx hb dX2_faultOf_9 rfl (lv_at hl 1 rfl) ?_
    refine lv_lload_n hx hb dX2_faultOf_10 rfl (lv_at hl 2 rfl) ?_
    refine r_callV (T := TX2) (N := 10) (ci := 2) (index := 82) (n := 2) (d2 := 0) (mc := 0) (ms := 0) (As := [.int p1, .long p2]) (rest := []) C hw (ct_X2_closeRange hq) kvX2_82 hq.1 (by decide) rfl ⟨by decide, by decide⟩ ⟨by decide, by decide⟩ rfl hl.1 rfl (Nat.le_of_ble_eq_true rfl) dX2_faultOf_11 (fun r M26 H locs hp hle hw => ?_)
    obtain ⟨v25, rfl, hq⟩ := hp
    refine W.eq (g2 := F0 m 14 ls [.int v25]) rfl ?_
    exact r_iret C hr hlk hw dX2_faultOf_14 (Nat.le_refl _) (Nat.le_refl _) ⟨_, rfl, hq⟩

set_option maxRecDepth 100000 in
def lb_X2_readFrom_67  (g : Gh) (M0 : Mem) (a0 : Nat) (a1 : Nat) (post : Mem → Prop)    (M : Mem) : Prop :=
  okc (gB g) M0 a1 10 ∧ (∀ M2, M2 = uI M a0 9 (mI M a1 3) → (post M2))
set_option maxRecDepth 100000 in
def bd_X2_readFrom_31  (g : Gh) (M0 : Mem) (a0 : Nat) (a1 : Nat) (post : Mem → Prop)  (bk31 : Int32 × Mem → Prop) (x2 : Int32)  (M : Mem) : Prop :=
  ((200 < x2) → post M) ∧ (¬ (200 < x2) → wp_X10_readNext g M a1 (gK g 0) (fun M6 => okc (gB g) M0 a1 10 ∧ (wp_X2_faultOf g M6 a0 (mI M6 a1 2) (mJ M6 a1 4) (fun v8 M9 => ∀ M10, M10 = uI M9 a0 8 v8 → ((((mI M10 a0 8) = 0) → (((mI M10 a1 2) = 0) → post M10) ∧ (¬ ((mI M10 a1 2) = 0) → bk31 ((x2 + 1), M10))) ∧ (¬ ((mI M10 a0 8) = 0) → lb_X2_readFrom_67  g M0 a0 a1 post   M10))))))
set_option maxRecDepth 100000 in
def wp_X2_readFrom  (g : Gh) (M0 : Mem) (a0 : Nat) (a1 : Nat) (post : Mem → Prop) : Prop :=
  okc (gB g) M0 a0 2 ∧ (∀ M14, M14 = uI M0 a0 3 0 → (∀ M16, M16 = uI M14 a0 6 0 → (∀ M18, M18 = uI M16 a0 7 0 → (∀ M20, M20 = uI M18 a0 8 0 → (∀ M22, M22 = uI M20 a0 9 0 → (wp_X10_rewind g M22 a1 (fun M25 => (∃ n : Nat, lfp (fun bk z => bd_X2_readFrom_31  g M0 a0 a1 post  bk z.1 z.2) n (0, M25)))))))))
set_option maxHeartbeats 4000000 in
set_option maxRecDepth 100000 in
theorem lt_X2_readFrom_67 {l : Launch} {g : Gh} {p : Program} {e : Env} {s : State} {m : MethodId} {args : Array Value} {below : List Frame} {meth : Method} {c : Code} {H : Heap} {locs : List Loc} {ls : Array Slot} {M0 M : Mem} {a0 : Nat} {a1 : Nat} {post : Mem → Prop}    (C : Cx g p s m args c cX2_readFrom 3 RX2) (hr : meth.sig.returnType = none) (hlk : meth.locks = false) (hn : meth.name = "readFrom") (h0 : okc (gB g) M0 a0 2)  (hq : lb_X2_readFrom_67  g M0 a0 a1 post   M) (hw : Wd g s M0 M H locs) (hl : lv_has ls 3 [(0, .ref a0), (1, .ref a1)]) : W p l e (rmo 9 0 0) s m args below meth c H locs 0 0 (MQ below (Cq g M0 (pV post)) args s 0 0 (gA g)) (F0 m 67 ls []) := by
  have hx := C.1.1
  have hb := C.1.2.1
  unfold lb_X2_readFrom_67 at hq
  refine lv_aload_n hx hb dX2_readFrom_67 rfl (lv_at hl 0 rfl) ?_
  refine lv_aload_n hx hb dX2_readFrom_68 rfl (lv_at hl 1 rfl) ?_
  obtain ⟨h1, hq⟩ := hq
  refine gfX2_67 C hw hw.2.2.1 h1 dX2_readFrom_69 ?_
  refine pfX2_44 C hw hw.2.2.1 h0 dX2_readFrom_72 (fun H locs hw => ?_)
  generalize e3 : uI M a0 9 (mI M a1 3) = M2 at hw
  replace hq := hq M2 e3.symm
  exact r_vret C hr hlk hw dX2_readFrom_75 (Nat.le_refl _) (Nat.le_refl _) ⟨rfl, hq⟩
set_option maxHeartbeats 4000000 in
set_option maxRecDepth 100000 in
theorem lp_X2_readFrom_31 {l : Launch} {g : Gh} {p : Program} {e : Env} {s : State} {m : MethodId} {args : Array Value} {below : List Frame} {meth : Method} {c : Code} {M0 : Mem} {a0 : Nat} {a1 : Nat} {post : Mem → Prop}  (C : Cx g p s m args c cX2_readFrom 3 RX2) (hr : meth.sig.returnType = none) (hlk : meth.locks = false) (hn : meth.name = "readFrom") (h0 : okc (gB g) M0 a0 2)  : ∀ (nf : Nat) (x2 : Int32)  (M : Mem) (H : Heap) (locs : List Loc) (ls : Array Slot), lfp (fun bk z => bd_X2_readFrom_31  g M0 a0 a1 post  bk z.1 z.2) nf (x2, M) → Wd g s M0 M H locs → lv_has ls 3 [(0, .ref a0), (1, .ref a1), (2, .int x2)] → W p l e (rmo 9 0 0) s m args below meth c H locs 0 0 (MQ below (Cq g M0 (pV post)) args s 0 0 (gA g)) (F0 m 31 ls []) := by
  have hx := C.1.1
  have hb := C.1.2.1
  intro nf
  induction nf with
  | zero => intro _ _ H locs ls hq; exact hq.elim
  | succ nf hk31 =>
    intro x2 M H locs ls hq hw hl
    replace hq : bd_X2_readFrom_31  g M0 a0 a1 post  (lfp (fun bk z => bd_X2_readFrom_31  g M0 a0 a1 post  bk z.1 z.2) nf) x2 M := hq
    unfold bd_X2_readFrom_31 at hq
    refine lv_iload_n hx hb dX2_readFrom_31 rfl (lv_at hl 2 rfl) ?_
    refine lv_sipush (v := 200) hx hb dX2_readFrom_32 (by decide) ?_
    refine lv_icmp_gt (tgt := 90) hx hb dX2_readFrom_35 (by decide) (fun c4 => ?_) (fun c4 => ?_)
    · replace hq := hq.1 c4
      exact r_vret C hr hlk hw dX2_readFrom_90 (Nat.le_refl _) (Nat.le_refl _) ⟨rfl, hq⟩
    · replace hq := hq.2 c4
      refine lv_aload_n hx hb dX2_readFrom_38 rfl (lv_at hl 1 rfl) ?_
      refine va_ldcS hx hb C.1.2.2.2.1 (st_0 C.2.2.2.2.1) dX2_readFrom_39 ?_
      refine r_callV (T := TX10) (N := 6) (ci := 10) (index := 52) (n := 1) (d2 := 8) (mc := 0) (ms := 0) (As := [.ref (gK g 0)]) (rest := []) C hw (ct_X10_readNext hq) kvX2_52 hq.1 (by decide) rfl ⟨by decide, by decide⟩ ⟨by decide, by decide⟩ rfl hl.1 rfl (Nat.le_of_ble_eq_true rfl) dX2_readFrom_41 (fun r M6 H locs hp hle hw => ?_)
      obtain ⟨rfl, hq⟩ := hp
      refine W.eq (g2 := F0 m 44 ls []) rfl ?_
      refine lv_aload_n hx hb dX2_readFrom_44 rfl (lv_at hl 0 rfl) ?_
      refine lv_aload_n hx hb dX2_readFrom_45 rfl (lv_at hl 0 rfl) ?_
      refine lv_aload_n hx hb dX2_readFrom_46 rfl (lv_at hl 1 rfl) ?_
      obtain ⟨h7, hq⟩ := hq
      refine gfX2_56 C hw hw.2.2.1 h7 dX2_readFrom_47 ?_
      refine lv_aload_n hx hb dX2_readFrom_50 rfl (lv_at hl 1 rfl) ?_
      refine gfX2_59 C hw hw.2.2.1 h7 dX2_readFrom_51 ?_
      refine r_callV (T := TX2) (N := 10) (ci := 2) (index := 63) (n := 2) (d2 := 3) (mc := 0) (ms := 0) (As := [.int (mI M6 a1 2), .long (mJ M6 a1 4)]) (rest := [.ref a0]) C hw (ct_X2_faultOf hq) kvX2_63 hq.1 (by decide) rfl ⟨by decide, by decide⟩ ⟨by decide, by decide⟩ rfl hl.1 rfl (Nat.le_of_ble_eq_true rfl) dX2_readFrom_54 (fun r M9 H locs hp hle hw => ?_)
      obtain ⟨v8, rfl, hq⟩ := hp
      refine W.eq (g2 := F0 m 57 ls [.int v8, .ref a0]) rfl ?_
      refine pfX2_41 C hw hw.2.2.1 h0 dX2_readFrom_57 (fun H locs hw => ?_)
      generalize e11 : uI M9 a0 8 v8 = M10 at hw
      replace hq := hq M10 e11.symm
      refine lv_aload_n hx hb dX2_readFrom_60 rfl (lv_at hl 0 rfl) ?_
      refine gfX2_41 C hw hw.2.2.1 h0 dX2_readFrom_61 ?_
      refine lv_if_eq (tgt := 76) hx hb dX2_readFrom_64 (by decide) (fun c12 => ?_) (fun c12 => ?_)
      · replace hq := hq.1 c12
        refine lv_aload_n hx hb dX2_readFrom_76 rfl (lv_at hl 1 rfl) ?_
        refine gfX2_56 C hw hw.2.2.1 h7 dX2_readFrom_77 ?_
        refine lv_if_ne (tgt := 84) hx hb dX2_readFrom_80 (by decide) (fun c13 => ?_) (fun c13 => ?_)
        · replace hq := hq.2 c13
          refine lv_iinc (v := (x2 + 1)) (lv' := [(2, .int (x2 + 1)), (0, .ref a0), (1, .ref a1)]) hx hb dX2_readFrom_84 hl (k := 2) rfl rfl (by decide) rfl (fun ls hl => ?_)
          refine lv_goto (tgt := 31) hx hb dX2_readFrom_87 (by decide) ?_
          exact hk31 _ _ _ _ _ hq hw (lv_sub hl [1, 2, 0] rfl)
        · replace hq := hq.1 c13
          exact r_vret C hr hlk hw dX2_readFrom_83 (Nat.le_refl _) (Nat.le_refl _) ⟨rfl, hq⟩
      · replace hq := hq.2 c12
        exact lt_X2_readFrom_67  C hr hlk hn h0  hq hw (lv_sub hl [0, 1] rfl)
set_option maxHeartbeats 4000000 in
set_option maxRecDepth 100000 in
theorem ct_X2_readFrom {l : Launch} {g : Gh} {M0 : Mem} {a0 : Nat} {a1 : Nat} {post : Mem → Prop}  (hq : wp_X2_readFrom  g M0 a0 a1 post) : Ct l g yX2_readFrom cX2_readFrom 3 none 9 0 0 [.ref a0, .ref a1] M0 (pV post) := by
  unfold wp_X2_readFrom at hq
  obtain ⟨h0, hq⟩ := hq
  refine Ct.of (by decide) (Nat.le_of_ble_eq_true rfl) ?_
  intro p e s m below meth c ls C hr hlk hn hl hw
  have hx := C.1.1
  have hb := C.1.2.1
  have hl : lv_has ls 3 [(0, .ref a0), (1, .ref a1)] := hl
  refine lv_aload_n hx hb dX2_readFrom_0 rfl (lv_at hl 0 rfl) ?_
  refine lv_iconst (v := 0) hx hb dX2_readFrom_1 (by decide) ?_
  refine pfX2_31 C hw hw.2.2.1 h0 dX2_readFrom_2 (fun H locs hw => ?_)
  generalize e15 : uI M0 a0 3 0 = M14 at hw
  replace hq := hq M14 e15.symm
  refine lv_aload_n hx hb dX2_readFrom_5 rfl (lv_at hl 0 rfl) ?_
  refine lv_iconst (v := 0) hx hb dX2_readFrom_6 (by decide) ?_
  refine pfX2_35 C hw hw.2.2.1 h0 dX2_readFrom_7 (fun H locs hw => ?_)
  generalize e17 : uI M14 a0 6 0 = M16 at hw
  replace hq := hq M16 e17.symm
  refine lv_aload_n hx hb dX2_readFrom_10 rfl (lv_at hl 0 rfl) ?_
  refine lv_iconst (v := 0) hx hb dX2_readFrom_11 (by decide) ?_
  refine pfX2_38 C hw hw.2.2.1 h0 dX2_readFrom_12 (fun H locs hw => ?_)
  generalize e19 : uI M16 a0 7 0 = M18 at hw
  replace hq := hq M18 e19.symm
  refine lv_aload_n hx hb dX2_readFrom_15 rfl (lv_at hl 0 rfl) ?_
  refine lv_iconst (v := 0) hx hb dX2_readFrom_16 (by decide) ?_
  refine pfX2_41 C hw hw.2.2.1 h0 dX2_readFrom_17 (fun H locs hw => ?_)
  generalize e21 : uI M18 a0 8 0 = M20 at hw
  replace hq := hq M20 e21.symm
  refine lv_aload_n hx hb dX2_readFrom_20 rfl (lv_at hl 0 rfl) ?_
  refine lv_iconst (v := 0) hx hb dX2_readFrom_21 (by decide) ?_
  refine pfX2_44 C hw hw.2.2.1 h0 dX2_readFrom_22 (fun H locs hw => ?_)
  generalize e23 : uI M20 a0 9 0 = M22 at hw
  replace hq := hq M22 e23.symm
  refine lv_aload_n hx hb dX2_readFrom_25 rfl (lv_at hl 1 rfl) ?_
  refine r_callV (T := TX10) (N := 6) (ci := 10) (index := 47) (n := 0) (d2 := 0) (mc := 0) (ms := 0) (As := []) (rest := []) C hw (ct_X10_rewind hq) kvX2_47 hq.1 (by decide) rfl ⟨by decide, by decide⟩ ⟨by decide, by decide⟩ rfl hl.1 rfl (Nat.le_of_ble_eq_true rfl) dX2_readFrom_26 (fun r M25 H locs hp hle hw => ?_)
  obtain ⟨rfl, hq⟩ := hp
  refine W.eq (g2 := F0 m 29 ls []) rfl ?_
  refine lv_iconst (v := 0) hx hb dX2_readFrom_29 (by decide) ?_
  refine lv_istore_n (lv' := [(2, .int 0), (0, .ref a0), (1, .ref a1)]) hx hb dX2_readFrom_30 rfl hl (by decide) rfl (fun ls hl => ?_)
  obtain ⟨nf, hq⟩ := hq
  exact lp_X2_readFrom_31  C hr hlk hn h0  nf _ _ _ _ _ hq hw (lv_sub hl [1, 2, 0] rfl)
