set_option maxRecDepth 100000 in
def wp_X12_tells  (g : Gh) (M0 : Mem) (a0 : Nat) (p1 : Int32) (p2 : Int32) (p3 : Int32) (post : Mem → Prop) : Prop :=
  okc (gB g) M0 a0 12 ∧ (∃ q1, mR M0 a0 56 = some q1 ∧ (okc (gB g) M0 q1 14 ∧ (vp_in (mI M0 a0 49) (mN M0 q1) ∧ (∀ M5, M5 = uI M0 q1 (Int32.toNatClampNeg (mI M0 a0 49)) (mI M0 a0 50) → (∃ q7, mR M5 a0 57 = some q7 ∧ (okc (gB g) M0 q7 14 ∧ (vp_in (mI M5 a0 49) (mN M0 q7) ∧ (∀ M11, M11 = uI M5 q7 (Int32.toNatClampNeg (mI M5 a0 49)) p1 → (∃ q13, mR M11 a0 58 = some q13 ∧ (okc (gB g) M0 q13 14 ∧ (vp_in (mI M11 a0 49) (mN M0 q13) ∧ (∀ M17, M17 = uI M11 q13 (Int32.toNatClampNeg (mI M11 a0 49)) p2 → (∃ q19, mR M17 a0 60 = some q19 ∧ (okc (gB g) M0 q19 17 ∧ (vp_in (mI M17 a0 49) (mN M0 q19) ∧ (∀ M23, M23 = uI M17 q19 (Int32.toNatClampNeg (mI M17 a0 49)) (vp_nar .boolean p3) → (∀ M25, M25 = uI M23 a0 49 ((mI M23 a0 49) + 1) → (wp_X12_through g M25 a0 (fun M28 => post M28)))))))))))))))))))
set_option maxHeartbeats 4000000 in
set_option maxRecDepth 100000 in
theorem ct_X12_tells {l : Launch} {g : Gh} {M0 : Mem} {a0 : Nat} {p1 : Int32} {p2 : Int32} {p3 : Int32} {post : Mem → Prop}  (hq : wp_X12_tells  g M0 a0 p1 p2 p3 post) : Ct l g yX12_tells cX12_tells 4 none 4 0 0 [.ref a0, .int p1, .int p2, .int p3] M0 (pV post) := by
  unfold wp_X12_tells at hq
  obtain ⟨h0, hq⟩ := hq
  refine Ct.of (by decide) (Nat.le_of_ble_eq_true rfl) ?_
  intro p e s m below meth c ls C hr hlk hn hl hw
  have hx := C.1.1
  have hb := C.1.2.1
  have hl : lv_has ls 4 [(0, .ref a0), (1, .int p1), (2, .int p2), (3, .int p3)] := hl
  refine lv_aload_n hx hb dX12_tells_0 rfl (lv_at hl 0 rfl) ?_
  obtain ⟨q1, e2, hq⟩ := hq
  refine gfX12_93 C hw hw.2.2.1 h0 e2 dX12_tells_1 ?_
  refine lv_aload_n hx hb dX12_tells_4 rfl (lv_at hl 0 rfl) ?_
  refine gfX12_290 C hw hw.2.2.1 h0 dX12_tells_5 ?_
  refine lv_aload_n hx hb dX12_tells_8 rfl (lv_at hl 0 rfl) ?_
  refine gfX12_296 C hw hw.2.2.1 h0 dX12_tells_9 ?_
  obtain ⟨h3, hq⟩ := hq
  obtain ⟨h4, hq⟩ := hq
  refine q_iast C hw hw.2.2.1 h3 h4 dX12_tells_12 (fun H locs hw => ?_)
  generalize e6 : uI M0 q1 (Int32.toNatClampNeg (mI M0 a0 49)) (mI M0 a0 50) = M5 at hw
  replace hq := hq M5 e6.symm
  have e2 : mR M5 a0 56 = some q1 := by rw [← e6, mR_uI]; exact e2
  refine lv_aload_n hx hb dX12_tells_13 rfl (lv_at hl 0 rfl) ?_
  obtain ⟨q7, e8, hq⟩ := hq
  refine gfX12_96 C hw hw.2.2.1 h0 e8 dX12_tells_14 ?_
  refine lv_aload_n hx hb dX12_tells_17 rfl (lv_at hl 0 rfl) ?_
  refine gfX12_290 C hw hw.2.2.1 h0 dX12_tells_18 ?_
  refine lv_iload_n hx hb dX12_tells_21 rfl (lv_at hl 1 rfl) ?_
  obtain ⟨h9, hq⟩ := hq
  obtain ⟨h10, hq⟩ := hq
  refine q_iast C hw hw.2.2.1 h9 h10 dX12_tells_22 (fun H locs hw => ?_)
  generalize e12 : uI M5 q7 (Int32.toNatClampNeg (mI M5 a0 49)) p1 = M11 at hw
  replace hq := hq M11 e12.symm
  have e2 : mR M11 a0 56 = some q1 := by rw [← e12, mR_uI]; exact e2
  have e8 : mR M11 a0 57 = some q7 := by rw [← e12, mR_uI]; exact e8
  refine lv_aload_n hx hb dX12_tells_23 rfl (lv_at hl 0 rfl) ?_
  obtain ⟨q13, e14, hq⟩ := hq
  refine gfX12_99 C hw hw.2.2.1 h0 e14 dX12_tells_24 ?_
  refine lv_aload_n hx hb dX12_tells_27 rfl (lv_at hl 0 rfl) ?_
  refine gfX12_290 C hw hw.2.2.1 h0 dX12_tells_28 ?_
  refine lv_iload_n hx hb dX12_tells_31 rfl (lv_at hl 2 rfl) ?_
  obtain ⟨h15, hq⟩ := hq
  obtain ⟨h16, hq⟩ := hq
  refine q_iast C hw hw.2.2.1 h15 h16 dX12_tells_32 (fun H locs hw => ?_)
  generalize e18 : uI M11 q13 (Int32.toNatClampNeg (mI M11 a0 49)) p2 = M17 at hw
  replace hq := hq M17 e18.symm
  have e2 : mR M17 a0 56 = some q1 := by rw [← e18, mR_uI]; exact e2
  have e8 : mR M17 a0 57 = some q7 := by rw [← e18, mR_uI]; exact e8
  have e14 : mR M17 a0 58 = some q13 := by rw [← e18, mR_uI]; exact e14
  refine lv_aload_n hx hb dX12_tells_33 rfl (lv_at hl 0 rfl) ?_
  obtain ⟨q19, e20, hq⟩ := hq
  refine gfX12_105 C hw hw.2.2.1 h0 e20 dX12_tells_34 ?_
  refine lv_aload_n hx hb dX12_tells_37 rfl (lv_at hl 0 rfl) ?_
  refine gfX12_290 C hw hw.2.2.1 h0 dX12_tells_38 ?_
  refine lv_iload_n hx hb dX12_tells_41 rfl (lv_at hl 3 rfl) ?_
  obtain ⟨h21, hq⟩ := hq
  obtain ⟨h22, hq⟩ := hq
  refine q_zast C hw hw.2.2.1 h21 h22 dX12_tells_42 (fun H locs hw => ?_)
  generalize e24 : uI M17 q19 (Int32.toNatClampNeg (mI M17 a0 49)) (vp_nar .boolean p3) = M23 at hw
  replace hq := hq M23 e24.symm
  have e2 : mR M23 a0 56 = some q1 := by rw [← e24, mR_uI]; exact e2
  have e8 : mR M23 a0 57 = some q7 := by rw [← e24, mR_uI]; exact e8
  have e14 : mR M23 a0 58 = some q13 := by rw [← e24, mR_uI]; exact e14
  have e20 : mR M23 a0 60 = some q19 := by rw [← e24, mR_uI]; exact e20
  refine lv_aload_n hx hb dX12_tells_43 rfl (lv_at hl 0 rfl) ?_
  refine lv_dup hx hb dX12_tells_44 rfl ?_
  refine gfX12_290 C hw hw.2.2.1 h0 dX12_tells_45 ?_
  refine lv_iconst (v := 1) hx hb dX12_tells_48 (by decide) ?_
  refine lv_iadd hx hb dX12_tells_49 ?_
  refine pfX12_290 C hw hw.2.2.1 h0 dX12_tells_50 (fun H locs hw => ?_)
  generalize e26 : uI M23 a0 49 ((mI M23 a0 49) + 1) = M25 at hw
  replace hq := hq M25 e26.symm
  have e2 : mR M25 a0 56 = some q1 := by rw [← e26, mR_uI]; exact e2
  have e8 : mR M25 a0 57 = some q7 := by rw [← e26, mR_uI]; exact e8
  have e14 : mR M25 a0 58 = some q13 := by rw [← e26, mR_uI]; exact e14
  have e20 : mR M25 a0 60 = some q19 := by rw [← e26, mR_uI]; exact e20
  refine lv_aload_n hx hb dX12_tells_53 rfl (lv_at hl 0 rfl) ?_
  refine r_callV (T := TX12) (N := 67) (ci := 12) (index := 293) (n := 0) (d2 := 3) (mc := 0) (ms := 0) (As := []) (rest := []) C hw (ct_X12_through hq) kvX12_293 hq.1 (by decide) rfl ⟨by decide, by decide⟩ ⟨by decide, by decide⟩ rfl hl.1 rfl (Nat.le_of_ble_eq_true rfl) dX12_tells_54 (fun r M28 H locs hp hle hw => ?_)
  obtain ⟨rfl, hq⟩ := hp
  refine W.eq (g2 := F0 m 57 ls []) rfl ?_
  exact r_vret C hr hlk hw dX12_tells_57 (Nat.le_refl _) (Nat.le_refl _) ⟨rfl, hq⟩

set_option maxRecDepth 100000 in
def lb_X12_answer_45  (g : Gh) (M0 : Mem) (a0 : Nat) (p1 : Int32) (post : Int32 → Mem → Prop)   (s0 : Int32) (M : Mem) : Prop :=
  wp_X12_tells g M a0 0 p1 s0 (fun M2 => ((s0 = 0) → post 0 M2) ∧ (¬ (s0 = 0) → post 1 M2))
set_option maxRecDepth 100000 in
def wp_X12_answer  (g : Gh) (M0 : Mem) (a0 : Nat) (p1 : Int32) (post : Int32 → Mem → Prop) : Prop :=
  okc (gB g) M0 a0 12 ∧ (∀ M4, M4 = uI M0 a0 0 0 → (wp_X12_readAnswer g M4 a0 (fun v6 M7 => wp_X12_canCome g M7 a0 p1 (fun v8 M9 => ((v8 = 0) → post (-1) M9) ∧ (¬ (v8 = 0) → ((v6 = 0) → lb_X12_answer_45  g M0 a0 p1 post  0 M9) ∧ (¬ (v6 = 0) → ∃ q12, mR M9 a0 41 = some q12 ∧ (okc (gB g) M0 q12 14 ∧ (vp_in (mI M9 a0 50) (mN M0 q12) ∧ (wp_X12_isTaken g M9 a0 (mI M9 q12 (Int32.toNatClampNeg (mI M9 a0 50))) (fun v16 M17 => ((v16 = 0) → lb_X12_answer_45  g M0 a0 p1 post  0 M17) ∧ (¬ (v16 = 0) → lb_X12_answer_45  g M0 a0 p1 post  1 M17)))))))))))
set_option maxHeartbeats 4000000 in
set_option maxRecDepth 100000 in
theorem lt_X12_answer_45 {l : Launch} {g : Gh} {p : Program} {e : Env} {s : State} {m : MethodId} {args : Array Value} {below : List Frame} {meth : Method} {c : Code} {H : Heap} {locs : List Loc} {ls : Array Slot} {M0 M : Mem} {a0 : Nat} {p1 : Int32} {post : Int32 → Mem → Prop}  {s0 : Int32}  (C : Cx g p s m args c cX12_answer 3 RX12) (hr : meth.sig.returnType = (some .int)) (hlk : meth.locks = false) (hn : meth.name = "answer") (h0 : okc (gB g) M0 a0 12)  (hq : lb_X12_answer_45  g M0 a0 p1 post  s0 M) (hw : Wd g s M0 M H locs) (hl : lv_has ls 3 [(0, .ref a0), (1, .int p1)]) : W p l e (rmo 514 0 0) s m args below meth c H locs 0 0 (MQ below (Cq g M0 (pI post)) args s 0 0 (gA g)) (F0 m 45 ls [.int s0]) := by
  have hx := C.1.1
  have hb := C.1.2.1
  unfold lb_X12_answer_45 at hq
  refine lv_istore_n (lv' := [(2, .int s0), (0, .ref a0), (1, .int p1)]) hx hb dX12_answer_45 rfl hl (by decide) rfl (fun ls hl => ?_)
  refine lv_aload_n hx hb dX12_answer_46 rfl (lv_at hl 1 rfl) ?_
  refine lv_iconst (v := 0) hx hb dX12_answer_47 (by decide) ?_
  refine lv_iload_n hx hb dX12_answer_48 rfl (lv_at hl 2 rfl) ?_
  refine lv_iload_n hx hb dX12_answer_49 rfl (lv_at hl 0 rfl) ?_
  refine r_callV (T := TX12) (N := 67) (ci := 12) (index := 327) (n := 3) (d2 := 4) (mc := 0) (ms := 0) (As := [.int 0, .int p1, .int s0]) (rest := []) C hw (ct_X12_tells hq) kvX12_327 hq.1 (by decide) rfl ⟨by decide, by decide⟩ ⟨by decide, by decide⟩ rfl hl.1 rfl (Nat.le_of_ble_eq_true rfl) dX12_answer_50 (fun r M2 H locs hp hle hw => ?_)
  obtain ⟨rfl, hq⟩ := hp
  refine W.eq (g2 := F0 m 53 ls []) rfl ?_
  refine lv_iload_n hx hb dX12_answer_53 rfl (lv_at hl 0 rfl) ?_
  refine lv_if_eq (tgt := 61) hx hb dX12_answer_54 (by decide) (fun c3 => ?_) (fun c3 => ?_)
  · replace hq := hq.1 c3
    refine lv_iconst (v := 0) hx hb dX12_answer_61 (by decide) ?_
    exact r_iret C hr hlk hw dX12_answer_62 (Nat.le_refl _) (Nat.le_refl _) ⟨_, rfl, hq⟩
  · replace hq := hq.2 c3
    refine lv_iconst (v := 1) hx hb dX12_answer_57 (by decide) ?_
    refine lv_goto (tgt := 62) hx hb dX12_answer_58 (by decide) ?_
    exact r_iret C hr hlk hw dX12_answer_62 (Nat.le_refl _) (Nat.le_refl _) ⟨_, rfl, hq⟩
set_option maxHeartbeats 4000000 in
set_option maxRecDepth 100000 in
theorem ct_X12_answer {l : Launch} {g : Gh} {M0 : Mem} {a0 : Nat} {p1 : Int32} {post : Int32 → Mem → Prop}  (hq : wp_X12_answer  g M0 a0 p1 post) : Ct l g yX12_answer cX12_answer 3 (some .int) 514 0 0 [.ref a0, .int p1] M0 (pI post) := by
  unfold wp_X12_answer at hq
  obtain ⟨h0, hq⟩ := hq
  refine Ct.of (by decide) (Nat.le_of_ble_eq_true rfl) ?_
  intro p e s m below meth c ls C hr hlk hn hl hw
  have hx := C.1.1
  have hb := C.1.2.1
  have hl : lv_has ls 3 [(0, .ref a0), (1, .int p1)] := hl
  refine lv_aload_n hx hb dX12_answer_0 rfl (lv_at hl 0 rfl) ?_
  refine lv_iconst (v := 0) hx hb dX12_answer_1 (by decide) ?_
  refine pfX12_123 C hw hw.2.2.1 h0 dX12_answer_2 (fun H locs hw => ?_)
  generalize e5 : uI M0 a0 0 0 = M4 at hw
  replace hq := hq M4 e5.symm
  refine lv_aload_n hx hb dX12_answer_5 rfl (lv_at hl 0 rfl) ?_
  refine r_callV (T := TX12) (N := 67) (ci := 12) (index := 238) (n := 0) (d2 := 2) (mc := 0) (ms := 0) (As := []) (rest := []) C hw (ct_X12_readAnswer hq) kvX12_238 hq.1 (by decide) rfl ⟨by decide, by decide⟩ ⟨by decide, by decide⟩ rfl hl.1 rfl (Nat.le_of_ble_eq_true rfl) dX12_answer_6 (fun r M7 H locs hp hle hw => ?_)
  obtain ⟨v6, rfl, hq⟩ := hp
  refine W.eq (g2 := F0 m 9 ls [.int v6]) rfl ?_
  refine lv_istore_n (lv' := [(2, .int v6), (0, .ref a0), (1, .int p1)]) hx hb dX12_answer_9 rfl hl (by decide) rfl (fun ls hl => ?_)
  refine lv_aload_n hx hb dX12_answer_10 rfl (lv_at hl 1 rfl) ?_
  refine lv_iload_n hx hb dX12_answer_11 rfl (lv_at hl 2 rfl) ?_
  refine r_callV (T := TX12) (N := 67) (ci := 12) (index := 324) (n := 1) (d2 := 0) (mc := 0) (ms := 0) (As := [.int p1]) (rest := []) C hw (ct_X12_canCome hq) kvX12_324 hq.1 (by decide) rfl ⟨by decide, by decide⟩ ⟨by decide, by decide⟩ rfl hl.1 rfl (Nat.le_of_ble_eq_true rfl) dX12_answer_12 (fun r M9 H locs hp hle hw => ?_)
  obtain ⟨v8, rfl, hq⟩ := hp
  refine W.eq (g2 := F0 m 15 ls [.int v8]) rfl ?_
  refine lv_if_ne (tgt := 20) hx hb dX12_answer_15 (by decide) (fun c10 => ?_) (fun c10 => ?_)
  · replace hq := hq.2 c10
    refine lv_iload_n hx hb dX12_answer_20 rfl (lv_at hl 0 rfl) ?_
    refine lv_if_eq (tgt := 44) hx hb dX12_answer_21 (by decide) (fun c11 => ?_) (fun c11 => ?_)
    · replace hq := hq.1 c11
      refine lv_iconst (v := 0) hx hb dX12_answer_44 (by decide) ?_
      exact lt_X12_answer_45  C hr hlk hn h0  hq hw (lv_sub hl [1, 2] rfl)
    · replace hq := hq.2 c11
      refine lv_aload_n hx hb dX12_answer_24 rfl (lv_at hl 1 rfl) ?_
      refine lv_aload_n hx hb dX12_answer_25 rfl (lv_at hl 1 rfl) ?_
      obtain ⟨q12, e13, hq⟩ := hq
      refine gfX12_84 C hw hw.2.2.1 h0 e13 dX12_answer_26 ?_
      refine lv_aload_n hx hb dX12_answer_29 rfl (lv_at hl 1 rfl) ?_
      refine gfX12_296 C hw hw.2.2.1 h0 dX12_answer_30 ?_
      obtain ⟨h14, hq⟩ := hq
      obtain ⟨h15, hq⟩ := hq
      refine q_iald C hw hw.2.2.1 h14 h15 dX12_answer_33 ?_
      refine r_callV (T := TX12) (N := 67) (ci := 12) (index := 244) (n := 1) (d2 := 513) (mc := 0) (ms := 0) (As := [.int (mI M9 q12 (Int32.toNatClampNeg (mI M9 a0 50)))]) (rest := []) C hw (ct_X12_isTaken hq) kvX12_244 hq.1 (by decide) rfl ⟨by decide, by decide⟩ ⟨by decide, by decide⟩ rfl hl.1 rfl (Nat.le_of_ble_eq_true rfl) dX12_answer_34 (fun r M17 H locs hp hle hw => ?_)
      obtain ⟨v16, rfl, hq⟩ := hp
      refine W.eq (g2 := F0 m 37 ls [.int v16]) rfl ?_
      refine lv_if_eq (tgt := 44) hx hb dX12_answer_37 (by decide) (fun c18 => ?_) (fun c18 => ?_)
      · replace hq := hq.1 c18
        refine lv_iconst (v := 0) hx hb dX12_answer_44 (by decide) ?_
        exact lt_X12_answer_45  C hr hlk hn h0  hq hw (lv_sub hl [1, 2] rfl)
      · replace hq := hq.2 c18
        refine lv_iconst (v := 1) hx hb dX12_answer_40 (by decide) ?_
        refine lv_goto (tgt := 45) hx hb dX12_answer_41 (by decide) ?_
        exact lt_X12_answer_45  C hr hlk hn h0  hq hw (lv_sub hl [1, 2] rfl)
  · replace hq := hq.1 c10
    refine lv_iconst (v := (-1)) hx hb dX12_answer_18 (by decide) ?_
    exact r_iret C hr hlk hw dX12_answer_19 (Nat.le_refl _) (Nat.le_refl _) ⟨_, rfl, hq⟩

set_option maxRecDepth 100000 in
def wp_X12_nothing  (g : Gh) (M0 : Mem) (a0 : Nat) (p1 : Int32) (post : Int32 → Mem → Prop) : Prop :=
  okc (gB g) M0 a0 12 ∧ (∀ M1, M1 = uI M0 a0 0 0 → (wp_X12_canCome g M1 a0 p1 (fun v3 M4 => ((v3 = 0) → post 0 M4) ∧ (¬ (v3 = 0) → ∃ q6, mR M4 a0 33 = some q6 ∧ (wp_X12_roundOf g M4 a0 (mI M4 a0 50) (fun v8 M9 => okc (gB g) M0 q6 17 ∧ (vp_in v8 (mN M0 q6) ∧ ((((mI M9 q6 (Int32.toNatClampNeg v8)) = 0) → wp_X12_tells g M9 a0 1 p1 0 (fun M14 => post 1 M14)) ∧ (¬ ((mI M9 q6 (Int32.toNatClampNeg v8)) = 0) → post 0 M9)))))))))
set_option maxHeartbeats 4000000 in
set_option maxRecDepth 100000 in
theorem ct_X12_nothing {l : Launch} {g : Gh} {M0 : Mem} {a0 : Nat} {p1 : Int32} {post : Int32 → Mem → Prop}  (hq : wp_X12_nothing  g M0 a0 p1 post) : Ct l g yX12_nothing cX12_nothing 2 (some .boolean) 5 0 0 [.ref a0, .int p1] M0 (pI post) := by
  unfold wp_X12_nothing at hq
  obtain ⟨h0, hq⟩ := hq
  refine Ct.of (by decide) (Nat.le_of_ble_eq_true rfl) ?_
  intro p e s m below meth c ls C hr hlk hn hl hw
  have hx := C.1.1
  have hb := C.1.2.1
  have hl : lv_has ls 2 [(0, .ref a0), (1, .int p1)] := hl
  refine lv_aload_n hx hb dX12_nothing_0 rfl (lv_at hl 0 rfl) ?_
  refine lv_iconst (v := 0) hx hb dX12_nothing_1 (by decide) ?_
  refine pfX12_123 C hw hw.2.2.1 h0 dX12_nothing_2 (fun H locs hw => ?_)
  generalize e2 : uI M0 a0 0 0 = M1 at hw
  replace hq := hq M1 e2.symm
  refine lv_aload_n hx hb dX12_nothing_5 rfl (lv_at hl 0 rfl) ?_
  refine lv_iload_n hx hb dX12_nothing_6 rfl (lv_at hl 1 rfl) ?_
  refine r_callV (T := TX12) (N := 67) (ci := 12) (index := 324) (n := 1) (d2 := 0) (mc := 0) (ms := 0) (As := [.int p1]) (rest := []) C hw (ct_X12_canCome hq) kvX12_324 hq.1 (by decide) rfl ⟨by decide, by decide⟩ ⟨by decide, by decide⟩ rfl hl.1 rfl (Nat.le_of_ble_eq_true rfl) dX12_nothing_7 (fun r M4 H locs hp hle hw => ?_)
  obtain ⟨v3, rfl, hq⟩ := hp
  refine W.eq (g2 := F0 m 10 ls [.int v3]) rfl ?_
  refine lv_if_eq (tgt := 29) hx hb dX12_nothing_10 (by decide) (fun c5 => ?_) (fun c5 => ?_)
  · replace hq := hq.1 c5
    refine lv_iconst (v := 0) hx hb dX12_nothing_29 (by decide) ?_
    exact r_zret C hr hlk hw dX12_nothing_30 (Nat.le_refl _) (Nat.le_refl _) (by decide) ⟨_, rfl, hq⟩
  · replace hq := hq.2 c5
    refine lv_aload_n hx hb dX12_nothing_13 rfl (lv_at hl 0 rfl) ?_
    obtain ⟨q6, e7, hq⟩ := hq
    refine gfX12_66 C hw hw.2.2.1 h0 e7 dX12_nothing_14 ?_
    refine lv_aload_n hx hb dX12_nothing_17 rfl (lv_at hl 0 rfl) ?_
    refine lv_aload_n hx hb dX12_nothing_18 rfl (lv_at hl 0 rfl) ?_
    refine gfX12_296 C hw hw.2.2.1 h0 dX12_nothing_19 ?_
    refine r_callV (T := TX12) (N := 67) (ci := 12) (index := 302) (n := 1) (d2 := 0) (mc := 0) (ms := 0) (As := [.int (mI M4 a0 50)]) (rest := [.ref q6]) C hw (ct_X12_roundOf hq) kvX12_302 hq.1 (by decide) rfl ⟨by decide, by decide⟩ ⟨by decide, by decide⟩ rfl hl.1 rfl (Nat.le_of_ble_eq_true rfl) dX12_nothing_22 (fun r M9 H locs hp hle hw => ?_)
    obtain ⟨v8, rfl, hq⟩ := hp
    refine W.eq (g2 := F0 m 25 ls [.int v8, .ref q6]) rfl ?_
    obtain ⟨h10, hq⟩ := hq
    obtain ⟨h11, hq⟩ := hq
    refine q_zald C hw hw.2.2.1 h10 h11 dX12_nothing_25 ?_
    refine lv_if_eq (tgt := 31) hx hb dX12_nothing_26 (by decide) (fun c12 => ?_) (fun c12 => ?_)
    · replace hq := hq.1 c12
      refine lv_aload_n hx hb dX12_nothing_31 rfl (lv_at hl 0 rfl) ?_
      refine lv_iconst (v := 1) hx hb dX12_nothing_32 (by decide) ?_
      refine lv_iload_n hx hb dX12_nothing_33 rfl (lv_at hl 1 rfl) ?_
      refine lv_iconst (v := 0) hx hb dX12_nothing_34 (by decide) ?_
      refine r_callV (T := TX12) (N := 67) (ci := 12) (index := 327) (n := 3) (d2 := 4) (mc := 0) (ms := 0) (As := [.int 1, .int p1, .int 0]) (rest := []) C hw (ct_X12_tells hq) kvX12_327 hq.1 (by decide) rfl ⟨by decide, by decide⟩ ⟨by decide, by decide⟩ rfl hl.1 rfl (Nat.le_of_ble_eq_true rfl) dX12_nothing_35 (fun r M14 H locs hp hle hw => ?_)
      obtain ⟨rfl, hq⟩ := hp
      refine W.eq (g2 := F0 m 38 ls []) rfl ?_
      refine lv_iconst (v := 1) hx hb dX12_nothing_38 (by decide) ?_
      exact r_zret C hr hlk hw dX12_nothing_39 (Nat.le_refl _) (Nat.le_refl _) (by decide) ⟨_, rfl, hq⟩
    · replace hq := hq.2 c12
      refine lv_iconst (v := 0) hx hb dX12_nothing_29 (by decide) ?_
      exact r_zret C hr hlk hw dX12_nothing_30 (Nat.le_refl _) (Nat.le_refl _) (by decide) ⟨_, rfl, hq⟩

set_option maxRecDepth 100000 in
def wp_X12_dead  (g : Gh) (M0 : Mem) (a0 : Nat) (post : Int32 → Mem → Prop) : Prop :=
  okc (gB g) M0 a0 12 ∧ (∀ M1, M1 = uI M0 a0 0 0 → ((((mI M1 a0 48) = 0) → post 0 M1) ∧ (¬ ((mI M1 a0 48) = 0) → (((mI M1 a0 51) = 3) → post 0 M1) ∧ (¬ ((mI M1 a0 51) = 3) → (((mI M1 a0 49) = 120) → post 0 M1) ∧ (¬ ((mI M1 a0 49) = 120) → ∃ q6, mR M1 a0 33 = some q6 ∧ (wp_X12_roundOf g M1 a0 (mI M1 a0 50) (fun v8 M9 => okc (gB g) M0 q6 17 ∧ (vp_in v8 (mN M0 q6) ∧ ((((mI M9 q6 (Int32.toNatClampNeg v8)) = 0) → post 0 M9) ∧ (¬ ((mI M9 q6 (Int32.toNatClampNeg v8)) = 0) → wp_X12_tells g M9 a0 2 (-1) 0 (fun M14 => post 1 M14)))))))))))
set_option maxHeartbeats 4000000 in
set_option maxRecDepth 100000 in
theorem ct_X12_dead {l : Launch} {g : Gh} {M0 : Mem} {a0 : Nat} {post : Int32 → Mem → Prop}  (hq : wp_X12_dead  g M0 a0 post) : Ct l g yX12_dead cX12_dead 1 (some .boolean) 5 0 0 [.ref a0] M0 (pI post) := by
  unfold wp_X12_dead at hq
  obtain ⟨h0, hq⟩ := hq
  refine Ct.of (by decide) (Nat.le_of_ble_eq_true rfl) ?_
  intro p e s m below meth c ls C hr hlk hn hl hw
  have hx := C.1.1
  have hb := C.1.2.1
  have hl : lv_has ls 1 [(0, .ref a0)] := hl
  refine lv_aload_n hx hb dX12_dead_0 rfl (lv_at hl 0 rfl) ?_
  refine lv_iconst (v := 0) hx hb dX12_dead_1 (by decide) ?_
  refine pfX12_123 C hw hw.2.2.1 h0 dX12_dead_2 (fun H locs hw => ?_)
  generalize e2 : uI M0 a0 0 0 = M1 at hw
  replace hq := hq M1 e2.symm
  refine lv_aload_n hx hb dX12_dead_5 rfl (lv_at hl 0 rfl) ?_
  refine gfX12_247 C hw hw.2.2.1 h0 dX12_dead_6 ?_
  refine lv_if_eq (tgt := 45) hx hb dX12_dead_9 (by decide) (fun c3 => ?_) (fun c3 => ?_)
  · replace hq := hq.1 c3
    refine lv_iconst (v := 0) hx hb dX12_dead_45 (by decide) ?_
    exact r_zret C hr hlk hw dX12_dead_46 (Nat.le_refl _) (Nat.le_refl _) (by decide) ⟨_, rfl, hq⟩
  · replace hq := hq.2 c3
    refine lv_aload_n hx hb dX12_dead_12 rfl (lv_at hl 0 rfl) ?_
    refine gfX12_305 C hw hw.2.2.1 h0 dX12_dead_13 ?_
    refine lv_iconst (v := 3) hx hb dX12_dead_16 (by decide) ?_
    refine lv_icmp_eq (tgt := 45) hx hb dX12_dead_17 (by decide) (fun c4 => ?_) (fun c4 => ?_)
    · replace hq := hq.1 c4
      refine lv_iconst (v := 0) hx hb dX12_dead_45 (by decide) ?_
      exact r_zret C hr hlk hw dX12_dead_46 (Nat.le_refl _) (Nat.le_refl _) (by decide) ⟨_, rfl, hq⟩
    · replace hq := hq.2 c4
      refine lv_aload_n hx hb dX12_dead_20 rfl (lv_at hl 0 rfl) ?_
      refine gfX12_290 C hw hw.2.2.1 h0 dX12_dead_21 ?_
      refine lv_bipush (v := 120) hx hb dX12_dead_24 (by decide) ?_
      refine lv_icmp_eq (tgt := 45) hx hb dX12_dead_26 (by decide) (fun c5 => ?_) (fun c5 => ?_)
      · replace hq := hq.1 c5
        refine lv_iconst (v := 0) hx hb dX12_dead_45 (by decide) ?_
        exact r_zret C hr hlk hw dX12_dead_46 (Nat.le_refl _) (Nat.le_refl _) (by decide) ⟨_, rfl, hq⟩
      · replace hq := hq.2 c5
        refine lv_aload_n hx hb dX12_dead_29 rfl (lv_at hl 0 rfl) ?_
        obtain ⟨q6, e7, hq⟩ := hq
        refine gfX12_66 C hw hw.2.2.1 h0 e7 dX12_dead_30 ?_
        refine lv_aload_n hx hb dX12_dead_33 rfl (lv_at hl 0 rfl) ?_
        refine lv_aload_n hx hb dX12_dead_34 rfl (lv_at hl 0 rfl) ?_
        refine gfX12_296 C hw hw.2.2.1 h0 dX12_dead_35 ?_
        refine r_callV (T := TX12) (N := 67) (ci := 12) (index := 302) (n := 1) (d2 := 0) (mc := 0) (ms := 0) (As := [.int (mI M1 a0 50)]) (rest := [.ref q6]) C hw (ct_X12_roundOf hq) kvX12_302 hq.1 (by decide) rfl ⟨by decide, by decide⟩ ⟨by decide, by decide⟩ rfl hl.1 rfl (Nat.le_of_ble_eq_true rfl) dX12_dead_38 (fun r M9 H locs hp hle hw => ?_)
        obtain ⟨v8, rfl, hq⟩ := hp
        refine W.eq (g2 := F0 m 41 ls [.int v8, .ref q6]) rfl ?_
        obtain ⟨h10, hq⟩ := hq
        obtain ⟨h11, hq⟩ := hq
        refine q_zald C hw hw.2.2.1 h10 h11 dX12_dead_41 ?_
        refine lv_if_ne (tgt := 47) hx hb dX12_dead_42 (by decide) (fun c12 => ?_) (fun c12 => ?_)
        · replace hq := hq.2 c12
          refine lv_aload_n hx hb dX12_dead_47 rfl (lv_at hl 0 rfl) ?_
          refine lv_iconst (v := 2) hx hb dX12_dead_48 (by decide) ?_
          refine lv_iconst (v := (-1)) hx hb dX12_dead_49 (by decide) ?_
          refine lv_iconst (v := 0) hx hb dX12_dead_50 (by decide) ?_
          refine r_callV (T := TX12) (N := 67) (ci := 12) (index := 327) (n := 3) (d2 := 4) (mc := 0) (ms := 0) (As := [.int 2, .int (-1), .int 0]) (rest := []) C hw (ct_X12_tells hq) kvX12_327 hq.1 (by decide) rfl ⟨by decide, by decide⟩ ⟨by decide, by decide⟩ rfl hl.1 rfl (Nat.le_of_ble_eq_true rfl) dX12_dead_51 (fun r M14 H locs hp hle hw => ?_)
          obtain ⟨rfl, hq⟩ := hp
          refine W.eq (g2 := F0 m 54 ls []) rfl ?_
          refine lv_iconst (v := 1) hx hb dX12_dead_54 (by decide) ?_
          exact r_zret C hr hlk hw dX12_dead_55 (Nat.le_refl _) (Nat.le_refl _) (by decide) ⟨_, rfl, hq⟩
        · replace hq := hq.1 c12
          refine lv_iconst (v := 0) hx hb dX12_dead_45 (by decide) ?_
          exact r_zret C hr hlk hw dX12_dead_46 (Nat.le_refl _) (Nat.le_refl _) (by decide) ⟨_, rfl, hq⟩

set_option maxRecDepth 100000 in
def wp_X12_appeal  (g : Gh) (M0 : Mem) (a0 : Nat) (p1 : Int32) (p2 : Int32) (post : Int32 → Mem → Prop) : Prop :=
  okc (gB g) M0 a0 12 ∧ (∀ M1, M1 = uI M0 a0 0 0 → ((((mI M1 a0 48) = 0) → post 0 M1) ∧ (¬ ((mI M1 a0 48) = 0) → ((p1 < 0) → post 0 M1) ∧ (¬ (p1 < 0) → (((mI M1 a0 49) ≤ p1) → post 0 M1) ∧ (¬ ((mI M1 a0 49) ≤ p1) → ∃ q6, mR M1 a0 57 = some q6 ∧ (okc (gB g) M0 q6 14 ∧ (vp_in p1 (mN M0 q6) ∧ (((0 < (mI M1 q6 (Int32.toNatClampNeg p1))) → post 0 M1) ∧ (¬ (0 < (mI M1 q6 (Int32.toNatClampNeg p1))) → ∃ q11, mR M1 a0 60 = some q11 ∧ (okc (gB g) M0 q11 17 ∧ (vp_in p1 (mN M0 q11) ∧ ((((mI M1 q11 (Int32.toNatClampNeg p1)) = p2) → post 0 M1) ∧ (¬ ((mI M1 q11 (Int32.toNatClampNeg p1)) = p2) → ∀ M16, M16 = uI M1 q11 (Int32.toNatClampNeg p1) (vp_nar .boolean p2) → (wp_X12_through g M16 a0 (fun M19 => post 1 M19)))))))))))))))
set_option maxHeartbeats 4000000 in
set_option maxRecDepth 100000 in
theorem ct_X12_appeal {l : Launch} {g : Gh} {M0 : Mem} {a0 : Nat} {p1 : Int32} {p2 : Int32} {post : Int32 → Mem → Prop}  (hq : wp_X12_appeal  g M0 a0 p1 p2 post) : Ct l g yX12_appeal cX12_appeal 3 (some .boolean) 4 0 0 [.ref a0, .int p1, .int p2] M0 (pI post) := by
  unfold wp_X12_appeal at hq
  obtain ⟨h0, hq⟩ := hq
  refine Ct.of (by decide) (Nat.le_of_ble_eq_true rfl) ?_
  intro p e s m below meth c ls C hr hlk hn hl hw
  have hx := C.1.1
  have hb := C.1.2.1
  have hl : lv_has ls 3 [(0, .ref a0), (1, .int p1), (2, .int p2)] := hl
  refine lv_aload_n hx hb dX12_appeal_0 rfl (lv_at hl 0 rfl) ?_
  refine lv_iconst (v := 0) hx hb dX12_appeal_1 (by decide) ?_
  refine pfX12_123 C hw hw.2.2.1 h0 dX12_appeal_2 (fun H locs hw => ?_)
  generalize e2 : uI M0 a0 0 0 = M1 at hw
  replace hq := hq M1 e2.symm
  refine lv_aload_n hx hb dX12_appeal_5 rfl (lv_at hl 0 rfl) ?_
  refine gfX12_247 C hw hw.2.2.1 h0 dX12_appeal_6 ?_
  refine lv_if_eq (tgt := 43) hx hb dX12_appeal_9 (by decide) (fun c3 => ?_) (fun c3 => ?_)
  · replace hq := hq.1 c3
    refine lv_iconst (v := 0) hx hb dX12_appeal_43 (by decide) ?_
    exact r_zret C hr hlk hw dX12_appeal_44 (Nat.le_refl _) (Nat.le_refl _) (by decide) ⟨_, rfl, hq⟩
  · replace hq := hq.2 c3
    refine lv_iload_n hx hb dX12_appeal_12 rfl (lv_at hl 1 rfl) ?_
    refine lv_if_lt (tgt := 43) hx hb dX12_appeal_13 (by decide) (fun c4 => ?_) (fun c4 => ?_)
    · replace hq := hq.1 c4
      refine lv_iconst (v := 0) hx hb dX12_appeal_43 (by decide) ?_
      exact r_zret C hr hlk hw dX12_appeal_44 (Nat.le_refl _) (Nat.le_refl _) (by decide) ⟨_, rfl, hq⟩
    · replace hq := hq.2 c4
      refine lv_iload_n hx hb dX12_appeal_16 rfl (lv_at hl 1 rfl) ?_
      refine lv_aload_n hx hb dX12_appeal_17 rfl (lv_at hl 0 rfl) ?_
      refine gfX12_290 C hw hw.2.2.1 h0 dX12_appeal_18 ?_
      refine lv_icmp_ge (tgt := 43) hx hb dX12_appeal_21 (by decide) (fun c5 => ?_) (fun c5 => ?_)
      · replace hq := hq.1 c5
        refine lv_iconst (v := 0) hx hb dX12_appeal_43 (by decide) ?_
        exact r_zret C hr hlk hw dX12_appeal_44 (Nat.le_refl _) (Nat.le_refl _) (by decide) ⟨_, rfl, hq⟩
      · replace hq := hq.2 c5
        refine lv_aload_n hx hb dX12_appeal_24 rfl (lv_at hl 0 rfl) ?_
        obtain ⟨q6, e7, hq⟩ := hq
        refine gfX12_96 C hw hw.2.2.1 h0 e7 dX12_appeal_25 ?_
        refine lv_iload_n hx hb dX12_appeal_28 rfl (lv_at hl 1 rfl) ?_
        obtain ⟨h8, hq⟩ := hq
        obtain ⟨h9, hq⟩ := hq
        refine q_iald C hw hw.2.2.1 h8 h9 dX12_appeal_29 ?_
        refine lv_if_gt (tgt := 43) hx hb dX12_appeal_30 (by decide) (fun c10 => ?_) (fun c10 => ?_)
        · replace hq := hq.1 c10
          refine lv_iconst (v := 0) hx hb dX12_appeal_43 (by decide) ?_
          exact r_zret C hr hlk hw dX12_appeal_44 (Nat.le_refl _) (Nat.le_refl _) (by decide) ⟨_, rfl, hq⟩
        · replace hq := hq.2 c10
          refine lv_aload_n hx hb dX12_appeal_33 rfl (lv_at hl 0 rfl) ?_
          obtain ⟨q11, e12, hq⟩ := hq
          refine gfX12_105 C hw hw.2.2.1 h0 e12 dX12_appeal_34 ?_
          refine lv_iload_n hx hb dX12_appeal_37 rfl (lv_at hl 1 rfl) ?_
          obtain ⟨h13, hq⟩ := hq
          obtain ⟨h14, hq⟩ := hq
          refine q_zald C hw hw.2.2.1 h13 h14 dX12_appeal_38 ?_
          refine lv_iload_n hx hb dX12_appeal_39 rfl (lv_at hl 2 rfl) ?_
          refine lv_icmp_ne (tgt := 45) hx hb dX12_appeal_40 (by decide) (fun c15 => ?_) (fun c15 => ?_)
          · replace hq := hq.2 c15
            refine lv_aload_n hx hb dX12_appeal_45 rfl (lv_at hl 0 rfl) ?_
            refine gfX12_105 C hw hw.2.2.1 h0 e12 dX12_appeal_46 ?_
            refine lv_iload_n hx hb dX12_appeal_49 rfl (lv_at hl 1 rfl) ?_
            refine lv_iload_n hx hb dX12_appeal_50 rfl (lv_at hl 2 rfl) ?_
            refine q_zast C hw hw.2.2.1 h13 h14 dX12_appeal_51 (fun H locs hw => ?_)
            generalize e17 : uI M1 q11 (Int32.toNatClampNeg p1) (vp_nar .boolean p2) = M16 at hw
            replace hq := hq M16 e17.symm
            have e7 : mR M16 a0 57 = some q6 := by rw [← e17, mR_uI]; exact e7
            have e12 : mR M16 a0 60 = some q11 := by rw [← e17, mR_uI]; exact e12
            refine lv_aload_n hx hb dX12_appeal_52 rfl (lv_at hl 0 rfl) ?_
            refine r_callV (T := TX12) (N := 67) (ci := 12) (index := 293) (n := 0) (d2 := 3) (mc := 0) (ms := 0) (As := []) (rest := []) C hw (ct_X12_through hq) kvX12_293 hq.1 (by decide) rfl ⟨by decide, by decide⟩ ⟨by decide, by decide⟩ rfl hl.1 rfl (Nat.le_of_ble_eq_true rfl) dX12_appeal_53 (fun r M19 H locs hp hle hw => ?_)
            obtain ⟨rfl, hq⟩ := hp
            refine W.eq (g2 := F0 m 56 ls []) rfl ?_
            refine lv_iconst (v := 1) hx hb dX12_appeal_56 (by decide) ?_
            exact r_zret C hr hlk hw dX12_appeal_57 (Nat.le_refl _) (Nat.le_refl _) (by decide) ⟨_, rfl, hq⟩
          · replace hq := hq.1 c15
            refine lv_iconst (v := 0) hx hb dX12_appeal_43 (by decide) ?_
            exact r_zret C hr hlk hw dX12_appeal_44 (Nat.le_refl _) (Nat.le_refl _) (by decide) ⟨_, rfl, hq⟩

set_option maxRecDepth 100000 in
def wp_X12_undo  (g : Gh) (M0 : Mem) (a0 : Nat) (post : Int32 → Mem → Prop) : Prop :=
  okc (gB g) M0 a0 12 ∧ (∀ M1, M1 = uI M0 a0 0 0 → ((((mI M1 a0 48) = 0) → post 0 M1) ∧ (¬ ((mI M1 a0 48) = 0) → (((mI M1 a0 49) = 0) → post 0 M1) ∧ (¬ ((mI M1 a0 49) = 0) → ∀ M5, M5 = uI M1 a0 49 ((mI M1 a0 49) - 1) → (wp_X12_through g M5 a0 (fun M8 => post 1 M8))))))
set_option maxHeartbeats 4000000 in
set_option maxRecDepth 100000 in
theorem ct_X12_undo {l : Launch} {g : Gh} {M0 : Mem} {a0 : Nat} {post : Int32 → Mem → Prop}  (hq : wp_X12_undo  g M0 a0 post) : Ct l g yX12_undo cX12_undo 1 (some .boolean) 4 0 0 [.ref a0] M0 (pI post) := by
  unfold wp_X12_undo at hq
  obtain ⟨h0, hq⟩ := hq
  refine Ct.of (by decide) (Nat.le_of_ble_eq_true rfl) ?_
  intro p e s m below meth c ls C hr hlk hn hl hw
  have hx := C.1.1
  have hb := C.1.2.1
  have hl : lv_has ls 1 [(0, .ref a0)] := hl
  refine lv_aload_n hx hb dX12_undo_0 rfl (lv_at hl 0 rfl) ?_
  refine lv_iconst (v := 0) hx hb dX12_undo_1 (by decide) ?_
  refine pfX12_123 C hw hw.2.2.1 h0 dX12_undo_2 (fun H locs hw => ?_)
  generalize e2 : uI M0 a0 0 0 = M1 at hw
  replace hq := hq M1 e2.symm
  refine lv_aload_n hx hb dX12_undo_5 rfl (lv_at hl 0 rfl) ?_
  refine gfX12_247 C hw hw.2.2.1 h0 dX12_undo_6 ?_
  refine lv_if_eq (tgt := 19) hx hb dX12_undo_9 (by decide) (fun c3 => ?_) (fun c3 => ?_)
  · replace hq := hq.1 c3
    refine lv_iconst (v := 0) hx hb dX12_undo_19 (by decide) ?_
    exact r_zret C hr hlk hw dX12_undo_20 (Nat.le_refl _) (Nat.le_refl _) (by decide) ⟨_, rfl, hq⟩
  · replace hq := hq.2 c3
    refine lv_aload_n hx hb dX12_undo_12 rfl (lv_at hl 0 rfl) ?_
    refine gfX12_290 C hw hw.2.2.1 h0 dX12_undo_13 ?_
    refine lv_if_ne (tgt := 21) hx hb dX12_undo_16 (by decide) (fun c4 => ?_) (fun c4 => ?_)
    · replace hq := hq.2 c4
      refine lv_aload_n hx hb dX12_undo_21 rfl (lv_at hl 0 rfl) ?_
      refine lv_dup hx hb dX12_undo_22 rfl ?_
      refine gfX12_290 C hw hw.2.2.1 h0 dX12_undo_23 ?_
      refine lv_iconst (v := 1) hx hb dX12_undo_26 (by decide) ?_
      refine lv_isub hx hb dX12_undo_27 ?_
      refine pfX12_290 C hw hw.2.2.1 h0 dX12_undo_28 (fun H locs hw => ?_)
      generalize e6 : uI M1 a0 49 ((mI M1 a0 49) - 1) = M5 at hw
      replace hq := hq M5 e6.symm
      refine lv_aload_n hx hb dX12_undo_31 rfl (lv_at hl 0 rfl) ?_
      refine r_callV (T := TX12) (N := 67) (ci := 12) (index := 293) (n := 0) (d2 := 3) (mc := 0) (ms := 0) (As := []) (rest := []) C hw (ct_X12_through hq) kvX12_293 hq.1 (by decide) rfl ⟨by decide, by decide⟩ ⟨by decide, by decide⟩ rfl hl.1 rfl (Nat.le_of_ble_eq_true rfl) dX12_undo_32 (fun r M8 H locs hp hle hw => ?_)
      obtain ⟨rfl, hq⟩ := hp
      refine W.eq (g2 := F0 m 35 ls []) rfl ?_
      refine lv_iconst (v := 1) hx hb dX12_undo_35 (by decide) ?_
      exact r_zret C hr hlk hw dX12_undo_36 (Nat.le_refl _) (Nat.le_refl _) (by decide) ⟨_, rfl, hq⟩
    · replace hq := hq.1 c4
      refine lv_iconst (v := 0) hx hb dX12_undo_19 (by decide) ?_
      exact r_zret C hr hlk hw dX12_undo_20 (Nat.le_refl _) (Nat.le_refl _) (by decide) ⟨_, rfl, hq⟩

set_option maxRecDepth 100000 in
def wp_X12_now  (g : Gh) (M0 : Mem) (a0 : Nat) (p1 : Int32) (post : Int32 → Mem → Prop) : Prop :=
  okc (gB g) M0 a0 12 ∧ (∀ M1, M1 = uI M0 a0 0 0 → ((((mI M1 a0 48) = 0) → post (-1) M1) ∧ (¬ ((mI M1 a0 48) = 0) → ((p1 = 0) → post (mI M1 a0 50) M1) ∧ ((p1 = 1) → post (mI M1 a0 51) M1) ∧ ((p1 = 2) → post (mI M1 a0 53) M1) ∧ ((p1 = 3) → post (mI M1 a0 54) M1) ∧ ((p1 = 4) → post (mI M1 a0 49) M1) ∧ ((p1 = 5) → post (mI M1 a0 55) M1) ∧ ((¬ (p1 = 0) ∧ ¬ (p1 = 1) ∧ ¬ (p1 = 2) ∧ ¬ (p1 = 3) ∧ ¬ (p1 = 4) ∧ ¬ (p1 = 5)) → post (-1) M1))))
set_option maxHeartbeats 4000000 in
set_option maxRecDepth 100000 in
theorem ct_X12_now {l : Launch} {g : Gh} {M0 : Mem} {a0 : Nat} {p1 : Int32} {post : Int32 → Mem → Prop}  (hq : wp_X12_now  g M0 a0 p1 post) : Ct l g yX12_now cX12_now 2 (some .int) 0 0 0 [.ref a0, .int p1] M0 (pI post) := by
  unfold wp_X12_now at hq
  obtain ⟨h0, hq⟩ := hq
  refine Ct.of (by decide) (Nat.le_of_ble_eq_true rfl) ?_
  intro p e s m below meth c ls C hr hlk hn hl hw
  have hx := C.1.1
  have hb := C.1.2.1
  have hl : lv_has ls 2 [(0, .ref a0), (1, .int p1)] := hl
  refine lv_aload_n hx hb dX12_now_0 rfl (lv_at hl 0 rfl) ?_
  refine lv_iconst (v := 0) hx hb dX12_now_1 (by decide) ?_
  refine pfX12_123 C hw hw.2.2.1 h0 dX12_now_2 (fun H locs hw => ?_)
  generalize e2 : uI M0 a0 0 0 = M1 at hw
  replace hq := hq M1 e2.symm
  refine lv_aload_n hx hb dX12_now_5 rfl (lv_at hl 0 rfl) ?_
  refine gfX12_247 C hw hw.2.2.1 h0 dX12_now_6 ?_
  refine lv_if_ne (tgt := 14) hx hb dX12_now_9 (by decide) (fun c3 => ?_) (fun c3 => ?_)
  · replace hq := hq.2 c3
    refine lv_iload_n hx hb dX12_now_14 rfl (lv_at hl 1 rfl) ?_
    by_cases c5 : p1 = 0
    · refine r_table (v := 0) (off := 37) (tgt := 52) hx hb dX12_now_15 c5 (by decide) (by decide) rfl (by decide) ?_
      replace hq := hq.1 c5
      refine lv_aload_n hx hb dX12_now_52 rfl (lv_at hl 0 rfl) ?_
      refine gfX12_296 C hw hw.2.2.1 h0 dX12_now_53 ?_
      exact r_iret C hr hlk hw dX12_now_56 (Nat.le_refl _) (Nat.le_refl _) ⟨_, rfl, hq⟩
    by_cases c6 : p1 = 1
    · refine r_table (v := 1) (off := 42) (tgt := 57) hx hb dX12_now_15 c6 (by decide) (by decide) rfl (by decide) ?_
      replace hq := hq.2.1 c6
      refine lv_aload_n hx hb dX12_now_57 rfl (lv_at hl 0 rfl) ?_
      refine gfX12_305 C hw hw.2.2.1 h0 dX12_now_58 ?_
      exact r_iret C hr hlk hw dX12_now_61 (Nat.le_refl _) (Nat.le_refl _) ⟨_, rfl, hq⟩
    by_cases c7 : p1 = 2
    · refine r_table (v := 2) (off := 47) (tgt := 62) hx hb dX12_now_15 c7 (by decide) (by decide) rfl (by decide) ?_
      replace hq := hq.2.2.1 c7
      refine lv_aload_n hx hb dX12_now_62 rfl (lv_at hl 0 rfl) ?_
      refine gfX12_311 C hw hw.2.2.1 h0 dX12_now_63 ?_
      exact r_iret C hr hlk hw dX12_now_66 (Nat.le_refl _) (Nat.le_refl _) ⟨_, rfl, hq⟩
    by_cases c8 : p1 = 3
    · refine r_table (v := 3) (off := 52) (tgt := 67) hx hb dX12_now_15 c8 (by decide) (by decide) rfl (by decide) ?_
      replace hq := hq.2.2.2.1 c8
      refine lv_aload_n hx hb dX12_now_67 rfl (lv_at hl 0 rfl) ?_
      refine gfX12_314 C hw hw.2.2.1 h0 dX12_now_68 ?_
      exact r_iret C hr hlk hw dX12_now_71 (Nat.le_refl _) (Nat.le_refl _) ⟨_, rfl, hq⟩
    by_cases c9 : p1 = 4
    · refine r_table (v := 4) (off := 57) (tgt := 72) hx hb dX12_now_15 c9 (by decide) (by decide) rfl (by decide) ?_
      replace hq := hq.2.2.2.2.1 c9
      refine lv_aload_n hx hb dX12_now_72 rfl (lv_at hl 0 rfl) ?_
      refine gfX12_290 C hw hw.2.2.1 h0 dX12_now_73 ?_
      exact r_iret C hr hlk hw dX12_now_76 (Nat.le_refl _) (Nat.le_refl _) ⟨_, rfl, hq⟩
    by_cases c10 : p1 = 5
    · refine r_table (v := 5) (off := 62) (tgt := 77) hx hb dX12_now_15 c10 (by decide) (by decide) rfl (by decide) ?_
      replace hq := hq.2.2.2.2.2.1 c10
      refine lv_aload_n hx hb dX12_now_77 rfl (lv_at hl 0 rfl) ?_
      refine gfX12_317 C hw hw.2.2.1 h0 dX12_now_78 ?_
      exact r_iret C hr hlk hw dX12_now_81 (Nat.le_refl _) (Nat.le_refl _) ⟨_, rfl, hq⟩
    refine r_tableOut (tgt := 82) (k := 5) hx hb dX12_now_15 (by decide) (fun j hj => by rcases (show j = 0 ∨ j = 1 ∨ j = 2 ∨ j = 3 ∨ j = 4 ∨ j = 5 by omega) with rfl | rfl | rfl | rfl | rfl | rfl <;> assumption) (by decide) ?_
    replace hq := hq.2.2.2.2.2.2 ⟨c5, c6, c7, c8, c9, c10⟩
    refine lv_iconst (v := (-1)) hx hb dX12_now_82 (by decide) ?_
    exact r_iret C hr hlk hw dX12_now_83 (Nat.le_refl _) (Nat.le_refl _) ⟨_, rfl, hq⟩
  · replace hq := hq.1 c3
    refine lv_iconst (v := (-1)) hx hb dX12_now_12 (by decide) ?_
    exact r_iret C hr hlk hw dX12_now_13 (Nat.le_refl _) (Nat.le_refl _) ⟨_, rfl, hq⟩

set_option maxRecDepth 100000 in
def lb_X12_event_34  (g : Gh) (M0 : Mem) (a0 : Nat) (p1 : Int32) (p2 : Int32) (post : Int32 → Mem → Prop)   (s0 : Nat) (s1 : Int32) (M : Mem) : Prop :=
  okc (gB g) M0 s0 12 ∧ (∀ M2, M2 = uI M s0 0 s1 → ((((mI M2 a0 0) ≤ 0) → ((p2 = 0) → ∃ q6, mR M2 a0 56 = some q6 ∧ (okc (gB g) M0 q6 14 ∧ (vp_in p1 (mN M0 q6) ∧ (post (mI M2 q6 (Int32.toNatClampNeg p1)) M2)))) ∧ ((p2 = 1) → ∃ q10, mR M2 a0 57 = some q10 ∧ (okc (gB g) M0 q10 14 ∧ (vp_in p1 (mN M0 q10) ∧ (post (mI M2 q10 (Int32.toNatClampNeg p1)) M2)))) ∧ ((p2 = 2) → ∃ q14, mR M2 a0 58 = some q14 ∧ (okc (gB g) M0 q14 14 ∧ (vp_in p1 (mN M0 q14) ∧ (post (mI M2 q14 (Int32.toNatClampNeg p1)) M2)))) ∧ ((p2 = 3) → ∃ q18, mR M2 a0 60 = some q18 ∧ (okc (gB g) M0 q18 17 ∧ (vp_in p1 (mN M0 q18) ∧ ((((mI M2 q18 (Int32.toNatClampNeg p1)) = 0) → post 0 M2) ∧ (¬ ((mI M2 q18 (Int32.toNatClampNeg p1)) = 0) → post 1 M2))))) ∧ ((p2 = 4) → ∃ q23, mR M2 a0 61 = some q23 ∧ (okc (gB g) M0 q23 17 ∧ (vp_in p1 (mN M0 q23) ∧ ((((mI M2 q23 (Int32.toNatClampNeg p1)) = 0) → post 0 M2) ∧ (¬ ((mI M2 q23 (Int32.toNatClampNeg p1)) = 0) → post 1 M2))))) ∧ ((¬ (p2 = 0) ∧ ¬ (p2 = 1) ∧ ¬ (p2 = 2) ∧ ¬ (p2 = 3) ∧ ¬ (p2 = 4)) → ∃ q28, mR M2 a0 59 = some q28 ∧ (okc (gB g) M0 q28 14 ∧ (vp_in p1 (mN M0 q28) ∧ (post (mI M2 q28 (Int32.toNatClampNeg p1)) M2))))) ∧ (¬ ((mI M2 a0 0) ≤ 0) → post 0 M2)))
set_option maxRecDepth 100000 in
def wp_X12_event  (g : Gh) (M0 : Mem) (a0 : Nat) (p1 : Int32) (p2 : Int32) (post : Int32 → Mem → Prop) : Prop :=
  okc (gB g) M0 a0 12 ∧ ((((mI M0 a0 48) = 0) → lb_X12_event_34  g M0 a0 p1 p2 post  a0 1 M0) ∧ (¬ ((mI M0 a0 48) = 0) → ((p1 < 0) → lb_X12_event_34  g M0 a0 p1 p2 post  a0 1 M0) ∧ (¬ (p1 < 0) → (((mI M0 a0 49) ≤ p1) → lb_X12_event_34  g M0 a0 p1 p2 post  a0 1 M0) ∧ (¬ ((mI M0 a0 49) ≤ p1) → ((p2 < 0) → lb_X12_event_34  g M0 a0 p1 p2 post  a0 1 M0) ∧ (¬ (p2 < 0) → ((p2 ≤ 5) → lb_X12_event_34  g M0 a0 p1 p2 post  a0 0 M0) ∧ (¬ (p2 ≤ 5) → lb_X12_event_34  g M0 a0 p1 p2 post  a0 1 M0))))))
set_option maxHeartbeats 4000000 in
set_option maxRecDepth 100000 in
theorem lt_X12_event_34 {l : Launch} {g : Gh} {p : Program} {e : Env} {s : State} {m : MethodId} {args : Array Value} {below : List Frame} {meth : Method} {c : Code} {H : Heap} {locs : List Loc} {ls : Array Slot} {M0 M : Mem} {a0 : Nat} {p1 : Int32} {p2 : Int32} {post : Int32 → Mem → Prop}  {s0 : Nat} {s1 : Int32}  (C : Cx g p s m args c cX12_event 3 RX12) (hr : meth.sig.returnType = (some .int)) (hlk : meth.locks = false) (hn : meth.name = "event") (h0 : okc (gB g) M0 a0 12)  (hq : lb_X12_event_34  g M0 a0 p1 p2 post  s0 s1 M) (hw : Wd g s M0 M H locs) (hl : lv_has ls 3 [(0, .ref a0), (1, .int p1), (2, .int p2)]) : W p l e (rmo 0 0 0) s m args below meth c H locs 0 0 (MQ below (Cq g M0 (pI post)) args s 0 0 (gA g)) (F0 m 34 ls [.int s1, .ref s0]) := by
  have hx := C.1.1
  have hb := C.1.2.1
  unfold lb_X12_event_34 at hq
  obtain ⟨h1, hq⟩ := hq
  refine pfX12_123 C hw hw.2.2.1 h1 dX12_event_34 (fun H locs hw => ?_)
  generalize e3 : uI M s0 0 s1 = M2 at hw
  replace hq := hq M2 e3.symm
  refine lv_aload_n hx hb dX12_event_37 rfl (lv_at hl 0 rfl) ?_
  refine gfX12_123 C hw hw.2.2.1 h0 dX12_event_38 ?_
  refine lv_if_le (tgt := 46) hx hb dX12_event_41 (by decide) (fun c4 => ?_) (fun c4 => ?_)
  · replace hq := hq.1 c4
    refine lv_iload_n hx hb dX12_event_46 rfl (lv_at hl 2 rfl) ?_
    by_cases c32 : p2 = 0
    · refine r_table (v := 0) (off := 33) (tgt := 80) hx hb dX12_event_47 c32 (by decide) (by decide) rfl (by decide) ?_
      replace hq := hq.1 c32
      refine lv_aload_n hx hb dX12_event_80 rfl (lv_at hl 0 rfl) ?_
      obtain ⟨q6, e7, hq⟩ := hq
      refine gfX12_93 C hw hw.2.2.1 h0 e7 dX12_event_81 ?_
      refine lv_iload_n hx hb dX12_event_84 rfl (lv_at hl 1 rfl) ?_
      obtain ⟨h8, hq⟩ := hq
      obtain ⟨h9, hq⟩ := hq
      refine q_iald C hw hw.2.2.1 h8 h9 dX12_event_85 ?_
      exact r_iret C hr hlk hw dX12_event_86 (Nat.le_refl _) (Nat.le_refl _) ⟨_, rfl, hq⟩
    by_cases c33 : p2 = 1
    · refine r_table (v := 1) (off := 40) (tgt := 87) hx hb dX12_event_47 c33 (by decide) (by decide) rfl (by decide) ?_
      replace hq := hq.2.1 c33
      refine lv_aload_n hx hb dX12_event_87 rfl (lv_at hl 0 rfl) ?_
      obtain ⟨q10, e11, hq⟩ := hq
      refine gfX12_96 C hw hw.2.2.1 h0 e11 dX12_event_88 ?_
      refine lv_iload_n hx hb dX12_event_91 rfl (lv_at hl 1 rfl) ?_
      obtain ⟨h12, hq⟩ := hq
      obtain ⟨h13, hq⟩ := hq
      refine q_iald C hw hw.2.2.1 h12 h13 dX12_event_92 ?_
      exact r_iret C hr hlk hw dX12_event_93 (Nat.le_refl _) (Nat.le_refl _) ⟨_, rfl, hq⟩
    by_cases c34 : p2 = 2
    · refine r_table (v := 2) (off := 47) (tgt := 94) hx hb dX12_event_47 c34 (by decide) (by decide) rfl (by decide) ?_
      replace hq := hq.2.2.1 c34
      refine lv_aload_n hx hb dX12_event_94 rfl (lv_at hl 0 rfl) ?_
      obtain ⟨q14, e15, hq⟩ := hq
      refine gfX12_99 C hw hw.2.2.1 h0 e15 dX12_event_95 ?_
      refine lv_iload_n hx hb dX12_event_98 rfl (lv_at hl 1 rfl) ?_
      obtain ⟨h16, hq⟩ := hq
      obtain ⟨h17, hq⟩ := hq
      refine q_iald C hw hw.2.2.1 h16 h17 dX12_event_99 ?_
      exact r_iret C hr hlk hw dX12_event_100 (Nat.le_refl _) (Nat.le_refl _) ⟨_, rfl, hq⟩
    by_cases c35 : p2 = 3
    · refine r_table (v := 3) (off := 54) (tgt := 101) hx hb dX12_event_47 c35 (by decide) (by decide) rfl (by decide) ?_
      replace hq := hq.2.2.2.1 c35
      refine lv_aload_n hx hb dX12_event_101 rfl (lv_at hl 0 rfl) ?_
      obtain ⟨q18, e19, hq⟩ := hq
      refine gfX12_105 C hw hw.2.2.1 h0 e19 dX12_event_102 ?_
      refine lv_iload_n hx hb dX12_event_105 rfl (lv_at hl 1 rfl) ?_
      obtain ⟨h20, hq⟩ := hq
      obtain ⟨h21, hq⟩ := hq
      refine q_zald C hw hw.2.2.1 h20 h21 dX12_event_106 ?_
      refine lv_if_eq (tgt := 114) hx hb dX12_event_107 (by decide) (fun c22 => ?_) (fun c22 => ?_)
      · replace hq := hq.1 c22
        refine lv_iconst (v := 0) hx hb dX12_event_114 (by decide) ?_
        exact r_iret C hr hlk hw dX12_event_115 (Nat.le_refl _) (Nat.le_refl _) ⟨_, rfl, hq⟩
      · replace hq := hq.2 c22
        refine lv_iconst (v := 1) hx hb dX12_event_110 (by decide) ?_
        refine lv_goto (tgt := 115) hx hb dX12_event_111 (by decide) ?_
        exact r_iret C hr hlk hw dX12_event_115 (Nat.le_refl _) (Nat.le_refl _) ⟨_, rfl, hq⟩
    by_cases c36 : p2 = 4
    · refine r_table (v := 4) (off := 69) (tgt := 116) hx hb dX12_event_47 c36 (by decide) (by decide) rfl (by decide) ?_
      replace hq := hq.2.2.2.2.1 c36
      refine lv_aload_n hx hb dX12_event_116 rfl (lv_at hl 0 rfl) ?_
      obtain ⟨q23, e24, hq⟩ := hq
      refine gfX12_108 C hw hw.2.2.1 h0 e24 dX12_event_117 ?_
      refine lv_iload_n hx hb dX12_event_120 rfl (lv_at hl 1 rfl) ?_
      obtain ⟨h25, hq⟩ := hq
      obtain ⟨h26, hq⟩ := hq
      refine q_zald C hw hw.2.2.1 h25 h26 dX12_event_121 ?_
      refine lv_if_eq (tgt := 129) hx hb dX12_event_122 (by decide) (fun c27 => ?_) (fun c27 => ?_)
      · replace hq := hq.1 c27
        refine lv_iconst (v := 0) hx hb dX12_event_129 (by decide) ?_
        exact r_iret C hr hlk hw dX12_event_130 (Nat.le_refl _) (Nat.le_refl _) ⟨_, rfl, hq⟩
      · replace hq := hq.2 c27
        refine lv_iconst (v := 1) hx hb dX12_event_125 (by decide) ?_
        refine lv_goto (tgt := 130) hx hb dX12_event_126 (by decide) ?_
        exact r_iret C hr hlk hw dX12_event_130 (Nat.le_refl _) (Nat.le_refl _) ⟨_, rfl, hq⟩
    refine r_tableOut (tgt := 131) (k := 4) hx hb dX12_event_47 (by decide) (fun j hj => by rcases (show j = 0 ∨ j = 1 ∨ j = 2 ∨ j = 3 ∨ j = 4 by omega) with rfl | rfl | rfl | rfl | rfl <;> assumption) (by decide) ?_
    replace hq := hq.2.2.2.2.2 ⟨c32, c33, c34, c35, c36⟩
    refine lv_aload_n hx hb dX12_event_131 rfl (lv_at hl 0 rfl) ?_
    obtain ⟨q28, e29, hq⟩ := hq
    refine gfX12_102 C hw hw.2.2.1 h0 e29 dX12_event_132 ?_
    refine lv_iload_n hx hb dX12_event_135 rfl (lv_at hl 1 rfl) ?_
    obtain ⟨h30, hq⟩ := hq
    obtain ⟨h31, hq⟩ := hq
    refine q_iald C hw hw.2.2.1 h30 h31 dX12_event_136 ?_
    exact r_iret C hr hlk hw dX12_event_137 (Nat.le_refl _) (Nat.le_refl _) ⟨_, rfl, hq⟩
  · replace hq := hq.2 c4
    refine lv_iconst (v := 0) hx hb dX12_event_44 (by decide) ?_
    exact r_iret C hr hlk hw dX12_event_45 (Nat.le_refl _) (Nat.le_refl _) ⟨_, rfl, hq⟩
set_option maxHeartbeats 4000000 in
set_option maxRecDepth 100000 in
theorem ct_X12_event {l : Launch} {g : Gh} {M0 : Mem} {a0 : Nat} {p1 : Int32} {p2 : Int32} {post : Int32 → Mem → Prop}  (hq : wp_X12_event  g M0 a0 p1 p2 post) : Ct l g yX12_event cX12_event 3 (some .int) 0 0 0 [.ref a0, .int p1, .int p2] M0 (pI post) := by
  unfold wp_X12_event at hq
  obtain ⟨h0, hq⟩ := hq
  refine Ct.of (by decide) (Nat.le_of_ble_eq_true rfl) ?_
  intro p e s m below meth c ls C hr hlk hn hl hw
  have hx := C.1.1
  have hb := C.1.2.1
  have hl : lv_has ls 3 [(0, .ref a0), (1, .int p1), (2, .int p2)] := hl
  refine lv_aload_n hx hb dX12_event_0 rfl (lv_at hl 0 rfl) ?_
  refine lv_aload_n hx hb dX12_event_1 rfl (lv_at hl 0 rfl) ?_
  refine gfX12_247 C hw hw.2.2.1 h0 dX12_event_2 ?_
  refine lv_if_eq (tgt := 29) hx hb dX12_event_5 (by decide) (fun c37 => ?_) (fun c37 => ?_)
  · replace hq := hq.1 c37
    refine lv_iconst (v := 1) hx hb dX12_event_29 (by decide) ?_
    refine lv_goto (tgt := 34) hx hb dX12_event_30 (by decide) ?_
    exact lt_X12_event_34  C hr hlk hn h0  hq hw (lv_sub hl [0, 1, 2] rfl)
  · replace hq := hq.2 c37
    refine lv_iload_n hx hb dX12_event_8 rfl (lv_at hl 1 rfl) ?_
    refine lv_if_lt (tgt := 29) hx hb dX12_event_9 (by decide) (fun c38 => ?_) (fun c38 => ?_)
    · replace hq := hq.1 c38
      refine lv_iconst (v := 1) hx hb dX12_event_29 (by decide) ?_
      refine lv_goto (tgt := 34) hx hb dX12_event_30 (by decide) ?_
      exact lt_X12_event_34  C hr hlk hn h0  hq hw (lv_sub hl [0, 1, 2] rfl)
    · replace hq := hq.2 c38
      refine lv_iload_n hx hb dX12_event_12 rfl (lv_at hl 1 rfl) ?_
      refine lv_aload_n hx hb dX12_event_13 rfl (lv_at hl 0 rfl) ?_
      refine gfX12_290 C hw hw.2.2.1 h0 dX12_event_14 ?_
      refine lv_icmp_ge (tgt := 29) hx hb dX12_event_17 (by decide) (fun c39 => ?_) (fun c39 => ?_)
      · replace hq := hq.1 c39
        refine lv_iconst (v := 1) hx hb dX12_event_29 (by decide) ?_
        refine lv_goto (tgt := 34) hx hb dX12_event_30 (by decide) ?_
        exact lt_X12_event_34  C hr hlk hn h0  hq hw (lv_sub hl [0, 1, 2] rfl)
      · replace hq := hq.2 c39
        refine lv_iload_n hx hb dX12_event_20 rfl (lv_at hl 2 rfl) ?_
        refine lv_if_lt (tgt := 29) hx hb dX12_event_21 (by decide) (fun c40 => ?_) (fun c40 => ?_)
        · replace hq := hq.1 c40
          refine lv_iconst (v := 1) hx hb dX12_event_29 (by decide) ?_
          refine lv_goto (tgt := 34) hx hb dX12_event_30 (by decide) ?_
          exact lt_X12_event_34  C hr hlk hn h0  hq hw (lv_sub hl [0, 1, 2] rfl)
        · replace hq := hq.2 c40
          refine lv_iload_n hx hb dX12_event_24 rfl (lv_at hl 2 rfl) ?_
          refine lv_iconst (v := 5) hx hb dX12_event_25 (by decide) ?_
          refine lv_icmp_le (tgt := 33) hx hb dX12_event_26 (by decide) (fun c41 => ?_) (fun c41 => ?_)
          · replace hq := hq.1 c41
            refine lv_iconst (v := 0) hx hb dX12_event_33 (by decide) ?_
            exact lt_X12_event_34  C hr hlk hn h0  hq hw (lv_sub hl [0, 1, 2] rfl)
          · replace hq := hq.2 c41
            refine lv_iconst (v := 1) hx hb dX12_event_29 (by decide) ?_
            refine lv_goto (tgt := 34) hx hb dX12_event_30 (by decide) ?_
            exact lt_X12_event_34  C hr hlk hn h0  hq hw (lv_sub hl [0, 1, 2] rfl)

set_option maxRecDepth 100000 in
def lb_X12_counts_26  (g : Gh) (M0 : Mem) (a0 : Nat) (p1 : Int32) (p2 : Int32) (p3 : Int32) (post : Mem → Prop)   (s0 : Nat) (s1 : Int32) (s2 : Int32) (s3 : Int32) (M : Mem) : Prop :=
  okc (gB g) M0 s0 14 ∧ (vp_in s1 (mN M0 s0) ∧ (∀ M3, M3 = uI M s0 (Int32.toNatClampNeg s1) (s2 + s3) → (∃ q5, mR M3 a0 63 = some q5 ∧ (okc (gB g) M0 q5 14 ∧ (vp_in p1 (mN M0 q5) ∧ (∀ M9, M9 = uI M3 q5 (Int32.toNatClampNeg p1) ((mI M3 q5 (Int32.toNatClampNeg p1)) + 1) → (∃ q11, mR M9 a0 64 = some q11 ∧ (okc (gB g) M0 q11 14 ∧ (vp_in p1 (mN M0 q11) ∧ (∀ M15, M15 = uI M9 q11 (Int32.toNatClampNeg p1) ((mI M9 q11 (Int32.toNatClampNeg p1)) + p2) → (∃ q17, mR M15 a0 65 = some q17 ∧ (okc (gB g) M0 q17 14 ∧ (vp_in p1 (mN M0 q17) ∧ (∀ M21, M21 = uI M15 q17 (Int32.toNatClampNeg p1) ((mI M15 q17 (Int32.toNatClampNeg p1)) + p3) → (post M21)))))))))))))))
set_option maxRecDepth 100000 in
def wp_X12_counts  (g : Gh) (M0 : Mem) (a0 : Nat) (p1 : Int32) (p2 : Int32) (p3 : Int32) (post : Mem → Prop) : Prop :=
  okc (gB g) M0 a0 12 ∧ (∃ q23, mR M0 a0 62 = some q23 ∧ (okc (gB g) M0 q23 14 ∧ (vp_in p1 (mN M0 q23) ∧ (((p2 ≤ p3) → ((p2 = p3) → lb_X12_counts_26  g M0 a0 p1 p2 p3 post  q23 p1 (mI M0 q23 (Int32.toNatClampNeg p1)) 1 M0) ∧ (¬ (p2 = p3) → lb_X12_counts_26  g M0 a0 p1 p2 p3 post  q23 p1 (mI M0 q23 (Int32.toNatClampNeg p1)) 0 M0)) ∧ (¬ (p2 ≤ p3) → lb_X12_counts_26  g M0 a0 p1 p2 p3 post  q23 p1 (mI M0 q23 (Int32.toNatClampNeg p1)) 2 M0)))))
set_option maxHeartbeats 4000000 in
set_option maxRecDepth 100000 in
theorem lt_X12_counts_26 {l : Launch} {g : Gh} {p : Program} {e : Env} {s : State} {m : MethodId} {args : Array Value} {below : List Frame} {meth : Method} {c : Code} {H : Heap} {locs : List Loc} {ls : Array Slot} {M0 M : Mem} {a0 : Nat} {p1 : Int32} {p2 : Int32} {p3 : Int32} {post : Mem → Prop}  {s0 : Nat} {s1 : Int32} {s2 : Int32} {s3 : Int32}  (C : Cx g p s m args c cX12_counts 4 RX12) (hr : meth.sig.returnType = none) (hlk : meth.locks = false) (hn : meth.name = "counts") (h0 : okc (gB g) M0 a0 12)  (hq : lb_X12_counts_26  g M0 a0 p1 p2 p3 post  s0 s1 s2 s3 M) (hw : Wd g s M0 M H locs) (hl : lv_has ls 4 [(0, .ref a0), (1, .int p1), (2, .int p2), (3, .int p3)]) : W p l e (rmo 0 0 0) s m args below meth c H locs 0 0 (MQ below (Cq g M0 (pV post)) args s 0 0 (gA g)) (F0 m 26 ls [.int s3, .int s2, .int s1, .ref s0]) := by
  have hx := C.1.1
  have hb := C.1.2.1
  unfold lb_X12_counts_26 at hq
  refine lv_iadd hx hb dX12_counts_26 ?_
  obtain ⟨h1, hq⟩ := hq
  obtain ⟨h2, hq⟩ := hq
  refine q_iast C hw hw.2.2.1 h1 h2 dX12_counts_27 (fun H locs hw => ?_)
  generalize e4 : uI M s0 (Int32.toNatClampNeg s1) (s2 + s3) = M3 at hw
  replace hq := hq M3 e4.symm
  refine lv_aload_n hx hb dX12_counts_28 rfl (lv_at hl 0 rfl) ?_
  obtain ⟨q5, e6, hq⟩ := hq
  refine gfX12_114 C hw hw.2.2.1 h0 e6 dX12_counts_29 ?_
  refine lv_iload_n hx hb dX12_counts_32 rfl (lv_at hl 1 rfl) ?_
  refine lv_dup2_11 hx hb dX12_counts_33 rfl rfl ?_
  obtain ⟨h7, hq⟩ := hq
  obtain ⟨h8, hq⟩ := hq
  refine q_iald C hw hw.2.2.1 h7 h8 dX12_counts_34 ?_
  refine lv_iconst (v := 1) hx hb dX12_counts_35 (by decide) ?_
  refine lv_iadd hx hb dX12_counts_36 ?_
  refine q_iast C hw hw.2.2.1 h7 h8 dX12_counts_37 (fun H locs hw => ?_)
  generalize e10 : uI M3 q5 (Int32.toNatClampNeg p1) ((mI M3 q5 (Int32.toNatClampNeg p1)) + 1) = M9 at hw
  replace hq := hq M9 e10.symm
  have e6 : mR M9 a0 63 = some q5 := by rw [← e10, mR_uI]; exact e6
  refine lv_aload_n hx hb dX12_counts_38 rfl (lv_at hl 0 rfl) ?_
  obtain ⟨q11, e12, hq⟩ := hq
  refine gfX12_117 C hw hw.2.2.1 h0 e12 dX12_counts_39 ?_
  refine lv_iload_n hx hb dX12_counts_42 rfl (lv_at hl 1 rfl) ?_
  refine lv_dup2_11 hx hb dX12_counts_43 rfl rfl ?_
  obtain ⟨h13, hq⟩ := hq
  obtain ⟨h14, hq⟩ := hq
  refine q_iald C hw hw.2.2.1 h13 h14 dX12_counts_44 ?_
  refine lv_iload_n hx hb dX12_counts_45 rfl (lv_at hl 2 rfl) ?_
  refine lv_iadd hx hb dX12_counts_46 ?_
  refine q_iast C hw hw.2.2.1 h13 h14 dX12_counts_47 (fun H locs hw => ?_)
  generalize e16 : uI M9 q11 (Int32.toNatClampNeg p1) ((mI M9 q11 (Int32.toNatClampNeg p1)) + p2) = M15 at hw
  replace hq := hq M15 e16.symm
  have e6 : mR M15 a0 63 = some q5 := by rw [← e16, mR_uI]; exact e6
  have e12 : mR M15 a0 64 = some q11 := by rw [← e16, mR_uI]; exact e12
  refine lv_aload_n hx hb dX12_counts_48 rfl (lv_at hl 0 rfl) ?_
  obtain ⟨q17, e18, hq⟩ := hq
  refine gfX12_120 C hw hw.2.2.1 h0 e18 dX12_counts_49 ?_
  refine lv_iload_n hx hb dX12_counts_52 rfl (lv_at hl 1 rfl) ?_
  refine lv_dup2_11 hx hb dX12_counts_53 rfl rfl ?_
  obtain ⟨h19, hq⟩ := hq
  obtain ⟨h20, hq⟩ := hq
  refine q_iald C hw hw.2.2.1 h19 h20 dX12_counts_54 ?_
  refine lv_iload_n hx hb dX12_counts_55 rfl (lv_at hl 3 rfl) ?_
  refine lv_iadd hx hb dX12_counts_56 ?_
  refine q_iast C hw hw.2.2.1 h19 h20 dX12_counts_57 (fun H locs hw => ?_)
  generalize e22 : uI M15 q17 (Int32.toNatClampNeg p1) ((mI M15 q17 (Int32.toNatClampNeg p1)) + p3) = M21 at hw
  replace hq := hq M21 e22.symm
  have e6 : mR M21 a0 63 = some q5 := by rw [← e22, mR_uI]; exact e6
  have e12 : mR M21 a0 64 = some q11 := by rw [← e22, mR_uI]; exact e12
  have e18 : mR M21 a0 65 = some q17 := by rw [← e22, mR_uI]; exact e18
  exact r_vret C hr hlk hw dX12_counts_58 (Nat.le_refl _) (Nat.le_refl _) ⟨rfl, hq⟩
set_option maxHeartbeats 4000000 in
set_option maxRecDepth 100000 in
theorem ct_X12_counts {l : Launch} {g : Gh} {M0 : Mem} {a0 : Nat} {p1 : Int32} {p2 : Int32} {p3 : Int32} {post : Mem → Prop}  (hq : wp_X12_counts  g M0 a0 p1 p2 p3 post) : Ct l g yX12_counts cX12_counts 4 none 0 0 0 [.ref a0, .int p1, .int p2, .int p3] M0 (pV post) := by
  unfold wp_X12_counts at hq
  obtain ⟨h0, hq⟩ := hq
  refine Ct.of (by decide) (Nat.le_of_ble_eq_true rfl) ?_
  intro p e s m below meth c ls C hr hlk hn hl hw
  have hx := C.1.1
  have hb := C.1.2.1
  have hl : lv_has ls 4 [(0, .ref a0), (1, .int p1), (2, .int p2), (3, .int p3)] := hl
  refine lv_aload_n hx hb dX12_counts_0 rfl (lv_at hl 0 rfl) ?_
  obtain ⟨q23, e24, hq⟩ := hq
  refine gfX12_111 C hw hw.2.2.1 h0 e24 dX12_counts_1 ?_
  refine lv_iload_n hx hb dX12_counts_4 rfl (lv_at hl 1 rfl) ?_
  refine lv_dup2_11 hx hb dX12_counts_5 rfl rfl ?_
  obtain ⟨h25, hq⟩ := hq
  obtain ⟨h26, hq⟩ := hq
  refine q_iald C hw hw.2.2.1 h25 h26 dX12_counts_6 ?_
  refine lv_iload_n hx hb dX12_counts_7 rfl (lv_at hl 2 rfl) ?_
  refine lv_iload_n hx hb dX12_counts_8 rfl (lv_at hl 3 rfl) ?_
  refine lv_icmp_le (tgt := 16) hx hb dX12_counts_9 (by decide) (fun c27 => ?_) (fun c27 => ?_)
  · replace hq := hq.1 c27
    refine lv_iload_n hx hb dX12_counts_16 rfl (lv_at hl 2 rfl) ?_
    refine lv_iload_n hx hb dX12_counts_17 rfl (lv_at hl 3 rfl) ?_
    refine lv_icmp_ne (tgt := 25) hx hb dX12_counts_18 (by decide) (fun c28 => ?_) (fun c28 => ?_)
    · replace hq := hq.2 c28
      refine lv_iconst (v := 0) hx hb dX12_counts_25 (by decide) ?_
      exact lt_X12_counts_26  C hr hlk hn h0  hq hw (lv_sub hl [0, 1, 2, 3] rfl)
    · replace hq := hq.1 c28
      refine lv_iconst (v := 1) hx hb dX12_counts_21 (by decide) ?_
      refine lv_goto (tgt := 26) hx hb dX12_counts_22 (by decide) ?_
      exact lt_X12_counts_26  C hr hlk hn h0  hq hw (lv_sub hl [0, 1, 2, 3] rfl)
  · replace hq := hq.2 c27
    refine lv_iconst (v := 2) hx hb dX12_counts_12 (by decide) ?_
    refine lv_goto (tgt := 26) hx hb dX12_counts_13 (by decide) ?_
    exact lt_X12_counts_26  C hr hlk hn h0  hq hw (lv_sub hl [0, 1, 2, 3] rfl)

set_option maxRecDepth 100000 in
def lb_X12_finish_196  (g : Gh) (M0 : Mem) (a0 : Nat) (post : Int32 → Mem → Prop)    (M : Mem) : Prop :=
  ∀ M1, M1 = uI M a0 48 0 → (∀ M3, M3 = uI M1 a0 66 ((mI M1 a0 66) + 1) → (post 1 M3))
set_option maxRecDepth 100000 in
def lb_X12_finish_163  (g : Gh) (M0 : Mem) (a0 : Nat) (post : Int32 → Mem → Prop) (bk56 : Int32 × Mem → Prop) (x1 : Int32)  (M : Mem) : Prop :=
  ∃ q5, mR M a0 22 = some q5 ∧ (∃ q7, mR M a0 41 = some q7 ∧ (okc (gB g) M0 q7 14 ∧ (vp_in x1 (mN M0 q7) ∧ (okc (gB g) M0 q5 14 ∧ (vp_in (mI M q7 (Int32.toNatClampNeg x1)) (mN M0 q5) ∧ (∀ M13, M13 = uI M q5 (Int32.toNatClampNeg (mI M q7 (Int32.toNatClampNeg x1))) ((mI M q5 (Int32.toNatClampNeg (mI M q7 (Int32.toNatClampNeg x1)))) ||| ((1 <<< ((mI M a0 46) &&& 31)) ||| (1 <<< ((mI M a0 47) &&& 31)))) → (bk56 ((x1 + 1), M13))))))))
set_option maxRecDepth 100000 in
def lb_X12_finish_129  (g : Gh) (M0 : Mem) (a0 : Nat) (post : Int32 → Mem → Prop) (bk56 : Int32 × Mem → Prop) (x1 : Int32) (x2 : Int32)  (M : Mem) : Prop :=
  ∃ q15, mR M a0 20 = some q15 ∧ (∃ q17, mR M a0 41 = some q17 ∧ (okc (gB g) M0 q17 14 ∧ (vp_in x1 (mN M0 q17) ∧ (okc (gB g) M0 q15 14 ∧ (vp_in (mI M q17 (Int32.toNatClampNeg x1)) (mN M0 q15) ∧ (∀ M23, M23 = uI M q15 (Int32.toNatClampNeg (mI M q17 (Int32.toNatClampNeg x1))) ((mI M q15 (Int32.toNatClampNeg (mI M q17 (Int32.toNatClampNeg x1)))) + 1) → (((x2 = 0) → lb_X12_finish_163  g M0 a0 post bk56 x1 M23) ∧ (¬ (x2 = 0) → ∃ q26, mR M23 a0 21 = some q26 ∧ (okc (gB g) M0 q26 14 ∧ (vp_in (mI M23 q17 (Int32.toNatClampNeg x1)) (mN M0 q26) ∧ (∀ M30, M30 = uI M23 q26 (Int32.toNatClampNeg (mI M23 q17 (Int32.toNatClampNeg x1))) ((mI M23 q26 (Int32.toNatClampNeg (mI M23 q17 (Int32.toNatClampNeg x1)))) + 1) → (lb_X12_finish_163  g M0 a0 post bk56 x1 M30))))))))))))
set_option maxRecDepth 100000 in
def bd_X12_finish_68  (g : Gh) (M0 : Mem) (a0 : Nat) (post : Int32 → Mem → Prop) (bk56 : Int32 × Mem → Prop) (bk68 : Int32 × Int32 × Int32 × Mem → Prop) (x1 : Int32) (x2 : Int32) (x3 : Int32)  (M : Mem) : Prop :=
  (((mI M a0 49) ≤ x3) → lb_X12_finish_129  g M0 a0 post bk56 x1 x2 M) ∧ (¬ ((mI M a0 49) ≤ x3) → ((x2 = 0) → ∃ q34, mR M a0 56 = some q34 ∧ (okc (gB g) M0 q34 14 ∧ (vp_in x3 (mN M0 q34) ∧ ((((mI M q34 (Int32.toNatClampNeg x3)) = x1) → ∃ q39, mR M a0 57 = some q39 ∧ (okc (gB g) M0 q39 14 ∧ (vp_in x3 (mN M0 q39) ∧ ((((mI M q39 (Int32.toNatClampNeg x3)) = 0) → ∃ q44, mR M a0 60 = some q44 ∧ (okc (gB g) M0 q44 17 ∧ (vp_in x3 (mN M0 q44) ∧ ((((mI M q44 (Int32.toNatClampNeg x3)) = 0) → bk68 (x1, 0, (x3 + 1), M)) ∧ (¬ ((mI M q44 (Int32.toNatClampNeg x3)) = 0) → ∃ q49, mR M a0 61 = some q49 ∧ (okc (gB g) M0 q49 17 ∧ (vp_in x3 (mN M0 q49) ∧ ((((mI M q49 (Int32.toNatClampNeg x3)) = 0) → bk68 (x1, 1, (x3 + 1), M)) ∧ (¬ ((mI M q49 (Int32.toNatClampNeg x3)) = 0) → bk68 (x1, 0, (x3 + 1), M)))))))))) ∧ (¬ ((mI M q39 (Int32.toNatClampNeg x3)) = 0) → bk68 (x1, 0, (x3 + 1), M)))))) ∧ (¬ ((mI M q34 (Int32.toNatClampNeg x3)) = x1) → bk68 (x1, 0, (x3 + 1), M)))))) ∧ (¬ (x2 = 0) → bk68 (x1, 1, (x3 + 1), M)))
set_option maxRecDepth 100000 in
def bd_X12_finish_56  (g : Gh) (M0 : Mem) (a0 : Nat) (post : Int32 → Mem → Prop)  (bk56 : Int32 × Mem → Prop) (x1 : Int32)  (M : Mem) : Prop :=
  (((mI M a0 44) ≤ x1) → lb_X12_finish_196  g M0 a0 post   M) ∧ (¬ ((mI M a0 44) ≤ x1) → (∃ n : Nat, lfp (fun bk z => bd_X12_finish_68  g M0 a0 post bk56 bk z.1 z.2.1 z.2.2.1 z.2.2.2) n (x1, 0, 0, M)))
set_option maxRecDepth 100000 in
def wp_X12_finish  (g : Gh) (M0 : Mem) (a0 : Nat) (post : Int32 → Mem → Prop) : Prop :=
  okc (gB g) M0 a0 12 ∧ (∀ M55, M55 = uI M0 a0 0 0 → ((((mI M55 a0 48) = 0) → post 0 M55) ∧ (¬ ((mI M55 a0 48) = 0) → ((3 ≤ (mI M55 a0 51)) → wp_X12_counts g M55 a0 (mI M55 a0 46) (mI M55 a0 53) (mI M55 a0 54) (fun M60 => wp_X12_counts g M60 a0 (mI M60 a0 47) (mI M60 a0 54) (mI M60 a0 53) (fun M62 => (∃ n : Nat, lfp (fun bk z => bd_X12_finish_56  g M0 a0 post  bk z.1 z.2) n (0, M62))))) ∧ (¬ (3 ≤ (mI M55 a0 51)) → post 0 M55))))
set_option maxHeartbeats 4000000 in
set_option maxRecDepth 100000 in
theorem lt_X12_finish_196 {l : Launch} {g : Gh} {p : Program} {e : Env} {s : State} {m : MethodId} {args : Array Value} {below : List Frame} {meth : Method} {c : Code} {H : Heap} {locs : List Loc} {ls : Array Slot} {M0 M : Mem} {a0 : Nat} {post : Int32 → Mem → Prop}    (C : Cx g p s m args c cX12_finish 4 RX12) (hr : meth.sig.returnType = (some .boolean)) (hlk : meth.locks = false) (hn : meth.name = "finish") (h0 : okc (gB g) M0 a0 12)  (hq : lb_X12_finish_196  g M0 a0 post   M) (hw : Wd g s M0 M H locs) (hl : lv_has ls 4 [(0, .ref a0)]) : W p l e (rmo 1 0 0) s m args below meth c H locs 0 0 (MQ below (Cq g M0 (pI post)) args s 0 0 (gA g)) (F0 m 196 ls []) := by
  have hx := C.1.1
  have hb := C.1.2.1
  unfold lb_X12_finish_196 at hq
  refine lv_aload_n hx hb dX12_finish_196 rfl (lv_at hl 0 rfl) ?_
  refine lv_iconst (v := 0) hx hb dX12_finish_197 (by decide) ?_
  refine pfX12_247 C hw hw.2.2.1 h0 (by decide) dX12_finish_198 (fun H locs hw => ?_)
  generalize e2 : uI M a0 48 0 = M1 at hw
  replace hq := hq M1 e2.symm
  refine lv_aload_n hx hb dX12_finish_201 rfl (lv_at hl 0 rfl) ?_
  refine lv_dup hx hb dX12_finish_202 rfl ?_
  refine gfX12_334 C hw hw.2.2.1 h0 dX12_finish_203 ?_
  refine lv_iconst (v := 1) hx hb dX12_finish_206 (by decide) ?_
  refine lv_iadd hx hb dX12_finish_207 ?_
  refine pfX12_334 C hw hw.2.2.1 h0 dX12_finish_208 (fun H locs hw => ?_)
  generalize e4 : uI M1 a0 66 ((mI M1 a0 66) + 1) = M3 at hw
  replace hq := hq M3 e4.symm
  refine lv_iconst (v := 1) hx hb dX12_finish_211 (by decide) ?_
  exact r_zret C hr hlk hw dX12_finish_212 (Nat.le_refl _) (Nat.le_refl _) (by decide) ⟨_, rfl, hq⟩
set_option maxHeartbeats 4000000 in
set_option maxRecDepth 100000 in
theorem lt_X12_finish_163 {l : Launch} {g : Gh} {p : Program} {e : Env} {s : State} {m : MethodId} {args : Array Value} {below : List Frame} {meth : Method} {c : Code} {H : Heap} {locs : List Loc} {ls : Array Slot} {M0 M : Mem} {a0 : Nat} {post : Int32 → Mem → Prop} {x1 : Int32}   (C : Cx g p s m args c cX12_finish 4 RX12) (hr : meth.sig.returnType = (some .boolean)) (hlk : meth.locks = false) (hn : meth.name = "finish") (h0 : okc (gB g) M0 a0 12) {bk56 : Int32 × Mem → Prop} (hk56 : ∀ (x1 : Int32) (M : Mem) (H : Heap) (locs : List Loc) (ls : Array Slot), bk56 (x1, M) → Wd g s M0 M H locs → lv_has ls 4 [(0, .ref a0), (1, .int x1)] → W p l e (rmo 1 0 0) s m args below meth c H locs 0 0 (MQ below (Cq g M0 (pI post)) args s 0 0 (gA g)) (F0 m 56 ls [])) (hq : lb_X12_finish_163  g M0 a0 post bk56 x1 M) (hw : Wd g s M0 M H locs) (hl : lv_has ls 4 [(0, .ref a0), (1, .int x1)]) : W p l e (rmo 1 0 0) s m args below meth c H locs 0 0 (MQ below (Cq g M0 (pI post)) args s 0 0 (gA g)) (F0 m 163 ls []) := by
  have hx := C.1.1
  have hb := C.1.2.1
  unfold lb_X12_finish_163 at hq
  refine lv_aload_n hx hb dX12_finish_163 rfl (lv_at hl 0 rfl) ?_
  obtain ⟨q5, e6, hq⟩ := hq
  refine gfX12_38 C hw hw.2.2.1 h0 e6 dX12_finish_164 ?_
  refine lv_aload_n hx hb dX12_finish_167 rfl (lv_at hl 0 rfl) ?_
  obtain ⟨q7, e8, hq⟩ := hq
  refine gfX12_84 C hw hw.2.2.1 h0 e8 dX12_finish_168 ?_
  refine lv_iload_n hx hb dX12_finish_171 rfl (lv_at hl 1 rfl) ?_
  obtain ⟨h9, hq⟩ := hq
  obtain ⟨h10, hq⟩ := hq
  refine q_iald C hw hw.2.2.1 h9 h10 dX12_finish_172 ?_
  refine lv_dup2_11 hx hb dX12_finish_173 rfl rfl ?_
  obtain ⟨h11, hq⟩ := hq
  obtain ⟨h12, hq⟩ := hq
  refine q_iald C hw hw.2.2.1 h11 h12 dX12_finish_174 ?_
  refine lv_iconst (v := 1) hx hb dX12_finish_175 (by decide) ?_
  refine lv_aload_n hx hb dX12_finish_176 rfl (lv_at hl 0 rfl) ?_
  refine gfX12_284 C hw hw.2.2.1 h0 dX12_finish_177 ?_
  refine lv_ishl hx hb dX12_finish_180 ?_
  refine lv_iconst (v := 1) hx hb dX12_finish_181 (by decide) ?_
  refine lv_aload_n hx hb dX12_finish_182 rfl (lv_at hl 0 rfl) ?_
  refine gfX12_287 C hw hw.2.2.1 h0 dX12_finish_183 ?_
  refine lv_ishl hx hb dX12_finish_186 ?_
  refine lv_ior hx hb dX12_finish_187 ?_
  refine lv_ior hx hb dX12_finish_188 ?_
  refine q_iast C hw hw.2.2.1 h11 h12 dX12_finish_189 (fun H locs hw => ?_)
  generalize e14 : uI M q5 (Int32.toNatClampNeg (mI M q7 (Int32.toNatClampNeg x1))) ((mI M q5 (Int32.toNatClampNeg (mI M q7 (Int32.toNatClampNeg x1)))) ||| ((1 <<< ((mI M a0 46) &&& 31)) ||| (1 <<< ((mI M a0 47) &&& 31)))) = M13 at hw
  replace hq := hq M13 e14.symm
  have e6 : mR M13 a0 22 = some q5 := by rw [← e14, mR_uI]; exact e6
  have e8 : mR M13 a0 41 = some q7 := by rw [← e14, mR_uI]; exact e8
  refine lv_iinc (v := (x1 + 1)) (lv' := [(1, .int (x1 + 1)), (0, .ref a0)]) hx hb dX12_finish_190 hl (k := 1) rfl rfl (by decide) rfl (fun ls hl => ?_)
  refine lv_goto (tgt := 56) hx hb dX12_finish_193 (by decide) ?_
  exact hk56 _ _ _ _ _ hq hw (lv_sub hl [1, 0] rfl)
set_option maxHeartbeats 4000000 in
set_option maxRecDepth 100000 in
theorem lt_X12_finish_129 {l : Launch} {g : Gh} {p : Program} {e : Env} {s : State} {m : MethodId} {args : Array Value} {below : List Frame} {meth : Method} {c : Code} {H : Heap} {locs : List Loc} {ls : Array Slot} {M0 M : Mem} {a0 : Nat} {post : Int32 → Mem → Prop} {x1 : Int32} {x2 : Int32}   (C : Cx g p s m args c cX12_finish 4 RX12) (hr : meth.sig.returnType = (some .boolean)) (hlk : meth.locks = false) (hn : meth.name = "finish") (h0 : okc (gB g) M0 a0 12) {bk56 : Int32 × Mem → Prop} (hk56 : ∀ (x1 : Int32) (M : Mem) (H : Heap) (locs : List Loc) (ls : Array Slot), bk56 (x1, M) → Wd g s M0 M H locs → lv_has ls 4 [(0, .ref a0), (1, .int x1)] → W p l e (rmo 1 0 0) s m args below meth c H locs 0 0 (MQ below (Cq g M0 (pI post)) args s 0 0 (gA g)) (F0 m 56 ls [])) (hq : lb_X12_finish_129  g M0 a0 post bk56 x1 x2 M) (hw : Wd g s M0 M H locs) (hl : lv_has ls 4 [(0, .ref a0), (1, .int x1), (2, .int x2)]) : W p l e (rmo 1 0 0) s m args below meth c H locs 0 0 (MQ below (Cq g M0 (pI post)) args s 0 0 (gA g)) (F0 m 129 ls []) := by
  have hx := C.1.1
  have hb := C.1.2.1
  unfold lb_X12_finish_129 at hq
  refine lv_aload_n hx hb dX12_finish_129 rfl (lv_at hl 0 rfl) ?_
  obtain ⟨q15, e16, hq⟩ := hq
  refine gfX12_32 C hw hw.2.2.1 h0 e16 dX12_finish_130 ?_
  refine lv_aload_n hx hb dX12_finish_133 rfl (lv_at hl 0 rfl) ?_
  obtain ⟨q17, e18, hq⟩ := hq
  refine gfX12_84 C hw hw.2.2.1 h0 e18 dX12_finish_134 ?_
  refine lv_iload_n hx hb dX12_finish_137 rfl (lv_at hl 1 rfl) ?_
  obtain ⟨h19, hq⟩ := hq
  obtain ⟨h20, hq⟩ := hq
  refine q_iald C hw hw.2.2.1 h19 h20 dX12_finish_138 ?_
  refine lv_dup2_11 hx hb dX12_finish_139 rfl rfl ?_
  obtain ⟨h21, hq⟩ := hq
  obtain ⟨h22, hq⟩ := hq
  refine q_iald C hw hw.2.2.1 h21 h22 dX12_finish_140 ?_
  refine lv_iconst (v := 1) hx hb dX12_finish_141 (by decide) ?_
  refine lv_iadd hx hb dX12_finish_142 ?_
  refine q_iast C hw hw.2.2.1 h21 h22 dX12_finish_143 (fun H locs hw => ?_)
  generalize e24 : uI M q15 (Int32.toNatClampNeg (mI M q17 (Int32.toNatClampNeg x1))) ((mI M q15 (Int32.toNatClampNeg (mI M q17 (Int32.toNatClampNeg x1)))) + 1) = M23 at hw
  replace hq := hq M23 e24.symm
  have e16 : mR M23 a0 20 = some q15 := by rw [← e24, mR_uI]; exact e16
  have e18 : mR M23 a0 41 = some q17 := by rw [← e24, mR_uI]; exact e18
  refine lv_iload_n hx hb dX12_finish_144 rfl (lv_at hl 2 rfl) ?_
  refine lv_if_eq (tgt := 163) hx hb dX12_finish_145 (by decide) (fun c25 => ?_) (fun c25 => ?_)
  · replace hq := hq.1 c25
    exact lt_X12_finish_163  C hr hlk hn h0 hk56 hq hw (lv_sub hl [0, 1] rfl)
  · replace hq := hq.2 c25
    refine lv_aload_n hx hb dX12_finish_148 rfl (lv_at hl 0 rfl) ?_
    obtain ⟨q26, e27, hq⟩ := hq
    refine gfX12_35 C hw hw.2.2.1 h0 e27 dX12_finish_149 ?_
    refine lv_aload_n hx hb dX12_finish_152 rfl (lv_at hl 0 rfl) ?_
    refine gfX12_84 C hw hw.2.2.1 h0 e18 dX12_finish_153 ?_
    refine lv_iload_n hx hb dX12_finish_156 rfl (lv_at hl 1 rfl) ?_
    refine q_iald C hw hw.2.2.1 h19 h20 dX12_finish_157 ?_
    refine lv_dup2_11 hx hb dX12_finish_158 rfl rfl ?_
    obtain ⟨h28, hq⟩ := hq
    obtain ⟨h29, hq⟩ := hq
    refine q_iald C hw hw.2.2.1 h28 h29 dX12_finish_159 ?_
    refine lv_iconst (v := 1) hx hb dX12_finish_160 (by decide) ?_
    refine lv_iadd hx hb dX12_finish_161 ?_
    refine q_iast C hw hw.2.2.1 h28 h29 dX12_finish_162 (fun H locs hw => ?_)
    generalize e31 : uI M23 q26 (Int32.toNatClampNeg (mI M23 q17 (Int32.toNatClampNeg x1))) ((mI M23 q26 (Int32.toNatClampNeg (mI M23 q17 (Int32.toNatClampNeg x1)))) + 1) = M30 at hw
    replace hq := hq M30 e31.symm
    have e16 : mR M30 a0 20 = some q15 := by rw [← e31, mR_uI]; exact e16
    have e18 : mR M30 a0 41 = some q17 := by rw [← e31, mR_uI]; exact e18
    have e27 : mR M30 a0 21 = some q26 := by rw [← e31, mR_uI]; exact e27
    exact lt_X12_finish_163  C hr hlk hn h0 hk56 hq hw (lv_sub hl [0, 1] rfl)
set_option maxHeartbeats 4000000 in
set_option maxRecDepth 100000 in
theorem lp_X12_finish_68 {l : Launch} {g : Gh} {p : Program} {e : Env} {s : State} {m : MethodId} {args : Array Value} {below : List Frame} {meth : Method} {c : Code} {M0 : Mem} {a0 : Nat} {post : Int32 → Mem → Prop}  (C : Cx g p s m args c cX12_finish 4 RX12) (hr : meth.sig.returnType = (some .boolean)) (hlk : meth.locks = false) (hn : meth.name = "finish") (h0 : okc (gB g) M0 a0 12) {bk56 : Int32 × Mem → Prop} (hk56 : ∀ (x1 : Int32) (M : Mem) (H : Heap) (locs : List Loc) (ls : Array Slot), bk56 (x1, M) → Wd g s M0 M H locs → lv_has ls 4 [(0, .ref a0), (1, .int x1)] → W p l e (rmo 1 0 0) s m args below meth c H locs 0 0 (MQ below (Cq g M0 (pI post)) args s 0 0 (gA g)) (F0 m 56 ls [])) : ∀ (nf : Nat) (x1 : Int32) (x2 : Int32) (x3 : Int32)  (M : Mem) (H : Heap) (locs : List Loc) (ls : Array Slot), lfp (fun bk z => bd_X12_finish_68  g M0 a0 post bk56 bk z.1 z.2.1 z.2.2.1 z.2.2.2) nf (x1, x2, x3, M) → Wd g s M0 M H locs → lv_has ls 4 [(0, .ref a0), (1, .int x1), (2, .int x2), (3, .int x3)] → W p l e (rmo 1 0 0) s m args below meth c H locs 0 0 (MQ below (Cq g M0 (pI post)) args s 0 0 (gA g)) (F0 m 68 ls []) := by
  have hx := C.1.1
  have hb := C.1.2.1
  intro nf
  induction nf with
  | zero => intro _ _ _ _ H locs ls hq; exact hq.elim
  | succ nf hk68 =>
    intro x1 x2 x3 M H locs ls hq hw hl
    replace hq : bd_X12_finish_68  g M0 a0 post bk56 (lfp (fun bk z => bd_X12_finish_68  g M0 a0 post bk56 bk z.1 z.2.1 z.2.2.1 z.2.2.2) nf) x1 x2 x3 M := hq
    unfold bd_X12_finish_68 at hq
    refine lv_iload_n hx hb dX12_finish_68 rfl (lv_at hl 3 rfl) ?_
    refine lv_aload_n hx hb dX12_finish_69 rfl (lv_at hl 0 rfl) ?_
    refine gfX12_290 C hw hw.2.2.1 h0 dX12_finish_70 ?_
    refine lv_icmp_ge (tgt := 129) hx hb dX12_finish_73 (by decide) (fun c32 => ?_) (fun c32 => ?_)
    · replace hq := hq.1 c32
      exact lt_X12_finish_129  C hr hlk hn h0 hk56 hq hw (lv_sub hl [0, 1, 2] rfl)
    · replace hq := hq.2 c32
      refine lv_iload_n hx hb dX12_finish_76 rfl (lv_at hl 2 rfl) ?_
      refine lv_if_ne (tgt := 117) hx hb dX12_finish_77 (by decide) (fun c33 => ?_) (fun c33 => ?_)
      · replace hq := hq.2 c33
        refine lv_iconst (v := 1) hx hb dX12_finish_117 (by decide) ?_
        refine lv_goto (tgt := 122) hx hb dX12_finish_118 (by decide) ?_
        refine lv_istore_n (lv' := [(2, .int 1), (0, .ref a0), (1, .int x1), (3, .int x3)]) hx hb dX12_finish_122 rfl hl (by decide) rfl (fun ls hl => ?_)
        refine lv_iinc (v := (x3 + 1)) (lv' := [(3, .int (x3 + 1)), (2, .int 1), (0, .ref a0), (1, .int x1)]) hx hb dX12_finish_123 hl (k := 3) rfl rfl (by decide) rfl (fun ls hl => ?_)
        refine lv_goto (tgt := 68) hx hb dX12_finish_126 (by decide) ?_
        exact hk68 _ _ _ _ _ _ _ hq hw (lv_sub hl [2, 3, 1, 0] rfl)
      · replace hq := hq.1 c33
        refine lv_aload_n hx hb dX12_finish_80 rfl (lv_at hl 0 rfl) ?_
        obtain ⟨q34, e35, hq⟩ := hq
        refine gfX12_93 C hw hw.2.2.1 h0 e35 dX12_finish_81 ?_
        refine lv_iload_n hx hb dX12_finish_84 rfl (lv_at hl 3 rfl) ?_
        obtain ⟨h36, hq⟩ := hq
        obtain ⟨h37, hq⟩ := hq
        refine q_iald C hw hw.2.2.1 h36 h37 dX12_finish_85 ?_
        refine lv_iload_n hx hb dX12_finish_86 rfl (lv_at hl 1 rfl) ?_
        refine lv_icmp_ne (tgt := 121) hx hb dX12_finish_87 (by decide) (fun c38 => ?_) (fun c38 => ?_)
        · replace hq := hq.2 c38
          refine lv_iconst (v := 0) hx hb dX12_finish_121 (by decide) ?_
          refine lv_istore_n (lv' := [(2, .int 0), (0, .ref a0), (1, .int x1), (3, .int x3)]) hx hb dX12_finish_122 rfl hl (by decide) rfl (fun ls hl => ?_)
          refine lv_iinc (v := (x3 + 1)) (lv' := [(3, .int (x3 + 1)), (2, .int 0), (0, .ref a0), (1, .int x1)]) hx hb dX12_finish_123 hl (k := 3) rfl rfl (by decide) rfl (fun ls hl => ?_)
          refine lv_goto (tgt := 68) hx hb dX12_finish_126 (by decide) ?_
          exact hk68 _ _ _ _ _ _ _ hq hw (lv_sub hl [2, 3, 1, 0] rfl)
        · replace hq := hq.1 c38
          refine lv_aload_n hx hb dX12_finish_90 rfl (lv_at hl 0 rfl) ?_
          obtain ⟨q39, e40, hq⟩ := hq
          refine gfX12_96 C hw hw.2.2.1 h0 e40 dX12_finish_91 ?_
          refine lv_iload_n hx hb dX12_finish_94 rfl (lv_at hl 3 rfl) ?_
          obtain ⟨h41, hq⟩ := hq
          obtain ⟨h42, hq⟩ := hq
          refine q_iald C hw hw.2.2.1 h41 h42 dX12_finish_95 ?_
          refine lv_if_ne (tgt := 121) hx hb dX12_finish_96 (by decide) (fun c43 => ?_) (fun c43 => ?_)
          · replace hq := hq.2 c43
            refine lv_iconst (v := 0) hx hb dX12_finish_121 (by decide) ?_
            refine lv_istore_n (lv' := [(2, .int 0), (0, .ref a0), (1, .int x1), (3, .int x3)]) hx hb dX12_finish_122 rfl hl (by decide) rfl (fun ls hl => ?_)
            refine lv_iinc (v := (x3 + 1)) (lv' := [(3, .int (x3 + 1)), (2, .int 0), (0, .ref a0), (1, .int x1)]) hx hb dX12_finish_123 hl (k := 3) rfl rfl (by decide) rfl (fun ls hl => ?_)
            refine lv_goto (tgt := 68) hx hb dX12_finish_126 (by decide) ?_
            exact hk68 _ _ _ _ _ _ _ hq hw (lv_sub hl [2, 3, 1, 0] rfl)
          · replace hq := hq.1 c43
            refine lv_aload_n hx hb dX12_finish_99 rfl (lv_at hl 0 rfl) ?_
            obtain ⟨q44, e45, hq⟩ := hq
            refine gfX12_105 C hw hw.2.2.1 h0 e45 dX12_finish_100 ?_
            refine lv_iload_n hx hb dX12_finish_103 rfl (lv_at hl 3 rfl) ?_
            obtain ⟨h46, hq⟩ := hq
            obtain ⟨h47, hq⟩ := hq
            refine q_zald C hw hw.2.2.1 h46 h47 dX12_finish_104 ?_
            refine lv_if_eq (tgt := 121) hx hb dX12_finish_105 (by decide) (fun c48 => ?_) (fun c48 => ?_)
            · replace hq := hq.1 c48
              refine lv_iconst (v := 0) hx hb dX12_finish_121 (by decide) ?_
              refine lv_istore_n (lv' := [(2, .int 0), (0, .ref a0), (1, .int x1), (3, .int x3)]) hx hb dX12_finish_122 rfl hl (by decide) rfl (fun ls hl => ?_)
              refine lv_iinc (v := (x3 + 1)) (lv' := [(3, .int (x3 + 1)), (2, .int 0), (0, .ref a0), (1, .int x1)]) hx hb dX12_finish_123 hl (k := 3) rfl rfl (by decide) rfl (fun ls hl => ?_)
              refine lv_goto (tgt := 68) hx hb dX12_finish_126 (by decide) ?_
              exact hk68 _ _ _ _ _ _ _ hq hw (lv_sub hl [2, 3, 1, 0] rfl)
            · replace hq := hq.2 c48
              refine lv_aload_n hx hb dX12_finish_108 rfl (lv_at hl 0 rfl) ?_
              obtain ⟨q49, e50, hq⟩ := hq
              refine gfX12_108 C hw hw.2.2.1 h0 e50 dX12_finish_109 ?_
              refine lv_iload_n hx hb dX12_finish_112 rfl (lv_at hl 3 rfl) ?_
              obtain ⟨h51, hq⟩ := hq
              obtain ⟨h52, hq⟩ := hq
              refine q_zald C hw hw.2.2.1 h51 h52 dX12_finish_113 ?_
              refine lv_if_ne (tgt := 121) hx hb dX12_finish_114 (by decide) (fun c53 => ?_) (fun c53 => ?_)
              · replace hq := hq.2 c53
                refine lv_iconst (v := 0) hx hb dX12_finish_121 (by decide) ?_
                refine lv_istore_n (lv' := [(2, .int 0), (0, .ref a0), (1, .int x1), (3, .int x3)]) hx hb dX12_finish_122 rfl hl (by decide) rfl (fun ls hl => ?_)
                refine lv_iinc (v := (x3 + 1)) (lv' := [(3, .int (x3 + 1)), (2, .int 0), (0, .ref a0), (1, .int x1)]) hx hb dX12_finish_123 hl (k := 3) rfl rfl (by decide) rfl (fun ls hl => ?_)
                refine lv_goto (tgt := 68) hx hb dX12_finish_126 (by decide) ?_
                exact hk68 _ _ _ _ _ _ _ hq hw (lv_sub hl [2, 3, 1, 0] rfl)
              · replace hq := hq.1 c53
                refine lv_iconst (v := 1) hx hb dX12_finish_117 (by decide) ?_
                refine lv_goto (tgt := 122) hx hb dX12_finish_118 (by decide) ?_
                refine lv_istore_n (lv' := [(2, .int 1), (0, .ref a0), (1, .int x1), (3, .int x3)]) hx hb dX12_finish_122 rfl hl (by decide) rfl (fun ls hl => ?_)
                refine lv_iinc (v := (x3 + 1)) (lv' := [(3, .int (x3 + 1)), (2, .int 1), (0, .ref a0), (1, .int x1)]) hx hb dX12_finish_123 hl (k := 3) rfl rfl (by decide) rfl (fun ls hl => ?_)
                refine lv_goto (tgt := 68) hx hb dX12_finish_126 (by decide) ?_
                exact hk68 _ _ _ _ _ _ _ hq hw (lv_sub hl [2, 3, 1, 0] rfl)
set_option maxHeartbeats 4000000 in
set_option maxRecDepth 100000 in
theorem lp_X12_finish_56 {l : Launch} {g : Gh} {p : Program} {e : Env} {s : State} {m : MethodId} {args : Array Value} {below : List Frame} {meth : Method} {c : Code} {M0 : Mem} {a0 : Nat} {post : Int32 → Mem → Prop}  (C : Cx g p s m args c cX12_finish 4 RX12) (hr : meth.sig.returnType = (some .boolean)) (hlk : meth.locks = false) (hn : meth.name = "finish") (h0 : okc (gB g) M0 a0 12)  : ∀ (nf : Nat) (x1 : Int32)  (M : Mem) (H : Heap) (locs : List Loc) (ls : Array Slot), lfp (fun bk z => bd_X12_finish_56  g M0 a0 post  bk z.1 z.2) nf (x1, M) → Wd g s M0 M H locs → lv_has ls 4 [(0, .ref a0), (1, .int x1)] → W p l e (rmo 1 0 0) s m args below meth c H locs 0 0 (MQ below (Cq g M0 (pI post)) args s 0 0 (gA g)) (F0 m 56 ls []) := by
  have hx := C.1.1
  have hb := C.1.2.1
  intro nf
  induction nf with
  | zero => intro _ _ H locs ls hq; exact hq.elim
  | succ nf hk56 =>
    intro x1 M H locs ls hq hw hl
    replace hq : bd_X12_finish_56  g M0 a0 post  (lfp (fun bk z => bd_X12_finish_56  g M0 a0 post  bk z.1 z.2) nf) x1 M := hq
    unfold bd_X12_finish_56 at hq
    refine lv_iload_n hx hb dX12_finish_56 rfl (lv_at hl 1 rfl) ?_
    refine lv_aload_n hx hb dX12_finish_57 rfl (lv_at hl 0 rfl) ?_
    refine gfX12_274 C hw hw.2.2.1 h0 dX12_finish_58 ?_
    refine lv_icmp_ge (tgt := 196) hx hb dX12_finish_61 (by decide) (fun c54 => ?_) (fun c54 => ?_)
    · replace hq := hq.1 c54
      exact lt_X12_finish_196  C hr hlk hn h0  hq hw (lv_sub hl [0] rfl)
    · replace hq := hq.2 c54
      refine lv_iconst (v := 0) hx hb dX12_finish_64 (by decide) ?_
      refine lv_istore_n (lv' := [(2, .int 0), (0, .ref a0), (1, .int x1)]) hx hb dX12_finish_65 rfl hl (by decide) rfl (fun ls hl => ?_)
      refine lv_iconst (v := 0) hx hb dX12_finish_66 (by decide) ?_
      refine lv_istore_n (lv' := [(3, .int 0), (2, .int 0), (0, .ref a0), (1, .int x1)]) hx hb dX12_finish_67 rfl hl (by decide) rfl (fun ls hl => ?_)
      obtain ⟨nf, hq⟩ := hq
      exact lp_X12_finish_68  C hr hlk hn h0 hk56 nf _ _ _ _ _ _ _ hq hw (lv_sub hl [2, 3, 1, 0] rfl)
set_option maxHeartbeats 4000000 in
set_option maxRecDepth 100000 in
theorem ct_X12_finish {l : Launch} {g : Gh} {M0 : Mem} {a0 : Nat} {post : Int32 → Mem → Prop}  (hq : wp_X12_finish  g M0 a0 post) : Ct l g yX12_finish cX12_finish 4 (some .boolean) 1 0 0 [.ref a0] M0 (pI post) := by
  unfold wp_X12_finish at hq
  obtain ⟨h0, hq⟩ := hq
  refine Ct.of (by decide) (Nat.le_of_ble_eq_true rfl) ?_
  intro p e s m below meth c ls C hr hlk hn hl hw
  have hx := C.1.1
  have hb := C.1.2.1
  have hl : lv_has ls 4 [(0, .ref a0)] := hl
  refine lv_aload_n hx hb dX12_finish_0 rfl (lv_at hl 0 rfl) ?_
  refine lv_iconst (v := 0) hx hb dX12_finish_1 (by decide) ?_
  refine pfX12_123 C hw hw.2.2.1 h0 dX12_finish_2 (fun H locs hw => ?_)
  generalize e56 : uI M0 a0 0 0 = M55 at hw
  replace hq := hq M55 e56.symm
  refine lv_aload_n hx hb dX12_finish_5 rfl (lv_at hl 0 rfl) ?_
  refine gfX12_247 C hw hw.2.2.1 h0 dX12_finish_6 ?_
  refine lv_if_eq (tgt := 20) hx hb dX12_finish_9 (by decide) (fun c57 => ?_) (fun c57 => ?_)
  · replace hq := hq.1 c57
    refine lv_iconst (v := 0) hx hb dX12_finish_20 (by decide) ?_
    exact r_zret C hr hlk hw dX12_finish_21 (Nat.le_refl _) (Nat.le_refl _) (by decide) ⟨_, rfl, hq⟩
  · replace hq := hq.2 c57
    refine lv_aload_n hx hb dX12_finish_12 rfl (lv_at hl 0 rfl) ?_
    refine gfX12_305 C hw hw.2.2.1 h0 dX12_finish_13 ?_
    refine lv_iconst (v := 3) hx hb dX12_finish_16 (by decide) ?_
    refine lv_icmp_ge (tgt := 22) hx hb dX12_finish_17 (by decide) (fun c58 => ?_) (fun c58 => ?_)
    · replace hq := hq.1 c58
      refine lv_aload_n hx hb dX12_finish_22 rfl (lv_at hl 0 rfl) ?_
      refine lv_aload_n hx hb dX12_finish_23 rfl (lv_at hl 0 rfl) ?_
      refine gfX12_284 C hw hw.2.2.1 h0 dX12_finish_24 ?_
      refine lv_aload_n hx hb dX12_finish_27 rfl (lv_at hl 0 rfl) ?_
      refine gfX12_311 C hw hw.2.2.1 h0 dX12_finish_28 ?_
      refine lv_aload_n hx hb dX12_finish_31 rfl (lv_at hl 0 rfl) ?_
      refine gfX12_314 C hw hw.2.2.1 h0 dX12_finish_32 ?_
      refine r_callV (T := TX12) (N := 67) (ci := 12) (index := 331) (n := 3) (d2 := 0) (mc := 0) (ms := 0) (As := [.int (mI M55 a0 46), .int (mI M55 a0 53), .int (mI M55 a0 54)]) (rest := []) C hw (ct_X12_counts hq) kvX12_331 hq.1 (by decide) rfl ⟨by decide, by decide⟩ ⟨by decide, by decide⟩ rfl hl.1 rfl (Nat.le_of_ble_eq_true rfl) dX12_finish_35 (fun r M60 H locs hp hle hw => ?_)
      obtain ⟨rfl, hq⟩ := hp
      refine W.eq (g2 := F0 m 38 ls []) rfl ?_
      refine lv_aload_n hx hb dX12_finish_38 rfl (lv_at hl 0 rfl) ?_
      refine lv_aload_n hx hb dX12_finish_39 rfl (lv_at hl 0 rfl) ?_
      refine gfX12_287 C hw hw.2.2.1 h0 dX12_finish_40 ?_
      refine lv_aload_n hx hb dX12_finish_43 rfl (lv_at hl 0 rfl) ?_
      refine gfX12_314 C hw hw.2.2.1 h0 dX12_finish_44 ?_
      refine lv_aload_n hx hb dX12_finish_47 rfl (lv_at hl 0 rfl) ?_
      refine gfX12_311 C hw hw.2.2.1 h0 dX12_finish_48 ?_
      refine r_callV (T := TX12) (N := 67) (ci := 12) (index := 331) (n := 3) (d2 := 0) (mc := 0) (ms := 0) (As := [.int (mI M60 a0 47), .int (mI M60 a0 54), .int (mI M60 a0 53)]) (rest := []) C hw (ct_X12_counts hq) kvX12_331 hq.1 (by decide) rfl ⟨by decide, by decide⟩ ⟨by decide, by decide⟩ rfl hl.1 rfl (Nat.le_of_ble_eq_true rfl) dX12_finish_51 (fun r M62 H locs hp hle hw => ?_)
      obtain ⟨rfl, hq⟩ := hp
      refine W.eq (g2 := F0 m 54 ls []) rfl ?_
      refine lv_iconst (v := 0) hx hb dX12_finish_54 (by decide) ?_
      refine lv_istore_n (lv' := [(1, .int 0), (0, .ref a0)]) hx hb dX12_finish_55 rfl hl (by decide) rfl (fun ls hl => ?_)
      obtain ⟨nf, hq⟩ := hq
      exact lp_X12_finish_56  C hr hlk hn h0  nf _ _ _ _ _ hq hw (lv_sub hl [1, 0] rfl)
    · replace hq := hq.2 c58
      refine lv_iconst (v := 0) hx hb dX12_finish_20 (by decide) ?_
      exact r_zret C hr hlk hw dX12_finish_21 (Nat.le_refl _) (Nat.le_refl _) (by decide) ⟨_, rfl, hq⟩

set_option maxRecDepth 100000 in
def wp_X12_call  (g : Gh) (M0 : Mem) (a0 : Nat) (post : Int32 → Mem → Prop) : Prop :=
  okc (gB g) M0 a0 12 ∧ (∀ M1, M1 = uI M0 a0 0 0 → (∀ M3, M3 = uI M1 a0 48 0 → (((mI M1 a0 48) = 0 ∨ (mI M1 a0 48) = 1) ∧ (post (mI M1 a0 48) M3))))
set_option maxHeartbeats 4000000 in
set_option maxRecDepth 100000 in
theorem ct_X12_call {l : Launch} {g : Gh} {M0 : Mem} {a0 : Nat} {post : Int32 → Mem → Prop}  (hq : wp_X12_call  g M0 a0 post) : Ct l g yX12_call cX12_call 2 (some .boolean) 0 0 0 [.ref a0] M0 (pI post) := by
  unfold wp_X12_call at hq
  obtain ⟨h0, hq⟩ := hq
  refine Ct.of (by decide) (Nat.le_of_ble_eq_true rfl) ?_
  intro p e s m below meth c ls C hr hlk hn hl hw
  have hx := C.1.1
  have hb := C.1.2.1
  have hl : lv_has ls 2 [(0, .ref a0)] := hl
  refine lv_aload_n hx hb dX12_call_0 rfl (lv_at hl 0 rfl) ?_
  refine lv_iconst (v := 0) hx hb dX12_call_1 (by decide) ?_
  refine pfX12_123 C hw hw.2.2.1 h0 dX12_call_2 (fun H locs hw => ?_)
  generalize e2 : uI M0 a0 0 0 = M1 at hw
  replace hq := hq M1 e2.symm
  refine lv_aload_n hx hb dX12_call_5 rfl (lv_at hl 0 rfl) ?_
  refine gfX12_247 C hw hw.2.2.1 h0 dX12_call_6 ?_
  refine lv_istore_n (lv' := [(1, .int (mI M1 a0 48)), (0, .ref a0)]) hx hb dX12_call_9 rfl hl (by decide) rfl (fun ls hl => ?_)
  refine lv_aload_n hx hb dX12_call_10 rfl (lv_at hl 1 rfl) ?_
  refine lv_iconst (v := 0) hx hb dX12_call_11 (by decide) ?_
  refine pfX12_247 C hw hw.2.2.1 h0 (by decide) dX12_call_12 (fun H locs hw => ?_)
  generalize e4 : uI M1 a0 48 0 = M3 at hw
  replace hq := hq M3 e4.symm
  refine lv_iload_n hx hb dX12_call_15 rfl (lv_at hl 0 rfl) ?_
  obtain ⟨h5, hq⟩ := hq
  exact r_zret C hr hlk hw dX12_call_16 (Nat.le_refl _) (Nat.le_refl _) h5 ⟨_, rfl, hq⟩

set_option maxRecDepth 100000 in
def wp_X12_isAhead  (g : Gh) (M0 : Mem) (a0 : Nat) (p1 : Int32) (p2 : Int32) (post : Int32 → Mem → Prop) : Prop :=
  okc (gB g) M0 a0 12 ∧ (∃ q1, mR M0 a0 62 = some q1 ∧ (okc (gB g) M0 q1 14 ∧ (vp_in p1 (mN M0 q1) ∧ (vp_in p2 (mN M0 q1) ∧ ((((mI M0 q1 (Int32.toNatClampNeg p1)) = (mI M0 q1 (Int32.toNatClampNeg p2))) → ∃ q7, mR M0 a0 64 = some q7 ∧ (okc (gB g) M0 q7 14 ∧ (vp_in p1 (mN M0 q7) ∧ (∃ q11, mR M0 a0 65 = some q11 ∧ (okc (gB g) M0 q11 14 ∧ (vp_in p1 (mN M0 q11) ∧ (vp_in p2 (mN M0 q7) ∧ (vp_in p2 (mN M0 q11) ∧ (((((mI M0 q7 (Int32.toNatClampNeg p1)) - (mI M0 q11 (Int32.toNatClampNeg p1))) = ((mI M0 q7 (Int32.toNatClampNeg p2)) - (mI M0 q11 (Int32.toNatClampNeg p2)))) → (((mI M0 q7 (Int32.toNatClampNeg p1)) = (mI M0 q7 (Int32.toNatClampNeg p2))) → ((p2 ≤ p1) → post 0 M0) ∧ (¬ (p2 ≤ p1) → post 1 M0)) ∧ (¬ ((mI M0 q7 (Int32.toNatClampNeg p1)) = (mI M0 q7 (Int32.toNatClampNeg p2))) → (((mI M0 q7 (Int32.toNatClampNeg p1)) ≤ (mI M0 q7 (Int32.toNatClampNeg p2))) → post 0 M0) ∧ (¬ ((mI M0 q7 (Int32.toNatClampNeg p1)) ≤ (mI M0 q7 (Int32.toNatClampNeg p2))) → post 1 M0))) ∧ (¬ (((mI M0 q7 (Int32.toNatClampNeg p1)) - (mI M0 q11 (Int32.toNatClampNeg p1))) = ((mI M0 q7 (Int32.toNatClampNeg p2)) - (mI M0 q11 (Int32.toNatClampNeg p2)))) → ((((mI M0 q7 (Int32.toNatClampNeg p1)) - (mI M0 q11 (Int32.toNatClampNeg p1))) ≤ ((mI M0 q7 (Int32.toNatClampNeg p2)) - (mI M0 q11 (Int32.toNatClampNeg p2)))) → post 0 M0) ∧ (¬ (((mI M0 q7 (Int32.toNatClampNeg p1)) - (mI M0 q11 (Int32.toNatClampNeg p1))) ≤ ((mI M0 q7 (Int32.toNatClampNeg p2)) - (mI M0 q11 (Int32.toNatClampNeg p2)))) → post 1 M0))))))))))) ∧ (¬ ((mI M0 q1 (Int32.toNatClampNeg p1)) = (mI M0 q1 (Int32.toNatClampNeg p2))) → (((mI M0 q1 (Int32.toNatClampNeg p1)) ≤ (mI M0 q1 (Int32.toNatClampNeg p2))) → post 0 M0) ∧ (¬ ((mI M0 q1 (Int32.toNatClampNeg p1)) ≤ (mI M0 q1 (Int32.toNatClampNeg p2))) → post 1 M0)))))))
set_option maxHeartbeats 4000000 in
set_option maxRecDepth 100000 in
theorem ct_X12_isAhead {l : Launch} {g : Gh} {M0 : Mem} {a0 : Nat} {p1 : Int32} {p2 : Int32} {post : Int32 → Mem → Prop}  (hq : wp_X12_isAhead  g M0 a0 p1 p2 post) : Ct l g yX12_isAhead cX12_isAhead 5 (some .boolean) 0 0 0 [.ref a0, .int p1, .int p2] M0 (pI post) := by
  unfold wp_X12_isAhead at hq
  obtain ⟨h0, hq⟩ := hq
  refine Ct.of (by decide) (Nat.le_of_ble_eq_true rfl) ?_
  intro p e s m below meth c ls C hr hlk hn hl hw
  have hx := C.1.1
  have hb := C.1.2.1
  have hl : lv_has ls 5 [(0, .ref a0), (1, .int p1), (2, .int p2)] := hl
  refine lv_aload_n hx hb dX12_isAhead_0 rfl (lv_at hl 0 rfl) ?_
  obtain ⟨q1, e2, hq⟩ := hq
  refine gfX12_111 C hw hw.2.2.1 h0 e2 dX12_isAhead_1 ?_
  refine lv_iload_n hx hb dX12_isAhead_4 rfl (lv_at hl 1 rfl) ?_
  obtain ⟨h3, hq⟩ := hq
  obtain ⟨h4, hq⟩ := hq
  refine q_iald C hw hw.2.2.1 h3 h4 dX12_isAhead_5 ?_
  refine lv_aload_n hx hb dX12_isAhead_6 rfl (lv_at hl 0 rfl) ?_
  refine gfX12_111 C hw hw.2.2.1 h0 e2 dX12_isAhead_7 ?_
  refine lv_iload_n hx hb dX12_isAhead_10 rfl (lv_at hl 2 rfl) ?_
  obtain ⟨h5, hq⟩ := hq
  refine q_iald C hw hw.2.2.1 h3 h5 dX12_isAhead_11 ?_
  refine lv_icmp_eq (tgt := 36) hx hb dX12_isAhead_12 (by decide) (fun c6 => ?_) (fun c6 => ?_)
  · replace hq := hq.1 c6
    refine lv_aload_n hx hb dX12_isAhead_36 rfl (lv_at hl 0 rfl) ?_
    obtain ⟨q7, e8, hq⟩ := hq
    refine gfX12_117 C hw hw.2.2.1 h0 e8 dX12_isAhead_37 ?_
    refine lv_iload_n hx hb dX12_isAhead_40 rfl (lv_at hl 1 rfl) ?_
    obtain ⟨h9, hq⟩ := hq
    obtain ⟨h10, hq⟩ := hq
    refine q_iald C hw hw.2.2.1 h9 h10 dX12_isAhead_41 ?_
    refine lv_aload_n hx hb dX12_isAhead_42 rfl (lv_at hl 0 rfl) ?_
    obtain ⟨q11, e12, hq⟩ := hq
    refine gfX12_120 C hw hw.2.2.1 h0 e12 dX12_isAhead_43 ?_
    refine lv_iload_n hx hb dX12_isAhead_46 rfl (lv_at hl 1 rfl) ?_
    obtain ⟨h13, hq⟩ := hq
    obtain ⟨h14, hq⟩ := hq
    refine q_iald C hw hw.2.2.1 h13 h14 dX12_isAhead_47 ?_
    refine lv_isub hx hb dX12_isAhead_48 ?_
    refine lv_istore_n (lv' := [(3, .int ((mI M0 q7 (Int32.toNatClampNeg p1)) - (mI M0 q11 (Int32.toNatClampNeg p1)))), (0, .ref a0), (1, .int p1), (2, .int p2)]) hx hb dX12_isAhead_49 rfl hl (by decide) rfl (fun ls hl => ?_)
    refine lv_aload_n hx hb dX12_isAhead_50 rfl (lv_at hl 1 rfl) ?_
    refine gfX12_117 C hw hw.2.2.1 h0 e8 dX12_isAhead_51 ?_
    refine lv_iload_n hx hb dX12_isAhead_54 rfl (lv_at hl 3 rfl) ?_
    obtain ⟨h15, hq⟩ := hq
    refine q_iald C hw hw.2.2.1 h9 h15 dX12_isAhead_55 ?_
    refine lv_aload_n hx hb dX12_isAhead_56 rfl (lv_at hl 1 rfl) ?_
    refine gfX12_120 C hw hw.2.2.1 h0 e12 dX12_isAhead_57 ?_
    refine lv_iload_n hx hb dX12_isAhead_60 rfl (lv_at hl 3 rfl) ?_
    obtain ⟨h16, hq⟩ := hq
    refine q_iald C hw hw.2.2.1 h13 h16 dX12_isAhead_61 ?_
    refine lv_isub hx hb dX12_isAhead_62 ?_
    refine lv_istore (lv' := [(4, .int ((mI M0 q7 (Int32.toNatClampNeg p2)) - (mI M0 q11 (Int32.toNatClampNeg p2)))), (3, .int ((mI M0 q7 (Int32.toNatClampNeg p1)) - (mI M0 q11 (Int32.toNatClampNeg p1)))), (0, .ref a0), (1, .int p1), (2, .int p2)]) hx hb dX12_isAhead_63 hl (by decide) rfl (fun ls hl => ?_)
    refine lv_iload_n hx hb dX12_isAhead_65 rfl (lv_at hl 1 rfl) ?_
    refine lv_iload hx hb dX12_isAhead_66 (lv_at hl 0 rfl) ?_
    refine lv_icmp_eq (tgt := 83) hx hb dX12_isAhead_68 (by decide) (fun c17 => ?_) (fun c17 => ?_)
    · replace hq := hq.1 c17
      refine lv_aload_n hx hb dX12_isAhead_83 rfl (lv_at hl 2 rfl) ?_
      refine gfX12_117 C hw hw.2.2.1 h0 e8 dX12_isAhead_84 ?_
      refine lv_iload_n hx hb dX12_isAhead_87 rfl (lv_at hl 3 rfl) ?_
      refine q_iald C hw hw.2.2.1 h9 h10 dX12_isAhead_88 ?_
      refine lv_aload_n hx hb dX12_isAhead_89 rfl (lv_at hl 2 rfl) ?_
      refine gfX12_117 C hw hw.2.2.1 h0 e8 dX12_isAhead_90 ?_
      refine lv_iload_n hx hb dX12_isAhead_93 rfl (lv_at hl 4 rfl) ?_
      refine q_iald C hw hw.2.2.1 h9 h15 dX12_isAhead_94 ?_
      refine lv_icmp_eq (tgt := 121) hx hb dX12_isAhead_95 (by decide) (fun c18 => ?_) (fun c18 => ?_)
      · replace hq := hq.1 c18
        refine lv_iload_n hx hb dX12_isAhead_121 rfl (lv_at hl 3 rfl) ?_
        refine lv_iload_n hx hb dX12_isAhead_122 rfl (lv_at hl 4 rfl) ?_
        refine lv_icmp_ge (tgt := 130) hx hb dX12_isAhead_123 (by decide) (fun c19 => ?_) (fun c19 => ?_)
        · replace hq := hq.1 c19
          refine lv_iconst (v := 0) hx hb dX12_isAhead_130 (by decide) ?_
          exact r_zret C hr hlk hw dX12_isAhead_131 (Nat.le_refl _) (Nat.le_refl _) (by decide) ⟨_, rfl, hq⟩
        · replace hq := hq.2 c19
          refine lv_iconst (v := 1) hx hb dX12_isAhead_126 (by decide) ?_
          refine lv_goto (tgt := 131) hx hb dX12_isAhead_127 (by decide) ?_
          exact r_zret C hr hlk hw dX12_isAhead_131 (Nat.le_refl _) (Nat.le_refl _) (by decide) ⟨_, rfl, hq⟩
      · replace hq := hq.2 c18
        refine lv_aload_n hx hb dX12_isAhead_98 rfl (lv_at hl 2 rfl) ?_
        refine gfX12_117 C hw hw.2.2.1 h0 e8 dX12_isAhead_99 ?_
        refine lv_iload_n hx hb dX12_isAhead_102 rfl (lv_at hl 3 rfl) ?_
        refine q_iald C hw hw.2.2.1 h9 h10 dX12_isAhead_103 ?_
        refine lv_aload_n hx hb dX12_isAhead_104 rfl (lv_at hl 2 rfl) ?_
        refine gfX12_117 C hw hw.2.2.1 h0 e8 dX12_isAhead_105 ?_
        refine lv_iload_n hx hb dX12_isAhead_108 rfl (lv_at hl 4 rfl) ?_
        refine q_iald C hw hw.2.2.1 h9 h15 dX12_isAhead_109 ?_
        refine lv_icmp_le (tgt := 117) hx hb dX12_isAhead_110 (by decide) (fun c20 => ?_) (fun c20 => ?_)
        · replace hq := hq.1 c20
          refine lv_iconst (v := 0) hx hb dX12_isAhead_117 (by decide) ?_
          refine lv_goto (tgt := 131) hx hb dX12_isAhead_118 (by decide) ?_
          exact r_zret C hr hlk hw dX12_isAhead_131 (Nat.le_refl _) (Nat.le_refl _) (by decide) ⟨_, rfl, hq⟩
        · replace hq := hq.2 c20
          refine lv_iconst (v := 1) hx hb dX12_isAhead_113 (by decide) ?_
          refine lv_goto (tgt := 131) hx hb dX12_isAhead_114 (by decide) ?_
          exact r_zret C hr hlk hw dX12_isAhead_131 (Nat.le_refl _) (Nat.le_refl _) (by decide) ⟨_, rfl, hq⟩
    · replace hq := hq.2 c17
      refine lv_iload_n hx hb dX12_isAhead_71 rfl (lv_at hl 1 rfl) ?_
      refine lv_iload hx hb dX12_isAhead_72 (lv_at hl 0 rfl) ?_
      refine lv_icmp_le (tgt := 81) hx hb dX12_isAhead_74 (by decide) (fun c21 => ?_) (fun c21 => ?_)
      · replace hq := hq.1 c21
        refine lv_iconst (v := 0) hx hb dX12_isAhead_81 (by decide) ?_
        exact r_zret C hr hlk hw dX12_isAhead_82 (Nat.le_refl _) (Nat.le_refl _) (by decide) ⟨_, rfl, hq⟩
      · replace hq := hq.2 c21
        refine lv_iconst (v := 1) hx hb dX12_isAhead_77 (by decide) ?_
        refine lv_goto (tgt := 82) hx hb dX12_isAhead_78 (by decide) ?_
        exact r_zret C hr hlk hw dX12_isAhead_82 (Nat.le_refl _) (Nat.le_refl _) (by decide) ⟨_, rfl, hq⟩
  · replace hq := hq.2 c6
    refine lv_aload_n hx hb dX12_isAhead_15 rfl (lv_at hl 0 rfl) ?_
    refine gfX12_111 C hw hw.2.2.1 h0 e2 dX12_isAhead_16 ?_
    refine lv_iload_n hx hb dX12_isAhead_19 rfl (lv_at hl 1 rfl) ?_
    refine q_iald C hw hw.2.2.1 h3 h4 dX12_isAhead_20 ?_
    refine lv_aload_n hx hb dX12_isAhead_21 rfl (lv_at hl 0 rfl) ?_
    refine gfX12_111 C hw hw.2.2.1 h0 e2 dX12_isAhead_22 ?_
    refine lv_iload_n hx hb dX12_isAhead_25 rfl (lv_at hl 2 rfl) ?_
    refine q_iald C hw hw.2.2.1 h3 h5 dX12_isAhead_26 ?_
    refine lv_icmp_le (tgt := 34) hx hb dX12_isAhead_27 (by decide) (fun c22 => ?_) (fun c22 => ?_)
    · replace hq := hq.1 c22
      refine lv_iconst (v := 0) hx hb dX12_isAhead_34 (by decide) ?_
      exact r_zret C hr hlk hw dX12_isAhead_35 (Nat.le_refl _) (Nat.le_refl _) (by decide) ⟨_, rfl, hq⟩
    · replace hq := hq.2 c22
      refine lv_iconst (v := 1) hx hb dX12_isAhead_30 (by decide) ?_
      refine lv_goto (tgt := 35) hx hb dX12_isAhead_31 (by decide) ?_
      exact r_zret C hr hlk hw dX12_isAhead_35 (Nat.le_refl _) (Nat.le_refl _) (by decide) ⟨_, rfl, hq⟩

set_option maxRecDepth 100000 in
def lb_X12_table_93  (g : Gh) (M0 : Mem) (a0 : Nat) (p1 : Int32) (p2 : Int32) (post : Int32 → Mem → Prop)  (x3 : Int32)  (M : Mem) : Prop :=
  ((p2 = 0) → post x3 M) ∧ (¬ (p2 = 0) → ((p2 = 1) → ∃ q17, mR M a0 62 = some q17 ∧ (okc (gB g) M0 q17 14 ∧ (vp_in x3 (mN M0 q17) ∧ (post (mI M q17 (Int32.toNatClampNeg x3)) M)))) ∧ (¬ (p2 = 1) → ((p2 = 2) → ∃ q13, mR M a0 63 = some q13 ∧ (okc (gB g) M0 q13 14 ∧ (vp_in x3 (mN M0 q13) ∧ (post (mI M q13 (Int32.toNatClampNeg x3)) M)))) ∧ (¬ (p2 = 2) → ((p2 = 3) → ∃ q9, mR M a0 64 = some q9 ∧ (okc (gB g) M0 q9 14 ∧ (vp_in x3 (mN M0 q9) ∧ (post (mI M q9 (Int32.toNatClampNeg x3)) M)))) ∧ (¬ (p2 = 3) → ∃ q5, mR M a0 65 = some q5 ∧ (okc (gB g) M0 q5 14 ∧ (vp_in x3 (mN M0 q5) ∧ (post (mI M q5 (Int32.toNatClampNeg x3)) M)))))))
set_option maxRecDepth 100000 in
def lb_X12_table_78  (g : Gh) (M0 : Mem) (a0 : Nat) (p1 : Int32) (p2 : Int32) (post : Int32 → Mem → Prop) (bk31 : Int32 × Int32 × Mem → Prop) (x3 : Int32) (x4 : Int32) (x5 : Int32)  (M : Mem) : Prop :=
  ((x5 = p1) → bk31 (x4, (x4 + 1), M)) ∧ (¬ (x5 = p1) → bk31 (x3, (x4 + 1), M))
set_option maxRecDepth 100000 in
def bd_X12_table_44  (g : Gh) (M0 : Mem) (a0 : Nat) (p1 : Int32) (p2 : Int32) (post : Int32 → Mem → Prop) (bk31 : Int32 × Int32 × Mem → Prop) (bk44 : Int32 × Int32 × Int32 × Int32 × Mem → Prop) (x3 : Int32) (x4 : Int32) (x5 : Int32) (x6 : Int32)  (M : Mem) : Prop :=
  ((12 ≤ x6) → lb_X12_table_78  g M0 a0 p1 p2 post bk31 x3 x4 x5 M) ∧ (¬ (12 ≤ x6) → ((x6 = x4) → bk44 (x3, x4, x5, (x6 + 1), M)) ∧ (¬ (x6 = x4) → wp_X12_isAhead g M a0 x6 x4 (fun v24 M25 => ((v24 = 0) → bk44 (x3, x4, x5, (x6 + 1), M25)) ∧ (¬ (v24 = 0) → bk44 (x3, x4, (x5 + 1), (x6 + 1), M25)))))
set_option maxRecDepth 100000 in
def bd_X12_table_31  (g : Gh) (M0 : Mem) (a0 : Nat) (p1 : Int32) (p2 : Int32) (post : Int32 → Mem → Prop)  (bk31 : Int32 × Int32 × Mem → Prop) (x3 : Int32) (x4 : Int32)  (M : Mem) : Prop :=
  ((12 ≤ x4) → lb_X12_table_93  g M0 a0 p1 p2 post  x3 M) ∧ (¬ (12 ≤ x4) → (∃ n : Nat, lfp (fun bk z => bd_X12_table_44  g M0 a0 p1 p2 post bk31 bk z.1 z.2.1 z.2.2.1 z.2.2.2.1 z.2.2.2.2) n (x3, x4, 0, 0, M)))
set_option maxRecDepth 100000 in
def wp_X12_table  (g : Gh) (M0 : Mem) (a0 : Nat) (p1 : Int32) (p2 : Int32) (post : Int32 → Mem → Prop) : Prop :=
  okc (gB g) M0 a0 12 ∧ (∀ M28, M28 = uI M0 a0 0 0 → (((p1 < 0) → post (-1) M28) ∧ (¬ (p1 < 0) → ((12 ≤ p1) → post (-1) M28) ∧ (¬ (12 ≤ p1) → ((p2 < 0) → post (-1) M28) ∧ (¬ (p2 < 0) → ((p2 ≤ 4) → (∃ n : Nat, lfp (fun bk z => bd_X12_table_31  g M0 a0 p1 p2 post  bk z.1 z.2.1 z.2.2) n (0, 0, M28))) ∧ (¬ (p2 ≤ 4) → post (-1) M28))))))
set_option maxHeartbeats 4000000 in
set_option maxRecDepth 100000 in
theorem lt_X12_table_93 {l : Launch} {g : Gh} {p : Program} {e : Env} {s : State} {m : MethodId} {args : Array Value} {below : List Frame} {meth : Method} {c : Code} {H : Heap} {locs : List Loc} {ls : Array Slot} {M0 M : Mem} {a0 : Nat} {p1 : Int32} {p2 : Int32} {post : Int32 → Mem → Prop} {x3 : Int32}   (C : Cx g p s m args c cX12_table 7 RX12) (hr : meth.sig.returnType = (some .int)) (hlk : meth.locks = false) (hn : meth.name = "table") (h0 : okc (gB g) M0 a0 12)  (hq : lb_X12_table_93  g M0 a0 p1 p2 post  x3 M) (hw : Wd g s M0 M H locs) (hl : lv_has ls 7 [(0, .ref a0), (1, .int p1), (2, .int p2), (3, .int x3)]) : W p l e (rmo 1 0 0) s m args below meth c H locs 0 0 (MQ below (Cq g M0 (pI post)) args s 0 0 (gA g)) (F0 m 93 ls []) := by
  have hx := C.1.1
  have hb := C.1.2.1
  unfold lb_X12_table_93 at hq
  refine lv_iload_n hx hb dX12_table_93 rfl (lv_at hl 2 rfl) ?_
  refine lv_if_ne (tgt := 101) hx hb dX12_table_94 (by decide) (fun c1 => ?_) (fun c1 => ?_)
  · replace hq := hq.2 c1
    refine lv_iload_n hx hb dX12_table_101 rfl (lv_at hl 2 rfl) ?_
    refine lv_iconst (v := 1) hx hb dX12_table_102 (by decide) ?_
    refine lv_icmp_ne (tgt := 115) hx hb dX12_table_103 (by decide) (fun c2 => ?_) (fun c2 => ?_)
    · replace hq := hq.2 c2
      refine lv_iload_n hx hb dX12_table_115 rfl (lv_at hl 2 rfl) ?_
      refine lv_iconst (v := 2) hx hb dX12_table_116 (by decide) ?_
      refine lv_icmp_ne (tgt := 129) hx hb dX12_table_117 (by decide) (fun c3 => ?_) (fun c3 => ?_)
      · replace hq := hq.2 c3
        refine lv_iload_n hx hb dX12_table_129 rfl (lv_at hl 2 rfl) ?_
        refine lv_iconst (v := 3) hx hb dX12_table_130 (by decide) ?_
        refine lv_icmp_ne (tgt := 143) hx hb dX12_table_131 (by decide) (fun c4 => ?_) (fun c4 => ?_)
        · replace hq := hq.2 c4
          refine lv_aload_n hx hb dX12_table_143 rfl (lv_at hl 0 rfl) ?_
          obtain ⟨q5, e6, hq⟩ := hq
          refine gfX12_120 C hw hw.2.2.1 h0 e6 dX12_table_144 ?_
          refine lv_iload_n hx hb dX12_table_147 rfl (lv_at hl 3 rfl) ?_
          obtain ⟨h7, hq⟩ := hq
          obtain ⟨h8, hq⟩ := hq
          refine q_iald C hw hw.2.2.1 h7 h8 dX12_table_148 ?_
          exact r_iret C hr hlk hw dX12_table_149 (Nat.le_refl _) (Nat.le_refl _) ⟨_, rfl, hq⟩
        · replace hq := hq.1 c4
          refine lv_aload_n hx hb dX12_table_134 rfl (lv_at hl 0 rfl) ?_
          obtain ⟨q9, e10, hq⟩ := hq
          refine gfX12_117 C hw hw.2.2.1 h0 e10 dX12_table_135 ?_
          refine lv_iload_n hx hb dX12_table_138 rfl (lv_at hl 3 rfl) ?_
          obtain ⟨h11, hq⟩ := hq
          obtain ⟨h12, hq⟩ := hq
          refine q_iald C hw hw.2.2.1 h11 h12 dX12_table_139 ?_
          refine lv_goto (tgt := 149) hx hb dX12_table_140 (by decide) ?_
          exact r_iret C hr hlk hw dX12_table_149 (Nat.le_refl _) (Nat.le_refl _) ⟨_, rfl, hq⟩
      · replace hq := hq.1 c3
        refine lv_aload_n hx hb dX12_table_120 rfl (lv_at hl 0 rfl) ?_
        obtain ⟨q13, e14, hq⟩ := hq
        refine gfX12_114 C hw hw.2.2.1 h0 e14 dX12_table_121 ?_
        refine lv_iload_n hx hb dX12_table_124 rfl (lv_at hl 3 rfl) ?_
        obtain ⟨h15, hq⟩ := hq
        obtain ⟨h16, hq⟩ := hq
        refine q_iald C hw hw.2.2.1 h15 h16 dX12_table_125 ?_
        refine lv_goto (tgt := 149) hx hb dX12_table_126 (by decide) ?_
        exact r_iret C hr hlk hw dX12_table_149 (Nat.le_refl _) (Nat.le_refl _) ⟨_, rfl, hq⟩
    · replace hq := hq.1 c2
      refine lv_aload_n hx hb dX12_table_106 rfl (lv_at hl 0 rfl) ?_
      obtain ⟨q17, e18, hq⟩ := hq
      refine gfX12_111 C hw hw.2.2.1 h0 e18 dX12_table_107 ?_
      refine lv_iload_n hx hb dX12_table_110 rfl (lv_at hl 3 rfl) ?_
      obtain ⟨h19, hq⟩ := hq
      obtain ⟨h20, hq⟩ := hq
      refine q_iald C hw hw.2.2.1 h19 h20 dX12_table_111 ?_
      refine lv_goto (tgt := 149) hx hb dX12_table_112 (by decide) ?_
      exact r_iret C hr hlk hw dX12_table_149 (Nat.le_refl _) (Nat.le_refl _) ⟨_, rfl, hq⟩
  · replace hq := hq.1 c1
    refine lv_iload_n hx hb dX12_table_97 rfl (lv_at hl 3 rfl) ?_
    refine lv_goto (tgt := 149) hx hb dX12_table_98 (by decide) ?_
    exact r_iret C hr hlk hw dX12_table_149 (Nat.le_refl _) (Nat.le_refl _) ⟨_, rfl, hq⟩
set_option maxHeartbeats 4000000 in
set_option maxRecDepth 100000 in
theorem lt_X12_table_78 {l : Launch} {g : Gh} {p : Program} {e : Env} {s : State} {m : MethodId} {args : Array Value} {below : List Frame} {meth : Method} {c : Code} {H : Heap} {locs : List Loc} {ls : Array Slot} {M0 M : Mem} {a0 : Nat} {p1 : Int32} {p2 : Int32} {post : Int32 → Mem → Prop} {x3 : Int32} {x4 : Int32} {x5 : Int32}   (C : Cx g p s m args c cX12_table 7 RX12) (hr : meth.sig.returnType = (some .int)) (hlk : meth.locks = false) (hn : meth.name = "table") (h0 : okc (gB g) M0 a0 12) {bk31 : Int32 × Int32 × Mem → Prop} (hk31 : ∀ (x3 : Int32) (x4 : Int32) (M : Mem) (H : Heap) (locs : List Loc) (ls : Array Slot), bk31 (x3, x4, M) → Wd g s M0 M H locs → lv_has ls 7 [(0, .ref a0), (1, .int p1), (2, .int p2), (3, .int x3), (4, .int x4)] → W p l e (rmo 1 0 0) s m args below meth c H locs 0 0 (MQ below (Cq g M0 (pI post)) args s 0 0 (gA g)) (F0 m 31 ls [])) (hq : lb_X12_table_78  g M0 a0 p1 p2 post bk31 x3 x4 x5 M) (hw : Wd g s M0 M H locs) (hl : lv_has ls 7 [(0, .ref a0), (1, .int p1), (2, .int p2), (3, .int x3), (4, .int x4), (5, .int x5)]) : W p l e (rmo 1 0 0) s m args below meth c H locs 0 0 (MQ below (Cq g M0 (pI post)) args s 0 0 (gA g)) (F0 m 78 ls []) := by
  have hx := C.1.1
  have hb := C.1.2.1
  unfold lb_X12_table_78 at hq
  refine lv_iload hx hb dX12_table_78 (lv_at hl 5 rfl) ?_
  refine lv_iload_n hx hb dX12_table_80 rfl (lv_at hl 1 rfl) ?_
  refine lv_icmp_ne (tgt := 87) hx hb dX12_table_81 (by decide) (fun c21 => ?_) (fun c21 => ?_)
  · replace hq := hq.2 c21
    refine lv_iinc (v := (x4 + 1)) (lv' := [(4, .int (x4 + 1)), (0, .ref a0), (1, .int p1), (2, .int p2), (3, .int x3), (5, .int x5)]) hx hb dX12_table_87 hl (k := 4) rfl rfl (by decide) rfl (fun ls hl => ?_)
    refine lv_goto (tgt := 31) hx hb dX12_table_90 (by decide) ?_
    exact hk31 _ _ _ _ _ _ hq hw (lv_sub hl [1, 2, 3, 4, 0] rfl)
  · replace hq := hq.1 c21
    refine lv_iload hx hb dX12_table_84 (lv_at hl 4 rfl) ?_
    refine lv_istore_n (lv' := [(3, .int x4), (0, .ref a0), (1, .int p1), (2, .int p2), (4, .int x4), (5, .int x5)]) hx hb dX12_table_86 rfl hl (by decide) rfl (fun ls hl => ?_)
    refine lv_iinc (v := (x4 + 1)) (lv' := [(4, .int (x4 + 1)), (3, .int x4), (0, .ref a0), (1, .int p1), (2, .int p2), (5, .int x5)]) hx hb dX12_table_87 hl (k := 4) rfl rfl (by decide) rfl (fun ls hl => ?_)
    refine lv_goto (tgt := 31) hx hb dX12_table_90 (by decide) ?_
    exact hk31 _ _ _ _ _ _ hq hw (lv_sub hl [2, 3, 4, 1, 0] rfl)
set_option maxHeartbeats 4000000 in
set_option maxRecDepth 100000 in
theorem lp_X12_table_44 {l : Launch} {g : Gh} {p : Program} {e : Env} {s : State} {m : MethodId} {args : Array Value} {below : List Frame} {meth : Method} {c : Code} {M0 : Mem} {a0 : Nat} {p1 : Int32} {p2 : Int32} {post : Int32 → Mem → Prop}  (C : Cx g p s m args c cX12_table 7 RX12) (hr : meth.sig.returnType = (some .int)) (hlk : meth.locks = false) (hn : meth.name = "table") (h0 : okc (gB g) M0 a0 12) {bk31 : Int32 × Int32 × Mem → Prop} (hk31 : ∀ (x3 : Int32) (x4 : Int32) (M : Mem) (H : Heap) (locs : List Loc) (ls : Array Slot), bk31 (x3, x4, M) → Wd g s M0 M H locs → lv_has ls 7 [(0, .ref a0), (1, .int p1), (2, .int p2), (3, .int x3), (4, .int x4)] → W p l e (rmo 1 0 0) s m args below meth c H locs 0 0 (MQ below (Cq g M0 (pI post)) args s 0 0 (gA g)) (F0 m 31 ls [])) : ∀ (nf : Nat) (x3 : Int32) (x4 : Int32) (x5 : Int32) (x6 : Int32)  (M : Mem) (H : Heap) (locs : List Loc) (ls : Array Slot), lfp (fun bk z => bd_X12_table_44  g M0 a0 p1 p2 post bk31 bk z.1 z.2.1 z.2.2.1 z.2.2.2.1 z.2.2.2.2) nf (x3, x4, x5, x6, M) → Wd g s M0 M H locs → lv_has ls 7 [(0, .ref a0), (1, .int p1), (2, .int p2), (3, .int x3), (4, .int x4), (5, .int x5), (6, .int x6)] → W p l e (rmo 1 0 0) s m args below meth c H locs 0 0 (MQ below (Cq g M0 (pI post)) args s 0 0 (gA g)) (F0 m 44 ls []) := by
  have hx := C.1.1
  have hb := C.1.2.1
  intro nf
  induction nf with
  | zero => intro _ _ _ _ _ H locs ls hq; exact hq.elim
  | succ nf hk44 =>
    intro x3 x4 x5 x6 M H locs ls hq hw hl
    replace hq : bd_X12_table_44  g M0 a0 p1 p2 post bk31 (lfp (fun bk z => bd_X12_table_44  g M0 a0 p1 p2 post bk31 bk z.1 z.2.1 z.2.2.1 z.2.2.2.1 z.2.2.2.2) nf) x3 x4 x5 x6 M := hq
    unfold bd_X12_table_44 at hq
    refine lv_iload hx hb dX12_table_44 (lv_at hl 6 rfl) ?_
    refine lv_bipush (v := 12) hx hb dX12_table_46 (by decide) ?_
    refine lv_icmp_ge (tgt := 78) hx hb dX12_table_48 (by decide) (fun c22 => ?_) (fun c22 => ?_)
    · replace hq := hq.1 c22
      exact lt_X12_table_78  C hr hlk hn h0 hk31 hq hw (lv_sub hl [0, 1, 2, 3, 4, 5] rfl)
    · replace hq := hq.2 c22
      refine lv_iload hx hb dX12_table_51 (lv_at hl 6 rfl) ?_
      refine lv_iload hx hb dX12_table_53 (lv_at hl 4 rfl) ?_
      refine lv_icmp_eq (tgt := 72) hx hb dX12_table_55 (by decide) (fun c23 => ?_) (fun c23 => ?_)
      · replace hq := hq.1 c23
        refine lv_iinc (v := (x6 + 1)) (lv' := [(6, .int (x6 + 1)), (0, .ref a0), (1, .int p1), (2, .int p2), (3, .int x3), (4, .int x4), (5, .int x5)]) hx hb dX12_table_72 hl (k := 6) rfl rfl (by decide) rfl (fun ls hl => ?_)
        refine lv_goto (tgt := 44) hx hb dX12_table_75 (by decide) ?_
        exact hk44 _ _ _ _ _ _ _ _ hq hw (lv_sub hl [1, 2, 3, 4, 5, 6, 0] rfl)
      · replace hq := hq.2 c23
        refine lv_aload_n hx hb dX12_table_58 rfl (lv_at hl 0 rfl) ?_
        refine lv_iload hx hb dX12_table_59 (lv_at hl 6 rfl) ?_
        refine lv_iload hx hb dX12_table_61 (lv_at hl 4 rfl) ?_
        refine r_callV (T := TX12) (N := 67) (ci := 12) (index := 337) (n := 2) (d2 := 0) (mc := 0) (ms := 0) (As := [.int x6, .int x4]) (rest := []) C hw (ct_X12_isAhead hq) kvX12_337 hq.1 (by decide) rfl ⟨by decide, by decide⟩ ⟨by decide, by decide⟩ rfl hl.1 rfl (Nat.le_of_ble_eq_true rfl) dX12_table_63 (fun r M25 H locs hp hle hw => ?_)
        obtain ⟨v24, rfl, hq⟩ := hp
        refine W.eq (g2 := F0 m 66 ls [.int v24]) rfl ?_
        refine lv_if_eq (tgt := 72) hx hb dX12_table_66 (by decide) (fun c26 => ?_) (fun c26 => ?_)
        · replace hq := hq.1 c26
          refine lv_iinc (v := (x6 + 1)) (lv' := [(6, .int (x6 + 1)), (0, .ref a0), (1, .int p1), (2, .int p2), (3, .int x3), (4, .int x4), (5, .int x5)]) hx hb dX12_table_72 hl (k := 6) rfl rfl (by decide) rfl (fun ls hl => ?_)
          refine lv_goto (tgt := 44) hx hb dX12_table_75 (by decide) ?_
          exact hk44 _ _ _ _ _ _ _ _ hq hw (lv_sub hl [1, 2, 3, 4, 5, 6, 0] rfl)
        · replace hq := hq.2 c26
          refine lv_iinc (v := (x5 + 1)) (lv' := [(5, .int (x5 + 1)), (0, .ref a0), (1, .int p1), (2, .int p2), (3, .int x3), (4, .int x4), (6, .int x6)]) hx hb dX12_table_69 hl (k := 5) rfl rfl (by decide) rfl (fun ls hl => ?_)
          refine lv_iinc (v := (x6 + 1)) (lv' := [(6, .int (x6 + 1)), (5, .int (x5 + 1)), (0, .ref a0), (1, .int p1), (2, .int p2), (3, .int x3), (4, .int x4)]) hx hb dX12_table_72 hl (k := 6) rfl rfl (by decide) rfl (fun ls hl => ?_)
          refine lv_goto (tgt := 44) hx hb dX12_table_75 (by decide) ?_
          exact hk44 _ _ _ _ _ _ _ _ hq hw (lv_sub hl [2, 3, 4, 5, 6, 1, 0] rfl)
set_option maxHeartbeats 4000000 in
set_option maxRecDepth 100000 in
theorem lp_X12_table_31 {l : Launch} {g : Gh} {p : Program} {e : Env} {s : State} {m : MethodId} {args : Array Value} {below : List Frame} {meth : Method} {c : Code} {M0 : Mem} {a0 : Nat} {p1 : Int32} {p2 : Int32} {post : Int32 → Mem → Prop}  (C : Cx g p s m args c cX12_table 7 RX12) (hr : meth.sig.returnType = (some .int)) (hlk : meth.locks = false) (hn : meth.name = "table") (h0 : okc (gB g) M0 a0 12)  : ∀ (nf : Nat) (x3 : Int32) (x4 : Int32)  (M : Mem) (H : Heap) (locs : List Loc) (ls : Array Slot), lfp (fun bk z => bd_X12_table_31  g M0 a0 p1 p2 post  bk z.1 z.2.1 z.2.2) nf (x3, x4, M) → Wd g s M0 M H locs → lv_has ls 7 [(0, .ref a0), (1, .int p1), (2, .int p2), (3, .int x3), (4, .int x4)] → W p l e (rmo 1 0 0) s m args below meth c H locs 0 0 (MQ below (Cq g M0 (pI post)) args s 0 0 (gA g)) (F0 m 31 ls []) := by
  have hx := C.1.1
  have hb := C.1.2.1
  intro nf
  induction nf with
  | zero => intro _ _ _ H locs ls hq; exact hq.elim
  | succ nf hk31 =>
    intro x3 x4 M H locs ls hq hw hl
    replace hq : bd_X12_table_31  g M0 a0 p1 p2 post  (lfp (fun bk z => bd_X12_table_31  g M0 a0 p1 p2 post  bk z.1 z.2.1 z.2.2) nf) x3 x4 M := hq
    unfold bd_X12_table_31 at hq
    refine lv_iload hx hb dX12_table_31 (lv_at hl 4 rfl) ?_
    refine lv_bipush (v := 12) hx hb dX12_table_33 (by decide) ?_
    refine lv_icmp_ge (tgt := 93) hx hb dX12_table_35 (by decide) (fun c27 => ?_) (fun c27 => ?_)
    · replace hq := hq.1 c27
      exact lt_X12_table_93  C hr hlk hn h0  hq hw (lv_sub hl [0, 1, 2, 3] rfl)
    · replace hq := hq.2 c27
      refine lv_iconst (v := 0) hx hb dX12_table_38 (by decide) ?_
      refine lv_istore (lv' := [(5, .int 0), (0, .ref a0), (1, .int p1), (2, .int p2), (3, .int x3), (4, .int x4)]) hx hb dX12_table_39 hl (by decide) rfl (fun ls hl => ?_)
      refine lv_iconst (v := 0) hx hb dX12_table_41 (by decide) ?_
      refine lv_istore (lv' := [(6, .int 0), (5, .int 0), (0, .ref a0), (1, .int p1), (2, .int p2), (3, .int x3), (4, .int x4)]) hx hb dX12_table_42 hl (by decide) rfl (fun ls hl => ?_)
      obtain ⟨nf, hq⟩ := hq
      exact lp_X12_table_44  C hr hlk hn h0 hk31 nf _ _ _ _ _ _ _ _ hq hw (lv_sub hl [2, 3, 4, 5, 6, 1, 0] rfl)
set_option maxHeartbeats 4000000 in
set_option maxRecDepth 100000 in
theorem ct_X12_table {l : Launch} {g : Gh} {M0 : Mem} {a0 : Nat} {p1 : Int32} {p2 : Int32} {post : Int32 → Mem → Prop}  (hq : wp_X12_table  g M0 a0 p1 p2 post) : Ct l g yX12_table cX12_table 7 (some .int) 1 0 0 [.ref a0, .int p1, .int p2] M0 (pI post) := by
  unfold wp_X12_table at hq
  obtain ⟨h0, hq⟩ := hq
  refine Ct.of (by decide) (Nat.le_of_ble_eq_true rfl) ?_
  intro p e s m below meth c ls C hr hlk hn hl hw
  have hx := C.1.1
  have hb := C.1.2.1
  have hl : lv_has ls 7 [(0, .ref a0), (1, .int p1), (2, .int p2)] := hl
  refine lv_aload_n hx hb dX12_table_0 rfl (lv_at hl 0 rfl) ?_
  refine lv_iconst (v := 0) hx hb dX12_table_1 (by decide) ?_
  refine pfX12_123 C hw hw.2.2.1 h0 dX12_table_2 (fun H locs hw => ?_)
  generalize e29 : uI M0 a0 0 0 = M28 at hw
  replace hq := hq M28 e29.symm
  refine lv_iload_n hx hb dX12_table_5 rfl (lv_at hl 1 rfl) ?_
  refine lv_if_lt (tgt := 24) hx hb dX12_table_6 (by decide) (fun c30 => ?_) (fun c30 => ?_)
  · replace hq := hq.1 c30
    refine lv_iconst (v := (-1)) hx hb dX12_table_24 (by decide) ?_
    exact r_iret C hr hlk hw dX12_table_25 (Nat.le_refl _) (Nat.le_refl _) ⟨_, rfl, hq⟩
  · replace hq := hq.2 c30
    refine lv_iload_n hx hb dX12_table_9 rfl (lv_at hl 1 rfl) ?_
    refine lv_bipush (v := 12) hx hb dX12_table_10 (by decide) ?_
    refine lv_icmp_ge (tgt := 24) hx hb dX12_table_12 (by decide) (fun c31 => ?_) (fun c31 => ?_)
    · replace hq := hq.1 c31
      refine lv_iconst (v := (-1)) hx hb dX12_table_24 (by decide) ?_
      exact r_iret C hr hlk hw dX12_table_25 (Nat.le_refl _) (Nat.le_refl _) ⟨_, rfl, hq⟩
    · replace hq := hq.2 c31
      refine lv_iload_n hx hb dX12_table_15 rfl (lv_at hl 2 rfl) ?_
      refine lv_if_lt (tgt := 24) hx hb dX12_table_16 (by decide) (fun c32 => ?_) (fun c32 => ?_)
      · replace hq := hq.1 c32
        refine lv_iconst (v := (-1)) hx hb dX12_table_24 (by decide) ?_
        exact r_iret C hr hlk hw dX12_table_25 (Nat.le_refl _) (Nat.le_refl _) ⟨_, rfl, hq⟩
      · replace hq := hq.2 c32
        refine lv_iload_n hx hb dX12_table_19 rfl (lv_at hl 2 rfl) ?_
        refine lv_iconst (v := 4) hx hb dX12_table_20 (by decide) ?_
        refine lv_icmp_le (tgt := 26) hx hb dX12_table_21 (by decide) (fun c33 => ?_) (fun c33 => ?_)
        · replace hq := hq.1 c33
          refine lv_iconst (v := 0) hx hb dX12_table_26 (by decide) ?_
          refine lv_istore_n (lv' := [(3, .int 0), (0, .ref a0), (1, .int p1), (2, .int p2)]) hx hb dX12_table_27 rfl hl (by decide) rfl (fun ls hl => ?_)
          refine lv_iconst (v := 0) hx hb dX12_table_28 (by decide) ?_
          refine lv_istore (lv' := [(4, .int 0), (3, .int 0), (0, .ref a0), (1, .int p1), (2, .int p2)]) hx hb dX12_table_29 hl (by decide) rfl (fun ls hl => ?_)
          obtain ⟨nf, hq⟩ := hq
          exact lp_X12_table_31  C hr hlk hn h0  nf _ _ _ _ _ _ hq hw (lv_sub hl [2, 3, 4, 1, 0] rfl)
        · replace hq := hq.2 c33
          refine lv_iconst (v := (-1)) hx hb dX12_table_24 (by decide) ?_
          exact r_iret C hr hlk hw dX12_table_25 (Nat.le_refl _) (Nat.le_refl _) ⟨_, rfl, hq⟩

set_option maxRecDepth 100000 in
def wp_X12_count  (g : Gh) (M0 : Mem) (a0 : Nat) (p1 : Int32) (post : Int32 → Mem → Prop) : Prop :=
  okc (gB g) M0 a0 12 ∧ (∀ M1, M1 = uI M0 a0 0 0 → (((p1 = 0) → post (mI M1 a0 16) M1) ∧ ((p1 = 1) → post (mI M1 a0 40) M1) ∧ ((p1 = 2) → post (mI M1 a0 39) M1) ∧ ((p1 = 3) → post (mI M1 a0 44) M1) ∧ ((p1 = 4) → post (mI M1 a0 45) M1) ∧ ((p1 = 5) → post (mI M1 a0 66) M1) ∧ ((p1 = 6) → post (mI M1 a0 2) M1) ∧ ((¬ (p1 = 0) ∧ ¬ (p1 = 1) ∧ ¬ (p1 = 2) ∧ ¬ (p1 = 3) ∧ ¬ (p1 = 4) ∧ ¬ (p1 = 5) ∧ ¬ (p1 = 6)) → post (-1) M1)))
set_option maxHeartbeats 4000000 in
set_option maxRecDepth 100000 in
theorem ct_X12_count {l : Launch} {g : Gh} {M0 : Mem} {a0 : Nat} {p1 : Int32} {post : Int32 → Mem → Prop}  (hq : wp_X12_count  g M0 a0 p1 post) : Ct l g yX12_count cX12_count 2 (some .int) 0 0 0 [.ref a0, .int p1] M0 (pI post) := by
  unfold wp_X12_count at hq
  obtain ⟨h0, hq⟩ := hq
  refine Ct.of (by decide) (Nat.le_of_ble_eq_true rfl) ?_
  intro p e s m below meth c ls C hr hlk hn hl hw
  have hx := C.1.1
  have hb := C.1.2.1
  have hl : lv_has ls 2 [(0, .ref a0), (1, .int p1)] := hl
  refine lv_aload_n hx hb dX12_count_0 rfl (lv_at hl 0 rfl) ?_
  refine lv_iconst (v := 0) hx hb dX12_count_1 (by decide) ?_
  refine pfX12_123 C hw hw.2.2.1 h0 dX12_count_2 (fun H locs hw => ?_)
  generalize e2 : uI M0 a0 0 0 = M1 at hw
  replace hq := hq M1 e2.symm
  refine lv_iload_n hx hb dX12_count_5 rfl (lv_at hl 1 rfl) ?_
  by_cases c4 : p1 = 0
  · refine r_table (v := 0) (off := 42) (tgt := 48) hx hb dX12_count_6 c4 (by decide) (by decide) rfl (by decide) ?_
    replace hq := hq.1 c4
    refine lv_aload_n hx hb dX12_count_48 rfl (lv_at hl 0 rfl) ?_
    refine gfX12_181 C hw hw.2.2.1 h0 dX12_count_49 ?_
    exact r_iret C hr hlk hw dX12_count_52 (Nat.le_refl _) (Nat.le_refl _) ⟨_, rfl, hq⟩
  by_cases c5 : p1 = 1
  · refine r_table (v := 1) (off := 47) (tgt := 53) hx hb dX12_count_6 c5 (by decide) (by decide) rfl (by decide) ?_
    replace hq := hq.2.1 c5
    refine lv_aload_n hx hb dX12_count_53 rfl (lv_at hl 0 rfl) ?_
    refine gfX12_270 C hw hw.2.2.1 h0 dX12_count_54 ?_
    exact r_iret C hr hlk hw dX12_count_57 (Nat.le_refl _) (Nat.le_refl _) ⟨_, rfl, hq⟩
  by_cases c6 : p1 = 2
  · refine r_table (v := 2) (off := 52) (tgt := 58) hx hb dX12_count_6 c6 (by decide) (by decide) rfl (by decide) ?_
    replace hq := hq.2.2.1 c6
    refine lv_aload_n hx hb dX12_count_58 rfl (lv_at hl 0 rfl) ?_
    refine gfX12_264 C hw hw.2.2.1 h0 dX12_count_59 ?_
    exact r_iret C hr hlk hw dX12_count_62 (Nat.le_refl _) (Nat.le_refl _) ⟨_, rfl, hq⟩
  by_cases c7 : p1 = 3
  · refine r_table (v := 3) (off := 57) (tgt := 63) hx hb dX12_count_6 c7 (by decide) (by decide) rfl (by decide) ?_
    replace hq := hq.2.2.2.1 c7
    refine lv_aload_n hx hb dX12_count_63 rfl (lv_at hl 0 rfl) ?_
    refine gfX12_274 C hw hw.2.2.1 h0 dX12_count_64 ?_
    exact r_iret C hr hlk hw dX12_count_67 (Nat.le_refl _) (Nat.le_refl _) ⟨_, rfl, hq⟩
  by_cases c8 : p1 = 4
  · refine r_table (v := 4) (off := 62) (tgt := 68) hx hb dX12_count_6 c8 (by decide) (by decide) rfl (by decide) ?_
    replace hq := hq.2.2.2.2.1 c8
    refine lv_aload_n hx hb dX12_count_68 rfl (lv_at hl 0 rfl) ?_
    refine gfX12_277 C hw hw.2.2.1 h0 dX12_count_69 ?_
    exact r_iret C hr hlk hw dX12_count_72 (Nat.le_refl _) (Nat.le_refl _) ⟨_, rfl, hq⟩
  by_cases c9 : p1 = 5
  · refine r_table (v := 5) (off := 67) (tgt := 73) hx hb dX12_count_6 c9 (by decide) (by decide) rfl (by decide) ?_
    replace hq := hq.2.2.2.2.2.1 c9
    refine lv_aload_n hx hb dX12_count_73 rfl (lv_at hl 0 rfl) ?_
    refine gfX12_334 C hw hw.2.2.1 h0 dX12_count_74 ?_
    exact r_iret C hr hlk hw dX12_count_77 (Nat.le_refl _) (Nat.le_refl _) ⟨_, rfl, hq⟩
  by_cases c10 : p1 = 6
  · refine r_table (v := 6) (off := 72) (tgt := 78) hx hb dX12_count_6 c10 (by decide) (by decide) rfl (by decide) ?_
    replace hq := hq.2.2.2.2.2.2.1 c10
    refine lv_aload_n hx hb dX12_count_78 rfl (lv_at hl 0 rfl) ?_
    refine gfX12_127 C hw hw.2.2.1 h0 dX12_count_79 ?_
    exact r_iret C hr hlk hw dX12_count_82 (Nat.le_refl _) (Nat.le_refl _) ⟨_, rfl, hq⟩
  refine r_tableOut (tgt := 83) (k := 6) hx hb dX12_count_6 (by decide) (fun j hj => by rcases (show j = 0 ∨ j = 1 ∨ j = 2 ∨ j = 3 ∨ j = 4 ∨ j = 5 ∨ j = 6 by omega) with rfl | rfl | rfl | rfl | rfl | rfl | rfl <;> assumption) (by decide) ?_
  replace hq := hq.2.2.2.2.2.2.2 ⟨c4, c5, c6, c7, c8, c9, c10⟩
  refine lv_iconst (v := (-1)) hx hb dX12_count_83 (by decide) ?_
  exact r_iret C hr hlk hw dX12_count_84 (Nat.le_refl _) (Nat.le_refl _) ⟨_, rfl, hq⟩
