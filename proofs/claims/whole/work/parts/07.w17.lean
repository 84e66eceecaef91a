set_option maxRecDepth 100000 in
def lb_X11_question_66  (g : Gh) (M0 : Mem) (a0 : Nat) (p1 : Int32) (post : Int32 → Mem → Prop)    (M : Mem) : Prop :=
  ∃ q1, mR M a0 1 = some q1 ∧ (okc (gB g) M q1 2 ∧ (post ((-1) - (mI M q1 9)) M))
set_option maxRecDepth 100000 in
def wp_X11_question  (g : Gh) (M0 : Mem) (a0 : Nat) (p1 : Int32) (post : Int32 → Mem → Prop) : Prop :=
  okc (gB g) M0 a0 11 ∧ (((60 ≤ (mI M0 a0 4)) → ∃ q6, mR M0 a0 0 = some q6 ∧ (wp_X10_wipe g M0 q6 (fun M9 => post (-300) M9))) ∧ (¬ (60 ≤ (mI M0 a0 4)) → ((p1 < 0) → ∃ q13, mR M0 a0 0 = some q13 ∧ (wp_X10_wipe g M0 q13 (fun M16 => post (-300) M16))) ∧ (¬ (p1 < 0) → ((p1 < 8) → ∃ q20, mR M0 a0 1 = some q20 ∧ (∃ q22, mR M0 a0 0 = some q22 ∧ (wp_X2_readFrom g M0 q20 q22 (fun M25 => ∃ q27, mR M25 a0 0 = some q27 ∧ (wp_X10_wipe g M25 q27 (fun M30 => ∃ q32, mR M30 a0 1 = some q32 ∧ (okc (gB g) M30 q32 2 ∧ (∀ M35, M35 = uI M30 a0 7 (mI M30 q32 8) → ((((mI M35 a0 7) = 0) → ∃ q38, mR M35 a0 3 = some q38 ∧ (∀ q41 M42, q41 = mT M35 → M42 = nw M35 9 0 → (∃ q46, mR M42 a0 1 = some q46 ∧ (wp_X2_copyOfForm g M42 q46 (fun v48 M49 => ∃ q51, v48 = some q51 ∧ (wp_X9_init g M49 q41 p1 q51 (fun M53 => okc (gB g) M53 q38 20 ∧ (vp_in (mI M35 a0 4) (mN M53 q38) ∧ (∀ M57, M57 = uR M53 q38 (Int32.toNatClampNeg (mI M35 a0 4)) (some q41) → (∀ M59, M59 = uI M57 a0 4 ((mI M57 a0 4) + 1) → (post ((mI M59 a0 4) - 1) M59))))))))))) ∧ (¬ ((mI M35 a0 7) = 0) → lb_X11_question_66  g M0 a0 p1 post   M35)))))))))) ∧ (¬ (p1 < 8) → ∃ q62, mR M0 a0 0 = some q62 ∧ (wp_X10_wipe g M0 q62 (fun M65 => post (-300) M65))))))
set_option maxHeartbeats 4000000 in
set_option maxRecDepth 100000 in
theorem lt_X11_question_66 {l : Launch} {g : Gh} {p : Program} {e : Env} {s : State} {m : MethodId} {args : Array Value} {below : List Frame} {meth : Method} {c : Code} {H : Heap} {locs : List Loc} {ls : Array Slot} {M0 M : Mem} {a0 : Nat} {p1 : Int32} {post : Int32 → Mem → Prop}    (C : Cx g p s m args c cX11_question 2 RX11) (hr : meth.sig.returnType = (some .int)) (hlk : meth.locks = false) (hn : meth.name = "question") (h0 : okc (gB g) M0 a0 11)  (hq : lb_X11_question_66  g M0 a0 p1 post   M) (hw : Wd g s M0 M H locs) (hl : lv_has ls 2 [(0, .ref a0), (1, .int p1)]) : W p l e (rmo 10 5 609) s m args below meth c H locs 0 0 (MQ below (Cq g M0 (pI post)) args s 5 609 (gA g)) (F0 m 66 ls []) := by
  have hx := C.1.1
  have hb := C.1.2.1
  unfold lb_X11_question_66 at hq
  have h00 := h0
  replace h0 := h0.up hw.2.2.1
  refine lv_iconst (v := (-1)) hx hb dX11_question_66 (by decide) ?_
  refine lv_aload_n hx hb dX11_question_67 rfl (lv_at hl 0 rfl) ?_
  obtain ⟨q1, e2, hq⟩ := hq
  refine gfX11_19 C hw (mle_rf _) h0 e2 dX11_question_68 ?_
  obtain ⟨h3, hq⟩ := hq
  refine gfX11_100 C hw (mle_rf _) h3 dX11_question_71 ?_
  refine lv_isub hx hb dX11_question_74 ?_
  have h4 : 0 ≤ 5 ∧ 0 ≤ 609 := by decide
  exact r_iret C hr hlk hw dX11_question_75 h4.1 h4.2 ⟨_, rfl, hq⟩
set_option maxHeartbeats 4000000 in
set_option maxRecDepth 100000 in
theorem ct_X11_question {l : Launch} {g : Gh} {M0 : Mem} {a0 : Nat} {p1 : Int32} {post : Int32 → Mem → Prop}  (hq : wp_X11_question  g M0 a0 p1 post) : Ct l g yX11_question cX11_question 2 (some .int) 10 5 609 [.ref a0, .int p1] M0 (pI post) := by
  unfold wp_X11_question at hq
  obtain ⟨h0, hq⟩ := hq
  have h00 := h0
  refine Ct.of (by decide) (Nat.le_of_ble_eq_true rfl) ?_
  intro p e s m below meth c ls C hr hlk hn hl hw
  have hx := C.1.1
  have hb := C.1.2.1
  have hl : lv_has ls 2 [(0, .ref a0), (1, .int p1)] := hl
  refine lv_aload_n hx hb dX11_question_0 rfl (lv_at hl 0 rfl) ?_
  refine gfX11_36 C hw (mle_rf _) h0 dX11_question_1 ?_
  refine lv_bipush (v := 60) hx hb dX11_question_4 (by decide) ?_
  refine lv_icmp_ge (tgt := 19) hx hb dX11_question_6 (by decide) (fun c5 => ?_) (fun c5 => ?_)
  · replace hq := hq.1 c5
    refine lv_aload_n hx hb dX11_question_19 rfl (lv_at hl 0 rfl) ?_
    obtain ⟨q6, e7, hq⟩ := hq
    refine gfX11_10 C hw (mle_rf _) h0 e7 dX11_question_20 ?_
    have h10 : 0 ≤ 5 ∧ 0 ≤ 609 := by decide
    refine r_callV (T := TX10) (N := 6) (ci := 10) (index := 90) (n := 0) (d2 := 0) (mc := 0) (ms := 0) (As := []) (rest := []) C hw (ct_X10_wipe hq) kvX11_90 hq.1 (by decide) rfl ⟨by decide, by decide⟩ ⟨h10.1, h10.2⟩ rfl hl.1 rfl (Nat.le_of_ble_eq_true rfl) dX11_question_23 (fun r M9 H locs hp hle hw => ?_)
    obtain ⟨rfl, hq⟩ := hp
    have h0 := h0.up hle
    refine W.eq (g2 := F0 m 26 ls []) rfl ?_
    refine lv_sipush (v := (-300)) hx hb dX11_question_26 (by decide) ?_
    have h11 : 0 ≤ 5 ∧ 0 ≤ 609 := by decide
    exact r_iret C hr hlk hw dX11_question_29 h11.1 h11.2 ⟨_, rfl, hq⟩
  · replace hq := hq.2 c5
    refine lv_iload_n hx hb dX11_question_9 rfl (lv_at hl 1 rfl) ?_
    refine lv_if_lt (tgt := 19) hx hb dX11_question_10 (by decide) (fun c12 => ?_) (fun c12 => ?_)
    · replace hq := hq.1 c12
      refine lv_aload_n hx hb dX11_question_19 rfl (lv_at hl 0 rfl) ?_
      obtain ⟨q13, e14, hq⟩ := hq
      refine gfX11_10 C hw (mle_rf _) h0 e14 dX11_question_20 ?_
      have h17 : 0 ≤ 5 ∧ 0 ≤ 609 := by decide
      refine r_callV (T := TX10) (N := 6) (ci := 10) (index := 90) (n := 0) (d2 := 0) (mc := 0) (ms := 0) (As := []) (rest := []) C hw (ct_X10_wipe hq) kvX11_90 hq.1 (by decide) rfl ⟨by decide, by decide⟩ ⟨h17.1, h17.2⟩ rfl hl.1 rfl (Nat.le_of_ble_eq_true rfl) dX11_question_23 (fun r M16 H locs hp hle hw => ?_)
      obtain ⟨rfl, hq⟩ := hp
      have h0 := h0.up hle
      refine W.eq (g2 := F0 m 26 ls []) rfl ?_
      refine lv_sipush (v := (-300)) hx hb dX11_question_26 (by decide) ?_
      have h18 : 0 ≤ 5 ∧ 0 ≤ 609 := by decide
      exact r_iret C hr hlk hw dX11_question_29 h18.1 h18.2 ⟨_, rfl, hq⟩
    · replace hq := hq.2 c12
      refine lv_iload_n hx hb dX11_question_13 rfl (lv_at hl 1 rfl) ?_
      refine lv_bipush (v := 8) hx hb dX11_question_14 (by decide) ?_
      refine lv_icmp_lt (tgt := 30) hx hb dX11_question_16 (by decide) (fun c19 => ?_) (fun c19 => ?_)
      · replace hq := hq.1 c19
        refine lv_aload_n hx hb dX11_question_30 rfl (lv_at hl 0 rfl) ?_
        obtain ⟨q20, e21, hq⟩ := hq
        refine gfX11_19 C hw (mle_rf _) h0 e21 dX11_question_31 ?_
        refine lv_aload_n hx hb dX11_question_34 rfl (lv_at hl 0 rfl) ?_
        obtain ⟨q22, e23, hq⟩ := hq
        refine gfX11_10 C hw (mle_rf _) h0 e23 dX11_question_35 ?_
        have h26 : 0 ≤ 5 ∧ 0 ≤ 609 := by decide
        refine r_callV (T := TX2) (N := 10) (ci := 2) (index := 93) (n := 1) (d2 := 9) (mc := 0) (ms := 0) (As := [.ref q22]) (rest := []) C hw (ct_X2_readFrom hq) kvX11_93 hq.1 (by decide) rfl ⟨by decide, by decide⟩ ⟨h26.1, h26.2⟩ rfl hl.1 rfl (Nat.le_of_ble_eq_true rfl) dX11_question_38 (fun r M25 H locs hp hle hw => ?_)
        obtain ⟨rfl, hq⟩ := hp
        have h0 := h0.up hle
        refine W.eq (g2 := F0 m 41 ls []) rfl ?_
        refine lv_aload_n hx hb dX11_question_41 rfl (lv_at hl 0 rfl) ?_
        obtain ⟨q27, e28, hq⟩ := hq
        refine gfX11_10 C hw (mle_rf _) h0 e28 dX11_question_42 ?_
        have h31 : 0 ≤ 5 ∧ 0 ≤ 609 := by decide
        refine r_callV (T := TX10) (N := 6) (ci := 10) (index := 90) (n := 0) (d2 := 0) (mc := 0) (ms := 0) (As := []) (rest := []) C hw (ct_X10_wipe hq) kvX11_90 hq.1 (by decide) rfl ⟨by decide, by decide⟩ ⟨h31.1, h31.2⟩ rfl hl.1 rfl (Nat.le_of_ble_eq_true rfl) dX11_question_45 (fun r M30 H locs hp hle hw => ?_)
        obtain ⟨rfl, hq⟩ := hp
        have h0 := h0.up hle
        refine W.eq (g2 := F0 m 48 ls []) rfl ?_
        refine lv_aload_n hx hb dX11_question_48 rfl (lv_at hl 0 rfl) ?_
        refine lv_aload_n hx hb dX11_question_49 rfl (lv_at hl 0 rfl) ?_
        obtain ⟨q32, e33, hq⟩ := hq
        refine gfX11_19 C hw (mle_rf _) h0 e33 dX11_question_50 ?_
        obtain ⟨h34, hq⟩ := hq
        refine gfX11_97 C hw (mle_rf _) h34 dX11_question_53 ?_
        refine pfX11_50 C hw (mle_rf _) h0 dX11_question_56 (fun H locs hw => ?_)
        generalize e36 : uI M30 a0 7 (mI M30 q32 8) = M35 at hw
        replace hq := hq M35 e36.symm
        have h0 : okc (gB g) M35 a0 11 := by rw [← e36]; exact okc_uI h0
        have e33 : mR M35 a0 1 = some q32 := by rw [← e36, mR_uI]; exact e33
        refine lv_aload_n hx hb dX11_question_59 rfl (lv_at hl 0 rfl) ?_
        refine gfX11_50 C hw (mle_rf _) h0 dX11_question_60 ?_
        refine lv_if_eq (tgt := 76) hx hb dX11_question_63 (by decide) (fun c37 => ?_) (fun c37 => ?_)
        · replace hq := hq.1 c37
          refine lv_aload_n hx hb dX11_question_76 rfl (lv_at hl 0 rfl) ?_
          obtain ⟨q38, e39, hq⟩ := hq
          refine gfX11_32 C hw (mle_rf _) h0 e39 dX11_question_77 ?_
          refine lv_aload_n hx hb dX11_question_80 rfl (lv_at hl 0 rfl) ?_
          refine gfX11_36 C hw (mle_rf _) h0 dX11_question_81 ?_
          have hB := hw.B C.2.2.2.2.2
          have h40 : 0 + 1 ≤ 5 ∧ 0 + 6 ≤ 609 := by decide
          refine r_new tyX9 (T := TX9) (N := 6) (ci := 9) C hw rfl (by decide) inX9 tyX9_ok w_160 w_573 w_18 df_9 h40.1 h40.2 dX11_question_84 (fun H hw => ?_)
          have h45 := okc_nw (gB g) M35 9 0 hB
          have h0 := h0.up (mle_nw M35 9 0)
          generalize e43 : nw M35 9 0 = M42 at hw h45 h0
          generalize e44 : mT M35 = q41 at h45 ⊢
          replace hq := hq q41 M42 e44.symm e43.symm
          refine lv_dup hx hb dX11_question_87 rfl ?_
          refine lv_iload_n hx hb dX11_question_88 rfl (lv_at hl 1 rfl) ?_
          refine lv_aload_n hx hb dX11_question_89 rfl (lv_at hl 0 rfl) ?_
          obtain ⟨q46, e47, hq⟩ := hq
          refine gfX11_19 C hw (mle_rf _) h0 e47 dX11_question_90 ?_
          have h50 : 1 + 4 ≤ 5 ∧ 6 + 603 ≤ 609 := by decide
          refine r_callV (T := TX2) (N := 10) (ci := 2) (index := 103) (n := 0) (d2 := 2) (mc := 4) (ms := 603) (As := []) (rest := [.int p1, .ref q41, .ref q41, .int (mI M35 a0 4), .ref q38]) C hw (ct_X2_copyOfForm hq) kvX11_103 hq.1 (by decide) rfl ⟨by decide, by decide⟩ ⟨h50.1, h50.2⟩ rfl hl.1 rfl (Nat.le_of_ble_eq_true rfl) dX11_question_93 (fun r M49 H locs hp hle hw => ?_)
          obtain ⟨v48, rfl, hq⟩ := hp
          have h0 := h0.up hle
          have h45 := h45.up hle
          refine W.eq (g2 := F0 m 96 ls [va_rf v48, .int p1, .ref q41, .ref q41, .int (mI M35 a0 4), .ref q38]) rfl ?_
          obtain ⟨q51, rfl, hq⟩ := hq
          have hl : lv_has ls 2 [(0, .ref a0), (1, .int p1)] := hl
          refine W.eq (g2 := F0 m 96 ls [.ref q51, .int p1, .ref q41, .ref q41, .int (mI M35 a0 4), .ref q38]) rfl ?_
          have h54 : 5 ≤ 5 ∧ 609 ≤ 609 := by decide
          refine r_callI (index := 107) (n := 2) (d2 := 1) (mc := 0) (ms := 0) (As := [.int p1, .ref q51]) (rest := [.ref q41, .int (mI M35 a0 4), .ref q38]) C hw (ct_X9_init hq) kiX11_107 ⟨by decide, by decide⟩ ⟨h54.1, h54.2⟩ rfl hl.1 rfl (Nat.le_of_ble_eq_true rfl) dX11_question_96 (fun r M53 H locs hp hle hw => ?_)
          obtain ⟨rfl, hq⟩ := hp
          have h0 := h0.up hle
          have h45 := h45.up hle
          refine W.eq (g2 := F0 m 99 ls [.ref q41, .int (mI M35 a0 4), .ref q38]) rfl ?_
          obtain ⟨h55, hq⟩ := hq
          obtain ⟨h56, hq⟩ := hq
          refine q_aast (ci := 9) C hw (mle_rf _) h55 (by decide) (by decide) rfl h45 (by decide) rfl h56 dX11_question_99 (fun H locs hw => ?_)
          generalize e58 : uR M53 q38 (Int32.toNatClampNeg (mI M35 a0 4)) (some q41) = M57 at hw
          replace hq := hq M57 e58.symm
          have h0 : okc (gB g) M57 a0 11 := by rw [← e58]; exact okc_uR h0
          refine lv_aload_n hx hb dX11_question_100 rfl (lv_at hl 0 rfl) ?_
          refine lv_dup hx hb dX11_question_101 rfl ?_
          refine gfX11_36 C hw (mle_rf _) h0 dX11_question_102 ?_
          refine lv_iconst (v := 1) hx hb dX11_question_105 (by decide) ?_
          refine lv_iadd hx hb dX11_question_106 ?_
          refine pfX11_36 C hw (mle_rf _) h0 dX11_question_107 (fun H locs hw => ?_)
          generalize e60 : uI M57 a0 4 ((mI M57 a0 4) + 1) = M59 at hw
          replace hq := hq M59 e60.symm
          have h0 : okc (gB g) M59 a0 11 := by rw [← e60]; exact okc_uI h0
          refine lv_aload_n hx hb dX11_question_110 rfl (lv_at hl 0 rfl) ?_
          refine gfX11_36 C hw (mle_rf _) h0 dX11_question_111 ?_
          refine lv_iconst (v := 1) hx hb dX11_question_114 (by decide) ?_
          refine lv_isub hx hb dX11_question_115 ?_
          have h61 : 5 ≤ 5 ∧ 609 ≤ 609 := by decide
          exact r_iret C hr hlk hw dX11_question_116 h61.1 h61.2 ⟨_, rfl, hq⟩
        · replace hq := hq.2 c37
          exact lt_X11_question_66  C hr hlk hn h00  hq hw (lv_sub hl [0, 1] rfl)
      · replace hq := hq.2 c19
        refine lv_aload_n hx hb dX11_question_19 rfl (lv_at hl 0 rfl) ?_
        obtain ⟨q62, e63, hq⟩ := hq
        refine gfX11_10 C hw (mle_rf _) h0 e63 dX11_question_20 ?_
        have h66 : 0 ≤ 5 ∧ 0 ≤ 609 := by decide
        refine r_callV (T := TX10) (N := 6) (ci := 10) (index := 90) (n := 0) (d2 := 0) (mc := 0) (ms := 0) (As := []) (rest := []) C hw (ct_X10_wipe hq) kvX11_90 hq.1 (by decide) rfl ⟨by decide, by decide⟩ ⟨h66.1, h66.2⟩ rfl hl.1 rfl (Nat.le_of_ble_eq_true rfl) dX11_question_23 (fun r M65 H locs hp hle hw => ?_)
        obtain ⟨rfl, hq⟩ := hp
        have h0 := h0.up hle
        refine W.eq (g2 := F0 m 26 ls []) rfl ?_
        refine lv_sipush (v := (-300)) hx hb dX11_question_26 (by decide) ?_
        have h67 : 0 ≤ 5 ∧ 0 ≤ 609 := by decide
        exact r_iret C hr hlk hw dX11_question_29 h67.1 h67.2 ⟨_, rfl, hq⟩

set_option maxRecDepth 100000 in
def wp_X11_questionAt  (g : Gh) (M0 : Mem) (a0 : Nat) (p1 : Int32) (post : Option Nat → Mem → Prop) : Prop :=
  okc (gB g) M0 a0 11 ∧ (((p1 < 0) → post none M0) ∧ (¬ (p1 < 0) → (((mI M0 a0 4) ≤ p1) → post none M0) ∧ (¬ ((mI M0 a0 4) ≤ p1) → ∃ q3, mR M0 a0 3 = some q3 ∧ (okc (gB g) M0 q3 20 ∧ ((((nI (mN M0 q3)) ≤ p1) → post none M0) ∧ (¬ ((nI (mN M0 q3)) ≤ p1) → vp_in p1 (mN M0 q3) ∧ (∃ q8, mR M0 q3 (Int32.toNatClampNeg p1) = some q8 ∧ (post (some q8) M0))))))))
set_option maxHeartbeats 4000000 in
set_option maxRecDepth 100000 in
theorem ct_X11_questionAt {l : Launch} {g : Gh} {M0 : Mem} {a0 : Nat} {p1 : Int32} {post : Option Nat → Mem → Prop}  (hq : wp_X11_questionAt  g M0 a0 p1 post) : Ct l g yX11_questionAt cX11_questionAt 2 (some (.object "QuizLeague$Question")) 0 0 0 [.ref a0, .int p1] M0 (pR post) := by
  unfold wp_X11_questionAt at hq
  obtain ⟨h0, hq⟩ := hq
  refine Ct.of (by decide) (Nat.le_of_ble_eq_true rfl) ?_
  intro p e s m below meth c ls C hr hlk hn hl hw
  have hx := C.1.1
  have hb := C.1.2.1
  have hl : lv_has ls 2 [(0, .ref a0), (1, .int p1)] := hl
  refine lv_iload_n hx hb dX11_questionAt_0 rfl (lv_at hl 1 rfl) ?_
  refine lv_if_lt (tgt := 30) hx hb dX11_questionAt_1 (by decide) (fun c1 => ?_) (fun c1 => ?_)
  · replace hq := hq.1 c1
    refine lv_null hx hb dX11_questionAt_30 ?_
    exact r_aret (v := none) C hr (Or.inl ⟨_, rfl⟩) hlk hw dX11_questionAt_31 (Nat.le_refl _) (Nat.le_refl _) ⟨_, rfl, hq⟩
  · replace hq := hq.2 c1
    refine lv_iload_n hx hb dX11_questionAt_4 rfl (lv_at hl 1 rfl) ?_
    refine lv_aload_n hx hb dX11_questionAt_5 rfl (lv_at hl 0 rfl) ?_
    refine gfX11_36 C hw hw.2.2.1 h0 dX11_questionAt_6 ?_
    refine lv_icmp_ge (tgt := 30) hx hb dX11_questionAt_9 (by decide) (fun c2 => ?_) (fun c2 => ?_)
    · replace hq := hq.1 c2
      refine lv_null hx hb dX11_questionAt_30 ?_
      exact r_aret (v := none) C hr (Or.inl ⟨_, rfl⟩) hlk hw dX11_questionAt_31 (Nat.le_refl _) (Nat.le_refl _) ⟨_, rfl, hq⟩
    · replace hq := hq.2 c2
      refine lv_iload_n hx hb dX11_questionAt_12 rfl (lv_at hl 1 rfl) ?_
      refine lv_aload_n hx hb dX11_questionAt_13 rfl (lv_at hl 0 rfl) ?_
      obtain ⟨q3, e4, hq⟩ := hq
      refine gfX11_32 C hw hw.2.2.1 h0 e4 dX11_questionAt_14 ?_
      obtain ⟨h5, hq⟩ := hq
      refine q_alen C hw hw.2.2.1 h5 (by decide) (by decide) rfl dX11_questionAt_17 ?_
      refine lv_icmp_ge (tgt := 30) hx hb dX11_questionAt_18 (by decide) (fun c6 => ?_) (fun c6 => ?_)
      · replace hq := hq.1 c6
        refine lv_null hx hb dX11_questionAt_30 ?_
        exact r_aret (v := none) C hr (Or.inl ⟨_, rfl⟩) hlk hw dX11_questionAt_31 (Nat.le_refl _) (Nat.le_refl _) ⟨_, rfl, hq⟩
      · replace hq := hq.2 c6
        refine lv_aload_n hx hb dX11_questionAt_21 rfl (lv_at hl 0 rfl) ?_
        refine gfX11_32 C hw hw.2.2.1 h0 e4 dX11_questionAt_22 ?_
        refine lv_iload_n hx hb dX11_questionAt_25 rfl (lv_at hl 1 rfl) ?_
        obtain ⟨h7, hq⟩ := hq
        obtain ⟨q8, e9, hq⟩ := hq
        refine q_aald C hw hw.2.2.1 h5 (by decide) (by decide) rfl h7 e9 dX11_questionAt_26 ?_
        refine lv_goto (tgt := 31) hx hb dX11_questionAt_27 (by decide) ?_
        exact r_aret (v := (some q8)) C hr (Or.inl ⟨_, rfl⟩) hlk hw dX11_questionAt_31 (Nat.le_refl _) (Nat.le_refl _) ⟨_, rfl, hq⟩

set_option maxRecDepth 100000 in
def wp_X11_takes  (g : Gh) (M0 : Mem) (a0 : Nat) (p1 : Int32) (post : Int32 → Mem → Prop) : Prop :=
  okc (gB g) M0 a0 11 ∧ (∃ q1, mR M0 a0 2 = some q1 ∧ (∃ q3, mR M0 a0 0 = some q3 ∧ (wp_X7_readFrom g M0 q1 q3 (fun v5 M6 => ∃ q7, mR M6 a0 0 = some q7 ∧ (wp_X10_wipe g M6 q7 (fun M10 => wp_X11_questionAt g M10 a0 p1 (fun v11 M12 => (v11 = none → post (-1) M12) ∧ (∀ q14, v11 = some q14 → ((v5 = 0) → post (-1) M12) ∧ (¬ (v5 = 0) → ∃ q16, mR M12 a0 2 = some q16 ∧ (okc (gB g) M0 q14 9 ∧ (∃ q19, mR M12 q14 1 = some q19 ∧ (wp_X7_accepts g M12 q16 q19 (fun v21 M22 => ((v21 = 0) → post 0 M22) ∧ (¬ (v21 = 0) → post 1 M22))))))))))))))
set_option maxHeartbeats 4000000 in
set_option maxRecDepth 100000 in
theorem ct_X11_takes {l : Launch} {g : Gh} {M0 : Mem} {a0 : Nat} {p1 : Int32} {post : Int32 → Mem → Prop}  (hq : wp_X11_takes  g M0 a0 p1 post) : Ct l g yX11_takes cX11_takes 4 (some .int) 10 0 0 [.ref a0, .int p1] M0 (pI post) := by
  unfold wp_X11_takes at hq
  obtain ⟨h0, hq⟩ := hq
  refine Ct.of (by decide) (Nat.le_of_ble_eq_true rfl) ?_
  intro p e s m below meth c ls C hr hlk hn hl hw
  have hx := C.1.1
  have hb := C.1.2.1
  have hl : lv_has ls 4 [(0, .ref a0), (1, .int p1)] := hl
  refine lv_aload_n hx hb dX11_takes_0 rfl (lv_at hl 0 rfl) ?_
  obtain ⟨q1, e2, hq⟩ := hq
  refine gfX11_26 C hw hw.2.2.1 h0 e2 dX11_takes_1 ?_
  refine lv_aload_n hx hb dX11_takes_4 rfl (lv_at hl 0 rfl) ?_
  obtain ⟨q3, e4, hq⟩ := hq
  refine gfX11_10 C hw hw.2.2.1 h0 e4 dX11_takes_5 ?_
  refine r_callV (T := TX7) (N := 5) (ci := 7) (index := 110) (n := 1) (d2 := 9) (mc := 0) (ms := 0) (As := [.ref q3]) (rest := []) C hw (ct_X7_readFrom hq) kvX11_110 hq.1 (by decide) rfl ⟨by decide, by decide⟩ ⟨by decide, by decide⟩ rfl hl.1 rfl (Nat.le_of_ble_eq_true rfl) dX11_takes_8 (fun r M6 H locs hp hle hw => ?_)
  obtain ⟨v5, rfl, hq⟩ := hp
  refine W.eq (g2 := F0 m 11 ls [.int v5]) rfl ?_
  refine lv_istore_n (lv' := [(2, .int v5), (0, .ref a0), (1, .int p1)]) hx hb dX11_takes_11 rfl hl (by decide) rfl (fun ls hl => ?_)
  refine lv_aload_n hx hb dX11_takes_12 rfl (lv_at hl 1 rfl) ?_
  obtain ⟨q7, e8, hq⟩ := hq
  refine gfX11_10 C hw hw.2.2.1 h0 e8 dX11_takes_13 ?_
  refine r_callV (T := TX10) (N := 6) (ci := 10) (index := 90) (n := 0) (d2 := 0) (mc := 0) (ms := 0) (As := []) (rest := []) C hw (ct_X10_wipe hq) kvX11_90 hq.1 (by decide) rfl ⟨by decide, by decide⟩ ⟨by decide, by decide⟩ rfl hl.1 rfl (Nat.le_of_ble_eq_true rfl) dX11_takes_16 (fun r M10 H locs hp hle hw => ?_)
  obtain ⟨rfl, hq⟩ := hp
  refine W.eq (g2 := F0 m 19 ls []) rfl ?_
  refine lv_aload_n hx hb dX11_takes_19 rfl (lv_at hl 1 rfl) ?_
  refine lv_iload_n hx hb dX11_takes_20 rfl (lv_at hl 2 rfl) ?_
  refine r_callV (T := TX11) (N := 11) (ci := 11) (index := 113) (n := 1) (d2 := 0) (mc := 0) (ms := 0) (As := [.int p1]) (rest := []) C hw (ct_X11_questionAt hq) kvX11_113 hq.1 (by decide) rfl ⟨by decide, by decide⟩ ⟨by decide, by decide⟩ rfl hl.1 rfl (Nat.le_of_ble_eq_true rfl) dX11_takes_21 (fun r M12 H locs hp hle hw => ?_)
  obtain ⟨v11, rfl, hq⟩ := hp
  refine W.eq (g2 := F0 m 24 ls [va_rf v11]) rfl ?_
  refine r_astore_n (lv' := [(3, va_rf v11), (2, .int v5), (0, .ref a0), (1, .int p1)]) hx hb dX11_takes_24 rfl hl (by decide) (by first | rfl | simp [va_cat]) (fun ls hl => ?_)
  refine r_aload_n hx hb dX11_takes_25 rfl (lv_at hl 0 rfl) ?_
  rcases v11 with _ | q14
  · refine lv_ifnullN (tgt := 33) hx hb dX11_takes_26 (by decide) ?_
    have hl : lv_has ls 4 [(3, .null), (2, .int v5), (0, .ref a0), (1, .int p1)] := hl
    replace hq := hq.1 rfl
    refine lv_iconst (v := (-1)) hx hb dX11_takes_33 (by decide) ?_
    exact r_iret C hr hlk hw dX11_takes_34 (Nat.le_refl _) (Nat.le_refl _) ⟨_, rfl, hq⟩
  · refine lv_ifnull hx hb dX11_takes_26 ?_
    have hl : lv_has ls 4 [(3, .ref q14), (2, .int v5), (0, .ref a0), (1, .int p1)] := hl
    replace hq := hq.2 q14 rfl
    refine lv_iload_n hx hb dX11_takes_29 rfl (lv_at hl 1 rfl) ?_
    refine lv_if_ne (tgt := 35) hx hb dX11_takes_30 (by decide) (fun c15 => ?_) (fun c15 => ?_)
    · replace hq := hq.2 c15
      refine lv_aload_n hx hb dX11_takes_35 rfl (lv_at hl 2 rfl) ?_
      obtain ⟨q16, e17, hq⟩ := hq
      refine gfX11_26 C hw hw.2.2.1 h0 e17 dX11_takes_36 ?_
      refine lv_aload_n hx hb dX11_takes_39 rfl (lv_at hl 0 rfl) ?_
      obtain ⟨h18, hq⟩ := hq
      obtain ⟨q19, e20, hq⟩ := hq
      refine gfX11_117 C hw hw.2.2.1 h18 e20 dX11_takes_40 ?_
      refine r_callV (T := TX7) (N := 5) (ci := 7) (index := 121) (n := 1) (d2 := 5) (mc := 0) (ms := 0) (As := [.ref q19]) (rest := []) C hw (ct_X7_accepts hq) kvX11_121 hq.1 (by decide) rfl ⟨by decide, by decide⟩ ⟨by decide, by decide⟩ rfl hl.1 rfl (Nat.le_of_ble_eq_true rfl) dX11_takes_43 (fun r M22 H locs hp hle hw => ?_)
      obtain ⟨v21, rfl, hq⟩ := hp
      refine W.eq (g2 := F0 m 46 ls [.int v21]) rfl ?_
      refine lv_if_eq (tgt := 53) hx hb dX11_takes_46 (by decide) (fun c23 => ?_) (fun c23 => ?_)
      · replace hq := hq.1 c23
        refine lv_iconst (v := 0) hx hb dX11_takes_53 (by decide) ?_
        exact r_iret C hr hlk hw dX11_takes_54 (Nat.le_refl _) (Nat.le_refl _) ⟨_, rfl, hq⟩
      · replace hq := hq.2 c23
        refine lv_iconst (v := 1) hx hb dX11_takes_49 (by decide) ?_
        refine lv_goto (tgt := 54) hx hb dX11_takes_50 (by decide) ?_
        exact r_iret C hr hlk hw dX11_takes_54 (Nat.le_refl _) (Nat.le_refl _) ⟨_, rfl, hq⟩
    · replace hq := hq.1 c15
      refine lv_iconst (v := (-1)) hx hb dX11_takes_33 (by decide) ?_
      exact r_iret C hr hlk hw dX11_takes_34 (Nat.le_refl _) (Nat.le_refl _) ⟨_, rfl, hq⟩

set_option maxRecDepth 100000 in
def wp_X11_strike  (g : Gh) (M0 : Mem) (a0 : Nat) (p1 : Int32) (p2 : Int32) (post : Int32 → Mem → Prop) : Prop :=
  okc (gB g) M0 a0 11 ∧ (wp_X11_questionAt g M0 a0 p1 (fun v1 M2 => (v1 = none → post 0 M2) ∧ (∀ q4, v1 = some q4 → ∃ q5, mR M2 a0 9 = some q5 ∧ (okc (gB g) M0 q5 6 ∧ ((((mI M2 q5 0) = 0) → okc (gB g) M0 q4 9 ∧ ((((mI M2 q4 4) = p2) → post 0 M2) ∧ (¬ ((mI M2 q4 4) = p2) → (p2 = 0 ∨ p2 = 1) ∧ (∀ M12, M12 = uI M2 q4 4 p2 → (post 1 M12))))) ∧ (¬ ((mI M2 q5 0) = 0) → post 0 M2))))))
set_option maxHeartbeats 4000000 in
set_option maxRecDepth 100000 in
theorem ct_X11_strike {l : Launch} {g : Gh} {M0 : Mem} {a0 : Nat} {p1 : Int32} {p2 : Int32} {post : Int32 → Mem → Prop}  (hq : wp_X11_strike  g M0 a0 p1 p2 post) : Ct l g yX11_strike cX11_strike 4 (some .boolean) 1 0 0 [.ref a0, .int p1, .int p2] M0 (pI post) := by
  unfold wp_X11_strike at hq
  obtain ⟨h0, hq⟩ := hq
  refine Ct.of (by decide) (Nat.le_of_ble_eq_true rfl) ?_
  intro p e s m below meth c ls C hr hlk hn hl hw
  have hx := C.1.1
  have hb := C.1.2.1
  have hl : lv_has ls 4 [(0, .ref a0), (1, .int p1), (2, .int p2)] := hl
  refine lv_aload_n hx hb dX11_strike_0 rfl (lv_at hl 0 rfl) ?_
  refine lv_iload_n hx hb dX11_strike_1 rfl (lv_at hl 1 rfl) ?_
  refine r_callV (T := TX11) (N := 11) (ci := 11) (index := 113) (n := 1) (d2 := 0) (mc := 0) (ms := 0) (As := [.int p1]) (rest := []) C hw (ct_X11_questionAt hq) kvX11_113 hq.1 (by decide) rfl ⟨by decide, by decide⟩ ⟨by decide, by decide⟩ rfl hl.1 rfl (Nat.le_of_ble_eq_true rfl) dX11_strike_2 (fun r M2 H locs hp hle hw => ?_)
  obtain ⟨v1, rfl, hq⟩ := hp
  refine W.eq (g2 := F0 m 5 ls [va_rf v1]) rfl ?_
  refine r_astore_n (lv' := [(3, va_rf v1), (0, .ref a0), (1, .int p1), (2, .int p2)]) hx hb dX11_strike_5 rfl hl (by decide) (by first | rfl | simp [va_cat]) (fun ls hl => ?_)
  refine r_aload_n hx hb dX11_strike_6 rfl (lv_at hl 0 rfl) ?_
  rcases v1 with _ | q4
  · refine lv_ifnullN (tgt := 28) hx hb dX11_strike_7 (by decide) ?_
    have hl : lv_has ls 4 [(3, .null), (0, .ref a0), (1, .int p1), (2, .int p2)] := hl
    replace hq := hq.1 rfl
    refine lv_iconst (v := 0) hx hb dX11_strike_28 (by decide) ?_
    exact r_zret C hr hlk hw dX11_strike_29 (Nat.le_refl _) (Nat.le_refl _) (by decide) ⟨_, rfl, hq⟩
  · refine lv_ifnull hx hb dX11_strike_7 ?_
    have hl : lv_has ls 4 [(3, .ref q4), (0, .ref a0), (1, .int p1), (2, .int p2)] := hl
    replace hq := hq.2 q4 rfl
    refine lv_aload_n hx hb dX11_strike_10 rfl (lv_at hl 1 rfl) ?_
    obtain ⟨q5, e6, hq⟩ := hq
    refine gfX11_65 C hw hw.2.2.1 h0 e6 dX11_strike_11 ?_
    obtain ⟨h7, hq⟩ := hq
    refine gfX11_125 C hw hw.2.2.1 h7 dX11_strike_14 ?_
    refine lv_if_ne (tgt := 28) hx hb dX11_strike_17 (by decide) (fun c8 => ?_) (fun c8 => ?_)
    · replace hq := hq.2 c8
      refine lv_iconst (v := 0) hx hb dX11_strike_28 (by decide) ?_
      exact r_zret C hr hlk hw dX11_strike_29 (Nat.le_refl _) (Nat.le_refl _) (by decide) ⟨_, rfl, hq⟩
    · replace hq := hq.1 c8
      refine lv_aload_n hx hb dX11_strike_20 rfl (lv_at hl 0 rfl) ?_
      obtain ⟨h9, hq⟩ := hq
      refine gfX11_129 C hw hw.2.2.1 h9 dX11_strike_21 ?_
      refine lv_iload_n hx hb dX11_strike_24 rfl (lv_at hl 3 rfl) ?_
      refine lv_icmp_ne (tgt := 30) hx hb dX11_strike_25 (by decide) (fun c10 => ?_) (fun c10 => ?_)
      · replace hq := hq.2 c10
        refine lv_aload_n hx hb dX11_strike_30 rfl (lv_at hl 0 rfl) ?_
        refine lv_iload_n hx hb dX11_strike_31 rfl (lv_at hl 3 rfl) ?_
        obtain ⟨h11, hq⟩ := hq
        refine pfX11_129 C hw hw.2.2.1 h9 h11 dX11_strike_32 (fun H locs hw => ?_)
        generalize e13 : uI M2 q4 4 p2 = M12 at hw
        replace hq := hq M12 e13.symm
        have e6 : mR M12 a0 9 = some q5 := by rw [← e13, mR_uI]; exact e6
        refine lv_iconst (v := 1) hx hb dX11_strike_35 (by decide) ?_
        exact r_zret C hr hlk hw dX11_strike_36 (Nat.le_refl _) (Nat.le_refl _) (by decide) ⟨_, rfl, hq⟩
      · replace hq := hq.1 c10
        refine lv_iconst (v := 0) hx hb dX11_strike_28 (by decide) ?_
        exact r_zret C hr hlk hw dX11_strike_29 (Nat.le_refl _) (Nat.le_refl _) (by decide) ⟨_, rfl, hq⟩

set_option maxRecDepth 100000 in
def wp_X11_seen  (g : Gh) (M0 : Mem) (a0 : Nat) (p1 : Int32) (p2 : Int32) (post : Int32 → Mem → Prop) : Prop :=
  okc (gB g) M0 a0 11 ∧ (wp_X11_questionAt g M0 a0 p2 (fun v1 M2 => (v1 = none → post 0 M2) ∧ (∀ q4, v1 = some q4 → wp_X11_isTeam g M2 p1 (fun v5 M6 => ((v5 = 0) → post 0 M6) ∧ (¬ (v5 = 0) → wp_X9_isSeenBy g M6 q4 p1 (fun v8 M9 => ((v8 = 0) → post 0 M9) ∧ (¬ (v8 = 0) → post 1 M9)))))))
set_option maxHeartbeats 4000000 in
set_option maxRecDepth 100000 in
theorem ct_X11_seen {l : Launch} {g : Gh} {M0 : Mem} {a0 : Nat} {p1 : Int32} {p2 : Int32} {post : Int32 → Mem → Prop}  (hq : wp_X11_seen  g M0 a0 p1 p2 post) : Ct l g yX11_seen cX11_seen 4 (some .boolean) 1 0 0 [.ref a0, .int p1, .int p2] M0 (pI post) := by
  unfold wp_X11_seen at hq
  obtain ⟨h0, hq⟩ := hq
  refine Ct.of (by decide) (Nat.le_of_ble_eq_true rfl) ?_
  intro p e s m below meth c ls C hr hlk hn hl hw
  have hx := C.1.1
  have hb := C.1.2.1
  have hl : lv_has ls 4 [(0, .ref a0), (1, .int p1), (2, .int p2)] := hl
  refine lv_aload_n hx hb dX11_seen_0 rfl (lv_at hl 0 rfl) ?_
  refine lv_iload_n hx hb dX11_seen_1 rfl (lv_at hl 2 rfl) ?_
  refine r_callV (T := TX11) (N := 11) (ci := 11) (index := 113) (n := 1) (d2 := 0) (mc := 0) (ms := 0) (As := [.int p2]) (rest := []) C hw (ct_X11_questionAt hq) kvX11_113 hq.1 (by decide) rfl ⟨by decide, by decide⟩ ⟨by decide, by decide⟩ rfl hl.1 rfl (Nat.le_of_ble_eq_true rfl) dX11_seen_2 (fun r M2 H locs hp hle hw => ?_)
  obtain ⟨v1, rfl, hq⟩ := hp
  refine W.eq (g2 := F0 m 5 ls [va_rf v1]) rfl ?_
  refine r_astore_n (lv' := [(3, va_rf v1), (0, .ref a0), (1, .int p1), (2, .int p2)]) hx hb dX11_seen_5 rfl hl (by decide) (by first | rfl | simp [va_cat]) (fun ls hl => ?_)
  refine r_aload_n hx hb dX11_seen_6 rfl (lv_at hl 0 rfl) ?_
  rcases v1 with _ | q4
  · refine lv_ifnullN (tgt := 29) hx hb dX11_seen_7 (by decide) ?_
    have hl : lv_has ls 4 [(3, .null), (0, .ref a0), (1, .int p1), (2, .int p2)] := hl
    replace hq := hq.1 rfl
    refine lv_iconst (v := 0) hx hb dX11_seen_29 (by decide) ?_
    exact r_zret C hr hlk hw dX11_seen_30 (Nat.le_refl _) (Nat.le_refl _) (by decide) ⟨_, rfl, hq⟩
  · refine lv_ifnull hx hb dX11_seen_7 ?_
    have hl : lv_has ls 4 [(3, .ref q4), (0, .ref a0), (1, .int p1), (2, .int p2)] := hl
    replace hq := hq.2 q4 rfl
    refine lv_iload_n hx hb dX11_seen_10 rfl (lv_at hl 2 rfl) ?_
    refine r_callS (index := 143) (n := 1) (d2 := 0) (mc := 0) (ms := 0) (As := [.int p1]) (rest := []) C hw (ct_X11_isTeam hq) ksX11_143 ⟨by decide, by decide⟩ ⟨by decide, by decide⟩ rfl hl.1 rfl (Nat.le_of_ble_eq_true rfl) dX11_seen_11 (fun r M6 H locs hp hle hw => ?_)
    obtain ⟨v5, rfl, hq⟩ := hp
    refine W.eq (g2 := F0 m 14 ls [.int v5]) rfl ?_
    refine lv_if_eq (tgt := 29) hx hb dX11_seen_14 (by decide) (fun c7 => ?_) (fun c7 => ?_)
    · replace hq := hq.1 c7
      refine lv_iconst (v := 0) hx hb dX11_seen_29 (by decide) ?_
      exact r_zret C hr hlk hw dX11_seen_30 (Nat.le_refl _) (Nat.le_refl _) (by decide) ⟨_, rfl, hq⟩
    · replace hq := hq.2 c7
      refine lv_aload_n hx hb dX11_seen_17 rfl (lv_at hl 0 rfl) ?_
      refine lv_iload_n hx hb dX11_seen_18 rfl (lv_at hl 2 rfl) ?_
      refine r_callV (T := TX9) (N := 6) (ci := 9) (index := 146) (n := 1) (d2 := 0) (mc := 0) (ms := 0) (As := [.int p1]) (rest := []) C hw (ct_X9_isSeenBy hq) kvX11_146 hq.1 (by decide) rfl ⟨by decide, by decide⟩ ⟨by decide, by decide⟩ rfl hl.1 rfl (Nat.le_of_ble_eq_true rfl) dX11_seen_19 (fun r M9 H locs hp hle hw => ?_)
      obtain ⟨v8, rfl, hq⟩ := hp
      refine W.eq (g2 := F0 m 22 ls [.int v8]) rfl ?_
      refine lv_if_eq (tgt := 29) hx hb dX11_seen_22 (by decide) (fun c10 => ?_) (fun c10 => ?_)
      · replace hq := hq.1 c10
        refine lv_iconst (v := 0) hx hb dX11_seen_29 (by decide) ?_
        exact r_zret C hr hlk hw dX11_seen_30 (Nat.le_refl _) (Nat.le_refl _) (by decide) ⟨_, rfl, hq⟩
      · replace hq := hq.2 c10
        refine lv_iconst (v := 1) hx hb dX11_seen_25 (by decide) ?_
        refine lv_goto (tgt := 30) hx hb dX11_seen_26 (by decide) ?_
        exact r_zret C hr hlk hw dX11_seen_30 (Nat.le_refl _) (Nat.le_refl _) (by decide) ⟨_, rfl, hq⟩

set_option maxRecDepth 100000 in
def lb_X11_law_67  (g : Gh) (M0 : Mem) (a0 : Nat) (post : Int32 → Mem → Prop)    (M : Mem) : Prop :=
  ∃ q1, mR M a0 5 = some q1 ∧ (∃ q3, mR M a0 6 = some q3 ∧ (∀ M5, M5 = uR M a0 5 (some q3) → (∀ M7, M7 = uR M5 a0 6 (some q1) → (∃ q9, mR M7 a0 5 = some q9 ∧ (okc (gB g) M0 q9 4 ∧ (post (mI M7 q9 1) M7))))))
set_option maxRecDepth 100000 in
def wp_X11_law  (g : Gh) (M0 : Mem) (a0 : Nat) (post : Int32 → Mem → Prop) : Prop :=
  okc (gB g) M0 a0 11 ∧ (∃ q12, mR M0 a0 9 = some q12 ∧ (okc (gB g) M0 q12 6 ∧ ((((mI M0 q12 0) = 0) → ∃ q16, mR M0 a0 6 = some q16 ∧ (∃ q18, mR M0 a0 0 = some q18 ∧ (wp_X4_readFrom g M0 q16 q18 (fun M21 => ∃ q22, mR M21 a0 0 = some q22 ∧ (wp_X10_wipe g M21 q22 (fun M25 => ∃ q26, mR M25 a0 6 = some q26 ∧ (okc (gB g) M0 q26 4 ∧ (∀ M29, M29 = uI M25 a0 7 (mI M25 q26 7) → ((((mI M29 a0 7) = 0) → lb_X11_law_67  g M0 a0 post   M29) ∧ (¬ ((mI M29 a0 7) = 0) → post ((-1) - (mI M29 q26 8)) M29)))))))))) ∧ (¬ ((mI M0 q12 0) = 0) → ∃ q32, mR M0 a0 0 = some q32 ∧ (wp_X10_wipe g M0 q32 (fun M35 => post (-300) M35))))))
set_option maxHeartbeats 4000000 in
set_option maxRecDepth 100000 in
theorem lt_X11_law_67 {l : Launch} {g : Gh} {p : Program} {e : Env} {s : State} {m : MethodId} {args : Array Value} {below : List Frame} {meth : Method} {c : Code} {H : Heap} {locs : List Loc} {ls : Array Slot} {M0 M : Mem} {a0 : Nat} {post : Int32 → Mem → Prop}    (C : Cx g p s m args c cX11_law 2 RX11) (hr : meth.sig.returnType = (some .int)) (hlk : meth.locks = false) (hn : meth.name = "law") (h0 : okc (gB g) M0 a0 11)  (hq : lb_X11_law_67  g M0 a0 post   M) (hw : Wd g s M0 M H locs) (hl : lv_has ls 2 [(0, .ref a0)]) : W p l e (rmo 12 0 0) s m args below meth c H locs 0 0 (MQ below (Cq g M0 (pI post)) args s 0 0 (gA g)) (F0 m 67 ls []) := by
  have hx := C.1.1
  have hb := C.1.2.1
  unfold lb_X11_law_67 at hq
  refine lv_aload_n hx hb dX11_law_67 rfl (lv_at hl 0 rfl) ?_
  obtain ⟨q1, e2, hq⟩ := hq
  refine gfX11_43 C hw hw.2.2.1 h0 e2 dX11_law_68 ?_
  refine lv_astore_n (lv' := [(1, .ref q1), (0, .ref a0)]) hx hb dX11_law_71 rfl hl (by decide) rfl (fun ls hl => ?_)
  refine lv_aload_n hx hb dX11_law_72 rfl (lv_at hl 1 rfl) ?_
  refine lv_aload_n hx hb dX11_law_73 rfl (lv_at hl 1 rfl) ?_
  obtain ⟨q3, e4, hq⟩ := hq
  refine gfX11_47 C hw hw.2.2.1 h0 e4 dX11_law_74 ?_
  refine pfX11_43 (v := (some q3)) C hw hw.2.2.1 h0 dX11_law_77 (fun H locs hw => ?_)
  generalize e6 : uR M a0 5 (some q3) = M5 at hw
  replace hq := hq M5 e6.symm
  refine lv_aload_n hx hb dX11_law_80 rfl (lv_at hl 1 rfl) ?_
  refine lv_aload_n hx hb dX11_law_81 rfl (lv_at hl 0 rfl) ?_
  refine pfX11_47 (v := (some q1)) C hw hw.2.2.1 h0 dX11_law_82 (fun H locs hw => ?_)
  generalize e8 : uR M5 a0 6 (some q1) = M7 at hw
  replace hq := hq M7 e8.symm
  refine lv_aload_n hx hb dX11_law_85 rfl (lv_at hl 1 rfl) ?_
  obtain ⟨q9, e10, hq⟩ := hq
  refine gfX11_43 C hw hw.2.2.1 h0 e10 dX11_law_86 ?_
  obtain ⟨h11, hq⟩ := hq
  refine gfX11_152 C hw hw.2.2.1 h11 dX11_law_89 ?_
  exact r_iret C hr hlk hw dX11_law_92 (Nat.le_refl _) (Nat.le_refl _) ⟨_, rfl, hq⟩
set_option maxHeartbeats 4000000 in
set_option maxRecDepth 100000 in
theorem ct_X11_law {l : Launch} {g : Gh} {M0 : Mem} {a0 : Nat} {post : Int32 → Mem → Prop}  (hq : wp_X11_law  g M0 a0 post) : Ct l g yX11_law cX11_law 2 (some .int) 12 0 0 [.ref a0] M0 (pI post) := by
  unfold wp_X11_law at hq
  obtain ⟨h0, hq⟩ := hq
  refine Ct.of (by decide) (Nat.le_of_ble_eq_true rfl) ?_
  intro p e s m below meth c ls C hr hlk hn hl hw
  have hx := C.1.1
  have hb := C.1.2.1
  have hl : lv_has ls 2 [(0, .ref a0)] := hl
  refine lv_aload_n hx hb dX11_law_0 rfl (lv_at hl 0 rfl) ?_
  obtain ⟨q12, e13, hq⟩ := hq
  refine gfX11_65 C hw hw.2.2.1 h0 e13 dX11_law_1 ?_
  obtain ⟨h14, hq⟩ := hq
  refine gfX11_125 C hw hw.2.2.1 h14 dX11_law_4 ?_
  refine lv_if_eq (tgt := 21) hx hb dX11_law_7 (by decide) (fun c15 => ?_) (fun c15 => ?_)
  · replace hq := hq.1 c15
    refine lv_aload_n hx hb dX11_law_21 rfl (lv_at hl 0 rfl) ?_
    obtain ⟨q16, e17, hq⟩ := hq
    refine gfX11_47 C hw hw.2.2.1 h0 e17 dX11_law_22 ?_
    refine lv_aload_n hx hb dX11_law_25 rfl (lv_at hl 0 rfl) ?_
    obtain ⟨q18, e19, hq⟩ := hq
    refine gfX11_10 C hw hw.2.2.1 h0 e19 dX11_law_26 ?_
    refine r_callV (T := TX4) (N := 9) (ci := 4) (index := 149) (n := 1) (d2 := 11) (mc := 0) (ms := 0) (As := [.ref q18]) (rest := []) C hw (ct_X4_readFrom hq) kvX11_149 hq.1 (by decide) rfl ⟨by decide, by decide⟩ ⟨by decide, by decide⟩ rfl hl.1 rfl (Nat.le_of_ble_eq_true rfl) dX11_law_29 (fun r M21 H locs hp hle hw => ?_)
    obtain ⟨rfl, hq⟩ := hp
    refine W.eq (g2 := F0 m 32 ls []) rfl ?_
    refine lv_aload_n hx hb dX11_law_32 rfl (lv_at hl 0 rfl) ?_
    obtain ⟨q22, e23, hq⟩ := hq
    refine gfX11_10 C hw hw.2.2.1 h0 e23 dX11_law_33 ?_
    refine r_callV (T := TX10) (N := 6) (ci := 10) (index := 90) (n := 0) (d2 := 0) (mc := 0) (ms := 0) (As := []) (rest := []) C hw (ct_X10_wipe hq) kvX11_90 hq.1 (by decide) rfl ⟨by decide, by decide⟩ ⟨by decide, by decide⟩ rfl hl.1 rfl (Nat.le_of_ble_eq_true rfl) dX11_law_36 (fun r M25 H locs hp hle hw => ?_)
    obtain ⟨rfl, hq⟩ := hp
    refine W.eq (g2 := F0 m 39 ls []) rfl ?_
    refine lv_aload_n hx hb dX11_law_39 rfl (lv_at hl 0 rfl) ?_
    refine lv_aload_n hx hb dX11_law_40 rfl (lv_at hl 0 rfl) ?_
    obtain ⟨q26, e27, hq⟩ := hq
    refine gfX11_47 C hw hw.2.2.1 h0 e27 dX11_law_41 ?_
    obtain ⟨h28, hq⟩ := hq
    refine gfX11_150 C hw hw.2.2.1 h28 dX11_law_44 ?_
    refine pfX11_50 C hw hw.2.2.1 h0 dX11_law_47 (fun H locs hw => ?_)
    generalize e30 : uI M25 a0 7 (mI M25 q26 7) = M29 at hw
    replace hq := hq M29 e30.symm
    have e27 : mR M29 a0 6 = some q26 := by rw [← e30, mR_uI]; exact e27
    refine lv_aload_n hx hb dX11_law_50 rfl (lv_at hl 0 rfl) ?_
    refine gfX11_50 C hw hw.2.2.1 h0 dX11_law_51 ?_
    refine lv_if_eq (tgt := 67) hx hb dX11_law_54 (by decide) (fun c31 => ?_) (fun c31 => ?_)
    · replace hq := hq.1 c31
      exact lt_X11_law_67  C hr hlk hn h0  hq hw (lv_sub hl [0] rfl)
    · replace hq := hq.2 c31
      refine lv_iconst (v := (-1)) hx hb dX11_law_57 (by decide) ?_
      refine lv_aload_n hx hb dX11_law_58 rfl (lv_at hl 0 rfl) ?_
      refine gfX11_47 C hw hw.2.2.1 h0 e27 dX11_law_59 ?_
      refine gfX11_151 C hw hw.2.2.1 h28 dX11_law_62 ?_
      refine lv_isub hx hb dX11_law_65 ?_
      exact r_iret C hr hlk hw dX11_law_66 (Nat.le_refl _) (Nat.le_refl _) ⟨_, rfl, hq⟩
  · replace hq := hq.2 c15
    refine lv_aload_n hx hb dX11_law_10 rfl (lv_at hl 0 rfl) ?_
    obtain ⟨q32, e33, hq⟩ := hq
    refine gfX11_10 C hw hw.2.2.1 h0 e33 dX11_law_11 ?_
    refine r_callV (T := TX10) (N := 6) (ci := 10) (index := 90) (n := 0) (d2 := 0) (mc := 0) (ms := 0) (As := []) (rest := []) C hw (ct_X10_wipe hq) kvX11_90 hq.1 (by decide) rfl ⟨by decide, by decide⟩ ⟨by decide, by decide⟩ rfl hl.1 rfl (Nat.le_of_ble_eq_true rfl) dX11_law_14 (fun r M35 H locs hp hle hw => ?_)
    obtain ⟨rfl, hq⟩ := hp
    refine W.eq (g2 := F0 m 17 ls []) rfl ?_
    refine lv_sipush (v := (-300)) hx hb dX11_law_17 (by decide) ?_
    exact r_iret C hr hlk hw dX11_law_20 (Nat.le_refl _) (Nat.le_refl _) ⟨_, rfl, hq⟩

set_option maxRecDepth 100000 in
def wp_X11_fault  (g : Gh) (M0 : Mem) (a0 : Nat) (post : Int32 → Mem → Prop) : Prop :=
  okc (gB g) M0 a0 11 ∧ (post (mI M0 a0 7) M0)
set_option maxHeartbeats 4000000 in
set_option maxRecDepth 100000 in
theorem ct_X11_fault {l : Launch} {g : Gh} {M0 : Mem} {a0 : Nat} {post : Int32 → Mem → Prop}  (hq : wp_X11_fault  g M0 a0 post) : Ct l g yX11_fault cX11_fault 1 (some .int) 0 0 0 [.ref a0] M0 (pI post) := by
  unfold wp_X11_fault at hq
  obtain ⟨h0, hq⟩ := hq
  refine Ct.of (by decide) (Nat.le_of_ble_eq_true rfl) ?_
  intro p e s m below meth c ls C hr hlk hn hl hw
  have hx := C.1.1
  have hb := C.1.2.1
  have hl : lv_has ls 1 [(0, .ref a0)] := hl
  refine lv_aload_n hx hb dX11_fault_0 rfl (lv_at hl 0 rfl) ?_
  refine gfX11_50 C hw hw.2.2.1 h0 dX11_fault_1 ?_
  exact r_iret C hr hlk hw dX11_fault_4 (Nat.le_refl _) (Nat.le_refl _) ⟨_, rfl, hq⟩

set_option maxRecDepth 100000 in
def wp_X11_packed  (g : Gh) (M0 : Mem) (a0 : Nat) (p1 : Int32) (post : Int32 → Mem → Prop) : Prop :=
  okc (gB g) M0 a0 11 ∧ (∃ q1, mR M0 a0 8 = some q1 ∧ (wp_X8_numberAt g M0 q1 p1 (fun v3 M4 => post v3 M4)))
set_option maxHeartbeats 4000000 in
set_option maxRecDepth 100000 in
theorem ct_X11_packed {l : Launch} {g : Gh} {M0 : Mem} {a0 : Nat} {p1 : Int32} {post : Int32 → Mem → Prop}  (hq : wp_X11_packed  g M0 a0 p1 post) : Ct l g yX11_packed cX11_packed 2 (some .int) 1 0 0 [.ref a0, .int p1] M0 (pI post) := by
  unfold wp_X11_packed at hq
  obtain ⟨h0, hq⟩ := hq
  refine Ct.of (by decide) (Nat.le_of_ble_eq_true rfl) ?_
  intro p e s m below meth c ls C hr hlk hn hl hw
  have hx := C.1.1
  have hb := C.1.2.1
  have hl : lv_has ls 2 [(0, .ref a0), (1, .int p1)] := hl
  refine lv_aload_n hx hb dX11_packed_0 rfl (lv_at hl 0 rfl) ?_
  obtain ⟨q1, e2, hq⟩ := hq
  refine gfX11_56 C hw hw.2.2.1 h0 e2 dX11_packed_1 ?_
  refine lv_iload_n hx hb dX11_packed_4 rfl (lv_at hl 1 rfl) ?_
  refine r_callV (T := TX8) (N := 15) (ci := 8) (index := 180) (n := 1) (d2 := 0) (mc := 0) (ms := 0) (As := [.int p1]) (rest := []) C hw (ct_X8_numberAt hq) kvX11_180 hq.1 (by decide) rfl ⟨by decide, by decide⟩ ⟨by decide, by decide⟩ rfl hl.1 rfl (Nat.le_of_ble_eq_true rfl) dX11_packed_5 (fun r M4 H locs hp hle hw => ?_)
  obtain ⟨v3, rfl, hq⟩ := hp
  refine W.eq (g2 := F0 m 8 ls [.int v3]) rfl ?_
  exact r_iret C hr hlk hw dX11_packed_8 (Nat.le_refl _) (Nat.le_refl _) ⟨_, rfl, hq⟩
