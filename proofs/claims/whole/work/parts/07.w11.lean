set_option maxRecDepth 100000 in
def wp_X6_eventAt  (g : Gh) (M0 : Mem) (a0 : Nat) (p1 : Int32) (post : Option Nat → Mem → Prop) : Prop :=
  okc (gB g) M0 a0 6 ∧ (((p1 < 0) → post none M0) ∧ (¬ (p1 < 0) → (((mI M0 a0 3) ≤ p1) → post none M0) ∧ (¬ ((mI M0 a0 3) ≤ p1) → ((120 ≤ p1) → post none M0) ∧ (¬ (120 ≤ p1) → ∃ q4, mR M0 a0 2 = some q4 ∧ (okc (gB g) M0 q4 18 ∧ (vp_in p1 (mN M0 q4) ∧ (∃ q8, mR M0 q4 (Int32.toNatClampNeg p1) = some q8 ∧ (post (some q8) M0))))))))
set_option maxHeartbeats 4000000 in
set_option maxRecDepth 100000 in
theorem ct_X6_eventAt {l : Launch} {g : Gh} {M0 : Mem} {a0 : Nat} {p1 : Int32} {post : Option Nat → Mem → Prop}  (hq : wp_X6_eventAt  g M0 a0 p1 post) : Ct l g yX6_eventAt cX6_eventAt 2 (some (.object "QuizLeague$Event")) 0 0 0 [.ref a0, .int p1] M0 (pR post) := by
  unfold wp_X6_eventAt at hq
  obtain ⟨h0, hq⟩ := hq
  refine Ct.of (by decide) (Nat.le_of_ble_eq_true rfl) ?_
  intro p e s m below meth c ls C hr hlk hn hl hw
  have hx := C.1.1
  have hb := C.1.2.1
  have hl : lv_has ls 2 [(0, .ref a0), (1, .int p1)] := hl
  refine lv_iload_n hx hb dX6_eventAt_0 rfl (lv_at hl 1 rfl) ?_
  refine lv_if_lt (tgt := 27) hx hb dX6_eventAt_1 (by decide) (fun c1 => ?_) (fun c1 => ?_)
  · replace hq := hq.1 c1
    refine lv_null hx hb dX6_eventAt_27 ?_
    exact r_aret (v := none) C hr (Or.inl ⟨_, rfl⟩) hlk hw dX6_eventAt_28 (Nat.le_refl _) (Nat.le_refl _) ⟨_, rfl, hq⟩
  · replace hq := hq.2 c1
    refine lv_iload_n hx hb dX6_eventAt_4 rfl (lv_at hl 1 rfl) ?_
    refine lv_aload_n hx hb dX6_eventAt_5 rfl (lv_at hl 0 rfl) ?_
    refine gfX6_30 C hw hw.2.2.1 h0 dX6_eventAt_6 ?_
    refine lv_icmp_ge (tgt := 27) hx hb dX6_eventAt_9 (by decide) (fun c2 => ?_) (fun c2 => ?_)
    · replace hq := hq.1 c2
      refine lv_null hx hb dX6_eventAt_27 ?_
      exact r_aret (v := none) C hr (Or.inl ⟨_, rfl⟩) hlk hw dX6_eventAt_28 (Nat.le_refl _) (Nat.le_refl _) ⟨_, rfl, hq⟩
    · replace hq := hq.2 c2
      refine lv_iload_n hx hb dX6_eventAt_12 rfl (lv_at hl 1 rfl) ?_
      refine lv_bipush (v := 120) hx hb dX6_eventAt_13 (by decide) ?_
      refine lv_icmp_ge (tgt := 27) hx hb dX6_eventAt_15 (by decide) (fun c3 => ?_) (fun c3 => ?_)
      · replace hq := hq.1 c3
        refine lv_null hx hb dX6_eventAt_27 ?_
        exact r_aret (v := none) C hr (Or.inl ⟨_, rfl⟩) hlk hw dX6_eventAt_28 (Nat.le_refl _) (Nat.le_refl _) ⟨_, rfl, hq⟩
      · replace hq := hq.2 c3
        refine lv_aload_n hx hb dX6_eventAt_18 rfl (lv_at hl 0 rfl) ?_
        obtain ⟨q4, e5, hq⟩ := hq
        refine gfX6_21 C hw hw.2.2.1 h0 e5 dX6_eventAt_19 ?_
        refine lv_iload_n hx hb dX6_eventAt_22 rfl (lv_at hl 1 rfl) ?_
        obtain ⟨h6, hq⟩ := hq
        obtain ⟨h7, hq⟩ := hq
        obtain ⟨q8, e9, hq⟩ := hq
        refine q_aald C hw hw.2.2.1 h6 (by decide) (by decide) rfl h7 e9 dX6_eventAt_23 ?_
        refine lv_goto (tgt := 28) hx hb dX6_eventAt_24 (by decide) ?_
        exact r_aret (v := (some q8)) C hr (Or.inl ⟨_, rfl⟩) hlk hw dX6_eventAt_28 (Nat.le_refl _) (Nat.le_refl _) ⟨_, rfl, hq⟩

set_option maxRecDepth 100000 in
def wp_X6_overrule  (g : Gh) (M0 : Mem) (a0 : Nat) (p1 : Int32) (p2 : Int32) (post : Int32 → Mem → Prop) : Prop :=
  okc (gB g) M0 a0 6 ∧ (wp_X6_eventAt g M0 a0 p1 (fun v1 M2 => (v1 = none → post 0 M2) ∧ (∀ q4, v1 = some q4 → okc (gB g) M0 q4 0 ∧ ((((mI M2 q4 1) = 0) → (((mI M2 q4 3) = p2) → post 0 M2) ∧ (¬ ((mI M2 q4 3) = p2) → (p2 = 0 ∨ p2 = 1) ∧ (∀ M9, M9 = uI M2 q4 3 p2 → (wp_X6_replay g M9 a0 (fun M12 => post 1 M12))))) ∧ (¬ ((mI M2 q4 1) = 0) → post 0 M2)))))
set_option maxHeartbeats 4000000 in
set_option maxRecDepth 100000 in
theorem ct_X6_overrule {l : Launch} {g : Gh} {M0 : Mem} {a0 : Nat} {p1 : Int32} {p2 : Int32} {post : Int32 → Mem → Prop}  (hq : wp_X6_overrule  g M0 a0 p1 p2 post) : Ct l g yX6_overrule cX6_overrule 4 (some .boolean) 5 0 0 [.ref a0, .int p1, .int p2] M0 (pI post) := by
  unfold wp_X6_overrule at hq
  obtain ⟨h0, hq⟩ := hq
  refine Ct.of (by decide) (Nat.le_of_ble_eq_true rfl) ?_
  intro p e s m below meth c ls C hr hlk hn hl hw
  have hx := C.1.1
  have hb := C.1.2.1
  have hl : lv_has ls 4 [(0, .ref a0), (1, .int p1), (2, .int p2)] := hl
  refine lv_aload_n hx hb dX6_overrule_0 rfl (lv_at hl 0 rfl) ?_
  refine lv_iload_n hx hb dX6_overrule_1 rfl (lv_at hl 1 rfl) ?_
  refine r_callV (T := TX6) (N := 9) (ci := 6) (index := 72) (n := 1) (d2 := 0) (mc := 0) (ms := 0) (As := [.int p1]) (rest := []) C hw (ct_X6_eventAt hq) kvX6_72 hq.1 (by decide) rfl ⟨by decide, by decide⟩ ⟨by decide, by decide⟩ rfl hl.1 rfl (Nat.le_of_ble_eq_true rfl) dX6_overrule_2 (fun r M2 H locs hp hle hw => ?_)
  obtain ⟨v1, rfl, hq⟩ := hp
  refine W.eq (g2 := F0 m 5 ls [va_rf v1]) rfl ?_
  refine r_astore_n (lv' := [(3, va_rf v1), (0, .ref a0), (1, .int p1), (2, .int p2)]) hx hb dX6_overrule_5 rfl hl (by decide) (by first | rfl | simp [va_cat]) (fun ls hl => ?_)
  refine r_aload_n hx hb dX6_overrule_6 rfl (lv_at hl 0 rfl) ?_
  rcases v1 with _ | q4
  · refine lv_ifnullN (tgt := 25) hx hb dX6_overrule_7 (by decide) ?_
    have hl : lv_has ls 4 [(3, .null), (0, .ref a0), (1, .int p1), (2, .int p2)] := hl
    replace hq := hq.1 rfl
    refine lv_iconst (v := 0) hx hb dX6_overrule_25 (by decide) ?_
    exact r_zret C hr hlk hw dX6_overrule_26 (Nat.le_refl _) (Nat.le_refl _) (by decide) ⟨_, rfl, hq⟩
  · refine lv_ifnull hx hb dX6_overrule_7 ?_
    have hl : lv_has ls 4 [(3, .ref q4), (0, .ref a0), (1, .int p1), (2, .int p2)] := hl
    replace hq := hq.2 q4 rfl
    refine lv_aload_n hx hb dX6_overrule_10 rfl (lv_at hl 0 rfl) ?_
    obtain ⟨h5, hq⟩ := hq
    refine gfX6_59 C hw hw.2.2.1 h5 dX6_overrule_11 ?_
    refine lv_if_ne (tgt := 25) hx hb dX6_overrule_14 (by decide) (fun c6 => ?_) (fun c6 => ?_)
    · replace hq := hq.2 c6
      refine lv_iconst (v := 0) hx hb dX6_overrule_25 (by decide) ?_
      exact r_zret C hr hlk hw dX6_overrule_26 (Nat.le_refl _) (Nat.le_refl _) (by decide) ⟨_, rfl, hq⟩
    · replace hq := hq.1 c6
      refine lv_aload_n hx hb dX6_overrule_17 rfl (lv_at hl 0 rfl) ?_
      refine gfX6_65 C hw hw.2.2.1 h5 dX6_overrule_18 ?_
      refine lv_iload_n hx hb dX6_overrule_21 rfl (lv_at hl 3 rfl) ?_
      refine lv_icmp_ne (tgt := 27) hx hb dX6_overrule_22 (by decide) (fun c7 => ?_) (fun c7 => ?_)
      · replace hq := hq.2 c7
        refine lv_aload_n hx hb dX6_overrule_27 rfl (lv_at hl 0 rfl) ?_
        refine lv_iload_n hx hb dX6_overrule_28 rfl (lv_at hl 3 rfl) ?_
        obtain ⟨h8, hq⟩ := hq
        refine pfX6_65 C hw hw.2.2.1 h5 h8 dX6_overrule_29 (fun H locs hw => ?_)
        generalize e10 : uI M2 q4 3 p2 = M9 at hw
        replace hq := hq M9 e10.symm
        refine lv_aload_n hx hb dX6_overrule_32 rfl (lv_at hl 1 rfl) ?_
        refine r_callV (T := TX6) (N := 9) (ci := 6) (index := 34) (n := 0) (d2 := 4) (mc := 0) (ms := 0) (As := []) (rest := []) C hw (ct_X6_replay hq) kvX6_34 hq.1 (by decide) rfl ⟨by decide, by decide⟩ ⟨by decide, by decide⟩ rfl hl.1 rfl (Nat.le_of_ble_eq_true rfl) dX6_overrule_33 (fun r M12 H locs hp hle hw => ?_)
        obtain ⟨rfl, hq⟩ := hp
        refine W.eq (g2 := F0 m 36 ls []) rfl ?_
        refine lv_iconst (v := 1) hx hb dX6_overrule_36 (by decide) ?_
        exact r_zret C hr hlk hw dX6_overrule_37 (Nat.le_refl _) (Nat.le_refl _) (by decide) ⟨_, rfl, hq⟩
      · replace hq := hq.1 c7
        refine lv_iconst (v := 0) hx hb dX6_overrule_25 (by decide) ?_
        exact r_zret C hr hlk hw dX6_overrule_26 (Nat.le_refl _) (Nat.le_refl _) (by decide) ⟨_, rfl, hq⟩

set_option maxRecDepth 100000 in
def wp_X6_takeBack  (g : Gh) (M0 : Mem) (a0 : Nat) (post : Int32 → Mem → Prop) : Prop :=
  okc (gB g) M0 a0 6 ∧ (((1 ≤ (mI M0 a0 3)) → ∀ M2, M2 = uI M0 a0 3 ((mI M0 a0 3) - 1) → (wp_X6_replay g M2 a0 (fun M5 => post 1 M5))) ∧ (¬ (1 ≤ (mI M0 a0 3)) → post 0 M0))
set_option maxHeartbeats 4000000 in
set_option maxRecDepth 100000 in
theorem ct_X6_takeBack {l : Launch} {g : Gh} {M0 : Mem} {a0 : Nat} {post : Int32 → Mem → Prop}  (hq : wp_X6_takeBack  g M0 a0 post) : Ct l g yX6_takeBack cX6_takeBack 1 (some .boolean) 5 0 0 [.ref a0] M0 (pI post) := by
  unfold wp_X6_takeBack at hq
  obtain ⟨h0, hq⟩ := hq
  refine Ct.of (by decide) (Nat.le_of_ble_eq_true rfl) ?_
  intro p e s m below meth c ls C hr hlk hn hl hw
  have hx := C.1.1
  have hb := C.1.2.1
  have hl : lv_has ls 1 [(0, .ref a0)] := hl
  refine lv_aload_n hx hb dX6_takeBack_0 rfl (lv_at hl 0 rfl) ?_
  refine gfX6_30 C hw hw.2.2.1 h0 dX6_takeBack_1 ?_
  refine lv_iconst (v := 1) hx hb dX6_takeBack_4 (by decide) ?_
  refine lv_icmp_ge (tgt := 10) hx hb dX6_takeBack_5 (by decide) (fun c1 => ?_) (fun c1 => ?_)
  · replace hq := hq.1 c1
    refine lv_aload_n hx hb dX6_takeBack_10 rfl (lv_at hl 0 rfl) ?_
    refine lv_dup hx hb dX6_takeBack_11 rfl ?_
    refine gfX6_30 C hw hw.2.2.1 h0 dX6_takeBack_12 ?_
    refine lv_iconst (v := 1) hx hb dX6_takeBack_15 (by decide) ?_
    refine lv_isub hx hb dX6_takeBack_16 ?_
    refine pfX6_30 C hw hw.2.2.1 h0 dX6_takeBack_17 (fun H locs hw => ?_)
    generalize e3 : uI M0 a0 3 ((mI M0 a0 3) - 1) = M2 at hw
    replace hq := hq M2 e3.symm
    refine lv_aload_n hx hb dX6_takeBack_20 rfl (lv_at hl 0 rfl) ?_
    refine r_callV (T := TX6) (N := 9) (ci := 6) (index := 34) (n := 0) (d2 := 4) (mc := 0) (ms := 0) (As := []) (rest := []) C hw (ct_X6_replay hq) kvX6_34 hq.1 (by decide) rfl ⟨by decide, by decide⟩ ⟨by decide, by decide⟩ rfl hl.1 rfl (Nat.le_of_ble_eq_true rfl) dX6_takeBack_21 (fun r M5 H locs hp hle hw => ?_)
    obtain ⟨rfl, hq⟩ := hp
    refine W.eq (g2 := F0 m 24 ls []) rfl ?_
    refine lv_iconst (v := 1) hx hb dX6_takeBack_24 (by decide) ?_
    exact r_zret C hr hlk hw dX6_takeBack_25 (Nat.le_refl _) (Nat.le_refl _) (by decide) ⟨_, rfl, hq⟩
  · replace hq := hq.2 c1
    refine lv_iconst (v := 0) hx hb dX6_takeBack_8 (by decide) ?_
    exact r_zret C hr hlk hw dX6_takeBack_9 (Nat.le_refl _) (Nat.le_refl _) (by decide) ⟨_, rfl, hq⟩

set_option maxRecDepth 100000 in
def wp_X6_pointsOf  (g : Gh) (M0 : Mem) (a0 : Nat) (p1 : Int32) (post : Int32 → Mem → Prop) : Prop :=
  okc (gB g) M0 a0 6 ∧ (((p1 = 0) → ∃ q2, mR M0 a0 8 = some q2 ∧ (okc (gB g) M0 q2 14 ∧ (vp_in p1 (mN M0 q2) ∧ (post (mI M0 q2 (Int32.toNatClampNeg p1)) M0)))) ∧ (¬ (p1 = 0) → ((p1 = 1) → ∃ q7, mR M0 a0 8 = some q7 ∧ (okc (gB g) M0 q7 14 ∧ (vp_in p1 (mN M0 q7) ∧ (post (mI M0 q7 (Int32.toNatClampNeg p1)) M0)))) ∧ (¬ (p1 = 1) → post 0 M0)))
set_option maxHeartbeats 4000000 in
set_option maxRecDepth 100000 in
theorem ct_X6_pointsOf {l : Launch} {g : Gh} {M0 : Mem} {a0 : Nat} {p1 : Int32} {post : Int32 → Mem → Prop}  (hq : wp_X6_pointsOf  g M0 a0 p1 post) : Ct l g yX6_pointsOf cX6_pointsOf 2 (some .int) 0 0 0 [.ref a0, .int p1] M0 (pI post) := by
  unfold wp_X6_pointsOf at hq
  obtain ⟨h0, hq⟩ := hq
  refine Ct.of (by decide) (Nat.le_of_ble_eq_true rfl) ?_
  intro p e s m below meth c ls C hr hlk hn hl hw
  have hx := C.1.1
  have hb := C.1.2.1
  have hl : lv_has ls 2 [(0, .ref a0), (1, .int p1)] := hl
  refine lv_iload_n hx hb dX6_pointsOf_0 rfl (lv_at hl 1 rfl) ?_
  refine lv_if_eq (tgt := 9) hx hb dX6_pointsOf_1 (by decide) (fun c1 => ?_) (fun c1 => ?_)
  · replace hq := hq.1 c1
    refine lv_aload_n hx hb dX6_pointsOf_9 rfl (lv_at hl 0 rfl) ?_
    obtain ⟨q2, e3, hq⟩ := hq
    refine gfX6_26 C hw hw.2.2.1 h0 e3 dX6_pointsOf_10 ?_
    refine lv_iload_n hx hb dX6_pointsOf_13 rfl (lv_at hl 1 rfl) ?_
    obtain ⟨h4, hq⟩ := hq
    obtain ⟨h5, hq⟩ := hq
    refine q_iald C hw hw.2.2.1 h4 h5 dX6_pointsOf_14 ?_
    refine lv_goto (tgt := 19) hx hb dX6_pointsOf_15 (by decide) ?_
    exact r_iret C hr hlk hw dX6_pointsOf_19 (Nat.le_refl _) (Nat.le_refl _) ⟨_, rfl, hq⟩
  · replace hq := hq.2 c1
    refine lv_iload_n hx hb dX6_pointsOf_4 rfl (lv_at hl 1 rfl) ?_
    refine lv_iconst (v := 1) hx hb dX6_pointsOf_5 (by decide) ?_
    refine lv_icmp_ne (tgt := 18) hx hb dX6_pointsOf_6 (by decide) (fun c6 => ?_) (fun c6 => ?_)
    · replace hq := hq.2 c6
      refine lv_iconst (v := 0) hx hb dX6_pointsOf_18 (by decide) ?_
      exact r_iret C hr hlk hw dX6_pointsOf_19 (Nat.le_refl _) (Nat.le_refl _) ⟨_, rfl, hq⟩
    · replace hq := hq.1 c6
      refine lv_aload_n hx hb dX6_pointsOf_9 rfl (lv_at hl 0 rfl) ?_
      obtain ⟨q7, e8, hq⟩ := hq
      refine gfX6_26 C hw hw.2.2.1 h0 e8 dX6_pointsOf_10 ?_
      refine lv_iload_n hx hb dX6_pointsOf_13 rfl (lv_at hl 1 rfl) ?_
      obtain ⟨h9, hq⟩ := hq
      obtain ⟨h10, hq⟩ := hq
      refine q_iald C hw hw.2.2.1 h9 h10 dX6_pointsOf_14 ?_
      refine lv_goto (tgt := 19) hx hb dX6_pointsOf_15 (by decide) ?_
      exact r_iret C hr hlk hw dX6_pointsOf_19 (Nat.le_refl _) (Nat.le_refl _) ⟨_, rfl, hq⟩

set_option maxRecDepth 100000 in
def bd_X6_isKnown_2  (g : Gh) (M0 : Mem) (a0 : Nat) (p1 : Int32) (post : Int32 → Mem → Prop)  (bk2 : Int32 × Mem → Prop) (x2 : Int32)  (M : Mem) : Prop :=
  (((mI M a0 3) ≤ x2) → post 0 M) ∧ (¬ ((mI M a0 3) ≤ x2) → ((120 ≤ x2) → post 0 M) ∧ (¬ (120 ≤ x2) → ∃ q3, mR M a0 2 = some q3 ∧ (okc (gB g) M0 q3 18 ∧ (vp_in x2 (mN M0 q3) ∧ (∃ q7, mR M q3 (Int32.toNatClampNeg x2) = some q7 ∧ (okc (gB g) M0 q7 0 ∧ ((((mI M q7 0) = p1) → (((mI M q7 3) = 0) → bk2 ((x2 + 1), M)) ∧ (¬ ((mI M q7 3) = 0) → (((mI M q7 4) = 0) → post 1 M) ∧ (¬ ((mI M q7 4) = 0) → bk2 ((x2 + 1), M)))) ∧ (¬ ((mI M q7 0) = p1) → bk2 ((x2 + 1), M)))))))))
set_option maxRecDepth 100000 in
def wp_X6_isKnown  (g : Gh) (M0 : Mem) (a0 : Nat) (p1 : Int32) (post : Int32 → Mem → Prop) : Prop :=
  okc (gB g) M0 a0 6 ∧ ((∃ n : Nat, lfp (fun bk z => bd_X6_isKnown_2  g M0 a0 p1 post  bk z.1 z.2) n (0, M0)))
set_option maxHeartbeats 4000000 in
set_option maxRecDepth 100000 in
theorem lp_X6_isKnown_2 {l : Launch} {g : Gh} {p : Program} {e : Env} {s : State} {m : MethodId} {args : Array Value} {below : List Frame} {meth : Method} {c : Code} {M0 : Mem} {a0 : Nat} {p1 : Int32} {post : Int32 → Mem → Prop}  (C : Cx g p s m args c cX6_isKnown 3 RX6) (hr : meth.sig.returnType = (some .boolean)) (hlk : meth.locks = false) (hn : meth.name = "isKnown") (h0 : okc (gB g) M0 a0 6)  : ∀ (nf : Nat) (x2 : Int32)  (M : Mem) (H : Heap) (locs : List Loc) (ls : Array Slot), lfp (fun bk z => bd_X6_isKnown_2  g M0 a0 p1 post  bk z.1 z.2) nf (x2, M) → Wd g s M0 M H locs → lv_has ls 3 [(0, .ref a0), (1, .int p1), (2, .int x2)] → W p l e (rmo 0 0 0) s m args below meth c H locs 0 0 (MQ below (Cq g M0 (pI post)) args s 0 0 (gA g)) (F0 m 2 ls []) := by
  have hx := C.1.1
  have hb := C.1.2.1
  intro nf
  induction nf with
  | zero => intro _ _ H locs ls hq; exact hq.elim
  | succ nf hk2 =>
    intro x2 M H locs ls hq hw hl
    replace hq : bd_X6_isKnown_2  g M0 a0 p1 post  (lfp (fun bk z => bd_X6_isKnown_2  g M0 a0 p1 post  bk z.1 z.2) nf) x2 M := hq
    unfold bd_X6_isKnown_2 at hq
    refine lv_iload_n hx hb dX6_isKnown_2 rfl (lv_at hl 2 rfl) ?_
    refine lv_aload_n hx hb dX6_isKnown_3 rfl (lv_at hl 0 rfl) ?_
    refine gfX6_30 C hw hw.2.2.1 h0 dX6_isKnown_4 ?_
    refine lv_icmp_ge (tgt := 61) hx hb dX6_isKnown_7 (by decide) (fun c1 => ?_) (fun c1 => ?_)
    · replace hq := hq.1 c1
      refine lv_iconst (v := 0) hx hb dX6_isKnown_61 (by decide) ?_
      exact r_zret C hr hlk hw dX6_isKnown_62 (Nat.le_refl _) (Nat.le_refl _) (by decide) ⟨_, rfl, hq⟩
    · replace hq := hq.2 c1
      refine lv_iload_n hx hb dX6_isKnown_10 rfl (lv_at hl 2 rfl) ?_
      refine lv_bipush (v := 120) hx hb dX6_isKnown_11 (by decide) ?_
      refine lv_icmp_ge (tgt := 61) hx hb dX6_isKnown_13 (by decide) (fun c2 => ?_) (fun c2 => ?_)
      · replace hq := hq.1 c2
        refine lv_iconst (v := 0) hx hb dX6_isKnown_61 (by decide) ?_
        exact r_zret C hr hlk hw dX6_isKnown_62 (Nat.le_refl _) (Nat.le_refl _) (by decide) ⟨_, rfl, hq⟩
      · replace hq := hq.2 c2
        refine lv_aload_n hx hb dX6_isKnown_16 rfl (lv_at hl 0 rfl) ?_
        obtain ⟨q3, e4, hq⟩ := hq
        refine gfX6_21 C hw hw.2.2.1 h0 e4 dX6_isKnown_17 ?_
        refine lv_iload_n hx hb dX6_isKnown_20 rfl (lv_at hl 2 rfl) ?_
        obtain ⟨h5, hq⟩ := hq
        obtain ⟨h6, hq⟩ := hq
        obtain ⟨q7, e8, hq⟩ := hq
        refine q_aald C hw hw.2.2.1 h5 (by decide) (by decide) rfl h6 e8 dX6_isKnown_21 ?_
        obtain ⟨h9, hq⟩ := hq
        refine gfX6_56 C hw hw.2.2.1 h9 dX6_isKnown_22 ?_
        refine lv_iload_n hx hb dX6_isKnown_25 rfl (lv_at hl 1 rfl) ?_
        refine lv_icmp_ne (tgt := 55) hx hb dX6_isKnown_26 (by decide) (fun c10 => ?_) (fun c10 => ?_)
        · replace hq := hq.2 c10
          refine lv_iinc (v := (x2 + 1)) (lv' := [(2, .int (x2 + 1)), (0, .ref a0), (1, .int p1)]) hx hb dX6_isKnown_55 hl (k := 2) rfl rfl (by decide) rfl (fun ls hl => ?_)
          refine lv_goto (tgt := 2) hx hb dX6_isKnown_58 (by decide) ?_
          exact hk2 _ _ _ _ _ hq hw (lv_sub hl [1, 2, 0] rfl)
        · replace hq := hq.1 c10
          refine lv_aload_n hx hb dX6_isKnown_29 rfl (lv_at hl 0 rfl) ?_
          refine gfX6_21 C hw hw.2.2.1 h0 e4 dX6_isKnown_30 ?_
          refine lv_iload_n hx hb dX6_isKnown_33 rfl (lv_at hl 2 rfl) ?_
          refine q_aald C hw hw.2.2.1 h5 (by decide) (by decide) rfl h6 e8 dX6_isKnown_34 ?_
          refine gfX6_65 C hw hw.2.2.1 h9 dX6_isKnown_35 ?_
          refine lv_if_eq (tgt := 55) hx hb dX6_isKnown_38 (by decide) (fun c11 => ?_) (fun c11 => ?_)
          · replace hq := hq.1 c11
            refine lv_iinc (v := (x2 + 1)) (lv' := [(2, .int (x2 + 1)), (0, .ref a0), (1, .int p1)]) hx hb dX6_isKnown_55 hl (k := 2) rfl rfl (by decide) rfl (fun ls hl => ?_)
            refine lv_goto (tgt := 2) hx hb dX6_isKnown_58 (by decide) ?_
            exact hk2 _ _ _ _ _ hq hw (lv_sub hl [1, 2, 0] rfl)
          · replace hq := hq.2 c11
            refine lv_aload_n hx hb dX6_isKnown_41 rfl (lv_at hl 0 rfl) ?_
            refine gfX6_21 C hw hw.2.2.1 h0 e4 dX6_isKnown_42 ?_
            refine lv_iload_n hx hb dX6_isKnown_45 rfl (lv_at hl 2 rfl) ?_
            refine q_aald C hw hw.2.2.1 h5 (by decide) (by decide) rfl h6 e8 dX6_isKnown_46 ?_
            refine gfX6_76 C hw hw.2.2.1 h9 dX6_isKnown_47 ?_
            refine lv_if_ne (tgt := 55) hx hb dX6_isKnown_50 (by decide) (fun c12 => ?_) (fun c12 => ?_)
            · replace hq := hq.2 c12
              refine lv_iinc (v := (x2 + 1)) (lv' := [(2, .int (x2 + 1)), (0, .ref a0), (1, .int p1)]) hx hb dX6_isKnown_55 hl (k := 2) rfl rfl (by decide) rfl (fun ls hl => ?_)
              refine lv_goto (tgt := 2) hx hb dX6_isKnown_58 (by decide) ?_
              exact hk2 _ _ _ _ _ hq hw (lv_sub hl [1, 2, 0] rfl)
            · replace hq := hq.1 c12
              refine lv_iconst (v := 1) hx hb dX6_isKnown_53 (by decide) ?_
              exact r_zret C hr hlk hw dX6_isKnown_54 (Nat.le_refl _) (Nat.le_refl _) (by decide) ⟨_, rfl, hq⟩
set_option maxHeartbeats 4000000 in
set_option maxRecDepth 100000 in
theorem ct_X6_isKnown {l : Launch} {g : Gh} {M0 : Mem} {a0 : Nat} {p1 : Int32} {post : Int32 → Mem → Prop}  (hq : wp_X6_isKnown  g M0 a0 p1 post) : Ct l g yX6_isKnown cX6_isKnown 3 (some .boolean) 0 0 0 [.ref a0, .int p1] M0 (pI post) := by
  unfold wp_X6_isKnown at hq
  obtain ⟨h0, hq⟩ := hq
  refine Ct.of (by decide) (Nat.le_of_ble_eq_true rfl) ?_
  intro p e s m below meth c ls C hr hlk hn hl hw
  have hx := C.1.1
  have hb := C.1.2.1
  have hl : lv_has ls 3 [(0, .ref a0), (1, .int p1)] := hl
  refine lv_iconst (v := 0) hx hb dX6_isKnown_0 (by decide) ?_
  refine lv_istore_n (lv' := [(2, .int 0), (0, .ref a0), (1, .int p1)]) hx hb dX6_isKnown_1 rfl hl (by decide) rfl (fun ls hl => ?_)
  obtain ⟨nf, hq⟩ := hq
  exact lp_X6_isKnown_2  C hr hlk hn h0  nf _ _ _ _ _ hq hw (lv_sub hl [1, 2, 0] rfl)

set_option maxRecDepth 100000 in
def wp_X6_tell  (g : Gh) (M0 : Mem) (a0 : Nat) (p1 : Int32) (post : Int32 → Mem → Prop) : Prop :=
  okc (gB g) M0 a0 6 ∧ (((p1 = 0) → post (mI M0 a0 5) M0) ∧ ((p1 = 1) → post (mI M0 a0 6) M0) ∧ ((p1 = 2) → wp_X6_pointsOf g M0 a0 0 (fun v2 M3 => post v2 M3)) ∧ ((p1 = 3) → wp_X6_pointsOf g M0 a0 1 (fun v4 M5 => post v4 M5)) ∧ ((p1 = 4) → post (mI M0 a0 3) M0) ∧ ((p1 = 5) → post (mI M0 a0 4) M0) ∧ ((¬ (p1 = 0) ∧ ¬ (p1 = 1) ∧ ¬ (p1 = 2) ∧ ¬ (p1 = 3) ∧ ¬ (p1 = 4) ∧ ¬ (p1 = 5)) → post (-1) M0))
set_option maxHeartbeats 4000000 in
set_option maxRecDepth 100000 in
theorem ct_X6_tell {l : Launch} {g : Gh} {M0 : Mem} {a0 : Nat} {p1 : Int32} {post : Int32 → Mem → Prop}  (hq : wp_X6_tell  g M0 a0 p1 post) : Ct l g yX6_tell cX6_tell 2 (some .int) 1 0 0 [.ref a0, .int p1] M0 (pI post) := by
  unfold wp_X6_tell at hq
  obtain ⟨h0, hq⟩ := hq
  refine Ct.of (by decide) (Nat.le_of_ble_eq_true rfl) ?_
  intro p e s m below meth c ls C hr hlk hn hl hw
  have hx := C.1.1
  have hb := C.1.2.1
  have hl : lv_has ls 2 [(0, .ref a0), (1, .int p1)] := hl
  refine lv_iload_n hx hb dX6_tell_0 rfl (lv_at hl 1 rfl) ?_
  by_cases c6 : p1 = 0
  · refine r_table (v := 0) (off := 39) (tgt := 40) hx hb dX6_tell_1 c6 (by decide) (by decide) rfl (by decide) ?_
    replace hq := hq.1 c6
    refine lv_aload_n hx hb dX6_tell_40 rfl (lv_at hl 0 rfl) ?_
    refine gfX6_37 C hw hw.2.2.1 h0 dX6_tell_41 ?_
    exact r_iret C hr hlk hw dX6_tell_44 (Nat.le_refl _) (Nat.le_refl _) ⟨_, rfl, hq⟩
  by_cases c7 : p1 = 1
  · refine r_table (v := 1) (off := 44) (tgt := 45) hx hb dX6_tell_1 c7 (by decide) (by decide) rfl (by decide) ?_
    replace hq := hq.2.1 c7
    refine lv_aload_n hx hb dX6_tell_45 rfl (lv_at hl 0 rfl) ?_
    refine gfX6_79 C hw hw.2.2.1 h0 dX6_tell_46 ?_
    exact r_iret C hr hlk hw dX6_tell_49 (Nat.le_refl _) (Nat.le_refl _) ⟨_, rfl, hq⟩
  by_cases c8 : p1 = 2
  · refine r_table (v := 2) (off := 49) (tgt := 50) hx hb dX6_tell_1 c8 (by decide) (by decide) rfl (by decide) ?_
    replace hq := hq.2.2.1 c8
    refine lv_aload_n hx hb dX6_tell_50 rfl (lv_at hl 0 rfl) ?_
    refine lv_iconst (v := 0) hx hb dX6_tell_51 (by decide) ?_
    refine r_callV (T := TX6) (N := 9) (ci := 6) (index := 82) (n := 1) (d2 := 0) (mc := 0) (ms := 0) (As := [.int 0]) (rest := []) C hw (ct_X6_pointsOf hq) kvX6_82 hq.1 (by decide) rfl ⟨by decide, by decide⟩ ⟨by decide, by decide⟩ rfl hl.1 rfl (Nat.le_of_ble_eq_true rfl) dX6_tell_52 (fun r M3 H locs hp hle hw => ?_)
    obtain ⟨v2, rfl, hq⟩ := hp
    refine W.eq (g2 := F0 m 55 ls [.int v2]) rfl ?_
    exact r_iret C hr hlk hw dX6_tell_55 (Nat.le_refl _) (Nat.le_refl _) ⟨_, rfl, hq⟩
  by_cases c9 : p1 = 3
  · refine r_table (v := 3) (off := 55) (tgt := 56) hx hb dX6_tell_1 c9 (by decide) (by decide) rfl (by decide) ?_
    replace hq := hq.2.2.2.1 c9
    refine lv_aload_n hx hb dX6_tell_56 rfl (lv_at hl 0 rfl) ?_
    refine lv_iconst (v := 1) hx hb dX6_tell_57 (by decide) ?_
    refine r_callV (T := TX6) (N := 9) (ci := 6) (index := 82) (n := 1) (d2 := 0) (mc := 0) (ms := 0) (As := [.int 1]) (rest := []) C hw (ct_X6_pointsOf hq) kvX6_82 hq.1 (by decide) rfl ⟨by decide, by decide⟩ ⟨by decide, by decide⟩ rfl hl.1 rfl (Nat.le_of_ble_eq_true rfl) dX6_tell_58 (fun r M5 H locs hp hle hw => ?_)
    obtain ⟨v4, rfl, hq⟩ := hp
    refine W.eq (g2 := F0 m 61 ls [.int v4]) rfl ?_
    exact r_iret C hr hlk hw dX6_tell_61 (Nat.le_refl _) (Nat.le_refl _) ⟨_, rfl, hq⟩
  by_cases c10 : p1 = 4
  · refine r_table (v := 4) (off := 61) (tgt := 62) hx hb dX6_tell_1 c10 (by decide) (by decide) rfl (by decide) ?_
    replace hq := hq.2.2.2.2.1 c10
    refine lv_aload_n hx hb dX6_tell_62 rfl (lv_at hl 0 rfl) ?_
    refine gfX6_30 C hw hw.2.2.1 h0 dX6_tell_63 ?_
    exact r_iret C hr hlk hw dX6_tell_66 (Nat.le_refl _) (Nat.le_refl _) ⟨_, rfl, hq⟩
  by_cases c11 : p1 = 5
  · refine r_table (v := 5) (off := 66) (tgt := 67) hx hb dX6_tell_1 c11 (by decide) (by decide) rfl (by decide) ?_
    replace hq := hq.2.2.2.2.2.1 c11
    refine lv_aload_n hx hb dX6_tell_67 rfl (lv_at hl 0 rfl) ?_
    refine gfX6_86 C hw hw.2.2.1 h0 dX6_tell_68 ?_
    exact r_iret C hr hlk hw dX6_tell_71 (Nat.le_refl _) (Nat.le_refl _) ⟨_, rfl, hq⟩
  refine r_tableOut (tgt := 72) (k := 5) hx hb dX6_tell_1 (by decide) (fun j hj => by rcases (show j = 0 ∨ j = 1 ∨ j = 2 ∨ j = 3 ∨ j = 4 ∨ j = 5 by omega) with rfl | rfl | rfl | rfl | rfl | rfl <;> assumption) (by decide) ?_
  replace hq := hq.2.2.2.2.2.2 ⟨c6, c7, c8, c9, c10, c11⟩
  refine lv_iconst (v := (-1)) hx hb dX6_tell_72 (by decide) ?_
  exact r_iret C hr hlk hw dX6_tell_73 (Nat.le_refl _) (Nat.le_refl _) ⟨_, rfl, hq⟩

set_option maxRecDepth 100000 in
def lb_X7_init_56  (g : Gh) (M0 : Mem) (a0 : Nat) (post : Mem → Prop)    (M : Mem) (ck sk : Nat) : Prop :=
  ∀ M1, M1 = uI M a0 3 0 → ((ck + 1 ≤ 38 ∧ sk + 21 ≤ 1336) ∧ (∀ q4 M5, q4 = mT M1 → M5 = nw M1 14 21 → (∀ M9, M9 = uR M5 a0 4 (some q4) → (((ck + 1) ≤ 38 ∧ (sk + 21) ≤ 1336) ∧ (post M9)))))
set_option maxRecDepth 100000 in
def bd_X7_init_28  (g : Gh) (M0 : Mem) (a0 : Nat) (post : Mem → Prop)  (bk28 : Int32 × Mem × Nat × Nat → Prop) (x1 : Int32)  (M : Mem) (ck sk : Nat) : Prop :=
  ∃ q12, mR M a0 2 = some q12 ∧ (okc (gB g) M q12 19 ∧ ((((nI (mN M q12)) ≤ x1) → lb_X7_init_56  g M0 a0 post   M ck sk) ∧ (¬ ((nI (mN M q12)) ≤ x1) → (ck + 1 ≤ 38 ∧ sk + 5 ≤ 1336) ∧ (∀ q17 M18, q17 = mT M → M18 = nw M 3 0 → (((ck + 1) + 4 ≤ 38 ∧ (sk + 5) + 179 ≤ 1336) ∧ (wp_X3_init g M18 q17 (fun M23 => vp_in x1 (mN M23 q12) ∧ (∀ M26, M26 = uR M23 q12 (Int32.toNatClampNeg x1) (some q17) → (bk28 ((x1 + 1), M26, ((ck + 1) + 4), ((sk + 5) + 179)))))))))))
set_option maxRecDepth 100000 in
def wp_X7_init  (g : Gh) (M0 : Mem) (a0 : Nat) (post : Mem → Prop) : Prop :=
  okc (gB g) M0 a0 7 ∧ ((0 + 1 ≤ 38 ∧ 0 + 20 ≤ 1336) ∧ (∀ q29 M30, q29 = mT M0 → M30 = nw M0 15 20 → (∀ M34, M34 = uR M30 a0 0 (some q29) → (∀ M36, M36 = uI M34 a0 1 0 → (((0 + 1) + 1 ≤ 38 ∧ (0 + 20) + 7 ≤ 1336) ∧ (∀ q39 M40, q39 = mT M36 → M40 = nw M36 19 7 → (∀ M44, M44 = uR M40 a0 2 (some q39) → ((∃ n : Nat, lfp (fun bk z => bd_X7_init_28  g M0 a0 post  bk z.1 z.2.1 z.2.2.1 z.2.2.2) n (0, M44, ((0 + 1) + 1), ((0 + 20) + 7)))))))))))
set_option maxHeartbeats 4000000 in
set_option maxRecDepth 100000 in
theorem lt_X7_init_56 {l : Launch} {g : Gh} {p : Program} {e : Env} {s : State} {m : MethodId} {args : Array Value} {below : List Frame} {meth : Method} {c : Code} {H : Heap} {locs : List Loc} {ls : Array Slot} {M0 M : Mem} {a0 : Nat} {post : Mem → Prop}   {ck sk : Nat}  (C : Cx g p s m args c cX7_init 2 RX7) (hr : meth.sig.returnType = none) (hlk : meth.locks = false) (hn : meth.name = "<init>") (h0 : okc (gB g) M0 a0 7)  (hq : lb_X7_init_56  g M0 a0 post   M ck sk) (hw : Wd g s M0 M H locs) (hl : lv_has ls 2 [(0, .ref a0)]) : W p l e (rmo 2 38 1336) s m args below meth c H locs ck sk (MQ below (Cq g M0 (pV post)) args s 38 1336 (gA g)) (F0 m 56 ls []) := by
  have hx := C.1.1
  have hb := C.1.2.1
  unfold lb_X7_init_56 at hq
  have h00 := h0
  replace h0 := h0.up hw.2.2.1
  refine lv_aload_n hx hb dX7_init_56 rfl (lv_at hl 0 rfl) ?_
  refine lv_iconst (v := 0) hx hb dX7_init_57 (by decide) ?_
  refine pfX7_26 C hw (mle_rf _) h0 dX7_init_58 (fun H locs hw => ?_)
  generalize e2 : uI M a0 3 0 = M1 at hw
  replace hq := hq M1 e2.symm
  have h0 : okc (gB g) M1 a0 7 := by rw [← e2]; exact okc_uI h0
  refine lv_aload_n hx hb dX7_init_61 rfl (lv_at hl 0 rfl) ?_
  refine lv_bipush (v := 21) hx hb dX7_init_62 (by decide) ?_
  have hB := hw.B C.2.2.2.2.2
  obtain ⟨h3, hq⟩ := hq
  refine q_newa_14 (N' := 21) C hw (by decide) (by decide) (by decide) h3.1 h3.2 dX7_init_64 (fun H hw => ?_)
  have h8 := okc_nw (gB g) M1 14 21 hB
  have h0 := h0.up (mle_nw M1 14 21)
  generalize e6 : nw M1 14 21 = M5 at hw h8 h0
  generalize e7 : mT M1 = q4 at h8 ⊢
  replace hq := hq q4 M5 e7.symm e6.symm
  refine pfX7_29 (v := (some q4)) C hw (mle_rf _) h0 hn dX7_init_66 (fun H locs hw => ?_)
  generalize e10 : uR M5 a0 4 (some q4) = M9 at hw
  replace hq := hq M9 e10.symm
  have h0 : okc (gB g) M9 a0 7 := by rw [← e10]; exact okc_uR h0
  obtain ⟨h11, hq⟩ := hq
  exact r_vret C hr hlk hw dX7_init_69 h11.1 h11.2 ⟨rfl, hq⟩
set_option maxHeartbeats 4000000 in
set_option maxRecDepth 100000 in
theorem lp_X7_init_28 {l : Launch} {g : Gh} {p : Program} {e : Env} {s : State} {m : MethodId} {args : Array Value} {below : List Frame} {meth : Method} {c : Code} {M0 : Mem} {a0 : Nat} {post : Mem → Prop}  (C : Cx g p s m args c cX7_init 2 RX7) (hr : meth.sig.returnType = none) (hlk : meth.locks = false) (hn : meth.name = "<init>") (h0 : okc (gB g) M0 a0 7)  : ∀ (nf : Nat) (x1 : Int32)  (M : Mem) (ck sk : Nat) (H : Heap) (locs : List Loc) (ls : Array Slot), lfp (fun bk z => bd_X7_init_28  g M0 a0 post  bk z.1 z.2.1 z.2.2.1 z.2.2.2) nf (x1, M, ck, sk) → Wd g s M0 M H locs → lv_has ls 2 [(0, .ref a0), (1, .int x1)] → W p l e (rmo 2 38 1336) s m args below meth c H locs ck sk (MQ below (Cq g M0 (pV post)) args s 38 1336 (gA g)) (F0 m 28 ls []) := by
  have hx := C.1.1
  have hb := C.1.2.1
  intro nf
  induction nf with
  | zero => intro _ _ _ _ H locs ls hq; exact hq.elim
  | succ nf hk28 =>
    intro x1 M ck sk H locs ls hq hw hl
    replace hq : bd_X7_init_28  g M0 a0 post  (lfp (fun bk z => bd_X7_init_28  g M0 a0 post  bk z.1 z.2.1 z.2.2.1 z.2.2.2) nf) x1 M ck sk := hq
    unfold bd_X7_init_28 at hq
    have h00 := h0
    replace h0 := h0.up hw.2.2.1
    refine lv_iload_n hx hb dX7_init_28 rfl (lv_at hl 1 rfl) ?_
    refine lv_aload_n hx hb dX7_init_29 rfl (lv_at hl 0 rfl) ?_
    obtain ⟨q12, e13, hq⟩ := hq
    refine gfX7_21 C hw (mle_rf _) h0 e13 dX7_init_30 ?_
    obtain ⟨h14, hq⟩ := hq
    refine q_alen C hw (mle_rf _) h14 (by decide) (by decide) rfl dX7_init_33 ?_
    refine lv_icmp_ge (tgt := 56) hx hb dX7_init_34 (by decide) (fun c15 => ?_) (fun c15 => ?_)
    · replace hq := hq.1 c15
      exact lt_X7_init_56  C hr hlk hn h00  hq hw (lv_sub hl [0] rfl)
    · replace hq := hq.2 c15
      refine lv_aload_n hx hb dX7_init_37 rfl (lv_at hl 0 rfl) ?_
      refine gfX7_21 C hw (mle_rf _) h0 e13 dX7_init_38 ?_
      refine lv_iload_n hx hb dX7_init_41 rfl (lv_at hl 1 rfl) ?_
      have hB := hw.B C.2.2.2.2.2
      obtain ⟨h16, hq⟩ := hq
      refine r_new tyX3 (T := TX3) (N := 5) (ci := 3) C hw rfl (by decide) inX3 tyX3_ok w_120 w_122 w_5 df_3 h16.1 h16.2 dX7_init_42 (fun H hw => ?_)
      have h21 := okc_nw (gB g) M 3 0 hB
      have h0 := h0.up (mle_nw M 3 0)
      have h14 := h14.up (mle_nw M 3 0)
      generalize e19 : nw M 3 0 = M18 at hw h21 h0 h14
      generalize e20 : mT M = q17 at h21 ⊢
      replace hq := hq q17 M18 e20.symm e19.symm
      refine lv_dup hx hb dX7_init_45 rfl ?_
      obtain ⟨h24, hq⟩ := hq
      refine r_callI (index := 25) (n := 0) (d2 := 1) (mc := 4) (ms := 179) (As := []) (rest := [.ref q17, .int x1, .ref q12]) C hw (ct_X3_init hq) kiX7_25 ⟨by decide, by decide⟩ ⟨h24.1, h24.2⟩ rfl hl.1 rfl (Nat.le_of_ble_eq_true rfl) dX7_init_46 (fun r M23 H locs hp hle hw => ?_)
      obtain ⟨rfl, hq⟩ := hp
      have h0 := h0.up hle
      have h14 := h14.up hle
      have h21 := h21.up hle
      refine W.eq (g2 := F0 m 49 ls [.ref q17, .int x1, .ref q12]) rfl ?_
      obtain ⟨h25, hq⟩ := hq
      refine q_aast (ci := 3) C hw (mle_rf _) h14 (by decide) (by decide) rfl h21 (by decide) rfl h25 dX7_init_49 (fun H locs hw => ?_)
      generalize e27 : uR M23 q12 (Int32.toNatClampNeg x1) (some q17) = M26 at hw
      replace hq := hq M26 e27.symm
      have h0 : okc (gB g) M26 a0 7 := by rw [← e27]; exact okc_uR h0
      refine lv_iinc (v := (x1 + 1)) (lv' := [(1, .int (x1 + 1)), (0, .ref a0)]) hx hb dX7_init_50 hl (k := 1) rfl rfl (by decide) rfl (fun ls hl => ?_)
      refine lv_goto (tgt := 28) hx hb dX7_init_53 (by decide) ?_
      exact hk28 _ _ _ _ _ _ _ hq hw (lv_sub hl [1, 0] rfl)
set_option maxHeartbeats 4000000 in
set_option maxRecDepth 100000 in
theorem ct_X7_init {l : Launch} {g : Gh} {M0 : Mem} {a0 : Nat} {post : Mem → Prop}  (hq : wp_X7_init  g M0 a0 post) : Ct l g yX7_init cX7_init 2 none 2 38 1336 [.ref a0] M0 (pV post) := by
  unfold wp_X7_init at hq
  obtain ⟨h0, hq⟩ := hq
  have h00 := h0
  refine Ct.of (by decide) (Nat.le_of_ble_eq_true rfl) ?_
  intro p e s m below meth c ls C hr hlk hn hl hw
  have hx := C.1.1
  have hb := C.1.2.1
  have hl : lv_has ls 2 [(0, .ref a0)] := hl
  refine lv_aload_n hx hb dX7_init_0 rfl (lv_at hl 0 rfl) ?_
  refine W.objInit hx hb C.1.2.2.2.1 (C.1.2.2.2.2 _ w_119) (C.1.2.2.2.2 _ w_35) (C.1.2.2.2.2 _ w_objInit) rfl (by rw [C.1.2.2.1]; exact hl.1) rfl dX7_init_1 (Nat.le_of_ble_eq_true rfl) (Nat.le_of_ble_eq_true rfl) ?_
  refine W.eq (g2 := F0 m 4 ls []) rfl ?_
  refine lv_aload_n hx hb dX7_init_4 rfl (lv_at hl 0 rfl) ?_
  refine lv_bipush (v := 20) hx hb dX7_init_5 (by decide) ?_
  have hB := hw.B C.2.2.2.2.2
  obtain ⟨h28, hq⟩ := hq
  refine q_newa_15 (N' := 20) C hw (by decide) (by decide) (by decide) h28.1 h28.2 dX7_init_7 (fun H hw => ?_)
  have h33 := okc_nw (gB g) M0 15 20 hB
  have h0 := h0.up (mle_nw M0 15 20)
  generalize e31 : nw M0 15 20 = M30 at hw h33 h0
  generalize e32 : mT M0 = q29 at h33 ⊢
  replace hq := hq q29 M30 e32.symm e31.symm
  refine pfX7_9 (v := (some q29)) C hw (mle_rf _) h0 hn dX7_init_9 (fun H locs hw => ?_)
  generalize e35 : uR M30 a0 0 (some q29) = M34 at hw
  replace hq := hq M34 e35.symm
  have h0 : okc (gB g) M34 a0 7 := by rw [← e35]; exact okc_uR h0
  refine lv_aload_n hx hb dX7_init_12 rfl (lv_at hl 0 rfl) ?_
  refine lv_iconst (v := 0) hx hb dX7_init_13 (by decide) ?_
  refine pfX7_13 C hw (mle_rf _) h0 dX7_init_14 (fun H locs hw => ?_)
  generalize e37 : uI M34 a0 1 0 = M36 at hw
  replace hq := hq M36 e37.symm
  have h0 : okc (gB g) M36 a0 7 := by rw [← e37]; exact okc_uI h0
  refine lv_aload_n hx hb dX7_init_17 rfl (lv_at hl 0 rfl) ?_
  refine lv_bipush (v := 7) hx hb dX7_init_18 (by decide) ?_
  have hB := hw.B C.2.2.2.2.2
  obtain ⟨h38, hq⟩ := hq
  refine r_newq (kd := 19) (N' := 7) C hw w_120 C.2.2.2.1.2.1 rfl (by decide) (by decide) (by decide) (by decide) (by decide) h38.1 h38.2 dX7_init_20 (fun H hw => ?_)
  have h43 := okc_nw (gB g) M36 19 7 hB
  have h0 := h0.up (mle_nw M36 19 7)
  generalize e41 : nw M36 19 7 = M40 at hw h43 h0
  generalize e42 : mT M36 = q39 at h43 ⊢
  replace hq := hq q39 M40 e42.symm e41.symm
  refine pfX7_21 (v := (some q39)) C hw (mle_rf _) h0 hn dX7_init_23 (fun H locs hw => ?_)
  generalize e45 : uR M40 a0 2 (some q39) = M44 at hw
  replace hq := hq M44 e45.symm
  have h0 : okc (gB g) M44 a0 7 := by rw [← e45]; exact okc_uR h0
  refine lv_iconst (v := 0) hx hb dX7_init_26 (by decide) ?_
  refine lv_istore_n (lv' := [(1, .int 0), (0, .ref a0)]) hx hb dX7_init_27 rfl hl (by decide) rfl (fun ls hl => ?_)
  obtain ⟨nf, hq⟩ := hq
  exact lp_X7_init_28  C hr hlk hn h00  nf _ _ _ _ _ _ _ hq hw (lv_sub hl [1, 0] rfl)
