set_option maxRecDepth 100000 in
def lb_X12_answer_45  (g : Gh) (M0 : Mem) (a0 : Nat) (p1 : Int32) (post : Int32 → Mem → Prop)   (s0 : Int32) (M : Mem) : Prop :=
  wp_X12_tells g M a0 0 p1 s0 (fun M2 => ((s0 = 0) → post 0 M2) ∧ (¬ (s0 = 0) → post 1 M2))
set_option maxRecDepth 100000 in
def wp_X12_answer  (g : Gh) (M0 : Mem) (a0 : Nat) (p1 : Int32) (post : Int32 → Mem → Prop) : Prop :=
  okc (gB g) M0 a0 12 ∧ (∀ M4, M4 = uI M0 a0 0 0 → (wp_X12_readAnswer g M4 a0 (fun v6 M7 => wp_X12_canCome g M7 a0 p1 (fun v8 M9 => ((v8 = 0) → post (-1) M9) ∧ (¬ (v8 = 0) → ((v6 = 0) → lb_X12_answer_45  g M0 a0 p1 post  0 M9) ∧ (¬ (v6 = 0) → ∃ q12, mR M9 a0 41 = some q12 ∧ (okc (gB g) M0 q12 14 ∧ (vp_in (mI M9 a0 50) (mN M0 q12) ∧ (wp_X12_isTaken g M9 a0 (mI M9 q12 (Int32.toNatClampNeg (mI M9 a0 50))) (fun v16 M17 => ((v16 = 0) → lb_X12_answer_45  g M0 a0 p1 post  0 M17) ∧ (¬ (v16 = 0) → lb_X12_answer_45  g M0 a0 p1 post  1 M17)))))))))))
set_option maxHeartbeats 4000000 in
set_option maxRecDepth 100000 in
theorem lt_X12_answer_45 {l : Launch} {g : Gh} {p : Program} {e : Env} {s : State} {m : MethodId} {args : Array Value} {below : List Frame} {meth : Method} {c : Code} {H : Heap} {locs : List Loc} {ls : Array Slot} {M0 M : Mem} {a0 : Nat} {p1 : Int32} {post : Int32 → Mem → Prop}  {s0 : Int32}  (C : Cx g p s m args c cX12_answer 3 RX12) (hr : meth.sig.returnType = (some .int)) (hlk : meth.locks = false) (hn : meth.name = "answer") (h0 : okc (gB g) M0 a0 12)  (hq : lb_X12_answer_45  g M0 a0 p1 post  s0 M) (hw : Wd g s M0 M H locs) (hl : lv_has ls 3 [(0, .ref a0), (1, .int p1)]) : W p l e (rmo 514 0 0) s m args below meth c H locs 0 0 (MQ below (Cq g M0 (pI post)) args s 0 0 (gA g)) (F0 m 45 ls [.int s0]) := by
  have hx := C.1.1
  have hb := C.1.2.1
  unfold lb_X12_answer_45 at hq
  refine lv_istore_n (lv' := [(2, .int s0), (0, .ref a0), (1, .int p1)]) hx hb dX12_answer_45 rfl hl (by decide) rfl (fun ls hl => ?_)
  refine lv_aload_n hx hb dX12_answer_46 rfl (lv_at hl 1 rfl) ?_
  refine lv_iconst (v := 0) hx hb dX12_answer_47 (by decide) ?_
  refine lv_iload_n hx hb dX12_answer_48 rfl (lv_at hl 2 rfl) ?_
  refine lv_iload_n hx hb dX12_answer_49 rfl (lv_at hl 0 rfl) ?_
  refine r_callV (T := TX12) (N := 67) (ci := 12) (index := 327) (n := 3) (d2 := 4) (mc := 0) (ms := 0) (As := [.int 0, .int p1, .int s0]) (rest := []) C hw (ct_X12_tells hq) kvX12_327 hq.1 (by decide) rfl ⟨by decide, by decide⟩ ⟨by decide, by decide⟩ rfl hl.1 rfl (Nat.le_of_ble_eq_true rfl) dX12_answer_50 (fun r M2 H locs hp hle hw => ?_)
  obtain ⟨rfl, hq⟩ := hp
  refine W.eq (g2 := F0 m 53 ls []) rfl ?_
  refine lv_iload_n hx hb dX12_answer_53 rfl (lv_at hl 0 rfl) ?_
  refine lv_if_eq (tgt := 61) hx hb dX12_answer_54 (by decide) (fun c3 => ?_) (fun c3 => ?_)
  · replace hq := hq.1 c3
    refine lv_iconst (v := 0) hx hb dX12_answer_61 (by decide) ?_
    exact r_iret C hr hlk hw dX12_answer_62 (Nat.le_refl _) (Nat.le_refl _) ⟨_, rfl, hq⟩
  · replace hq := hq.2 c3
    refine lv_iconst (v := 1) hx hb dX12_answer_57 (by decide) ?_
    refine lv_goto (tgt := 62) hx hb dX12_answer_58 (by decide) ?_
    exact r_iret C hr hlk hw dX12_answer_62 (Nat.le_refl _) (Nat.le_refl _) ⟨_, rfl, hq⟩
set_option maxHeartbeats 4000000 in
set_option maxRecDepth 100000 in
theorem ct_X12_answer {l : Launch} {g : Gh} {M0 : Mem} {a0 : Nat} {p1 : Int32} {post : Int32 → Mem → Prop}  (hq : wp_X12_answer  g M0 a0 p1 post) : Ct l g yX12_answer cX12_answer 3 (some .int) 514 0 0 [.ref a0, .int p1] M0 (pI post) := by
  unfold wp_X12_answer at hq
  obtain ⟨h0, hq⟩ := hq
  refine Ct.of (by decide) (Nat.le_of_ble_eq_true rfl) ?_
  intro p e s m below meth c ls C hr hlk hn hl hw
  have hx := C.1.1
  have hb := C.1.2.1
  have hl : lv_has ls 3 [(0, .ref a0), (1, .int p1)] := hl
  refine lv_aload_n hx hb dX12_answer_0 rfl (lv_at hl 0 rfl) ?_
  refine lv_iconst (v := 0) hx hb dX12_answer_1 (by decide) ?_
  refine pfX12_123 C hw hw.2.2.1 h0 dX12_answer_2 (fun H locs hw => ?_)
  generalize e5 : uI M0 a0 0 0 = M4 at hw
  replace hq := hq M4 e5.symm
  refine lv_aload_n hx hb dX12_answer_5 rfl (lv_at hl 0 rfl) ?_
  refine r_callV (T := TX12) (N := 67) (ci := 12) (index := 238) (n := 0) (d2 := 2) (mc := 0) (ms := 0) (As := []) (rest := []) C hw (ct_X12_readAnswer hq) kvX12_238 hq.1 (by decide) rfl ⟨by decide, by decide⟩ ⟨by decide, by decide⟩ rfl hl.1 rfl (Nat.le_of_ble_eq_true rfl) dX12_answer_6 (fun r M7 H locs hp hle hw => ?_)
  obtain ⟨v6, rfl, hq⟩ := hp
  refine W.eq (g2 := F0 m 9 ls [.int v6]) rfl ?_
  refine lv_istore_n (lv' := [(2, .int v6), (0, .ref a0), (1, .int p1)]) hx hb dX12_answer_9 rfl hl (by decide) rfl (fun ls hl => ?_)
  refine lv_aload_n hx hb dX12_answer_10 rfl (lv_at hl 1 rfl) ?_
  refine lv_iload_n hx hb dX12_answer_11 rfl (lv_at hl 2 rfl) ?_
  refine r_callV (T := TX12) (N := 67) (ci := 12) (index := 324) (n := 1) (d2 := 0) (mc := 0) (ms := 0) (As := [.int p1]) (rest := []) C hw (ct_X12_canCome hq) kvX12_324 hq.1 (by decide) rfl ⟨by decide, by decide⟩ ⟨by decide, by decide⟩ rfl hl.1 rfl (Nat.le_of_ble_eq_true rfl) dX12_answer_12 (fun r M9 H locs hp hle hw => ?_)
  obtain ⟨v8, rfl, hq⟩ := hp
  refine W.eq (g2 := F0 m 15 ls [.int v8]) rfl ?_
  refine lv_if_ne (tgt := 20) hx hb dX12_answer_15 (by decide) (fun c10 => ?_) (fun c10 => ?_)
  · replace hq := hq.2 c10
    refine lv_iload_n hx hb dX12_answer_20 rfl (lv_at hl 0 rfl) ?_
    refine lv_if_eq (tgt := 44) hx hb dX12_answer_21 (by decide) (fun c11 => ?_) (fun c11 => ?_)
    · replace hq := hq.1 c11
      refine lv_iconst (v := 0) hx hb dX12_answer_44 (by decide) ?_
      exact lt_X12_answer_45  C hr hlk hn h0  hq hw (lv_sub hl [1, 2] rfl)
    · replace hq := hq.2 c11
      refine lv_aload_n hx hb dX12_answer_24 rfl (lv_at hl 1 rfl) ?_
      refine lv_aload_n hx hb dX12_answer_25 rfl (lv_at hl 1 rfl) ?_
      obtain ⟨q12, e13, hq⟩ := hq
      refine gfX12_84 C hw hw.2.2.1 h0 e13 dX12_answer_26 ?_
      refine lv_aload_n hx hb dX12_answer_29 rfl (lv_at hl 1 rfl) ?_
      refine gfX12_296 C hw hw.2.2.1 h0 dX12_answer_30 ?_
      obtain ⟨h14, hq⟩ := hq
      obtain ⟨h15, hq⟩ := hq
      refine q_iald C hw hw.2.2.1 h14 h15 dX12_answer_33 ?_
      refine r_callV (T := TX12) (N := 67) (ci := 12) (index := 244) (n := 1) (d2 := 513) (mc := 0) (ms := 0) (As := [.int (mI M9 q12 (Int32.toNatClampNeg (mI M9 a0 50)))]) (rest := []) C hw (ct_X12_isTaken hq) kvX12_244 hq.1 (by decide) rfl ⟨by decide, by decide⟩ ⟨by decide, by decide⟩ rfl hl.1 rfl (Nat.le_of_ble_eq_true rfl) dX12_answer_34 (fun r M17 H locs hp hle hw => ?_)
      obtain ⟨v16, rfl, hq⟩ := hp
      refine W.eq (g2 := F0 m 37 ls [.int v16]) rfl ?_
      refine lv_if_eq (tgt := 44) hx hb dX12_answer_37 (by decide) (fun c18 => ?_) (fun c18 => ?_)
      · replace hq := hq.1 c18
        refine lv_iconst (v := 0) hx hb dX12_answer_44 (by decide) ?_
        exact lt_X12_answer_45  C hr hlk hn h0  hq hw (lv_sub hl [1, 2] rfl)
      · replace hq := hq.2 c18
        refine lv_iconst (v := 1) hx hb dX12_answer_40 (by decide) ?_
        refine lv_goto (tgt := 45) hx hb dX12_answer_41 (by decide) ?_
        exact lt_X12_answer_45  C hr hlk hn h0  hq hw (lv_sub hl [1, 2] rfl)
  · replace hq := hq.1 c10
    refine lv_iconst (v := (-1)) hx hb dX12_answer_18 (by decide) ?_
    exact r_iret C hr hlk hw dX12_answer_19 (Nat.le_refl _) (Nat.le_refl _) ⟨_, rfl, hq⟩

set_option maxRecDepth 100000 in
def wp_X12_nothing  (g : Gh) (M0 : Mem) (a0 : Nat) (p1 : Int32) (post : Int32 → Mem → Prop) : Prop :=
  okc (gB g) M0 a0 12 ∧ (∀ M1, M1 = uI M0 a0 0 0 → (wp_X12_canCome g M1 a0 p1 (fun v3 M4 => ((v3 = 0) → post 0 M4) ∧ (¬ (v3 = 0) → ∃ q6, mR M4 a0 33 = some q6 ∧ (wp_X12_roundOf g M4 a0 (mI M4 a0 50) (fun v8 M9 => okc (gB g) M0 q6 17 ∧ (vp_in v8 (mN M0 q6) ∧ ((((mI M9 q6 (Int32.toNatClampNeg v8)) = 0) → wp_X12_tells g M9 a0 1 p1 0 (fun M14 => post 1 M14)) ∧ (¬ ((mI M9 q6 (Int32.toNatClampNeg v8)) = 0) → post 0 M9)))))))))
set_option maxHeartbeats 4000000 in
set_option maxRecDepth 100000 in
theorem ct_X12_nothing {l : Launch} {g : Gh} {M0 : Mem} {a0 : Nat} {p1 : Int32} {post : Int32 → Mem → Prop}  (hq : wp_X12_nothing  g M0 a0 p1 post) : Ct l g yX12_nothing cX12_nothing 2 (some .boolean) 5 0 0 [.ref a0, .int p1] M0 (pI post) := by
  unfold wp_X12_nothing at hq
  obtain ⟨h0, hq⟩ := hq
  refine Ct.of (by decide) (Nat.le_of_ble_eq_true rfl) ?_
  intro p e s m below meth c ls C hr hlk hn hl hw
  have hx := C.1.1
  have hb := C.1.2.1
  have hl : lv_has ls 2 [(0, .ref a0), (1, .int p1)] := hl
  refine lv_aload_n hx hb dX12_nothing_0 rfl (lv_at hl 0 rfl) ?_
  refine lv_iconst (v := 0) hx hb dX12_nothing_1 (by decide) ?_
  refine pfX12_123 C hw hw.2.2.1 h0 dX12_nothing_2 (fun H locs hw => ?_)
  generalize e2 : uI M0 a0 0 0 = M1 at hw
  replace hq := hq M1 e2.symm
  refine lv_aload_n hx hb dX12_nothing_5 rfl (lv_at hl 0 rfl) ?_
  refine lv_iload_n hx hb dX12_nothing_6 rfl (lv_at hl 1 rfl) ?_
  refine r_callV (T := TX12) (N := 67) (ci := 12) (index := 324) (n := 1) (d2 := 0) (mc := 0) (ms := 0) (As := [.int p1]) (rest := []) C hw (ct_X12_canCome hq) kvX12_324 hq.1 (by decide) rfl ⟨by decide, by decide⟩ ⟨by decide, by decide⟩ rfl hl.1 rfl (Nat.le_of_ble_eq_true rfl) dX12_nothing_7 (fun r M4 H locs hp hle hw => ?_)
  obtain ⟨v3, rfl, hq⟩ := hp
  refine W.eq (g2 := F0 m 10 ls [.int v3]) rfl ?_
  refine lv_if_eq (tgt := 29) hx hb dX12_nothing_10 (by decide) (fun c5 => ?_) (fun c5 => ?_)
  · replace hq := hq.1 c5
    refine lv_iconst (v := 0) hx hb dX12_nothing_29 (by decide) ?_
    exact r_zret C hr hlk hw dX12_nothing_30 (Nat.le_refl _) (Nat.le_refl _) (by decide) ⟨_, rfl, hq⟩
  · replace hq := hq.2 c5
    refine lv_aload_n hx hb dX12_nothing_13 rfl (lv_at hl 0 rfl) ?_
    obtain ⟨q6, e7, hq⟩ := hq
    refine gfX12_66 C hw hw.2.2.1 h0 e7 dX12_nothing_14 ?_
    refine lv_aload_n hx hb dX12_nothing_17 rfl (lv_at hl 0 rfl) ?_
    refine lv_aload_n hx hb dX12_nothing_18 rfl (lv_at hl 0 rfl) ?_
    refine gfX12_296 C hw hw.2.2.1 h0 dX12_nothing_19 ?_
    refine r_callV (T := TX12) (N := 67) (ci := 12) (index := 302) (n := 1) (d2 := 0) (mc := 0) (ms := 0) (As := [.int (mI M4 a0 50)]) (rest := [.ref q6]) C hw (ct_X12_roundOf hq) kvX12_302 hq.1 (by decide) rfl ⟨by decide, by decide⟩ ⟨by decide, by decide⟩ rfl hl.1 rfl (Nat.le_of_ble_eq_true rfl) dX12_nothing_22 (fun r M9 H locs hp hle hw => ?_)
    obtain ⟨v8, rfl, hq⟩ := hp
    refine W.eq (g2 := F0 m 25 ls [.int v8, .ref q6]) rfl ?_
    obtain ⟨h10, hq⟩ := hq
    obtain ⟨h11, hq⟩ := hq
    refine q_zald C hw hw.2.2.1 h10 h11 dX12_nothing_25 ?_
    refine lv_if_eq (tgt := 31) hx hb dX12_nothing_26 (by decide) (fun c12 => ?_) (fun c12 => ?_)
    · replace hq := hq.1 c12
      refine lv_aload_n hx hb dX12_nothing_31 rfl (lv_at hl 0 rfl) ?_
      refine lv_iconst (v := 1) hx hb dX12_nothing_32 (by decide) ?_
      refine lv_iload_n hx hb dX12_nothing_33 rfl (lv_at hl 1 rfl) ?_
      refine lv_iconst (v := 0) hx hb dX12_nothing_34 (by decide) ?_
      refine r_callV (T := TX12) (N := 67) (ci := 12) (index := 327) (n := 3) (d2 := 4) (mc := 0) (ms := 0) (As := [.int 1, .int p1, .int 0]) (rest := []) C hw (ct_X12_tells hq) kvX12_327 hq.1 (by decide) rfl ⟨by decide, by decide⟩ ⟨by decide, by decide⟩ rfl hl.1 rfl (Nat.le_of_ble_eq_true rfl) dX12_nothing_35 (fun r M14 H locs hp hle hw => ?_)
      obtain ⟨rfl, hq⟩ := hp
      refine W.eq (g2 := F0 m 38 ls []) rfl ?_
      refine lv_iconst (v := 1) hx hb dX12_nothing_38 (by decide) ?_
      exact r_zret C hr hlk hw dX12_nothing_39 (Nat.le_refl _) (Nat.le_refl _) (by decide) ⟨_, rfl, hq⟩
    · replace hq := hq.2 c12
      refine lv_iconst (v := 0) hx hb dX12_nothing_29 (by decide) ?_
      exact r_zret C hr hlk hw dX12_nothing_30 (Nat.le_refl _) (Nat.le_refl _) (by decide) ⟨_, rfl, hq⟩

set_option maxRecDepth 100000 in
def wp_X12_dead  (g : Gh) (M0 : Mem) (a0 : Nat) (post : Int32 → Mem → Prop) : Prop :=
  okc (gB g) M0 a0 12 ∧ (∀ M1, M1 = uI M0 a0 0 0 → ((((mI M1 a0 48) = 0) → post 0 M1) ∧ (¬ ((mI M1 a0 48) = 0) → (((mI M1 a0 51) = 3) → post 0 M1) ∧ (¬ ((mI M1 a0 51) = 3) → (((mI M1 a0 49) = 120) → post 0 M1) ∧ (¬ ((mI M1 a0 49) = 120) → ∃ q6, mR M1 a0 33 = some q6 ∧ (wp_X12_roundOf g M1 a0 (mI M1 a0 50) (fun v8 M9 => okc (gB g) M0 q6 17 ∧ (vp_in v8 (mN M0 q6) ∧ ((((mI M9 q6 (Int32.toNatClampNeg v8)) = 0) → post 0 M9) ∧ (¬ ((mI M9 q6 (Int32.toNatClampNeg v8)) = 0) → wp_X12_tells g M9 a0 2 (-1) 0 (fun M14 => post 1 M14)))))))))))
set_option maxHeartbeats 4000000 in
set_option maxRecDepth 100000 in
theorem ct_X12_dead {l : Launch} {g : Gh} {M0 : Mem} {a0 : Nat} {post : Int32 → Mem → Prop}  (hq : wp_X12_dead  g M0 a0 post) : Ct l g yX12_dead cX12_dead 1 (some .boolean) 5 0 0 [.ref a0] M0 (pI post) := by
  unfold wp_X12_dead at hq
  obtain ⟨h0, hq⟩ := hq
  refine Ct.of (by decide) (Nat.le_of_ble_eq_true rfl) ?_
  intro p e s m below meth c ls C hr hlk hn hl hw
  have hx := C.1.1
  have hb := C.1.2.1
  have hl : lv_has ls 1 [(0, .ref a0)] := hl
  refine lv_aload_n hx hb dX12_dead_0 rfl (lv_at hl 0 rfl) ?_
  refine lv_iconst (v := 0) hx hb dX12_dead_1 (by decide) ?_
  refine pfX12_123 C hw hw.2.2.1 h0 dX12_dead_2 (fun H locs hw => ?_)
  generalize e2 : uI M0 a0 0 0 = M1 at hw
  replace hq := hq M1 e2.symm
  refine lv_aload_n hx hb dX12_dead_5 rfl (lv_at hl 0 rfl) ?_
  refine gfX12_247 C hw hw.2.2.1 h0 dX12_dead_6 ?_
  refine lv_if_eq (tgt := 45) hx hb dX12_dead_9 (by decide) (fun c3 => ?_) (fun c3 => ?_)
  · replace hq := hq.1 c3
    refine lv_iconst (v := 0) hx hb dX12_dead_45 (by decide) ?_
    exact r_zret C hr hlk hw dX12_dead_46 (Nat.le_refl _) (Nat.le_refl _) (by decide) ⟨_, rfl, hq⟩
  · replace hq := hq.2 c3
    refine lv_aload_n hx hb dX12_dead_12 rfl (lv_at hl 0 rfl) ?_
    refine gfX12_305 C hw hw.2.2.1 h0 dX12_dead_13 ?_
    refine lv_iconst (v := 3) hx hb dX12_dead_16 (by decide) ?_
    refine lv_icmp_eq (tgt := 45) hx hb dX12_dead_17 (by decide) (fun c4 => ?_) (fun c4 => ?_)
    · replace hq := hq.1 c4
      refine lv_iconst (v := 0) hx hb dX12_dead_45 (by decide) ?_
      exact r_zret C hr hlk hw dX12_dead_46 (Nat.le_refl _) (Nat.le_refl _) (by decide) ⟨_, rfl, hq⟩
    · replace hq := hq.2 c4
      refine lv_aload_n hx hb dX12_dead_20 rfl (lv_at hl 0 rfl) ?_
      refine gfX12_290 C hw hw.2.2.1 h0 dX12_dead_21 ?_
      refine lv_bipush (v := 120) hx hb dX12_dead_24 (by decide) ?_
      refine lv_icmp_eq (tgt := 45) hx hb dX12_dead_26 (by decide) (fun c5 => ?_) (fun c5 => ?_)
      · replace hq := hq.1 c5
        refine lv_iconst (v := 0) hx hb dX12_dead_45 (by decide) ?_
        exact r_zret C hr hlk hw dX12_dead_46 (Nat.le_refl _) (Nat.le_refl _) (by decide) ⟨_, rfl, hq⟩
      · replace hq := hq.2 c5
        refine lv_aload_n hx hb dX12_dead_29 rfl (lv_at hl 0 rfl) ?_
        obtain ⟨q6, e7, hq⟩ := hq
        refine gfX12_66 C hw hw.2.2.1 h0 e7 dX12_dead_30 ?_
        refine lv_aload_n hx hb dX12_dead_33 rfl (lv_at hl 0 rfl) ?_
        refine lv_aload_n hx hb dX12_dead_34 rfl (lv_at hl 0 rfl) ?_
        refine gfX12_296 C hw hw.2.2.1 h0 dX12_dead_35 ?_
        refine r_callV (T := TX12) (N := 67) (ci := 12) (index := 302) (n := 1) (d2 := 0) (mc := 0) (ms := 0) (As := [.int (mI M1 a0 50)]) (rest := [.ref q6]) C hw (ct_X12_roundOf hq) kvX12_302 hq.1 (by decide) rfl ⟨by decide, by decide⟩ ⟨by decide, by decide⟩ rfl hl.1 rfl (Nat.le_of_ble_eq_true rfl) dX12_dead_38 (fun r M9 H locs hp hle hw => ?_)
        obtain ⟨v8, rfl, hq⟩ := hp
        refine W.eq (g2 := F0 m 41 ls [.int v8, .ref q6]) rfl ?_
        obtain ⟨h10, hq⟩ := hq
        obtain ⟨h11, hq⟩ := hq
        refine q_zald C hw hw.2.2.1 h10 h11 dX12_dead_41 ?_
        refine lv_if_ne (tgt := 47) hx hb dX12_dead_42 (by decide) (fun c12 => ?_) (fun c12 => ?_)
        · replace hq := hq.2 c12
          refine lv_aload_n hx hb dX12_dead_47 rfl (lv_at hl 0 rfl) ?_
          refine lv_iconst (v := 2) hx hb dX12_dead_48 (by decide) ?_
          refine lv_iconst (v := (-1)) hx hb dX12_dead_49 (by decide) ?_
          refine lv_iconst (v := 0) hx hb dX12_dead_50 (by decide) ?_
          refine r_callV (T := TX12) (N := 67) (ci := 12) (index := 327) (n := 3) (d2 := 4) (mc := 0) (ms := 0) (As := [.int 2, .int (-1), .int 0]) (rest := []) C hw (ct_X12_tells hq) kvX12_327 hq.1 (by decide) rfl ⟨by decide, by decide⟩ ⟨by decide, by decide⟩ rfl hl.1 rfl (Nat.le_of_ble_eq_true rfl) dX12_dead_51 (fun r M14 H locs hp hle hw => ?_)
          obtain ⟨rfl, hq⟩ := hp
          refine W.eq (g2 := F0 m 54 ls []) rfl ?_
          refine lv_iconst (v := 1) hx hb dX12_dead_54 (by decide) ?_
          exact r_zret C hr hlk hw dX12_dead_55 (Nat.le_refl _) (Nat.le_refl _) (by decide) ⟨_, rfl, hq⟩
        · replace hq := hq.1 c12
          refine lv_iconst (v := 0) hx hb dX12_dead_45 (by decide) ?_
          exact r_zret C hr hlk hw dX12_dead_46 (Nat.le_refl _) (Nat.le_refl _) (by decide) ⟨_, rfl, hq⟩

set_option maxRecDepth 100000 in
def lb_X12_appeal_52  (g : Gh) (M0 : Mem) (a0 : Nat) (p1 : Int32) (p2 : Int32) (post : Int32 → Mem → Prop)    (M : Mem) : Prop :=
  wp_X12_through g M a0 (fun M2 => post 1 M2)
set_option maxRecDepth 100000 in
def wp_X12_appeal  (g : Gh) (M0 : Mem) (a0 : Nat) (p1 : Int32) (p2 : Int32) (post : Int32 → Mem → Prop) : Prop :=
  okc (gB g) M0 a0 12 ∧ (∀ M3, M3 = uI M0 a0 0 0 → ((((mI M3 a0 48) = 0) → post 0 M3) ∧ (¬ ((mI M3 a0 48) = 0) → ((p1 < 0) → post 0 M3) ∧ (¬ (p1 < 0) → (((mI M3 a0 49) ≤ p1) → post 0 M3) ∧ (¬ ((mI M3 a0 49) ≤ p1) → ∃ q8, mR M3 a0 57 = some q8 ∧ (okc (gB g) M0 q8 14 ∧ (vp_in p1 (mN M0 q8) ∧ (((0 < (mI M3 q8 (Int32.toNatClampNeg p1))) → post 0 M3) ∧ (¬ (0 < (mI M3 q8 (Int32.toNatClampNeg p1))) → ∃ q13, mR M3 a0 60 = some q13 ∧ (okc (gB g) M0 q13 17 ∧ (vp_in p1 (mN M0 q13) ∧ ((((mI M3 q13 (Int32.toNatClampNeg p1)) = p2) → post 0 M3) ∧ (¬ ((mI M3 q13 (Int32.toNatClampNeg p1)) = p2) → ∀ M18, M18 = uI M3 q13 (Int32.toNatClampNeg p1) (vp_nar .boolean p2) → (lb_X12_appeal_52  g M0 a0 p1 p2 post   M18))))))))))))))
set_option maxHeartbeats 4000000 in
set_option maxRecDepth 100000 in
theorem lt_X12_appeal_52 {l : Launch} {g : Gh} {p : Program} {e : Env} {s : State} {m : MethodId} {args : Array Value} {below : List Frame} {meth : Method} {c : Code} {H : Heap} {locs : List Loc} {ls : Array Slot} {M0 M : Mem} {a0 : Nat} {p1 : Int32} {p2 : Int32} {post : Int32 → Mem → Prop}    (C : Cx g p s m args c cX12_appeal 3 RX12) (hr : meth.sig.returnType = (some .boolean)) (hlk : meth.locks = false) (hn : meth.name = "appeal") (h0 : okc (gB g) M0 a0 12)  (hq : lb_X12_appeal_52  g M0 a0 p1 p2 post   M) (hw : Wd g s M0 M H locs) (hl : lv_has ls 3 [(0, .ref a0), (1, .int p1), (2, .int p2)]) : W p l e (rmo 4 0 0) s m args below meth c H locs 0 0 (MQ below (Cq g M0 (pI post)) args s 0 0 (gA g)) (F0 m 52 ls []) := by
  have hx := C.1.1
  have hb := C.1.2.1
  unfold lb_X12_appeal_52 at hq
  refine lv_aload_n hx hb dX12_appeal_52 rfl (lv_at hl 0 rfl) ?_
  refine r_callV (T := TX12) (N := 67) (ci := 12) (index := 293) (n := 0) (d2 := 3) (mc := 0) (ms := 0) (As := []) (rest := []) C hw (ct_X12_through hq) kvX12_293 hq.1 (by decide) rfl ⟨by decide, by decide⟩ ⟨by decide, by decide⟩ rfl hl.1 rfl (Nat.le_of_ble_eq_true rfl) dX12_appeal_53 (fun r M2 H locs hp hle hw => ?_)
  obtain ⟨rfl, hq⟩ := hp
  refine W.eq (g2 := F0 m 56 ls []) rfl ?_
  refine lv_iconst (v := 1) hx hb dX12_appeal_56 (by decide) ?_
  exact r_zret C hr hlk hw dX12_appeal_57 (Nat.le_refl _) (Nat.le_refl _) (by decide) ⟨_, rfl, hq⟩
set_option maxHeartbeats 4000000 in
set_option maxRecDepth 100000 in
theorem ct_X12_appeal {l : Launch} {g : Gh} {M0 : Mem} {a0 : Nat} {p1 : Int32} {p2 : Int32} {post : Int32 → Mem → Prop}  (hq : wp_X12_appeal  g M0 a0 p1 p2 post) : Ct l g yX12_appeal cX12_appeal 3 (some .boolean) 4 0 0 [.ref a0, .int p1, .int p2] M0 (pI post) := by
  unfold wp_X12_appeal at hq
  obtain ⟨h0, hq⟩ := hq
  refine Ct.of (by decide) (Nat.le_of_ble_eq_true rfl) ?_
  intro p e s m below meth c ls C hr hlk hn hl hw
  have hx := C.1.1
  have hb := C.1.2.1
  have hl : lv_has ls 3 [(0, .ref a0), (1, .int p1), (2, .int p2)] := hl
  refine lv_aload_n hx hb dX12_appeal_0 rfl (lv_at hl 0 rfl) ?_
  refine lv_iconst (v := 0) hx hb dX12_appeal_1 (by decide) ?_
  refine pfX12_123 C hw hw.2.2.1 h0 dX12_appeal_2 (fun H locs hw => ?_)
  generalize e4 : uI M0 a0 0 0 = M3 at hw
  replace hq := hq M3 e4.symm
  refine lv_aload_n hx hb dX12_appeal_5 rfl (lv_at hl 0 rfl) ?_
  refine gfX12_247 C hw hw.2.2.1 h0 dX12_appeal_6 ?_
  refine lv_if_eq (tgt := 43) hx hb dX12_appeal_9 (by decide) (fun c5 => ?_) (fun c5 => ?_)
  · replace hq := hq.1 c5
    refine lv_iconst (v := 0) hx hb dX12_appeal_43 (by decide) ?_
    exact r_zret C hr hlk hw dX12_appeal_44 (Nat.le_refl _) (Nat.le_refl _) (by decide) ⟨_, rfl, hq⟩
  · replace hq := hq.2 c5
    refine lv_iload_n hx hb dX12_appeal_12 rfl (lv_at hl 1 rfl) ?_
    refine lv_if_lt (tgt := 43) hx hb dX12_appeal_13 (by decide) (fun c6 => ?_) (fun c6 => ?_)
    · replace hq := hq.1 c6
      refine lv_iconst (v := 0) hx hb dX12_appeal_43 (by decide) ?_
      exact r_zret C hr hlk hw dX12_appeal_44 (Nat.le_refl _) (Nat.le_refl _) (by decide) ⟨_, rfl, hq⟩
    · replace hq := hq.2 c6
      refine lv_iload_n hx hb dX12_appeal_16 rfl (lv_at hl 1 rfl) ?_
      refine lv_aload_n hx hb dX12_appeal_17 rfl (lv_at hl 0 rfl) ?_
      refine gfX12_290 C hw hw.2.2.1 h0 dX12_appeal_18 ?_
      refine lv_icmp_ge (tgt := 43) hx hb dX12_appeal_21 (by decide) (fun c7 => ?_) (fun c7 => ?_)
      · replace hq := hq.1 c7
        refine lv_iconst (v := 0) hx hb dX12_appeal_43 (by decide) ?_
        exact r_zret C hr hlk hw dX12_appeal_44 (Nat.le_refl _) (Nat.le_refl _) (by decide) ⟨_, rfl, hq⟩
      · replace hq := hq.2 c7
        refine lv_aload_n hx hb dX12_appeal_24 rfl (lv_at hl 0 rfl) ?_
        obtain ⟨q8, e9, hq⟩ := hq
        refine gfX12_96 C hw hw.2.2.1 h0 e9 dX12_appeal_25 ?_
        refine lv_iload_n hx hb dX12_appeal_28 rfl (lv_at hl 1 rfl) ?_
        obtain ⟨h10, hq⟩ := hq
        obtain ⟨h11, hq⟩ := hq
        refine q_iald C hw hw.2.2.1 h10 h11 dX12_appeal_29 ?_
        refine lv_if_gt (tgt := 43) hx hb dX12_appeal_30 (by decide) (fun c12 => ?_) (fun c12 => ?_)
        · replace hq := hq.1 c12
          refine lv_iconst (v := 0) hx hb dX12_appeal_43 (by decide) ?_
          exact r_zret C hr hlk hw dX12_appeal_44 (Nat.le_refl _) (Nat.le_refl _) (by decide) ⟨_, rfl, hq⟩
        · replace hq := hq.2 c12
          refine lv_aload_n hx hb dX12_appeal_33 rfl (lv_at hl 0 rfl) ?_
          obtain ⟨q13, e14, hq⟩ := hq
          refine gfX12_105 C hw hw.2.2.1 h0 e14 dX12_appeal_34 ?_
          refine lv_iload_n hx hb dX12_appeal_37 rfl (lv_at hl 1 rfl) ?_
          obtain ⟨h15, hq⟩ := hq
          obtain ⟨h16, hq⟩ := hq
          refine q_zald C hw hw.2.2.1 h15 h16 dX12_appeal_38 ?_
          refine lv_iload_n hx hb dX12_appeal_39 rfl (lv_at hl 2 rfl) ?_
          refine lv_icmp_ne (tgt := 45) hx hb dX12_appeal_40 (by decide) (fun c17 => ?_) (fun c17 => ?_)
          · replace hq := hq.2 c17
            refine lv_aload_n hx hb dX12_appeal_45 rfl (lv_at hl 0 rfl) ?_
            refine gfX12_105 C hw hw.2.2.1 h0 e14 dX12_appeal_46 ?_
            refine lv_iload_n hx hb dX12_appeal_49 rfl (lv_at hl 1 rfl) ?_
            refine lv_iload_n hx hb dX12_appeal_50 rfl (lv_at hl 2 rfl) ?_
            refine q_zast C hw hw.2.2.1 h15 h16 dX12_appeal_51 (fun H locs hw => ?_)
            generalize e19 : uI M3 q13 (Int32.toNatClampNeg p1) (vp_nar .boolean p2) = M18 at hw
            replace hq := hq M18 e19.symm
            have e9 : mR M18 a0 57 = some q8 := by rw [← e19, mR_uI]; exact e9
            have e14 : mR M18 a0 60 = some q13 := by rw [← e19, mR_uI]; exact e14
            exact lt_X12_appeal_52  C hr hlk hn h0  hq hw (lv_sub hl [0, 1, 2] rfl)
          · replace hq := hq.1 c17
            refine lv_iconst (v := 0) hx hb dX12_appeal_43 (by decide) ?_
            exact r_zret C hr hlk hw dX12_appeal_44 (Nat.le_refl _) (Nat.le_refl _) (by decide) ⟨_, rfl, hq⟩

set_option maxRecDepth 100000 in
def wp_X12_undo  (g : Gh) (M0 : Mem) (a0 : Nat) (post : Int32 → Mem → Prop) : Prop :=
  okc (gB g) M0 a0 12 ∧ (∀ M1, M1 = uI M0 a0 0 0 → ((((mI M1 a0 48) = 0) → post 0 M1) ∧ (¬ ((mI M1 a0 48) = 0) → (((mI M1 a0 49) = 0) → post 0 M1) ∧ (¬ ((mI M1 a0 49) = 0) → ∀ M5, M5 = uI M1 a0 49 ((mI M1 a0 49) - 1) → (wp_X12_through g M5 a0 (fun M8 => post 1 M8))))))
set_option maxHeartbeats 4000000 in
set_option maxRecDepth 100000 in
theorem ct_X12_undo {l : Launch} {g : Gh} {M0 : Mem} {a0 : Nat} {post : Int32 → Mem → Prop}  (hq : wp_X12_undo  g M0 a0 post) : Ct l g yX12_undo cX12_undo 1 (some .boolean) 4 0 0 [.ref a0] M0 (pI post) := by
  unfold wp_X12_undo at hq
  obtain ⟨h0, hq⟩ := hq
  refine Ct.of (by decide) (Nat.le_of_ble_eq_true rfl) ?_
  intro p e s m below meth c ls C hr hlk hn hl hw
  have hx := C.1.1
  have hb := C.1.2.1
  have hl : lv_has ls 1 [(0, .ref a0)] := hl
  refine lv_aload_n hx hb dX12_undo_0 rfl (lv_at hl 0 rfl) ?_
  refine lv_iconst (v := 0) hx hb dX12_undo_1 (by decide) ?_
  refine pfX12_123 C hw hw.2.2.1 h0 dX12_undo_2 (fun H locs hw => ?_)
  generalize e2 : uI M0 a0 0 0 = M1 at hw
  replace hq := hq M1 e2.symm
  refine lv_aload_n hx hb dX12_undo_5 rfl (lv_at hl 0 rfl) ?_
  refine gfX12_247 C hw hw.2.2.1 h0 dX12_undo_6 ?_
  refine lv_if_eq (tgt := 19) hx hb dX12_undo_9 (by decide) (fun c3 => ?_) (fun c3 => ?_)
  · replace hq := hq.1 c3
    refine lv_iconst (v := 0) hx hb dX12_undo_19 (by decide) ?_
    exact r_zret C hr hlk hw dX12_undo_20 (Nat.le_refl _) (Nat.le_refl _) (by decide) ⟨_, rfl, hq⟩
  · replace hq := hq.2 c3
    refine lv_aload_n hx hb dX12_undo_12 rfl (lv_at hl 0 rfl) ?_
    refine gfX12_290 C hw hw.2.2.1 h0 dX12_undo_13 ?_
    refine lv_if_ne (tgt := 21) hx hb dX12_undo_16 (by decide) (fun c4 => ?_) (fun c4 => ?_)
    · replace hq := hq.2 c4
      refine lv_aload_n hx hb dX12_undo_21 rfl (lv_at hl 0 rfl) ?_
      refine lv_dup hx hb dX12_undo_22 rfl ?_
      refine gfX12_290 C hw hw.2.2.1 h0 dX12_undo_23 ?_
      refine lv_iconst (v := 1) hx hb dX12_undo_26 (by decide) ?_
      refine lv_isub hx hb dX12_undo_27 ?_
      refine pfX12_290 C hw hw.2.2.1 h0 dX12_undo_28 (fun H locs hw => ?_)
      generalize e6 : uI M1 a0 49 ((mI M1 a0 49) - 1) = M5 at hw
      replace hq := hq M5 e6.symm
      refine lv_aload_n hx hb dX12_undo_31 rfl (lv_at hl 0 rfl) ?_
      refine r_callV (T := TX12) (N := 67) (ci := 12) (index := 293) (n := 0) (d2 := 3) (mc := 0) (ms := 0) (As := []) (rest := []) C hw (ct_X12_through hq) kvX12_293 hq.1 (by decide) rfl ⟨by decide, by decide⟩ ⟨by decide, by decide⟩ rfl hl.1 rfl (Nat.le_of_ble_eq_true rfl) dX12_undo_32 (fun r M8 H locs hp hle hw => ?_)
      obtain ⟨rfl, hq⟩ := hp
      refine W.eq (g2 := F0 m 35 ls []) rfl ?_
      refine lv_iconst (v := 1) hx hb dX12_undo_35 (by decide) ?_
      exact r_zret C hr hlk hw dX12_undo_36 (Nat.le_refl _) (Nat.le_refl _) (by decide) ⟨_, rfl, hq⟩
    · replace hq := hq.1 c4
      refine lv_iconst (v := 0) hx hb dX12_undo_19 (by decide) ?_
      exact r_zret C hr hlk hw dX12_undo_20 (Nat.le_refl _) (Nat.le_refl _) (by decide) ⟨_, rfl, hq⟩

set_option maxRecDepth 100000 in
def wp_X12_now  (g : Gh) (M0 : Mem) (a0 : Nat) (p1 : Int32) (post : Int32 → Mem → Prop) : Prop :=
  okc (gB g) M0 a0 12 ∧ (∀ M1, M1 = uI M0 a0 0 0 → ((((mI M1 a0 48) = 0) → post (-1) M1) ∧ (¬ ((mI M1 a0 48) = 0) → ((p1 = 0) → post (mI M1 a0 50) M1) ∧ ((p1 = 1) → post (mI M1 a0 51) M1) ∧ ((p1 = 2) → post (mI M1 a0 53) M1) ∧ ((p1 = 3) → post (mI M1 a0 54) M1) ∧ ((p1 = 4) → post (mI M1 a0 49) M1) ∧ ((p1 = 5) → post (mI M1 a0 55) M1) ∧ ((¬ (p1 = 0) ∧ ¬ (p1 = 1) ∧ ¬ (p1 = 2) ∧ ¬ (p1 = 3) ∧ ¬ (p1 = 4) ∧ ¬ (p1 = 5)) → post (-1) M1))))
set_option maxHeartbeats 4000000 in
set_option maxRecDepth 100000 in
theorem ct_X12_now {l : Launch} {g : Gh} {M0 : Mem} {a0 : Nat} {p1 : Int32} {post : Int32 → Mem → Prop}  (hq : wp_X12_now  g M0 a0 p1 post) : Ct l g yX12_now cX12_now 2 (some .int) 0 0 0 [.ref a0, .int p1] M0 (pI post) := by
  unfold wp_X12_now at hq
  obtain ⟨h0, hq⟩ := hq
  refine Ct.of (by decide) (Nat.le_of_ble_eq_true rfl) ?_
  intro p e s m below meth c ls C hr hlk hn hl hw
  have hx := C.1.1
  have hb := C.1.2.1
  have hl : lv_has ls 2 [(0, .ref a0), (1, .int p1)] := hl
  refine lv_aload_n hx hb dX12_now_0 rfl (lv_at hl 0 rfl) ?_
  refine lv_iconst (v := 0) hx hb dX12_now_1 (by decide) ?_
  refine pfX12_123 C hw hw.2.2.1 h0 dX12_now_2 (fun H locs hw => ?_)
  generalize e2 : uI M0 a0 0 0 = M1 at hw
  replace hq := hq M1 e2.symm
  refine lv_aload_n hx hb dX12_now_5 rfl (lv_at hl 0 rfl) ?_
  refine gfX12_247 C hw hw.2.2.1 h0 dX12_now_6 ?_
  refine lv_if_ne (tgt := 14) hx hb dX12_now_9 (by decide) (fun c3 => ?_) (fun c3 => ?_)
  · replace hq := hq.2 c3
    refine lv_iload_n hx hb dX12_now_14 rfl (lv_at hl 1 rfl) ?_
    by_cases c5 : p1 = 0
    · refine r_table (v := 0) (off := 37) (tgt := 52) hx hb dX12_now_15 c5 (by decide) (by decide) rfl (by decide) ?_
      replace hq := hq.1 c5
      refine lv_aload_n hx hb dX12_now_52 rfl (lv_at hl 0 rfl) ?_
      refine gfX12_296 C hw hw.2.2.1 h0 dX12_now_53 ?_
      exact r_iret C hr hlk hw dX12_now_56 (Nat.le_refl _) (Nat.le_refl _) ⟨_, rfl, hq⟩
    by_cases c6 : p1 = 1
    · refine r_table (v := 1) (off := 42) (tgt := 57) hx hb dX12_now_15 c6 (by decide) (by decide) rfl (by decide) ?_
      replace hq := hq.2.1 c6
      refine lv_aload_n hx hb dX12_now_57 rfl (lv_at hl 0 rfl) ?_
      refine gfX12_305 C hw hw.2.2.1 h0 dX12_now_58 ?_
      exact r_iret C hr hlk hw dX12_now_61 (Nat.le_refl _) (Nat.le_refl _) ⟨_, rfl, hq⟩
    by_cases c7 : p1 = 2
    · refine r_table (v := 2) (off := 47) (tgt := 62) hx hb dX12_now_15 c7 (by decide) (by decide) rfl (by decide) ?_
      replace hq := hq.2.2.1 c7
      refine lv_aload_n hx hb dX12_now_62 rfl (lv_at hl 0 rfl) ?_
      refine gfX12_311 C hw hw.2.2.1 h0 dX12_now_63 ?_
      exact r_iret C hr hlk hw dX12_now_66 (Nat.le_refl _) (Nat.le_refl _) ⟨_, rfl, hq⟩
    by_cases c8 : p1 = 3
    · refine r_table (v := 3) (off := 52) (tgt := 67) hx hb dX12_now_15 c8 (by decide) (by decide) rfl (by decide) ?_
      replace hq := hq.2.2.2.1 c8
      refine lv_aload_n hx hb dX12_now_67 rfl (lv_at hl 0 rfl) ?_
      refine gfX12_314 C hw hw.2.2.1 h0 dX12_now_68 ?_
      exact r_iret C hr hlk hw dX12_now_71 (Nat.le_refl _) (Nat.le_refl _) ⟨_, rfl, hq⟩
    by_cases c9 : p1 = 4
    · refine r_table (v := 4) (off := 57) (tgt := 72) hx hb dX12_now_15 c9 (by decide) (by decide) rfl (by decide) ?_
      replace hq := hq.2.2.2.2.1 c9
      refine lv_aload_n hx hb dX12_now_72 rfl (lv_at hl 0 rfl) ?_
      refine gfX12_290 C hw hw.2.2.1 h0 dX12_now_73 ?_
      exact r_iret C hr hlk hw dX12_now_76 (Nat.le_refl _) (Nat.le_refl _) ⟨_, rfl, hq⟩
    by_cases c10 : p1 = 5
    · refine r_table (v := 5) (off := 62) (tgt := 77) hx hb dX12_now_15 c10 (by decide) (by decide) rfl (by decide) ?_
      replace hq := hq.2.2.2.2.2.1 c10
      refine lv_aload_n hx hb dX12_now_77 rfl (lv_at hl 0 rfl) ?_
      refine gfX12_317 C hw hw.2.2.1 h0 dX12_now_78 ?_
      exact r_iret C hr hlk hw dX12_now_81 (Nat.le_refl _) (Nat.le_refl _) ⟨_, rfl, hq⟩
    refine r_tableOut (tgt := 82) (k := 5) hx hb dX12_now_15 (by decide) (fun j hj => by rcases (show j = 0 ∨ j = 1 ∨ j = 2 ∨ j = 3 ∨ j = 4 ∨ j = 5 by omega) with rfl | rfl | rfl | rfl | rfl | rfl <;> assumption) (by decide) ?_
    replace hq := hq.2.2.2.2.2.2 ⟨c5, c6, c7, c8, c9, c10⟩
    refine lv_iconst (v := (-1)) hx hb dX12_now_82 (by decide) ?_
    exact r_iret C hr hlk hw dX12_now_83 (Nat.le_refl _) (Nat.le_refl _) ⟨_, rfl, hq⟩
  · replace hq := hq.1 c3
    refine lv_iconst (v := (-1)) hx hb dX12_now_12 (by decide) ?_
    exact r_iret C hr hlk hw dX12_now_13 (Nat.le_refl _) (Nat.le_refl _) ⟨_, rfl, hq⟩

set_option maxRecDepth 100000 in
def lb_X12_event_116  (g : Gh) (M0 : Mem) (a0 : Nat) (p1 : Int32) (p2 : Int32) (post : Int32 → Mem → Prop)    (M : Mem) : Prop :=
  ∃ q1, mR M a0 61 = some q1 ∧ (okc (gB g) M0 q1 17 ∧ (vp_in p1 (mN M0 q1) ∧ ((((mI M q1 (Int32.toNatClampNeg p1)) = 0) → post 0 M) ∧ (¬ ((mI M q1 (Int32.toNatClampNeg p1)) = 0) → post 1 M))))
set_option maxRecDepth 100000 in
def lb_X12_event_34  (g : Gh) (M0 : Mem) (a0 : Nat) (p1 : Int32) (p2 : Int32) (post : Int32 → Mem → Prop)   (s0 : Nat) (s1 : Int32) (M : Mem) : Prop :=
  okc (gB g) M0 s0 12 ∧ (∀ M7, M7 = uI M s0 0 s1 → ((((mI M7 a0 0) ≤ 0) → ((p2 = 0) → ∃ q11, mR M7 a0 56 = some q11 ∧ (okc (gB g) M0 q11 14 ∧ (vp_in p1 (mN M0 q11) ∧ (post (mI M7 q11 (Int32.toNatClampNeg p1)) M7)))) ∧ ((p2 = 1) → ∃ q15, mR M7 a0 57 = some q15 ∧ (okc (gB g) M0 q15 14 ∧ (vp_in p1 (mN M0 q15) ∧ (post (mI M7 q15 (Int32.toNatClampNeg p1)) M7)))) ∧ ((p2 = 2) → ∃ q19, mR M7 a0 58 = some q19 ∧ (okc (gB g) M0 q19 14 ∧ (vp_in p1 (mN M0 q19) ∧ (post (mI M7 q19 (Int32.toNatClampNeg p1)) M7)))) ∧ ((p2 = 3) → ∃ q23, mR M7 a0 60 = some q23 ∧ (okc (gB g) M0 q23 17 ∧ (vp_in p1 (mN M0 q23) ∧ ((((mI M7 q23 (Int32.toNatClampNeg p1)) = 0) → post 0 M7) ∧ (¬ ((mI M7 q23 (Int32.toNatClampNeg p1)) = 0) → post 1 M7))))) ∧ ((p2 = 4) → lb_X12_event_116  g M0 a0 p1 p2 post   M7) ∧ ((¬ (p2 = 0) ∧ ¬ (p2 = 1) ∧ ¬ (p2 = 2) ∧ ¬ (p2 = 3) ∧ ¬ (p2 = 4)) → ∃ q28, mR M7 a0 59 = some q28 ∧ (okc (gB g) M0 q28 14 ∧ (vp_in p1 (mN M0 q28) ∧ (post (mI M7 q28 (Int32.toNatClampNeg p1)) M7))))) ∧ (¬ ((mI M7 a0 0) ≤ 0) → post 0 M7)))
set_option maxRecDepth 100000 in
def wp_X12_event  (g : Gh) (M0 : Mem) (a0 : Nat) (p1 : Int32) (p2 : Int32) (post : Int32 → Mem → Prop) : Prop :=
  okc (gB g) M0 a0 12 ∧ ((((mI M0 a0 48) = 0) → lb_X12_event_34  g M0 a0 p1 p2 post  a0 1 M0) ∧ (¬ ((mI M0 a0 48) = 0) → ((p1 < 0) → lb_X12_event_34  g M0 a0 p1 p2 post  a0 1 M0) ∧ (¬ (p1 < 0) → (((mI M0 a0 49) ≤ p1) → lb_X12_event_34  g M0 a0 p1 p2 post  a0 1 M0) ∧ (¬ ((mI M0 a0 49) ≤ p1) → ((p2 < 0) → lb_X12_event_34  g M0 a0 p1 p2 post  a0 1 M0) ∧ (¬ (p2 < 0) → ((p2 ≤ 5) → lb_X12_event_34  g M0 a0 p1 p2 post  a0 0 M0) ∧ (¬ (p2 ≤ 5) → lb_X12_event_34  g M0 a0 p1 p2 post  a0 1 M0))))))
set_option maxHeartbeats 4000000 in
set_option maxRecDepth 100000 in
theorem lt_X12_event_116 {l : Launch} {g : Gh} {p : Program} {e : Env} {s : State} {m : MethodId} {args : Array Value} {below : List Frame} {meth : Method} {c : Code} {H : Heap} {locs : List Loc} {ls : Array Slot} {M0 M : Mem} {a0 : Nat} {p1 : Int32} {p2 : Int32} {post : Int32 → Mem → Prop}    (C : Cx g p s m args c cX12_event 3 RX12) (hr : meth.sig.returnType = (some .int)) (hlk : meth.locks = false) (hn : meth.name = "event") (h0 : okc (gB g) M0 a0 12)  (hq : lb_X12_event_116  g M0 a0 p1 p2 post   M) (hw : Wd g s M0 M H locs) (hl : lv_has ls 3 [(0, .ref a0), (1, .int p1), (2, .int p2)]) : W p l e (rmo 0 0 0) s m args below meth c H locs 0 0 (MQ below (Cq g M0 (pI post)) args s 0 0 (gA g)) (F0 m 116 ls []) := by
  have hx := C.1.1
  have hb := C.1.2.1
  unfold lb_X12_event_116 at hq
  refine lv_aload_n hx hb dX12_event_116 rfl (lv_at hl 0 rfl) ?_
  obtain ⟨q1, e2, hq⟩ := hq
  refine gfX12_108 C hw hw.2.2.1 h0 e2 dX12_event_117 ?_
  refine lv_iload_n hx hb dX12_event_120 rfl (lv_at hl 1 rfl) ?_
  obtain ⟨h3, hq⟩ := hq
  obtain ⟨h4, hq⟩ := hq
  refine q_zald C hw hw.2.2.1 h3 h4 dX12_event_121 ?_
  refine lv_if_eq (tgt := 129) hx hb dX12_event_122 (by decide) (fun c5 => ?_) (fun c5 => ?_)
  · replace hq := hq.1 c5
    refine lv_iconst (v := 0) hx hb dX12_event_129 (by decide) ?_
    exact r_iret C hr hlk hw dX12_event_130 (Nat.le_refl _) (Nat.le_refl _) ⟨_, rfl, hq⟩
  · replace hq := hq.2 c5
    refine lv_iconst (v := 1) hx hb dX12_event_125 (by decide) ?_
    refine lv_goto (tgt := 130) hx hb dX12_event_126 (by decide) ?_
    exact r_iret C hr hlk hw dX12_event_130 (Nat.le_refl _) (Nat.le_refl _) ⟨_, rfl, hq⟩
set_option maxHeartbeats 4000000 in
set_option maxRecDepth 100000 in
theorem lt_X12_event_34 {l : Launch} {g : Gh} {p : Program} {e : Env} {s : State} {m : MethodId} {args : Array Value} {below : List Frame} {meth : Method} {c : Code} {H : Heap} {locs : List Loc} {ls : Array Slot} {M0 M : Mem} {a0 : Nat} {p1 : Int32} {p2 : Int32} {post : Int32 → Mem → Prop}  {s0 : Nat} {s1 : Int32}  (C : Cx g p s m args c cX12_event 3 RX12) (hr : meth.sig.returnType = (some .int)) (hlk : meth.locks = false) (hn : meth.name = "event") (h0 : okc (gB g) M0 a0 12)  (hq : lb_X12_event_34  g M0 a0 p1 p2 post  s0 s1 M) (hw : Wd g s M0 M H locs) (hl : lv_has ls 3 [(0, .ref a0), (1, .int p1), (2, .int p2)]) : W p l e (rmo 0 0 0) s m args below meth c H locs 0 0 (MQ below (Cq g M0 (pI post)) args s 0 0 (gA g)) (F0 m 34 ls [.int s1, .ref s0]) := by
  have hx := C.1.1
  have hb := C.1.2.1
  unfold lb_X12_event_34 at hq
  obtain ⟨h6, hq⟩ := hq
  refine pfX12_123 C hw hw.2.2.1 h6 dX12_event_34 (fun H locs hw => ?_)
  generalize e8 : uI M s0 0 s1 = M7 at hw
  replace hq := hq M7 e8.symm
  refine lv_aload_n hx hb dX12_event_37 rfl (lv_at hl 0 rfl) ?_
  refine gfX12_123 C hw hw.2.2.1 h0 dX12_event_38 ?_
  refine lv_if_le (tgt := 46) hx hb dX12_event_41 (by decide) (fun c9 => ?_) (fun c9 => ?_)
  · replace hq := hq.1 c9
    refine lv_iload_n hx hb dX12_event_46 rfl (lv_at hl 2 rfl) ?_
    by_cases c32 : p2 = 0
    · refine r_table (v := 0) (off := 33) (tgt := 80) hx hb dX12_event_47 c32 (by decide) (by decide) rfl (by decide) ?_
      replace hq := hq.1 c32
      refine lv_aload_n hx hb dX12_event_80 rfl (lv_at hl 0 rfl) ?_
      obtain ⟨q11, e12, hq⟩ := hq
      refine gfX12_93 C hw hw.2.2.1 h0 e12 dX12_event_81 ?_
      refine lv_iload_n hx hb dX12_event_84 rfl (lv_at hl 1 rfl) ?_
      obtain ⟨h13, hq⟩ := hq
      obtain ⟨h14, hq⟩ := hq
      refine q_iald C hw hw.2.2.1 h13 h14 dX12_event_85 ?_
      exact r_iret C hr hlk hw dX12_event_86 (Nat.le_refl _) (Nat.le_refl _) ⟨_, rfl, hq⟩
    by_cases c33 : p2 = 1
    · refine r_table (v := 1) (off := 40) (tgt := 87) hx hb dX12_event_47 c33 (by decide) (by decide) rfl (by decide) ?_
      replace hq := hq.2.1 c33
      refine lv_aload_n hx hb dX12_event_87 rfl (lv_at hl 0 rfl) ?_
      obtain ⟨q15, e16, hq⟩ := hq
      refine gfX12_96 C hw hw.2.2.1 h0 e16 dX12_event_88 ?_
      refine lv_iload_n hx hb dX12_event_91 rfl (lv_at hl 1 rfl) ?_
      obtain ⟨h17, hq⟩ := hq
      obtain ⟨h18, hq⟩ := hq
      refine q_iald C hw hw.2.2.1 h17 h18 dX12_event_92 ?_
      exact r_iret C hr hlk hw dX12_event_93 (Nat.le_refl _) (Nat.le_refl _) ⟨_, rfl, hq⟩
    by_cases c34 : p2 = 2
    · refine r_table (v := 2) (off := 47) (tgt := 94) hx hb dX12_event_47 c34 (by decide) (by decide) rfl (by decide) ?_
      replace hq := hq.2.2.1 c34
      refine lv_aload_n hx hb dX12_event_94 rfl (lv_at hl 0 rfl) ?_
      obtain ⟨q19, e20, hq⟩ := hq
      refine gfX12_99 C hw hw.2.2.1 h0 e20 dX12_event_95 ?_
      refine lv_iload_n hx hb dX12_event_98 rfl (lv_at hl 1 rfl) ?_
      obtain ⟨h21, hq⟩ := hq
      obtain ⟨h22, hq⟩ := hq
      refine q_iald C hw hw.2.2.1 h21 h22 dX12_event_99 ?_
      exact r_iret C hr hlk hw dX12_event_100 (Nat.le_refl _) (Nat.le_refl _) ⟨_, rfl, hq⟩
    by_cases c35 : p2 = 3
    · refine r_table (v := 3) (off := 54) (tgt := 101) hx hb dX12_event_47 c35 (by decide) (by decide) rfl (by decide) ?_
      replace hq := hq.2.2.2.1 c35
      refine lv_aload_n hx hb dX12_event_101 rfl (lv_at hl 0 rfl) ?_
      obtain ⟨q23, e24, hq⟩ := hq
      refine gfX12_105 C hw hw.2.2.1 h0 e24 dX12_event_102 ?_
      refine lv_iload_n hx hb dX12_event_105 rfl (lv_at hl 1 rfl) ?_
      obtain ⟨h25, hq⟩ := hq
      obtain ⟨h26, hq⟩ := hq
      refine q_zald C hw hw.2.2.1 h25 h26 dX12_event_106 ?_
      refine lv_if_eq (tgt := 114) hx hb dX12_event_107 (by decide) (fun c27 => ?_) (fun c27 => ?_)
      · replace hq := hq.1 c27
        refine lv_iconst (v := 0) hx hb dX12_event_114 (by decide) ?_
        exact r_iret C hr hlk hw dX12_event_115 (Nat.le_refl _) (Nat.le_refl _) ⟨_, rfl, hq⟩
      · replace hq := hq.2 c27
        refine lv_iconst (v := 1) hx hb dX12_event_110 (by decide) ?_
        refine lv_goto (tgt := 115) hx hb dX12_event_111 (by decide) ?_
        exact r_iret C hr hlk hw dX12_event_115 (Nat.le_refl _) (Nat.le_refl _) ⟨_, rfl, hq⟩
    by_cases c36 : p2 = 4
    · refine r_table (v := 4) (off := 69) (tgt := 116) hx hb dX12_event_47 c36 (by decide) (by decide) rfl (by decide) ?_
      replace hq := hq.2.2.2.2.1 c36
      exact lt_X12_event_116  C hr hlk hn h0  hq hw (lv_sub hl [0, 1, 2] rfl)
    refine r_tableOut (tgt := 131) (k := 4) hx hb dX12_event_47 (by decide) (fun j hj => by rcases (show j = 0 ∨ j = 1 ∨ j = 2 ∨ j = 3 ∨ j = 4 by omega) with rfl | rfl | rfl | rfl | rfl <;> assumption) (by decide) ?_
    replace hq := hq.2.2.2.2.2 ⟨c32, c33, c34, c35, c36⟩
    refine lv_aload_n hx hb dX12_event_131 rfl (lv_at hl 0 rfl) ?_
    obtain ⟨q28, e29, hq⟩ := hq
    refine gfX12_102 C hw hw.2.2.1 h0 e29 dX12_event_132 ?_
    refine lv_iload_n hx hb dX12_event_135 rfl (lv_at hl 1 rfl) ?_
    obtain ⟨h30, hq⟩ := hq
    obtain ⟨h31, hq⟩ := hq
    refine q_iald C hw hw.2.2.1 h30 h31 dX12_event_136 ?_
    exact r_iret C hr hlk hw dX12_event_137 (Nat.le_refl _) (Nat.le_refl _) ⟨_, rfl, hq⟩
  · replace hq := hq.2 c9
    refine lv_iconst (v := 0) hx hb dX12_event_44 (by decide) ?_
    exact r_iret C hr hlk hw dX12_event_45 (Nat.le_refl _) (Nat.le_refl _) ⟨_, rfl, hq⟩
set_option maxHeartbeats 4000000 in
set_option maxRecDepth 100000 in
theorem ct_X12_event {l : Launch} {g : Gh} {M0 : Mem} {a0 : Nat} {p1 : Int32} {p2 : Int32} {post : Int32 → Mem → Prop}  (hq : wp_X12_event  g M0 a0 p1 p2 post) : Ct l g yX12_event cX12_event 3 (some .int) 0 0 0 [.ref a0, .int p1, .int p2] M0 (pI post) := by
  unfold wp_X12_event at hq
  obtain ⟨h0, hq⟩ := hq
  refine Ct.of (by decide) (Nat.le_of_ble_eq_true rfl) ?_
  intro p e s m below meth c ls C hr hlk hn hl hw
  have hx := C.1.1
  have hb := C.1.2.1
  have hl : lv_has ls 3 [(0, .ref a0), (1, .int p1), (2, .int p2)] := hl
  refine lv_aload_n hx hb dX12_event_0 rfl (lv_at hl 0 rfl) ?_
  refine lv_aload_n hx hb dX12_event_1 rfl (lv_at hl 0 rfl) ?_
  refine gfX12_247 C hw hw.2.2.1 h0 dX12_event_2 ?_
  refine lv_if_eq (tgt := 29) hx hb dX12_event_5 (by decide) (fun c37 => ?_) (fun c37 => ?_)
  · replace hq := hq.1 c37
    refine lv_iconst (v := 1) hx hb dX12_event_29 (by decide) ?_
    refine lv_goto (tgt := 34) hx hb dX12_event_30 (by decide) ?_
    exact lt_X12_event_34  C hr hlk hn h0  hq hw (lv_sub hl [0, 1, 2] rfl)
  · replace hq := hq.2 c37
    refine lv_iload_n hx hb dX12_event_8 rfl (lv_at hl 1 rfl) ?_
    refine lv_if_lt (tgt := 29) hx hb dX12_event_9 (by decide) (fun c38 => ?_) (fun c38 => ?_)
    · replace hq := hq.1 c38
      refine lv_iconst (v := 1) hx hb dX12_event_29 (by decide) ?_
      refine lv_goto (tgt := 34) hx hb dX12_event_30 (by decide) ?_
      exact lt_X12_event_34  C hr hlk hn h0  hq hw (lv_sub hl [0, 1, 2] rfl)
    · replace hq := hq.2 c38
      refine lv_iload_n hx hb dX12_event_12 rfl (lv_at hl 1 rfl) ?_
      refine lv_aload_n hx hb dX12_event_13 rfl (lv_at hl 0 rfl) ?_
      refine gfX12_290 C hw hw.2.2.1 h0 dX12_event_14 ?_
      refine lv_icmp_ge (tgt := 29) hx hb dX12_event_17 (by decide) (fun c39 => ?_) (fun c39 => ?_)
      · replace hq := hq.1 c39
        refine lv_iconst (v := 1) hx hb dX12_event_29 (by decide) ?_
        refine lv_goto (tgt := 34) hx hb dX12_event_30 (by decide) ?_
        exact lt_X12_event_34  C hr hlk hn h0  hq hw (lv_sub hl [0, 1, 2] rfl)
      · replace hq := hq.2 c39
        refine lv_iload_n hx hb dX12_event_20 rfl (lv_at hl 2 rfl) ?_
        refine lv_if_lt (tgt := 29) hx hb dX12_event_21 (by decide) (fun c40 => ?_) (fun c40 => ?_)
        · replace hq := hq.1 c40
          refine lv_iconst (v := 1) hx hb dX12_event_29 (by decide) ?_
          refine lv_goto (tgt := 34) hx hb dX12_event_30 (by decide) ?_
          exact lt_X12_event_34  C hr hlk hn h0  hq hw (lv_sub hl [0, 1, 2] rfl)
        · replace hq := hq.2 c40
          refine lv_iload_n hx hb dX12_event_24 rfl (lv_at hl 2 rfl) ?_
          refine lv_iconst (v := 5) hx hb dX12_event_25 (by decide) ?_
          refine lv_icmp_le (tgt := 33) hx hb dX12_event_26 (by decide) (fun c41 => ?_) (fun c41 => ?_)
          · replace hq := hq.1 c41
            refine lv_iconst (v := 0) hx hb dX12_event_33 (by decide) ?_
            exact lt_X12_event_34  C hr hlk hn h0  hq hw (lv_sub hl [0, 1, 2] rfl)
          · replace hq := hq.2 c41
            refine lv_iconst (v := 1) hx hb dX12_event_29 (by decide) ?_
            refine lv_goto (tgt := 34) hx hb dX12_event_30 (by decide) ?_
            exact lt_X12_event_34  C hr hlk hn h0  hq hw (lv_sub hl [0, 1, 2] rfl)
