set_option maxRecDepth 100000 in
def wp_J3_checkFromToIndex_8c36e  (g : Gh) (M0 : Mem) (p0 : Int32) (p1 : Int32) (p2 : Int32) (r3 : Option Nat) (post : Int32 → Mem → Prop) : Prop :=
  ((p0 < 0) → False) ∧ (¬ (p0 < 0) → ((p1 < p0) → False) ∧ (¬ (p1 < p0) → ((p1 ≤ p2) → post p0 M0) ∧ (¬ (p1 ≤ p2) → False)))
set_option maxHeartbeats 4000000 in
set_option maxRecDepth 100000 in
theorem ct_J3_checkFromToIndex_8c36e {l : Launch} {g : Gh} {M0 : Mem} {p0 : Int32} {p1 : Int32} {p2 : Int32} {r3 : Option Nat} {post : Int32 → Mem → Prop}  (hq : wp_J3_checkFromToIndex_8c36e  g M0 p0 p1 p2 r3 post) : Ct l g yJ3_checkFromToIndex_8c36e cJ3_checkFromToIndex_8c36e 4 (some .int) 0 0 0 [.int p0, .int p1, .int p2, va_rf r3] M0 (pI post) := by
  unfold wp_J3_checkFromToIndex_8c36e at hq
  refine Ct.of (by decide) (by cases r3 <;> exact Nat.le_of_ble_eq_true rfl) ?_
  intro p e s m below meth c ls C hr hlk hn hl hw
  have hx := C.1.1
  have hb := C.1.2.1
  have hl : lv_has ls 4 [(0, .int p0), (1, .int p1), (2, .int p2), (3, va_rf r3)] := hl
  refine lv_iload_n hx hb dJ3_checkFromToIndex_8c36e_0 rfl (lv_at hl 0 rfl) ?_
  refine lv_if_lt (tgt := 14) hx hb dJ3_checkFromToIndex_8c36e_1 (by decide) (fun c1 => ?_) (fun c1 => ?_)
  · replace hq := hq.1 c1
    refine r_aload_n hx hb dJ3_checkFromToIndex_8c36e_14 rfl (lv_at hl 3 rfl) ?_
    refine lv_iload_n hx hb dJ3_checkFromToIndex_8c36e_15 rfl (lv_at hl 0 rfl) ?_
    refine lv_iload_n hx hb dJ3_checkFromToIndex_8c36e_16 rfl (lv_at hl 1 rfl) ?_
    refine lv_iload_n hx hb dJ3_checkFromToIndex_8c36e_17 rfl (lv_at hl 2 rfl) ?_
    exact hq.elim
  · replace hq := hq.2 c1
    refine lv_iload_n hx hb dJ3_checkFromToIndex_8c36e_4 rfl (lv_at hl 0 rfl) ?_
    refine lv_iload_n hx hb dJ3_checkFromToIndex_8c36e_5 rfl (lv_at hl 1 rfl) ?_
    refine lv_icmp_gt (tgt := 14) hx hb dJ3_checkFromToIndex_8c36e_6 (by decide) (fun c2 => ?_) (fun c2 => ?_)
    · replace hq := hq.1 c2
      refine r_aload_n hx hb dJ3_checkFromToIndex_8c36e_14 rfl (lv_at hl 3 rfl) ?_
      refine lv_iload_n hx hb dJ3_checkFromToIndex_8c36e_15 rfl (lv_at hl 0 rfl) ?_
      refine lv_iload_n hx hb dJ3_checkFromToIndex_8c36e_16 rfl (lv_at hl 1 rfl) ?_
      refine lv_iload_n hx hb dJ3_checkFromToIndex_8c36e_17 rfl (lv_at hl 2 rfl) ?_
      exact hq.elim
    · replace hq := hq.2 c2
      refine lv_iload_n hx hb dJ3_checkFromToIndex_8c36e_9 rfl (lv_at hl 1 rfl) ?_
      refine lv_iload_n hx hb dJ3_checkFromToIndex_8c36e_10 rfl (lv_at hl 2 rfl) ?_
      refine lv_icmp_le (tgt := 22) hx hb dJ3_checkFromToIndex_8c36e_11 (by decide) (fun c3 => ?_) (fun c3 => ?_)
      · replace hq := hq.1 c3
        refine lv_iload_n hx hb dJ3_checkFromToIndex_8c36e_22 rfl (lv_at hl 0 rfl) ?_
        exact r_iret C hr hlk hw dJ3_checkFromToIndex_8c36e_23 (Nat.le_refl _) (Nat.le_refl _) ⟨_, rfl, hq⟩
      · replace hq := hq.2 c3
        refine r_aload_n hx hb dJ3_checkFromToIndex_8c36e_14 rfl (lv_at hl 3 rfl) ?_
        refine lv_iload_n hx hb dJ3_checkFromToIndex_8c36e_15 rfl (lv_at hl 0 rfl) ?_
        refine lv_iload_n hx hb dJ3_checkFromToIndex_8c36e_16 rfl (lv_at hl 1 rfl) ?_
        refine lv_iload_n hx hb dJ3_checkFromToIndex_8c36e_17 rfl (lv_at hl 2 rfl) ?_
        exact hq.elim

set_option maxRecDepth 100000 in
def wp_J0_checkBoundsBeginEnd_23922  (g : Gh) (M0 : Mem) (p0 : Int32) (p1 : Int32) (p2 : Int32) (post : Mem → Prop) : Prop :=
  ∀ r1 : Option Nat, (wp_J3_checkFromToIndex_8c36e g M0 p0 p1 p2 r1 (fun v2 M3 => post M3))
set_option maxHeartbeats 4000000 in
set_option maxRecDepth 100000 in
theorem ct_J0_checkBoundsBeginEnd_23922 {l : Launch} {g : Gh} {M0 : Mem} {p0 : Int32} {p1 : Int32} {p2 : Int32} {post : Mem → Prop}  (hq : wp_J0_checkBoundsBeginEnd_23922  g M0 p0 p1 p2 post) : Ct l g yJ0_checkBoundsBeginEnd_23922 cJ0_checkBoundsBeginEnd_23922 3 none 1 0 0 [.int p0, .int p1, .int p2] M0 (pV post) := by
  unfold wp_J0_checkBoundsBeginEnd_23922 at hq
  refine Ct.of (by decide) (Nat.le_of_ble_eq_true rfl) ?_
  intro p e s m below meth c ls C hr hlk hn hl hw
  have hx := C.1.1
  have hb := C.1.2.1
  have hl : lv_has ls 3 [(0, .int p0), (1, .int p1), (2, .int p2)] := hl
  refine lv_iload_n hx hb dJ0_checkBoundsBeginEnd_23922_0 rfl (lv_at hl 0 rfl) ?_
  refine lv_iload_n hx hb dJ0_checkBoundsBeginEnd_23922_1 rfl (lv_at hl 1 rfl) ?_
  refine lv_iload_n hx hb dJ0_checkBoundsBeginEnd_23922_2 rfl (lv_at hl 2 rfl) ?_
  refine r_sfmt C hw w_510 dJ0_checkBoundsBeginEnd_23922_3 (fun r1 => ?_)
  replace hq := hq r1
  refine r_callS (index := 1062) (n := 4) (d2 := 0) (mc := 0) (ms := 0) (As := [.int p0, .int p1, .int p2, va_rf r1]) (rest := []) C hw (ct_J3_checkFromToIndex_8c36e hq) ksJ0_1062 ⟨by decide, by decide⟩ ⟨by decide, by decide⟩ rfl hl.1 rfl (Nat.le_of_ble_eq_true rfl) dJ0_checkBoundsBeginEnd_23922_6 (fun r M3 H locs hp hle hw => ?_)
  obtain ⟨v2, rfl, hq⟩ := hp
  refine W.eq (g2 := F0 m 9 ls [.int v2]) rfl ?_
  refine lv_pop hx hb dJ0_checkBoundsBeginEnd_23922_9 rfl ?_
  exact r_vret C hr hlk hw dJ0_checkBoundsBeginEnd_23922_10 (Nat.le_refl _) (Nat.le_refl _) ⟨rfl, hq⟩
