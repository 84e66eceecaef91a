set_option maxRecDepth 100000 in
def wp_X9_tell  (g : Gh) (M0 : Mem) (a0 : Nat) (p1 : Int32) (post : Int32 → Mem → Prop) : Prop :=
  okc (gB g) M0 a0 9 ∧ (((p1 = 0) → post (mI M0 a0 0) M0) ∧ ((p1 = 1) → post (mI M0 a0 2) M0) ∧ ((p1 = 2) → post (mI M0 a0 3) M0) ∧ ((p1 = 3) → wp_X9_hard g M0 a0 (fun v2 M3 => post v2 M3)) ∧ ((p1 = 4) → (((mI M0 a0 4) = 0) → post 0 M0) ∧ (¬ ((mI M0 a0 4) = 0) → post 1 M0)) ∧ ((p1 = 5) → wp_J6_bitCount_0f7a4 g M0 (mI M0 a0 5) (fun v5 M6 => post v5 M6)) ∧ ((¬ (p1 = 0) ∧ ¬ (p1 = 1) ∧ ¬ (p1 = 2) ∧ ¬ (p1 = 3) ∧ ¬ (p1 = 4) ∧ ¬ (p1 = 5)) → post (-1) M0))
set_option maxHeartbeats 4000000 in
set_option maxRecDepth 100000 in
theorem ct_X9_tell {l : Launch} {g : Gh} {M0 : Mem} {a0 : Nat} {p1 : Int32} {post : Int32 → Mem → Prop}  (hq : wp_X9_tell  g M0 a0 p1 post) : Ct l g yX9_tell cX9_tell 2 (some .int) 1 0 0 [.ref a0, .int p1] M0 (pI post) := by
  unfold wp_X9_tell at hq
  obtain ⟨h0, hq⟩ := hq
  refine Ct.of (by decide) (Nat.le_of_ble_eq_true rfl) ?_
  intro p e s m below meth c ls C hr hlk hn hl hw
  have hx := C.1.1
  have hb := C.1.2.1
  have hl : lv_has ls 2 [(0, .ref a0), (1, .int p1)] := hl
  refine lv_iload_n hx hb dX9_tell_0 rfl (lv_at hl 1 rfl) ?_
  by_cases c7 : p1 = 0
  · refine r_table (v := 0) (off := 39) (tgt := 40) hx hb dX9_tell_1 c7 (by decide) (by decide) rfl (by decide) ?_
    replace hq := hq.1 c7
    refine lv_aload_n hx hb dX9_tell_40 rfl (lv_at hl 0 rfl) ?_
    refine gfX9_9 C hw hw.2.2.1 h0 dX9_tell_41 ?_
    exact r_iret C hr hlk hw dX9_tell_44 (Nat.le_refl _) (Nat.le_refl _) ⟨_, rfl, hq⟩
  by_cases c8 : p1 = 1
  · refine r_table (v := 1) (off := 44) (tgt := 45) hx hb dX9_tell_1 c8 (by decide) (by decide) rfl (by decide) ?_
    replace hq := hq.2.1 c8
    refine lv_aload_n hx hb dX9_tell_45 rfl (lv_at hl 0 rfl) ?_
    refine gfX9_19 C hw hw.2.2.1 h0 dX9_tell_46 ?_
    exact r_iret C hr hlk hw dX9_tell_49 (Nat.le_refl _) (Nat.le_refl _) ⟨_, rfl, hq⟩
  by_cases c9 : p1 = 2
  · refine r_table (v := 2) (off := 49) (tgt := 50) hx hb dX9_tell_1 c9 (by decide) (by decide) rfl (by decide) ?_
    replace hq := hq.2.2.1 c9
    refine lv_aload_n hx hb dX9_tell_50 rfl (lv_at hl 0 rfl) ?_
    refine gfX9_22 C hw hw.2.2.1 h0 dX9_tell_51 ?_
    exact r_iret C hr hlk hw dX9_tell_54 (Nat.le_refl _) (Nat.le_refl _) ⟨_, rfl, hq⟩
  by_cases c10 : p1 = 3
  · refine r_table (v := 3) (off := 54) (tgt := 55) hx hb dX9_tell_1 c10 (by decide) (by decide) rfl (by decide) ?_
    replace hq := hq.2.2.2.1 c10
    refine lv_aload_n hx hb dX9_tell_55 rfl (lv_at hl 0 rfl) ?_
    refine r_callV (T := TX9) (N := 6) (ci := 9) (index := 36) (n := 0) (d2 := 0) (mc := 0) (ms := 0) (As := []) (rest := []) C hw (ct_X9_hard hq) kvX9_36 hq.1 (by decide) rfl ⟨by decide, by decide⟩ ⟨by decide, by decide⟩ rfl hl.1 rfl (Nat.le_of_ble_eq_true rfl) dX9_tell_56 (fun r M3 H locs hp hle hw => ?_)
    obtain ⟨v2, rfl, hq⟩ := hp
    refine W.eq (g2 := F0 m 59 ls [.int v2]) rfl ?_
    exact r_iret C hr hlk hw dX9_tell_59 (Nat.le_refl _) (Nat.le_refl _) ⟨_, rfl, hq⟩
  by_cases c11 : p1 = 4
  · refine r_table (v := 4) (off := 59) (tgt := 60) hx hb dX9_tell_1 c11 (by decide) (by decide) rfl (by decide) ?_
    replace hq := hq.2.2.2.2.1 c11
    refine lv_aload_n hx hb dX9_tell_60 rfl (lv_at hl 0 rfl) ?_
    refine gfX9_28 C hw hw.2.2.1 h0 dX9_tell_61 ?_
    refine lv_if_eq (tgt := 71) hx hb dX9_tell_64 (by decide) (fun c4 => ?_) (fun c4 => ?_)
    · replace hq := hq.1 c4
      refine lv_iconst (v := 0) hx hb dX9_tell_71 (by decide) ?_
      exact r_iret C hr hlk hw dX9_tell_72 (Nat.le_refl _) (Nat.le_refl _) ⟨_, rfl, hq⟩
    · replace hq := hq.2 c4
      refine lv_iconst (v := 1) hx hb dX9_tell_67 (by decide) ?_
      refine lv_goto (tgt := 72) hx hb dX9_tell_68 (by decide) ?_
      exact r_iret C hr hlk hw dX9_tell_72 (Nat.le_refl _) (Nat.le_refl _) ⟨_, rfl, hq⟩
  by_cases c12 : p1 = 5
  · refine r_table (v := 5) (off := 72) (tgt := 73) hx hb dX9_tell_1 c12 (by decide) (by decide) rfl (by decide) ?_
    replace hq := hq.2.2.2.2.2.1 c12
    refine lv_aload_n hx hb dX9_tell_73 rfl (lv_at hl 0 rfl) ?_
    refine gfX9_25 C hw hw.2.2.1 h0 dX9_tell_74 ?_
    refine r_callS (index := 40) (n := 1) (d2 := 0) (mc := 0) (ms := 0) (As := [.int (mI M0 a0 5)]) (rest := []) C hw (ct_J6_bitCount_0f7a4 hq) ksX9_40 ⟨by decide, by decide⟩ ⟨by decide, by decide⟩ rfl hl.1 rfl (Nat.le_of_ble_eq_true rfl) dX9_tell_77 (fun r M6 H locs hp hle hw => ?_)
    obtain ⟨v5, rfl, hq⟩ := hp
    refine W.eq (g2 := F0 m 80 ls [.int v5]) rfl ?_
    exact r_iret C hr hlk hw dX9_tell_80 (Nat.le_refl _) (Nat.le_refl _) ⟨_, rfl, hq⟩
  refine r_tableOut (tgt := 81) (k := 5) hx hb dX9_tell_1 (by decide) (fun j hj => by rcases (show j = 0 ∨ j = 1 ∨ j = 2 ∨ j = 3 ∨ j = 4 ∨ j = 5 by omega) with rfl | rfl | rfl | rfl | rfl | rfl <;> assumption) (by decide) ?_
  replace hq := hq.2.2.2.2.2.2 ⟨c7, c8, c9, c10, c11, c12⟩
  refine lv_iconst (v := (-1)) hx hb dX9_tell_81 (by decide) ?_
  exact r_iret C hr hlk hw dX9_tell_82 (Nat.le_refl _) (Nat.le_refl _) ⟨_, rfl, hq⟩

set_option maxRecDepth 100000 in
def wp_X10_init  (g : Gh) (M0 : Mem) (a0 : Nat) (post : Mem → Prop) : Prop :=
  okc (gB g) M0 a0 10 ∧ (∀ q2 M3, q2 = mT M0 → M3 = nw M0 16 260 → (∀ M7, M7 = uR M3 a0 0 (some q2) → (∀ M9, M9 = uI M7 a0 1 0 → (post M9))))
set_option maxHeartbeats 4000000 in
set_option maxRecDepth 100000 in
theorem ct_X10_init {l : Launch} {g : Gh} {M0 : Mem} {a0 : Nat} {post : Mem → Prop}  (hq : wp_X10_init  g M0 a0 post) : Ct l g yX10_init cX10_init 1 none 1 1 260 [.ref a0] M0 (pV post) := by
  unfold wp_X10_init at hq
  obtain ⟨h0, hq⟩ := hq
  have h00 := h0
  refine Ct.of (by decide) (Nat.le_of_ble_eq_true rfl) ?_
  intro p e s m below meth c ls C hr hlk hn hl hw
  have hx := C.1.1
  have hb := C.1.2.1
  have hl : lv_has ls 1 [(0, .ref a0)] := hl
  refine lv_aload_n hx hb dX10_init_0 rfl (lv_at hl 0 rfl) ?_
  refine W.objInit hx hb C.1.2.2.2.1 (C.1.2.2.2.2 _ w_42) (C.1.2.2.2.2 _ w_35) (C.1.2.2.2.2 _ w_objInit) rfl (by rw [C.1.2.2.1]; exact hl.1) rfl dX10_init_1 (Nat.le_of_ble_eq_true rfl) (Nat.le_of_ble_eq_true rfl) ?_
  refine W.eq (g2 := F0 m 4 ls []) rfl ?_
  refine lv_aload_n hx hb dX10_init_4 rfl (lv_at hl 0 rfl) ?_
  refine lv_sipush (v := 260) hx hb dX10_init_5 (by decide) ?_
  have hB := hw.B C.2.2.2.2.2
  have h1 : 0 + 1 ≤ 1 ∧ 0 + 260 ≤ 260 := by decide
  refine q_newa_16 (N' := 260) C hw (by decide) (by decide) (by decide) h1.1 h1.2 dX10_init_8 (fun H hw => ?_)
  have h6 := okc_nw (gB g) M0 16 260 hB
  have h0 := h0.up (mle_nw M0 16 260)
  generalize e4 : nw M0 16 260 = M3 at hw h6 h0
  generalize e5 : mT M0 = q2 at h6 ⊢
  replace hq := hq q2 M3 e5.symm e4.symm
  refine pfX10_11 (v := (some q2)) C hw (mle_rf _) h0 hn dX10_init_10 (fun H locs hw => ?_)
  generalize e8 : uR M3 a0 0 (some q2) = M7 at hw
  replace hq := hq M7 e8.symm
  have h0 : okc (gB g) M7 a0 10 := by rw [← e8]; exact okc_uR h0
  refine lv_aload_n hx hb dX10_init_13 rfl (lv_at hl 0 rfl) ?_
  refine lv_iconst (v := 0) hx hb dX10_init_14 (by decide) ?_
  refine pfX10_15 C hw (mle_rf _) h0 dX10_init_15 (fun H locs hw => ?_)
  generalize e10 : uI M7 a0 1 0 = M9 at hw
  replace hq := hq M9 e10.symm
  have h0 : okc (gB g) M9 a0 10 := by rw [← e10]; exact okc_uI h0
  have h11 : 1 ≤ 1 ∧ 260 ≤ 260 := by decide
  exact r_vret C hr hlk hw dX10_init_18 h11.1 h11.2 ⟨rfl, hq⟩

set_option maxRecDepth 100000 in
def wp_X10_hasRoomFor  (g : Gh) (M0 : Mem) (a0 : Nat) (p1 : Int32) (post : Int32 → Mem → Prop) : Prop :=
  okc (gB g) M0 a0 10 ∧ (((260 < ((mI M0 a0 1) + p1)) → post 0 M0) ∧ (¬ (260 < ((mI M0 a0 1) + p1)) → post 1 M0))
set_option maxHeartbeats 4000000 in
set_option maxRecDepth 100000 in
theorem ct_X10_hasRoomFor {l : Launch} {g : Gh} {M0 : Mem} {a0 : Nat} {p1 : Int32} {post : Int32 → Mem → Prop}  (hq : wp_X10_hasRoomFor  g M0 a0 p1 post) : Ct l g yX10_hasRoomFor cX10_hasRoomFor 2 (some .boolean) 0 0 0 [.ref a0, .int p1] M0 (pI post) := by
  unfold wp_X10_hasRoomFor at hq
  obtain ⟨h0, hq⟩ := hq
  refine Ct.of (by decide) (Nat.le_of_ble_eq_true rfl) ?_
  intro p e s m below meth c ls C hr hlk hn hl hw
  have hx := C.1.1
  have hb := C.1.2.1
  have hl : lv_has ls 2 [(0, .ref a0), (1, .int p1)] := hl
  refine lv_aload_n hx hb dX10_hasRoomFor_0 rfl (lv_at hl 0 rfl) ?_
  refine gfX10_15 C hw hw.2.2.1 h0 dX10_hasRoomFor_1 ?_
  refine lv_iload_n hx hb dX10_hasRoomFor_4 rfl (lv_at hl 1 rfl) ?_
  refine lv_iadd hx hb dX10_hasRoomFor_5 ?_
  refine lv_sipush (v := 260) hx hb dX10_hasRoomFor_6 (by decide) ?_
  refine lv_icmp_gt (tgt := 16) hx hb dX10_hasRoomFor_9 (by decide) (fun c1 => ?_) (fun c1 => ?_)
  · replace hq := hq.1 c1
    refine lv_iconst (v := 0) hx hb dX10_hasRoomFor_16 (by decide) ?_
    exact r_zret C hr hlk hw dX10_hasRoomFor_17 (Nat.le_refl _) (Nat.le_refl _) (by decide) ⟨_, rfl, hq⟩
  · replace hq := hq.2 c1
    refine lv_iconst (v := 1) hx hb dX10_hasRoomFor_12 (by decide) ?_
    refine lv_goto (tgt := 17) hx hb dX10_hasRoomFor_13 (by decide) ?_
    exact r_zret C hr hlk hw dX10_hasRoomFor_17 (Nat.le_refl _) (Nat.le_refl _) (by decide) ⟨_, rfl, hq⟩

set_option maxRecDepth 100000 in
def bd_X10_addNumber_3  (g : Gh) (M0 : Mem) (a0 : Nat) (p1 : Int32) (post : Mem → Prop)  (bk3 : Int32 × Mem → Prop) (x2 : Int32)  (M : Mem) : Prop :=
  ((x2 < 0) → post M) ∧ (¬ (x2 < 0) → ((260 ≤ (mI M a0 1)) → post M) ∧ (¬ (260 ≤ (mI M a0 1)) → ∃ q3, mR M a0 0 = some q3 ∧ (okc (gB g) M0 q3 16 ∧ (vp_in (mI M a0 1) (mN M0 q3) ∧ (∀ M7, M7 = uI M q3 (Int32.toNatClampNeg (mI M a0 1)) (vp_nar .short ((Int32.toInt16 (((Int32.toUInt32 p1 >>> (Int32.toUInt32 x2 &&& Int32.toUInt32 31)).toInt32) &&& 255)).toInt32)) → (∀ M9, M9 = uI M7 a0 1 ((mI M7 a0 1) + 1) → (bk3 ((x2 + (-8)), M9))))))))
set_option maxRecDepth 100000 in
def wp_X10_addNumber  (g : Gh) (M0 : Mem) (a0 : Nat) (p1 : Int32) (post : Mem → Prop) : Prop :=
  okc (gB g) M0 a0 10 ∧ ((∃ n : Nat, lfp (fun bk z => bd_X10_addNumber_3  g M0 a0 p1 post  bk z.1 z.2) n (24, M0)))
set_option maxHeartbeats 4000000 in
set_option maxRecDepth 100000 in
theorem lp_X10_addNumber_3 {l : Launch} {g : Gh} {p : Program} {e : Env} {s : State} {m : MethodId} {args : Array Value} {below : List Frame} {meth : Method} {c : Code} {M0 : Mem} {a0 : Nat} {p1 : Int32} {post : Mem → Prop}  (C : Cx g p s m args c cX10_addNumber 3 RX10) (hr : meth.sig.returnType = none) (hlk : meth.locks = false) (hn : meth.name = "addNumber") (h0 : okc (gB g) M0 a0 10)  : ∀ (nf : Nat) (x2 : Int32)  (M : Mem) (H : Heap) (locs : List Loc) (ls : Array Slot), lfp (fun bk z => bd_X10_addNumber_3  g M0 a0 p1 post  bk z.1 z.2) nf (x2, M) → Wd g s M0 M H locs → lv_has ls 3 [(0, .ref a0), (1, .int p1), (2, .int x2)] → W p l e (rmo 0 0 0) s m args below meth c H locs 0 0 (MQ below (Cq g M0 (pV post)) args s 0 0 (gA g)) (F0 m 3 ls []) := by
  have hx := C.1.1
  have hb := C.1.2.1
  intro nf
  induction nf with
  | zero => intro _ _ H locs ls hq; exact hq.elim
  | succ nf hk3 =>
    intro x2 M H locs ls hq hw hl
    replace hq : bd_X10_addNumber_3  g M0 a0 p1 post  (lfp (fun bk z => bd_X10_addNumber_3  g M0 a0 p1 post  bk z.1 z.2) nf) x2 M := hq
    unfold bd_X10_addNumber_3 at hq
    refine lv_iload_n hx hb dX10_addNumber_3 rfl (lv_at hl 2 rfl) ?_
    refine lv_if_lt (tgt := 50) hx hb dX10_addNumber_4 (by decide) (fun c1 => ?_) (fun c1 => ?_)
    · replace hq := hq.1 c1
      exact r_vret C hr hlk hw dX10_addNumber_50 (Nat.le_refl _) (Nat.le_refl _) ⟨rfl, hq⟩
    · replace hq := hq.2 c1
      refine lv_aload_n hx hb dX10_addNumber_7 rfl (lv_at hl 0 rfl) ?_
      refine gfX10_15 C hw hw.2.2.1 h0 dX10_addNumber_8 ?_
      refine lv_sipush (v := 260) hx hb dX10_addNumber_11 (by decide) ?_
      refine lv_icmp_ge (tgt := 50) hx hb dX10_addNumber_14 (by decide) (fun c2 => ?_) (fun c2 => ?_)
      · replace hq := hq.1 c2
        exact r_vret C hr hlk hw dX10_addNumber_50 (Nat.le_refl _) (Nat.le_refl _) ⟨rfl, hq⟩
      · replace hq := hq.2 c2
        refine lv_aload_n hx hb dX10_addNumber_17 rfl (lv_at hl 0 rfl) ?_
        obtain ⟨q3, e4, hq⟩ := hq
        refine gfX10_11 C hw hw.2.2.1 h0 e4 dX10_addNumber_18 ?_
        refine lv_aload_n hx hb dX10_addNumber_21 rfl (lv_at hl 0 rfl) ?_
        refine gfX10_15 C hw hw.2.2.1 h0 dX10_addNumber_22 ?_
        refine lv_iload_n hx hb dX10_addNumber_25 rfl (lv_at hl 1 rfl) ?_
        refine lv_iload_n hx hb dX10_addNumber_26 rfl (lv_at hl 2 rfl) ?_
        refine lv_iushr (v := ((Int32.toUInt32 p1 >>> (Int32.toUInt32 x2 &&& Int32.toUInt32 31)).toInt32)) hx hb dX10_addNumber_27 rfl ?_
        refine lv_sipush (v := 255) hx hb dX10_addNumber_28 (by decide) ?_
        refine lv_iand hx hb dX10_addNumber_31 ?_
        refine lv_i2s (v := ((Int32.toInt16 (((Int32.toUInt32 p1 >>> (Int32.toUInt32 x2 &&& Int32.toUInt32 31)).toInt32) &&& 255)).toInt32)) hx hb dX10_addNumber_32 rfl ?_
        obtain ⟨h5, hq⟩ := hq
        obtain ⟨h6, hq⟩ := hq
        refine q_sast C hw hw.2.2.1 h5 h6 dX10_addNumber_33 (fun H locs hw => ?_)
        generalize e8 : uI M q3 (Int32.toNatClampNeg (mI M a0 1)) (vp_nar .short ((Int32.toInt16 (((Int32.toUInt32 p1 >>> (Int32.toUInt32 x2 &&& Int32.toUInt32 31)).toInt32) &&& 255)).toInt32)) = M7 at hw
        replace hq := hq M7 e8.symm
        have e4 : mR M7 a0 0 = some q3 := by rw [← e8, mR_uI]; exact e4
        refine lv_aload_n hx hb dX10_addNumber_34 rfl (lv_at hl 0 rfl) ?_
        refine lv_dup hx hb dX10_addNumber_35 rfl ?_
        refine gfX10_15 C hw hw.2.2.1 h0 dX10_addNumber_36 ?_
        refine lv_iconst (v := 1) hx hb dX10_addNumber_39 (by decide) ?_
        refine lv_iadd hx hb dX10_addNumber_40 ?_
        refine pfX10_15 C hw hw.2.2.1 h0 dX10_addNumber_41 (fun H locs hw => ?_)
        generalize e10 : uI M7 a0 1 ((mI M7 a0 1) + 1) = M9 at hw
        replace hq := hq M9 e10.symm
        have e4 : mR M9 a0 0 = some q3 := by rw [← e10, mR_uI]; exact e4
        refine lv_iinc (v := (x2 + (-8))) (lv' := [(2, .int (x2 + (-8))), (0, .ref a0), (1, .int p1)]) hx hb dX10_addNumber_44 hl (k := 2) rfl rfl (by decide) rfl (fun ls hl => ?_)
        refine lv_goto (tgt := 3) hx hb dX10_addNumber_47 (by decide) ?_
        exact hk3 _ _ _ _ _ hq hw (lv_sub hl [1, 2, 0] rfl)
set_option maxHeartbeats 4000000 in
set_option maxRecDepth 100000 in
theorem ct_X10_addNumber {l : Launch} {g : Gh} {M0 : Mem} {a0 : Nat} {p1 : Int32} {post : Mem → Prop}  (hq : wp_X10_addNumber  g M0 a0 p1 post) : Ct l g yX10_addNumber cX10_addNumber 3 none 0 0 0 [.ref a0, .int p1] M0 (pV post) := by
  unfold wp_X10_addNumber at hq
  obtain ⟨h0, hq⟩ := hq
  refine Ct.of (by decide) (Nat.le_of_ble_eq_true rfl) ?_
  intro p e s m below meth c ls C hr hlk hn hl hw
  have hx := C.1.1
  have hb := C.1.2.1
  have hl : lv_has ls 3 [(0, .ref a0), (1, .int p1)] := hl
  refine lv_bipush (v := 24) hx hb dX10_addNumber_0 (by decide) ?_
  refine lv_istore_n (lv' := [(2, .int 24), (0, .ref a0), (1, .int p1)]) hx hb dX10_addNumber_2 rfl hl (by decide) rfl (fun ls hl => ?_)
  obtain ⟨nf, hq⟩ := hq
  exact lp_X10_addNumber_3  C hr hlk hn h0  nf _ _ _ _ _ hq hw (lv_sub hl [1, 2, 0] rfl)

set_option maxRecDepth 100000 in
def wp_X10_cutTo  (g : Gh) (M0 : Mem) (a0 : Nat) (p1 : Int32) (post : Int32 → Mem → Prop) : Prop :=
  okc (gB g) M0 a0 10 ∧ (((p1 < 0) → post 0 M0) ∧ (¬ (p1 < 0) → ((p1 ≤ (mI M0 a0 1)) → ∀ M3, M3 = uI M0 a0 1 p1 → (post 1 M3)) ∧ (¬ (p1 ≤ (mI M0 a0 1)) → post 0 M0)))
set_option maxHeartbeats 4000000 in
set_option maxRecDepth 100000 in
theorem ct_X10_cutTo {l : Launch} {g : Gh} {M0 : Mem} {a0 : Nat} {p1 : Int32} {post : Int32 → Mem → Prop}  (hq : wp_X10_cutTo  g M0 a0 p1 post) : Ct l g yX10_cutTo cX10_cutTo 2 (some .boolean) 0 0 0 [.ref a0, .int p1] M0 (pI post) := by
  unfold wp_X10_cutTo at hq
  obtain ⟨h0, hq⟩ := hq
  refine Ct.of (by decide) (Nat.le_of_ble_eq_true rfl) ?_
  intro p e s m below meth c ls C hr hlk hn hl hw
  have hx := C.1.1
  have hb := C.1.2.1
  have hl : lv_has ls 2 [(0, .ref a0), (1, .int p1)] := hl
  refine lv_iload_n hx hb dX10_cutTo_0 rfl (lv_at hl 1 rfl) ?_
  refine lv_if_lt (tgt := 12) hx hb dX10_cutTo_1 (by decide) (fun c1 => ?_) (fun c1 => ?_)
  · replace hq := hq.1 c1
    refine lv_iconst (v := 0) hx hb dX10_cutTo_12 (by decide) ?_
    exact r_zret C hr hlk hw dX10_cutTo_13 (Nat.le_refl _) (Nat.le_refl _) (by decide) ⟨_, rfl, hq⟩
  · replace hq := hq.2 c1
    refine lv_iload_n hx hb dX10_cutTo_4 rfl (lv_at hl 1 rfl) ?_
    refine lv_aload_n hx hb dX10_cutTo_5 rfl (lv_at hl 0 rfl) ?_
    refine gfX10_15 C hw hw.2.2.1 h0 dX10_cutTo_6 ?_
    refine lv_icmp_le (tgt := 14) hx hb dX10_cutTo_9 (by decide) (fun c2 => ?_) (fun c2 => ?_)
    · replace hq := hq.1 c2
      refine lv_aload_n hx hb dX10_cutTo_14 rfl (lv_at hl 0 rfl) ?_
      refine lv_iload_n hx hb dX10_cutTo_15 rfl (lv_at hl 1 rfl) ?_
      refine pfX10_15 C hw hw.2.2.1 h0 dX10_cutTo_16 (fun H locs hw => ?_)
      generalize e4 : uI M0 a0 1 p1 = M3 at hw
      replace hq := hq M3 e4.symm
      refine lv_iconst (v := 1) hx hb dX10_cutTo_19 (by decide) ?_
      exact r_zret C hr hlk hw dX10_cutTo_20 (Nat.le_refl _) (Nat.le_refl _) (by decide) ⟨_, rfl, hq⟩
    · replace hq := hq.2 c2
      refine lv_iconst (v := 0) hx hb dX10_cutTo_12 (by decide) ?_
      exact r_zret C hr hlk hw dX10_cutTo_13 (Nat.le_refl _) (Nat.le_refl _) (by decide) ⟨_, rfl, hq⟩

set_option maxRecDepth 100000 in
def wp_X10_wipe  (g : Gh) (M0 : Mem) (a0 : Nat) (post : Mem → Prop) : Prop :=
  okc (gB g) M0 a0 10 ∧ (∀ M1, M1 = uI M0 a0 1 0 → (post M1))
set_option maxHeartbeats 4000000 in
set_option maxRecDepth 100000 in
theorem ct_X10_wipe {l : Launch} {g : Gh} {M0 : Mem} {a0 : Nat} {post : Mem → Prop}  (hq : wp_X10_wipe  g M0 a0 post) : Ct l g yX10_wipe cX10_wipe 1 none 0 0 0 [.ref a0] M0 (pV post) := by
  unfold wp_X10_wipe at hq
  obtain ⟨h0, hq⟩ := hq
  refine Ct.of (by decide) (Nat.le_of_ble_eq_true rfl) ?_
  intro p e s m below meth c ls C hr hlk hn hl hw
  have hx := C.1.1
  have hb := C.1.2.1
  have hl : lv_has ls 1 [(0, .ref a0)] := hl
  refine lv_aload_n hx hb dX10_wipe_0 rfl (lv_at hl 0 rfl) ?_
  refine lv_iconst (v := 0) hx hb dX10_wipe_1 (by decide) ?_
  refine pfX10_15 C hw hw.2.2.1 h0 dX10_wipe_2 (fun H locs hw => ?_)
  generalize e2 : uI M0 a0 1 0 = M1 at hw
  replace hq := hq M1 e2.symm
  exact r_vret C hr hlk hw dX10_wipe_5 (Nat.le_refl _) (Nat.le_refl _) ⟨rfl, hq⟩

set_option maxRecDepth 100000 in
def lb_X11_init_73  (g : Gh) (M0 : Mem) (a0 : Nat) (post : Mem → Prop)    (M : Mem) : Prop :=
  ∀ M1, M1 = uI M a0 7 0 → (∀ q4 M5, q4 = mT M1 → M5 = nw M1 8 0 → (wp_X8_init g M5 q4 (fun M10 => ∀ M12, M12 = uR M10 a0 8 (some q4) → (∀ q15 M16, q15 = mT M12 → M16 = nw M12 6 0 → (∃ q20, mR M16 a0 5 = some q20 ∧ (wp_X6_init g M16 q15 q20 (fun M23 => ∀ M25, M25 = uR M23 a0 9 (some q15) → (∀ q28 M29, q28 = mT M25 → M29 = nw M25 5 0 → (wp_X5_init g M29 q28 (fun M34 => ∀ M36, M36 = uR M34 a0 10 (some q28) → (post M36)))))))))))
set_option maxRecDepth 100000 in
def wp_X11_init  (g : Gh) (M0 : Mem) (a0 : Nat) (post : Mem → Prop) : Prop :=
  okc (gB g) M0 a0 11 ∧ (∀ q40 M41, q40 = mT M0 → M41 = nw M0 10 0 → (wp_X10_init g M41 q40 (fun M46 => ∀ M48, M48 = uR M46 a0 0 (some q40) → (∀ q51 M52, q51 = mT M48 → M52 = nw M48 2 0 → (wp_X2_init g M52 q51 (fun M57 => ∀ M59, M59 = uR M57 a0 1 (some q51) → (∀ q62 M63, q62 = mT M59 → M63 = nw M59 7 0 → (wp_X7_init g M63 q62 (fun M68 => ∀ M70, M70 = uR M68 a0 2 (some q62) → (∀ q73 M74, q73 = mT M70 → M74 = nw M70 20 60 → (∀ M78, M78 = uR M74 a0 3 (some q73) → (∀ M80, M80 = uI M78 a0 4 0 → (∀ q83 M84, q83 = mT M80 → M84 = nw M80 4 0 → (wp_X4_init g M84 q83 (fun M89 => ∀ M91, M91 = uR M89 a0 5 (some q83) → (∀ q94 M95, q94 = mT M91 → M95 = nw M91 4 0 → (wp_X4_init g M95 q94 (fun M100 => ∀ M102, M102 = uR M100 a0 6 (some q94) → (lb_X11_init_73  g M0 a0 post   M102)))))))))))))))))))
set_option maxHeartbeats 4000000 in
set_option maxRecDepth 100000 in
theorem lt_X11_init_73 {l : Launch} {g : Gh} {p : Program} {e : Env} {s : State} {m : MethodId} {args : Array Value} {below : List Frame} {meth : Method} {c : Code} {H : Heap} {locs : List Loc} {ls : Array Slot} {M0 M : Mem} {a0 : Nat} {post : Mem → Prop}    (C : Cx g p s m args c cX11_init 1 RX11) (hr : meth.sig.returnType = none) (hlk : meth.locks = false) (hn : meth.name = "<init>") (h0 : okc (gB g) M0 a0 11)  (hq : lb_X11_init_73  g M0 a0 post   M) (hw : Wd g s M0 M H locs) (hl : lv_has ls 1 [(0, .ref a0)]) : W p l e (rmo 3 194 3522) s m args below meth c H locs 60 2367 (MQ below (Cq g M0 (pV post)) args s 194 3522 (gA g)) (F0 m 73 ls []) := by
  have hx := C.1.1
  have hb := C.1.2.1
  unfold lb_X11_init_73 at hq
  have h00 := h0
  replace h0 := h0.up hw.2.2.1
  refine lv_aload_n hx hb dX11_init_73 rfl (lv_at hl 0 rfl) ?_
  refine lv_iconst (v := 0) hx hb dX11_init_74 (by decide) ?_
  refine pfX11_50 C hw (mle_rf _) h0 dX11_init_75 (fun H locs hw => ?_)
  generalize e2 : uI M a0 7 0 = M1 at hw
  replace hq := hq M1 e2.symm
  have h0 : okc (gB g) M1 a0 11 := by rw [← e2]; exact okc_uI h0
  refine lv_aload_n hx hb dX11_init_78 rfl (lv_at hl 0 rfl) ?_
  have hB := hw.B C.2.2.2.2.2
  have h3 : 60 + 1 ≤ 194 ∧ 2367 + 15 ≤ 3522 := by decide
  refine r_new tyX8 (T := TX8) (N := 15) (ci := 8) C hw rfl (by decide) inX8 tyX8_ok w_206 w_207 w_7 df_8 h3.1 h3.2 dX11_init_79 (fun H hw => ?_)
  have h8 := okc_nw (gB g) M1 8 0 hB
  have h0 := h0.up (mle_nw M1 8 0)
  generalize e6 : nw M1 8 0 = M5 at hw h8 h0
  generalize e7 : mT M1 = q4 at h8 ⊢
  replace hq := hq q4 M5 e7.symm e6.symm
  refine lv_dup hx hb dX11_init_82 rfl ?_
  have h11 : 61 + 5 ≤ 194 ∧ 2382 + 236 ≤ 3522 := by decide
  refine r_callI (index := 55) (n := 0) (d2 := 1) (mc := 5) (ms := 236) (As := []) (rest := [.ref q4, .ref a0]) C hw (ct_X8_init hq) kiX11_55 ⟨by decide, by decide⟩ ⟨h11.1, h11.2⟩ rfl hl.1 rfl (Nat.le_of_ble_eq_true rfl) dX11_init_83 (fun r M10 H locs hp hle hw => ?_)
  obtain ⟨rfl, hq⟩ := hp
  have h0 := h0.up hle
  have h8 := h8.up hle
  refine W.eq (g2 := F0 m 86 ls [.ref q4, .ref a0]) rfl ?_
  refine pfX11_56 (v := (some q4)) C hw (mle_rf _) h0 hn dX11_init_86 (fun H locs hw => ?_)
  generalize e13 : uR M10 a0 8 (some q4) = M12 at hw
  replace hq := hq M12 e13.symm
  have h0 : okc (gB g) M12 a0 11 := by rw [← e13]; exact okc_uR h0
  refine lv_aload_n hx hb dX11_init_89 rfl (lv_at hl 0 rfl) ?_
  have hB := hw.B C.2.2.2.2.2
  have h14 : 66 + 1 ≤ 194 ∧ 2618 + 9 ≤ 3522 := by decide
  refine r_new tyX6 (T := TX6) (N := 9) (ci := 6) C hw rfl (by decide) inX6 tyX6_ok w_262 w_263 w_8 df_6 h14.1 h14.2 dX11_init_90 (fun H hw => ?_)
  have h19 := okc_nw (gB g) M12 6 0 hB
  have h0 := h0.up (mle_nw M12 6 0)
  generalize e17 : nw M12 6 0 = M16 at hw h19 h0
  generalize e18 : mT M12 = q15 at h19 ⊢
  replace hq := hq q15 M16 e18.symm e17.symm
  refine lv_dup hx hb dX11_init_93 rfl ?_
  refine lv_aload_n hx hb dX11_init_94 rfl (lv_at hl 0 rfl) ?_
  obtain ⟨q20, e21, hq⟩ := hq
  refine gfX11_43 C hw (mle_rf _) h0 e21 dX11_init_95 ?_
  have h24 : 67 + 122 ≤ 194 ∧ 2627 + 842 ≤ 3522 := by decide
  refine r_callI (index := 62) (n := 1) (d2 := 2) (mc := 122) (ms := 842) (As := [.ref q20]) (rest := [.ref q15, .ref a0]) C hw (ct_X6_init hq) kiX11_62 ⟨by decide, by decide⟩ ⟨h24.1, h24.2⟩ rfl hl.1 rfl (Nat.le_of_ble_eq_true rfl) dX11_init_98 (fun r M23 H locs hp hle hw => ?_)
  obtain ⟨rfl, hq⟩ := hp
  have h0 := h0.up hle
  have h19 := h19.up hle
  refine W.eq (g2 := F0 m 101 ls [.ref q15, .ref a0]) rfl ?_
  refine pfX11_65 (v := (some q15)) C hw (mle_rf _) h0 hn dX11_init_101 (fun H locs hw => ?_)
  generalize e26 : uR M23 a0 9 (some q15) = M25 at hw
  replace hq := hq M25 e26.symm
  have h0 : okc (gB g) M25 a0 11 := by rw [← e26]; exact okc_uR h0
  refine lv_aload_n hx hb dX11_init_104 rfl (lv_at hl 0 rfl) ?_
  have hB := hw.B C.2.2.2.2.2
  have h27 : 189 + 1 ≤ 194 ∧ 3469 + 5 ≤ 3522 := by decide
  refine r_new tyX5 (T := TX5) (N := 5) (ci := 5) C hw rfl (by decide) inX5 tyX5_ok w_330 w_331 w_10 df_5 h27.1 h27.2 dX11_init_105 (fun H hw => ?_)
  have h32 := okc_nw (gB g) M25 5 0 hB
  have h0 := h0.up (mle_nw M25 5 0)
  generalize e30 : nw M25 5 0 = M29 at hw h32 h0
  generalize e31 : mT M25 = q28 at h32 ⊢
  replace hq := hq q28 M29 e31.symm e30.symm
  refine lv_dup hx hb dX11_init_108 rfl ?_
  have h35 : 190 + 4 ≤ 194 ∧ 3474 + 48 ≤ 3522 := by decide
  refine r_callI (index := 71) (n := 0) (d2 := 1) (mc := 4) (ms := 48) (As := []) (rest := [.ref q28, .ref a0]) C hw (ct_X5_init hq) kiX11_71 ⟨by decide, by decide⟩ ⟨h35.1, h35.2⟩ rfl hl.1 rfl (Nat.le_of_ble_eq_true rfl) dX11_init_109 (fun r M34 H locs hp hle hw => ?_)
  obtain ⟨rfl, hq⟩ := hp
  have h0 := h0.up hle
  have h32 := h32.up hle
  refine W.eq (g2 := F0 m 112 ls [.ref q28, .ref a0]) rfl ?_
  refine pfX11_72 (v := (some q28)) C hw (mle_rf _) h0 hn dX11_init_112 (fun H locs hw => ?_)
  generalize e37 : uR M34 a0 10 (some q28) = M36 at hw
  replace hq := hq M36 e37.symm
  have h0 : okc (gB g) M36 a0 11 := by rw [← e37]; exact okc_uR h0
  have h38 : 194 ≤ 194 ∧ 3522 ≤ 3522 := by decide
  exact r_vret C hr hlk hw dX11_init_115 h38.1 h38.2 ⟨rfl, hq⟩
set_option maxHeartbeats 4000000 in
set_option maxRecDepth 100000 in
theorem ct_X11_init {l : Launch} {g : Gh} {M0 : Mem} {a0 : Nat} {post : Mem → Prop}  (hq : wp_X11_init  g M0 a0 post) : Ct l g yX11_init cX11_init 1 none 3 194 3522 [.ref a0] M0 (pV post) := by
  unfold wp_X11_init at hq
  obtain ⟨h0, hq⟩ := hq
  have h00 := h0
  refine Ct.of (by decide) (Nat.le_of_ble_eq_true rfl) ?_
  intro p e s m below meth c ls C hr hlk hn hl hw
  have hx := C.1.1
  have hb := C.1.2.1
  have hl : lv_has ls 1 [(0, .ref a0)] := hl
  refine lv_aload_n hx hb dX11_init_0 rfl (lv_at hl 0 rfl) ?_
  refine W.objInit hx hb C.1.2.2.2.1 (C.1.2.2.2.2 _ w_34) (C.1.2.2.2.2 _ w_35) (C.1.2.2.2.2 _ w_objInit) rfl (by rw [C.1.2.2.1]; exact hl.1) rfl dX11_init_1 (Nat.le_of_ble_eq_true rfl) (Nat.le_of_ble_eq_true rfl) ?_
  refine W.eq (g2 := F0 m 4 ls []) rfl ?_
  refine lv_aload_n hx hb dX11_init_4 rfl (lv_at hl 0 rfl) ?_
  have hB := hw.B C.2.2.2.2.2
  have h39 : 0 + 1 ≤ 194 ∧ 0 + 6 ≤ 3522 := by decide
  refine r_new tyX10 (T := TX10) (N := 6) (ci := 10) C hw rfl (by decide) inX10 tyX10_ok w_37 w_38 w_2 df_10 h39.1 h39.2 dX11_init_5 (fun H hw => ?_)
  have h44 := okc_nw (gB g) M0 10 0 hB
  have h0 := h0.up (mle_nw M0 10 0)
  generalize e42 : nw M0 10 0 = M41 at hw h44 h0
  generalize e43 : mT M0 = q40 at h44 ⊢
  replace hq := hq q40 M41 e43.symm e42.symm
  refine lv_dup hx hb dX11_init_8 rfl ?_
  have h47 : 1 + 1 ≤ 194 ∧ 6 + 260 ≤ 3522 := by decide
  refine r_callI (index := 9) (n := 0) (d2 := 1) (mc := 1) (ms := 260) (As := []) (rest := [.ref q40, .ref a0]) C hw (ct_X10_init hq) kiX11_9 ⟨by decide, by decide⟩ ⟨h47.1, h47.2⟩ rfl hl.1 rfl (Nat.le_of_ble_eq_true rfl) dX11_init_9 (fun r M46 H locs hp hle hw => ?_)
  obtain ⟨rfl, hq⟩ := hp
  have h0 := h0.up hle
  have h44 := h44.up hle
  refine W.eq (g2 := F0 m 12 ls [.ref q40, .ref a0]) rfl ?_
  refine pfX11_10 (v := (some q40)) C hw (mle_rf _) h0 hn dX11_init_12 (fun H locs hw => ?_)
  generalize e49 : uR M46 a0 0 (some q40) = M48 at hw
  replace hq := hq M48 e49.symm
  have h0 : okc (gB g) M48 a0 11 := by rw [← e49]; exact okc_uR h0
  refine lv_aload_n hx hb dX11_init_15 rfl (lv_at hl 0 rfl) ?_
  have hB := hw.B C.2.2.2.2.2
  have h50 : 2 + 1 ≤ 194 ∧ 266 + 10 ≤ 3522 := by decide
  refine r_new tyX2 (T := TX2) (N := 10) (ci := 2) C hw rfl (by decide) inX2 tyX2_ok w_72 w_73 w_3 df_2 h50.1 h50.2 dX11_init_16 (fun H hw => ?_)
  have h55 := okc_nw (gB g) M48 2 0 hB
  have h0 := h0.up (mle_nw M48 2 0)
  generalize e53 : nw M48 2 0 = M52 at hw h55 h0
  generalize e54 : mT M48 = q51 at h55 ⊢
  replace hq := hq q51 M52 e54.symm e53.symm
  refine lv_dup hx hb dX11_init_19 rfl ?_
  have h58 : 3 + 5 ≤ 194 ∧ 276 + 612 ≤ 3522 := by decide
  refine r_callI (index := 18) (n := 0) (d2 := 1) (mc := 5) (ms := 612) (As := []) (rest := [.ref q51, .ref a0]) C hw (ct_X2_init hq) kiX11_18 ⟨by decide, by decide⟩ ⟨h58.1, h58.2⟩ rfl hl.1 rfl (Nat.le_of_ble_eq_true rfl) dX11_init_20 (fun r M57 H locs hp hle hw => ?_)
  obtain ⟨rfl, hq⟩ := hp
  have h0 := h0.up hle
  have h55 := h55.up hle
  refine W.eq (g2 := F0 m 23 ls [.ref q51, .ref a0]) rfl ?_
  refine pfX11_19 (v := (some q51)) C hw (mle_rf _) h0 hn dX11_init_23 (fun H locs hw => ?_)
  generalize e60 : uR M57 a0 1 (some q51) = M59 at hw
  replace hq := hq M59 e60.symm
  have h0 : okc (gB g) M59 a0 11 := by rw [← e60]; exact okc_uR h0
  refine lv_aload_n hx hb dX11_init_26 rfl (lv_at hl 0 rfl) ?_
  have hB := hw.B C.2.2.2.2.2
  have h61 : 8 + 1 ≤ 194 ∧ 888 + 5 ≤ 3522 := by decide
  refine r_new tyX7 (T := TX7) (N := 5) (ci := 7) C hw rfl (by decide) inX7 tyX7_ok w_114 w_115 w_4 df_7 h61.1 h61.2 dX11_init_27 (fun H hw => ?_)
  have h66 := okc_nw (gB g) M59 7 0 hB
  have h0 := h0.up (mle_nw M59 7 0)
  generalize e64 : nw M59 7 0 = M63 at hw h66 h0
  generalize e65 : mT M59 = q62 at h66 ⊢
  replace hq := hq q62 M63 e65.symm e64.symm
  refine lv_dup hx hb dX11_init_30 rfl ?_
  have h69 : 9 + 38 ≤ 194 ∧ 893 + 1336 ≤ 3522 := by decide
  refine r_callI (index := 25) (n := 0) (d2 := 2) (mc := 38) (ms := 1336) (As := []) (rest := [.ref q62, .ref a0]) C hw (ct_X7_init hq) kiX11_25 ⟨by decide, by decide⟩ ⟨h69.1, h69.2⟩ rfl hl.1 rfl (Nat.le_of_ble_eq_true rfl) dX11_init_31 (fun r M68 H locs hp hle hw => ?_)
  obtain ⟨rfl, hq⟩ := hp
  have h0 := h0.up hle
  have h66 := h66.up hle
  refine W.eq (g2 := F0 m 34 ls [.ref q62, .ref a0]) rfl ?_
  refine pfX11_26 (v := (some q62)) C hw (mle_rf _) h0 hn dX11_init_34 (fun H locs hw => ?_)
  generalize e71 : uR M68 a0 2 (some q62) = M70 at hw
  replace hq := hq M70 e71.symm
  have h0 : okc (gB g) M70 a0 11 := by rw [← e71]; exact okc_uR h0
  refine lv_aload_n hx hb dX11_init_37 rfl (lv_at hl 0 rfl) ?_
  refine lv_bipush (v := 60) hx hb dX11_init_38 (by decide) ?_
  have hB := hw.B C.2.2.2.2.2
  have h72 : 47 + 1 ≤ 194 ∧ 2229 + 60 ≤ 3522 := by decide
  refine r_newq (kd := 20) (N' := 60) C hw w_160 C.2.2.2.1.2.2 rfl (by decide) (by decide) (by decide) (by decide) (by decide) h72.1 h72.2 dX11_init_40 (fun H hw => ?_)
  have h77 := okc_nw (gB g) M70 20 60 hB
  have h0 := h0.up (mle_nw M70 20 60)
  generalize e75 : nw M70 20 60 = M74 at hw h77 h0
  generalize e76 : mT M70 = q73 at h77 ⊢
  replace hq := hq q73 M74 e76.symm e75.symm
  refine pfX11_32 (v := (some q73)) C hw (mle_rf _) h0 hn dX11_init_43 (fun H locs hw => ?_)
  generalize e79 : uR M74 a0 3 (some q73) = M78 at hw
  replace hq := hq M78 e79.symm
  have h0 : okc (gB g) M78 a0 11 := by rw [← e79]; exact okc_uR h0
  refine lv_aload_n hx hb dX11_init_46 rfl (lv_at hl 0 rfl) ?_
  refine lv_iconst (v := 0) hx hb dX11_init_47 (by decide) ?_
  refine pfX11_36 C hw (mle_rf _) h0 dX11_init_48 (fun H locs hw => ?_)
  generalize e81 : uI M78 a0 4 0 = M80 at hw
  replace hq := hq M80 e81.symm
  have h0 : okc (gB g) M80 a0 11 := by rw [← e81]; exact okc_uI h0
  refine lv_aload_n hx hb dX11_init_51 rfl (lv_at hl 0 rfl) ?_
  have hB := hw.B C.2.2.2.2.2
  have h82 : 48 + 1 ≤ 194 ∧ 2289 + 9 ≤ 3522 := by decide
  refine r_new tyX4 (T := TX4) (N := 9) (ci := 4) C hw rfl (by decide) inX4 tyX4_ok w_162 w_163 w_6 df_4 h82.1 h82.2 dX11_init_52 (fun H hw => ?_)
  have h87 := okc_nw (gB g) M80 4 0 hB
  have h0 := h0.up (mle_nw M80 4 0)
  generalize e85 : nw M80 4 0 = M84 at hw h87 h0
  generalize e86 : mT M80 = q83 at h87 ⊢
  replace hq := hq q83 M84 e86.symm e85.symm
  refine lv_dup hx hb dX11_init_55 rfl ?_
  have h90 : 49 + 5 ≤ 194 ∧ 2298 + 30 ≤ 3522 := by decide
  refine r_callI (index := 42) (n := 0) (d2 := 1) (mc := 5) (ms := 30) (As := []) (rest := [.ref q83, .ref a0]) C hw (ct_X4_init hq) kiX11_42 ⟨by decide, by decide⟩ ⟨h90.1, h90.2⟩ rfl hl.1 rfl (Nat.le_of_ble_eq_true rfl) dX11_init_56 (fun r M89 H locs hp hle hw => ?_)
  obtain ⟨rfl, hq⟩ := hp
  have h0 := h0.up hle
  have h87 := h87.up hle
  refine W.eq (g2 := F0 m 59 ls [.ref q83, .ref a0]) rfl ?_
  refine pfX11_43 (v := (some q83)) C hw (mle_rf _) h0 dX11_init_59 (fun H locs hw => ?_)
  generalize e92 : uR M89 a0 5 (some q83) = M91 at hw
  replace hq := hq M91 e92.symm
  have h0 : okc (gB g) M91 a0 11 := by rw [← e92]; exact okc_uR h0
  refine lv_aload_n hx hb dX11_init_62 rfl (lv_at hl 0 rfl) ?_
  have hB := hw.B C.2.2.2.2.2
  have h93 : 54 + 1 ≤ 194 ∧ 2328 + 9 ≤ 3522 := by decide
  refine r_new tyX4 (T := TX4) (N := 9) (ci := 4) C hw rfl (by decide) inX4 tyX4_ok w_162 w_163 w_6 df_4 h93.1 h93.2 dX11_init_63 (fun H hw => ?_)
  have h98 := okc_nw (gB g) M91 4 0 hB
  have h0 := h0.up (mle_nw M91 4 0)
  generalize e96 : nw M91 4 0 = M95 at hw h98 h0
  generalize e97 : mT M91 = q94 at h98 ⊢
  replace hq := hq q94 M95 e97.symm e96.symm
  refine lv_dup hx hb dX11_init_66 rfl ?_
  have h101 : 55 + 5 ≤ 194 ∧ 2337 + 30 ≤ 3522 := by decide
  refine r_callI (index := 42) (n := 0) (d2 := 1) (mc := 5) (ms := 30) (As := []) (rest := [.ref q94, .ref a0]) C hw (ct_X4_init hq) kiX11_42 ⟨by decide, by decide⟩ ⟨h101.1, h101.2⟩ rfl hl.1 rfl (Nat.le_of_ble_eq_true rfl) dX11_init_67 (fun r M100 H locs hp hle hw => ?_)
  obtain ⟨rfl, hq⟩ := hp
  have h0 := h0.up hle
  have h98 := h98.up hle
  refine W.eq (g2 := F0 m 70 ls [.ref q94, .ref a0]) rfl ?_
  refine pfX11_47 (v := (some q94)) C hw (mle_rf _) h0 dX11_init_70 (fun H locs hw => ?_)
  generalize e103 : uR M100 a0 6 (some q94) = M102 at hw
  replace hq := hq M102 e103.symm
  have h0 : okc (gB g) M102 a0 11 := by rw [← e103]; exact okc_uR h0
  exact lt_X11_init_73  C hr hlk hn h00  hq hw (lv_sub hl [0] rfl)

set_option maxRecDepth 100000 in
def wp_X11_feed  (g : Gh) (M0 : Mem) (a0 : Nat) (p1 : Int32) (p2 : Int32) (p3 : Int32) (p4 : Int32) (p5 : Int32) (post : Int32 → Mem → Prop) : Prop :=
  okc (gB g) M0 a0 11 ∧ (∃ q1, mR M0 a0 0 = some q1 ∧ (wp_X10_hasRoomFor g M0 q1 20 (fun v3 M4 => ((v3 = 0) → post (-1) M4) ∧ (¬ (v3 = 0) → ∃ q6, mR M4 a0 0 = some q6 ∧ (wp_X10_addNumber g M4 q6 p1 (fun M9 => ∃ q10, mR M9 a0 0 = some q10 ∧ (wp_X10_addNumber g M9 q10 p2 (fun M13 => ∃ q14, mR M13 a0 0 = some q14 ∧ (wp_X10_addNumber g M13 q14 p3 (fun M17 => ∃ q18, mR M17 a0 0 = some q18 ∧ (wp_X10_addNumber g M17 q18 p4 (fun M21 => ∃ q22, mR M21 a0 0 = some q22 ∧ (wp_X10_addNumber g M21 q22 p5 (fun M25 => ∃ q26, mR M25 a0 0 = some q26 ∧ (okc (gB g) M0 q26 10 ∧ (post (mI M25 q26 1) M25))))))))))))))))
set_option maxHeartbeats 4000000 in
set_option maxRecDepth 100000 in
theorem ct_X11_feed {l : Launch} {g : Gh} {M0 : Mem} {a0 : Nat} {p1 : Int32} {p2 : Int32} {p3 : Int32} {p4 : Int32} {p5 : Int32} {post : Int32 → Mem → Prop}  (hq : wp_X11_feed  g M0 a0 p1 p2 p3 p4 p5 post) : Ct l g yX11_feed cX11_feed 6 (some .int) 1 0 0 [.ref a0, .int p1, .int p2, .int p3, .int p4, .int p5] M0 (pI post) := by
  unfold wp_X11_feed at hq
  obtain ⟨h0, hq⟩ := hq
  refine Ct.of (by decide) (Nat.le_of_ble_eq_true rfl) ?_
  intro p e s m below meth c ls C hr hlk hn hl hw
  have hx := C.1.1
  have hb := C.1.2.1
  have hl : lv_has ls 6 [(0, .ref a0), (1, .int p1), (2, .int p2), (3, .int p3), (4, .int p4), (5, .int p5)] := hl
  refine lv_aload_n hx hb dX11_feed_0 rfl (lv_at hl 0 rfl) ?_
  obtain ⟨q1, e2, hq⟩ := hq
  refine gfX11_10 C hw hw.2.2.1 h0 e2 dX11_feed_1 ?_
  refine lv_bipush (v := 20) hx hb dX11_feed_4 (by decide) ?_
  refine r_callV (T := TX10) (N := 6) (ci := 10) (index := 76) (n := 1) (d2 := 0) (mc := 0) (ms := 0) (As := [.int 20]) (rest := []) C hw (ct_X10_hasRoomFor hq) kvX11_76 hq.1 (by decide) rfl ⟨by decide, by decide⟩ ⟨by decide, by decide⟩ rfl hl.1 rfl (Nat.le_of_ble_eq_true rfl) dX11_feed_6 (fun r M4 H locs hp hle hw => ?_)
  obtain ⟨v3, rfl, hq⟩ := hp
  refine W.eq (g2 := F0 m 9 ls [.int v3]) rfl ?_
  refine lv_if_ne (tgt := 14) hx hb dX11_feed_9 (by decide) (fun c5 => ?_) (fun c5 => ?_)
  · replace hq := hq.2 c5
    refine lv_aload_n hx hb dX11_feed_14 rfl (lv_at hl 0 rfl) ?_
    obtain ⟨q6, e7, hq⟩ := hq
    refine gfX11_10 C hw hw.2.2.1 h0 e7 dX11_feed_15 ?_
    refine lv_iload_n hx hb dX11_feed_18 rfl (lv_at hl 1 rfl) ?_
    refine r_callV (T := TX10) (N := 6) (ci := 10) (index := 80) (n := 1) (d2 := 0) (mc := 0) (ms := 0) (As := [.int p1]) (rest := []) C hw (ct_X10_addNumber hq) kvX11_80 hq.1 (by decide) rfl ⟨by decide, by decide⟩ ⟨by decide, by decide⟩ rfl hl.1 rfl (Nat.le_of_ble_eq_true rfl) dX11_feed_19 (fun r M9 H locs hp hle hw => ?_)
    obtain ⟨rfl, hq⟩ := hp
    refine W.eq (g2 := F0 m 22 ls []) rfl ?_
    refine lv_aload_n hx hb dX11_feed_22 rfl (lv_at hl 0 rfl) ?_
    obtain ⟨q10, e11, hq⟩ := hq
    refine gfX11_10 C hw hw.2.2.1 h0 e11 dX11_feed_23 ?_
    refine lv_iload_n hx hb dX11_feed_26 rfl (lv_at hl 2 rfl) ?_
    refine r_callV (T := TX10) (N := 6) (ci := 10) (index := 80) (n := 1) (d2 := 0) (mc := 0) (ms := 0) (As := [.int p2]) (rest := []) C hw (ct_X10_addNumber hq) kvX11_80 hq.1 (by decide) rfl ⟨by decide, by decide⟩ ⟨by decide, by decide⟩ rfl hl.1 rfl (Nat.le_of_ble_eq_true rfl) dX11_feed_27 (fun r M13 H locs hp hle hw => ?_)
    obtain ⟨rfl, hq⟩ := hp
    refine W.eq (g2 := F0 m 30 ls []) rfl ?_
    refine lv_aload_n hx hb dX11_feed_30 rfl (lv_at hl 0 rfl) ?_
    obtain ⟨q14, e15, hq⟩ := hq
    refine gfX11_10 C hw hw.2.2.1 h0 e15 dX11_feed_31 ?_
    refine lv_iload_n hx hb dX11_feed_34 rfl (lv_at hl 3 rfl) ?_
    refine r_callV (T := TX10) (N := 6) (ci := 10) (index := 80) (n := 1) (d2 := 0) (mc := 0) (ms := 0) (As := [.int p3]) (rest := []) C hw (ct_X10_addNumber hq) kvX11_80 hq.1 (by decide) rfl ⟨by decide, by decide⟩ ⟨by decide, by decide⟩ rfl hl.1 rfl (Nat.le_of_ble_eq_true rfl) dX11_feed_35 (fun r M17 H locs hp hle hw => ?_)
    obtain ⟨rfl, hq⟩ := hp
    refine W.eq (g2 := F0 m 38 ls []) rfl ?_
    refine lv_aload_n hx hb dX11_feed_38 rfl (lv_at hl 0 rfl) ?_
    obtain ⟨q18, e19, hq⟩ := hq
    refine gfX11_10 C hw hw.2.2.1 h0 e19 dX11_feed_39 ?_
    refine lv_iload hx hb dX11_feed_42 (lv_at hl 4 rfl) ?_
    refine r_callV (T := TX10) (N := 6) (ci := 10) (index := 80) (n := 1) (d2 := 0) (mc := 0) (ms := 0) (As := [.int p4]) (rest := []) C hw (ct_X10_addNumber hq) kvX11_80 hq.1 (by decide) rfl ⟨by decide, by decide⟩ ⟨by decide, by decide⟩ rfl hl.1 rfl (Nat.le_of_ble_eq_true rfl) dX11_feed_44 (fun r M21 H locs hp hle hw => ?_)
    obtain ⟨rfl, hq⟩ := hp
    refine W.eq (g2 := F0 m 47 ls []) rfl ?_
    refine lv_aload_n hx hb dX11_feed_47 rfl (lv_at hl 0 rfl) ?_
    obtain ⟨q22, e23, hq⟩ := hq
    refine gfX11_10 C hw hw.2.2.1 h0 e23 dX11_feed_48 ?_
    refine lv_iload hx hb dX11_feed_51 (lv_at hl 5 rfl) ?_
    refine r_callV (T := TX10) (N := 6) (ci := 10) (index := 80) (n := 1) (d2 := 0) (mc := 0) (ms := 0) (As := [.int p5]) (rest := []) C hw (ct_X10_addNumber hq) kvX11_80 hq.1 (by decide) rfl ⟨by decide, by decide⟩ ⟨by decide, by decide⟩ rfl hl.1 rfl (Nat.le_of_ble_eq_true rfl) dX11_feed_53 (fun r M25 H locs hp hle hw => ?_)
    obtain ⟨rfl, hq⟩ := hp
    refine W.eq (g2 := F0 m 56 ls []) rfl ?_
    refine lv_aload_n hx hb dX11_feed_56 rfl (lv_at hl 0 rfl) ?_
    obtain ⟨q26, e27, hq⟩ := hq
    refine gfX11_10 C hw hw.2.2.1 h0 e27 dX11_feed_57 ?_
    obtain ⟨h28, hq⟩ := hq
    refine gfX11_84 C hw hw.2.2.1 h28 dX11_feed_60 ?_
    exact r_iret C hr hlk hw dX11_feed_63 (Nat.le_refl _) (Nat.le_refl _) ⟨_, rfl, hq⟩
  · replace hq := hq.1 c5
    refine lv_iconst (v := (-1)) hx hb dX11_feed_12 (by decide) ?_
    exact r_iret C hr hlk hw dX11_feed_13 (Nat.le_refl _) (Nat.le_refl _) ⟨_, rfl, hq⟩

set_option maxRecDepth 100000 in
def wp_X11_end  (g : Gh) (M0 : Mem) (a0 : Nat) (p1 : Int32) (post : Int32 → Mem → Prop) : Prop :=
  okc (gB g) M0 a0 11 ∧ (∃ q1, mR M0 a0 0 = some q1 ∧ (wp_X10_cutTo g M0 q1 p1 (fun v3 M4 => (v3 = 0 ∨ v3 = 1) ∧ (post v3 M4))))
set_option maxHeartbeats 4000000 in
set_option maxRecDepth 100000 in
theorem ct_X11_end {l : Launch} {g : Gh} {M0 : Mem} {a0 : Nat} {p1 : Int32} {post : Int32 → Mem → Prop}  (hq : wp_X11_end  g M0 a0 p1 post) : Ct l g yX11_end cX11_end 2 (some .boolean) 1 0 0 [.ref a0, .int p1] M0 (pI post) := by
  unfold wp_X11_end at hq
  obtain ⟨h0, hq⟩ := hq
  refine Ct.of (by decide) (Nat.le_of_ble_eq_true rfl) ?_
  intro p e s m below meth c ls C hr hlk hn hl hw
  have hx := C.1.1
  have hb := C.1.2.1
  have hl : lv_has ls 2 [(0, .ref a0), (1, .int p1)] := hl
  refine lv_aload_n hx hb dX11_end_0 rfl (lv_at hl 0 rfl) ?_
  obtain ⟨q1, e2, hq⟩ := hq
  refine gfX11_10 C hw hw.2.2.1 h0 e2 dX11_end_1 ?_
  refine lv_iload_n hx hb dX11_end_4 rfl (lv_at hl 1 rfl) ?_
  refine r_callV (T := TX10) (N := 6) (ci := 10) (index := 87) (n := 1) (d2 := 0) (mc := 0) (ms := 0) (As := [.int p1]) (rest := []) C hw (ct_X10_cutTo hq) kvX11_87 hq.1 (by decide) rfl ⟨by decide, by decide⟩ ⟨by decide, by decide⟩ rfl hl.1 rfl (Nat.le_of_ble_eq_true rfl) dX11_end_5 (fun r M4 H locs hp hle hw => ?_)
  obtain ⟨v3, rfl, hq⟩ := hp
  refine W.eq (g2 := F0 m 8 ls [.int v3]) rfl ?_
  obtain ⟨h5, hq⟩ := hq
  exact r_zret C hr hlk hw dX11_end_8 (Nat.le_refl _) (Nat.le_refl _) h5 ⟨_, rfl, hq⟩
