set_option maxRecDepth 100000 in
def wp_J0_checkIndex_df160  (g : Gh) (M0 : Mem) (p0 : Int32) (p1 : Int32) (post : Mem → Prop) : Prop :=
  ∀ r1 : Option Nat, (wp_J3_checkIndex_8e157 g M0 p0 p1 r1 (fun v2 M3 => post M3))
set_option maxHeartbeats 4000000 in
set_option maxRecDepth 100000 in
theorem ct_J0_checkIndex_df160 {l : Launch} {g : Gh} {M0 : Mem} {p0 : Int32} {p1 : Int32} {post : Mem → Prop}  (hq : wp_J0_checkIndex_df160  g M0 p0 p1 post) : Ct l g yJ0_checkIndex_df160 cJ0_checkIndex_df160 2 none 1 0 0 [.int p0, .int p1] M0 (pV post) := by
  unfold wp_J0_checkIndex_df160 at hq
  refine Ct.of (by decide) (Nat.le_of_ble_eq_true rfl) ?_
  intro p e s m below meth c ls C hr hlk hn hl hw
  have hx := C.1.1
  have hb := C.1.2.1
  have hl : lv_has ls 2 [(0, .int p0), (1, .int p1)] := hl
  refine lv_iload_n hx hb dJ0_checkIndex_df160_0 rfl (lv_at hl 0 rfl) ?_
  refine lv_iload_n hx hb dJ0_checkIndex_df160_1 rfl (lv_at hl 1 rfl) ?_
  refine r_sfmt C hw w_510 dJ0_checkIndex_df160_2 (fun r1 => ?_)
  replace hq := hq r1
  refine r_callS (index := 1059) (n := 3) (d2 := 0) (mc := 0) (ms := 0) (As := [.int p0, .int p1, va_rf r1]) (rest := []) C hw (ct_J3_checkIndex_8e157 hq) ksJ0_1059 ⟨by decide, by decide⟩ ⟨by decide, by decide⟩ rfl hl.1 rfl (Nat.le_of_ble_eq_true rfl) dJ0_checkIndex_df160_5 (fun r M3 H locs hp hle hw => ?_)
  obtain ⟨v2, rfl, hq⟩ := hp
  refine W.eq (g2 := F0 m 8 ls [.int v2]) rfl ?_
  refine lv_pop hx hb dJ0_checkIndex_df160_8 rfl ?_
  exact r_vret C hr hlk hw dJ0_checkIndex_df160_9 (Nat.le_refl _) (Nat.le_refl _) ⟨rfl, hq⟩

set_option maxRecDepth 100000 in
def wp_J1_charAt_3b067  (g : Gh) (M0 : Mem) (i : Nat) (p1 : Int32) (post : Int32 → Mem → Prop) : Prop :=
  i < 14 ∧ (wp_J0_checkIndex_df160 g M0 p1 (nI (stl.getD i 0)) (fun M2 => vp_in p1 (stl.getD i 0) ∧ (post ((Int32.toUInt32 (((stb.getD i []).getD (Int32.toNatClampNeg p1) 0) &&& 255) % 65536).toInt32) M2)))
set_option maxHeartbeats 4000000 in
set_option maxRecDepth 100000 in
theorem ct_J1_charAt_3b067 {l : Launch} {g : Gh} {M0 : Mem} {i : Nat} {p1 : Int32} {post : Int32 → Mem → Prop}  (hq : wp_J1_charAt_3b067  g M0 i p1 post) : Ct l g yJ1_charAt_3b067 cJ1_charAt_3b067 2 (some .char) 2 0 0 [.ref (gV g i), .int p1] M0 (pI post) := by
  unfold wp_J1_charAt_3b067 at hq
  obtain ⟨h0, hq⟩ := hq
  refine Ct.of (by decide) (Nat.le_of_ble_eq_true rfl) ?_
  intro p e s m below meth c ls C hr hlk hn hl hw
  have hx := C.1.1
  have hb := C.1.2.1
  have hl : lv_has ls 2 [(0, .ref (gV g i)), (1, .int p1)] := hl
  refine lv_iload_n hx hb dJ1_charAt_3b067_0 rfl (lv_at hl 1 rfl) ?_
  refine lv_aload_n hx hb dJ1_charAt_3b067_1 rfl (lv_at hl 0 rfl) ?_
  refine r_slen C hw h0 dJ1_charAt_3b067_2 ?_
  refine r_callS (index := 9) (n := 2) (d2 := 1) (mc := 0) (ms := 0) (As := [.int p1, .int (nI (stl.getD i 0))]) (rest := []) C hw (ct_J0_checkIndex_df160 hq) ksJ1_9 ⟨by decide, by decide⟩ ⟨by decide, by decide⟩ rfl hl.1 rfl (Nat.le_of_ble_eq_true rfl) dJ1_charAt_3b067_3 (fun r M2 H locs hp hle hw => ?_)
  obtain ⟨rfl, hq⟩ := hp
  refine W.eq (g2 := F0 m 6 ls []) rfl ?_
  refine lv_aload_n hx hb dJ1_charAt_3b067_6 rfl (lv_at hl 0 rfl) ?_
  refine lv_iload_n hx hb dJ1_charAt_3b067_7 rfl (lv_at hl 1 rfl) ?_
  obtain ⟨h3, hq⟩ := hq
  refine r_sbal C hw h0 h3 dJ1_charAt_3b067_8 ?_
  refine lv_sipush (v := 255) hx hb dJ1_charAt_3b067_9 (by decide) ?_
  refine lv_iand hx hb dJ1_charAt_3b067_12 ?_
  refine lv_i2c (v := ((Int32.toUInt32 (((stb.getD i []).getD (Int32.toNatClampNeg p1) 0) &&& 255) % 65536).toInt32)) hx hb dJ1_charAt_3b067_13 rfl ?_
  exact r_nret C hr hlk hw dJ1_charAt_3b067_14 (Nat.le_refl _) (Nat.le_refl _) (pk_nc _) ⟨_, rfl, hq⟩

set_option maxRecDepth 100000 in
def wp_J0_charAt_5068e  (g : Gh) (M0 : Mem) (i : Nat) (p1 : Int32) (post : Int32 → Mem → Prop) : Prop :=
  i < 14 ∧ (wp_J0_isLatin1_aae02 g M0 i (fun v1 M2 => ((v1 = 0) → False) ∧ (¬ (v1 = 0) → wp_J1_charAt_3b067 g M2 i p1 (fun v4 M5 => (narrow .char (.int v4) = .int v4) ∧ (post v4 M5)))))
set_option maxHeartbeats 4000000 in
set_option maxRecDepth 100000 in
theorem ct_J0_charAt_5068e {l : Launch} {g : Gh} {M0 : Mem} {i : Nat} {p1 : Int32} {post : Int32 → Mem → Prop}  (hq : wp_J0_charAt_5068e  g M0 i p1 post) : Ct l g yJ0_charAt_5068e cJ0_charAt_5068e 2 (some .char) 4 0 0 [.ref (gK g i), .int p1] M0 (pI post) := by
  unfold wp_J0_charAt_5068e at hq
  obtain ⟨h0, hq⟩ := hq
  refine Ct.of (by decide) (Nat.le_of_ble_eq_true rfl) ?_
  intro p e s m below meth c ls C hr hlk hn hl hw
  have hx := C.1.1
  have hb := C.1.2.1
  have hl : lv_has ls 2 [(0, .ref (gK g i)), (1, .int p1)] := hl
  refine lv_aload_n hx hb dJ0_charAt_5068e_0 rfl (lv_at hl 0 rfl) ?_
  refine r_callT (index := 492) (n := 0) (d2 := 0) (mc := 0) (ms := 0) (As := []) (rest := []) C hw (ct_J0_isLatin1_aae02 hq) kvJ0_492 hq.1 ⟨by decide, by decide⟩ ⟨by decide, by decide⟩ rfl hl.1 rfl (Nat.le_of_ble_eq_true rfl) dJ0_charAt_5068e_1 (fun r M2 H locs hp hle hw => ?_)
  obtain ⟨v1, rfl, hq⟩ := hp
  refine W.eq (g2 := F0 m 4 ls [.int v1]) rfl ?_
  refine lv_if_eq (tgt := 16) hx hb dJ0_charAt_5068e_4 (by decide) (fun c3 => ?_) (fun c3 => ?_)
  · replace hq := hq.1 c3
    refine lv_aload_n hx hb dJ0_charAt_5068e_16 rfl (lv_at hl 0 rfl) ?_
    refine r_sval C hw h0 w_1609 dJ0_charAt_5068e_17 ?_
    refine lv_iload_n hx hb dJ0_charAt_5068e_20 rfl (lv_at hl 1 rfl) ?_
    exact hq.elim
  · replace hq := hq.2 c3
    refine lv_aload_n hx hb dJ0_charAt_5068e_7 rfl (lv_at hl 0 rfl) ?_
    refine r_sval C hw h0 w_1609 dJ0_charAt_5068e_8 ?_
    refine lv_iload_n hx hb dJ0_charAt_5068e_11 rfl (lv_at hl 1 rfl) ?_
    refine r_callS (index := 495) (n := 2) (d2 := 2) (mc := 0) (ms := 0) (As := [.ref (gV g i), .int p1]) (rest := []) C hw (ct_J1_charAt_3b067 hq) ksJ0_495 ⟨by decide, by decide⟩ ⟨by decide, by decide⟩ rfl hl.1 rfl (Nat.le_of_ble_eq_true rfl) dJ0_charAt_5068e_12 (fun r M5 H locs hp hle hw => ?_)
    obtain ⟨v4, rfl, hq⟩ := hp
    refine W.eq (g2 := F0 m 15 ls [.int v4]) rfl ?_
    obtain ⟨h6, hq⟩ := hq
    exact r_nret C hr hlk hw dJ0_charAt_5068e_15 (Nat.le_refl _) (Nat.le_refl _) h6 ⟨_, rfl, hq⟩

set_option maxRecDepth 100000 in
def bd_X10_isWord_28  (g : Gh) (M0 : Mem) (a0 : Nat) (a1 : Nat) (post : Int32 → Mem → Prop)  (bk28 : Int32 × Mem → Prop) (x2 : Int32)  (M : Mem) : Prop :=
  ∃ i1, a1 = gK g i1 ∧ (wp_J0_length_8abf5 g M i1 (fun v3 M4 => ((v3 ≤ x2) → post 1 M4) ∧ (¬ (v3 ≤ x2) → wp_X10_byteAt g M4 a0 ((mI M4 a0 3) + x2) (fun v6 M7 => ∃ i8, a1 = gK g i8 ∧ (wp_J0_charAt_5068e g M7 i8 x2 (fun v10 M11 => ((v6 = v10) → bk28 ((x2 + 1), M11)) ∧ (¬ (v6 = v10) → post 0 M11)))))))
set_option maxRecDepth 100000 in
def wp_X10_isWord  (g : Gh) (M0 : Mem) (a0 : Nat) (a1 : Nat) (post : Int32 → Mem → Prop) : Prop :=
  okc (gB g) M0 a0 10 ∧ ((((mI M0 a0 2) = 1) → ∃ i14, a1 = gK g i14 ∧ (wp_J0_length_8abf5 g M0 i14 (fun v16 M17 => ((((mI M0 a0 5) - (mI M0 a0 3)) = v16) → (∃ n : Nat, lfp (fun bk z => bd_X10_isWord_28  g M0 a0 a1 post  bk z.1 z.2) n (0, M17))) ∧ (¬ (((mI M0 a0 5) - (mI M0 a0 3)) = v16) → post 0 M17)))) ∧ (¬ ((mI M0 a0 2) = 1) → post 0 M0))
set_option maxHeartbeats 4000000 in
set_option maxRecDepth 100000 in
theorem lp_X10_isWord_28 {l : Launch} {g : Gh} {p : Program} {e : Env} {s : State} {m : MethodId} {args : Array Value} {below : List Frame} {meth : Method} {c : Code} {M0 : Mem} {a0 : Nat} {a1 : Nat} {post : Int32 → Mem → Prop}  (C : Cx g p s m args c cX10_isWord 3 RX10) (hr : meth.sig.returnType = (some .boolean)) (hlk : meth.locks = false) (hn : meth.name = "isWord") (h0 : okc (gB g) M0 a0 10)  : ∀ (nf : Nat) (x2 : Int32)  (M : Mem) (H : Heap) (locs : List Loc) (ls : Array Slot), lfp (fun bk z => bd_X10_isWord_28  g M0 a0 a1 post  bk z.1 z.2) nf (x2, M) → Wd g s M0 M H locs → lv_has ls 3 [(0, .ref a0), (1, .ref a1), (2, .int x2)] → W p l e (rmo 5 0 0) s m args below meth c H locs 0 0 (MQ below (Cq g M0 (pI post)) args s 0 0 (gA g)) (F0 m 28 ls []) := by
  have hx := C.1.1
  have hb := C.1.2.1
  intro nf
  induction nf with
  | zero => intro _ _ H locs ls hq; exact hq.elim
  | succ nf hk28 =>
    intro x2 M H locs ls hq hw hl
    replace hq : bd_X10_isWord_28  g M0 a0 a1 post  (lfp (fun bk z => bd_X10_isWord_28  g M0 a0 a1 post  bk z.1 z.2) nf) x2 M := hq
    unfold bd_X10_isWord_28 at hq
    refine lv_iload_n hx hb dX10_isWord_28 rfl (lv_at hl 2 rfl) ?_
    refine lv_aload_n hx hb dX10_isWord_29 rfl (lv_at hl 1 rfl) ?_
    obtain ⟨i1, e2, hq⟩ := hq
    refine W.eq (g2 := F0 m 30 ls [.ref (gK g i1), .int x2]) (by rw [e2]) ?_
    refine r_callT (index := 53) (n := 0) (d2 := 1) (mc := 0) (ms := 0) (As := []) (rest := [.int x2]) C hw (ct_J0_length_8abf5 hq) kvX10_53 hq.1 ⟨by decide, by decide⟩ ⟨by decide, by decide⟩ rfl hl.1 rfl (Nat.le_of_ble_eq_true rfl) dX10_isWord_30 (fun r M4 H locs hp hle hw => ?_)
    obtain ⟨v3, rfl, hq⟩ := hp
    refine W.eq (g2 := F0 m 33 ls [.int v3, .int x2]) rfl ?_
    refine lv_icmp_ge (tgt := 62) hx hb dX10_isWord_33 (by decide) (fun c5 => ?_) (fun c5 => ?_)
    · replace hq := hq.1 c5
      refine lv_iconst (v := 1) hx hb dX10_isWord_62 (by decide) ?_
      exact r_zret C hr hlk hw dX10_isWord_63 (Nat.le_refl _) (Nat.le_refl _) (by decide) ⟨_, rfl, hq⟩
    · replace hq := hq.2 c5
      refine lv_aload_n hx hb dX10_isWord_36 rfl (lv_at hl 0 rfl) ?_
      refine lv_aload_n hx hb dX10_isWord_37 rfl (lv_at hl 0 rfl) ?_
      refine gfX10_22 C hw hw.2.2.1 h0 dX10_isWord_38 ?_
      refine lv_iload_n hx hb dX10_isWord_41 rfl (lv_at hl 2 rfl) ?_
      refine lv_iadd hx hb dX10_isWord_42 ?_
      refine r_callV (T := TX10) (N := 6) (ci := 10) (index := 35) (n := 1) (d2 := 0) (mc := 0) (ms := 0) (As := [.int ((mI M4 a0 3) + x2)]) (rest := []) C hw (ct_X10_byteAt hq) kvX10_35 hq.1 (by decide) rfl ⟨by decide, by decide⟩ ⟨by decide, by decide⟩ rfl hl.1 rfl (Nat.le_of_ble_eq_true rfl) dX10_isWord_43 (fun r M7 H locs hp hle hw => ?_)
      obtain ⟨v6, rfl, hq⟩ := hp
      refine W.eq (g2 := F0 m 46 ls [.int v6]) rfl ?_
      refine lv_aload_n hx hb dX10_isWord_46 rfl (lv_at hl 1 rfl) ?_
      refine lv_iload_n hx hb dX10_isWord_47 rfl (lv_at hl 2 rfl) ?_
      obtain ⟨i8, e9, hq⟩ := hq
      refine W.eq (g2 := F0 m 48 ls [.int x2, .ref (gK g i8), .int v6]) (by rw [e9]) ?_
      refine r_callT (index := 59) (n := 1) (d2 := 4) (mc := 0) (ms := 0) (As := [.int x2]) (rest := [.int v6]) C hw (ct_J0_charAt_5068e hq) kvX10_59 hq.1 ⟨by decide, by decide⟩ ⟨by decide, by decide⟩ rfl hl.1 rfl (Nat.le_of_ble_eq_true rfl) dX10_isWord_48 (fun r M11 H locs hp hle hw => ?_)
      obtain ⟨v10, rfl, hq⟩ := hp
      refine W.eq (g2 := F0 m 51 ls [.int v10, .int v6]) rfl ?_
      refine lv_icmp_eq (tgt := 56) hx hb dX10_isWord_51 (by decide) (fun c12 => ?_) (fun c12 => ?_)
      · replace hq := hq.1 c12
        refine lv_iinc (v := (x2 + 1)) (lv' := [(2, .int (x2 + 1)), (0, .ref a0), (1, .ref a1)]) hx hb dX10_isWord_56 hl (k := 2) rfl rfl (by decide) rfl (fun ls hl => ?_)
        refine lv_goto (tgt := 28) hx hb dX10_isWord_59 (by decide) ?_
        exact hk28 _ _ _ _ _ hq hw (lv_sub hl [1, 2, 0] rfl)
      · replace hq := hq.2 c12
        refine lv_iconst (v := 0) hx hb dX10_isWord_54 (by decide) ?_
        exact r_zret C hr hlk hw dX10_isWord_55 (Nat.le_refl _) (Nat.le_refl _) (by decide) ⟨_, rfl, hq⟩
set_option maxHeartbeats 4000000 in
set_option maxRecDepth 100000 in
theorem ct_X10_isWord {l : Launch} {g : Gh} {M0 : Mem} {a0 : Nat} {a1 : Nat} {post : Int32 → Mem → Prop}  (hq : wp_X10_isWord  g M0 a0 a1 post) : Ct l g yX10_isWord cX10_isWord 3 (some .boolean) 5 0 0 [.ref a0, .ref a1] M0 (pI post) := by
  unfold wp_X10_isWord at hq
  obtain ⟨h0, hq⟩ := hq
  refine Ct.of (by decide) (Nat.le_of_ble_eq_true rfl) ?_
  intro p e s m below meth c ls C hr hlk hn hl hw
  have hx := C.1.1
  have hb := C.1.2.1
  have hl : lv_has ls 3 [(0, .ref a0), (1, .ref a1)] := hl
  refine lv_aload_n hx hb dX10_isWord_0 rfl (lv_at hl 0 rfl) ?_
  refine gfX10_19 C hw hw.2.2.1 h0 dX10_isWord_1 ?_
  refine lv_iconst (v := 1) hx hb dX10_isWord_4 (by decide) ?_
  refine lv_icmp_ne (tgt := 24) hx hb dX10_isWord_5 (by decide) (fun c13 => ?_) (fun c13 => ?_)
  · replace hq := hq.2 c13
    refine lv_iconst (v := 0) hx hb dX10_isWord_24 (by decide) ?_
    exact r_zret C hr hlk hw dX10_isWord_25 (Nat.le_refl _) (Nat.le_refl _) (by decide) ⟨_, rfl, hq⟩
  · replace hq := hq.1 c13
    refine lv_aload_n hx hb dX10_isWord_8 rfl (lv_at hl 0 rfl) ?_
    refine gfX10_29 C hw hw.2.2.1 h0 dX10_isWord_9 ?_
    refine lv_aload_n hx hb dX10_isWord_12 rfl (lv_at hl 0 rfl) ?_
    refine gfX10_22 C hw hw.2.2.1 h0 dX10_isWord_13 ?_
    refine lv_isub hx hb dX10_isWord_16 ?_
    refine lv_aload_n hx hb dX10_isWord_17 rfl (lv_at hl 1 rfl) ?_
    obtain ⟨i14, e15, hq⟩ := hq
    refine W.eq (g2 := F0 m 18 ls [.ref (gK g i14), .int ((mI M0 a0 5) - (mI M0 a0 3))]) (by rw [e15]) ?_
    refine r_callT (index := 53) (n := 0) (d2 := 1) (mc := 0) (ms := 0) (As := []) (rest := [.int ((mI M0 a0 5) - (mI M0 a0 3))]) C hw (ct_J0_length_8abf5 hq) kvX10_53 hq.1 ⟨by decide, by decide⟩ ⟨by decide, by decide⟩ rfl hl.1 rfl (Nat.le_of_ble_eq_true rfl) dX10_isWord_18 (fun r M17 H locs hp hle hw => ?_)
    obtain ⟨v16, rfl, hq⟩ := hp
    refine W.eq (g2 := F0 m 21 ls [.int v16, .int ((mI M0 a0 5) - (mI M0 a0 3))]) rfl ?_
    refine lv_icmp_eq (tgt := 26) hx hb dX10_isWord_21 (by decide) (fun c18 => ?_) (fun c18 => ?_)
    · replace hq := hq.1 c18
      refine lv_iconst (v := 0) hx hb dX10_isWord_26 (by decide) ?_
      refine lv_istore_n (lv' := [(2, .int 0), (0, .ref a0), (1, .ref a1)]) hx hb dX10_isWord_27 rfl hl (by decide) rfl (fun ls hl => ?_)
      obtain ⟨nf, hq⟩ := hq
      exact lp_X10_isWord_28  C hr hlk hn h0  nf _ _ _ _ _ hq hw (lv_sub hl [1, 2, 0] rfl)
    · replace hq := hq.2 c18
      refine lv_iconst (v := 0) hx hb dX10_isWord_24 (by decide) ?_
      exact r_zret C hr hlk hw dX10_isWord_25 (Nat.le_refl _) (Nat.le_refl _) (by decide) ⟨_, rfl, hq⟩

set_option maxRecDepth 100000 in
def wp_X4_faultOfNumber  (g : Gh) (M0 : Mem) (a0 : Nat) (p1 : Int32) (p2 : Int32) (post : Int32 → Mem → Prop) : Prop :=
  okc (gB g) M0 a0 10 ∧ ((((mI M0 a0 2) = 2) → (((lg_cmp (mJ M0 a0 4) (Int32.toInt64 p1)) < 0) → post 2 M0) ∧ (¬ ((lg_cmp (mJ M0 a0 4) (Int32.toInt64 p1)) < 0) → (((lg_cmp (mJ M0 a0 4) (Int32.toInt64 p2)) ≤ 0) → post 0 M0) ∧ (¬ ((lg_cmp (mJ M0 a0 4) (Int32.toInt64 p2)) ≤ 0) → post 2 M0))) ∧ (¬ ((mI M0 a0 2) = 2) → post 1 M0))
set_option maxHeartbeats 4000000 in
set_option maxRecDepth 100000 in
theorem ct_X4_faultOfNumber {l : Launch} {g : Gh} {M0 : Mem} {a0 : Nat} {p1 : Int32} {p2 : Int32} {post : Int32 → Mem → Prop}  (hq : wp_X4_faultOfNumber  g M0 a0 p1 p2 post) : Ct l g yX4_faultOfNumber cX4_faultOfNumber 3 (some .int) 0 0 0 [.ref a0, .int p1, .int p2] M0 (pI post) := by
  unfold wp_X4_faultOfNumber at hq
  refine Ct.of (by decide) (Nat.le_of_ble_eq_true rfl) ?_
  intro p e s m below meth c ls C hr hlk hn hl hw
  have hx := C.1.1
  have hb := C.1.2.1
  have hl : lv_has ls 3 [(0, .ref a0), (1, .int p1), (2, .int p2)] := hl
  refine lv_aload_n hx hb dX4_faultOfNumber_0 rfl (lv_at hl 0 rfl) ?_
  obtain ⟨h1, hq⟩ := hq
  refine gfX4_52 C hw hw.2.2.1 h1 dX4_faultOfNumber_1 ?_
  refine lv_iconst (v := 2) hx hb dX4_faultOfNumber_4 (by decide) ?_
  refine lv_icmp_eq (tgt := 10) hx hb dX4_faultOfNumber_5 (by decide) (fun c2 => ?_) (fun c2 => ?_)
  · replace hq := hq.1 c2
    refine lv_aload_n hx hb dX4_faultOfNumber_10 rfl (lv_at hl 0 rfl) ?_
    refine gfX4_74 C hw hw.2.2.1 h1 dX4_faultOfNumber_11 ?_
    refine lv_iload_n hx hb dX4_faultOfNumber_14 rfl (lv_at hl 1 rfl) ?_
    refine lv_i2l (v := (Int32.toInt64 p1)) hx hb dX4_faultOfNumber_15 rfl ?_
    refine W.lcmp hx hb dX4_faultOfNumber_16 ?_
    refine lv_if_lt (tgt := 30) hx hb dX4_faultOfNumber_17 (by decide) (fun c3 => ?_) (fun c3 => ?_)
    · replace hq := hq.1 c3
      refine lv_iconst (v := 2) hx hb dX4_faultOfNumber_30 (by decide) ?_
      refine lv_goto (tgt := 35) hx hb dX4_faultOfNumber_31 (by decide) ?_
      exact r_iret C hr hlk hw dX4_faultOfNumber_35 (Nat.le_refl _) (Nat.le_refl _) ⟨_, rfl, hq⟩
    · replace hq := hq.2 c3
      refine lv_aload_n hx hb dX4_faultOfNumber_20 rfl (lv_at hl 0 rfl) ?_
      refine gfX4_74 C hw hw.2.2.1 h1 dX4_faultOfNumber_21 ?_
      refine lv_iload_n hx hb dX4_faultOfNumber_24 rfl (lv_at hl 2 rfl) ?_
      refine lv_i2l (v := (Int32.toInt64 p2)) hx hb dX4_faultOfNumber_25 rfl ?_
      refine W.lcmp hx hb dX4_faultOfNumber_26 ?_
      refine lv_if_le (tgt := 34) hx hb dX4_faultOfNumber_27 (by decide) (fun c4 => ?_) (fun c4 => ?_)
      · replace hq := hq.1 c4
        refine lv_iconst (v := 0) hx hb dX4_faultOfNumber_34 (by decide) ?_
        exact r_iret C hr hlk hw dX4_faultOfNumber_35 (Nat.le_refl _) (Nat.le_refl _) ⟨_, rfl, hq⟩
      · replace hq := hq.2 c4
        refine lv_iconst (v := 2) hx hb dX4_faultOfNumber_30 (by decide) ?_
        refine lv_goto (tgt := 35) hx hb dX4_faultOfNumber_31 (by decide) ?_
        exact r_iret C hr hlk hw dX4_faultOfNumber_35 (Nat.le_refl _) (Nat.le_refl _) ⟨_, rfl, hq⟩
  · replace hq := hq.2 c2
    refine lv_iconst (v := 1) hx hb dX4_faultOfNumber_8 (by decide) ?_
    exact r_iret C hr hlk hw dX4_faultOfNumber_9 (Nat.le_refl _) (Nat.le_refl _) ⟨_, rfl, hq⟩

set_option maxRecDepth 100000 in
def lb_X4_faultOfHead_56  (g : Gh) (M0 : Mem) (a0 : Nat) (a1 : Nat) (post : Int32 → Mem → Prop)    (M : Mem) : Prop :=
  wp_X10_readNext g M a1 (gK g 2) (fun M2 => ∃ q3, mR M2 a0 3 = some q3 ∧ (wp_X10_isWord g M2 a1 (gK g 4) (fun v5 M6 => okc (gB g) M0 q3 17 ∧ (vp_in (mI M2 a0 0) (mN M0 q3) ∧ (∀ M9, M9 = uI M6 q3 (Int32.toNatClampNeg (mI M2 a0 0)) (vp_nar .boolean v5) → (∃ q11, mR M9 a0 3 = some q11 ∧ (okc (gB g) M0 q11 17 ∧ (vp_in (mI M9 a0 0) (mN M0 q11) ∧ ((((mI M9 q11 (Int32.toNatClampNeg (mI M9 a0 0))) = 0) → wp_X10_isWord g M9 a1 (gK g 5) (fun v18 M19 => ((v18 = 0) → post 1 M19) ∧ (¬ (v18 = 0) → wp_X10_readNext g M19 a1 (gK g 2) (fun M22 => post 0 M22)))) ∧ (¬ ((mI M9 q11 (Int32.toNatClampNeg (mI M9 a0 0))) = 0) → wp_X10_readNext g M9 a1 (gK g 2) (fun M17 => post 0 M17)))))))))))
set_option maxRecDepth 100000 in
def wp_X4_faultOfHead  (g : Gh) (M0 : Mem) (a0 : Nat) (a1 : Nat) (post : Int32 → Mem → Prop) : Prop :=
  okc (gB g) M0 a0 4 ∧ (wp_X10_isWord g M0 a1 (gK g 3) (fun v23 M24 => ((v23 = 0) → post 1 M24) ∧ (¬ (v23 = 0) → (((mI M24 a0 0) < 6) → wp_X10_readNext g M24 a1 (gK g 2) (fun M28 => wp_X4_faultOfNumber g M28 a1 1 8 (fun v29 M30 => ((v29 = 0) → ∃ q32, mR M30 a0 2 = some q32 ∧ (okc (gB g) M0 a1 10 ∧ (okc (gB g) M0 q32 14 ∧ (vp_in (mI M30 a0 0) (mN M0 q32) ∧ (∀ M37, M37 = uI M30 q32 (Int32.toNatClampNeg (mI M30 a0 0)) (Int64.toInt32 (mJ M30 a1 4)) → (lb_X4_faultOfHead_56  g M0 a0 a1 post   M37)))))) ∧ (¬ (v29 = 0) → post v29 M30)))) ∧ (¬ ((mI M24 a0 0) < 6) → post 3 M24))))
set_option maxHeartbeats 4000000 in
set_option maxRecDepth 100000 in
theorem lt_X4_faultOfHead_56 {l : Launch} {g : Gh} {p : Program} {e : Env} {s : State} {m : MethodId} {args : Array Value} {below : List Frame} {meth : Method} {c : Code} {H : Heap} {locs : List Loc} {ls : Array Slot} {M0 M : Mem} {a0 : Nat} {a1 : Nat} {post : Int32 → Mem → Prop}    (C : Cx g p s m args c cX4_faultOfHead 3 RX4) (hr : meth.sig.returnType = (some .int)) (hlk : meth.locks = false) (hn : meth.name = "faultOfHead") (h0 : okc (gB g) M0 a0 4)  (hq : lb_X4_faultOfHead_56  g M0 a0 a1 post   M) (hw : Wd g s M0 M H locs) (hl : lv_has ls 3 [(0, .ref a0), (1, .ref a1)]) : W p l e (rmo 9 0 0) s m args below meth c H locs 0 0 (MQ below (Cq g M0 (pI post)) args s 0 0 (gA g)) (F0 m 56 ls []) := by
  have hx := C.1.1
  have hb := C.1.2.1
  unfold lb_X4_faultOfHead_56 at hq
  refine lv_aload_n hx hb dX4_faultOfHead_56 rfl (lv_at hl 1 rfl) ?_
  refine va_ldcS hx hb C.1.2.2.2.1 (st_2 C.2.2.2.2.1) dX4_faultOfHead_57 ?_
  refine r_callV (T := TX10) (N := 6) (ci := 10) (index := 48) (n := 1) (d2 := 8) (mc := 0) (ms := 0) (As := [.ref (gK g 2)]) (rest := []) C hw (ct_X10_readNext hq) kvX4_48 hq.1 (by decide) rfl ⟨by decide, by decide⟩ ⟨by decide, by decide⟩ rfl hl.1 rfl (Nat.le_of_ble_eq_true rfl) dX4_faultOfHead_59 (fun r M2 H locs hp hle hw => ?_)
  obtain ⟨rfl, hq⟩ := hp
  refine W.eq (g2 := F0 m 62 ls []) rfl ?_
  refine lv_aload_n hx hb dX4_faultOfHead_62 rfl (lv_at hl 0 rfl) ?_
  obtain ⟨q3, e4, hq⟩ := hq
  refine gfX4_15 C hw hw.2.2.1 h0 e4 dX4_faultOfHead_63 ?_
  refine lv_aload_n hx hb dX4_faultOfHead_66 rfl (lv_at hl 0 rfl) ?_
  refine gfX4_28 C hw hw.2.2.1 h0 dX4_faultOfHead_67 ?_
  refine lv_aload_n hx hb dX4_faultOfHead_70 rfl (lv_at hl 1 rfl) ?_
  refine va_ldcS hx hb C.1.2.2.2.1 (st_4 C.2.2.2.2.1) dX4_faultOfHead_71 ?_
  refine r_callV (T := TX10) (N := 6) (ci := 10) (index := 66) (n := 1) (d2 := 5) (mc := 0) (ms := 0) (As := [.ref (gK g 4)]) (rest := [.int (mI M2 a0 0), .ref q3]) C hw (ct_X10_isWord hq) kvX4_66 hq.1 (by decide) rfl ⟨by decide, by decide⟩ ⟨by decide, by decide⟩ rfl hl.1 rfl (Nat.le_of_ble_eq_true rfl) dX4_faultOfHead_73 (fun r M6 H locs hp hle hw => ?_)
  obtain ⟨v5, rfl, hq⟩ := hp
  refine W.eq (g2 := F0 m 76 ls [.int v5, .int (mI M2 a0 0), .ref q3]) rfl ?_
  obtain ⟨h7, hq⟩ := hq
  obtain ⟨h8, hq⟩ := hq
  refine q_zast C hw hw.2.2.1 h7 h8 dX4_faultOfHead_76 (fun H locs hw => ?_)
  generalize e10 : uI M6 q3 (Int32.toNatClampNeg (mI M2 a0 0)) (vp_nar .boolean v5) = M9 at hw
  replace hq := hq M9 e10.symm
  refine lv_aload_n hx hb dX4_faultOfHead_77 rfl (lv_at hl 0 rfl) ?_
  obtain ⟨q11, e12, hq⟩ := hq
  refine gfX4_15 C hw hw.2.2.1 h0 e12 dX4_faultOfHead_78 ?_
  refine lv_aload_n hx hb dX4_faultOfHead_81 rfl (lv_at hl 0 rfl) ?_
  refine gfX4_28 C hw hw.2.2.1 h0 dX4_faultOfHead_82 ?_
  obtain ⟨h13, hq⟩ := hq
  obtain ⟨h14, hq⟩ := hq
  refine q_zald C hw hw.2.2.1 h13 h14 dX4_faultOfHead_85 ?_
  refine lv_if_ne (tgt := 100) hx hb dX4_faultOfHead_86 (by decide) (fun c15 => ?_) (fun c15 => ?_)
  · replace hq := hq.2 c15
    refine lv_aload_n hx hb dX4_faultOfHead_100 rfl (lv_at hl 1 rfl) ?_
    refine va_ldcS hx hb C.1.2.2.2.1 (st_2 C.2.2.2.2.1) dX4_faultOfHead_101 ?_
    refine r_callV (T := TX10) (N := 6) (ci := 10) (index := 48) (n := 1) (d2 := 8) (mc := 0) (ms := 0) (As := [.ref (gK g 2)]) (rest := []) C hw (ct_X10_readNext hq) kvX4_48 hq.1 (by decide) rfl ⟨by decide, by decide⟩ ⟨by decide, by decide⟩ rfl hl.1 rfl (Nat.le_of_ble_eq_true rfl) dX4_faultOfHead_103 (fun r M17 H locs hp hle hw => ?_)
    obtain ⟨rfl, hq⟩ := hp
    refine W.eq (g2 := F0 m 106 ls []) rfl ?_
    refine lv_iconst (v := 0) hx hb dX4_faultOfHead_106 (by decide) ?_
    exact r_iret C hr hlk hw dX4_faultOfHead_107 (Nat.le_refl _) (Nat.le_refl _) ⟨_, rfl, hq⟩
  · replace hq := hq.1 c15
    refine lv_aload_n hx hb dX4_faultOfHead_89 rfl (lv_at hl 1 rfl) ?_
    refine va_ldcS hx hb C.1.2.2.2.1 (st_5 C.2.2.2.2.1) dX4_faultOfHead_90 ?_
    refine r_callV (T := TX10) (N := 6) (ci := 10) (index := 66) (n := 1) (d2 := 5) (mc := 0) (ms := 0) (As := [.ref (gK g 5)]) (rest := []) C hw (ct_X10_isWord hq) kvX4_66 hq.1 (by decide) rfl ⟨by decide, by decide⟩ ⟨by decide, by decide⟩ rfl hl.1 rfl (Nat.le_of_ble_eq_true rfl) dX4_faultOfHead_92 (fun r M19 H locs hp hle hw => ?_)
    obtain ⟨v18, rfl, hq⟩ := hp
    refine W.eq (g2 := F0 m 95 ls [.int v18]) rfl ?_
    refine lv_if_ne (tgt := 100) hx hb dX4_faultOfHead_95 (by decide) (fun c20 => ?_) (fun c20 => ?_)
    · replace hq := hq.2 c20
      refine lv_aload_n hx hb dX4_faultOfHead_100 rfl (lv_at hl 1 rfl) ?_
      refine va_ldcS hx hb C.1.2.2.2.1 (st_2 C.2.2.2.2.1) dX4_faultOfHead_101 ?_
      refine r_callV (T := TX10) (N := 6) (ci := 10) (index := 48) (n := 1) (d2 := 8) (mc := 0) (ms := 0) (As := [.ref (gK g 2)]) (rest := []) C hw (ct_X10_readNext hq) kvX4_48 hq.1 (by decide) rfl ⟨by decide, by decide⟩ ⟨by decide, by decide⟩ rfl hl.1 rfl (Nat.le_of_ble_eq_true rfl) dX4_faultOfHead_103 (fun r M22 H locs hp hle hw => ?_)
      obtain ⟨rfl, hq⟩ := hp
      refine W.eq (g2 := F0 m 106 ls []) rfl ?_
      refine lv_iconst (v := 0) hx hb dX4_faultOfHead_106 (by decide) ?_
      exact r_iret C hr hlk hw dX4_faultOfHead_107 (Nat.le_refl _) (Nat.le_refl _) ⟨_, rfl, hq⟩
    · replace hq := hq.1 c20
      refine lv_iconst (v := 1) hx hb dX4_faultOfHead_98 (by decide) ?_
      exact r_iret C hr hlk hw dX4_faultOfHead_99 (Nat.le_refl _) (Nat.le_refl _) ⟨_, rfl, hq⟩
set_option maxHeartbeats 4000000 in
set_option maxRecDepth 100000 in
theorem ct_X4_faultOfHead {l : Launch} {g : Gh} {M0 : Mem} {a0 : Nat} {a1 : Nat} {post : Int32 → Mem → Prop}  (hq : wp_X4_faultOfHead  g M0 a0 a1 post) : Ct l g yX4_faultOfHead cX4_faultOfHead 3 (some .int) 9 0 0 [.ref a0, .ref a1] M0 (pI post) := by
  unfold wp_X4_faultOfHead at hq
  obtain ⟨h0, hq⟩ := hq
  refine Ct.of (by decide) (Nat.le_of_ble_eq_true rfl) ?_
  intro p e s m below meth c ls C hr hlk hn hl hw
  have hx := C.1.1
  have hb := C.1.2.1
  have hl : lv_has ls 3 [(0, .ref a0), (1, .ref a1)] := hl
  refine lv_aload_n hx hb dX4_faultOfHead_0 rfl (lv_at hl 1 rfl) ?_
  refine va_ldcS hx hb C.1.2.2.2.1 (st_3 C.2.2.2.2.1) dX4_faultOfHead_1 ?_
  refine r_callV (T := TX10) (N := 6) (ci := 10) (index := 66) (n := 1) (d2 := 5) (mc := 0) (ms := 0) (As := [.ref (gK g 3)]) (rest := []) C hw (ct_X10_isWord hq) kvX4_66 hq.1 (by decide) rfl ⟨by decide, by decide⟩ ⟨by decide, by decide⟩ rfl hl.1 rfl (Nat.le_of_ble_eq_true rfl) dX4_faultOfHead_3 (fun r M24 H locs hp hle hw => ?_)
  obtain ⟨v23, rfl, hq⟩ := hp
  refine W.eq (g2 := F0 m 6 ls [.int v23]) rfl ?_
  refine lv_if_ne (tgt := 11) hx hb dX4_faultOfHead_6 (by decide) (fun c25 => ?_) (fun c25 => ?_)
  · replace hq := hq.2 c25
    refine lv_aload_n hx hb dX4_faultOfHead_11 rfl (lv_at hl 0 rfl) ?_
    refine gfX4_28 C hw hw.2.2.1 h0 dX4_faultOfHead_12 ?_
    refine lv_bipush (v := 6) hx hb dX4_faultOfHead_15 (by decide) ?_
    refine lv_icmp_lt (tgt := 22) hx hb dX4_faultOfHead_17 (by decide) (fun c26 => ?_) (fun c26 => ?_)
    · replace hq := hq.1 c26
      refine lv_aload_n hx hb dX4_faultOfHead_22 rfl (lv_at hl 1 rfl) ?_
      refine va_ldcS hx hb C.1.2.2.2.1 (st_2 C.2.2.2.2.1) dX4_faultOfHead_23 ?_
      refine r_callV (T := TX10) (N := 6) (ci := 10) (index := 48) (n := 1) (d2 := 8) (mc := 0) (ms := 0) (As := [.ref (gK g 2)]) (rest := []) C hw (ct_X10_readNext hq) kvX4_48 hq.1 (by decide) rfl ⟨by decide, by decide⟩ ⟨by decide, by decide⟩ rfl hl.1 rfl (Nat.le_of_ble_eq_true rfl) dX4_faultOfHead_25 (fun r M28 H locs hp hle hw => ?_)
      obtain ⟨rfl, hq⟩ := hp
      refine W.eq (g2 := F0 m 28 ls []) rfl ?_
      refine lv_aload_n hx hb dX4_faultOfHead_28 rfl (lv_at hl 1 rfl) ?_
      refine lv_iconst (v := 1) hx hb dX4_faultOfHead_29 (by decide) ?_
      refine lv_bipush (v := 8) hx hb dX4_faultOfHead_30 (by decide) ?_
      refine r_callS (index := 70) (n := 3) (d2 := 0) (mc := 0) (ms := 0) (As := [.ref a1, .int 1, .int 8]) (rest := []) C hw (ct_X4_faultOfNumber hq) ksX4_70 ⟨by decide, by decide⟩ ⟨by decide, by decide⟩ rfl hl.1 rfl (Nat.le_of_ble_eq_true rfl) dX4_faultOfHead_32 (fun r M30 H locs hp hle hw => ?_)
      obtain ⟨v29, rfl, hq⟩ := hp
      refine W.eq (g2 := F0 m 35 ls [.int v29]) rfl ?_
      refine lv_istore_n (lv' := [(2, .int v29), (0, .ref a0), (1, .ref a1)]) hx hb dX4_faultOfHead_35 rfl hl (by decide) rfl (fun ls hl => ?_)
      refine lv_iload_n hx hb dX4_faultOfHead_36 rfl (lv_at hl 0 rfl) ?_
      refine lv_if_eq (tgt := 42) hx hb dX4_faultOfHead_37 (by decide) (fun c31 => ?_) (fun c31 => ?_)
      · replace hq := hq.1 c31
        refine lv_aload_n hx hb dX4_faultOfHead_42 rfl (lv_at hl 1 rfl) ?_
        obtain ⟨q32, e33, hq⟩ := hq
        refine gfX4_11 C hw hw.2.2.1 h0 e33 dX4_faultOfHead_43 ?_
        refine lv_aload_n hx hb dX4_faultOfHead_46 rfl (lv_at hl 1 rfl) ?_
        refine gfX4_28 C hw hw.2.2.1 h0 dX4_faultOfHead_47 ?_
        refine lv_aload_n hx hb dX4_faultOfHead_50 rfl (lv_at hl 2 rfl) ?_
        obtain ⟨h34, hq⟩ := hq
        refine gfX4_74 C hw hw.2.2.1 h34 dX4_faultOfHead_51 ?_
        refine lv_l2i (v := (Int64.toInt32 (mJ M30 a1 4))) hx hb dX4_faultOfHead_54 rfl ?_
        obtain ⟨h35, hq⟩ := hq
        obtain ⟨h36, hq⟩ := hq
        refine q_iast C hw hw.2.2.1 h35 h36 dX4_faultOfHead_55 (fun H locs hw => ?_)
        generalize e38 : uI M30 q32 (Int32.toNatClampNeg (mI M30 a0 0)) (Int64.toInt32 (mJ M30 a1 4)) = M37 at hw
        replace hq := hq M37 e38.symm
        have e33 : mR M37 a0 2 = some q32 := by rw [← e38, mR_uI]; exact e33
        exact lt_X4_faultOfHead_56  C hr hlk hn h0  hq hw (lv_sub hl [1, 2] rfl)
      · replace hq := hq.2 c31
        refine lv_iload_n hx hb dX4_faultOfHead_40 rfl (lv_at hl 0 rfl) ?_
        exact r_iret C hr hlk hw dX4_faultOfHead_41 (Nat.le_refl _) (Nat.le_refl _) ⟨_, rfl, hq⟩
    · replace hq := hq.2 c26
      refine lv_iconst (v := 3) hx hb dX4_faultOfHead_20 (by decide) ?_
      exact r_iret C hr hlk hw dX4_faultOfHead_21 (Nat.le_refl _) (Nat.le_refl _) ⟨_, rfl, hq⟩
  · replace hq := hq.1 c25
    refine lv_iconst (v := 1) hx hb dX4_faultOfHead_9 (by decide) ?_
    exact r_iret C hr hlk hw dX4_faultOfHead_10 (Nat.le_refl _) (Nat.le_refl _) ⟨_, rfl, hq⟩

set_option maxRecDepth 100000 in
def wp_X4_readPoints  (g : Gh) (M0 : Mem) (a0 : Nat) (a1 : Nat) (p2 : Int32) (post : Int32 → Mem → Prop) : Prop :=
  wp_X10_readNext g M0 a0 (gK g 2) (fun M2 => wp_X4_faultOfNumber g M2 a0 0 20 (fun v3 M4 => ((v3 = 0) → ((p2 < 0) → post v3 M4) ∧ (¬ (p2 < 0) → okc (gB g) M0 a1 14 ∧ ((((nI (mN M0 a1)) ≤ p2) → post v3 M4) ∧ (¬ ((nI (mN M0 a1)) ≤ p2) → okc (gB g) M0 a0 10 ∧ (vp_in p2 (mN M0 a1) ∧ (∀ M11, M11 = uI M4 a1 (Int32.toNatClampNeg p2) (Int64.toInt32 (mJ M4 a0 4)) → (wp_X10_readNext g M11 a0 (gK g 2) (fun M14 => post v3 M14)))))))) ∧ (¬ (v3 = 0) → post v3 M4)))
set_option maxHeartbeats 4000000 in
set_option maxRecDepth 100000 in
theorem ct_X4_readPoints {l : Launch} {g : Gh} {M0 : Mem} {a0 : Nat} {a1 : Nat} {p2 : Int32} {post : Int32 → Mem → Prop}  (hq : wp_X4_readPoints  g M0 a0 a1 p2 post) : Ct l g yX4_readPoints cX4_readPoints 4 (some .int) 9 0 0 [.ref a0, .ref a1, .int p2] M0 (pI post) := by
  unfold wp_X4_readPoints at hq
  refine Ct.of (by decide) (Nat.le_of_ble_eq_true rfl) ?_
  intro p e s m below meth c ls C hr hlk hn hl hw
  have hx := C.1.1
  have hb := C.1.2.1
  have hl : lv_has ls 4 [(0, .ref a0), (1, .ref a1), (2, .int p2)] := hl
  refine lv_aload_n hx hb dX4_readPoints_0 rfl (lv_at hl 0 rfl) ?_
  refine va_ldcS hx hb C.1.2.2.2.1 (st_2 C.2.2.2.2.1) dX4_readPoints_1 ?_
  refine r_callV (T := TX10) (N := 6) (ci := 10) (index := 48) (n := 1) (d2 := 8) (mc := 0) (ms := 0) (As := [.ref (gK g 2)]) (rest := []) C hw (ct_X10_readNext hq) kvX4_48 hq.1 (by decide) rfl ⟨by decide, by decide⟩ ⟨by decide, by decide⟩ rfl hl.1 rfl (Nat.le_of_ble_eq_true rfl) dX4_readPoints_3 (fun r M2 H locs hp hle hw => ?_)
  obtain ⟨rfl, hq⟩ := hp
  refine W.eq (g2 := F0 m 6 ls []) rfl ?_
  refine lv_aload_n hx hb dX4_readPoints_6 rfl (lv_at hl 0 rfl) ?_
  refine lv_iconst (v := 0) hx hb dX4_readPoints_7 (by decide) ?_
  refine lv_bipush (v := 20) hx hb dX4_readPoints_8 (by decide) ?_
  refine r_callS (index := 70) (n := 3) (d2 := 0) (mc := 0) (ms := 0) (As := [.ref a0, .int 0, .int 20]) (rest := []) C hw (ct_X4_faultOfNumber hq) ksX4_70 ⟨by decide, by decide⟩ ⟨by decide, by decide⟩ rfl hl.1 rfl (Nat.le_of_ble_eq_true rfl) dX4_readPoints_10 (fun r M4 H locs hp hle hw => ?_)
  obtain ⟨v3, rfl, hq⟩ := hp
  refine W.eq (g2 := F0 m 13 ls [.int v3]) rfl ?_
  refine lv_istore_n (lv' := [(3, .int v3), (0, .ref a0), (1, .ref a1), (2, .int p2)]) hx hb dX4_readPoints_13 rfl hl (by decide) rfl (fun ls hl => ?_)
  refine lv_iload_n hx hb dX4_readPoints_14 rfl (lv_at hl 0 rfl) ?_
  refine lv_if_ne (tgt := 42) hx hb dX4_readPoints_15 (by decide) (fun c5 => ?_) (fun c5 => ?_)
  · replace hq := hq.2 c5
    refine lv_iload_n hx hb dX4_readPoints_42 rfl (lv_at hl 0 rfl) ?_
    exact r_iret C hr hlk hw dX4_readPoints_43 (Nat.le_refl _) (Nat.le_refl _) ⟨_, rfl, hq⟩
  · replace hq := hq.1 c5
    refine lv_iload_n hx hb dX4_readPoints_18 rfl (lv_at hl 3 rfl) ?_
    refine lv_if_lt (tgt := 42) hx hb dX4_readPoints_19 (by decide) (fun c6 => ?_) (fun c6 => ?_)
    · replace hq := hq.1 c6
      refine lv_iload_n hx hb dX4_readPoints_42 rfl (lv_at hl 0 rfl) ?_
      exact r_iret C hr hlk hw dX4_readPoints_43 (Nat.le_refl _) (Nat.le_refl _) ⟨_, rfl, hq⟩
    · replace hq := hq.2 c6
      refine lv_iload_n hx hb dX4_readPoints_22 rfl (lv_at hl 3 rfl) ?_
      refine lv_aload_n hx hb dX4_readPoints_23 rfl (lv_at hl 2 rfl) ?_
      obtain ⟨h7, hq⟩ := hq
      refine q_alen C hw hw.2.2.1 h7 (by decide) (by decide) rfl dX4_readPoints_24 ?_
      refine lv_icmp_ge (tgt := 42) hx hb dX4_readPoints_25 (by decide) (fun c8 => ?_) (fun c8 => ?_)
      · replace hq := hq.1 c8
        refine lv_iload_n hx hb dX4_readPoints_42 rfl (lv_at hl 0 rfl) ?_
        exact r_iret C hr hlk hw dX4_readPoints_43 (Nat.le_refl _) (Nat.le_refl _) ⟨_, rfl, hq⟩
      · replace hq := hq.2 c8
        refine lv_aload_n hx hb dX4_readPoints_28 rfl (lv_at hl 2 rfl) ?_
        refine lv_iload_n hx hb dX4_readPoints_29 rfl (lv_at hl 3 rfl) ?_
        refine lv_aload_n hx hb dX4_readPoints_30 rfl (lv_at hl 1 rfl) ?_
        obtain ⟨h9, hq⟩ := hq
        refine gfX4_74 C hw hw.2.2.1 h9 dX4_readPoints_31 ?_
        refine lv_l2i (v := (Int64.toInt32 (mJ M4 a0 4))) hx hb dX4_readPoints_34 rfl ?_
        obtain ⟨h10, hq⟩ := hq
        refine q_iast C hw hw.2.2.1 h7 h10 dX4_readPoints_35 (fun H locs hw => ?_)
        generalize e12 : uI M4 a1 (Int32.toNatClampNeg p2) (Int64.toInt32 (mJ M4 a0 4)) = M11 at hw
        replace hq := hq M11 e12.symm
        refine lv_aload_n hx hb dX4_readPoints_36 rfl (lv_at hl 1 rfl) ?_
        refine va_ldcS hx hb C.1.2.2.2.1 (st_2 C.2.2.2.2.1) dX4_readPoints_37 ?_
        refine r_callV (T := TX10) (N := 6) (ci := 10) (index := 48) (n := 1) (d2 := 8) (mc := 0) (ms := 0) (As := [.ref (gK g 2)]) (rest := []) C hw (ct_X10_readNext hq) kvX4_48 hq.1 (by decide) rfl ⟨by decide, by decide⟩ ⟨by decide, by decide⟩ rfl hl.1 rfl (Nat.le_of_ble_eq_true rfl) dX4_readPoints_39 (fun r M14 H locs hp hle hw => ?_)
        obtain ⟨rfl, hq⟩ := hp
        refine W.eq (g2 := F0 m 42 ls []) rfl ?_
        refine lv_iload_n hx hb dX4_readPoints_42 rfl (lv_at hl 0 rfl) ?_
        exact r_iret C hr hlk hw dX4_readPoints_43 (Nat.le_refl _) (Nat.le_refl _) ⟨_, rfl, hq⟩
