set_option maxRecDepth 100000 in
def bd_X7_placesFrom_6  (g : Gh) (M0 : Mem) (a0 : Nat) (p1 : Int64) (p3 : Int64) (post : Int32 → Mem → Prop)  (bk6 : Int32 × Int32 × Mem → Prop) (x5 : Int32) (x6 : Int32)  (M : Mem) : Prop :=
  (((mI M a0 1) ≤ x6) → post x5 M) ∧ (¬ ((mI M a0 1) ≤ x6) → ∃ q2, mR M a0 0 = some q2 ∧ (okc (gB g) M0 q2 15 ∧ (vp_in x6 (mN M0 q2) ∧ (((0 < (lg_cmp p1 (mJ M q2 (Int32.toNatClampNeg x6)))) → bk6 (x5, (x6 + 1), M)) ∧ (¬ (0 < (lg_cmp p1 (mJ M q2 (Int32.toNatClampNeg x6)))) → ((0 < (lg_cmp (mJ M q2 (Int32.toNatClampNeg x6)) p3)) → bk6 (x5, (x6 + 1), M)) ∧ (¬ (0 < (lg_cmp (mJ M q2 (Int32.toNatClampNeg x6)) p3)) → bk6 ((x5 ||| (1 <<< (x6 &&& 31))), (x6 + 1), M)))))))
set_option maxRecDepth 100000 in
def wp_X7_placesFrom  (g : Gh) (M0 : Mem) (a0 : Nat) (p1 : Int64) (p3 : Int64) (post : Int32 → Mem → Prop) : Prop :=
  okc (gB g) M0 a0 7 ∧ ((∃ n : Nat, lfp (fun bk z => bd_X7_placesFrom_6  g M0 a0 p1 p3 post  bk z.1 z.2.1 z.2.2) n (0, 0, M0)))
set_option maxHeartbeats 4000000 in
set_option maxRecDepth 100000 in
theorem lp_X7_placesFrom_6 {l : Launch} {g : Gh} {p : Program} {e : Env} {s : State} {m : MethodId} {args : Array Value} {below : List Frame} {meth : Method} {c : Code} {M0 : Mem} {a0 : Nat} {p1 : Int64} {p3 : Int64} {post : Int32 → Mem → Prop}  (C : Cx g p s m args c cX7_placesFrom 7 RX7) (hr : meth.sig.returnType = (some .int)) (hlk : meth.locks = false) (hn : meth.name = "placesFrom") (h0 : okc (gB g) M0 a0 7)  : ∀ (nf : Nat) (x5 : Int32) (x6 : Int32)  (M : Mem) (H : Heap) (locs : List Loc) (ls : Array Slot), lfp (fun bk z => bd_X7_placesFrom_6  g M0 a0 p1 p3 post  bk z.1 z.2.1 z.2.2) nf (x5, x6, M) → Wd g s M0 M H locs → lv_has ls 7 [(0, .ref a0), (1, .long p1), (3, .long p3), (5, .int x5), (6, .int x6)] → W p l e (rmo 0 0 0) s m args below meth c H locs 0 0 (MQ below (Cq g M0 (pI post)) args s 0 0 (gA g)) (F0 m 6 ls []) := by
  have hx := C.1.1
  have hb := C.1.2.1
  intro nf
  induction nf with
  | zero => intro _ _ _ H locs ls hq; exact hq.elim
  | succ nf hk6 =>
    intro x5 x6 M H locs ls hq hw hl
    replace hq : bd_X7_placesFrom_6  g M0 a0 p1 p3 post  (lfp (fun bk z => bd_X7_placesFrom_6  g M0 a0 p1 p3 post  bk z.1 z.2.1 z.2.2) nf) x5 x6 M := hq
    unfold bd_X7_placesFrom_6 at hq
    refine lv_iload hx hb dX7_placesFrom_6 (lv_at hl 4 rfl) ?_
    refine lv_aload_n hx hb dX7_placesFrom_8 rfl (lv_at hl 0 rfl) ?_
    refine gfX7_13 C hw hw.2.2.1 h0 dX7_placesFrom_9 ?_
    refine lv_icmp_ge (tgt := 54) hx hb dX7_placesFrom_12 (by decide) (fun c1 => ?_) (fun c1 => ?_)
    · replace hq := hq.1 c1
      refine lv_iload hx hb dX7_placesFrom_54 (lv_at hl 3 rfl) ?_
      exact r_iret C hr hlk hw dX7_placesFrom_56 (Nat.le_refl _) (Nat.le_refl _) ⟨_, rfl, hq⟩
    · replace hq := hq.2 c1
      refine lv_lload_n hx hb dX7_placesFrom_15 rfl (lv_at hl 1 rfl) ?_
      refine lv_aload_n hx hb dX7_placesFrom_16 rfl (lv_at hl 0 rfl) ?_
      obtain ⟨q2, e3, hq⟩ := hq
      refine gfX7_9 C hw hw.2.2.1 h0 e3 dX7_placesFrom_17 ?_
      refine lv_iload hx hb dX7_placesFrom_20 (lv_at hl 4 rfl) ?_
      obtain ⟨h4, hq⟩ := hq
      obtain ⟨h5, hq⟩ := hq
      refine q_lald C hw hw.2.2.1 h4 h5 dX7_placesFrom_22 ?_
      refine W.lcmp hx hb dX7_placesFrom_23 ?_
      refine lv_if_gt (tgt := 48) hx hb dX7_placesFrom_24 (by decide) (fun c6 => ?_) (fun c6 => ?_)
      · replace hq := hq.1 c6
        refine lv_iinc (v := (x6 + 1)) (lv' := [(6, .int (x6 + 1)), (0, .ref a0), (1, .long p1), (3, .long p3), (5, .int x5)]) hx hb dX7_placesFrom_48 hl (k := 4) rfl rfl (by decide) rfl (fun ls hl => ?_)
        refine lv_goto (tgt := 6) hx hb dX7_placesFrom_51 (by decide) ?_
        exact hk6 _ _ _ _ _ _ hq hw (lv_sub hl [1, 2, 3, 4, 0] rfl)
      · replace hq := hq.2 c6
        refine lv_aload_n hx hb dX7_placesFrom_27 rfl (lv_at hl 0 rfl) ?_
        refine gfX7_9 C hw hw.2.2.1 h0 e3 dX7_placesFrom_28 ?_
        refine lv_iload hx hb dX7_placesFrom_31 (lv_at hl 4 rfl) ?_
        refine q_lald C hw hw.2.2.1 h4 h5 dX7_placesFrom_33 ?_
        refine lv_lload_n hx hb dX7_placesFrom_34 rfl (lv_at hl 2 rfl) ?_
        refine W.lcmp hx hb dX7_placesFrom_35 ?_
        refine lv_if_gt (tgt := 48) hx hb dX7_placesFrom_36 (by decide) (fun c7 => ?_) (fun c7 => ?_)
        · replace hq := hq.1 c7
          refine lv_iinc (v := (x6 + 1)) (lv' := [(6, .int (x6 + 1)), (0, .ref a0), (1, .long p1), (3, .long p3), (5, .int x5)]) hx hb dX7_placesFrom_48 hl (k := 4) rfl rfl (by decide) rfl (fun ls hl => ?_)
          refine lv_goto (tgt := 6) hx hb dX7_placesFrom_51 (by decide) ?_
          exact hk6 _ _ _ _ _ _ hq hw (lv_sub hl [1, 2, 3, 4, 0] rfl)
        · replace hq := hq.2 c7
          refine lv_iload hx hb dX7_placesFrom_39 (lv_at hl 3 rfl) ?_
          refine lv_iconst (v := 1) hx hb dX7_placesFrom_41 (by decide) ?_
          refine lv_iload hx hb dX7_placesFrom_42 (lv_at hl 4 rfl) ?_
          refine lv_ishl hx hb dX7_placesFrom_44 ?_
          refine lv_ior hx hb dX7_placesFrom_45 ?_
          refine lv_istore (lv' := [(5, .int (x5 ||| (1 <<< (x6 &&& 31)))), (0, .ref a0), (1, .long p1), (3, .long p3), (6, .int x6)]) hx hb dX7_placesFrom_46 hl (by decide) rfl (fun ls hl => ?_)
          refine lv_iinc (v := (x6 + 1)) (lv' := [(6, .int (x6 + 1)), (5, .int (x5 ||| (1 <<< (x6 &&& 31)))), (0, .ref a0), (1, .long p1), (3, .long p3)]) hx hb dX7_placesFrom_48 hl (k := 4) rfl rfl (by decide) rfl (fun ls hl => ?_)
          refine lv_goto (tgt := 6) hx hb dX7_placesFrom_51 (by decide) ?_
          exact hk6 _ _ _ _ _ _ hq hw (lv_sub hl [2, 3, 4, 1, 0] rfl)
set_option maxHeartbeats 4000000 in
set_option maxRecDepth 100000 in
theorem ct_X7_placesFrom {l : Launch} {g : Gh} {M0 : Mem} {a0 : Nat} {p1 : Int64} {p3 : Int64} {post : Int32 → Mem → Prop}  (hq : wp_X7_placesFrom  g M0 a0 p1 p3 post) : Ct l g yX7_placesFrom cX7_placesFrom 7 (some .int) 0 0 0 [.ref a0, .long p1, .long p3] M0 (pI post) := by
  unfold wp_X7_placesFrom at hq
  obtain ⟨h0, hq⟩ := hq
  refine Ct.of (by decide) (Nat.le_of_ble_eq_true rfl) ?_
  intro p e s m below meth c ls C hr hlk hn hl hw
  have hx := C.1.1
  have hb := C.1.2.1
  have hl : lv_has ls 7 [(0, .ref a0), (1, .long p1), (3, .long p3)] := hl
  refine lv_iconst (v := 0) hx hb dX7_placesFrom_0 (by decide) ?_
  refine lv_istore (lv' := [(5, .int 0), (0, .ref a0), (1, .long p1), (3, .long p3)]) hx hb dX7_placesFrom_1 hl (by decide) rfl (fun ls hl => ?_)
  refine lv_iconst (v := 0) hx hb dX7_placesFrom_3 (by decide) ?_
  refine lv_istore (lv' := [(6, .int 0), (5, .int 0), (0, .ref a0), (1, .long p1), (3, .long p3)]) hx hb dX7_placesFrom_4 hl (by decide) rfl (fun ls hl => ?_)
  obtain ⟨nf, hq⟩ := hq
  exact lp_X7_placesFrom_6  C hr hlk hn h0  nf _ _ _ _ _ _ hq hw (lv_sub hl [2, 3, 4, 1, 0] rfl)

set_option maxRecDepth 100000 in
def wp_X8_init  (g : Gh) (M0 : Mem) (a0 : Nat) (post : Mem → Prop) : Prop :=
  okc (gB g) M0 a0 8 ∧ ((0 + 1 ≤ 5 ∧ 0 + 60 ≤ 236) ∧ (∀ q2 M3, q2 = mT M0 → M3 = nw M0 14 60 → (∀ M7, M7 = uR M3 a0 4 (some q2) → (((0 + 1) + 1 ≤ 5 ∧ (0 + 60) + 60 ≤ 236) ∧ (∀ q10 M11, q10 = mT M7 → M11 = nw M7 14 60 → (∀ M15, M15 = uR M11 a0 5 (some q10) → ((((0 + 1) + 1) + 1 ≤ 5 ∧ ((0 + 60) + 60) + 60 ≤ 236) ∧ (∀ q18 M19, q18 = mT M15 → M19 = nw M15 14 60 → (∀ M23, M23 = uR M19 a0 6 (some q18) → (((((0 + 1) + 1) + 1) + 1 ≤ 5 ∧ (((0 + 60) + 60) + 60) + 48 ≤ 236) ∧ (∀ q26 M27, q26 = mT M23 → M27 = nw M23 14 48 → (∀ M31, M31 = uR M27 a0 8 (some q26) → ((((((0 + 1) + 1) + 1) + 1) + 1 ≤ 5 ∧ ((((0 + 60) + 60) + 60) + 48) + 8 ≤ 236) ∧ (∀ q34 M35, q34 = mT M31 → M35 = nw M31 14 8 → (∀ M39, M39 = uR M35 a0 10 (some q34) → (((((((0 + 1) + 1) + 1) + 1) + 1) ≤ 5 ∧ (((((0 + 60) + 60) + 60) + 48) + 8) ≤ 236) ∧ (post M39)))))))))))))))))
set_option maxHeartbeats 4000000 in
set_option maxRecDepth 100000 in
theorem ct_X8_init {l : Launch} {g : Gh} {M0 : Mem} {a0 : Nat} {post : Mem → Prop}  (hq : wp_X8_init  g M0 a0 post) : Ct l g yX8_init cX8_init 1 none 1 5 236 [.ref a0] M0 (pV post) := by
  unfold wp_X8_init at hq
  obtain ⟨h0, hq⟩ := hq
  have h00 := h0
  refine Ct.of (by decide) (Nat.le_of_ble_eq_true rfl) ?_
  intro p e s m below meth c ls C hr hlk hn hl hw
  have hx := C.1.1
  have hb := C.1.2.1
  have hl : lv_has ls 1 [(0, .ref a0)] := hl
  refine lv_aload_n hx hb dX8_init_0 rfl (lv_at hl 0 rfl) ?_
  refine W.objInit hx hb C.1.2.2.2.1 (C.1.2.2.2.2 _ w_211) (C.1.2.2.2.2 _ w_35) (C.1.2.2.2.2 _ w_objInit) rfl (by rw [C.1.2.2.1]; exact hl.1) rfl dX8_init_1 (Nat.le_of_ble_eq_true rfl) (Nat.le_of_ble_eq_true rfl) ?_
  refine W.eq (g2 := F0 m 4 ls []) rfl ?_
  refine lv_aload_n hx hb dX8_init_4 rfl (lv_at hl 0 rfl) ?_
  refine lv_bipush (v := 60) hx hb dX8_init_5 (by decide) ?_
  have hB := hw.B C.2.2.2.2.2
  obtain ⟨h1, hq⟩ := hq
  refine q_newa_14 (N' := 60) C hw (by decide) (by decide) (by decide) h1.1 h1.2 dX8_init_7 (fun H hw => ?_)
  have h6 := okc_nw (gB g) M0 14 60 hB
  have h0 := h0.up (mle_nw M0 14 60)
  generalize e4 : nw M0 14 60 = M3 at hw h6 h0
  generalize e5 : mT M0 = q2 at h6 ⊢
  replace hq := hq q2 M3 e5.symm e4.symm
  refine pfX8_9 (v := (some q2)) C hw (mle_rf _) h0 hn dX8_init_9 (fun H locs hw => ?_)
  generalize e8 : uR M3 a0 4 (some q2) = M7 at hw
  replace hq := hq M7 e8.symm
  have h0 : okc (gB g) M7 a0 8 := by rw [← e8]; exact okc_uR h0
  refine lv_aload_n hx hb dX8_init_12 rfl (lv_at hl 0 rfl) ?_
  refine lv_bipush (v := 60) hx hb dX8_init_13 (by decide) ?_
  have hB := hw.B C.2.2.2.2.2
  obtain ⟨h9, hq⟩ := hq
  refine q_newa_14 (N' := 60) C hw (by decide) (by decide) (by decide) h9.1 h9.2 dX8_init_15 (fun H hw => ?_)
  have h14 := okc_nw (gB g) M7 14 60 hB
  have h0 := h0.up (mle_nw M7 14 60)
  generalize e12 : nw M7 14 60 = M11 at hw h14 h0
  generalize e13 : mT M7 = q10 at h14 ⊢
  replace hq := hq q10 M11 e13.symm e12.symm
  refine pfX8_15 (v := (some q10)) C hw (mle_rf _) h0 hn dX8_init_17 (fun H locs hw => ?_)
  generalize e16 : uR M11 a0 5 (some q10) = M15 at hw
  replace hq := hq M15 e16.symm
  have h0 : okc (gB g) M15 a0 8 := by rw [← e16]; exact okc_uR h0
  refine lv_aload_n hx hb dX8_init_20 rfl (lv_at hl 0 rfl) ?_
  refine lv_bipush (v := 60) hx hb dX8_init_21 (by decide) ?_
  have hB := hw.B C.2.2.2.2.2
  obtain ⟨h17, hq⟩ := hq
  refine q_newa_14 (N' := 60) C hw (by decide) (by decide) (by decide) h17.1 h17.2 dX8_init_23 (fun H hw => ?_)
  have h22 := okc_nw (gB g) M15 14 60 hB
  have h0 := h0.up (mle_nw M15 14 60)
  generalize e20 : nw M15 14 60 = M19 at hw h22 h0
  generalize e21 : mT M15 = q18 at h22 ⊢
  replace hq := hq q18 M19 e21.symm e20.symm
  refine pfX8_18 (v := (some q18)) C hw (mle_rf _) h0 hn dX8_init_25 (fun H locs hw => ?_)
  generalize e24 : uR M19 a0 6 (some q18) = M23 at hw
  replace hq := hq M23 e24.symm
  have h0 : okc (gB g) M23 a0 8 := by rw [← e24]; exact okc_uR h0
  refine lv_aload_n hx hb dX8_init_28 rfl (lv_at hl 0 rfl) ?_
  refine lv_bipush (v := 48) hx hb dX8_init_29 (by decide) ?_
  have hB := hw.B C.2.2.2.2.2
  obtain ⟨h25, hq⟩ := hq
  refine q_newa_14 (N' := 48) C hw (by decide) (by decide) (by decide) h25.1 h25.2 dX8_init_31 (fun H hw => ?_)
  have h30 := okc_nw (gB g) M23 14 48 hB
  have h0 := h0.up (mle_nw M23 14 48)
  generalize e28 : nw M23 14 48 = M27 at hw h30 h0
  generalize e29 : mT M23 = q26 at h30 ⊢
  replace hq := hq q26 M27 e29.symm e28.symm
  refine pfX8_21 (v := (some q26)) C hw (mle_rf _) h0 hn dX8_init_33 (fun H locs hw => ?_)
  generalize e32 : uR M27 a0 8 (some q26) = M31 at hw
  replace hq := hq M31 e32.symm
  have h0 : okc (gB g) M31 a0 8 := by rw [← e32]; exact okc_uR h0
  refine lv_aload_n hx hb dX8_init_36 rfl (lv_at hl 0 rfl) ?_
  refine lv_bipush (v := 8) hx hb dX8_init_37 (by decide) ?_
  have hB := hw.B C.2.2.2.2.2
  obtain ⟨h33, hq⟩ := hq
  refine q_newa_14 (N' := 8) C hw (by decide) (by decide) (by decide) h33.1 h33.2 dX8_init_39 (fun H hw => ?_)
  have h38 := okc_nw (gB g) M31 14 8 hB
  have h0 := h0.up (mle_nw M31 14 8)
  generalize e36 : nw M31 14 8 = M35 at hw h38 h0
  generalize e37 : mT M31 = q34 at h38 ⊢
  replace hq := hq q34 M35 e37.symm e36.symm
  refine pfX8_24 (v := (some q34)) C hw (mle_rf _) h0 hn dX8_init_41 (fun H locs hw => ?_)
  generalize e40 : uR M35 a0 10 (some q34) = M39 at hw
  replace hq := hq M39 e40.symm
  have h0 : okc (gB g) M39 a0 8 := by rw [← e40]; exact okc_uR h0
  obtain ⟨h41, hq⟩ := hq
  exact r_vret C hr hlk hw dX8_init_44 h41.1 h41.2 ⟨rfl, hq⟩

set_option maxRecDepth 100000 in
def wp_X9_isSeenBy  (g : Gh) (M0 : Mem) (a0 : Nat) (p1 : Int32) (post : Int32 → Mem → Prop) : Prop :=
  okc (gB g) M0 a0 9 ∧ ((((((mI M0 a0 5) >>> (p1 &&& 31)) &&& 1) = 1) → post 1 M0) ∧ (¬ ((((mI M0 a0 5) >>> (p1 &&& 31)) &&& 1) = 1) → post 0 M0))
set_option maxHeartbeats 4000000 in
set_option maxRecDepth 100000 in
theorem ct_X9_isSeenBy {l : Launch} {g : Gh} {M0 : Mem} {a0 : Nat} {p1 : Int32} {post : Int32 → Mem → Prop}  (hq : wp_X9_isSeenBy  g M0 a0 p1 post) : Ct l g yX9_isSeenBy cX9_isSeenBy 2 (some .boolean) 0 0 0 [.ref a0, .int p1] M0 (pI post) := by
  unfold wp_X9_isSeenBy at hq
  obtain ⟨h0, hq⟩ := hq
  refine Ct.of (by decide) (Nat.le_of_ble_eq_true rfl) ?_
  intro p e s m below meth c ls C hr hlk hn hl hw
  have hx := C.1.1
  have hb := C.1.2.1
  have hl : lv_has ls 2 [(0, .ref a0), (1, .int p1)] := hl
  refine lv_aload_n hx hb dX9_isSeenBy_0 rfl (lv_at hl 0 rfl) ?_
  refine gfX9_25 C hw hw.2.2.1 h0 dX9_isSeenBy_1 ?_
  refine lv_iload_n hx hb dX9_isSeenBy_4 rfl (lv_at hl 1 rfl) ?_
  refine lv_ishr hx hb dX9_isSeenBy_5 ?_
  refine lv_iconst (v := 1) hx hb dX9_isSeenBy_6 (by decide) ?_
  refine lv_iand hx hb dX9_isSeenBy_7 ?_
  refine lv_iconst (v := 1) hx hb dX9_isSeenBy_8 (by decide) ?_
  refine lv_icmp_ne (tgt := 16) hx hb dX9_isSeenBy_9 (by decide) (fun c1 => ?_) (fun c1 => ?_)
  · replace hq := hq.2 c1
    refine lv_iconst (v := 0) hx hb dX9_isSeenBy_16 (by decide) ?_
    exact r_zret C hr hlk hw dX9_isSeenBy_17 (Nat.le_refl _) (Nat.le_refl _) (by decide) ⟨_, rfl, hq⟩
  · replace hq := hq.1 c1
    refine lv_iconst (v := 1) hx hb dX9_isSeenBy_12 (by decide) ?_
    refine lv_goto (tgt := 17) hx hb dX9_isSeenBy_13 (by decide) ?_
    exact r_zret C hr hlk hw dX9_isSeenBy_17 (Nat.le_refl _) (Nat.le_refl _) (by decide) ⟨_, rfl, hq⟩

set_option maxRecDepth 100000 in
def wp_X9_isFreeFor  (g : Gh) (M0 : Mem) (a0 : Nat) (p1 : Int32) (p2 : Int32) (post : Int32 → Mem → Prop) : Prop :=
  okc (gB g) M0 a0 9 ∧ ((((mI M0 a0 4) = 0) → wp_X9_isSeenBy g M0 a0 p1 (fun v2 M3 => ((v2 = 0) → wp_X9_isSeenBy g M3 a0 p2 (fun v5 M6 => ((v5 = 0) → post 1 M6) ∧ (¬ (v5 = 0) → post 0 M6))) ∧ (¬ (v2 = 0) → post 0 M3))) ∧ (¬ ((mI M0 a0 4) = 0) → post 0 M0))
set_option maxHeartbeats 4000000 in
set_option maxRecDepth 100000 in
theorem ct_X9_isFreeFor {l : Launch} {g : Gh} {M0 : Mem} {a0 : Nat} {p1 : Int32} {p2 : Int32} {post : Int32 → Mem → Prop}  (hq : wp_X9_isFreeFor  g M0 a0 p1 p2 post) : Ct l g yX9_isFreeFor cX9_isFreeFor 3 (some .boolean) 1 0 0 [.ref a0, .int p1, .int p2] M0 (pI post) := by
  unfold wp_X9_isFreeFor at hq
  obtain ⟨h0, hq⟩ := hq
  refine Ct.of (by decide) (Nat.le_of_ble_eq_true rfl) ?_
  intro p e s m below meth c ls C hr hlk hn hl hw
  have hx := C.1.1
  have hb := C.1.2.1
  have hl : lv_has ls 3 [(0, .ref a0), (1, .int p1), (2, .int p2)] := hl
  refine lv_aload_n hx hb dX9_isFreeFor_0 rfl (lv_at hl 0 rfl) ?_
  refine gfX9_28 C hw hw.2.2.1 h0 dX9_isFreeFor_1 ?_
  refine lv_if_ne (tgt := 27) hx hb dX9_isFreeFor_4 (by decide) (fun c1 => ?_) (fun c1 => ?_)
  · replace hq := hq.2 c1
    refine lv_iconst (v := 0) hx hb dX9_isFreeFor_27 (by decide) ?_
    exact r_zret C hr hlk hw dX9_isFreeFor_28 (Nat.le_refl _) (Nat.le_refl _) (by decide) ⟨_, rfl, hq⟩
  · replace hq := hq.1 c1
    refine lv_aload_n hx hb dX9_isFreeFor_7 rfl (lv_at hl 0 rfl) ?_
    refine lv_iload_n hx hb dX9_isFreeFor_8 rfl (lv_at hl 1 rfl) ?_
    refine r_callV (T := TX9) (N := 6) (ci := 9) (index := 32) (n := 1) (d2 := 0) (mc := 0) (ms := 0) (As := [.int p1]) (rest := []) C hw (ct_X9_isSeenBy hq) kvX9_32 hq.1 (by decide) rfl ⟨by decide, by decide⟩ ⟨by decide, by decide⟩ rfl hl.1 rfl (Nat.le_of_ble_eq_true rfl) dX9_isFreeFor_9 (fun r M3 H locs hp hle hw => ?_)
    obtain ⟨v2, rfl, hq⟩ := hp
    refine W.eq (g2 := F0 m 12 ls [.int v2]) rfl ?_
    refine lv_if_ne (tgt := 27) hx hb dX9_isFreeFor_12 (by decide) (fun c4 => ?_) (fun c4 => ?_)
    · replace hq := hq.2 c4
      refine lv_iconst (v := 0) hx hb dX9_isFreeFor_27 (by decide) ?_
      exact r_zret C hr hlk hw dX9_isFreeFor_28 (Nat.le_refl _) (Nat.le_refl _) (by decide) ⟨_, rfl, hq⟩
    · replace hq := hq.1 c4
      refine lv_aload_n hx hb dX9_isFreeFor_15 rfl (lv_at hl 0 rfl) ?_
      refine lv_iload_n hx hb dX9_isFreeFor_16 rfl (lv_at hl 2 rfl) ?_
      refine r_callV (T := TX9) (N := 6) (ci := 9) (index := 32) (n := 1) (d2 := 0) (mc := 0) (ms := 0) (As := [.int p2]) (rest := []) C hw (ct_X9_isSeenBy hq) kvX9_32 hq.1 (by decide) rfl ⟨by decide, by decide⟩ ⟨by decide, by decide⟩ rfl hl.1 rfl (Nat.le_of_ble_eq_true rfl) dX9_isFreeFor_17 (fun r M6 H locs hp hle hw => ?_)
      obtain ⟨v5, rfl, hq⟩ := hp
      refine W.eq (g2 := F0 m 20 ls [.int v5]) rfl ?_
      refine lv_if_ne (tgt := 27) hx hb dX9_isFreeFor_20 (by decide) (fun c7 => ?_) (fun c7 => ?_)
      · replace hq := hq.2 c7
        refine lv_iconst (v := 0) hx hb dX9_isFreeFor_27 (by decide) ?_
        exact r_zret C hr hlk hw dX9_isFreeFor_28 (Nat.le_refl _) (Nat.le_refl _) (by decide) ⟨_, rfl, hq⟩
      · replace hq := hq.1 c7
        refine lv_iconst (v := 1) hx hb dX9_isFreeFor_23 (by decide) ?_
        refine lv_goto (tgt := 28) hx hb dX9_isFreeFor_24 (by decide) ?_
        exact r_zret C hr hlk hw dX9_isFreeFor_28 (Nat.le_refl _) (Nat.le_refl _) (by decide) ⟨_, rfl, hq⟩

set_option maxRecDepth 100000 in
def wp_X9_hard  (g : Gh) (M0 : Mem) (a0 : Nat) (post : Int32 → Mem → Prop) : Prop :=
  okc (gB g) M0 a0 9 ∧ ((((mI M0 a0 2) ≤ 0) → post 50 M0) ∧ (¬ ((mI M0 a0 2) ≤ 0) → (¬ (mI M0 a0 2) = 0) ∧ (post (((mI M0 a0 3) * 100) / (mI M0 a0 2)) M0)))
set_option maxHeartbeats 4000000 in
set_option maxRecDepth 100000 in
theorem ct_X9_hard {l : Launch} {g : Gh} {M0 : Mem} {a0 : Nat} {post : Int32 → Mem → Prop}  (hq : wp_X9_hard  g M0 a0 post) : Ct l g yX9_hard cX9_hard 1 (some .int) 0 0 0 [.ref a0] M0 (pI post) := by
  unfold wp_X9_hard at hq
  obtain ⟨h0, hq⟩ := hq
  refine Ct.of (by decide) (Nat.le_of_ble_eq_true rfl) ?_
  intro p e s m below meth c ls C hr hlk hn hl hw
  have hx := C.1.1
  have hb := C.1.2.1
  have hl : lv_has ls 1 [(0, .ref a0)] := hl
  refine lv_aload_n hx hb dX9_hard_0 rfl (lv_at hl 0 rfl) ?_
  refine gfX9_19 C hw hw.2.2.1 h0 dX9_hard_1 ?_
  refine lv_if_le (tgt := 22) hx hb dX9_hard_4 (by decide) (fun c1 => ?_) (fun c1 => ?_)
  · replace hq := hq.1 c1
    refine lv_bipush (v := 50) hx hb dX9_hard_22 (by decide) ?_
    exact r_iret C hr hlk hw dX9_hard_24 (Nat.le_refl _) (Nat.le_refl _) ⟨_, rfl, hq⟩
  · replace hq := hq.2 c1
    refine lv_aload_n hx hb dX9_hard_7 rfl (lv_at hl 0 rfl) ?_
    refine gfX9_22 C hw hw.2.2.1 h0 dX9_hard_8 ?_
    refine lv_bipush (v := 100) hx hb dX9_hard_11 (by decide) ?_
    refine lv_imul hx hb dX9_hard_13 ?_
    refine lv_aload_n hx hb dX9_hard_14 rfl (lv_at hl 0 rfl) ?_
    refine gfX9_19 C hw hw.2.2.1 h0 dX9_hard_15 ?_
    obtain ⟨h2, hq⟩ := hq
    refine lv_idiv hx hb dX9_hard_18 h2 ?_
    refine lv_goto (tgt := 24) hx hb dX9_hard_19 (by decide) ?_
    exact r_iret C hr hlk hw dX9_hard_24 (Nat.le_refl _) (Nat.le_refl _) ⟨_, rfl, hq⟩

set_option maxRecDepth 100000 in
def bd_X8_gather_24  (g : Gh) (M0 : Mem) (a0 : Nat) (a1 : Nat) (p2 : Int32) (p3 : Int32) (p4 : Int32) (post : Mem → Prop)  (bk24 : Int32 × Mem → Prop) (x5 : Int32)  (M : Mem) : Prop :=
  ((p2 ≤ x5) → post M) ∧ (¬ (p2 ≤ x5) → okc (gB g) M0 a1 20 ∧ ((((nI (mN M0 a1)) ≤ x5) → post M) ∧ (¬ ((nI (mN M0 a1)) ≤ x5) → ∃ q4, mR M a0 4 = some q4 ∧ (okc (gB g) M0 q4 14 ∧ ((((nI (mN M0 q4)) ≤ (mI M a0 7)) → post M) ∧ (¬ ((nI (mN M0 q4)) ≤ (mI M a0 7)) → vp_in x5 (mN M0 a1) ∧ (∃ q9, mR M a1 (Int32.toNatClampNeg x5) = some q9 ∧ (wp_X9_isFreeFor g M q9 p3 p4 (fun v12 M13 => ((v12 = 0) → bk24 ((x5 + 1), M13)) ∧ (¬ (v12 = 0) → ∃ q15, mR M13 a0 4 = some q15 ∧ (okc (gB g) M0 q15 14 ∧ (vp_in (mI M13 a0 7) (mN M0 q15) ∧ (∀ M19, M19 = uI M13 q15 (Int32.toNatClampNeg (mI M13 a0 7)) x5 → (∃ q21, mR M19 a0 5 = some q21 ∧ (okc (gB g) M0 q9 9 ∧ (okc (gB g) M0 q21 14 ∧ (vp_in (mI M19 a0 7) (mN M0 q21) ∧ (∀ M26, M26 = uI M19 q21 (Int32.toNatClampNeg (mI M19 a0 7)) (mI M19 q9 0) → (∃ q28, mR M26 a0 6 = some q28 ∧ (wp_X9_hard g M26 q9 (fun v30 M31 => okc (gB g) M0 q28 14 ∧ (vp_in (mI M26 a0 7) (mN M0 q28) ∧ (∀ M34, M34 = uI M31 q28 (Int32.toNatClampNeg (mI M26 a0 7)) v30 → (∀ M36, M36 = uI M34 a0 7 ((mI M34 a0 7) + 1) → (bk24 ((x5 + 1), M36))))))))))))))))))))))))))
set_option maxRecDepth 100000 in
def wp_X8_gather  (g : Gh) (M0 : Mem) (a0 : Nat) (a1 : Nat) (p2 : Int32) (p3 : Int32) (p4 : Int32) (post : Mem → Prop) : Prop :=
  okc (gB g) M0 a0 8 ∧ (∀ M38, M38 = uI M0 a0 0 p3 → (∀ M40, M40 = uI M38 a0 1 p4 → (∀ M42, M42 = uI M40 a0 2 0 → (∀ M44, M44 = uI M42 a0 7 0 → ((∃ n : Nat, lfp (fun bk z => bd_X8_gather_24  g M0 a0 a1 p2 p3 p4 post  bk z.1 z.2) n (0, M44)))))))
set_option maxHeartbeats 4000000 in
set_option maxRecDepth 100000 in
theorem lp_X8_gather_24 {l : Launch} {g : Gh} {p : Program} {e : Env} {s : State} {m : MethodId} {args : Array Value} {below : List Frame} {meth : Method} {c : Code} {M0 : Mem} {a0 : Nat} {a1 : Nat} {p2 : Int32} {p3 : Int32} {p4 : Int32} {post : Mem → Prop}  (C : Cx g p s m args c cX8_gather 7 RX8) (hr : meth.sig.returnType = none) (hlk : meth.locks = false) (hn : meth.name = "gather") (h0 : okc (gB g) M0 a0 8)  : ∀ (nf : Nat) (x5 : Int32)  (M : Mem) (H : Heap) (locs : List Loc) (ls : Array Slot), lfp (fun bk z => bd_X8_gather_24  g M0 a0 a1 p2 p3 p4 post  bk z.1 z.2) nf (x5, M) → Wd g s M0 M H locs → lv_has ls 7 [(0, .ref a0), (1, .ref a1), (2, .int p2), (3, .int p3), (4, .int p4), (5, .int x5)] → W p l e (rmo 2 0 0) s m args below meth c H locs 0 0 (MQ below (Cq g M0 (pV post)) args s 0 0 (gA g)) (F0 m 24 ls []) := by
  have hx := C.1.1
  have hb := C.1.2.1
  intro nf
  induction nf with
  | zero => intro _ _ H locs ls hq; exact hq.elim
  | succ nf hk24 =>
    intro x5 M H locs ls hq hw hl
    replace hq : bd_X8_gather_24  g M0 a0 a1 p2 p3 p4 post  (lfp (fun bk z => bd_X8_gather_24  g M0 a0 a1 p2 p3 p4 post  bk z.1 z.2) nf) x5 M := hq
    unfold bd_X8_gather_24 at hq
    refine lv_iload hx hb dX8_gather_24 (lv_at hl 5 rfl) ?_
    refine lv_iload_n hx hb dX8_gather_26 rfl (lv_at hl 2 rfl) ?_
    refine lv_icmp_ge (tgt := 126) hx hb dX8_gather_27 (by decide) (fun c1 => ?_) (fun c1 => ?_)
    · replace hq := hq.1 c1
      exact r_vret C hr hlk hw dX8_gather_126 (Nat.le_refl _) (Nat.le_refl _) ⟨rfl, hq⟩
    · replace hq := hq.2 c1
      refine lv_iload hx hb dX8_gather_30 (lv_at hl 5 rfl) ?_
      refine lv_aload_n hx hb dX8_gather_32 rfl (lv_at hl 1 rfl) ?_
      obtain ⟨h2, hq⟩ := hq
      refine q_alen C hw hw.2.2.1 h2 (by decide) (by decide) rfl dX8_gather_33 ?_
      refine lv_icmp_ge (tgt := 126) hx hb dX8_gather_34 (by decide) (fun c3 => ?_) (fun c3 => ?_)
      · replace hq := hq.1 c3
        exact r_vret C hr hlk hw dX8_gather_126 (Nat.le_refl _) (Nat.le_refl _) ⟨rfl, hq⟩
      · replace hq := hq.2 c3
        refine lv_aload_n hx hb dX8_gather_37 rfl (lv_at hl 0 rfl) ?_
        refine gfX8_37 C hw hw.2.2.1 h0 dX8_gather_38 ?_
        refine lv_aload_n hx hb dX8_gather_41 rfl (lv_at hl 0 rfl) ?_
        obtain ⟨q4, e5, hq⟩ := hq
        refine gfX8_9 C hw hw.2.2.1 h0 e5 dX8_gather_42 ?_
        obtain ⟨h6, hq⟩ := hq
        refine q_alen C hw hw.2.2.1 h6 (by decide) (by decide) rfl dX8_gather_45 ?_
        refine lv_icmp_ge (tgt := 126) hx hb dX8_gather_46 (by decide) (fun c7 => ?_) (fun c7 => ?_)
        · replace hq := hq.1 c7
          exact r_vret C hr hlk hw dX8_gather_126 (Nat.le_refl _) (Nat.le_refl _) ⟨rfl, hq⟩
        · replace hq := hq.2 c7
          refine lv_aload_n hx hb dX8_gather_49 rfl (lv_at hl 1 rfl) ?_
          refine lv_iload hx hb dX8_gather_50 (lv_at hl 5 rfl) ?_
          obtain ⟨h8, hq⟩ := hq
          obtain ⟨q9, e10, hq⟩ := hq
          refine q_aald C hw hw.2.2.1 h2 (by decide) (by decide) rfl h8 e10 dX8_gather_52 ?_
          refine lv_astore (lv' := [(6, .ref q9), (0, .ref a0), (1, .ref a1), (2, .int p2), (3, .int p3), (4, .int p4), (5, .int x5)]) hx hb dX8_gather_53 hl (by decide) rfl (fun ls hl => ?_)
          refine lv_aload hx hb dX8_gather_55 (lv_at hl 0 rfl) ?_
          refine lv_ifnull hx hb dX8_gather_57 ?_
          refine lv_aload hx hb dX8_gather_60 (lv_at hl 0 rfl) ?_
          refine lv_iload_n hx hb dX8_gather_62 rfl (lv_at hl 4 rfl) ?_
          refine lv_iload hx hb dX8_gather_63 (lv_at hl 5 rfl) ?_
          refine r_callV (T := TX9) (N := 6) (ci := 9) (index := 40) (n := 2) (d2 := 1) (mc := 0) (ms := 0) (As := [.int p3, .int p4]) (rest := []) C hw (ct_X9_isFreeFor hq) kvX8_40 hq.1 (by decide) rfl ⟨by decide, by decide⟩ ⟨by decide, by decide⟩ rfl hl.1 rfl (Nat.le_of_ble_eq_true rfl) dX8_gather_65 (fun r M13 H locs hp hle hw => ?_)
          obtain ⟨v12, rfl, hq⟩ := hp
          refine W.eq (g2 := F0 m 68 ls [.int v12]) rfl ?_
          refine lv_if_eq (tgt := 120) hx hb dX8_gather_68 (by decide) (fun c14 => ?_) (fun c14 => ?_)
          · replace hq := hq.1 c14
            refine lv_iinc (v := (x5 + 1)) (lv' := [(5, .int (x5 + 1)), (6, .ref q9), (0, .ref a0), (1, .ref a1), (2, .int p2), (3, .int p3), (4, .int p4)]) hx hb dX8_gather_120 hl (k := 6) rfl rfl (by decide) rfl (fun ls hl => ?_)
            refine lv_goto (tgt := 24) hx hb dX8_gather_123 (by decide) ?_
            exact hk24 _ _ _ _ _ hq hw (lv_sub hl [2, 3, 4, 5, 6, 0] rfl)
          · replace hq := hq.2 c14
            refine lv_aload_n hx hb dX8_gather_71 rfl (lv_at hl 1 rfl) ?_
            obtain ⟨q15, e16, hq⟩ := hq
            refine gfX8_9 C hw hw.2.2.1 h0 e16 dX8_gather_72 ?_
            refine lv_aload_n hx hb dX8_gather_75 rfl (lv_at hl 1 rfl) ?_
            refine gfX8_37 C hw hw.2.2.1 h0 dX8_gather_76 ?_
            refine lv_iload hx hb dX8_gather_79 (lv_at hl 6 rfl) ?_
            obtain ⟨h17, hq⟩ := hq
            obtain ⟨h18, hq⟩ := hq
            refine q_iast C hw hw.2.2.1 h17 h18 dX8_gather_81 (fun H locs hw => ?_)
            generalize e20 : uI M13 q15 (Int32.toNatClampNeg (mI M13 a0 7)) x5 = M19 at hw
            replace hq := hq M19 e20.symm
            have e16 : mR M19 a0 4 = some q15 := by rw [← e20, mR_uI]; exact e16
            refine lv_aload_n hx hb dX8_gather_82 rfl (lv_at hl 1 rfl) ?_
            obtain ⟨q21, e22, hq⟩ := hq
            refine gfX8_15 C hw hw.2.2.1 h0 e22 dX8_gather_83 ?_
            refine lv_aload_n hx hb dX8_gather_86 rfl (lv_at hl 1 rfl) ?_
            refine gfX8_37 C hw hw.2.2.1 h0 dX8_gather_87 ?_
            refine lv_aload hx hb dX8_gather_90 (lv_at hl 0 rfl) ?_
            obtain ⟨h23, hq⟩ := hq
            refine gfX8_46 C hw hw.2.2.1 h23 dX8_gather_92 ?_
            obtain ⟨h24, hq⟩ := hq
            obtain ⟨h25, hq⟩ := hq
            refine q_iast C hw hw.2.2.1 h24 h25 dX8_gather_95 (fun H locs hw => ?_)
            generalize e27 : uI M19 q21 (Int32.toNatClampNeg (mI M19 a0 7)) (mI M19 q9 0) = M26 at hw
            replace hq := hq M26 e27.symm
            have e16 : mR M26 a0 4 = some q15 := by rw [← e27, mR_uI]; exact e16
            have e22 : mR M26 a0 5 = some q21 := by rw [← e27, mR_uI]; exact e22
            refine lv_aload_n hx hb dX8_gather_96 rfl (lv_at hl 1 rfl) ?_
            obtain ⟨q28, e29, hq⟩ := hq
            refine gfX8_18 C hw hw.2.2.1 h0 e29 dX8_gather_97 ?_
            refine lv_aload_n hx hb dX8_gather_100 rfl (lv_at hl 1 rfl) ?_
            refine gfX8_37 C hw hw.2.2.1 h0 dX8_gather_101 ?_
            refine lv_aload hx hb dX8_gather_104 (lv_at hl 0 rfl) ?_
            refine r_callV (T := TX9) (N := 6) (ci := 9) (index := 49) (n := 0) (d2 := 0) (mc := 0) (ms := 0) (As := []) (rest := [.int (mI M26 a0 7), .ref q28]) C hw (ct_X9_hard hq) kvX8_49 hq.1 (by decide) rfl ⟨by decide, by decide⟩ ⟨by decide, by decide⟩ rfl hl.1 rfl (Nat.le_of_ble_eq_true rfl) dX8_gather_106 (fun r M31 H locs hp hle hw => ?_)
            obtain ⟨v30, rfl, hq⟩ := hp
            refine W.eq (g2 := F0 m 109 ls [.int v30, .int (mI M26 a0 7), .ref q28]) rfl ?_
            obtain ⟨h32, hq⟩ := hq
            obtain ⟨h33, hq⟩ := hq
            refine q_iast C hw hw.2.2.1 h32 h33 dX8_gather_109 (fun H locs hw => ?_)
            generalize e35 : uI M31 q28 (Int32.toNatClampNeg (mI M26 a0 7)) v30 = M34 at hw
            replace hq := hq M34 e35.symm
            refine lv_aload_n hx hb dX8_gather_110 rfl (lv_at hl 1 rfl) ?_
            refine lv_dup hx hb dX8_gather_111 rfl ?_
            refine gfX8_37 C hw hw.2.2.1 h0 dX8_gather_112 ?_
            refine lv_iconst (v := 1) hx hb dX8_gather_115 (by decide) ?_
            refine lv_iadd hx hb dX8_gather_116 ?_
            refine pfX8_37 C hw hw.2.2.1 h0 dX8_gather_117 (fun H locs hw => ?_)
            generalize e37 : uI M34 a0 7 ((mI M34 a0 7) + 1) = M36 at hw
            replace hq := hq M36 e37.symm
            refine lv_iinc (v := (x5 + 1)) (lv' := [(5, .int (x5 + 1)), (6, .ref q9), (0, .ref a0), (1, .ref a1), (2, .int p2), (3, .int p3), (4, .int p4)]) hx hb dX8_gather_120 hl (k := 6) rfl rfl (by decide) rfl (fun ls hl => ?_)
            refine lv_goto (tgt := 24) hx hb dX8_gather_123 (by decide) ?_
            exact hk24 _ _ _ _ _ hq hw (lv_sub hl [2, 3, 4, 5, 6, 0] rfl)
set_option maxHeartbeats 4000000 in
set_option maxRecDepth 100000 in
theorem ct_X8_gather {l : Launch} {g : Gh} {M0 : Mem} {a0 : Nat} {a1 : Nat} {p2 : Int32} {p3 : Int32} {p4 : Int32} {post : Mem → Prop}  (hq : wp_X8_gather  g M0 a0 a1 p2 p3 p4 post) : Ct l g yX8_gather cX8_gather 7 none 2 0 0 [.ref a0, .ref a1, .int p2, .int p3, .int p4] M0 (pV post) := by
  unfold wp_X8_gather at hq
  obtain ⟨h0, hq⟩ := hq
  refine Ct.of (by decide) (Nat.le_of_ble_eq_true rfl) ?_
  intro p e s m below meth c ls C hr hlk hn hl hw
  have hx := C.1.1
  have hb := C.1.2.1
  have hl : lv_has ls 7 [(0, .ref a0), (1, .ref a1), (2, .int p2), (3, .int p3), (4, .int p4)] := hl
  refine lv_aload_n hx hb dX8_gather_0 rfl (lv_at hl 0 rfl) ?_
  refine lv_iload_n hx hb dX8_gather_1 rfl (lv_at hl 3 rfl) ?_
  refine pfX8_27 C hw hw.2.2.1 h0 dX8_gather_2 (fun H locs hw => ?_)
  generalize e39 : uI M0 a0 0 p3 = M38 at hw
  replace hq := hq M38 e39.symm
  refine lv_aload_n hx hb dX8_gather_5 rfl (lv_at hl 0 rfl) ?_
  refine lv_iload hx hb dX8_gather_6 (lv_at hl 4 rfl) ?_
  refine pfX8_31 C hw hw.2.2.1 h0 dX8_gather_8 (fun H locs hw => ?_)
  generalize e41 : uI M38 a0 1 p4 = M40 at hw
  replace hq := hq M40 e41.symm
  refine lv_aload_n hx hb dX8_gather_11 rfl (lv_at hl 0 rfl) ?_
  refine lv_iconst (v := 0) hx hb dX8_gather_12 (by decide) ?_
  refine pfX8_34 C hw hw.2.2.1 h0 dX8_gather_13 (fun H locs hw => ?_)
  generalize e43 : uI M40 a0 2 0 = M42 at hw
  replace hq := hq M42 e43.symm
  refine lv_aload_n hx hb dX8_gather_16 rfl (lv_at hl 0 rfl) ?_
  refine lv_iconst (v := 0) hx hb dX8_gather_17 (by decide) ?_
  refine pfX8_37 C hw hw.2.2.1 h0 dX8_gather_18 (fun H locs hw => ?_)
  generalize e45 : uI M42 a0 7 0 = M44 at hw
  replace hq := hq M44 e45.symm
  refine lv_iconst (v := 0) hx hb dX8_gather_21 (by decide) ?_
  refine lv_istore (lv' := [(5, .int 0), (0, .ref a0), (1, .ref a1), (2, .int p2), (3, .int p3), (4, .int p4)]) hx hb dX8_gather_22 hl (by decide) rfl (fun ls hl => ?_)
  obtain ⟨nf, hq⟩ := hq
  exact lp_X8_gather_24  C hr hlk hn h0  nf _ _ _ _ _ hq hw (lv_sub hl [1, 2, 3, 4, 5, 0] rfl)

set_option maxRecDepth 100000 in
def wp_X8_setBounds  (g : Gh) (M0 : Mem) (a0 : Nat) (p1 : Int32) (p2 : Int32) (p3 : Int32) (post : Mem → Prop) : Prop :=
  okc (gB g) M0 a0 8 ∧ (∀ M1, M1 = uI M0 a0 12 p1 → (∀ M3, M3 = uI M1 a0 13 p2 → (∀ M5, M5 = uI M3 a0 14 p3 → (post M5))))
set_option maxHeartbeats 4000000 in
set_option maxRecDepth 100000 in
theorem ct_X8_setBounds {l : Launch} {g : Gh} {M0 : Mem} {a0 : Nat} {p1 : Int32} {p2 : Int32} {p3 : Int32} {post : Mem → Prop}  (hq : wp_X8_setBounds  g M0 a0 p1 p2 p3 post) : Ct l g yX8_setBounds cX8_setBounds 4 none 0 0 0 [.ref a0, .int p1, .int p2, .int p3] M0 (pV post) := by
  unfold wp_X8_setBounds at hq
  obtain ⟨h0, hq⟩ := hq
  refine Ct.of (by decide) (Nat.le_of_ble_eq_true rfl) ?_
  intro p e s m below meth c ls C hr hlk hn hl hw
  have hx := C.1.1
  have hb := C.1.2.1
  have hl : lv_has ls 4 [(0, .ref a0), (1, .int p1), (2, .int p2), (3, .int p3)] := hl
  refine lv_aload_n hx hb dX8_setBounds_0 rfl (lv_at hl 0 rfl) ?_
  refine lv_iload_n hx hb dX8_setBounds_1 rfl (lv_at hl 1 rfl) ?_
  refine pfX8_53 C hw hw.2.2.1 h0 dX8_setBounds_2 (fun H locs hw => ?_)
  generalize e2 : uI M0 a0 12 p1 = M1 at hw
  replace hq := hq M1 e2.symm
  refine lv_aload_n hx hb dX8_setBounds_5 rfl (lv_at hl 0 rfl) ?_
  refine lv_iload_n hx hb dX8_setBounds_6 rfl (lv_at hl 2 rfl) ?_
  refine pfX8_56 C hw hw.2.2.1 h0 dX8_setBounds_7 (fun H locs hw => ?_)
  generalize e4 : uI M1 a0 13 p2 = M3 at hw
  replace hq := hq M3 e4.symm
  refine lv_aload_n hx hb dX8_setBounds_10 rfl (lv_at hl 0 rfl) ?_
  refine lv_iload_n hx hb dX8_setBounds_11 rfl (lv_at hl 3 rfl) ?_
  refine pfX8_59 C hw hw.2.2.1 h0 dX8_setBounds_12 (fun H locs hw => ?_)
  generalize e6 : uI M3 a0 14 p3 = M5 at hw
  replace hq := hq M5 e6.symm
  exact r_vret C hr hlk hw dX8_setBounds_15 (Nat.le_refl _) (Nat.le_refl _) ⟨rfl, hq⟩

set_option maxRecDepth 100000 in
def bd_X8_nextWithRoom_2  (g : Gh) (M0 : Mem) (a0 : Nat) (p1 : Int32) (post : Int32 → Mem → Prop)  (bk2 : Int32 × Mem → Prop) (x2 : Int32)  (M : Mem) : Prop :=
  ((x2 < 0) → post (mI M a0 7) M) ∧ (¬ (x2 < 0) → (((mI M a0 7) ≤ x2) → post (mI M a0 7) M) ∧ (¬ ((mI M a0 7) ≤ x2) → ∃ q3, mR M a0 5 = some q3 ∧ (okc (gB g) M0 q3 14 ∧ ((((nI (mN M0 q3)) ≤ x2) → post (mI M a0 7) M) ∧ (¬ ((nI (mN M0 q3)) ≤ x2) → vp_in x2 (mN M0 q3) ∧ ((((mI M q3 (Int32.toNatClampNeg x2)) < 0) → bk2 ((x2 + 1), M)) ∧ (¬ ((mI M q3 (Int32.toNatClampNeg x2)) < 0) → ((8 ≤ (mI M q3 (Int32.toNatClampNeg x2))) → bk2 ((x2 + 1), M)) ∧ (¬ (8 ≤ (mI M q3 (Int32.toNatClampNeg x2))) → ∃ q10, mR M a0 10 = some q10 ∧ (okc (gB g) M0 q10 14 ∧ (vp_in (mI M q3 (Int32.toNatClampNeg x2)) (mN M0 q10) ∧ ((((mI M a0 12) ≤ (mI M q10 (Int32.toNatClampNeg (mI M q3 (Int32.toNatClampNeg x2))))) → bk2 ((x2 + 1), M)) ∧ (¬ ((mI M a0 12) ≤ (mI M q10 (Int32.toNatClampNeg (mI M q3 (Int32.toNatClampNeg x2))))) → post x2 M))))))))))))
set_option maxRecDepth 100000 in
def wp_X8_nextWithRoom  (g : Gh) (M0 : Mem) (a0 : Nat) (p1 : Int32) (post : Int32 → Mem → Prop) : Prop :=
  okc (gB g) M0 a0 8 ∧ ((∃ n : Nat, lfp (fun bk z => bd_X8_nextWithRoom_2  g M0 a0 p1 post  bk z.1 z.2) n (p1, M0)))
set_option maxHeartbeats 4000000 in
set_option maxRecDepth 100000 in
theorem lp_X8_nextWithRoom_2 {l : Launch} {g : Gh} {p : Program} {e : Env} {s : State} {m : MethodId} {args : Array Value} {below : List Frame} {meth : Method} {c : Code} {M0 : Mem} {a0 : Nat} {p1 : Int32} {post : Int32 → Mem → Prop}  (C : Cx g p s m args c cX8_nextWithRoom 4 RX8) (hr : meth.sig.returnType = (some .int)) (hlk : meth.locks = false) (hn : meth.name = "nextWithRoom") (h0 : okc (gB g) M0 a0 8)  : ∀ (nf : Nat) (x2 : Int32)  (M : Mem) (H : Heap) (locs : List Loc) (ls : Array Slot), lfp (fun bk z => bd_X8_nextWithRoom_2  g M0 a0 p1 post  bk z.1 z.2) nf (x2, M) → Wd g s M0 M H locs → lv_has ls 4 [(0, .ref a0), (1, .int p1), (2, .int x2)] → W p l e (rmo 0 0 0) s m args below meth c H locs 0 0 (MQ below (Cq g M0 (pI post)) args s 0 0 (gA g)) (F0 m 2 ls []) := by
  have hx := C.1.1
  have hb := C.1.2.1
  intro nf
  induction nf with
  | zero => intro _ _ H locs ls hq; exact hq.elim
  | succ nf hk2 =>
    intro x2 M H locs ls hq hw hl
    replace hq : bd_X8_nextWithRoom_2  g M0 a0 p1 post  (lfp (fun bk z => bd_X8_nextWithRoom_2  g M0 a0 p1 post  bk z.1 z.2) nf) x2 M := hq
    unfold bd_X8_nextWithRoom_2 at hq
    refine lv_iload_n hx hb dX8_nextWithRoom_2 rfl (lv_at hl 2 rfl) ?_
    refine lv_if_lt (tgt := 61) hx hb dX8_nextWithRoom_3 (by decide) (fun c1 => ?_) (fun c1 => ?_)
    · replace hq := hq.1 c1
      refine lv_aload_n hx hb dX8_nextWithRoom_61 rfl (lv_at hl 0 rfl) ?_
      refine gfX8_37 C hw hw.2.2.1 h0 dX8_nextWithRoom_62 ?_
      exact r_iret C hr hlk hw dX8_nextWithRoom_65 (Nat.le_refl _) (Nat.le_refl _) ⟨_, rfl, hq⟩
    · replace hq := hq.2 c1
      refine lv_iload_n hx hb dX8_nextWithRoom_6 rfl (lv_at hl 2 rfl) ?_
      refine lv_aload_n hx hb dX8_nextWithRoom_7 rfl (lv_at hl 0 rfl) ?_
      refine gfX8_37 C hw hw.2.2.1 h0 dX8_nextWithRoom_8 ?_
      refine lv_icmp_ge (tgt := 61) hx hb dX8_nextWithRoom_11 (by decide) (fun c2 => ?_) (fun c2 => ?_)
      · replace hq := hq.1 c2
        refine lv_aload_n hx hb dX8_nextWithRoom_61 rfl (lv_at hl 0 rfl) ?_
        refine gfX8_37 C hw hw.2.2.1 h0 dX8_nextWithRoom_62 ?_
        exact r_iret C hr hlk hw dX8_nextWithRoom_65 (Nat.le_refl _) (Nat.le_refl _) ⟨_, rfl, hq⟩
      · replace hq := hq.2 c2
        refine lv_iload_n hx hb dX8_nextWithRoom_14 rfl (lv_at hl 2 rfl) ?_
        refine lv_aload_n hx hb dX8_nextWithRoom_15 rfl (lv_at hl 0 rfl) ?_
        obtain ⟨q3, e4, hq⟩ := hq
        refine gfX8_15 C hw hw.2.2.1 h0 e4 dX8_nextWithRoom_16 ?_
        obtain ⟨h5, hq⟩ := hq
        refine q_alen C hw hw.2.2.1 h5 (by decide) (by decide) rfl dX8_nextWithRoom_19 ?_
        refine lv_icmp_ge (tgt := 61) hx hb dX8_nextWithRoom_20 (by decide) (fun c6 => ?_) (fun c6 => ?_)
        · replace hq := hq.1 c6
          refine lv_aload_n hx hb dX8_nextWithRoom_61 rfl (lv_at hl 0 rfl) ?_
          refine gfX8_37 C hw hw.2.2.1 h0 dX8_nextWithRoom_62 ?_
          exact r_iret C hr hlk hw dX8_nextWithRoom_65 (Nat.le_refl _) (Nat.le_refl _) ⟨_, rfl, hq⟩
        · replace hq := hq.2 c6
          refine lv_aload_n hx hb dX8_nextWithRoom_23 rfl (lv_at hl 0 rfl) ?_
          refine gfX8_15 C hw hw.2.2.1 h0 e4 dX8_nextWithRoom_24 ?_
          refine lv_iload_n hx hb dX8_nextWithRoom_27 rfl (lv_at hl 2 rfl) ?_
          obtain ⟨h7, hq⟩ := hq
          refine q_iald C hw hw.2.2.1 h5 h7 dX8_nextWithRoom_28 ?_
          refine lv_istore_n (lv' := [(3, .int (mI M q3 (Int32.toNatClampNeg x2))), (0, .ref a0), (1, .int p1), (2, .int x2)]) hx hb dX8_nextWithRoom_29 rfl hl (by decide) rfl (fun ls hl => ?_)
          refine lv_iload_n hx hb dX8_nextWithRoom_30 rfl (lv_at hl 0 rfl) ?_
          refine lv_if_lt (tgt := 55) hx hb dX8_nextWithRoom_31 (by decide) (fun c8 => ?_) (fun c8 => ?_)
          · replace hq := hq.1 c8
            refine lv_iinc (v := (x2 + 1)) (lv' := [(2, .int (x2 + 1)), (3, .int (mI M q3 (Int32.toNatClampNeg x2))), (0, .ref a0), (1, .int p1)]) hx hb dX8_nextWithRoom_55 hl (k := 3) rfl rfl (by decide) rfl (fun ls hl => ?_)
            refine lv_goto (tgt := 2) hx hb dX8_nextWithRoom_58 (by decide) ?_
            exact hk2 _ _ _ _ _ hq hw (lv_sub hl [2, 3, 0] rfl)
          · replace hq := hq.2 c8
            refine lv_iload_n hx hb dX8_nextWithRoom_34 rfl (lv_at hl 0 rfl) ?_
            refine lv_bipush (v := 8) hx hb dX8_nextWithRoom_35 (by decide) ?_
            refine lv_icmp_ge (tgt := 55) hx hb dX8_nextWithRoom_37 (by decide) (fun c9 => ?_) (fun c9 => ?_)
            · replace hq := hq.1 c9
              refine lv_iinc (v := (x2 + 1)) (lv' := [(2, .int (x2 + 1)), (3, .int (mI M q3 (Int32.toNatClampNeg x2))), (0, .ref a0), (1, .int p1)]) hx hb dX8_nextWithRoom_55 hl (k := 3) rfl rfl (by decide) rfl (fun ls hl => ?_)
              refine lv_goto (tgt := 2) hx hb dX8_nextWithRoom_58 (by decide) ?_
              exact hk2 _ _ _ _ _ hq hw (lv_sub hl [2, 3, 0] rfl)
            · replace hq := hq.2 c9
              refine lv_aload_n hx hb dX8_nextWithRoom_40 rfl (lv_at hl 1 rfl) ?_
              obtain ⟨q10, e11, hq⟩ := hq
              refine gfX8_24 C hw hw.2.2.1 h0 e11 dX8_nextWithRoom_41 ?_
              refine lv_iload_n hx hb dX8_nextWithRoom_44 rfl (lv_at hl 0 rfl) ?_
              obtain ⟨h12, hq⟩ := hq
              obtain ⟨h13, hq⟩ := hq
              refine q_iald C hw hw.2.2.1 h12 h13 dX8_nextWithRoom_45 ?_
              refine lv_aload_n hx hb dX8_nextWithRoom_46 rfl (lv_at hl 1 rfl) ?_
              refine gfX8_53 C hw hw.2.2.1 h0 dX8_nextWithRoom_47 ?_
              refine lv_icmp_ge (tgt := 55) hx hb dX8_nextWithRoom_50 (by decide) (fun c14 => ?_) (fun c14 => ?_)
              · replace hq := hq.1 c14
                refine lv_iinc (v := (x2 + 1)) (lv' := [(2, .int (x2 + 1)), (3, .int (mI M q3 (Int32.toNatClampNeg x2))), (0, .ref a0), (1, .int p1)]) hx hb dX8_nextWithRoom_55 hl (k := 3) rfl rfl (by decide) rfl (fun ls hl => ?_)
                refine lv_goto (tgt := 2) hx hb dX8_nextWithRoom_58 (by decide) ?_
                exact hk2 _ _ _ _ _ hq hw (lv_sub hl [2, 3, 0] rfl)
              · replace hq := hq.2 c14
                refine lv_iload_n hx hb dX8_nextWithRoom_53 rfl (lv_at hl 3 rfl) ?_
                exact r_iret C hr hlk hw dX8_nextWithRoom_54 (Nat.le_refl _) (Nat.le_refl _) ⟨_, rfl, hq⟩
set_option maxHeartbeats 4000000 in
set_option maxRecDepth 100000 in
theorem ct_X8_nextWithRoom {l : Launch} {g : Gh} {M0 : Mem} {a0 : Nat} {p1 : Int32} {post : Int32 → Mem → Prop}  (hq : wp_X8_nextWithRoom  g M0 a0 p1 post) : Ct l g yX8_nextWithRoom cX8_nextWithRoom 4 (some .int) 0 0 0 [.ref a0, .int p1] M0 (pI post) := by
  unfold wp_X8_nextWithRoom at hq
  obtain ⟨h0, hq⟩ := hq
  refine Ct.of (by decide) (Nat.le_of_ble_eq_true rfl) ?_
  intro p e s m below meth c ls C hr hlk hn hl hw
  have hx := C.1.1
  have hb := C.1.2.1
  have hl : lv_has ls 4 [(0, .ref a0), (1, .int p1)] := hl
  refine lv_iload_n hx hb dX8_nextWithRoom_0 rfl (lv_at hl 1 rfl) ?_
  refine lv_istore_n (lv' := [(2, .int p1), (0, .ref a0), (1, .int p1)]) hx hb dX8_nextWithRoom_1 rfl hl (by decide) rfl (fun ls hl => ?_)
  obtain ⟨nf, hq⟩ := hq
  exact lp_X8_nextWithRoom_2  C hr hlk hn h0  nf _ _ _ _ _ hq hw (lv_sub hl [1, 2, 0] rfl)

set_option maxRecDepth 100000 in
def wp_X8_weigh  (g : Gh) (M0 : Mem) (a0 : Nat) (p1 : Int32) (p2 : Int32) (post : Mem → Prop) : Prop :=
  okc (gB g) M0 a0 8 ∧ (((p1 < 0) → post M0) ∧ (¬ (p1 < 0) → ∃ q2, mR M0 a0 5 = some q2 ∧ (okc (gB g) M0 q2 14 ∧ ((((nI (mN M0 q2)) ≤ p1) → post M0) ∧ (¬ ((nI (mN M0 q2)) ≤ p1) → vp_in p1 (mN M0 q2) ∧ ((((mI M0 q2 (Int32.toNatClampNeg p1)) < 0) → post M0) ∧ (¬ ((mI M0 q2 (Int32.toNatClampNeg p1)) < 0) → ((8 ≤ (mI M0 q2 (Int32.toNatClampNeg p1))) → post M0) ∧ (¬ (8 ≤ (mI M0 q2 (Int32.toNatClampNeg p1))) → ∃ q9, mR M0 a0 10 = some q9 ∧ (okc (gB g) M0 q9 14 ∧ (vp_in (mI M0 q2 (Int32.toNatClampNeg p1)) (mN M0 q9) ∧ (∀ M13, M13 = uI M0 q9 (Int32.toNatClampNeg (mI M0 q2 (Int32.toNatClampNeg p1))) ((mI M0 q9 (Int32.toNatClampNeg (mI M0 q2 (Int32.toNatClampNeg p1)))) + p2) → (∃ q15, mR M13 a0 6 = some q15 ∧ (okc (gB g) M0 q15 14 ∧ (vp_in p1 (mN M0 q15) ∧ (∀ M19, M19 = uI M13 a0 11 ((mI M13 a0 11) + (p2 * (mI M13 q15 (Int32.toNatClampNeg p1)))) → (post M19))))))))))))))))
set_option maxHeartbeats 4000000 in
set_option maxRecDepth 100000 in
theorem ct_X8_weigh {l : Launch} {g : Gh} {M0 : Mem} {a0 : Nat} {p1 : Int32} {p2 : Int32} {post : Mem → Prop}  (hq : wp_X8_weigh  g M0 a0 p1 p2 post) : Ct l g yX8_weigh cX8_weigh 3 none 0 0 0 [.ref a0, .int p1, .int p2] M0 (pV post) := by
  unfold wp_X8_weigh at hq
  obtain ⟨h0, hq⟩ := hq
  refine Ct.of (by decide) (Nat.le_of_ble_eq_true rfl) ?_
  intro p e s m below meth c ls C hr hlk hn hl hw
  have hx := C.1.1
  have hb := C.1.2.1
  have hl : lv_has ls 3 [(0, .ref a0), (1, .int p1), (2, .int p2)] := hl
  refine lv_iload_n hx hb dX8_weigh_0 rfl (lv_at hl 1 rfl) ?_
  refine lv_if_lt (tgt := 65) hx hb dX8_weigh_1 (by decide) (fun c1 => ?_) (fun c1 => ?_)
  · replace hq := hq.1 c1
    exact r_vret C hr hlk hw dX8_weigh_65 (Nat.le_refl _) (Nat.le_refl _) ⟨rfl, hq⟩
  · replace hq := hq.2 c1
    refine lv_iload_n hx hb dX8_weigh_4 rfl (lv_at hl 1 rfl) ?_
    refine lv_aload_n hx hb dX8_weigh_5 rfl (lv_at hl 0 rfl) ?_
    obtain ⟨q2, e3, hq⟩ := hq
    refine gfX8_15 C hw hw.2.2.1 h0 e3 dX8_weigh_6 ?_
    obtain ⟨h4, hq⟩ := hq
    refine q_alen C hw hw.2.2.1 h4 (by decide) (by decide) rfl dX8_weigh_9 ?_
    refine lv_icmp_ge (tgt := 65) hx hb dX8_weigh_10 (by decide) (fun c5 => ?_) (fun c5 => ?_)
    · replace hq := hq.1 c5
      exact r_vret C hr hlk hw dX8_weigh_65 (Nat.le_refl _) (Nat.le_refl _) ⟨rfl, hq⟩
    · replace hq := hq.2 c5
      refine lv_aload_n hx hb dX8_weigh_13 rfl (lv_at hl 0 rfl) ?_
      refine gfX8_15 C hw hw.2.2.1 h0 e3 dX8_weigh_14 ?_
      refine lv_iload_n hx hb dX8_weigh_17 rfl (lv_at hl 1 rfl) ?_
      obtain ⟨h6, hq⟩ := hq
      refine q_iald C hw hw.2.2.1 h4 h6 dX8_weigh_18 ?_
      refine lv_if_lt (tgt := 65) hx hb dX8_weigh_19 (by decide) (fun c7 => ?_) (fun c7 => ?_)
      · replace hq := hq.1 c7
        exact r_vret C hr hlk hw dX8_weigh_65 (Nat.le_refl _) (Nat.le_refl _) ⟨rfl, hq⟩
      · replace hq := hq.2 c7
        refine lv_aload_n hx hb dX8_weigh_22 rfl (lv_at hl 0 rfl) ?_
        refine gfX8_15 C hw hw.2.2.1 h0 e3 dX8_weigh_23 ?_
        refine lv_iload_n hx hb dX8_weigh_26 rfl (lv_at hl 1 rfl) ?_
        refine q_iald C hw hw.2.2.1 h4 h6 dX8_weigh_27 ?_
        refine lv_bipush (v := 8) hx hb dX8_weigh_28 (by decide) ?_
        refine lv_icmp_ge (tgt := 65) hx hb dX8_weigh_30 (by decide) (fun c8 => ?_) (fun c8 => ?_)
        · replace hq := hq.1 c8
          exact r_vret C hr hlk hw dX8_weigh_65 (Nat.le_refl _) (Nat.le_refl _) ⟨rfl, hq⟩
        · replace hq := hq.2 c8
          refine lv_aload_n hx hb dX8_weigh_33 rfl (lv_at hl 0 rfl) ?_
          obtain ⟨q9, e10, hq⟩ := hq
          refine gfX8_24 C hw hw.2.2.1 h0 e10 dX8_weigh_34 ?_
          refine lv_aload_n hx hb dX8_weigh_37 rfl (lv_at hl 0 rfl) ?_
          refine gfX8_15 C hw hw.2.2.1 h0 e3 dX8_weigh_38 ?_
          refine lv_iload_n hx hb dX8_weigh_41 rfl (lv_at hl 1 rfl) ?_
          refine q_iald C hw hw.2.2.1 h4 h6 dX8_weigh_42 ?_
          refine lv_dup2_11 hx hb dX8_weigh_43 rfl rfl ?_
          obtain ⟨h11, hq⟩ := hq
          obtain ⟨h12, hq⟩ := hq
          refine q_iald C hw hw.2.2.1 h11 h12 dX8_weigh_44 ?_
          refine lv_iload_n hx hb dX8_weigh_45 rfl (lv_at hl 2 rfl) ?_
          refine lv_iadd hx hb dX8_weigh_46 ?_
          refine q_iast C hw hw.2.2.1 h11 h12 dX8_weigh_47 (fun H locs hw => ?_)
          generalize e14 : uI M0 q9 (Int32.toNatClampNeg (mI M0 q2 (Int32.toNatClampNeg p1))) ((mI M0 q9 (Int32.toNatClampNeg (mI M0 q2 (Int32.toNatClampNeg p1)))) + p2) = M13 at hw
          replace hq := hq M13 e14.symm
          have e3 : mR M13 a0 5 = some q2 := by rw [← e14, mR_uI]; exact e3
          have e10 : mR M13 a0 10 = some q9 := by rw [← e14, mR_uI]; exact e10
          refine lv_aload_n hx hb dX8_weigh_48 rfl (lv_at hl 0 rfl) ?_
          refine lv_dup hx hb dX8_weigh_49 rfl ?_
          refine gfX8_65 C hw hw.2.2.1 h0 dX8_weigh_50 ?_
          refine lv_iload_n hx hb dX8_weigh_53 rfl (lv_at hl 2 rfl) ?_
          refine lv_aload_n hx hb dX8_weigh_54 rfl (lv_at hl 0 rfl) ?_
          obtain ⟨q15, e16, hq⟩ := hq
          refine gfX8_18 C hw hw.2.2.1 h0 e16 dX8_weigh_55 ?_
          refine lv_iload_n hx hb dX8_weigh_58 rfl (lv_at hl 1 rfl) ?_
          obtain ⟨h17, hq⟩ := hq
          obtain ⟨h18, hq⟩ := hq
          refine q_iald C hw hw.2.2.1 h17 h18 dX8_weigh_59 ?_
          refine lv_imul hx hb dX8_weigh_60 ?_
          refine lv_iadd hx hb dX8_weigh_61 ?_
          refine pfX8_65 C hw hw.2.2.1 h0 dX8_weigh_62 (fun H locs hw => ?_)
          generalize e20 : uI M13 a0 11 ((mI M13 a0 11) + (p2 * (mI M13 q15 (Int32.toNatClampNeg p1)))) = M19 at hw
          replace hq := hq M19 e20.symm
          have e3 : mR M19 a0 5 = some q2 := by rw [← e20, mR_uI]; exact e3
          have e10 : mR M19 a0 10 = some q9 := by rw [← e20, mR_uI]; exact e10
          have e16 : mR M19 a0 6 = some q15 := by rw [← e20, mR_uI]; exact e16
          exact r_vret C hr hlk hw dX8_weigh_65 (Nat.le_refl _) (Nat.le_refl _) ⟨rfl, hq⟩

set_option maxRecDepth 100000 in
def wp_X8_putIn  (g : Gh) (M0 : Mem) (a0 : Nat) (p1 : Int32) (post : Mem → Prop) : Prop :=
  okc (gB g) M0 a0 8 ∧ (∃ q1, mR M0 a0 8 = some q1 ∧ (okc (gB g) M0 q1 14 ∧ ((((nI (mN M0 q1)) ≤ (mI M0 a0 9)) → post M0) ∧ (¬ ((nI (mN M0 q1)) ≤ (mI M0 a0 9)) → ∀ M5, M5 = uI M0 a0 3 ((mI M0 a0 3) + 1) → (vp_in (mI M5 a0 9) (mN M0 q1) ∧ (∀ M8, M8 = uI M5 q1 (Int32.toNatClampNeg (mI M5 a0 9)) p1 → (∀ M10, M10 = uI M8 a0 9 ((mI M8 a0 9) + 1) → (wp_X8_weigh g M10 a0 p1 1 (fun M13 => post M13)))))))))
set_option maxHeartbeats 4000000 in
set_option maxRecDepth 100000 in
theorem ct_X8_putIn {l : Launch} {g : Gh} {M0 : Mem} {a0 : Nat} {p1 : Int32} {post : Mem → Prop}  (hq : wp_X8_putIn  g M0 a0 p1 post) : Ct l g yX8_putIn cX8_putIn 2 none 1 0 0 [.ref a0, .int p1] M0 (pV post) := by
  unfold wp_X8_putIn at hq
  obtain ⟨h0, hq⟩ := hq
  refine Ct.of (by decide) (Nat.le_of_ble_eq_true rfl) ?_
  intro p e s m below meth c ls C hr hlk hn hl hw
  have hx := C.1.1
  have hb := C.1.2.1
  have hl : lv_has ls 2 [(0, .ref a0), (1, .int p1)] := hl
  refine lv_aload_n hx hb dX8_putIn_0 rfl (lv_at hl 0 rfl) ?_
  refine gfX8_62 C hw hw.2.2.1 h0 dX8_putIn_1 ?_
  refine lv_aload_n hx hb dX8_putIn_4 rfl (lv_at hl 0 rfl) ?_
  obtain ⟨q1, e2, hq⟩ := hq
  refine gfX8_21 C hw hw.2.2.1 h0 e2 dX8_putIn_5 ?_
  obtain ⟨h3, hq⟩ := hq
  refine q_alen C hw hw.2.2.1 h3 (by decide) (by decide) rfl dX8_putIn_8 ?_
  refine lv_icmp_ge (tgt := 48) hx hb dX8_putIn_9 (by decide) (fun c4 => ?_) (fun c4 => ?_)
  · replace hq := hq.1 c4
    exact r_vret C hr hlk hw dX8_putIn_48 (Nat.le_refl _) (Nat.le_refl _) ⟨rfl, hq⟩
  · replace hq := hq.2 c4
    refine lv_aload_n hx hb dX8_putIn_12 rfl (lv_at hl 0 rfl) ?_
    refine lv_dup hx hb dX8_putIn_13 rfl ?_
    refine gfX8_68 C hw hw.2.2.1 h0 dX8_putIn_14 ?_
    refine lv_iconst (v := 1) hx hb dX8_putIn_17 (by decide) ?_
    refine lv_iadd hx hb dX8_putIn_18 ?_
    refine pfX8_68 C hw hw.2.2.1 h0 dX8_putIn_19 (fun H locs hw => ?_)
    generalize e6 : uI M0 a0 3 ((mI M0 a0 3) + 1) = M5 at hw
    replace hq := hq M5 e6.symm
    have e2 : mR M5 a0 8 = some q1 := by rw [← e6, mR_uI]; exact e2
    refine lv_aload_n hx hb dX8_putIn_22 rfl (lv_at hl 0 rfl) ?_
    refine gfX8_21 C hw hw.2.2.1 h0 e2 dX8_putIn_23 ?_
    refine lv_aload_n hx hb dX8_putIn_26 rfl (lv_at hl 0 rfl) ?_
    refine gfX8_62 C hw hw.2.2.1 h0 dX8_putIn_27 ?_
    refine lv_iload_n hx hb dX8_putIn_30 rfl (lv_at hl 1 rfl) ?_
    obtain ⟨h7, hq⟩ := hq
    refine q_iast C hw hw.2.2.1 h3 h7 dX8_putIn_31 (fun H locs hw => ?_)
    generalize e9 : uI M5 q1 (Int32.toNatClampNeg (mI M5 a0 9)) p1 = M8 at hw
    replace hq := hq M8 e9.symm
    have e2 : mR M8 a0 8 = some q1 := by rw [← e9, mR_uI]; exact e2
    refine lv_aload_n hx hb dX8_putIn_32 rfl (lv_at hl 0 rfl) ?_
    refine lv_dup hx hb dX8_putIn_33 rfl ?_
    refine gfX8_62 C hw hw.2.2.1 h0 dX8_putIn_34 ?_
    refine lv_iconst (v := 1) hx hb dX8_putIn_37 (by decide) ?_
    refine lv_iadd hx hb dX8_putIn_38 ?_
    refine pfX8_62 C hw hw.2.2.1 h0 dX8_putIn_39 (fun H locs hw => ?_)
    generalize e11 : uI M8 a0 9 ((mI M8 a0 9) + 1) = M10 at hw
    replace hq := hq M10 e11.symm
    have e2 : mR M10 a0 8 = some q1 := by rw [← e11, mR_uI]; exact e2
    refine lv_aload_n hx hb dX8_putIn_42 rfl (lv_at hl 0 rfl) ?_
    refine lv_iload_n hx hb dX8_putIn_43 rfl (lv_at hl 1 rfl) ?_
    refine lv_iconst (v := 1) hx hb dX8_putIn_44 (by decide) ?_
    refine r_callV (T := TX8) (N := 15) (ci := 8) (index := 88) (n := 2) (d2 := 0) (mc := 0) (ms := 0) (As := [.int p1, .int 1]) (rest := []) C hw (ct_X8_weigh hq) kvX8_88 hq.1 (by decide) rfl ⟨by decide, by decide⟩ ⟨by decide, by decide⟩ rfl hl.1 rfl (Nat.le_of_ble_eq_true rfl) dX8_putIn_45 (fun r M13 H locs hp hle hw => ?_)
    obtain ⟨rfl, hq⟩ := hp
    refine W.eq (g2 := F0 m 48 ls []) rfl ?_
    exact r_vret C hr hlk hw dX8_putIn_48 (Nat.le_refl _) (Nat.le_refl _) ⟨rfl, hq⟩

set_option maxRecDepth 100000 in
def wp_X8_takeOut  (g : Gh) (M0 : Mem) (a0 : Nat) (post : Int32 → Mem → Prop) : Prop :=
  okc (gB g) M0 a0 8 ∧ ((((mI M0 a0 9) < 1) → post (mI M0 a0 7) M0) ∧ (¬ ((mI M0 a0 9) < 1) → ∃ q2, mR M0 a0 8 = some q2 ∧ (okc (gB g) M0 q2 14 ∧ ((((mI M0 a0 9) ≤ (nI (mN M0 q2))) → ∀ M6, M6 = uI M0 a0 9 ((mI M0 a0 9) - 1) → (vp_in (mI M6 a0 9) (mN M0 q2) ∧ (wp_X8_weigh g M6 a0 (mI M6 q2 (Int32.toNatClampNeg (mI M6 a0 9))) (-1) (fun M10 => ∃ q11, mR M10 a0 8 = some q11 ∧ (okc (gB g) M0 q11 14 ∧ (vp_in (mI M10 a0 9) (mN M0 q11) ∧ (post (mI M10 q11 (Int32.toNatClampNeg (mI M10 a0 9))) M10))))))) ∧ (¬ ((mI M0 a0 9) ≤ (nI (mN M0 q2))) → post (mI M0 a0 7) M0)))))
set_option maxHeartbeats 4000000 in
set_option maxRecDepth 100000 in
theorem ct_X8_takeOut {l : Launch} {g : Gh} {M0 : Mem} {a0 : Nat} {post : Int32 → Mem → Prop}  (hq : wp_X8_takeOut  g M0 a0 post) : Ct l g yX8_takeOut cX8_takeOut 1 (some .int) 1 0 0 [.ref a0] M0 (pI post) := by
  unfold wp_X8_takeOut at hq
  obtain ⟨h0, hq⟩ := hq
  refine Ct.of (by decide) (Nat.le_of_ble_eq_true rfl) ?_
  intro p e s m below meth c ls C hr hlk hn hl hw
  have hx := C.1.1
  have hb := C.1.2.1
  have hl : lv_has ls 1 [(0, .ref a0)] := hl
  refine lv_aload_n hx hb dX8_takeOut_0 rfl (lv_at hl 0 rfl) ?_
  refine gfX8_62 C hw hw.2.2.1 h0 dX8_takeOut_1 ?_
  refine lv_iconst (v := 1) hx hb dX8_takeOut_4 (by decide) ?_
  refine lv_icmp_lt (tgt := 20) hx hb dX8_takeOut_5 (by decide) (fun c1 => ?_) (fun c1 => ?_)
  · replace hq := hq.1 c1
    refine lv_aload_n hx hb dX8_takeOut_20 rfl (lv_at hl 0 rfl) ?_
    refine gfX8_37 C hw hw.2.2.1 h0 dX8_takeOut_21 ?_
    exact r_iret C hr hlk hw dX8_takeOut_24 (Nat.le_refl _) (Nat.le_refl _) ⟨_, rfl, hq⟩
  · replace hq := hq.2 c1
    refine lv_aload_n hx hb dX8_takeOut_8 rfl (lv_at hl 0 rfl) ?_
    refine gfX8_62 C hw hw.2.2.1 h0 dX8_takeOut_9 ?_
    refine lv_aload_n hx hb dX8_takeOut_12 rfl (lv_at hl 0 rfl) ?_
    obtain ⟨q2, e3, hq⟩ := hq
    refine gfX8_21 C hw hw.2.2.1 h0 e3 dX8_takeOut_13 ?_
    obtain ⟨h4, hq⟩ := hq
    refine q_alen C hw hw.2.2.1 h4 (by decide) (by decide) rfl dX8_takeOut_16 ?_
    refine lv_icmp_le (tgt := 25) hx hb dX8_takeOut_17 (by decide) (fun c5 => ?_) (fun c5 => ?_)
    · replace hq := hq.1 c5
      refine lv_aload_n hx hb dX8_takeOut_25 rfl (lv_at hl 0 rfl) ?_
      refine lv_dup hx hb dX8_takeOut_26 rfl ?_
      refine gfX8_62 C hw hw.2.2.1 h0 dX8_takeOut_27 ?_
      refine lv_iconst (v := 1) hx hb dX8_takeOut_30 (by decide) ?_
      refine lv_isub hx hb dX8_takeOut_31 ?_
      refine pfX8_62 C hw hw.2.2.1 h0 dX8_takeOut_32 (fun H locs hw => ?_)
      generalize e7 : uI M0 a0 9 ((mI M0 a0 9) - 1) = M6 at hw
      replace hq := hq M6 e7.symm
      have e3 : mR M6 a0 8 = some q2 := by rw [← e7, mR_uI]; exact e3
      refine lv_aload_n hx hb dX8_takeOut_35 rfl (lv_at hl 0 rfl) ?_
      refine lv_aload_n hx hb dX8_takeOut_36 rfl (lv_at hl 0 rfl) ?_
      refine gfX8_21 C hw hw.2.2.1 h0 e3 dX8_takeOut_37 ?_
      refine lv_aload_n hx hb dX8_takeOut_40 rfl (lv_at hl 0 rfl) ?_
      refine gfX8_62 C hw hw.2.2.1 h0 dX8_takeOut_41 ?_
      obtain ⟨h8, hq⟩ := hq
      refine q_iald C hw hw.2.2.1 h4 h8 dX8_takeOut_44 ?_
      refine lv_iconst (v := (-1)) hx hb dX8_takeOut_45 (by decide) ?_
      refine r_callV (T := TX8) (N := 15) (ci := 8) (index := 88) (n := 2) (d2 := 0) (mc := 0) (ms := 0) (As := [.int (mI M6 q2 (Int32.toNatClampNeg (mI M6 a0 9))), .int (-1)]) (rest := []) C hw (ct_X8_weigh hq) kvX8_88 hq.1 (by decide) rfl ⟨by decide, by decide⟩ ⟨by decide, by decide⟩ rfl hl.1 rfl (Nat.le_of_ble_eq_true rfl) dX8_takeOut_46 (fun r M10 H locs hp hle hw => ?_)
      obtain ⟨rfl, hq⟩ := hp
      refine W.eq (g2 := F0 m 49 ls []) rfl ?_
      refine lv_aload_n hx hb dX8_takeOut_49 rfl (lv_at hl 0 rfl) ?_
      obtain ⟨q11, e12, hq⟩ := hq
      refine gfX8_21 C hw hw.2.2.1 h0 e12 dX8_takeOut_50 ?_
      refine lv_aload_n hx hb dX8_takeOut_53 rfl (lv_at hl 0 rfl) ?_
      refine gfX8_62 C hw hw.2.2.1 h0 dX8_takeOut_54 ?_
      obtain ⟨h13, hq⟩ := hq
      obtain ⟨h14, hq⟩ := hq
      refine q_iald C hw hw.2.2.1 h13 h14 dX8_takeOut_57 ?_
      exact r_iret C hr hlk hw dX8_takeOut_58 (Nat.le_refl _) (Nat.le_refl _) ⟨_, rfl, hq⟩
    · replace hq := hq.2 c5
      refine lv_aload_n hx hb dX8_takeOut_20 rfl (lv_at hl 0 rfl) ?_
      refine gfX8_37 C hw hw.2.2.1 h0 dX8_takeOut_21 ?_
      exact r_iret C hr hlk hw dX8_takeOut_24 (Nat.le_refl _) (Nat.le_refl _) ⟨_, rfl, hq⟩

set_option maxRecDepth 100000 in
def lb_X8_search_117  (g : Gh) (M0 : Mem) (a0 : Nat) (p1 : Int32) (p2 : Int32) (post : Int32 → Mem → Prop) (bk28 : Int32 × Int32 × Mem → Prop) (x4 : Int32) (s0 : Int32) (M : Mem) : Prop :=
  (((mI M a0 7) ≤ s0) → (((mI M a0 9) ≤ 0) → post 1 M) ∧ (¬ ((mI M a0 9) ≤ 0) → wp_X8_takeOut g M a0 (fun v3 M4 => bk28 ((v3 + 1), (x4 + 1), M4)))) ∧ (¬ ((mI M a0 7) ≤ s0) → (((mI M a0 3) < p2) → wp_X8_putIn g M a0 s0 (fun M7 => bk28 ((s0 + 1), (x4 + 1), M7))) ∧ (¬ ((mI M a0 3) < p2) → post 2 M))
set_option maxRecDepth 100000 in
def lb_X8_search_100  (g : Gh) (M0 : Mem) (a0 : Nat) (p1 : Int32) (p2 : Int32) (post : Int32 → Mem → Prop) (bk28 : Int32 × Int32 × Mem → Prop) (x3 : Int32) (x4 : Int32) (x5 : Int32)  (M : Mem) : Prop :=
  ((x5 = 0) → wp_X8_nextWithRoom g M a0 x3 (fun v9 M10 => lb_X8_search_117  g M0 a0 p1 p2 post bk28 x4 v9 M10)) ∧ (¬ (x5 = 0) → lb_X8_search_117  g M0 a0 p1 p2 post bk28 x4 (mI M a0 7) M)
set_option maxRecDepth 100000 in
def lb_X8_search_90  (g : Gh) (M0 : Mem) (a0 : Nat) (p1 : Int32) (p2 : Int32) (post : Int32 → Mem → Prop)    (M : Mem) : Prop :=
  ∀ M11, M11 = uI M a0 2 (mI M a0 9) → (post 0 M11)
set_option maxRecDepth 100000 in
def lb_X8_search_61  (g : Gh) (M0 : Mem) (a0 : Nat) (p1 : Int32) (p2 : Int32) (post : Int32 → Mem → Prop) (bk28 : Int32 × Int32 × Mem → Prop) (x3 : Int32) (x4 : Int32) (s0 : Int32) (M : Mem) : Prop :=
  ((s0 = 0) → lb_X8_search_100  g M0 a0 p1 p2 post bk28 x3 x4 s0 M) ∧ (¬ (s0 = 0) → (((mI M a0 11) < (mI M a0 13)) → lb_X8_search_100  g M0 a0 p1 p2 post bk28 x3 x4 s0 M) ∧ (¬ ((mI M a0 11) < (mI M a0 13)) → (((mI M a0 14) < (mI M a0 11)) → lb_X8_search_100  g M0 a0 p1 p2 post bk28 x3 x4 s0 M) ∧ (¬ ((mI M a0 14) < (mI M a0 11)) → lb_X8_search_90  g M0 a0 p1 p2 post   M)))
set_option maxRecDepth 100000 in
def bd_X8_search_28  (g : Gh) (M0 : Mem) (a0 : Nat) (p1 : Int32) (p2 : Int32) (post : Int32 → Mem → Prop)  (bk28 : Int32 × Int32 × Mem → Prop) (x3 : Int32) (x4 : Int32)  (M : Mem) : Prop :=
  (((2 * p2) < x4) → post 2 M) ∧ (¬ ((2 * p2) < x4) → ((p1 ≤ (mI M a0 9)) → lb_X8_search_61  g M0 a0 p1 p2 post bk28 x3 x4 1 M) ∧ (¬ (p1 ≤ (mI M a0 9)) → ∃ q18, mR M a0 8 = some q18 ∧ (okc (gB g) M0 q18 14 ∧ ((((mI M a0 9) < (nI (mN M0 q18))) → lb_X8_search_61  g M0 a0 p1 p2 post bk28 x3 x4 0 M) ∧ (¬ ((mI M a0 9) < (nI (mN M0 q18))) → lb_X8_search_61  g M0 a0 p1 p2 post bk28 x3 x4 1 M)))))
set_option maxRecDepth 100000 in
def wp_X8_search  (g : Gh) (M0 : Mem) (a0 : Nat) (p1 : Int32) (p2 : Int32) (post : Int32 → Mem → Prop) : Prop :=
  okc (gB g) M0 a0 8 ∧ (∀ M22, M22 = uI M0 a0 9 0 → (∀ M24, M24 = uI M22 a0 11 0 → (∀ M26, M26 = uI M24 a0 3 0 → (∃ q28, mR M26 a0 10 = some q28 ∧ (wp_J7_fill_53178 g M26 q28 0 (fun M31 => (∃ n : Nat, lfp (fun bk z => bd_X8_search_28  g M0 a0 p1 p2 post  bk z.1 z.2.1 z.2.2) n (0, 0, M31))))))))
set_option maxHeartbeats 4000000 in
set_option maxRecDepth 100000 in
theorem lt_X8_search_117 {l : Launch} {g : Gh} {p : Program} {e : Env} {s : State} {m : MethodId} {args : Array Value} {below : List Frame} {meth : Method} {c : Code} {H : Heap} {locs : List Loc} {ls : Array Slot} {M0 M : Mem} {a0 : Nat} {p1 : Int32} {p2 : Int32} {post : Int32 → Mem → Prop} {x4 : Int32} {s0 : Int32}  (C : Cx g p s m args c cX8_search 7 RX8) (hr : meth.sig.returnType = (some .int)) (hlk : meth.locks = false) (hn : meth.name = "search") (h0 : okc (gB g) M0 a0 8) {bk28 : Int32 × Int32 × Mem → Prop} (hk28 : ∀ (x3 : Int32) (x4 : Int32) (M : Mem) (H : Heap) (locs : List Loc) (ls : Array Slot), bk28 (x3, x4, M) → Wd g s M0 M H locs → lv_has ls 7 [(0, .ref a0), (1, .int p1), (2, .int p2), (3, .int x3), (4, .int x4)] → W p l e (rmo 2 0 0) s m args below meth c H locs 0 0 (MQ below (Cq g M0 (pI post)) args s 0 0 (gA g)) (F0 m 28 ls [])) (hq : lb_X8_search_117  g M0 a0 p1 p2 post bk28 x4 s0 M) (hw : Wd g s M0 M H locs) (hl : lv_has ls 7 [(0, .ref a0), (1, .int p1), (2, .int p2), (4, .int x4)]) : W p l e (rmo 2 0 0) s m args below meth c H locs 0 0 (MQ below (Cq g M0 (pI post)) args s 0 0 (gA g)) (F0 m 117 ls [.int s0]) := by
  have hx := C.1.1
  have hb := C.1.2.1
  unfold lb_X8_search_117 at hq
  refine lv_istore (lv' := [(6, .int s0), (0, .ref a0), (1, .int p1), (2, .int p2), (4, .int x4)]) hx hb dX8_search_117 hl (by decide) rfl (fun ls hl => ?_)
  refine lv_iload hx hb dX8_search_119 (lv_at hl 0 rfl) ?_
  refine lv_aload_n hx hb dX8_search_121 rfl (lv_at hl 1 rfl) ?_
  refine gfX8_37 C hw hw.2.2.1 h0 dX8_search_122 ?_
  refine lv_icmp_ge (tgt := 152) hx hb dX8_search_125 (by decide) (fun c1 => ?_) (fun c1 => ?_)
  · replace hq := hq.1 c1
    refine lv_aload_n hx hb dX8_search_152 rfl (lv_at hl 1 rfl) ?_
    refine gfX8_62 C hw hw.2.2.1 h0 dX8_search_153 ?_
    refine lv_if_le (tgt := 169) hx hb dX8_search_156 (by decide) (fun c2 => ?_) (fun c2 => ?_)
    · replace hq := hq.1 c2
      refine lv_iconst (v := 1) hx hb dX8_search_169 (by decide) ?_
      exact r_iret C hr hlk hw dX8_search_170 (Nat.le_refl _) (Nat.le_refl _) ⟨_, rfl, hq⟩
    · replace hq := hq.2 c2
      refine lv_aload_n hx hb dX8_search_159 rfl (lv_at hl 1 rfl) ?_
      refine r_callV (T := TX8) (N := 15) (ci := 8) (index := 85) (n := 0) (d2 := 1) (mc := 0) (ms := 0) (As := []) (rest := []) C hw (ct_X8_takeOut hq) kvX8_85 hq.1 (by decide) rfl ⟨by decide, by decide⟩ ⟨by decide, by decide⟩ rfl hl.1 rfl (Nat.le_of_ble_eq_true rfl) dX8_search_160 (fun r M4 H locs hp hle hw => ?_)
      obtain ⟨v3, rfl, hq⟩ := hp
      refine W.eq (g2 := F0 m 163 ls [.int v3]) rfl ?_
      refine lv_iconst (v := 1) hx hb dX8_search_163 (by decide) ?_
      refine lv_iadd hx hb dX8_search_164 ?_
      refine lv_istore_n (lv' := [(3, .int (v3 + 1)), (6, .int s0), (0, .ref a0), (1, .int p1), (2, .int p2), (4, .int x4)]) hx hb dX8_search_165 rfl hl (by decide) rfl (fun ls hl => ?_)
      refine lv_goto (tgt := 171) hx hb dX8_search_166 (by decide) ?_
      refine lv_iinc (v := (x4 + 1)) (lv' := [(4, .int (x4 + 1)), (3, .int (v3 + 1)), (6, .int s0), (0, .ref a0), (1, .int p1), (2, .int p2)]) hx hb dX8_search_171 hl (k := 5) rfl rfl (by decide) rfl (fun ls hl => ?_)
      refine lv_goto (tgt := 28) hx hb dX8_search_174 (by decide) ?_
      exact hk28 _ _ _ _ _ _ hq hw (lv_sub hl [3, 4, 5, 1, 0] rfl)
  · replace hq := hq.2 c1
    refine lv_aload_n hx hb dX8_search_128 rfl (lv_at hl 1 rfl) ?_
    refine gfX8_68 C hw hw.2.2.1 h0 dX8_search_129 ?_
    refine lv_iload_n hx hb dX8_search_132 rfl (lv_at hl 3 rfl) ?_
    refine lv_icmp_lt (tgt := 138) hx hb dX8_search_133 (by decide) (fun c5 => ?_) (fun c5 => ?_)
    · replace hq := hq.1 c5
      refine lv_aload_n hx hb dX8_search_138 rfl (lv_at hl 1 rfl) ?_
      refine lv_iload hx hb dX8_search_139 (lv_at hl 0 rfl) ?_
      refine r_callV (T := TX8) (N := 15) (ci := 8) (index := 81) (n := 1) (d2 := 1) (mc := 0) (ms := 0) (As := [.int s0]) (rest := []) C hw (ct_X8_putIn hq) kvX8_81 hq.1 (by decide) rfl ⟨by decide, by decide⟩ ⟨by decide, by decide⟩ rfl hl.1 rfl (Nat.le_of_ble_eq_true rfl) dX8_search_141 (fun r M7 H locs hp hle hw => ?_)
      obtain ⟨rfl, hq⟩ := hp
      refine W.eq (g2 := F0 m 144 ls []) rfl ?_
      refine lv_iload hx hb dX8_search_144 (lv_at hl 0 rfl) ?_
      refine lv_iconst (v := 1) hx hb dX8_search_146 (by decide) ?_
      refine lv_iadd hx hb dX8_search_147 ?_
      refine lv_istore_n (lv' := [(3, .int (s0 + 1)), (6, .int s0), (0, .ref a0), (1, .int p1), (2, .int p2), (4, .int x4)]) hx hb dX8_search_148 rfl hl (by decide) rfl (fun ls hl => ?_)
      refine lv_goto (tgt := 171) hx hb dX8_search_149 (by decide) ?_
      refine lv_iinc (v := (x4 + 1)) (lv' := [(4, .int (x4 + 1)), (3, .int (s0 + 1)), (6, .int s0), (0, .ref a0), (1, .int p1), (2, .int p2)]) hx hb dX8_search_171 hl (k := 5) rfl rfl (by decide) rfl (fun ls hl => ?_)
      refine lv_goto (tgt := 28) hx hb dX8_search_174 (by decide) ?_
      exact hk28 _ _ _ _ _ _ hq hw (lv_sub hl [3, 4, 5, 1, 0] rfl)
    · replace hq := hq.2 c5
      refine lv_iconst (v := 2) hx hb dX8_search_136 (by decide) ?_
      exact r_iret C hr hlk hw dX8_search_137 (Nat.le_refl _) (Nat.le_refl _) ⟨_, rfl, hq⟩
set_option maxHeartbeats 4000000 in
set_option maxRecDepth 100000 in
theorem lt_X8_search_100 {l : Launch} {g : Gh} {p : Program} {e : Env} {s : State} {m : MethodId} {args : Array Value} {below : List Frame} {meth : Method} {c : Code} {H : Heap} {locs : List Loc} {ls : Array Slot} {M0 M : Mem} {a0 : Nat} {p1 : Int32} {p2 : Int32} {post : Int32 → Mem → Prop} {x3 : Int32} {x4 : Int32} {x5 : Int32}   (C : Cx g p s m args c cX8_search 7 RX8) (hr : meth.sig.returnType = (some .int)) (hlk : meth.locks = false) (hn : meth.name = "search") (h0 : okc (gB g) M0 a0 8) {bk28 : Int32 × Int32 × Mem → Prop} (hk28 : ∀ (x3 : Int32) (x4 : Int32) (M : Mem) (H : Heap) (locs : List Loc) (ls : Array Slot), bk28 (x3, x4, M) → Wd g s M0 M H locs → lv_has ls 7 [(0, .ref a0), (1, .int p1), (2, .int p2), (3, .int x3), (4, .int x4)] → W p l e (rmo 2 0 0) s m args below meth c H locs 0 0 (MQ below (Cq g M0 (pI post)) args s 0 0 (gA g)) (F0 m 28 ls [])) (hq : lb_X8_search_100  g M0 a0 p1 p2 post bk28 x3 x4 x5 M) (hw : Wd g s M0 M H locs) (hl : lv_has ls 7 [(0, .ref a0), (1, .int p1), (2, .int p2), (3, .int x3), (4, .int x4), (5, .int x5)]) : W p l e (rmo 2 0 0) s m args below meth c H locs 0 0 (MQ below (Cq g M0 (pI post)) args s 0 0 (gA g)) (F0 m 100 ls []) := by
  have hx := C.1.1
  have hb := C.1.2.1
  unfold lb_X8_search_100 at hq
  refine lv_iload hx hb dX8_search_100 (lv_at hl 5 rfl) ?_
  refine lv_if_eq (tgt := 112) hx hb dX8_search_102 (by decide) (fun c8 => ?_) (fun c8 => ?_)
  · replace hq := hq.1 c8
    refine lv_aload_n hx hb dX8_search_112 rfl (lv_at hl 0 rfl) ?_
    refine lv_iload_n hx hb dX8_search_113 rfl (lv_at hl 3 rfl) ?_
    refine r_callV (T := TX8) (N := 15) (ci := 8) (index := 77) (n := 1) (d2 := 0) (mc := 0) (ms := 0) (As := [.int x3]) (rest := []) C hw (ct_X8_nextWithRoom hq) kvX8_77 hq.1 (by decide) rfl ⟨by decide, by decide⟩ ⟨by decide, by decide⟩ rfl hl.1 rfl (Nat.le_of_ble_eq_true rfl) dX8_search_114 (fun r M10 H locs hp hle hw => ?_)
    obtain ⟨v9, rfl, hq⟩ := hp
    refine W.eq (g2 := F0 m 117 ls [.int v9]) rfl ?_
    exact lt_X8_search_117  C hr hlk hn h0 hk28 hq hw (lv_sub hl [0, 1, 2, 4] rfl)
  · replace hq := hq.2 c8
    refine lv_aload_n hx hb dX8_search_105 rfl (lv_at hl 0 rfl) ?_
    refine gfX8_37 C hw hw.2.2.1 h0 dX8_search_106 ?_
    refine lv_goto (tgt := 117) hx hb dX8_search_109 (by decide) ?_
    exact lt_X8_search_117  C hr hlk hn h0 hk28 hq hw (lv_sub hl [0, 1, 2, 4] rfl)
set_option maxHeartbeats 4000000 in
set_option maxRecDepth 100000 in
theorem lt_X8_search_90 {l : Launch} {g : Gh} {p : Program} {e : Env} {s : State} {m : MethodId} {args : Array Value} {below : List Frame} {meth : Method} {c : Code} {H : Heap} {locs : List Loc} {ls : Array Slot} {M0 M : Mem} {a0 : Nat} {p1 : Int32} {p2 : Int32} {post : Int32 → Mem → Prop}    (C : Cx g p s m args c cX8_search 7 RX8) (hr : meth.sig.returnType = (some .int)) (hlk : meth.locks = false) (hn : meth.name = "search") (h0 : okc (gB g) M0 a0 8)  (hq : lb_X8_search_90  g M0 a0 p1 p2 post   M) (hw : Wd g s M0 M H locs) (hl : lv_has ls 7 [(0, .ref a0), (1, .int p1), (2, .int p2)]) : W p l e (rmo 2 0 0) s m args below meth c H locs 0 0 (MQ below (Cq g M0 (pI post)) args s 0 0 (gA g)) (F0 m 90 ls []) := by
  have hx := C.1.1
  have hb := C.1.2.1
  unfold lb_X8_search_90 at hq
  refine lv_aload_n hx hb dX8_search_90 rfl (lv_at hl 0 rfl) ?_
  refine lv_aload_n hx hb dX8_search_91 rfl (lv_at hl 0 rfl) ?_
  refine gfX8_62 C hw hw.2.2.1 h0 dX8_search_92 ?_
  refine pfX8_34 C hw hw.2.2.1 h0 dX8_search_95 (fun H locs hw => ?_)
  generalize e12 : uI M a0 2 (mI M a0 9) = M11 at hw
  replace hq := hq M11 e12.symm
  refine lv_iconst (v := 0) hx hb dX8_search_98 (by decide) ?_
  exact r_iret C hr hlk hw dX8_search_99 (Nat.le_refl _) (Nat.le_refl _) ⟨_, rfl, hq⟩
set_option maxHeartbeats 4000000 in
set_option maxRecDepth 100000 in
theorem lt_X8_search_61 {l : Launch} {g : Gh} {p : Program} {e : Env} {s : State} {m : MethodId} {args : Array Value} {below : List Frame} {meth : Method} {c : Code} {H : Heap} {locs : List Loc} {ls : Array Slot} {M0 M : Mem} {a0 : Nat} {p1 : Int32} {p2 : Int32} {post : Int32 → Mem → Prop} {x3 : Int32} {x4 : Int32} {s0 : Int32}  (C : Cx g p s m args c cX8_search 7 RX8) (hr : meth.sig.returnType = (some .int)) (hlk : meth.locks = false) (hn : meth.name = "search") (h0 : okc (gB g) M0 a0 8) {bk28 : Int32 × Int32 × Mem → Prop} (hk28 : ∀ (x3 : Int32) (x4 : Int32) (M : Mem) (H : Heap) (locs : List Loc) (ls : Array Slot), bk28 (x3, x4, M) → Wd g s M0 M H locs → lv_has ls 7 [(0, .ref a0), (1, .int p1), (2, .int p2), (3, .int x3), (4, .int x4)] → W p l e (rmo 2 0 0) s m args below meth c H locs 0 0 (MQ below (Cq g M0 (pI post)) args s 0 0 (gA g)) (F0 m 28 ls [])) (hq : lb_X8_search_61  g M0 a0 p1 p2 post bk28 x3 x4 s0 M) (hw : Wd g s M0 M H locs) (hl : lv_has ls 7 [(0, .ref a0), (1, .int p1), (2, .int p2), (3, .int x3), (4, .int x4)]) : W p l e (rmo 2 0 0) s m args below meth c H locs 0 0 (MQ below (Cq g M0 (pI post)) args s 0 0 (gA g)) (F0 m 61 ls [.int s0]) := by
  have hx := C.1.1
  have hb := C.1.2.1
  unfold lb_X8_search_61 at hq
  refine lv_istore (lv' := [(5, .int s0), (0, .ref a0), (1, .int p1), (2, .int p2), (3, .int x3), (4, .int x4)]) hx hb dX8_search_61 hl (by decide) rfl (fun ls hl => ?_)
  refine lv_iload hx hb dX8_search_63 (lv_at hl 0 rfl) ?_
  refine lv_if_eq (tgt := 100) hx hb dX8_search_65 (by decide) (fun c13 => ?_) (fun c13 => ?_)
  · replace hq := hq.1 c13
    exact lt_X8_search_100  C hr hlk hn h0 hk28 hq hw (lv_sub hl [1, 2, 3, 4, 5, 0] rfl)
  · replace hq := hq.2 c13
    refine lv_aload_n hx hb dX8_search_68 rfl (lv_at hl 1 rfl) ?_
    refine gfX8_56 C hw hw.2.2.1 h0 dX8_search_69 ?_
    refine lv_aload_n hx hb dX8_search_72 rfl (lv_at hl 1 rfl) ?_
    refine gfX8_65 C hw hw.2.2.1 h0 dX8_search_73 ?_
    refine lv_icmp_gt (tgt := 100) hx hb dX8_search_76 (by decide) (fun c14 => ?_) (fun c14 => ?_)
    · replace hq := hq.1 c14
      exact lt_X8_search_100  C hr hlk hn h0 hk28 hq hw (lv_sub hl [1, 2, 3, 4, 5, 0] rfl)
    · replace hq := hq.2 c14
      refine lv_aload_n hx hb dX8_search_79 rfl (lv_at hl 1 rfl) ?_
      refine gfX8_65 C hw hw.2.2.1 h0 dX8_search_80 ?_
      refine lv_aload_n hx hb dX8_search_83 rfl (lv_at hl 1 rfl) ?_
      refine gfX8_59 C hw hw.2.2.1 h0 dX8_search_84 ?_
      refine lv_icmp_gt (tgt := 100) hx hb dX8_search_87 (by decide) (fun c15 => ?_) (fun c15 => ?_)
      · replace hq := hq.1 c15
        exact lt_X8_search_100  C hr hlk hn h0 hk28 hq hw (lv_sub hl [1, 2, 3, 4, 5, 0] rfl)
      · replace hq := hq.2 c15
        exact lt_X8_search_90  C hr hlk hn h0  hq hw (lv_sub hl [1, 2, 3] rfl)
set_option maxHeartbeats 4000000 in
set_option maxRecDepth 100000 in
theorem lp_X8_search_28 {l : Launch} {g : Gh} {p : Program} {e : Env} {s : State} {m : MethodId} {args : Array Value} {below : List Frame} {meth : Method} {c : Code} {M0 : Mem} {a0 : Nat} {p1 : Int32} {p2 : Int32} {post : Int32 → Mem → Prop}  (C : Cx g p s m args c cX8_search 7 RX8) (hr : meth.sig.returnType = (some .int)) (hlk : meth.locks = false) (hn : meth.name = "search") (h0 : okc (gB g) M0 a0 8)  : ∀ (nf : Nat) (x3 : Int32) (x4 : Int32)  (M : Mem) (H : Heap) (locs : List Loc) (ls : Array Slot), lfp (fun bk z => bd_X8_search_28  g M0 a0 p1 p2 post  bk z.1 z.2.1 z.2.2) nf (x3, x4, M) → Wd g s M0 M H locs → lv_has ls 7 [(0, .ref a0), (1, .int p1), (2, .int p2), (3, .int x3), (4, .int x4)] → W p l e (rmo 2 0 0) s m args below meth c H locs 0 0 (MQ below (Cq g M0 (pI post)) args s 0 0 (gA g)) (F0 m 28 ls []) := by
  have hx := C.1.1
  have hb := C.1.2.1
  intro nf
  induction nf with
  | zero => intro _ _ _ H locs ls hq; exact hq.elim
  | succ nf hk28 =>
    intro x3 x4 M H locs ls hq hw hl
    replace hq : bd_X8_search_28  g M0 a0 p1 p2 post  (lfp (fun bk z => bd_X8_search_28  g M0 a0 p1 p2 post  bk z.1 z.2.1 z.2.2) nf) x3 x4 M := hq
    unfold bd_X8_search_28 at hq
    refine lv_iload hx hb dX8_search_28 (lv_at hl 4 rfl) ?_
    refine lv_iconst (v := 2) hx hb dX8_search_30 (by decide) ?_
    refine lv_iload_n hx hb dX8_search_31 rfl (lv_at hl 2 rfl) ?_
    refine lv_imul hx hb dX8_search_32 ?_
    refine lv_icmp_gt (tgt := 177) hx hb dX8_search_33 (by decide) (fun c16 => ?_) (fun c16 => ?_)
    · replace hq := hq.1 c16
      refine lv_iconst (v := 2) hx hb dX8_search_177 (by decide) ?_
      exact r_iret C hr hlk hw dX8_search_178 (Nat.le_refl _) (Nat.le_refl _) ⟨_, rfl, hq⟩
    · replace hq := hq.2 c16
      refine lv_aload_n hx hb dX8_search_36 rfl (lv_at hl 0 rfl) ?_
      refine gfX8_62 C hw hw.2.2.1 h0 dX8_search_37 ?_
      refine lv_iload_n hx hb dX8_search_40 rfl (lv_at hl 1 rfl) ?_
      refine lv_icmp_ge (tgt := 56) hx hb dX8_search_41 (by decide) (fun c17 => ?_) (fun c17 => ?_)
      · replace hq := hq.1 c17
        refine lv_iconst (v := 1) hx hb dX8_search_56 (by decide) ?_
        refine lv_goto (tgt := 61) hx hb dX8_search_57 (by decide) ?_
        exact lt_X8_search_61  C hr hlk hn h0 hk28 hq hw (lv_sub hl [0, 1, 2, 3, 4] rfl)
      · replace hq := hq.2 c17
        refine lv_aload_n hx hb dX8_search_44 rfl (lv_at hl 0 rfl) ?_
        refine gfX8_62 C hw hw.2.2.1 h0 dX8_search_45 ?_
        refine lv_aload_n hx hb dX8_search_48 rfl (lv_at hl 0 rfl) ?_
        obtain ⟨q18, e19, hq⟩ := hq
        refine gfX8_21 C hw hw.2.2.1 h0 e19 dX8_search_49 ?_
        obtain ⟨h20, hq⟩ := hq
        refine q_alen C hw hw.2.2.1 h20 (by decide) (by decide) rfl dX8_search_52 ?_
        refine lv_icmp_lt (tgt := 60) hx hb dX8_search_53 (by decide) (fun c21 => ?_) (fun c21 => ?_)
        · replace hq := hq.1 c21
          refine lv_iconst (v := 0) hx hb dX8_search_60 (by decide) ?_
          exact lt_X8_search_61  C hr hlk hn h0 hk28 hq hw (lv_sub hl [0, 1, 2, 3, 4] rfl)
        · replace hq := hq.2 c21
          refine lv_iconst (v := 1) hx hb dX8_search_56 (by decide) ?_
          refine lv_goto (tgt := 61) hx hb dX8_search_57 (by decide) ?_
          exact lt_X8_search_61  C hr hlk hn h0 hk28 hq hw (lv_sub hl [0, 1, 2, 3, 4] rfl)
set_option maxHeartbeats 4000000 in
set_option maxRecDepth 100000 in
theorem ct_X8_search {l : Launch} {g : Gh} {M0 : Mem} {a0 : Nat} {p1 : Int32} {p2 : Int32} {post : Int32 → Mem → Prop}  (hq : wp_X8_search  g M0 a0 p1 p2 post) : Ct l g yX8_search cX8_search 7 (some .int) 2 0 0 [.ref a0, .int p1, .int p2] M0 (pI post) := by
  unfold wp_X8_search at hq
  obtain ⟨h0, hq⟩ := hq
  refine Ct.of (by decide) (Nat.le_of_ble_eq_true rfl) ?_
  intro p e s m below meth c ls C hr hlk hn hl hw
  have hx := C.1.1
  have hb := C.1.2.1
  have hl : lv_has ls 7 [(0, .ref a0), (1, .int p1), (2, .int p2)] := hl
  refine lv_aload_n hx hb dX8_search_0 rfl (lv_at hl 0 rfl) ?_
  refine lv_iconst (v := 0) hx hb dX8_search_1 (by decide) ?_
  refine pfX8_62 C hw hw.2.2.1 h0 dX8_search_2 (fun H locs hw => ?_)
  generalize e23 : uI M0 a0 9 0 = M22 at hw
  replace hq := hq M22 e23.symm
  refine lv_aload_n hx hb dX8_search_5 rfl (lv_at hl 0 rfl) ?_
  refine lv_iconst (v := 0) hx hb dX8_search_6 (by decide) ?_
  refine pfX8_65 C hw hw.2.2.1 h0 dX8_search_7 (fun H locs hw => ?_)
  generalize e25 : uI M22 a0 11 0 = M24 at hw
  replace hq := hq M24 e25.symm
  refine lv_aload_n hx hb dX8_search_10 rfl (lv_at hl 0 rfl) ?_
  refine lv_iconst (v := 0) hx hb dX8_search_11 (by decide) ?_
  refine pfX8_68 C hw hw.2.2.1 h0 dX8_search_12 (fun H locs hw => ?_)
  generalize e27 : uI M24 a0 3 0 = M26 at hw
  replace hq := hq M26 e27.symm
  refine lv_aload_n hx hb dX8_search_15 rfl (lv_at hl 0 rfl) ?_
  obtain ⟨q28, e29, hq⟩ := hq
  refine gfX8_24 C hw hw.2.2.1 h0 e29 dX8_search_16 ?_
  refine lv_iconst (v := 0) hx hb dX8_search_19 (by decide) ?_
  refine r_callS (index := 71) (n := 2) (d2 := 0) (mc := 0) (ms := 0) (As := [.ref q28, .int 0]) (rest := []) C hw (ct_J7_fill_53178 hq) ksX8_71 ⟨by decide, by decide⟩ ⟨by decide, by decide⟩ rfl hl.1 rfl (Nat.le_of_ble_eq_true rfl) dX8_search_20 (fun r M31 H locs hp hle hw => ?_)
  obtain ⟨rfl, hq⟩ := hp
  refine W.eq (g2 := F0 m 23 ls []) rfl ?_
  refine lv_iconst (v := 0) hx hb dX8_search_23 (by decide) ?_
  refine lv_istore_n (lv' := [(3, .int 0), (0, .ref a0), (1, .int p1), (2, .int p2)]) hx hb dX8_search_24 rfl hl (by decide) rfl (fun ls hl => ?_)
  refine lv_iconst (v := 0) hx hb dX8_search_25 (by decide) ?_
  refine lv_istore (lv' := [(4, .int 0), (3, .int 0), (0, .ref a0), (1, .int p1), (2, .int p2)]) hx hb dX8_search_26 hl (by decide) rfl (fun ls hl => ?_)
  obtain ⟨nf, hq⟩ := hq
  exact lp_X8_search_28  C hr hlk hn h0  nf _ _ _ _ _ _ hq hw (lv_sub hl [2, 3, 4, 1, 0] rfl)

set_option maxRecDepth 100000 in
def wp_X8_numberAt  (g : Gh) (M0 : Mem) (a0 : Nat) (p1 : Int32) (post : Int32 → Mem → Prop) : Prop :=
  okc (gB g) M0 a0 8 ∧ (((p1 < 0) → post (-1) M0) ∧ (¬ (p1 < 0) → (((mI M0 a0 2) ≤ p1) → post (-1) M0) ∧ (¬ ((mI M0 a0 2) ≤ p1) → ∃ q3, mR M0 a0 8 = some q3 ∧ (okc (gB g) M0 q3 14 ∧ (((p1 < (nI (mN M0 q3))) → vp_in p1 (mN M0 q3) ∧ ((((mI M0 q3 (Int32.toNatClampNeg p1)) < 0) → post (-1) M0) ∧ (¬ ((mI M0 q3 (Int32.toNatClampNeg p1)) < 0) → ∃ q9, mR M0 a0 4 = some q9 ∧ (okc (gB g) M0 q9 14 ∧ ((((nI (mN M0 q9)) ≤ (mI M0 q3 (Int32.toNatClampNeg p1))) → post (-1) M0) ∧ (¬ ((nI (mN M0 q9)) ≤ (mI M0 q3 (Int32.toNatClampNeg p1))) → vp_in (mI M0 q3 (Int32.toNatClampNeg p1)) (mN M0 q9) ∧ (post (mI M0 q9 (Int32.toNatClampNeg (mI M0 q3 (Int32.toNatClampNeg p1)))) M0))))))) ∧ (¬ (p1 < (nI (mN M0 q3))) → post (-1) M0))))))
set_option maxHeartbeats 4000000 in
set_option maxRecDepth 100000 in
theorem ct_X8_numberAt {l : Launch} {g : Gh} {M0 : Mem} {a0 : Nat} {p1 : Int32} {post : Int32 → Mem → Prop}  (hq : wp_X8_numberAt  g M0 a0 p1 post) : Ct l g yX8_numberAt cX8_numberAt 3 (some .int) 0 0 0 [.ref a0, .int p1] M0 (pI post) := by
  unfold wp_X8_numberAt at hq
  obtain ⟨h0, hq⟩ := hq
  refine Ct.of (by decide) (Nat.le_of_ble_eq_true rfl) ?_
  intro p e s m below meth c ls C hr hlk hn hl hw
  have hx := C.1.1
  have hb := C.1.2.1
  have hl : lv_has ls 3 [(0, .ref a0), (1, .int p1)] := hl
  refine lv_iload_n hx hb dX8_numberAt_0 rfl (lv_at hl 1 rfl) ?_
  refine lv_if_lt (tgt := 21) hx hb dX8_numberAt_1 (by decide) (fun c1 => ?_) (fun c1 => ?_)
  · replace hq := hq.1 c1
    refine lv_iconst (v := (-1)) hx hb dX8_numberAt_21 (by decide) ?_
    exact r_iret C hr hlk hw dX8_numberAt_22 (Nat.le_refl _) (Nat.le_refl _) ⟨_, rfl, hq⟩
  · replace hq := hq.2 c1
    refine lv_iload_n hx hb dX8_numberAt_4 rfl (lv_at hl 1 rfl) ?_
    refine lv_aload_n hx hb dX8_numberAt_5 rfl (lv_at hl 0 rfl) ?_
    refine gfX8_34 C hw hw.2.2.1 h0 dX8_numberAt_6 ?_
    refine lv_icmp_ge (tgt := 21) hx hb dX8_numberAt_9 (by decide) (fun c2 => ?_) (fun c2 => ?_)
    · replace hq := hq.1 c2
      refine lv_iconst (v := (-1)) hx hb dX8_numberAt_21 (by decide) ?_
      exact r_iret C hr hlk hw dX8_numberAt_22 (Nat.le_refl _) (Nat.le_refl _) ⟨_, rfl, hq⟩
    · replace hq := hq.2 c2
      refine lv_iload_n hx hb dX8_numberAt_12 rfl (lv_at hl 1 rfl) ?_
      refine lv_aload_n hx hb dX8_numberAt_13 rfl (lv_at hl 0 rfl) ?_
      obtain ⟨q3, e4, hq⟩ := hq
      refine gfX8_21 C hw hw.2.2.1 h0 e4 dX8_numberAt_14 ?_
      obtain ⟨h5, hq⟩ := hq
      refine q_alen C hw hw.2.2.1 h5 (by decide) (by decide) rfl dX8_numberAt_17 ?_
      refine lv_icmp_lt (tgt := 23) hx hb dX8_numberAt_18 (by decide) (fun c6 => ?_) (fun c6 => ?_)
      · replace hq := hq.1 c6
        refine lv_aload_n hx hb dX8_numberAt_23 rfl (lv_at hl 0 rfl) ?_
        refine gfX8_21 C hw hw.2.2.1 h0 e4 dX8_numberAt_24 ?_
        refine lv_iload_n hx hb dX8_numberAt_27 rfl (lv_at hl 1 rfl) ?_
        obtain ⟨h7, hq⟩ := hq
        refine q_iald C hw hw.2.2.1 h5 h7 dX8_numberAt_28 ?_
        refine lv_istore_n (lv' := [(2, .int (mI M0 q3 (Int32.toNatClampNeg p1))), (0, .ref a0), (1, .int p1)]) hx hb dX8_numberAt_29 rfl hl (by decide) rfl (fun ls hl => ?_)
        refine lv_iload_n hx hb dX8_numberAt_30 rfl (lv_at hl 0 rfl) ?_
        refine lv_if_lt (tgt := 52) hx hb dX8_numberAt_31 (by decide) (fun c8 => ?_) (fun c8 => ?_)
        · replace hq := hq.1 c8
          refine lv_iconst (v := (-1)) hx hb dX8_numberAt_52 (by decide) ?_
          exact r_iret C hr hlk hw dX8_numberAt_53 (Nat.le_refl _) (Nat.le_refl _) ⟨_, rfl, hq⟩
        · replace hq := hq.2 c8
          refine lv_iload_n hx hb dX8_numberAt_34 rfl (lv_at hl 0 rfl) ?_
          refine lv_aload_n hx hb dX8_numberAt_35 rfl (lv_at hl 1 rfl) ?_
          obtain ⟨q9, e10, hq⟩ := hq
          refine gfX8_9 C hw hw.2.2.1 h0 e10 dX8_numberAt_36 ?_
          obtain ⟨h11, hq⟩ := hq
          refine q_alen C hw hw.2.2.1 h11 (by decide) (by decide) rfl dX8_numberAt_39 ?_
          refine lv_icmp_ge (tgt := 52) hx hb dX8_numberAt_40 (by decide) (fun c12 => ?_) (fun c12 => ?_)
          · replace hq := hq.1 c12
            refine lv_iconst (v := (-1)) hx hb dX8_numberAt_52 (by decide) ?_
            exact r_iret C hr hlk hw dX8_numberAt_53 (Nat.le_refl _) (Nat.le_refl _) ⟨_, rfl, hq⟩
          · replace hq := hq.2 c12
            refine lv_aload_n hx hb dX8_numberAt_43 rfl (lv_at hl 1 rfl) ?_
            refine gfX8_9 C hw hw.2.2.1 h0 e10 dX8_numberAt_44 ?_
            refine lv_iload_n hx hb dX8_numberAt_47 rfl (lv_at hl 0 rfl) ?_
            obtain ⟨h13, hq⟩ := hq
            refine q_iald C hw hw.2.2.1 h11 h13 dX8_numberAt_48 ?_
            refine lv_goto (tgt := 53) hx hb dX8_numberAt_49 (by decide) ?_
            exact r_iret C hr hlk hw dX8_numberAt_53 (Nat.le_refl _) (Nat.le_refl _) ⟨_, rfl, hq⟩
      · replace hq := hq.2 c6
        refine lv_iconst (v := (-1)) hx hb dX8_numberAt_21 (by decide) ?_
        exact r_iret C hr hlk hw dX8_numberAt_22 (Nat.le_refl _) (Nat.le_refl _) ⟨_, rfl, hq⟩

set_option maxRecDepth 100000 in
def wp_X9_init  (g : Gh) (M0 : Mem) (a0 : Nat) (p1 : Int32) (a2 : Nat) (post : Mem → Prop) : Prop :=
  okc (gB g) M0 a0 9 ∧ (∀ M1, M1 = uI M0 a0 0 p1 → (∀ M3, M3 = uR M1 a0 1 (some a2) → (post M3)))
set_option maxHeartbeats 4000000 in
set_option maxRecDepth 100000 in
theorem ct_X9_init {l : Launch} {g : Gh} {M0 : Mem} {a0 : Nat} {p1 : Int32} {a2 : Nat} {post : Mem → Prop}  (hq : wp_X9_init  g M0 a0 p1 a2 post) : Ct l g yX9_init cX9_init 3 none 1 0 0 [.ref a0, .int p1, .ref a2] M0 (pV post) := by
  unfold wp_X9_init at hq
  obtain ⟨h0, hq⟩ := hq
  refine Ct.of (by decide) (Nat.le_of_ble_eq_true rfl) ?_
  intro p e s m below meth c ls C hr hlk hn hl hw
  have hx := C.1.1
  have hb := C.1.2.1
  have hl : lv_has ls 3 [(0, .ref a0), (1, .int p1), (2, .ref a2)] := hl
  refine lv_aload_n hx hb dX9_init_0 rfl (lv_at hl 0 rfl) ?_
  refine W.objInit hx hb C.1.2.2.2.1 (C.1.2.2.2.2 _ w_622) (C.1.2.2.2.2 _ w_35) (C.1.2.2.2.2 _ w_objInit) rfl (by rw [C.1.2.2.1]; exact hl.1) rfl dX9_init_1 (Nat.le_of_ble_eq_true rfl) (Nat.le_of_ble_eq_true rfl) ?_
  refine W.eq (g2 := F0 m 4 ls []) rfl ?_
  refine lv_aload_n hx hb dX9_init_4 rfl (lv_at hl 0 rfl) ?_
  refine lv_iload_n hx hb dX9_init_5 rfl (lv_at hl 1 rfl) ?_
  refine pfX9_9 C hw hw.2.2.1 h0 hn dX9_init_6 (fun H locs hw => ?_)
  generalize e2 : uI M0 a0 0 p1 = M1 at hw
  replace hq := hq M1 e2.symm
  refine lv_aload_n hx hb dX9_init_9 rfl (lv_at hl 0 rfl) ?_
  refine lv_aload_n hx hb dX9_init_10 rfl (lv_at hl 2 rfl) ?_
  refine pfX9_15 (v := (some a2)) C hw hw.2.2.1 h0 hn dX9_init_11 (fun H locs hw => ?_)
  generalize e4 : uR M1 a0 1 (some a2) = M3 at hw
  replace hq := hq M3 e4.symm
  exact r_vret C hr hlk hw dX9_init_14 (Nat.le_refl _) (Nat.le_refl _) ⟨rfl, hq⟩

set_option maxRecDepth 100000 in
def lb_X9_addPlay_24  (g : Gh) (M0 : Mem) (a0 : Nat) (p1 : Int32) (p2 : Int32) (p3 : Int32) (post : Mem → Prop)    (M : Mem) : Prop :=
  ∀ M1, M1 = uI M a0 5 ((mI M a0 5) ||| ((1 <<< (p2 &&& 31)) ||| (1 <<< (p3 &&& 31)))) → (post M1)
set_option maxRecDepth 100000 in
def wp_X9_addPlay  (g : Gh) (M0 : Mem) (a0 : Nat) (p1 : Int32) (p2 : Int32) (p3 : Int32) (post : Mem → Prop) : Prop :=
  okc (gB g) M0 a0 9 ∧ (∀ M3, M3 = uI M0 a0 2 ((mI M0 a0 2) + 1) → (((p1 = 0) → lb_X9_addPlay_24  g M0 a0 p1 p2 p3 post   M3) ∧ (¬ (p1 = 0) → ∀ M6, M6 = uI M3 a0 3 ((mI M3 a0 3) + 1) → (lb_X9_addPlay_24  g M0 a0 p1 p2 p3 post   M6))))
set_option maxHeartbeats 4000000 in
set_option maxRecDepth 100000 in
theorem lt_X9_addPlay_24 {l : Launch} {g : Gh} {p : Program} {e : Env} {s : State} {m : MethodId} {args : Array Value} {below : List Frame} {meth : Method} {c : Code} {H : Heap} {locs : List Loc} {ls : Array Slot} {M0 M : Mem} {a0 : Nat} {p1 : Int32} {p2 : Int32} {p3 : Int32} {post : Mem → Prop}    (C : Cx g p s m args c cX9_addPlay 4 RX9) (hr : meth.sig.returnType = none) (hlk : meth.locks = false) (hn : meth.name = "addPlay") (h0 : okc (gB g) M0 a0 9)  (hq : lb_X9_addPlay_24  g M0 a0 p1 p2 p3 post   M) (hw : Wd g s M0 M H locs) (hl : lv_has ls 4 [(0, .ref a0), (1, .int p1), (2, .int p2), (3, .int p3)]) : W p l e (rmo 0 0 0) s m args below meth c H locs 0 0 (MQ below (Cq g M0 (pV post)) args s 0 0 (gA g)) (F0 m 24 ls []) := by
  have hx := C.1.1
  have hb := C.1.2.1
  unfold lb_X9_addPlay_24 at hq
  refine lv_aload_n hx hb dX9_addPlay_24 rfl (lv_at hl 0 rfl) ?_
  refine lv_dup hx hb dX9_addPlay_25 rfl ?_
  refine gfX9_25 C hw hw.2.2.1 h0 dX9_addPlay_26 ?_
  refine lv_iconst (v := 1) hx hb dX9_addPlay_29 (by decide) ?_
  refine lv_iload_n hx hb dX9_addPlay_30 rfl (lv_at hl 2 rfl) ?_
  refine lv_ishl hx hb dX9_addPlay_31 ?_
  refine lv_iconst (v := 1) hx hb dX9_addPlay_32 (by decide) ?_
  refine lv_iload_n hx hb dX9_addPlay_33 rfl (lv_at hl 3 rfl) ?_
  refine lv_ishl hx hb dX9_addPlay_34 ?_
  refine lv_ior hx hb dX9_addPlay_35 ?_
  refine lv_ior hx hb dX9_addPlay_36 ?_
  refine pfX9_25 C hw hw.2.2.1 h0 dX9_addPlay_37 (fun H locs hw => ?_)
  generalize e2 : uI M a0 5 ((mI M a0 5) ||| ((1 <<< (p2 &&& 31)) ||| (1 <<< (p3 &&& 31)))) = M1 at hw
  replace hq := hq M1 e2.symm
  exact r_vret C hr hlk hw dX9_addPlay_40 (Nat.le_refl _) (Nat.le_refl _) ⟨rfl, hq⟩
set_option maxHeartbeats 4000000 in
set_option maxRecDepth 100000 in
theorem ct_X9_addPlay {l : Launch} {g : Gh} {M0 : Mem} {a0 : Nat} {p1 : Int32} {p2 : Int32} {p3 : Int32} {post : Mem → Prop}  (hq : wp_X9_addPlay  g M0 a0 p1 p2 p3 post) : Ct l g yX9_addPlay cX9_addPlay 4 none 0 0 0 [.ref a0, .int p1, .int p2, .int p3] M0 (pV post) := by
  unfold wp_X9_addPlay at hq
  obtain ⟨h0, hq⟩ := hq
  refine Ct.of (by decide) (Nat.le_of_ble_eq_true rfl) ?_
  intro p e s m below meth c ls C hr hlk hn hl hw
  have hx := C.1.1
  have hb := C.1.2.1
  have hl : lv_has ls 4 [(0, .ref a0), (1, .int p1), (2, .int p2), (3, .int p3)] := hl
  refine lv_aload_n hx hb dX9_addPlay_0 rfl (lv_at hl 0 rfl) ?_
  refine lv_dup hx hb dX9_addPlay_1 rfl ?_
  refine gfX9_19 C hw hw.2.2.1 h0 dX9_addPlay_2 ?_
  refine lv_iconst (v := 1) hx hb dX9_addPlay_5 (by decide) ?_
  refine lv_iadd hx hb dX9_addPlay_6 ?_
  refine pfX9_19 C hw hw.2.2.1 h0 dX9_addPlay_7 (fun H locs hw => ?_)
  generalize e4 : uI M0 a0 2 ((mI M0 a0 2) + 1) = M3 at hw
  replace hq := hq M3 e4.symm
  refine lv_iload_n hx hb dX9_addPlay_10 rfl (lv_at hl 1 rfl) ?_
  refine lv_if_eq (tgt := 24) hx hb dX9_addPlay_11 (by decide) (fun c5 => ?_) (fun c5 => ?_)
  · replace hq := hq.1 c5
    exact lt_X9_addPlay_24  C hr hlk hn h0  hq hw (lv_sub hl [0, 1, 2, 3] rfl)
  · replace hq := hq.2 c5
    refine lv_aload_n hx hb dX9_addPlay_14 rfl (lv_at hl 0 rfl) ?_
    refine lv_dup hx hb dX9_addPlay_15 rfl ?_
    refine gfX9_22 C hw hw.2.2.1 h0 dX9_addPlay_16 ?_
    refine lv_iconst (v := 1) hx hb dX9_addPlay_19 (by decide) ?_
    refine lv_iadd hx hb dX9_addPlay_20 ?_
    refine pfX9_22 C hw hw.2.2.1 h0 dX9_addPlay_21 (fun H locs hw => ?_)
    generalize e7 : uI M3 a0 3 ((mI M3 a0 3) + 1) = M6 at hw
    replace hq := hq M6 e7.symm
    exact lt_X9_addPlay_24  C hr hlk hn h0  hq hw (lv_sub hl [0, 1, 2, 3] rfl)

set_option maxRecDepth 100000 in
def wp_J6_bitCount_0f7a4  (g : Gh) (M0 : Mem) (p0 : Int32) (post : Int32 → Mem → Prop) : Prop :=
  post ((((((((p0 - (((Int32.toUInt32 p0 >>> (Int32.toUInt32 1 &&& Int32.toUInt32 31)).toInt32) &&& 1431655765)) &&& 858993459) + (((Int32.toUInt32 (p0 - (((Int32.toUInt32 p0 >>> (Int32.toUInt32 1 &&& Int32.toUInt32 31)).toInt32) &&& 1431655765)) >>> (Int32.toUInt32 2 &&& Int32.toUInt32 31)).toInt32) &&& 858993459)) + ((Int32.toUInt32 (((p0 - (((Int32.toUInt32 p0 >>> (Int32.toUInt32 1 &&& Int32.toUInt32 31)).toInt32) &&& 1431655765)) &&& 858993459) + (((Int32.toUInt32 (p0 - (((Int32.toUInt32 p0 >>> (Int32.toUInt32 1 &&& Int32.toUInt32 31)).toInt32) &&& 1431655765)) >>> (Int32.toUInt32 2 &&& Int32.toUInt32 31)).toInt32) &&& 858993459)) >>> (Int32.toUInt32 4 &&& Int32.toUInt32 31)).toInt32)) &&& 252645135) + ((Int32.toUInt32 (((((p0 - (((Int32.toUInt32 p0 >>> (Int32.toUInt32 1 &&& Int32.toUInt32 31)).toInt32) &&& 1431655765)) &&& 858993459) + (((Int32.toUInt32 (p0 - (((Int32.toUInt32 p0 >>> (Int32.toUInt32 1 &&& Int32.toUInt32 31)).toInt32) &&& 1431655765)) >>> (Int32.toUInt32 2 &&& Int32.toUInt32 31)).toInt32) &&& 858993459)) + ((Int32.toUInt32 (((p0 - (((Int32.toUInt32 p0 >>> (Int32.toUInt32 1 &&& Int32.toUInt32 31)).toInt32) &&& 1431655765)) &&& 858993459) + (((Int32.toUInt32 (p0 - (((Int32.toUInt32 p0 >>> (Int32.toUInt32 1 &&& Int32.toUInt32 31)).toInt32) &&& 1431655765)) >>> (Int32.toUInt32 2 &&& Int32.toUInt32 31)).toInt32) &&& 858993459)) >>> (Int32.toUInt32 4 &&& Int32.toUInt32 31)).toInt32)) &&& 252645135) >>> (Int32.toUInt32 8 &&& Int32.toUInt32 31)).toInt32)) + ((Int32.toUInt32 ((((((p0 - (((Int32.toUInt32 p0 >>> (Int32.toUInt32 1 &&& Int32.toUInt32 31)).toInt32) &&& 1431655765)) &&& 858993459) + (((Int32.toUInt32 (p0 - (((Int32.toUInt32 p0 >>> (Int32.toUInt32 1 &&& Int32.toUInt32 31)).toInt32) &&& 1431655765)) >>> (Int32.toUInt32 2 &&& Int32.toUInt32 31)).toInt32) &&& 858993459)) + ((Int32.toUInt32 (((p0 - (((Int32.toUInt32 p0 >>> (Int32.toUInt32 1 &&& Int32.toUInt32 31)).toInt32) &&& 1431655765)) &&& 858993459) + (((Int32.toUInt32 (p0 - (((Int32.toUInt32 p0 >>> (Int32.toUInt32 1 &&& Int32.toUInt32 31)).toInt32) &&& 1431655765)) >>> (Int32.toUInt32 2 &&& Int32.toUInt32 31)).toInt32) &&& 858993459)) >>> (Int32.toUInt32 4 &&& Int32.toUInt32 31)).toInt32)) &&& 252645135) + ((Int32.toUInt32 (((((p0 - (((Int32.toUInt32 p0 >>> (Int32.toUInt32 1 &&& Int32.toUInt32 31)).toInt32) &&& 1431655765)) &&& 858993459) + (((Int32.toUInt32 (p0 - (((Int32.toUInt32 p0 >>> (Int32.toUInt32 1 &&& Int32.toUInt32 31)).toInt32) &&& 1431655765)) >>> (Int32.toUInt32 2 &&& Int32.toUInt32 31)).toInt32) &&& 858993459)) + ((Int32.toUInt32 (((p0 - (((Int32.toUInt32 p0 >>> (Int32.toUInt32 1 &&& Int32.toUInt32 31)).toInt32) &&& 1431655765)) &&& 858993459) + (((Int32.toUInt32 (p0 - (((Int32.toUInt32 p0 >>> (Int32.toUInt32 1 &&& Int32.toUInt32 31)).toInt32) &&& 1431655765)) >>> (Int32.toUInt32 2 &&& Int32.toUInt32 31)).toInt32) &&& 858993459)) >>> (Int32.toUInt32 4 &&& Int32.toUInt32 31)).toInt32)) &&& 252645135) >>> (Int32.toUInt32 8 &&& Int32.toUInt32 31)).toInt32)) >>> (Int32.toUInt32 16 &&& Int32.toUInt32 31)).toInt32)) &&& 63) M0
set_option maxHeartbeats 4000000 in
set_option maxRecDepth 100000 in
theorem ct_J6_bitCount_0f7a4 {l : Launch} {g : Gh} {M0 : Mem} {p0 : Int32} {post : Int32 → Mem → Prop}  (hq : wp_J6_bitCount_0f7a4  g M0 p0 post) : Ct l g yJ6_bitCount_0f7a4 cJ6_bitCount_0f7a4 1 (some .int) 0 0 0 [.int p0] M0 (pI post) := by
  unfold wp_J6_bitCount_0f7a4 at hq
  refine Ct.of (by decide) (Nat.le_of_ble_eq_true rfl) ?_
  intro p e s m below meth c ls C hr hlk hn hl hw
  have hx := C.1.1
  have hb := C.1.2.1
  have hl : lv_has ls 1 [(0, .int p0)] := hl
  refine lv_iload_n hx hb dJ6_bitCount_0f7a4_0 rfl (lv_at hl 0 rfl) ?_
  refine lv_iload_n hx hb dJ6_bitCount_0f7a4_1 rfl (lv_at hl 0 rfl) ?_
  refine lv_iconst (v := 1) hx hb dJ6_bitCount_0f7a4_2 (by decide) ?_
  refine lv_iushr (v := ((Int32.toUInt32 p0 >>> (Int32.toUInt32 1 &&& Int32.toUInt32 31)).toInt32)) hx hb dJ6_bitCount_0f7a4_3 rfl ?_
  refine lv_ldcw (v := 1431655765) hx hb C.1.2.2.2.1 (C.1.2.2.2.2 _ w_1057) dJ6_bitCount_0f7a4_4 ?_
  refine lv_iand hx hb dJ6_bitCount_0f7a4_7 ?_
  refine lv_isub hx hb dJ6_bitCount_0f7a4_8 ?_
  refine lv_istore_n (lv' := [(0, .int (p0 - (((Int32.toUInt32 p0 >>> (Int32.toUInt32 1 &&& Int32.toUInt32 31)).toInt32) &&& 1431655765)))]) hx hb dJ6_bitCount_0f7a4_9 rfl hl (by decide) rfl (fun ls hl => ?_)
  refine lv_iload_n hx hb dJ6_bitCount_0f7a4_10 rfl (lv_at hl 0 rfl) ?_
  refine lv_ldcw (v := 858993459) hx hb C.1.2.2.2.1 (C.1.2.2.2.2 _ w_1058) dJ6_bitCount_0f7a4_11 ?_
  refine lv_iand hx hb dJ6_bitCount_0f7a4_14 ?_
  refine lv_iload_n hx hb dJ6_bitCount_0f7a4_15 rfl (lv_at hl 0 rfl) ?_
  refine lv_iconst (v := 2) hx hb dJ6_bitCount_0f7a4_16 (by decide) ?_
  refine lv_iushr (v := ((Int32.toUInt32 (p0 - (((Int32.toUInt32 p0 >>> (Int32.toUInt32 1 &&& Int32.toUInt32 31)).toInt32) &&& 1431655765)) >>> (Int32.toUInt32 2 &&& Int32.toUInt32 31)).toInt32)) hx hb dJ6_bitCount_0f7a4_17 rfl ?_
  refine lv_ldcw (v := 858993459) hx hb C.1.2.2.2.1 (C.1.2.2.2.2 _ w_1058) dJ6_bitCount_0f7a4_18 ?_
  refine lv_iand hx hb dJ6_bitCount_0f7a4_21 ?_
  refine lv_iadd hx hb dJ6_bitCount_0f7a4_22 ?_
  refine lv_istore_n (lv' := [(0, .int (((p0 - (((Int32.toUInt32 p0 >>> (Int32.toUInt32 1 &&& Int32.toUInt32 31)).toInt32) &&& 1431655765)) &&& 858993459) + (((Int32.toUInt32 (p0 - (((Int32.toUInt32 p0 >>> (Int32.toUInt32 1 &&& Int32.toUInt32 31)).toInt32) &&& 1431655765)) >>> (Int32.toUInt32 2 &&& Int32.toUInt32 31)).toInt32) &&& 858993459)))]) hx hb dJ6_bitCount_0f7a4_23 rfl hl (by decide) rfl (fun ls hl => ?_)
  refine lv_iload_n hx hb dJ6_bitCount_0f7a4_24 rfl (lv_at hl 0 rfl) ?_
  refine lv_iload_n hx hb dJ6_bitCount_0f7a4_25 rfl (lv_at hl 0 rfl) ?_
  refine lv_iconst (v := 4) hx hb dJ6_bitCount_0f7a4_26 (by decide) ?_
  refine lv_iushr (v := ((Int32.toUInt32 (((p0 - (((Int32.toUInt32 p0 >>> (Int32.toUInt32 1 &&& Int32.toUInt32 31)).toInt32) &&& 1431655765)) &&& 858993459) + (((Int32.toUInt32 (p0 - (((Int32.toUInt32 p0 >>> (Int32.toUInt32 1 &&& Int32.toUInt32 31)).toInt32) &&& 1431655765)) >>> (Int32.toUInt32 2 &&& Int32.toUInt32 31)).toInt32) &&& 858993459)) >>> (Int32.toUInt32 4 &&& Int32.toUInt32 31)).toInt32)) hx hb dJ6_bitCount_0f7a4_27 rfl ?_
  refine lv_iadd hx hb dJ6_bitCount_0f7a4_28 ?_
  refine lv_ldcw (v := 252645135) hx hb C.1.2.2.2.1 (C.1.2.2.2.2 _ w_1059) dJ6_bitCount_0f7a4_29 ?_
  refine lv_iand hx hb dJ6_bitCount_0f7a4_32 ?_
  refine lv_istore_n (lv' := [(0, .int (((((p0 - (((Int32.toUInt32 p0 >>> (Int32.toUInt32 1 &&& Int32.toUInt32 31)).toInt32) &&& 1431655765)) &&& 858993459) + (((Int32.toUInt32 (p0 - (((Int32.toUInt32 p0 >>> (Int32.toUInt32 1 &&& Int32.toUInt32 31)).toInt32) &&& 1431655765)) >>> (Int32.toUInt32 2 &&& Int32.toUInt32 31)).toInt32) &&& 858993459)) + ((Int32.toUInt32 (((p0 - (((Int32.toUInt32 p0 >>> (Int32.toUInt32 1 &&& Int32.toUInt32 31)).toInt32) &&& 1431655765)) &&& 858993459) + (((Int32.toUInt32 (p0 - (((Int32.toUInt32 p0 >>> (Int32.toUInt32 1 &&& Int32.toUInt32 31)).toInt32) &&& 1431655765)) >>> (Int32.toUInt32 2 &&& Int32.toUInt32 31)).toInt32) &&& 858993459)) >>> (Int32.toUInt32 4 &&& Int32.toUInt32 31)).toInt32)) &&& 252645135))]) hx hb dJ6_bitCount_0f7a4_33 rfl hl (by decide) rfl (fun ls hl => ?_)
  refine lv_iload_n hx hb dJ6_bitCount_0f7a4_34 rfl (lv_at hl 0 rfl) ?_
  refine lv_iload_n hx hb dJ6_bitCount_0f7a4_35 rfl (lv_at hl 0 rfl) ?_
  refine lv_bipush (v := 8) hx hb dJ6_bitCount_0f7a4_36 (by decide) ?_
  refine lv_iushr (v := ((Int32.toUInt32 (((((p0 - (((Int32.toUInt32 p0 >>> (Int32.toUInt32 1 &&& Int32.toUInt32 31)).toInt32) &&& 1431655765)) &&& 858993459) + (((Int32.toUInt32 (p0 - (((Int32.toUInt32 p0 >>> (Int32.toUInt32 1 &&& Int32.toUInt32 31)).toInt32) &&& 1431655765)) >>> (Int32.toUInt32 2 &&& Int32.toUInt32 31)).toInt32) &&& 858993459)) + ((Int32.toUInt32 (((p0 - (((Int32.toUInt32 p0 >>> (Int32.toUInt32 1 &&& Int32.toUInt32 31)).toInt32) &&& 1431655765)) &&& 858993459) + (((Int32.toUInt32 (p0 - (((Int32.toUInt32 p0 >>> (Int32.toUInt32 1 &&& Int32.toUInt32 31)).toInt32) &&& 1431655765)) >>> (Int32.toUInt32 2 &&& Int32.toUInt32 31)).toInt32) &&& 858993459)) >>> (Int32.toUInt32 4 &&& Int32.toUInt32 31)).toInt32)) &&& 252645135) >>> (Int32.toUInt32 8 &&& Int32.toUInt32 31)).toInt32)) hx hb dJ6_bitCount_0f7a4_38 rfl ?_
  refine lv_iadd hx hb dJ6_bitCount_0f7a4_39 ?_
  refine lv_istore_n (lv' := [(0, .int ((((((p0 - (((Int32.toUInt32 p0 >>> (Int32.toUInt32 1 &&& Int32.toUInt32 31)).toInt32) &&& 1431655765)) &&& 858993459) + (((Int32.toUInt32 (p0 - (((Int32.toUInt32 p0 >>> (Int32.toUInt32 1 &&& Int32.toUInt32 31)).toInt32) &&& 1431655765)) >>> (Int32.toUInt32 2 &&& Int32.toUInt32 31)).toInt32) &&& 858993459)) + ((Int32.toUInt32 (((p0 - (((Int32.toUInt32 p0 >>> (Int32.toUInt32 1 &&& Int32.toUInt32 31)).toInt32) &&& 1431655765)) &&& 858993459) + (((Int32.toUInt32 (p0 - (((Int32.toUInt32 p0 >>> (Int32.toUInt32 1 &&& Int32.toUInt32 31)).toInt32) &&& 1431655765)) >>> (Int32.toUInt32 2 &&& Int32.toUInt32 31)).toInt32) &&& 858993459)) >>> (Int32.toUInt32 4 &&& Int32.toUInt32 31)).toInt32)) &&& 252645135) + ((Int32.toUInt32 (((((p0 - (((Int32.toUInt32 p0 >>> (Int32.toUInt32 1 &&& Int32.toUInt32 31)).toInt32) &&& 1431655765)) &&& 858993459) + (((Int32.toUInt32 (p0 - (((Int32.toUInt32 p0 >>> (Int32.toUInt32 1 &&& Int32.toUInt32 31)).toInt32) &&& 1431655765)) >>> (Int32.toUInt32 2 &&& Int32.toUInt32 31)).toInt32) &&& 858993459)) + ((Int32.toUInt32 (((p0 - (((Int32.toUInt32 p0 >>> (Int32.toUInt32 1 &&& Int32.toUInt32 31)).toInt32) &&& 1431655765)) &&& 858993459) + (((Int32.toUInt32 (p0 - (((Int32.toUInt32 p0 >>> (Int32.toUInt32 1 &&& Int32.toUInt32 31)).toInt32) &&& 1431655765)) >>> (Int32.toUInt32 2 &&& Int32.toUInt32 31)).toInt32) &&& 858993459)) >>> (Int32.toUInt32 4 &&& Int32.toUInt32 31)).toInt32)) &&& 252645135) >>> (Int32.toUInt32 8 &&& Int32.toUInt32 31)).toInt32)))]) hx hb dJ6_bitCount_0f7a4_40 rfl hl (by decide) rfl (fun ls hl => ?_)
  refine lv_iload_n hx hb dJ6_bitCount_0f7a4_41 rfl (lv_at hl 0 rfl) ?_
  refine lv_iload_n hx hb dJ6_bitCount_0f7a4_42 rfl (lv_at hl 0 rfl) ?_
  refine lv_bipush (v := 16) hx hb dJ6_bitCount_0f7a4_43 (by decide) ?_
  refine lv_iushr (v := ((Int32.toUInt32 ((((((p0 - (((Int32.toUInt32 p0 >>> (Int32.toUInt32 1 &&& Int32.toUInt32 31)).toInt32) &&& 1431655765)) &&& 858993459) + (((Int32.toUInt32 (p0 - (((Int32.toUInt32 p0 >>> (Int32.toUInt32 1 &&& Int32.toUInt32 31)).toInt32) &&& 1431655765)) >>> (Int32.toUInt32 2 &&& Int32.toUInt32 31)).toInt32) &&& 858993459)) + ((Int32.toUInt32 (((p0 - (((Int32.toUInt32 p0 >>> (Int32.toUInt32 1 &&& Int32.toUInt32 31)).toInt32) &&& 1431655765)) &&& 858993459) + (((Int32.toUInt32 (p0 - (((Int32.toUInt32 p0 >>> (Int32.toUInt32 1 &&& Int32.toUInt32 31)).toInt32) &&& 1431655765)) >>> (Int32.toUInt32 2 &&& Int32.toUInt32 31)).toInt32) &&& 858993459)) >>> (Int32.toUInt32 4 &&& Int32.toUInt32 31)).toInt32)) &&& 252645135) + ((Int32.toUInt32 (((((p0 - (((Int32.toUInt32 p0 >>> (Int32.toUInt32 1 &&& Int32.toUInt32 31)).toInt32) &&& 1431655765)) &&& 858993459) + (((Int32.toUInt32 (p0 - (((Int32.toUInt32 p0 >>> (Int32.toUInt32 1 &&& Int32.toUInt32 31)).toInt32) &&& 1431655765)) >>> (Int32.toUInt32 2 &&& Int32.toUInt32 31)).toInt32) &&& 858993459)) + ((Int32.toUInt32 (((p0 - (((Int32.toUInt32 p0 >>> (Int32.toUInt32 1 &&& Int32.toUInt32 31)).toInt32) &&& 1431655765)) &&& 858993459) + (((Int32.toUInt32 (p0 - (((Int32.toUInt32 p0 >>> (Int32.toUInt32 1 &&& Int32.toUInt32 31)).toInt32) &&& 1431655765)) >>> (Int32.toUInt32 2 &&& Int32.toUInt32 31)).toInt32) &&& 858993459)) >>> (Int32.toUInt32 4 &&& Int32.toUInt32 31)).toInt32)) &&& 252645135) >>> (Int32.toUInt32 8 &&& Int32.toUInt32 31)).toInt32)) >>> (Int32.toUInt32 16 &&& Int32.toUInt32 31)).toInt32)) hx hb dJ6_bitCount_0f7a4_45 rfl ?_
  refine lv_iadd hx hb dJ6_bitCount_0f7a4_46 ?_
  refine lv_istore_n (lv' := [(0, .int (((((((p0 - (((Int32.toUInt32 p0 >>> (Int32.toUInt32 1 &&& Int32.toUInt32 31)).toInt32) &&& 1431655765)) &&& 858993459) + (((Int32.toUInt32 (p0 - (((Int32.toUInt32 p0 >>> (Int32.toUInt32 1 &&& Int32.toUInt32 31)).toInt32) &&& 1431655765)) >>> (Int32.toUInt32 2 &&& Int32.toUInt32 31)).toInt32) &&& 858993459)) + ((Int32.toUInt32 (((p0 - (((Int32.toUInt32 p0 >>> (Int32.toUInt32 1 &&& Int32.toUInt32 31)).toInt32) &&& 1431655765)) &&& 858993459) + (((Int32.toUInt32 (p0 - (((Int32.toUInt32 p0 >>> (Int32.toUInt32 1 &&& Int32.toUInt32 31)).toInt32) &&& 1431655765)) >>> (Int32.toUInt32 2 &&& Int32.toUInt32 31)).toInt32) &&& 858993459)) >>> (Int32.toUInt32 4 &&& Int32.toUInt32 31)).toInt32)) &&& 252645135) + ((Int32.toUInt32 (((((p0 - (((Int32.toUInt32 p0 >>> (Int32.toUInt32 1 &&& Int32.toUInt32 31)).toInt32) &&& 1431655765)) &&& 858993459) + (((Int32.toUInt32 (p0 - (((Int32.toUInt32 p0 >>> (Int32.toUInt32 1 &&& Int32.toUInt32 31)).toInt32) &&& 1431655765)) >>> (Int32.toUInt32 2 &&& Int32.toUInt32 31)).toInt32) &&& 858993459)) + ((Int32.toUInt32 (((p0 - (((Int32.toUInt32 p0 >>> (Int32.toUInt32 1 &&& Int32.toUInt32 31)).toInt32) &&& 1431655765)) &&& 858993459) + (((Int32.toUInt32 (p0 - (((Int32.toUInt32 p0 >>> (Int32.toUInt32 1 &&& Int32.toUInt32 31)).toInt32) &&& 1431655765)) >>> (Int32.toUInt32 2 &&& Int32.toUInt32 31)).toInt32) &&& 858993459)) >>> (Int32.toUInt32 4 &&& Int32.toUInt32 31)).toInt32)) &&& 252645135) >>> (Int32.toUInt32 8 &&& Int32.toUInt32 31)).toInt32)) + ((Int32.toUInt32 ((((((p0 - (((Int32.toUInt32 p0 >>> (Int32.toUInt32 1 &&& Int32.toUInt32 31)).toInt32) &&& 1431655765)) &&& 858993459) + (((Int32.toUInt32 (p0 - (((Int32.toUInt32 p0 >>> (Int32.toUInt32 1 &&& Int32.toUInt32 31)).toInt32) &&& 1431655765)) >>> (Int32.toUInt32 2 &&& Int32.toUInt32 31)).toInt32) &&& 858993459)) + ((Int32.toUInt32 (((p0 - (((Int32.toUInt32 p0 >>> (Int32.toUInt32 1 &&& Int32.toUInt32 31)).toInt32) &&& 1431655765)) &&& 858993459) + (((Int32.toUInt32 (p0 - (((Int32.toUInt32 p0 >>> (Int32.toUInt32 1 &&& Int32.toUInt32 31)).toInt32) &&& 1431655765)) >>> (Int32.toUInt32 2 &&& Int32.toUInt32 31)).toInt32) &&& 858993459)) >>> (Int32.toUInt32 4 &&& Int32.toUInt32 31)).toInt32)) &&& 252645135) + ((Int32.toUInt32 (((((p0 - (((Int32.toUInt32 p0 >>> (Int32.toUInt32 1 &&& Int32.toUInt32 31)).toInt32) &&& 1431655765)) &&& 858993459) + (((Int32.toUInt32 (p0 - (((Int32.toUInt32 p0 >>> (Int32.toUInt32 1 &&& Int32.toUInt32 31)).toInt32) &&& 1431655765)) >>> (Int32.toUInt32 2 &&& Int32.toUInt32 31)).toInt32) &&& 858993459)) + ((Int32.toUInt32 (((p0 - (((Int32.toUInt32 p0 >>> (Int32.toUInt32 1 &&& Int32.toUInt32 31)).toInt32) &&& 1431655765)) &&& 858993459) + (((Int32.toUInt32 (p0 - (((Int32.toUInt32 p0 >>> (Int32.toUInt32 1 &&& Int32.toUInt32 31)).toInt32) &&& 1431655765)) >>> (Int32.toUInt32 2 &&& Int32.toUInt32 31)).toInt32) &&& 858993459)) >>> (Int32.toUInt32 4 &&& Int32.toUInt32 31)).toInt32)) &&& 252645135) >>> (Int32.toUInt32 8 &&& Int32.toUInt32 31)).toInt32)) >>> (Int32.toUInt32 16 &&& Int32.toUInt32 31)).toInt32)))]) hx hb dJ6_bitCount_0f7a4_47 rfl hl (by decide) rfl (fun ls hl => ?_)
  refine lv_iload_n hx hb dJ6_bitCount_0f7a4_48 rfl (lv_at hl 0 rfl) ?_
  refine lv_bipush (v := 63) hx hb dJ6_bitCount_0f7a4_49 (by decide) ?_
  refine lv_iand hx hb dJ6_bitCount_0f7a4_51 ?_
  exact r_iret C hr hlk hw dJ6_bitCount_0f7a4_52 (Nat.le_refl _) (Nat.le_refl _) ⟨_, rfl, hq⟩

set_option maxRecDepth 100000 in
def wp_X9_tell  (g : Gh) (M0 : Mem) (a0 : Nat) (p1 : Int32) (post : Int32 → Mem → Prop) : Prop :=
  okc (gB g) M0 a0 9 ∧ (((p1 = 0) → post (mI M0 a0 0) M0) ∧ ((p1 = 1) → post (mI M0 a0 2) M0) ∧ ((p1 = 2) → post (mI M0 a0 3) M0) ∧ ((p1 = 3) → wp_X9_hard g M0 a0 (fun v2 M3 => post v2 M3)) ∧ ((p1 = 4) → (((mI M0 a0 4) = 0) → post 0 M0) ∧ (¬ ((mI M0 a0 4) = 0) → post 1 M0)) ∧ ((p1 = 5) → wp_J6_bitCount_0f7a4 g M0 (mI M0 a0 5) (fun v5 M6 => post v5 M6)) ∧ ((¬ (p1 = 0) ∧ ¬ (p1 = 1) ∧ ¬ (p1 = 2) ∧ ¬ (p1 = 3) ∧ ¬ (p1 = 4) ∧ ¬ (p1 = 5)) → post (-1) M0))
set_option maxHeartbeats 4000000 in
set_option maxRecDepth 100000 in
theorem ct_X9_tell {l : Launch} {g : Gh} {M0 : Mem} {a0 : Nat} {p1 : Int32} {post : Int32 → Mem → Prop}  (hq : wp_X9_tell  g M0 a0 p1 post) : Ct l g yX9_tell cX9_tell 2 (some .int) 1 0 0 [.ref a0, .int p1] M0 (pI post) := by
  unfold wp_X9_tell at hq
  obtain ⟨h0, hq⟩ := hq
  refine Ct.of (by decide) (Nat.le_of_ble_eq_true rfl) ?_
  intro p e s m below meth c ls C hr hlk hn hl hw
  have hx := C.1.1
  have hb := C.1.2.1
  have hl : lv_has ls 2 [(0, .ref a0), (1, .int p1)] := hl
  refine lv_iload_n hx hb dX9_tell_0 rfl (lv_at hl 1 rfl) ?_
  by_cases c7 : p1 = 0
  · refine r_table (v := 0) (off := 39) (tgt := 40) hx hb dX9_tell_1 c7 (by decide) (by decide) rfl (by decide) ?_
    replace hq := hq.1 c7
    refine lv_aload_n hx hb dX9_tell_40 rfl (lv_at hl 0 rfl) ?_
    refine gfX9_9 C hw hw.2.2.1 h0 dX9_tell_41 ?_
    exact r_iret C hr hlk hw dX9_tell_44 (Nat.le_refl _) (Nat.le_refl _) ⟨_, rfl, hq⟩
  by_cases c8 : p1 = 1
  · refine r_table (v := 1) (off := 44) (tgt := 45) hx hb dX9_tell_1 c8 (by decide) (by decide) rfl (by decide) ?_
    replace hq := hq.2.1 c8
    refine lv_aload_n hx hb dX9_tell_45 rfl (lv_at hl 0 rfl) ?_
    refine gfX9_19 C hw hw.2.2.1 h0 dX9_tell_46 ?_
    exact r_iret C hr hlk hw dX9_tell_49 (Nat.le_refl _) (Nat.le_refl _) ⟨_, rfl, hq⟩
  by_cases c9 : p1 = 2
  · refine r_table (v := 2) (off := 49) (tgt := 50) hx hb dX9_tell_1 c9 (by decide) (by decide) rfl (by decide) ?_
    replace hq := hq.2.2.1 c9
    refine lv_aload_n hx hb dX9_tell_50 rfl (lv_at hl 0 rfl) ?_
    refine gfX9_22 C hw hw.2.2.1 h0 dX9_tell_51 ?_
    exact r_iret C hr hlk hw dX9_tell_54 (Nat.le_refl _) (Nat.le_refl _) ⟨_, rfl, hq⟩
  by_cases c10 : p1 = 3
  · refine r_table (v := 3) (off := 54) (tgt := 55) hx hb dX9_tell_1 c10 (by decide) (by decide) rfl (by decide) ?_
    replace hq := hq.2.2.2.1 c10
    refine lv_aload_n hx hb dX9_tell_55 rfl (lv_at hl 0 rfl) ?_
    refine r_callV (T := TX9) (N := 6) (ci := 9) (index := 36) (n := 0) (d2 := 0) (mc := 0) (ms := 0) (As := []) (rest := []) C hw (ct_X9_hard hq) kvX9_36 hq.1 (by decide) rfl ⟨by decide, by decide⟩ ⟨by decide, by decide⟩ rfl hl.1 rfl (Nat.le_of_ble_eq_true rfl) dX9_tell_56 (fun r M3 H locs hp hle hw => ?_)
    obtain ⟨v2, rfl, hq⟩ := hp
    refine W.eq (g2 := F0 m 59 ls [.int v2]) rfl ?_
    exact r_iret C hr hlk hw dX9_tell_59 (Nat.le_refl _) (Nat.le_refl _) ⟨_, rfl, hq⟩
  by_cases c11 : p1 = 4
  · refine r_table (v := 4) (off := 59) (tgt := 60) hx hb dX9_tell_1 c11 (by decide) (by decide) rfl (by decide) ?_
    replace hq := hq.2.2.2.2.1 c11
    refine lv_aload_n hx hb dX9_tell_60 rfl (lv_at hl 0 rfl) ?_
    refine gfX9_28 C hw hw.2.2.1 h0 dX9_tell_61 ?_
    refine lv_if_eq (tgt := 71) hx hb dX9_tell_64 (by decide) (fun c4 => ?_) (fun c4 => ?_)
    · replace hq := hq.1 c4
      refine lv_iconst (v := 0) hx hb dX9_tell_71 (by decide) ?_
      exact r_iret C hr hlk hw dX9_tell_72 (Nat.le_refl _) (Nat.le_refl _) ⟨_, rfl, hq⟩
    · replace hq := hq.2 c4
      refine lv_iconst (v := 1) hx hb dX9_tell_67 (by decide) ?_
      refine lv_goto (tgt := 72) hx hb dX9_tell_68 (by decide) ?_
      exact r_iret C hr hlk hw dX9_tell_72 (Nat.le_refl _) (Nat.le_refl _) ⟨_, rfl, hq⟩
  by_cases c12 : p1 = 5
  · refine r_table (v := 5) (off := 72) (tgt := 73) hx hb dX9_tell_1 c12 (by decide) (by decide) rfl (by decide) ?_
    replace hq := hq.2.2.2.2.2.1 c12
    refine lv_aload_n hx hb dX9_tell_73 rfl (lv_at hl 0 rfl) ?_
    refine gfX9_25 C hw hw.2.2.1 h0 dX9_tell_74 ?_
    refine r_callS (index := 40) (n := 1) (d2 := 0) (mc := 0) (ms := 0) (As := [.int (mI M0 a0 5)]) (rest := []) C hw (ct_J6_bitCount_0f7a4 hq) ksX9_40 ⟨by decide, by decide⟩ ⟨by decide, by decide⟩ rfl hl.1 rfl (Nat.le_of_ble_eq_true rfl) dX9_tell_77 (fun r M6 H locs hp hle hw => ?_)
    obtain ⟨v5, rfl, hq⟩ := hp
    refine W.eq (g2 := F0 m 80 ls [.int v5]) rfl ?_
    exact r_iret C hr hlk hw dX9_tell_80 (Nat.le_refl _) (Nat.le_refl _) ⟨_, rfl, hq⟩
  refine r_tableOut (tgt := 81) (k := 5) hx hb dX9_tell_1 (by decide) (fun j hj => by rcases (show j = 0 ∨ j = 1 ∨ j = 2 ∨ j = 3 ∨ j = 4 ∨ j = 5 by omega) with rfl | rfl | rfl | rfl | rfl | rfl <;> assumption) (by decide) ?_
  replace hq := hq.2.2.2.2.2.2 ⟨c7, c8, c9, c10, c11, c12⟩
  refine lv_iconst (v := (-1)) hx hb dX9_tell_81 (by decide) ?_
  exact r_iret C hr hlk hw dX9_tell_82 (Nat.le_refl _) (Nat.le_refl _) ⟨_, rfl, hq⟩

set_option maxRecDepth 100000 in
def wp_X10_init  (g : Gh) (M0 : Mem) (a0 : Nat) (post : Mem → Prop) : Prop :=
  okc (gB g) M0 a0 10 ∧ ((0 + 1 ≤ 1 ∧ 0 + 260 ≤ 260) ∧ (∀ q2 M3, q2 = mT M0 → M3 = nw M0 16 260 → (∀ M7, M7 = uR M3 a0 0 (some q2) → (∀ M9, M9 = uI M7 a0 1 0 → (((0 + 1) ≤ 1 ∧ (0 + 260) ≤ 260) ∧ (post M9))))))
set_option maxHeartbeats 4000000 in
set_option maxRecDepth 100000 in
theorem ct_X10_init {l : Launch} {g : Gh} {M0 : Mem} {a0 : Nat} {post : Mem → Prop}  (hq : wp_X10_init  g M0 a0 post) : Ct l g yX10_init cX10_init 1 none 1 1 260 [.ref a0] M0 (pV post) := by
  unfold wp_X10_init at hq
  obtain ⟨h0, hq⟩ := hq
  have h00 := h0
  refine Ct.of (by decide) (Nat.le_of_ble_eq_true rfl) ?_
  intro p e s m below meth c ls C hr hlk hn hl hw
  have hx := C.1.1
  have hb := C.1.2.1
  have hl : lv_has ls 1 [(0, .ref a0)] := hl
  refine lv_aload_n hx hb dX10_init_0 rfl (lv_at hl 0 rfl) ?_
  refine W.objInit hx hb C.1.2.2.2.1 (C.1.2.2.2.2 _ w_42) (C.1.2.2.2.2 _ w_35) (C.1.2.2.2.2 _ w_objInit) rfl (by rw [C.1.2.2.1]; exact hl.1) rfl dX10_init_1 (Nat.le_of_ble_eq_true rfl) (Nat.le_of_ble_eq_true rfl) ?_
  refine W.eq (g2 := F0 m 4 ls []) rfl ?_
  refine lv_aload_n hx hb dX10_init_4 rfl (lv_at hl 0 rfl) ?_
  refine lv_sipush (v := 260) hx hb dX10_init_5 (by decide) ?_
  have hB := hw.B C.2.2.2.2.2
  obtain ⟨h1, hq⟩ := hq
  refine q_newa_16 (N' := 260) C hw (by decide) (by decide) (by decide) h1.1 h1.2 dX10_init_8 (fun H hw => ?_)
  have h6 := okc_nw (gB g) M0 16 260 hB
  have h0 := h0.up (mle_nw M0 16 260)
  generalize e4 : nw M0 16 260 = M3 at hw h6 h0
  generalize e5 : mT M0 = q2 at h6 ⊢
  replace hq := hq q2 M3 e5.symm e4.symm
  refine pfX10_11 (v := (some q2)) C hw (mle_rf _) h0 hn dX10_init_10 (fun H locs hw => ?_)
  generalize e8 : uR M3 a0 0 (some q2) = M7 at hw
  replace hq := hq M7 e8.symm
  have h0 : okc (gB g) M7 a0 10 := by rw [← e8]; exact okc_uR h0
  refine lv_aload_n hx hb dX10_init_13 rfl (lv_at hl 0 rfl) ?_
  refine lv_iconst (v := 0) hx hb dX10_init_14 (by decide) ?_
  refine pfX10_15 C hw (mle_rf _) h0 dX10_init_15 (fun H locs hw => ?_)
  generalize e10 : uI M7 a0 1 0 = M9 at hw
  replace hq := hq M9 e10.symm
  have h0 : okc (gB g) M9 a0 10 := by rw [← e10]; exact okc_uI h0
  obtain ⟨h11, hq⟩ := hq
  exact r_vret C hr hlk hw dX10_init_18 h11.1 h11.2 ⟨rfl, hq⟩

set_option maxRecDepth 100000 in
def wp_X10_hasRoomFor  (g : Gh) (M0 : Mem) (a0 : Nat) (p1 : Int32) (post : Int32 → Mem → Prop) : Prop :=
  okc (gB g) M0 a0 10 ∧ (((260 < ((mI M0 a0 1) + p1)) → post 0 M0) ∧ (¬ (260 < ((mI M0 a0 1) + p1)) → post 1 M0))
set_option maxHeartbeats 4000000 in
set_option maxRecDepth 100000 in
theorem ct_X10_hasRoomFor {l : Launch} {g : Gh} {M0 : Mem} {a0 : Nat} {p1 : Int32} {post : Int32 → Mem → Prop}  (hq : wp_X10_hasRoomFor  g M0 a0 p1 post) : Ct l g yX10_hasRoomFor cX10_hasRoomFor 2 (some .boolean) 0 0 0 [.ref a0, .int p1] M0 (pI post) := by
  unfold wp_X10_hasRoomFor at hq
  obtain ⟨h0, hq⟩ := hq
  refine Ct.of (by decide) (Nat.le_of_ble_eq_true rfl) ?_
  intro p e s m below meth c ls C hr hlk hn hl hw
  have hx := C.1.1
  have hb := C.1.2.1
  have hl : lv_has ls 2 [(0, .ref a0), (1, .int p1)] := hl
  refine lv_aload_n hx hb dX10_hasRoomFor_0 rfl (lv_at hl 0 rfl) ?_
  refine gfX10_15 C hw hw.2.2.1 h0 dX10_hasRoomFor_1 ?_
  refine lv_iload_n hx hb dX10_hasRoomFor_4 rfl (lv_at hl 1 rfl) ?_
  refine lv_iadd hx hb dX10_hasRoomFor_5 ?_
  refine lv_sipush (v := 260) hx hb dX10_hasRoomFor_6 (by decide) ?_
  refine lv_icmp_gt (tgt := 16) hx hb dX10_hasRoomFor_9 (by decide) (fun c1 => ?_) (fun c1 => ?_)
  · replace hq := hq.1 c1
    refine lv_iconst (v := 0) hx hb dX10_hasRoomFor_16 (by decide) ?_
    exact r_zret C hr hlk hw dX10_hasRoomFor_17 (Nat.le_refl _) (Nat.le_refl _) (by decide) ⟨_, rfl, hq⟩
  · replace hq := hq.2 c1
    refine lv_iconst (v := 1) hx hb dX10_hasRoomFor_12 (by decide) ?_
    refine lv_goto (tgt := 17) hx hb dX10_hasRoomFor_13 (by decide) ?_
    exact r_zret C hr hlk hw dX10_hasRoomFor_17 (Nat.le_refl _) (Nat.le_refl _) (by decide) ⟨_, rfl, hq⟩

set_option maxRecDepth 100000 in
def bd_X10_addNumber_3  (g : Gh) (M0 : Mem) (a0 : Nat) (p1 : Int32) (post : Mem → Prop)  (bk3 : Int32 × Mem → Prop) (x2 : Int32)  (M : Mem) : Prop :=
  ((x2 < 0) → post M) ∧ (¬ (x2 < 0) → ((260 ≤ (mI M a0 1)) → post M) ∧ (¬ (260 ≤ (mI M a0 1)) → ∃ q3, mR M a0 0 = some q3 ∧ (okc (gB g) M0 q3 16 ∧ (vp_in (mI M a0 1) (mN M0 q3) ∧ (∀ M7, M7 = uI M q3 (Int32.toNatClampNeg (mI M a0 1)) (vp_nar .short ((Int32.toInt16 (((Int32.toUInt32 p1 >>> (Int32.toUInt32 x2 &&& Int32.toUInt32 31)).toInt32) &&& 255)).toInt32)) → (∀ M9, M9 = uI M7 a0 1 ((mI M7 a0 1) + 1) → (bk3 ((x2 + (-8)), M9))))))))
set_option maxRecDepth 100000 in
def wp_X10_addNumber  (g : Gh) (M0 : Mem) (a0 : Nat) (p1 : Int32) (post : Mem → Prop) : Prop :=
  okc (gB g) M0 a0 10 ∧ ((∃ n : Nat, lfp (fun bk z => bd_X10_addNumber_3  g M0 a0 p1 post  bk z.1 z.2) n (24, M0)))
set_option maxHeartbeats 4000000 in
set_option maxRecDepth 100000 in
theorem lp_X10_addNumber_3 {l : Launch} {g : Gh} {p : Program} {e : Env} {s : State} {m : MethodId} {args : Array Value} {below : List Frame} {meth : Method} {c : Code} {M0 : Mem} {a0 : Nat} {p1 : Int32} {post : Mem → Prop}  (C : Cx g p s m args c cX10_addNumber 3 RX10) (hr : meth.sig.returnType = none) (hlk : meth.locks = false) (hn : meth.name = "addNumber") (h0 : okc (gB g) M0 a0 10)  : ∀ (nf : Nat) (x2 : Int32)  (M : Mem) (H : Heap) (locs : List Loc) (ls : Array Slot), lfp (fun bk z => bd_X10_addNumber_3  g M0 a0 p1 post  bk z.1 z.2) nf (x2, M) → Wd g s M0 M H locs → lv_has ls 3 [(0, .ref a0), (1, .int p1), (2, .int x2)] → W p l e (rmo 0 0 0) s m args below meth c H locs 0 0 (MQ below (Cq g M0 (pV post)) args s 0 0 (gA g)) (F0 m 3 ls []) := by
  have hx := C.1.1
  have hb := C.1.2.1
  intro nf
  induction nf with
  | zero => intro _ _ H locs ls hq; exact hq.elim
  | succ nf hk3 =>
    intro x2 M H locs ls hq hw hl
    replace hq : bd_X10_addNumber_3  g M0 a0 p1 post  (lfp (fun bk z => bd_X10_addNumber_3  g M0 a0 p1 post  bk z.1 z.2) nf) x2 M := hq
    unfold bd_X10_addNumber_3 at hq
    refine lv_iload_n hx hb dX10_addNumber_3 rfl (lv_at hl 2 rfl) ?_
    refine lv_if_lt (tgt := 50) hx hb dX10_addNumber_4 (by decide) (fun c1 => ?_) (fun c1 => ?_)
    · replace hq := hq.1 c1
      exact r_vret C hr hlk hw dX10_addNumber_50 (Nat.le_refl _) (Nat.le_refl _) ⟨rfl, hq⟩
    · replace hq := hq.2 c1
      refine lv_aload_n hx hb dX10_addNumber_7 rfl (lv_at hl 0 rfl) ?_
      refine gfX10_15 C hw hw.2.2.1 h0 dX10_addNumber_8 ?_
      refine lv_sipush (v := 260) hx hb dX10_addNumber_11 (by decide) ?_
      refine lv_icmp_ge (tgt := 50) hx hb dX10_addNumber_14 (by decide) (fun c2 => ?_) (fun c2 => ?_)
      · replace hq := hq.1 c2
        exact r_vret C hr hlk hw dX10_addNumber_50 (Nat.le_refl _) (Nat.le_refl _) ⟨rfl, hq⟩
      · replace hq := hq.2 c2
        refine lv_aload_n hx hb dX10_addNumber_17 rfl (lv_at hl 0 rfl) ?_
        obtain ⟨q3, e4, hq⟩ := hq
        refine gfX10_11 C hw hw.2.2.1 h0 e4 dX10_addNumber_18 ?_
        refine lv_aload_n hx hb dX10_addNumber_21 rfl (lv_at hl 0 rfl) ?_
        refine gfX10_15 C hw hw.2.2.1 h0 dX10_addNumber_22 ?_
        refine lv_iload_n hx hb dX10_addNumber_25 rfl (lv_at hl 1 rfl) ?_
        refine lv_iload_n hx hb dX10_addNumber_26 rfl (lv_at hl 2 rfl) ?_
        refine lv_iushr (v := ((Int32.toUInt32 p1 >>> (Int32.toUInt32 x2 &&& Int32.toUInt32 31)).toInt32)) hx hb dX10_addNumber_27 rfl ?_
        refine lv_sipush (v := 255) hx hb dX10_addNumber_28 (by decide) ?_
        refine lv_iand hx hb dX10_addNumber_31 ?_
        refine lv_i2s (v := ((Int32.toInt16 (((Int32.toUInt32 p1 >>> (Int32.toUInt32 x2 &&& Int32.toUInt32 31)).toInt32) &&& 255)).toInt32)) hx hb dX10_addNumber_32 rfl ?_
        obtain ⟨h5, hq⟩ := hq
        obtain ⟨h6, hq⟩ := hq
        refine q_sast C hw hw.2.2.1 h5 h6 dX10_addNumber_33 (fun H locs hw => ?_)
        generalize e8 : uI M q3 (Int32.toNatClampNeg (mI M a0 1)) (vp_nar .short ((Int32.toInt16 (((Int32.toUInt32 p1 >>> (Int32.toUInt32 x2 &&& Int32.toUInt32 31)).toInt32) &&& 255)).toInt32)) = M7 at hw
        replace hq := hq M7 e8.symm
        have e4 : mR M7 a0 0 = some q3 := by rw [← e8, mR_uI]; exact e4
        refine lv_aload_n hx hb dX10_addNumber_34 rfl (lv_at hl 0 rfl) ?_
        refine lv_dup hx hb dX10_addNumber_35 rfl ?_
        refine gfX10_15 C hw hw.2.2.1 h0 dX10_addNumber_36 ?_
        refine lv_iconst (v := 1) hx hb dX10_addNumber_39 (by decide) ?_
        refine lv_iadd hx hb dX10_addNumber_40 ?_
        refine pfX10_15 C hw hw.2.2.1 h0 dX10_addNumber_41 (fun H locs hw => ?_)
        generalize e10 : uI M7 a0 1 ((mI M7 a0 1) + 1) = M9 at hw
        replace hq := hq M9 e10.symm
        have e4 : mR M9 a0 0 = some q3 := by rw [← e10, mR_uI]; exact e4
        refine lv_iinc (v := (x2 + (-8))) (lv' := [(2, .int (x2 + (-8))), (0, .ref a0), (1, .int p1)]) hx hb dX10_addNumber_44 hl (k := 2) rfl rfl (by decide) rfl (fun ls hl => ?_)
        refine lv_goto (tgt := 3) hx hb dX10_addNumber_47 (by decide) ?_
        exact hk3 _ _ _ _ _ hq hw (lv_sub hl [1, 2, 0] rfl)
set_option maxHeartbeats 4000000 in
set_option maxRecDepth 100000 in
theorem ct_X10_addNumber {l : Launch} {g : Gh} {M0 : Mem} {a0 : Nat} {p1 : Int32} {post : Mem → Prop}  (hq : wp_X10_addNumber  g M0 a0 p1 post) : Ct l g yX10_addNumber cX10_addNumber 3 none 0 0 0 [.ref a0, .int p1] M0 (pV post) := by
  unfold wp_X10_addNumber at hq
  obtain ⟨h0, hq⟩ := hq
  refine Ct.of (by decide) (Nat.le_of_ble_eq_true rfl) ?_
  intro p e s m below meth c ls C hr hlk hn hl hw
  have hx := C.1.1
  have hb := C.1.2.1
  have hl : lv_has ls 3 [(0, .ref a0), (1, .int p1)] := hl
  refine lv_bipush (v := 24) hx hb dX10_addNumber_0 (by decide) ?_
  refine lv_istore_n (lv' := [(2, .int 24), (0, .ref a0), (1, .int p1)]) hx hb dX10_addNumber_2 rfl hl (by decide) rfl (fun ls hl => ?_)
  obtain ⟨nf, hq⟩ := hq
  exact lp_X10_addNumber_3  C hr hlk hn h0  nf _ _ _ _ _ hq hw (lv_sub hl [1, 2, 0] rfl)
