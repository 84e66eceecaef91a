set_option maxRecDepth 100000 in
def lb_X6_init_50  (g : Gh) (M0 : Mem) (a0 : Nat) (a1 : Nat) (post : Mem → Prop)    (M : Mem) (ck sk : Nat) : Prop :=
  (ck + 1 ≤ 122 ∧ sk + 2 ≤ 842) ∧ (∀ q2 M3, q2 = mT M → M3 = nw M 14 2 → (∀ M7, M7 = uR M3 a0 8 (some q2) → (((ck + 1) ≤ 122 ∧ (sk + 2) ≤ 842) ∧ (post M7))))
set_option maxRecDepth 100000 in
def bd_X6_init_25  (g : Gh) (M0 : Mem) (a0 : Nat) (a1 : Nat) (post : Mem → Prop)  (bk25 : Int32 × Mem × Nat × Nat → Prop) (x2 : Int32)  (M : Mem) (ck sk : Nat) : Prop :=
  ((120 ≤ x2) → lb_X6_init_50  g M0 a0 a1 post   M ck sk) ∧ (¬ (120 ≤ x2) → ∃ q11, mR M a0 2 = some q11 ∧ ((ck + 1 ≤ 122 ∧ sk + 6 ≤ 842) ∧ (∀ q14 M15, q14 = mT M → M15 = nw M 0 0 → (((ck + 1) ≤ 122 ∧ (sk + 6) ≤ 842) ∧ (wp_X0_init g M15 q14 (fun M20 => okc (gB g) M20 q11 18 ∧ (vp_in x2 (mN M20 q11) ∧ (∀ M24, M24 = uR M20 q11 (Int32.toNatClampNeg x2) (some q14) → (bk25 ((x2 + 1), M24, (ck + 1), (sk + 6)))))))))))
set_option maxRecDepth 100000 in
def wp_X6_init  (g : Gh) (M0 : Mem) (a0 : Nat) (a1 : Nat) (post : Mem → Prop) : Prop :=
  okc (gB g) M0 a0 6 ∧ (∀ M26, M26 = uI M0 a0 0 0 → (∀ M28, M28 = uR M26 a0 1 (some a1) → ((0 + 1 ≤ 122 ∧ 0 + 120 ≤ 842) ∧ (∀ q31 M32, q31 = mT M28 → M32 = nw M28 18 120 → (∀ M36, M36 = uR M32 a0 2 (some q31) → ((∃ n : Nat, lfp (fun bk z => bd_X6_init_25  g M0 a0 a1 post  bk z.1 z.2.1 z.2.2.1 z.2.2.2) n (0, M36, (0 + 1), (0 + 120)))))))))
set_option maxHeartbeats 4000000 in
set_option maxRecDepth 100000 in
theorem lt_X6_init_50 {l : Launch} {g : Gh} {p : Program} {e : Env} {s : State} {m : MethodId} {args : Array Value} {below : List Frame} {meth : Method} {c : Code} {H : Heap} {locs : List Loc} {ls : Array Slot} {M0 M : Mem} {a0 : Nat} {a1 : Nat} {post : Mem → Prop}   {ck sk : Nat}  (C : Cx g p s m args c cX6_init 3 RX6) (hr : meth.sig.returnType = none) (hlk : meth.locks = false) (hn : meth.name = "<init>") (h0 : okc (gB g) M0 a0 6)  (hq : lb_X6_init_50  g M0 a0 a1 post   M ck sk) (hw : Wd g s M0 M H locs) (hl : lv_has ls 3 [(0, .ref a0), (1, .ref a1)]) : W p l e (rmo 2 122 842) s m args below meth c H locs ck sk (MQ below (Cq g M0 (pV post)) args s 122 842 (gA g)) (F0 m 50 ls []) := by
  have hx := C.1.1
  have hb := C.1.2.1
  unfold lb_X6_init_50 at hq
  have h00 := h0
  replace h0 := h0.up hw.2.2.1
  refine lv_aload_n hx hb dX6_init_50 rfl (lv_at hl 0 rfl) ?_
  refine lv_iconst (v := 2) hx hb dX6_init_51 (by decide) ?_
  have hB := hw.B C.2.2.2.2.2
  obtain ⟨h1, hq⟩ := hq
  refine q_newa_14 (N' := 2) C hw (by decide) (by decide) (by decide) h1.1 h1.2 dX6_init_52 (fun H hw => ?_)
  have h6 := okc_nw (gB g) M 14 2 hB
  have h0 := h0.up (mle_nw M 14 2)
  generalize e4 : nw M 14 2 = M3 at hw h6 h0
  generalize e5 : mT M = q2 at h6 ⊢
  replace hq := hq q2 M3 e5.symm e4.symm
  refine pfX6_26 (v := (some q2)) C hw (mle_rf _) h0 hn dX6_init_54 (fun H locs hw => ?_)
  generalize e8 : uR M3 a0 8 (some q2) = M7 at hw
  replace hq := hq M7 e8.symm
  have h0 : okc (gB g) M7 a0 6 := by rw [← e8]; exact okc_uR h0
  obtain ⟨h9, hq⟩ := hq
  exact r_vret C hr hlk hw dX6_init_57 h9.1 h9.2 ⟨rfl, hq⟩
set_option maxHeartbeats 4000000 in
set_option maxRecDepth 100000 in
theorem lp_X6_init_25 {l : Launch} {g : Gh} {p : Program} {e : Env} {s : State} {m : MethodId} {args : Array Value} {below : List Frame} {meth : Method} {c : Code} {M0 : Mem} {a0 : Nat} {a1 : Nat} {post : Mem → Prop}  (C : Cx g p s m args c cX6_init 3 RX6) (hr : meth.sig.returnType = none) (hlk : meth.locks = false) (hn : meth.name = "<init>") (h0 : okc (gB g) M0 a0 6)  : ∀ (nf : Nat) (x2 : Int32)  (M : Mem) (ck sk : Nat) (H : Heap) (locs : List Loc) (ls : Array Slot), lfp (fun bk z => bd_X6_init_25  g M0 a0 a1 post  bk z.1 z.2.1 z.2.2.1 z.2.2.2) nf (x2, M, ck, sk) → Wd g s M0 M H locs → lv_has ls 3 [(0, .ref a0), (1, .ref a1), (2, .int x2)] → W p l e (rmo 2 122 842) s m args below meth c H locs ck sk (MQ below (Cq g M0 (pV post)) args s 122 842 (gA g)) (F0 m 25 ls []) := by
  have hx := C.1.1
  have hb := C.1.2.1
  intro nf
  induction nf with
  | zero => intro _ _ _ _ H locs ls hq; exact hq.elim
  | succ nf hk25 =>
    intro x2 M ck sk H locs ls hq hw hl
    replace hq : bd_X6_init_25  g M0 a0 a1 post  (lfp (fun bk z => bd_X6_init_25  g M0 a0 a1 post  bk z.1 z.2.1 z.2.2.1 z.2.2.2) nf) x2 M ck sk := hq
    unfold bd_X6_init_25 at hq
    have h00 := h0
    replace h0 := h0.up hw.2.2.1
    refine lv_iload_n hx hb dX6_init_25 rfl (lv_at hl 2 rfl) ?_
    refine lv_bipush (v := 120) hx hb dX6_init_26 (by decide) ?_
    refine lv_icmp_ge (tgt := 50) hx hb dX6_init_28 (by decide) (fun c10 => ?_) (fun c10 => ?_)
    · replace hq := hq.1 c10
      exact lt_X6_init_50  C hr hlk hn h00  hq hw (lv_sub hl [0, 1] rfl)
    · replace hq := hq.2 c10
      refine lv_aload_n hx hb dX6_init_31 rfl (lv_at hl 0 rfl) ?_
      obtain ⟨q11, e12, hq⟩ := hq
      refine gfX6_21 C hw (mle_rf _) h0 e12 dX6_init_32 ?_
      refine lv_iload_n hx hb dX6_init_35 rfl (lv_at hl 2 rfl) ?_
      have hB := hw.B C.2.2.2.2.2
      obtain ⟨h13, hq⟩ := hq
      refine r_new tyX0 (T := TX0) (N := 6) (ci := 0) C hw rfl (by decide) inX0 tyX0_ok w_268 w_270 w_9 df_0 h13.1 h13.2 dX6_init_36 (fun H hw => ?_)
      have h18 := okc_nw (gB g) M 0 0 hB
      have h0 := h0.up (mle_nw M 0 0)
      generalize e16 : nw M 0 0 = M15 at hw h18 h0
      generalize e17 : mT M = q14 at h18 ⊢
      replace hq := hq q14 M15 e17.symm e16.symm
      refine lv_dup hx hb dX6_init_39 rfl ?_
      obtain ⟨h21, hq⟩ := hq
      refine r_callIN (index := 25) (n := 0) (d2 := 1) (mc := 0) (ms := 0) (As := []) (rest := [.ref q14, .int x2, .ref q11]) C hw (ct_X0_init hq) kiX6_25 ⟨by decide, by decide⟩ ⟨h21.1, h21.2⟩ rfl hl.1 rfl (Nat.le_of_ble_eq_true rfl) dX6_init_40 (fun r M20 H locs hp hle hw => ?_)
      obtain ⟨rfl, hq⟩ := hp
      have h0 := h0.up hle
      have h18 := h18.up hle
      refine W.eq (g2 := F0 m 43 ls [.ref q14, .int x2, .ref q11]) rfl ?_
      obtain ⟨h22, hq⟩ := hq
      obtain ⟨h23, hq⟩ := hq
      refine q_aast (ci := 0) C hw (mle_rf _) h22 (by decide) (by decide) rfl h18 (by decide) rfl h23 dX6_init_43 (fun H locs hw => ?_)
      generalize e25 : uR M20 q11 (Int32.toNatClampNeg x2) (some q14) = M24 at hw
      replace hq := hq M24 e25.symm
      have h0 : okc (gB g) M24 a0 6 := by rw [← e25]; exact okc_uR h0
      refine lv_iinc (v := (x2 + 1)) (lv' := [(2, .int (x2 + 1)), (0, .ref a0), (1, .ref a1)]) hx hb dX6_init_44 hl (k := 2) rfl rfl (by decide) rfl (fun ls hl => ?_)
      refine lv_goto (tgt := 25) hx hb dX6_init_47 (by decide) ?_
      exact hk25 _ _ _ _ _ _ _ hq hw (lv_sub hl [1, 2, 0] rfl)
set_option maxHeartbeats 4000000 in
set_option maxRecDepth 100000 in
theorem ct_X6_init {l : Launch} {g : Gh} {M0 : Mem} {a0 : Nat} {a1 : Nat} {post : Mem → Prop}  (hq : wp_X6_init  g M0 a0 a1 post) : Ct l g yX6_init cX6_init 3 none 2 122 842 [.ref a0, .ref a1] M0 (pV post) := by
  unfold wp_X6_init at hq
  obtain ⟨h0, hq⟩ := hq
  have h00 := h0
  refine Ct.of (by decide) (Nat.le_of_ble_eq_true rfl) ?_
  intro p e s m below meth c ls C hr hlk hn hl hw
  have hx := C.1.1
  have hb := C.1.2.1
  have hl : lv_has ls 3 [(0, .ref a0), (1, .ref a1)] := hl
  refine lv_aload_n hx hb dX6_init_0 rfl (lv_at hl 0 rfl) ?_
  refine W.objInit hx hb C.1.2.2.2.1 (C.1.2.2.2.2 _ w_267) (C.1.2.2.2.2 _ w_35) (C.1.2.2.2.2 _ w_objInit) rfl (by rw [C.1.2.2.1]; exact hl.1) rfl dX6_init_1 (Nat.le_of_ble_eq_true rfl) (Nat.le_of_ble_eq_true rfl) ?_
  refine W.eq (g2 := F0 m 4 ls []) rfl ?_
  refine lv_aload_n hx hb dX6_init_4 rfl (lv_at hl 0 rfl) ?_
  refine lv_iconst (v := 0) hx hb dX6_init_5 (by decide) ?_
  refine pfX6_9 C hw (mle_rf _) h0 (by decide) dX6_init_6 (fun H locs hw => ?_)
  generalize e27 : uI M0 a0 0 0 = M26 at hw
  replace hq := hq M26 e27.symm
  have h0 : okc (gB g) M26 a0 6 := by rw [← e27]; exact okc_uI h0
  refine lv_aload_n hx hb dX6_init_9 rfl (lv_at hl 0 rfl) ?_
  refine lv_aload_n hx hb dX6_init_10 rfl (lv_at hl 1 rfl) ?_
  refine pfX6_15 (v := (some a1)) C hw (mle_rf _) h0 dX6_init_11 (fun H locs hw => ?_)
  generalize e29 : uR M26 a0 1 (some a1) = M28 at hw
  replace hq := hq M28 e29.symm
  have h0 : okc (gB g) M28 a0 6 := by rw [← e29]; exact okc_uR h0
  refine lv_aload_n hx hb dX6_init_14 rfl (lv_at hl 0 rfl) ?_
  refine lv_bipush (v := 120) hx hb dX6_init_15 (by decide) ?_
  have hB := hw.B C.2.2.2.2.2
  obtain ⟨h30, hq⟩ := hq
  refine r_newq (kd := 18) (N' := 120) C hw w_268 C.2.2.2.1.1 rfl (by decide) (by decide) (by decide) (by decide) (by decide) h30.1 h30.2 dX6_init_17 (fun H hw => ?_)
  have h35 := okc_nw (gB g) M28 18 120 hB
  have h0 := h0.up (mle_nw M28 18 120)
  generalize e33 : nw M28 18 120 = M32 at hw h35 h0
  generalize e34 : mT M28 = q31 at h35 ⊢
  replace hq := hq q31 M32 e34.symm e33.symm
  refine pfX6_21 (v := (some q31)) C hw (mle_rf _) h0 hn dX6_init_20 (fun H locs hw => ?_)
  generalize e37 : uR M32 a0 2 (some q31) = M36 at hw
  replace hq := hq M36 e37.symm
  have h0 : okc (gB g) M36 a0 6 := by rw [← e37]; exact okc_uR h0
  refine lv_iconst (v := 0) hx hb dX6_init_23 (by decide) ?_
  refine lv_istore_n (lv' := [(2, .int 0), (0, .ref a0), (1, .ref a1)]) hx hb dX6_init_24 rfl hl (by decide) rfl (fun ls hl => ?_)
  obtain ⟨nf, hq⟩ := hq
  exact lp_X6_init_25  C hr hlk hn h00  nf _ _ _ _ _ _ _ hq hw (lv_sub hl [1, 2, 0] rfl)

set_option maxRecDepth 100000 in
def wp_X6_isOver  (g : Gh) (M0 : Mem) (a0 : Nat) (post : Int32 → Mem → Prop) : Prop :=
  okc (gB g) M0 a0 6 ∧ (∃ q1, mR M0 a0 1 = some q1 ∧ (okc (gB g) M0 q1 4 ∧ ((((mI M0 a0 5) < (mI M0 q1 1)) → post 0 M0) ∧ (¬ ((mI M0 a0 5) < (mI M0 q1 1)) → post 1 M0))))
set_option maxHeartbeats 4000000 in
set_option maxRecDepth 100000 in
theorem ct_X6_isOver {l : Launch} {g : Gh} {M0 : Mem} {a0 : Nat} {post : Int32 → Mem → Prop}  (hq : wp_X6_isOver  g M0 a0 post) : Ct l g yX6_isOver cX6_isOver 1 (some .boolean) 0 0 0 [.ref a0] M0 (pI post) := by
  unfold wp_X6_isOver at hq
  obtain ⟨h0, hq⟩ := hq
  refine Ct.of (by decide) (Nat.le_of_ble_eq_true rfl) ?_
  intro p e s m below meth c ls C hr hlk hn hl hw
  have hx := C.1.1
  have hb := C.1.2.1
  have hl : lv_has ls 1 [(0, .ref a0)] := hl
  refine lv_aload_n hx hb dX6_isOver_0 rfl (lv_at hl 0 rfl) ?_
  refine gfX6_37 C hw hw.2.2.1 h0 dX6_isOver_1 ?_
  refine lv_aload_n hx hb dX6_isOver_4 rfl (lv_at hl 0 rfl) ?_
  obtain ⟨q1, e2, hq⟩ := hq
  refine gfX6_15 C hw hw.2.2.1 h0 e2 dX6_isOver_5 ?_
  obtain ⟨h3, hq⟩ := hq
  refine gfX6_40 C hw hw.2.2.1 h3 dX6_isOver_8 ?_
  refine lv_icmp_lt (tgt := 18) hx hb dX6_isOver_11 (by decide) (fun c4 => ?_) (fun c4 => ?_)
  · replace hq := hq.1 c4
    refine lv_iconst (v := 0) hx hb dX6_isOver_18 (by decide) ?_
    exact r_zret C hr hlk hw dX6_isOver_19 (Nat.le_refl _) (Nat.le_refl _) (by decide) ⟨_, rfl, hq⟩
  · replace hq := hq.2 c4
    refine lv_iconst (v := 1) hx hb dX6_isOver_14 (by decide) ?_
    refine lv_goto (tgt := 19) hx hb dX6_isOver_15 (by decide) ?_
    exact r_zret C hr hlk hw dX6_isOver_19 (Nat.le_refl _) (Nat.le_refl _) (by decide) ⟨_, rfl, hq⟩

set_option maxRecDepth 100000 in
def wp_X6_isBuzz  (g : Gh) (M0 : Mem) (a0 : Nat) (post : Int32 → Mem → Prop) : Prop :=
  okc (gB g) M0 a0 6 ∧ (∃ q1, mR M0 a0 1 = some q1 ∧ (wp_X4_roundOf g M0 q1 (mI M0 a0 5) (fun v3 M4 => ((v3 < 0) → post 0 M4) ∧ (¬ (v3 < 0) → ((6 ≤ v3) → post 0 M4) ∧ (¬ (6 ≤ v3) → ∃ q7, mR M4 a0 1 = some q7 ∧ (okc (gB g) M0 q7 4 ∧ (∃ q10, mR M4 q7 3 = some q10 ∧ (okc (gB g) M0 q10 17 ∧ (vp_in v3 (mN M0 q10) ∧ ((((mI M4 q10 (Int32.toNatClampNeg v3)) = 0) → post 0 M4) ∧ (¬ ((mI M4 q10 (Int32.toNatClampNeg v3)) = 0) → post 1 M4)))))))))))
set_option maxHeartbeats 4000000 in
set_option maxRecDepth 100000 in
theorem ct_X6_isBuzz {l : Launch} {g : Gh} {M0 : Mem} {a0 : Nat} {post : Int32 → Mem → Prop}  (hq : wp_X6_isBuzz  g M0 a0 post) : Ct l g yX6_isBuzz cX6_isBuzz 2 (some .boolean) 1 0 0 [.ref a0] M0 (pI post) := by
  unfold wp_X6_isBuzz at hq
  obtain ⟨h0, hq⟩ := hq
  refine Ct.of (by decide) (Nat.le_of_ble_eq_true rfl) ?_
  intro p e s m below meth c ls C hr hlk hn hl hw
  have hx := C.1.1
  have hb := C.1.2.1
  have hl : lv_has ls 2 [(0, .ref a0)] := hl
  refine lv_aload_n hx hb dX6_isBuzz_0 rfl (lv_at hl 0 rfl) ?_
  obtain ⟨q1, e2, hq⟩ := hq
  refine gfX6_15 C hw hw.2.2.1 h0 e2 dX6_isBuzz_1 ?_
  refine lv_aload_n hx hb dX6_isBuzz_4 rfl (lv_at hl 0 rfl) ?_
  refine gfX6_37 C hw hw.2.2.1 h0 dX6_isBuzz_5 ?_
  refine r_callV (T := TX4) (N := 9) (ci := 4) (index := 106) (n := 1) (d2 := 0) (mc := 0) (ms := 0) (As := [.int (mI M0 a0 5)]) (rest := []) C hw (ct_X4_roundOf hq) kvX6_106 hq.1 (by decide) rfl ⟨by decide, by decide⟩ ⟨by decide, by decide⟩ rfl hl.1 rfl (Nat.le_of_ble_eq_true rfl) dX6_isBuzz_8 (fun r M4 H locs hp hle hw => ?_)
  obtain ⟨v3, rfl, hq⟩ := hp
  refine W.eq (g2 := F0 m 11 ls [.int v3]) rfl ?_
  refine lv_istore_n (lv' := [(1, .int v3), (0, .ref a0)]) hx hb dX6_isBuzz_11 rfl hl (by decide) rfl (fun ls hl => ?_)
  refine lv_iload_n hx hb dX6_isBuzz_12 rfl (lv_at hl 0 rfl) ?_
  refine lv_if_lt (tgt := 38) hx hb dX6_isBuzz_13 (by decide) (fun c5 => ?_) (fun c5 => ?_)
  · replace hq := hq.1 c5
    refine lv_iconst (v := 0) hx hb dX6_isBuzz_38 (by decide) ?_
    exact r_zret C hr hlk hw dX6_isBuzz_39 (Nat.le_refl _) (Nat.le_refl _) (by decide) ⟨_, rfl, hq⟩
  · replace hq := hq.2 c5
    refine lv_iload_n hx hb dX6_isBuzz_16 rfl (lv_at hl 0 rfl) ?_
    refine lv_bipush (v := 6) hx hb dX6_isBuzz_17 (by decide) ?_
    refine lv_icmp_ge (tgt := 38) hx hb dX6_isBuzz_19 (by decide) (fun c6 => ?_) (fun c6 => ?_)
    · replace hq := hq.1 c6
      refine lv_iconst (v := 0) hx hb dX6_isBuzz_38 (by decide) ?_
      exact r_zret C hr hlk hw dX6_isBuzz_39 (Nat.le_refl _) (Nat.le_refl _) (by decide) ⟨_, rfl, hq⟩
    · replace hq := hq.2 c6
      refine lv_aload_n hx hb dX6_isBuzz_22 rfl (lv_at hl 1 rfl) ?_
      obtain ⟨q7, e8, hq⟩ := hq
      refine gfX6_15 C hw hw.2.2.1 h0 e8 dX6_isBuzz_23 ?_
      obtain ⟨h9, hq⟩ := hq
      obtain ⟨q10, e11, hq⟩ := hq
      refine gfX6_121 C hw hw.2.2.1 h9 e11 dX6_isBuzz_26 ?_
      refine lv_iload_n hx hb dX6_isBuzz_29 rfl (lv_at hl 0 rfl) ?_
      obtain ⟨h12, hq⟩ := hq
      obtain ⟨h13, hq⟩ := hq
      refine q_zald C hw hw.2.2.1 h12 h13 dX6_isBuzz_30 ?_
      refine lv_if_eq (tgt := 38) hx hb dX6_isBuzz_31 (by decide) (fun c14 => ?_) (fun c14 => ?_)
      · replace hq := hq.1 c14
        refine lv_iconst (v := 0) hx hb dX6_isBuzz_38 (by decide) ?_
        exact r_zret C hr hlk hw dX6_isBuzz_39 (Nat.le_refl _) (Nat.le_refl _) (by decide) ⟨_, rfl, hq⟩
      · replace hq := hq.2 c14
        refine lv_iconst (v := 1) hx hb dX6_isBuzz_34 (by decide) ?_
        refine lv_goto (tgt := 39) hx hb dX6_isBuzz_35 (by decide) ?_
        exact r_zret C hr hlk hw dX6_isBuzz_39 (Nat.le_refl _) (Nat.le_refl _) (by decide) ⟨_, rfl, hq⟩

set_option maxRecDepth 100000 in
def wp_X6_goTo  (g : Gh) (M0 : Mem) (a0 : Nat) (p1 : Int32) (post : Mem → Prop) : Prop :=
  okc (gB g) M0 a0 6 ∧ (∀ M1, M1 = uI M0 a0 5 p1 → (∀ M3, M3 = uI M1 a0 7 0 → (wp_X6_isOver g M3 a0 (fun v5 M6 => ((v5 = 0) → wp_X6_isBuzz g M6 a0 (fun v8 M9 => ((v8 = 0) → ∀ M11, M11 = uI M9 a0 6 (p1 - p1 / 2 * 2) → (post M11)) ∧ (¬ (v8 = 0) → ∀ M13, M13 = uI M9 a0 6 2 → (post M13)))) ∧ (¬ (v5 = 0) → ∀ M15, M15 = uI M6 a0 6 3 → (post M15))))))
set_option maxHeartbeats 4000000 in
set_option maxRecDepth 100000 in
theorem ct_X6_goTo {l : Launch} {g : Gh} {M0 : Mem} {a0 : Nat} {p1 : Int32} {post : Mem → Prop}  (hq : wp_X6_goTo  g M0 a0 p1 post) : Ct l g yX6_goTo cX6_goTo 2 none 2 0 0 [.ref a0, .int p1] M0 (pV post) := by
  unfold wp_X6_goTo at hq
  obtain ⟨h0, hq⟩ := hq
  refine Ct.of (by decide) (Nat.le_of_ble_eq_true rfl) ?_
  intro p e s m below meth c ls C hr hlk hn hl hw
  have hx := C.1.1
  have hb := C.1.2.1
  have hl : lv_has ls 2 [(0, .ref a0), (1, .int p1)] := hl
  refine lv_aload_n hx hb dX6_goTo_0 rfl (lv_at hl 0 rfl) ?_
  refine lv_iload_n hx hb dX6_goTo_1 rfl (lv_at hl 1 rfl) ?_
  refine pfX6_37 C hw hw.2.2.1 h0 dX6_goTo_2 (fun H locs hw => ?_)
  generalize e2 : uI M0 a0 5 p1 = M1 at hw
  replace hq := hq M1 e2.symm
  refine lv_aload_n hx hb dX6_goTo_5 rfl (lv_at hl 0 rfl) ?_
  refine lv_iconst (v := 0) hx hb dX6_goTo_6 (by decide) ?_
  refine pfX6_93 C hw hw.2.2.1 h0 (by decide) dX6_goTo_7 (fun H locs hw => ?_)
  generalize e4 : uI M1 a0 7 0 = M3 at hw
  replace hq := hq M3 e4.symm
  refine lv_aload_n hx hb dX6_goTo_10 rfl (lv_at hl 0 rfl) ?_
  refine r_callV (T := TX6) (N := 9) (ci := 6) (index := 45) (n := 0) (d2 := 0) (mc := 0) (ms := 0) (As := []) (rest := []) C hw (ct_X6_isOver hq) kvX6_45 hq.1 (by decide) rfl ⟨by decide, by decide⟩ ⟨by decide, by decide⟩ rfl hl.1 rfl (Nat.le_of_ble_eq_true rfl) dX6_goTo_11 (fun r M6 H locs hp hle hw => ?_)
  obtain ⟨v5, rfl, hq⟩ := hp
  refine W.eq (g2 := F0 m 14 ls [.int v5]) rfl ?_
  refine lv_if_eq (tgt := 25) hx hb dX6_goTo_14 (by decide) (fun c7 => ?_) (fun c7 => ?_)
  · replace hq := hq.1 c7
    refine lv_aload_n hx hb dX6_goTo_25 rfl (lv_at hl 0 rfl) ?_
    refine lv_aload_n hx hb dX6_goTo_26 rfl (lv_at hl 0 rfl) ?_
    refine r_callV (T := TX6) (N := 9) (ci := 6) (index := 49) (n := 0) (d2 := 1) (mc := 0) (ms := 0) (As := []) (rest := [.ref a0]) C hw (ct_X6_isBuzz hq) kvX6_49 hq.1 (by decide) rfl ⟨by decide, by decide⟩ ⟨by decide, by decide⟩ rfl hl.1 rfl (Nat.le_of_ble_eq_true rfl) dX6_goTo_27 (fun r M9 H locs hp hle hw => ?_)
    obtain ⟨v8, rfl, hq⟩ := hp
    refine W.eq (g2 := F0 m 30 ls [.int v8, .ref a0]) rfl ?_
    refine lv_if_eq (tgt := 37) hx hb dX6_goTo_30 (by decide) (fun c10 => ?_) (fun c10 => ?_)
    · replace hq := hq.1 c10
      refine lv_iload_n hx hb dX6_goTo_37 rfl (lv_at hl 1 rfl) ?_
      refine lv_iconst (v := 2) hx hb dX6_goTo_38 (by decide) ?_
      refine lv_irem hx hb dX6_goTo_39 (by decide) ?_
      refine pfX6_79 C hw hw.2.2.1 h0 dX6_goTo_40 (fun H locs hw => ?_)
      generalize e12 : uI M9 a0 6 (p1 - p1 / 2 * 2) = M11 at hw
      replace hq := hq M11 e12.symm
      exact r_vret C hr hlk hw dX6_goTo_43 (Nat.le_refl _) (Nat.le_refl _) ⟨rfl, hq⟩
    · replace hq := hq.2 c10
      refine lv_iconst (v := 2) hx hb dX6_goTo_33 (by decide) ?_
      refine lv_goto (tgt := 40) hx hb dX6_goTo_34 (by decide) ?_
      refine pfX6_79 C hw hw.2.2.1 h0 dX6_goTo_40 (fun H locs hw => ?_)
      generalize e14 : uI M9 a0 6 2 = M13 at hw
      replace hq := hq M13 e14.symm
      exact r_vret C hr hlk hw dX6_goTo_43 (Nat.le_refl _) (Nat.le_refl _) ⟨rfl, hq⟩
  · replace hq := hq.2 c7
    refine lv_aload_n hx hb dX6_goTo_17 rfl (lv_at hl 0 rfl) ?_
    refine lv_iconst (v := 3) hx hb dX6_goTo_18 (by decide) ?_
    refine pfX6_79 C hw hw.2.2.1 h0 dX6_goTo_19 (fun H locs hw => ?_)
    generalize e16 : uI M6 a0 6 3 = M15 at hw
    replace hq := hq M15 e16.symm
    refine lv_goto (tgt := 43) hx hb dX6_goTo_22 (by decide) ?_
    exact r_vret C hr hlk hw dX6_goTo_43 (Nat.le_refl _) (Nat.le_refl _) ⟨rfl, hq⟩

set_option maxRecDepth 100000 in
def wp_X6_isFor  (g : Gh) (M0 : Mem) (a0 : Nat) (p1 : Int32) (post : Int32 → Mem → Prop) : Prop :=
  okc (gB g) M0 a0 6 ∧ ((((mI M0 a0 6) = 2) → post 1 M0) ∧ (¬ ((mI M0 a0 6) = 2) → (((mI M0 a0 6) = p1) → post 1 M0) ∧ (¬ ((mI M0 a0 6) = p1) → post 0 M0)))
set_option maxHeartbeats 4000000 in
set_option maxRecDepth 100000 in
theorem ct_X6_isFor {l : Launch} {g : Gh} {M0 : Mem} {a0 : Nat} {p1 : Int32} {post : Int32 → Mem → Prop}  (hq : wp_X6_isFor  g M0 a0 p1 post) : Ct l g yX6_isFor cX6_isFor 2 (some .boolean) 0 0 0 [.ref a0, .int p1] M0 (pI post) := by
  unfold wp_X6_isFor at hq
  obtain ⟨h0, hq⟩ := hq
  refine Ct.of (by decide) (Nat.le_of_ble_eq_true rfl) ?_
  intro p e s m below meth c ls C hr hlk hn hl hw
  have hx := C.1.1
  have hb := C.1.2.1
  have hl : lv_has ls 2 [(0, .ref a0), (1, .int p1)] := hl
  refine lv_aload_n hx hb dX6_isFor_0 rfl (lv_at hl 0 rfl) ?_
  refine gfX6_79 C hw hw.2.2.1 h0 dX6_isFor_1 ?_
  refine lv_iconst (v := 2) hx hb dX6_isFor_4 (by decide) ?_
  refine lv_icmp_eq (tgt := 16) hx hb dX6_isFor_5 (by decide) (fun c1 => ?_) (fun c1 => ?_)
  · replace hq := hq.1 c1
    refine lv_iconst (v := 1) hx hb dX6_isFor_16 (by decide) ?_
    refine lv_goto (tgt := 21) hx hb dX6_isFor_17 (by decide) ?_
    exact r_zret C hr hlk hw dX6_isFor_21 (Nat.le_refl _) (Nat.le_refl _) (by decide) ⟨_, rfl, hq⟩
  · replace hq := hq.2 c1
    refine lv_aload_n hx hb dX6_isFor_8 rfl (lv_at hl 0 rfl) ?_
    refine gfX6_79 C hw hw.2.2.1 h0 dX6_isFor_9 ?_
    refine lv_iload_n hx hb dX6_isFor_12 rfl (lv_at hl 1 rfl) ?_
    refine lv_icmp_ne (tgt := 20) hx hb dX6_isFor_13 (by decide) (fun c2 => ?_) (fun c2 => ?_)
    · replace hq := hq.2 c2
      refine lv_iconst (v := 0) hx hb dX6_isFor_20 (by decide) ?_
      exact r_zret C hr hlk hw dX6_isFor_21 (Nat.le_refl _) (Nat.le_refl _) (by decide) ⟨_, rfl, hq⟩
    · replace hq := hq.1 c2
      refine lv_iconst (v := 1) hx hb dX6_isFor_16 (by decide) ?_
      refine lv_goto (tgt := 21) hx hb dX6_isFor_17 (by decide) ?_
      exact r_zret C hr hlk hw dX6_isFor_21 (Nat.le_refl _) (Nat.le_refl _) (by decide) ⟨_, rfl, hq⟩

set_option maxRecDepth 100000 in
def lb_X6_worthOf_50  (g : Gh) (M0 : Mem) (a0 : Nat) (a1 : Nat) (post : Int32 → Mem → Prop)  (x2 : Int32) (s0 : Int32) (M : Mem) : Prop :=
  okc (gB g) M0 a1 0 ∧ ((((mI M a1 3) = 0) → ((s0 = 0) → ∃ q4, mR M a0 1 = some q4 ∧ (okc (gB g) M0 q4 4 ∧ (∃ q7, mR M q4 6 = some q7 ∧ (okc (gB g) M0 q7 14 ∧ (vp_in x2 (mN M0 q7) ∧ (post (-(mI M q7 (Int32.toNatClampNeg x2))) M)))))) ∧ (¬ (s0 = 0) → post 0 M)) ∧ (¬ ((mI M a1 3) = 0) → ((s0 = 0) → ∃ q12, mR M a0 1 = some q12 ∧ (okc (gB g) M0 q12 4 ∧ (∃ q15, mR M q12 4 = some q15 ∧ (okc (gB g) M0 q15 14 ∧ (vp_in x2 (mN M0 q15) ∧ (post (mI M q15 (Int32.toNatClampNeg x2)) M)))))) ∧ (¬ (s0 = 0) → ∃ q19, mR M a0 1 = some q19 ∧ (okc (gB g) M0 q19 4 ∧ (∃ q22, mR M q19 5 = some q22 ∧ (okc (gB g) M0 q22 14 ∧ (vp_in x2 (mN M0 q22) ∧ (post (mI M q22 (Int32.toNatClampNeg x2)) M))))))))
set_option maxRecDepth 100000 in
def wp_X6_worthOf  (g : Gh) (M0 : Mem) (a0 : Nat) (a1 : Nat) (post : Int32 → Mem → Prop) : Prop :=
  okc (gB g) M0 a0 6 ∧ (∃ q26, mR M0 a0 1 = some q26 ∧ (wp_X4_roundOf g M0 q26 (mI M0 a0 5) (fun v28 M29 => okc (gB g) M0 a1 0 ∧ ((((mI M29 a1 1) = 0) → ((v28 < 0) → post 0 M29) ∧ (¬ (v28 < 0) → ((v28 < 6) → (((mI M29 a0 7) = 0) → lb_X6_worthOf_50  g M0 a0 a1 post  v28 0 M29) ∧ (¬ ((mI M29 a0 7) = 0) → wp_X6_isBuzz g M29 a0 (fun v35 M36 => ((v35 = 0) → lb_X6_worthOf_50  g M0 a0 a1 post  v28 1 M36) ∧ (¬ (v35 = 0) → lb_X6_worthOf_50  g M0 a0 a1 post  v28 0 M36)))) ∧ (¬ (v28 < 6) → post 0 M29))) ∧ (¬ ((mI M29 a1 1) = 0) → post 0 M29)))))
set_option maxHeartbeats 4000000 in
set_option maxRecDepth 100000 in
theorem lt_X6_worthOf_50 {l : Launch} {g : Gh} {p : Program} {e : Env} {s : State} {m : MethodId} {args : Array Value} {below : List Frame} {meth : Method} {c : Code} {H : Heap} {locs : List Loc} {ls : Array Slot} {M0 M : Mem} {a0 : Nat} {a1 : Nat} {post : Int32 → Mem → Prop} {x2 : Int32} {s0 : Int32}  (C : Cx g p s m args c cX6_worthOf 4 RX6) (hr : meth.sig.returnType = (some .int)) (hlk : meth.locks = false) (hn : meth.name = "worthOf") (h0 : okc (gB g) M0 a0 6)  (hq : lb_X6_worthOf_50  g M0 a0 a1 post  x2 s0 M) (hw : Wd g s M0 M H locs) (hl : lv_has ls 4 [(0, .ref a0), (1, .ref a1), (2, .int x2)]) : W p l e (rmo 2 0 0) s m args below meth c H locs 0 0 (MQ below (Cq g M0 (pI post)) args s 0 0 (gA g)) (F0 m 50 ls [.int s0]) := by
  have hx := C.1.1
  have hb := C.1.2.1
  unfold lb_X6_worthOf_50 at hq
  refine lv_istore_n (lv' := [(3, .int s0), (0, .ref a0), (1, .ref a1), (2, .int x2)]) hx hb dX6_worthOf_50 rfl hl (by decide) rfl (fun ls hl => ?_)
  refine lv_aload_n hx hb dX6_worthOf_51 rfl (lv_at hl 2 rfl) ?_
  obtain ⟨h1, hq⟩ := hq
  refine gfX6_65 C hw hw.2.2.1 h1 dX6_worthOf_52 ?_
  refine lv_if_eq (tgt := 84) hx hb dX6_worthOf_55 (by decide) (fun c2 => ?_) (fun c2 => ?_)
  · replace hq := hq.1 c2
    refine lv_iload_n hx hb dX6_worthOf_84 rfl (lv_at hl 0 rfl) ?_
    refine lv_if_eq (tgt := 92) hx hb dX6_worthOf_85 (by decide) (fun c3 => ?_) (fun c3 => ?_)
    · replace hq := hq.1 c3
      refine lv_aload_n hx hb dX6_worthOf_92 rfl (lv_at hl 1 rfl) ?_
      obtain ⟨q4, e5, hq⟩ := hq
      refine gfX6_15 C hw hw.2.2.1 h0 e5 dX6_worthOf_93 ?_
      obtain ⟨h6, hq⟩ := hq
      obtain ⟨q7, e8, hq⟩ := hq
      refine gfX6_115 C hw hw.2.2.1 h6 e8 dX6_worthOf_96 ?_
      refine lv_iload_n hx hb dX6_worthOf_99 rfl (lv_at hl 3 rfl) ?_
      obtain ⟨h9, hq⟩ := hq
      obtain ⟨h10, hq⟩ := hq
      refine q_iald C hw hw.2.2.1 h9 h10 dX6_worthOf_100 ?_
      refine lv_ineg hx hb dX6_worthOf_101 ?_
      exact r_iret C hr hlk hw dX6_worthOf_102 (Nat.le_refl _) (Nat.le_refl _) ⟨_, rfl, hq⟩
    · replace hq := hq.2 c3
      refine lv_iconst (v := 0) hx hb dX6_worthOf_88 (by decide) ?_
      refine lv_goto (tgt := 102) hx hb dX6_worthOf_89 (by decide) ?_
      exact r_iret C hr hlk hw dX6_worthOf_102 (Nat.le_refl _) (Nat.le_refl _) ⟨_, rfl, hq⟩
  · replace hq := hq.2 c2
    refine lv_iload_n hx hb dX6_worthOf_58 rfl (lv_at hl 0 rfl) ?_
    refine lv_if_eq (tgt := 74) hx hb dX6_worthOf_59 (by decide) (fun c11 => ?_) (fun c11 => ?_)
    · replace hq := hq.1 c11
      refine lv_aload_n hx hb dX6_worthOf_74 rfl (lv_at hl 1 rfl) ?_
      obtain ⟨q12, e13, hq⟩ := hq
      refine gfX6_15 C hw hw.2.2.1 h0 e13 dX6_worthOf_75 ?_
      obtain ⟨h14, hq⟩ := hq
      obtain ⟨q15, e16, hq⟩ := hq
      refine gfX6_112 C hw hw.2.2.1 h14 e16 dX6_worthOf_78 ?_
      refine lv_iload_n hx hb dX6_worthOf_81 rfl (lv_at hl 3 rfl) ?_
      obtain ⟨h17, hq⟩ := hq
      obtain ⟨h18, hq⟩ := hq
      refine q_iald C hw hw.2.2.1 h17 h18 dX6_worthOf_82 ?_
      exact r_iret C hr hlk hw dX6_worthOf_83 (Nat.le_refl _) (Nat.le_refl _) ⟨_, rfl, hq⟩
    · replace hq := hq.2 c11
      refine lv_aload_n hx hb dX6_worthOf_62 rfl (lv_at hl 1 rfl) ?_
      obtain ⟨q19, e20, hq⟩ := hq
      refine gfX6_15 C hw hw.2.2.1 h0 e20 dX6_worthOf_63 ?_
      obtain ⟨h21, hq⟩ := hq
      obtain ⟨q22, e23, hq⟩ := hq
      refine gfX6_109 C hw hw.2.2.1 h21 e23 dX6_worthOf_66 ?_
      refine lv_iload_n hx hb dX6_worthOf_69 rfl (lv_at hl 3 rfl) ?_
      obtain ⟨h24, hq⟩ := hq
      obtain ⟨h25, hq⟩ := hq
      refine q_iald C hw hw.2.2.1 h24 h25 dX6_worthOf_70 ?_
      refine lv_goto (tgt := 83) hx hb dX6_worthOf_71 (by decide) ?_
      exact r_iret C hr hlk hw dX6_worthOf_83 (Nat.le_refl _) (Nat.le_refl _) ⟨_, rfl, hq⟩
set_option maxHeartbeats 4000000 in
set_option maxRecDepth 100000 in
theorem ct_X6_worthOf {l : Launch} {g : Gh} {M0 : Mem} {a0 : Nat} {a1 : Nat} {post : Int32 → Mem → Prop}  (hq : wp_X6_worthOf  g M0 a0 a1 post) : Ct l g yX6_worthOf cX6_worthOf 4 (some .int) 2 0 0 [.ref a0, .ref a1] M0 (pI post) := by
  unfold wp_X6_worthOf at hq
  obtain ⟨h0, hq⟩ := hq
  refine Ct.of (by decide) (Nat.le_of_ble_eq_true rfl) ?_
  intro p e s m below meth c ls C hr hlk hn hl hw
  have hx := C.1.1
  have hb := C.1.2.1
  have hl : lv_has ls 4 [(0, .ref a0), (1, .ref a1)] := hl
  refine lv_aload_n hx hb dX6_worthOf_0 rfl (lv_at hl 0 rfl) ?_
  obtain ⟨q26, e27, hq⟩ := hq
  refine gfX6_15 C hw hw.2.2.1 h0 e27 dX6_worthOf_1 ?_
  refine lv_aload_n hx hb dX6_worthOf_4 rfl (lv_at hl 0 rfl) ?_
  refine gfX6_37 C hw hw.2.2.1 h0 dX6_worthOf_5 ?_
  refine r_callV (T := TX4) (N := 9) (ci := 4) (index := 106) (n := 1) (d2 := 0) (mc := 0) (ms := 0) (As := [.int (mI M0 a0 5)]) (rest := []) C hw (ct_X4_roundOf hq) kvX6_106 hq.1 (by decide) rfl ⟨by decide, by decide⟩ ⟨by decide, by decide⟩ rfl hl.1 rfl (Nat.le_of_ble_eq_true rfl) dX6_worthOf_8 (fun r M29 H locs hp hle hw => ?_)
  obtain ⟨v28, rfl, hq⟩ := hp
  refine W.eq (g2 := F0 m 11 ls [.int v28]) rfl ?_
  refine lv_istore_n (lv' := [(2, .int v28), (0, .ref a0), (1, .ref a1)]) hx hb dX6_worthOf_11 rfl hl (by decide) rfl (fun ls hl => ?_)
  refine lv_aload_n hx hb dX6_worthOf_12 rfl (lv_at hl 2 rfl) ?_
  obtain ⟨h30, hq⟩ := hq
  refine gfX6_59 C hw hw.2.2.1 h30 dX6_worthOf_13 ?_
  refine lv_if_ne (tgt := 29) hx hb dX6_worthOf_16 (by decide) (fun c31 => ?_) (fun c31 => ?_)
  · replace hq := hq.2 c31
    refine lv_iconst (v := 0) hx hb dX6_worthOf_29 (by decide) ?_
    exact r_iret C hr hlk hw dX6_worthOf_30 (Nat.le_refl _) (Nat.le_refl _) ⟨_, rfl, hq⟩
  · replace hq := hq.1 c31
    refine lv_iload_n hx hb dX6_worthOf_19 rfl (lv_at hl 0 rfl) ?_
    refine lv_if_lt (tgt := 29) hx hb dX6_worthOf_20 (by decide) (fun c32 => ?_) (fun c32 => ?_)
    · replace hq := hq.1 c32
      refine lv_iconst (v := 0) hx hb dX6_worthOf_29 (by decide) ?_
      exact r_iret C hr hlk hw dX6_worthOf_30 (Nat.le_refl _) (Nat.le_refl _) ⟨_, rfl, hq⟩
    · replace hq := hq.2 c32
      refine lv_iload_n hx hb dX6_worthOf_23 rfl (lv_at hl 0 rfl) ?_
      refine lv_bipush (v := 6) hx hb dX6_worthOf_24 (by decide) ?_
      refine lv_icmp_lt (tgt := 31) hx hb dX6_worthOf_26 (by decide) (fun c33 => ?_) (fun c33 => ?_)
      · replace hq := hq.1 c33
        refine lv_aload_n hx hb dX6_worthOf_31 rfl (lv_at hl 1 rfl) ?_
        refine gfX6_93 C hw hw.2.2.1 h0 dX6_worthOf_32 ?_
        refine lv_if_eq (tgt := 49) hx hb dX6_worthOf_35 (by decide) (fun c34 => ?_) (fun c34 => ?_)
        · replace hq := hq.1 c34
          refine lv_iconst (v := 0) hx hb dX6_worthOf_49 (by decide) ?_
          exact lt_X6_worthOf_50  C hr hlk hn h0  hq hw (lv_sub hl [1, 2, 0] rfl)
        · replace hq := hq.2 c34
          refine lv_aload_n hx hb dX6_worthOf_38 rfl (lv_at hl 1 rfl) ?_
          refine r_callV (T := TX6) (N := 9) (ci := 6) (index := 49) (n := 0) (d2 := 1) (mc := 0) (ms := 0) (As := []) (rest := []) C hw (ct_X6_isBuzz hq) kvX6_49 hq.1 (by decide) rfl ⟨by decide, by decide⟩ ⟨by decide, by decide⟩ rfl hl.1 rfl (Nat.le_of_ble_eq_true rfl) dX6_worthOf_39 (fun r M36 H locs hp hle hw => ?_)
          obtain ⟨v35, rfl, hq⟩ := hp
          refine W.eq (g2 := F0 m 42 ls [.int v35]) rfl ?_
          refine lv_if_ne (tgt := 49) hx hb dX6_worthOf_42 (by decide) (fun c37 => ?_) (fun c37 => ?_)
          · replace hq := hq.2 c37
            refine lv_iconst (v := 0) hx hb dX6_worthOf_49 (by decide) ?_
            exact lt_X6_worthOf_50  C hr hlk hn h0  hq hw (lv_sub hl [1, 2, 0] rfl)
          · replace hq := hq.1 c37
            refine lv_iconst (v := 1) hx hb dX6_worthOf_45 (by decide) ?_
            refine lv_goto (tgt := 50) hx hb dX6_worthOf_46 (by decide) ?_
            exact lt_X6_worthOf_50  C hr hlk hn h0  hq hw (lv_sub hl [1, 2, 0] rfl)
      · replace hq := hq.2 c33
        refine lv_iconst (v := 0) hx hb dX6_worthOf_29 (by decide) ?_
        exact r_iret C hr hlk hw dX6_worthOf_30 (Nat.le_refl _) (Nat.le_refl _) ⟨_, rfl, hq⟩

set_option maxRecDepth 100000 in
def wp_X6_hasPass  (g : Gh) (M0 : Mem) (a0 : Nat) (post : Int32 → Mem → Prop) : Prop :=
  okc (gB g) M0 a0 6 ∧ (∃ q1, mR M0 a0 1 = some q1 ∧ (wp_X4_roundOf g M0 q1 (mI M0 a0 5) (fun v3 M4 => ((v3 < 0) → post 0 M4) ∧ (¬ (v3 < 0) → ((6 ≤ v3) → post 0 M4) ∧ (¬ (6 ≤ v3) → ∃ q7, mR M4 a0 1 = some q7 ∧ (okc (gB g) M0 q7 4 ∧ (∃ q10, mR M4 q7 5 = some q10 ∧ (okc (gB g) M0 q10 14 ∧ (vp_in v3 (mN M0 q10) ∧ ((((mI M4 q10 (Int32.toNatClampNeg v3)) = (-1)) → post 0 M4) ∧ (¬ ((mI M4 q10 (Int32.toNatClampNeg v3)) = (-1)) → post 1 M4)))))))))))
set_option maxHeartbeats 4000000 in
set_option maxRecDepth 100000 in
theorem ct_X6_hasPass {l : Launch} {g : Gh} {M0 : Mem} {a0 : Nat} {post : Int32 → Mem → Prop}  (hq : wp_X6_hasPass  g M0 a0 post) : Ct l g yX6_hasPass cX6_hasPass 2 (some .boolean) 1 0 0 [.ref a0] M0 (pI post) := by
  unfold wp_X6_hasPass at hq
  obtain ⟨h0, hq⟩ := hq
  refine Ct.of (by decide) (Nat.le_of_ble_eq_true rfl) ?_
  intro p e s m below meth c ls C hr hlk hn hl hw
  have hx := C.1.1
  have hb := C.1.2.1
  have hl : lv_has ls 2 [(0, .ref a0)] := hl
  refine lv_aload_n hx hb dX6_hasPass_0 rfl (lv_at hl 0 rfl) ?_
  obtain ⟨q1, e2, hq⟩ := hq
  refine gfX6_15 C hw hw.2.2.1 h0 e2 dX6_hasPass_1 ?_
  refine lv_aload_n hx hb dX6_hasPass_4 rfl (lv_at hl 0 rfl) ?_
  refine gfX6_37 C hw hw.2.2.1 h0 dX6_hasPass_5 ?_
  refine r_callV (T := TX4) (N := 9) (ci := 4) (index := 106) (n := 1) (d2 := 0) (mc := 0) (ms := 0) (As := [.int (mI M0 a0 5)]) (rest := []) C hw (ct_X4_roundOf hq) kvX6_106 hq.1 (by decide) rfl ⟨by decide, by decide⟩ ⟨by decide, by decide⟩ rfl hl.1 rfl (Nat.le_of_ble_eq_true rfl) dX6_hasPass_8 (fun r M4 H locs hp hle hw => ?_)
  obtain ⟨v3, rfl, hq⟩ := hp
  refine W.eq (g2 := F0 m 11 ls [.int v3]) rfl ?_
  refine lv_istore_n (lv' := [(1, .int v3), (0, .ref a0)]) hx hb dX6_hasPass_11 rfl hl (by decide) rfl (fun ls hl => ?_)
  refine lv_iload_n hx hb dX6_hasPass_12 rfl (lv_at hl 0 rfl) ?_
  refine lv_if_lt (tgt := 39) hx hb dX6_hasPass_13 (by decide) (fun c5 => ?_) (fun c5 => ?_)
  · replace hq := hq.1 c5
    refine lv_iconst (v := 0) hx hb dX6_hasPass_39 (by decide) ?_
    exact r_zret C hr hlk hw dX6_hasPass_40 (Nat.le_refl _) (Nat.le_refl _) (by decide) ⟨_, rfl, hq⟩
  · replace hq := hq.2 c5
    refine lv_iload_n hx hb dX6_hasPass_16 rfl (lv_at hl 0 rfl) ?_
    refine lv_bipush (v := 6) hx hb dX6_hasPass_17 (by decide) ?_
    refine lv_icmp_ge (tgt := 39) hx hb dX6_hasPass_19 (by decide) (fun c6 => ?_) (fun c6 => ?_)
    · replace hq := hq.1 c6
      refine lv_iconst (v := 0) hx hb dX6_hasPass_39 (by decide) ?_
      exact r_zret C hr hlk hw dX6_hasPass_40 (Nat.le_refl _) (Nat.le_refl _) (by decide) ⟨_, rfl, hq⟩
    · replace hq := hq.2 c6
      refine lv_aload_n hx hb dX6_hasPass_22 rfl (lv_at hl 1 rfl) ?_
      obtain ⟨q7, e8, hq⟩ := hq
      refine gfX6_15 C hw hw.2.2.1 h0 e8 dX6_hasPass_23 ?_
      obtain ⟨h9, hq⟩ := hq
      obtain ⟨q10, e11, hq⟩ := hq
      refine gfX6_109 C hw hw.2.2.1 h9 e11 dX6_hasPass_26 ?_
      refine lv_iload_n hx hb dX6_hasPass_29 rfl (lv_at hl 0 rfl) ?_
      obtain ⟨h12, hq⟩ := hq
      obtain ⟨h13, hq⟩ := hq
      refine q_iald C hw hw.2.2.1 h12 h13 dX6_hasPass_30 ?_
      refine lv_iconst (v := (-1)) hx hb dX6_hasPass_31 (by decide) ?_
      refine lv_icmp_eq (tgt := 39) hx hb dX6_hasPass_32 (by decide) (fun c14 => ?_) (fun c14 => ?_)
      · replace hq := hq.1 c14
        refine lv_iconst (v := 0) hx hb dX6_hasPass_39 (by decide) ?_
        exact r_zret C hr hlk hw dX6_hasPass_40 (Nat.le_refl _) (Nat.le_refl _) (by decide) ⟨_, rfl, hq⟩
      · replace hq := hq.2 c14
        refine lv_iconst (v := 1) hx hb dX6_hasPass_35 (by decide) ?_
        refine lv_goto (tgt := 40) hx hb dX6_hasPass_36 (by decide) ?_
        exact r_zret C hr hlk hw dX6_hasPass_40 (Nat.le_refl _) (Nat.le_refl _) (by decide) ⟨_, rfl, hq⟩

set_option maxRecDepth 100000 in
def lb_X6_goesToOther_27  (g : Gh) (M0 : Mem) (a0 : Nat) (a1 : Nat) (post : Int32 → Mem → Prop)   (s0 : Int32) (M : Mem) : Prop :=
  ((s0 = 0) → post 0 M) ∧ (¬ (s0 = 0) → wp_X6_isBuzz g M a0 (fun v2 M3 => ((v2 = 0) → wp_X6_hasPass g M3 a0 (fun v5 M6 => ((v5 = 0) → post 0 M6) ∧ (¬ (v5 = 0) → post 1 M6))) ∧ (¬ (v2 = 0) → post 1 M3)))
set_option maxRecDepth 100000 in
def wp_X6_goesToOther  (g : Gh) (M0 : Mem) (a0 : Nat) (a1 : Nat) (post : Int32 → Mem → Prop) : Prop :=
  okc (gB g) M0 a0 6 ∧ ((((mI M0 a0 7) = 0) → okc (gB g) M0 a1 0 ∧ ((((mI M0 a1 3) = 0) → (((mI M0 a1 1) = 2) → lb_X6_goesToOther_27  g M0 a0 a1 post  0 M0) ∧ (¬ ((mI M0 a1 1) = 2) → lb_X6_goesToOther_27  g M0 a0 a1 post  1 M0)) ∧ (¬ ((mI M0 a1 3) = 0) → lb_X6_goesToOther_27  g M0 a0 a1 post  0 M0))) ∧ (¬ ((mI M0 a0 7) = 0) → lb_X6_goesToOther_27  g M0 a0 a1 post  0 M0))
set_option maxHeartbeats 4000000 in
set_option maxRecDepth 100000 in
theorem lt_X6_goesToOther_27 {l : Launch} {g : Gh} {p : Program} {e : Env} {s : State} {m : MethodId} {args : Array Value} {below : List Frame} {meth : Method} {c : Code} {H : Heap} {locs : List Loc} {ls : Array Slot} {M0 M : Mem} {a0 : Nat} {a1 : Nat} {post : Int32 → Mem → Prop}  {s0 : Int32}  (C : Cx g p s m args c cX6_goesToOther 3 RX6) (hr : meth.sig.returnType = (some .boolean)) (hlk : meth.locks = false) (hn : meth.name = "goesToOther") (h0 : okc (gB g) M0 a0 6)  (hq : lb_X6_goesToOther_27  g M0 a0 a1 post  s0 M) (hw : Wd g s M0 M H locs) (hl : lv_has ls 3 [(0, .ref a0), (1, .ref a1)]) : W p l e (rmo 2 0 0) s m args below meth c H locs 0 0 (MQ below (Cq g M0 (pI post)) args s 0 0 (gA g)) (F0 m 27 ls [.int s0]) := by
  have hx := C.1.1
  have hb := C.1.2.1
  unfold lb_X6_goesToOther_27 at hq
  refine lv_istore_n (lv' := [(2, .int s0), (0, .ref a0), (1, .ref a1)]) hx hb dX6_goesToOther_27 rfl hl (by decide) rfl (fun ls hl => ?_)
  refine lv_iload_n hx hb dX6_goesToOther_28 rfl (lv_at hl 0 rfl) ?_
  refine lv_if_eq (tgt := 50) hx hb dX6_goesToOther_29 (by decide) (fun c1 => ?_) (fun c1 => ?_)
  · replace hq := hq.1 c1
    refine lv_iconst (v := 0) hx hb dX6_goesToOther_50 (by decide) ?_
    exact r_zret C hr hlk hw dX6_goesToOther_51 (Nat.le_refl _) (Nat.le_refl _) (by decide) ⟨_, rfl, hq⟩
  · replace hq := hq.2 c1
    refine lv_aload_n hx hb dX6_goesToOther_32 rfl (lv_at hl 1 rfl) ?_
    refine r_callV (T := TX6) (N := 9) (ci := 6) (index := 49) (n := 0) (d2 := 1) (mc := 0) (ms := 0) (As := []) (rest := []) C hw (ct_X6_isBuzz hq) kvX6_49 hq.1 (by decide) rfl ⟨by decide, by decide⟩ ⟨by decide, by decide⟩ rfl hl.1 rfl (Nat.le_of_ble_eq_true rfl) dX6_goesToOther_33 (fun r M3 H locs hp hle hw => ?_)
    obtain ⟨v2, rfl, hq⟩ := hp
    refine W.eq (g2 := F0 m 36 ls [.int v2]) rfl ?_
    refine lv_if_ne (tgt := 46) hx hb dX6_goesToOther_36 (by decide) (fun c4 => ?_) (fun c4 => ?_)
    · replace hq := hq.2 c4
      refine lv_iconst (v := 1) hx hb dX6_goesToOther_46 (by decide) ?_
      refine lv_goto (tgt := 51) hx hb dX6_goesToOther_47 (by decide) ?_
      exact r_zret C hr hlk hw dX6_goesToOther_51 (Nat.le_refl _) (Nat.le_refl _) (by decide) ⟨_, rfl, hq⟩
    · replace hq := hq.1 c4
      refine lv_aload_n hx hb dX6_goesToOther_39 rfl (lv_at hl 1 rfl) ?_
      refine r_callV (T := TX6) (N := 9) (ci := 6) (index := 118) (n := 0) (d2 := 1) (mc := 0) (ms := 0) (As := []) (rest := []) C hw (ct_X6_hasPass hq) kvX6_118 hq.1 (by decide) rfl ⟨by decide, by decide⟩ ⟨by decide, by decide⟩ rfl hl.1 rfl (Nat.le_of_ble_eq_true rfl) dX6_goesToOther_40 (fun r M6 H locs hp hle hw => ?_)
      obtain ⟨v5, rfl, hq⟩ := hp
      refine W.eq (g2 := F0 m 43 ls [.int v5]) rfl ?_
      refine lv_if_eq (tgt := 50) hx hb dX6_goesToOther_43 (by decide) (fun c7 => ?_) (fun c7 => ?_)
      · replace hq := hq.1 c7
        refine lv_iconst (v := 0) hx hb dX6_goesToOther_50 (by decide) ?_
        exact r_zret C hr hlk hw dX6_goesToOther_51 (Nat.le_refl _) (Nat.le_refl _) (by decide) ⟨_, rfl, hq⟩
      · replace hq := hq.2 c7
        refine lv_iconst (v := 1) hx hb dX6_goesToOther_46 (by decide) ?_
        refine lv_goto (tgt := 51) hx hb dX6_goesToOther_47 (by decide) ?_
        exact r_zret C hr hlk hw dX6_goesToOther_51 (Nat.le_refl _) (Nat.le_refl _) (by decide) ⟨_, rfl, hq⟩
set_option maxHeartbeats 4000000 in
set_option maxRecDepth 100000 in
theorem ct_X6_goesToOther {l : Launch} {g : Gh} {M0 : Mem} {a0 : Nat} {a1 : Nat} {post : Int32 → Mem → Prop}  (hq : wp_X6_goesToOther  g M0 a0 a1 post) : Ct l g yX6_goesToOther cX6_goesToOther 3 (some .boolean) 2 0 0 [.ref a0, .ref a1] M0 (pI post) := by
  unfold wp_X6_goesToOther at hq
  obtain ⟨h0, hq⟩ := hq
  refine Ct.of (by decide) (Nat.le_of_ble_eq_true rfl) ?_
  intro p e s m below meth c ls C hr hlk hn hl hw
  have hx := C.1.1
  have hb := C.1.2.1
  have hl : lv_has ls 3 [(0, .ref a0), (1, .ref a1)] := hl
  refine lv_aload_n hx hb dX6_goesToOther_0 rfl (lv_at hl 0 rfl) ?_
  refine gfX6_93 C hw hw.2.2.1 h0 dX6_goesToOther_1 ?_
  refine lv_if_ne (tgt := 26) hx hb dX6_goesToOther_4 (by decide) (fun c8 => ?_) (fun c8 => ?_)
  · replace hq := hq.2 c8
    refine lv_iconst (v := 0) hx hb dX6_goesToOther_26 (by decide) ?_
    exact lt_X6_goesToOther_27  C hr hlk hn h0  hq hw (lv_sub hl [0, 1] rfl)
  · replace hq := hq.1 c8
    refine lv_aload_n hx hb dX6_goesToOther_7 rfl (lv_at hl 1 rfl) ?_
    obtain ⟨h9, hq⟩ := hq
    refine gfX6_65 C hw hw.2.2.1 h9 dX6_goesToOther_8 ?_
    refine lv_if_ne (tgt := 26) hx hb dX6_goesToOther_11 (by decide) (fun c10 => ?_) (fun c10 => ?_)
    · replace hq := hq.2 c10
      refine lv_iconst (v := 0) hx hb dX6_goesToOther_26 (by decide) ?_
      exact lt_X6_goesToOther_27  C hr hlk hn h0  hq hw (lv_sub hl [0, 1] rfl)
    · replace hq := hq.1 c10
      refine lv_aload_n hx hb dX6_goesToOther_14 rfl (lv_at hl 1 rfl) ?_
      refine gfX6_59 C hw hw.2.2.1 h9 dX6_goesToOther_15 ?_
      refine lv_iconst (v := 2) hx hb dX6_goesToOther_18 (by decide) ?_
      refine lv_icmp_eq (tgt := 26) hx hb dX6_goesToOther_19 (by decide) (fun c11 => ?_) (fun c11 => ?_)
      · replace hq := hq.1 c11
        refine lv_iconst (v := 0) hx hb dX6_goesToOther_26 (by decide) ?_
        exact lt_X6_goesToOther_27  C hr hlk hn h0  hq hw (lv_sub hl [0, 1] rfl)
      · replace hq := hq.2 c11
        refine lv_iconst (v := 1) hx hb dX6_goesToOther_22 (by decide) ?_
        refine lv_goto (tgt := 27) hx hb dX6_goesToOther_23 (by decide) ?_
        exact lt_X6_goesToOther_27  C hr hlk hn h0  hq hw (lv_sub hl [0, 1] rfl)
