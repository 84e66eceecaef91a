set_option maxRecDepth 100000 in
def wp_X12_packed  (g : Gh) (M0 : Mem) (a0 : Nat) (p1 : Int32) (post : Int32 → Mem → Prop) : Prop :=
  okc (gB g) M0 a0 12 ∧ (∀ M1, M1 = uI M0 a0 0 0 → (((p1 < 0) → post (-1) M1) ∧ (¬ (p1 < 0) → ((p1 < (mI M1 a0 44)) → ∃ q5, mR M1 a0 41 = some q5 ∧ (okc (gB g) M0 q5 14 ∧ (vp_in p1 (mN M0 q5) ∧ (post (mI M1 q5 (Int32.toNatClampNeg p1)) M1)))) ∧ (¬ (p1 < (mI M1 a0 44)) → post (-1) M1))))
set_option maxHeartbeats 4000000 in
set_option maxRecDepth 100000 in
theorem ct_X12_packed {l : Launch} {g : Gh} {M0 : Mem} {a0 : Nat} {p1 : Int32} {post : Int32 → Mem → Prop}  (hq : wp_X12_packed  g M0 a0 p1 post) : Ct l g yX12_packed cX12_packed 2 (some .int) 0 0 0 [.ref a0, .int p1] M0 (pI post) := by
  unfold wp_X12_packed at hq
  obtain ⟨h0, hq⟩ := hq
  refine Ct.of (by decide) (Nat.le_of_ble_eq_true rfl) ?_
  intro p e s m below meth c ls C hr hlk hn hl hw
  have hx := C.1.1
  have hb := C.1.2.1
  have hl : lv_has ls 2 [(0, .ref a0), (1, .int p1)] := hl
  refine lv_aload_n hx hb dX12_packed_0 rfl (lv_at hl 0 rfl) ?_
  refine lv_iconst (v := 0) hx hb dX12_packed_1 (by decide) ?_
  refine pfX12_123 C hw hw.2.2.1 h0 dX12_packed_2 (fun H locs hw => ?_)
  generalize e2 : uI M0 a0 0 0 = M1 at hw
  replace hq := hq M1 e2.symm
  refine lv_iload_n hx hb dX12_packed_5 rfl (lv_at hl 1 rfl) ?_
  refine lv_if_lt (tgt := 17) hx hb dX12_packed_6 (by decide) (fun c3 => ?_) (fun c3 => ?_)
  · replace hq := hq.1 c3
    refine lv_iconst (v := (-1)) hx hb dX12_packed_17 (by decide) ?_
    refine lv_goto (tgt := 27) hx hb dX12_packed_18 (by decide) ?_
    exact r_iret C hr hlk hw dX12_packed_27 (Nat.le_refl _) (Nat.le_refl _) ⟨_, rfl, hq⟩
  · replace hq := hq.2 c3
    refine lv_iload_n hx hb dX12_packed_9 rfl (lv_at hl 1 rfl) ?_
    refine lv_aload_n hx hb dX12_packed_10 rfl (lv_at hl 0 rfl) ?_
    refine gfX12_274 C hw hw.2.2.1 h0 dX12_packed_11 ?_
    refine lv_icmp_lt (tgt := 21) hx hb dX12_packed_14 (by decide) (fun c4 => ?_) (fun c4 => ?_)
    · replace hq := hq.1 c4
      refine lv_aload_n hx hb dX12_packed_21 rfl (lv_at hl 0 rfl) ?_
      obtain ⟨q5, e6, hq⟩ := hq
      refine gfX12_84 C hw hw.2.2.1 h0 e6 dX12_packed_22 ?_
      refine lv_iload_n hx hb dX12_packed_25 rfl (lv_at hl 1 rfl) ?_
      obtain ⟨h7, hq⟩ := hq
      obtain ⟨h8, hq⟩ := hq
      refine q_iald C hw hw.2.2.1 h7 h8 dX12_packed_26 ?_
      exact r_iret C hr hlk hw dX12_packed_27 (Nat.le_refl _) (Nat.le_refl _) ⟨_, rfl, hq⟩
    · replace hq := hq.2 c4
      refine lv_iconst (v := (-1)) hx hb dX12_packed_17 (by decide) ?_
      refine lv_goto (tgt := 27) hx hb dX12_packed_18 (by decide) ?_
      exact r_iret C hr hlk hw dX12_packed_27 (Nat.le_refl _) (Nat.le_refl _) ⟨_, rfl, hq⟩

set_option maxRecDepth 100000 in
def bd_X12_roundOf_4  (g : Gh) (M0 : Mem) (a0 : Nat) (p1 : Int32) (post : Int32 → Mem → Prop)  (bk4 : Int32 × Int32 × Mem → Prop) (x2 : Int32) (x3 : Int32)  (M : Mem) : Prop :=
  ∃ q1, mR M a0 29 = some q1 ∧ (okc (gB g) M0 q1 14 ∧ (vp_in x2 (mN M0 q1) ∧ (((x3 < (mI M q1 (Int32.toNatClampNeg x2))) → post x2 M) ∧ (¬ (x3 < (mI M q1 (Int32.toNatClampNeg x2))) → bk4 ((x2 + 1), (x3 - (mI M q1 (Int32.toNatClampNeg x2))), M)))))
set_option maxRecDepth 100000 in
def wp_X12_roundOf  (g : Gh) (M0 : Mem) (a0 : Nat) (p1 : Int32) (post : Int32 → Mem → Prop) : Prop :=
  okc (gB g) M0 a0 12 ∧ ((∃ n : Nat, lfp (fun bk z => bd_X12_roundOf_4  g M0 a0 p1 post  bk z.1 z.2.1 z.2.2) n (0, p1, M0)))
set_option maxHeartbeats 4000000 in
set_option maxRecDepth 100000 in
theorem lp_X12_roundOf_4 {l : Launch} {g : Gh} {p : Program} {e : Env} {s : State} {m : MethodId} {args : Array Value} {below : List Frame} {meth : Method} {c : Code} {M0 : Mem} {a0 : Nat} {p1 : Int32} {post : Int32 → Mem → Prop}  (C : Cx g p s m args c cX12_roundOf 4 RX12) (hr : meth.sig.returnType = (some .int)) (hlk : meth.locks = false) (hn : meth.name = "roundOf") (h0 : okc (gB g) M0 a0 12)  : ∀ (nf : Nat) (x2 : Int32) (x3 : Int32)  (M : Mem) (H : Heap) (locs : List Loc) (ls : Array Slot), lfp (fun bk z => bd_X12_roundOf_4  g M0 a0 p1 post  bk z.1 z.2.1 z.2.2) nf (x2, x3, M) → Wd g s M0 M H locs → lv_has ls 4 [(0, .ref a0), (1, .int p1), (2, .int x2), (3, .int x3)] → W p l e (rmo 0 0 0) s m args below meth c H locs 0 0 (MQ below (Cq g M0 (pI post)) args s 0 0 (gA g)) (F0 m 4 ls []) := by
  have hx := C.1.1
  have hb := C.1.2.1
  intro nf
  induction nf with
  | zero => intro _ _ _ H locs ls hq; exact hq.elim
  | succ nf hk4 =>
    intro x2 x3 M H locs ls hq hw hl
    replace hq : bd_X12_roundOf_4  g M0 a0 p1 post  (lfp (fun bk z => bd_X12_roundOf_4  g M0 a0 p1 post  bk z.1 z.2.1 z.2.2) nf) x2 x3 M := hq
    unfold bd_X12_roundOf_4 at hq
    refine lv_iload_n hx hb dX12_roundOf_4 rfl (lv_at hl 3 rfl) ?_
    refine lv_aload_n hx hb dX12_roundOf_5 rfl (lv_at hl 0 rfl) ?_
    obtain ⟨q1, e2, hq⟩ := hq
    refine gfX12_54 C hw hw.2.2.1 h0 e2 dX12_roundOf_6 ?_
    refine lv_iload_n hx hb dX12_roundOf_9 rfl (lv_at hl 2 rfl) ?_
    obtain ⟨h3, hq⟩ := hq
    obtain ⟨h4, hq⟩ := hq
    refine q_iald C hw hw.2.2.1 h3 h4 dX12_roundOf_10 ?_
    refine lv_icmp_lt (tgt := 29) hx hb dX12_roundOf_11 (by decide) (fun c5 => ?_) (fun c5 => ?_)
    · replace hq := hq.1 c5
      refine lv_iload_n hx hb dX12_roundOf_29 rfl (lv_at hl 2 rfl) ?_
      exact r_iret C hr hlk hw dX12_roundOf_30 (Nat.le_refl _) (Nat.le_refl _) ⟨_, rfl, hq⟩
    · replace hq := hq.2 c5
      refine lv_iload_n hx hb dX12_roundOf_14 rfl (lv_at hl 3 rfl) ?_
      refine lv_aload_n hx hb dX12_roundOf_15 rfl (lv_at hl 0 rfl) ?_
      refine gfX12_54 C hw hw.2.2.1 h0 e2 dX12_roundOf_16 ?_
      refine lv_iload_n hx hb dX12_roundOf_19 rfl (lv_at hl 2 rfl) ?_
      refine q_iald C hw hw.2.2.1 h3 h4 dX12_roundOf_20 ?_
      refine lv_isub hx hb dX12_roundOf_21 ?_
      refine lv_istore_n (lv' := [(3, .int (x3 - (mI M q1 (Int32.toNatClampNeg x2)))), (0, .ref a0), (1, .int p1), (2, .int x2)]) hx hb dX12_roundOf_22 rfl hl (by decide) rfl (fun ls hl => ?_)
      refine lv_iinc (v := (x2 + 1)) (lv' := [(2, .int (x2 + 1)), (3, .int (x3 - (mI M q1 (Int32.toNatClampNeg x2)))), (0, .ref a0), (1, .int p1)]) hx hb dX12_roundOf_23 hl (k := 3) rfl rfl (by decide) rfl (fun ls hl => ?_)
      refine lv_goto (tgt := 4) hx hb dX12_roundOf_26 (by decide) ?_
      exact hk4 _ _ _ _ _ _ hq hw (lv_sub hl [2, 3, 0, 1] rfl)
set_option maxHeartbeats 4000000 in
set_option maxRecDepth 100000 in
theorem ct_X12_roundOf {l : Launch} {g : Gh} {M0 : Mem} {a0 : Nat} {p1 : Int32} {post : Int32 → Mem → Prop}  (hq : wp_X12_roundOf  g M0 a0 p1 post) : Ct l g yX12_roundOf cX12_roundOf 4 (some .int) 0 0 0 [.ref a0, .int p1] M0 (pI post) := by
  unfold wp_X12_roundOf at hq
  obtain ⟨h0, hq⟩ := hq
  refine Ct.of (by decide) (Nat.le_of_ble_eq_true rfl) ?_
  intro p e s m below meth c ls C hr hlk hn hl hw
  have hx := C.1.1
  have hb := C.1.2.1
  have hl : lv_has ls 4 [(0, .ref a0), (1, .int p1)] := hl
  refine lv_iconst (v := 0) hx hb dX12_roundOf_0 (by decide) ?_
  refine lv_istore_n (lv' := [(2, .int 0), (0, .ref a0), (1, .int p1)]) hx hb dX12_roundOf_1 rfl hl (by decide) rfl (fun ls hl => ?_)
  refine lv_iload_n hx hb dX12_roundOf_2 rfl (lv_at hl 2 rfl) ?_
  refine lv_istore_n (lv' := [(3, .int p1), (2, .int 0), (0, .ref a0), (1, .int p1)]) hx hb dX12_roundOf_3 rfl hl (by decide) rfl (fun ls hl => ?_)
  obtain ⟨nf, hq⟩ := hq
  exact lp_X12_roundOf_4  C hr hlk hn h0  nf _ _ _ _ _ _ hq hw (lv_sub hl [2, 3, 1, 0] rfl)

set_option maxRecDepth 100000 in
def wp_X12_hands  (g : Gh) (M0 : Mem) (a0 : Nat) (p1 : Int32) (post : Mem → Prop) : Prop :=
  okc (gB g) M0 a0 12 ∧ (∀ M1, M1 = uI M0 a0 50 p1 → (∀ M3, M3 = uI M1 a0 52 0 → (((p1 < (mI M3 a0 44)) → ∃ q6, mR M3 a0 33 = some q6 ∧ (wp_X12_roundOf g M3 a0 p1 (fun v8 M9 => okc (gB g) M0 q6 17 ∧ (vp_in v8 (mN M0 q6) ∧ ((((mI M9 q6 (Int32.toNatClampNeg v8)) = 0) → ∀ M13, M13 = uI M9 a0 51 (p1 - p1 / 2 * 2) → (post M13)) ∧ (¬ ((mI M9 q6 (Int32.toNatClampNeg v8)) = 0) → ∀ M15, M15 = uI M9 a0 51 2 → (post M15))))))) ∧ (¬ (p1 < (mI M3 a0 44)) → ∀ M17, M17 = uI M3 a0 51 3 → (post M17)))))
set_option maxHeartbeats 4000000 in
set_option maxRecDepth 100000 in
theorem ct_X12_hands {l : Launch} {g : Gh} {M0 : Mem} {a0 : Nat} {p1 : Int32} {post : Mem → Prop}  (hq : wp_X12_hands  g M0 a0 p1 post) : Ct l g yX12_hands cX12_hands 2 none 1 0 0 [.ref a0, .int p1] M0 (pV post) := by
  unfold wp_X12_hands at hq
  obtain ⟨h0, hq⟩ := hq
  refine Ct.of (by decide) (Nat.le_of_ble_eq_true rfl) ?_
  intro p e s m below meth c ls C hr hlk hn hl hw
  have hx := C.1.1
  have hb := C.1.2.1
  have hl : lv_has ls 2 [(0, .ref a0), (1, .int p1)] := hl
  refine lv_aload_n hx hb dX12_hands_0 rfl (lv_at hl 0 rfl) ?_
  refine lv_iload_n hx hb dX12_hands_1 rfl (lv_at hl 1 rfl) ?_
  refine pfX12_296 C hw hw.2.2.1 h0 dX12_hands_2 (fun H locs hw => ?_)
  generalize e2 : uI M0 a0 50 p1 = M1 at hw
  replace hq := hq M1 e2.symm
  refine lv_aload_n hx hb dX12_hands_5 rfl (lv_at hl 0 rfl) ?_
  refine lv_iconst (v := 0) hx hb dX12_hands_6 (by decide) ?_
  refine pfX12_299 C hw hw.2.2.1 h0 dX12_hands_7 (fun H locs hw => ?_)
  generalize e4 : uI M1 a0 52 0 = M3 at hw
  replace hq := hq M3 e4.symm
  refine lv_aload_n hx hb dX12_hands_10 rfl (lv_at hl 0 rfl) ?_
  refine lv_iload_n hx hb dX12_hands_11 rfl (lv_at hl 1 rfl) ?_
  refine lv_aload_n hx hb dX12_hands_12 rfl (lv_at hl 0 rfl) ?_
  refine gfX12_274 C hw hw.2.2.1 h0 dX12_hands_13 ?_
  refine lv_icmp_lt (tgt := 23) hx hb dX12_hands_16 (by decide) (fun c5 => ?_) (fun c5 => ?_)
  · replace hq := hq.1 c5
    refine lv_aload_n hx hb dX12_hands_23 rfl (lv_at hl 0 rfl) ?_
    obtain ⟨q6, e7, hq⟩ := hq
    refine gfX12_66 C hw hw.2.2.1 h0 e7 dX12_hands_24 ?_
    refine lv_aload_n hx hb dX12_hands_27 rfl (lv_at hl 0 rfl) ?_
    refine lv_iload_n hx hb dX12_hands_28 rfl (lv_at hl 1 rfl) ?_
    refine r_callV (T := TX12) (N := 67) (ci := 12) (index := 302) (n := 1) (d2 := 0) (mc := 0) (ms := 0) (As := [.int p1]) (rest := [.ref q6, .ref a0]) C hw (ct_X12_roundOf hq) kvX12_302 hq.1 (by decide) rfl ⟨by decide, by decide⟩ ⟨by decide, by decide⟩ rfl hl.1 rfl (Nat.le_of_ble_eq_true rfl) dX12_hands_29 (fun r M9 H locs hp hle hw => ?_)
    obtain ⟨v8, rfl, hq⟩ := hp
    refine W.eq (g2 := F0 m 32 ls [.int v8, .ref q6, .ref a0]) rfl ?_
    obtain ⟨h10, hq⟩ := hq
    obtain ⟨h11, hq⟩ := hq
    refine q_zald C hw hw.2.2.1 h10 h11 dX12_hands_32 ?_
    refine lv_if_eq (tgt := 40) hx hb dX12_hands_33 (by decide) (fun c12 => ?_) (fun c12 => ?_)
    · replace hq := hq.1 c12
      refine lv_iload_n hx hb dX12_hands_40 rfl (lv_at hl 1 rfl) ?_
      refine lv_iconst (v := 2) hx hb dX12_hands_41 (by decide) ?_
      refine lv_irem hx hb dX12_hands_42 (by decide) ?_
      refine pfX12_305 C hw hw.2.2.1 h0 dX12_hands_43 (fun H locs hw => ?_)
      generalize e14 : uI M9 a0 51 (p1 - p1 / 2 * 2) = M13 at hw
      replace hq := hq M13 e14.symm
      exact r_vret C hr hlk hw dX12_hands_46 (Nat.le_refl _) (Nat.le_refl _) ⟨rfl, hq⟩
    · replace hq := hq.2 c12
      refine lv_iconst (v := 2) hx hb dX12_hands_36 (by decide) ?_
      refine lv_goto (tgt := 43) hx hb dX12_hands_37 (by decide) ?_
      refine pfX12_305 C hw hw.2.2.1 h0 dX12_hands_43 (fun H locs hw => ?_)
      generalize e16 : uI M9 a0 51 2 = M15 at hw
      replace hq := hq M15 e16.symm
      exact r_vret C hr hlk hw dX12_hands_46 (Nat.le_refl _) (Nat.le_refl _) ⟨rfl, hq⟩
  · replace hq := hq.2 c5
    refine lv_iconst (v := 3) hx hb dX12_hands_19 (by decide) ?_
    refine lv_goto (tgt := 43) hx hb dX12_hands_20 (by decide) ?_
    refine pfX12_305 C hw hw.2.2.1 h0 dX12_hands_43 (fun H locs hw => ?_)
    generalize e18 : uI M3 a0 51 3 = M17 at hw
    replace hq := hq M17 e18.symm
    exact r_vret C hr hlk hw dX12_hands_46 (Nat.le_refl _) (Nat.le_refl _) ⟨rfl, hq⟩

set_option maxRecDepth 100000 in
def lb_X12_happens_232  (g : Gh) (M0 : Mem) (a0 : Nat) (p1 : Int32) (p2 : Int32) (post : Mem → Prop)    (M : Mem) : Prop :=
  ∀ M1, M1 = uI M a0 52 1 → (∃ q3, mR M1 a0 58 = some q3 ∧ (okc (gB g) M0 q3 14 ∧ (vp_in p1 (mN M0 q3) ∧ (∀ M7, M7 = uI M1 a0 51 (1 - (mI M1 q3 (Int32.toNatClampNeg p1))) → (post M7)))))
set_option maxRecDepth 100000 in
def lb_X12_happens_219  (g : Gh) (M0 : Mem) (a0 : Nat) (p1 : Int32) (p2 : Int32) (post : Mem → Prop)    (M : Mem) : Prop :=
  wp_X12_hands g M a0 ((mI M a0 50) + 1) (fun M10 => post M10)
set_option maxRecDepth 100000 in
def lb_X12_happens_188  (g : Gh) (M0 : Mem) (a0 : Nat) (p1 : Int32) (p2 : Int32) (post : Mem → Prop)  (x3 : Int32)  (M : Mem) : Prop :=
  ((x3 = 0) → (((mI M a0 52) = 1) → lb_X12_happens_219  g M0 a0 p1 p2 post   M) ∧ (¬ ((mI M a0 52) = 1) → ∃ q13, mR M a0 33 = some q13 ∧ (okc (gB g) M0 q13 17 ∧ (vp_in p2 (mN M0 q13) ∧ ((((mI M q13 (Int32.toNatClampNeg p2)) = 0) → ∃ q18, mR M a0 31 = some q18 ∧ (okc (gB g) M0 q18 14 ∧ (vp_in p2 (mN M0 q18) ∧ ((((mI M q18 (Int32.toNatClampNeg p2)) = (-1)) → lb_X12_happens_219  g M0 a0 p1 p2 post   M) ∧ (¬ ((mI M q18 (Int32.toNatClampNeg p2)) = (-1)) → lb_X12_happens_232  g M0 a0 p1 p2 post   M))))) ∧ (¬ ((mI M q13 (Int32.toNatClampNeg p2)) = 0) → lb_X12_happens_232  g M0 a0 p1 p2 post   M)))))) ∧ (¬ (x3 = 0) → lb_X12_happens_219  g M0 a0 p1 p2 post   M)
set_option maxRecDepth 100000 in
def lb_X12_happens_145  (g : Gh) (M0 : Mem) (a0 : Nat) (p1 : Int32) (p2 : Int32) (post : Mem → Prop)  (x3 : Int32) (s0 : Nat) (s1 : Int32) (s2 : Int32) (M : Mem) : Prop :=
  okc (gB g) M0 s0 14 ∧ (vp_in s1 (mN M0 s0) ∧ (∀ M25, M25 = uI M s0 (Int32.toNatClampNeg s1) s2 → (∃ q27, mR M25 a0 58 = some q27 ∧ (okc (gB g) M0 q27 14 ∧ (vp_in p1 (mN M0 q27) ∧ ((((mI M25 q27 (Int32.toNatClampNeg p1)) = 0) → ∃ q38, mR M25 a0 59 = some q38 ∧ (okc (gB g) M0 q38 14 ∧ (vp_in p1 (mN M0 q38) ∧ (∀ M42, M42 = uI M25 a0 53 ((mI M25 a0 53) + (mI M25 q38 (Int32.toNatClampNeg p1))) → (lb_X12_happens_188  g M0 a0 p1 p2 post  x3 M42))))) ∧ (¬ ((mI M25 q27 (Int32.toNatClampNeg p1)) = 0) → ∃ q32, mR M25 a0 59 = some q32 ∧ (okc (gB g) M0 q32 14 ∧ (vp_in p1 (mN M0 q32) ∧ (∀ M36, M36 = uI M25 a0 54 ((mI M25 a0 54) + (mI M25 q32 (Int32.toNatClampNeg p1))) → (lb_X12_happens_188  g M0 a0 p1 p2 post  x3 M36)))))))))))
set_option maxRecDepth 100000 in
def lb_X12_happens_84  (g : Gh) (M0 : Mem) (a0 : Nat) (p1 : Int32) (p2 : Int32) (post : Mem → Prop)  (x3 : Int32) (s0 : Int32) (M : Mem) : Prop :=
  ∃ q44, mR M a0 59 = some q44 ∧ (((x3 = 0) → ((s0 = 0) → lb_X12_happens_145  g M0 a0 p1 p2 post  x3 q44 p1 0 M) ∧ (¬ (s0 = 0) → ∃ q48, mR M a0 32 = some q48 ∧ (okc (gB g) M0 q48 14 ∧ (vp_in p2 (mN M0 q48) ∧ (lb_X12_happens_145  g M0 a0 p1 p2 post  x3 q44 p1 (-(mI M q48 (Int32.toNatClampNeg p2))) M))))) ∧ (¬ (x3 = 0) → ∃ q52, mR M a0 33 = some q52 ∧ (okc (gB g) M0 q52 17 ∧ (vp_in p2 (mN M0 q52) ∧ ((((mI M q52 (Int32.toNatClampNeg p2)) = 0) → (((mI M a0 52) = 0) → ∃ q66, mR M a0 30 = some q66 ∧ (okc (gB g) M0 q66 14 ∧ (vp_in p2 (mN M0 q66) ∧ (lb_X12_happens_145  g M0 a0 p1 p2 post  x3 q44 p1 (mI M q66 (Int32.toNatClampNeg p2)) M)))) ∧ (¬ ((mI M a0 52) = 0) → ∃ q62, mR M a0 31 = some q62 ∧ (okc (gB g) M0 q62 14 ∧ (vp_in p2 (mN M0 q62) ∧ (lb_X12_happens_145  g M0 a0 p1 p2 post  x3 q44 p1 (mI M q62 (Int32.toNatClampNeg p2)) M))))) ∧ (¬ ((mI M q52 (Int32.toNatClampNeg p2)) = 0) → ∃ q57, mR M a0 30 = some q57 ∧ (okc (gB g) M0 q57 14 ∧ (vp_in p2 (mN M0 q57) ∧ (lb_X12_happens_145  g M0 a0 p1 p2 post  x3 q44 p1 (mI M q57 (Int32.toNatClampNeg p2)) M)))))))))
set_option maxRecDepth 100000 in
def lb_X12_happens_44  (g : Gh) (M0 : Mem) (a0 : Nat) (p1 : Int32) (p2 : Int32) (post : Mem → Prop)   (s0 : Int32) (M : Mem) : Prop :=
  ∃ q70, mR M a0 57 = some q70 ∧ (okc (gB g) M0 q70 14 ∧ (vp_in p1 (mN M0 q70) ∧ ((((mI M q70 (Int32.toNatClampNeg p1)) = 0) → ∃ q75, mR M a0 60 = some q75 ∧ (okc (gB g) M0 q75 17 ∧ (vp_in p1 (mN M0 q75) ∧ ((((mI M q75 (Int32.toNatClampNeg p1)) = 0) → ∃ q80, mR M a0 33 = some q80 ∧ (okc (gB g) M0 q80 17 ∧ (vp_in p2 (mN M0 q80) ∧ ((((mI M q80 (Int32.toNatClampNeg p2)) = 0) → (((mI M a0 52) = 0) → lb_X12_happens_84  g M0 a0 p1 p2 post  s0 1 M) ∧ (¬ ((mI M a0 52) = 0) → lb_X12_happens_84  g M0 a0 p1 p2 post  s0 0 M)) ∧ (¬ ((mI M q80 (Int32.toNatClampNeg p2)) = 0) → lb_X12_happens_84  g M0 a0 p1 p2 post  s0 1 M))))) ∧ (¬ ((mI M q75 (Int32.toNatClampNeg p1)) = 0) → lb_X12_happens_84  g M0 a0 p1 p2 post  s0 0 M))))) ∧ (¬ ((mI M q70 (Int32.toNatClampNeg p1)) = 0) → lb_X12_happens_84  g M0 a0 p1 p2 post  s0 0 M))))
set_option maxRecDepth 100000 in
def wp_X12_happens  (g : Gh) (M0 : Mem) (a0 : Nat) (p1 : Int32) (p2 : Int32) (post : Mem → Prop) : Prop :=
  okc (gB g) M0 a0 12 ∧ (∃ q86, mR M0 a0 57 = some q86 ∧ (okc (gB g) M0 q86 14 ∧ (vp_in p1 (mN M0 q86) ∧ ((((mI M0 q86 (Int32.toNatClampNeg p1)) = 2) → wp_X12_hands g M0 a0 ((mI M0 a0 50) + 1) (fun M98 => post M98)) ∧ (¬ ((mI M0 q86 (Int32.toNatClampNeg p1)) = 2) → (((mI M0 q86 (Int32.toNatClampNeg p1)) = 0) → ∃ q92, mR M0 a0 60 = some q92 ∧ (okc (gB g) M0 q92 17 ∧ (vp_in p1 (mN M0 q92) ∧ ((((mI M0 q92 (Int32.toNatClampNeg p1)) = 0) → lb_X12_happens_44  g M0 a0 p1 p2 post  0 M0) ∧ (¬ ((mI M0 q92 (Int32.toNatClampNeg p1)) = 0) → lb_X12_happens_44  g M0 a0 p1 p2 post  1 M0))))) ∧ (¬ ((mI M0 q86 (Int32.toNatClampNeg p1)) = 0) → lb_X12_happens_44  g M0 a0 p1 p2 post  0 M0))))))
set_option maxHeartbeats 4000000 in
set_option maxRecDepth 100000 in
theorem lt_X12_happens_232 {l : Launch} {g : Gh} {p : Program} {e : Env} {s : State} {m : MethodId} {args : Array Value} {below : List Frame} {meth : Method} {c : Code} {H : Heap} {locs : List Loc} {ls : Array Slot} {M0 M : Mem} {a0 : Nat} {p1 : Int32} {p2 : Int32} {post : Mem → Prop}    (C : Cx g p s m args c cX12_happens 5 RX12) (hr : meth.sig.returnType = none) (hlk : meth.locks = false) (hn : meth.name = "happens") (h0 : okc (gB g) M0 a0 12)  (hq : lb_X12_happens_232  g M0 a0 p1 p2 post   M) (hw : Wd g s M0 M H locs) (hl : lv_has ls 5 [(0, .ref a0), (1, .int p1), (2, .int p2)]) : W p l e (rmo 2 0 0) s m args below meth c H locs 0 0 (MQ below (Cq g M0 (pV post)) args s 0 0 (gA g)) (F0 m 232 ls []) := by
  have hx := C.1.1
  have hb := C.1.2.1
  unfold lb_X12_happens_232 at hq
  refine lv_aload_n hx hb dX12_happens_232 rfl (lv_at hl 0 rfl) ?_
  refine lv_iconst (v := 1) hx hb dX12_happens_233 (by decide) ?_
  refine pfX12_299 C hw hw.2.2.1 h0 dX12_happens_234 (fun H locs hw => ?_)
  generalize e2 : uI M a0 52 1 = M1 at hw
  replace hq := hq M1 e2.symm
  refine lv_aload_n hx hb dX12_happens_237 rfl (lv_at hl 0 rfl) ?_
  refine lv_iconst (v := 1) hx hb dX12_happens_238 (by decide) ?_
  refine lv_aload_n hx hb dX12_happens_239 rfl (lv_at hl 0 rfl) ?_
  obtain ⟨q3, e4, hq⟩ := hq
  refine gfX12_99 C hw hw.2.2.1 h0 e4 dX12_happens_240 ?_
  refine lv_iload_n hx hb dX12_happens_243 rfl (lv_at hl 1 rfl) ?_
  obtain ⟨h5, hq⟩ := hq
  obtain ⟨h6, hq⟩ := hq
  refine q_iald C hw hw.2.2.1 h5 h6 dX12_happens_244 ?_
  refine lv_isub hx hb dX12_happens_245 ?_
  refine pfX12_305 C hw hw.2.2.1 h0 dX12_happens_246 (fun H locs hw => ?_)
  generalize e8 : uI M1 a0 51 (1 - (mI M1 q3 (Int32.toNatClampNeg p1))) = M7 at hw
  replace hq := hq M7 e8.symm
  have e4 : mR M7 a0 58 = some q3 := by rw [← e8, mR_uI]; exact e4
  exact r_vret C hr hlk hw dX12_happens_249 (Nat.le_refl _) (Nat.le_refl _) ⟨rfl, hq⟩
set_option maxHeartbeats 4000000 in
set_option maxRecDepth 100000 in
theorem lt_X12_happens_219 {l : Launch} {g : Gh} {p : Program} {e : Env} {s : State} {m : MethodId} {args : Array Value} {below : List Frame} {meth : Method} {c : Code} {H : Heap} {locs : List Loc} {ls : Array Slot} {M0 M : Mem} {a0 : Nat} {p1 : Int32} {p2 : Int32} {post : Mem → Prop}    (C : Cx g p s m args c cX12_happens 5 RX12) (hr : meth.sig.returnType = none) (hlk : meth.locks = false) (hn : meth.name = "happens") (h0 : okc (gB g) M0 a0 12)  (hq : lb_X12_happens_219  g M0 a0 p1 p2 post   M) (hw : Wd g s M0 M H locs) (hl : lv_has ls 5 [(0, .ref a0), (1, .int p1), (2, .int p2)]) : W p l e (rmo 2 0 0) s m args below meth c H locs 0 0 (MQ below (Cq g M0 (pV post)) args s 0 0 (gA g)) (F0 m 219 ls []) := by
  have hx := C.1.1
  have hb := C.1.2.1
  unfold lb_X12_happens_219 at hq
  refine lv_aload_n hx hb dX12_happens_219 rfl (lv_at hl 0 rfl) ?_
  refine lv_aload_n hx hb dX12_happens_220 rfl (lv_at hl 0 rfl) ?_
  refine gfX12_296 C hw hw.2.2.1 h0 dX12_happens_221 ?_
  refine lv_iconst (v := 1) hx hb dX12_happens_224 (by decide) ?_
  refine lv_iadd hx hb dX12_happens_225 ?_
  refine r_callV (T := TX12) (N := 67) (ci := 12) (index := 308) (n := 1) (d2 := 1) (mc := 0) (ms := 0) (As := [.int ((mI M a0 50) + 1)]) (rest := []) C hw (ct_X12_hands hq) kvX12_308 hq.1 (by decide) rfl ⟨by decide, by decide⟩ ⟨by decide, by decide⟩ rfl hl.1 rfl (Nat.le_of_ble_eq_true rfl) dX12_happens_226 (fun r M10 H locs hp hle hw => ?_)
  obtain ⟨rfl, hq⟩ := hp
  refine W.eq (g2 := F0 m 229 ls []) rfl ?_
  refine lv_goto (tgt := 249) hx hb dX12_happens_229 (by decide) ?_
  exact r_vret C hr hlk hw dX12_happens_249 (Nat.le_refl _) (Nat.le_refl _) ⟨rfl, hq⟩
set_option maxHeartbeats 4000000 in
set_option maxRecDepth 100000 in
theorem lt_X12_happens_188 {l : Launch} {g : Gh} {p : Program} {e : Env} {s : State} {m : MethodId} {args : Array Value} {below : List Frame} {meth : Method} {c : Code} {H : Heap} {locs : List Loc} {ls : Array Slot} {M0 M : Mem} {a0 : Nat} {p1 : Int32} {p2 : Int32} {post : Mem → Prop} {x3 : Int32}   (C : Cx g p s m args c cX12_happens 5 RX12) (hr : meth.sig.returnType = none) (hlk : meth.locks = false) (hn : meth.name = "happens") (h0 : okc (gB g) M0 a0 12)  (hq : lb_X12_happens_188  g M0 a0 p1 p2 post  x3 M) (hw : Wd g s M0 M H locs) (hl : lv_has ls 5 [(0, .ref a0), (1, .int p1), (2, .int p2), (3, .int x3)]) : W p l e (rmo 2 0 0) s m args below meth c H locs 0 0 (MQ below (Cq g M0 (pV post)) args s 0 0 (gA g)) (F0 m 188 ls []) := by
  have hx := C.1.1
  have hb := C.1.2.1
  unfold lb_X12_happens_188 at hq
  refine lv_iload_n hx hb dX12_happens_188 rfl (lv_at hl 3 rfl) ?_
  refine lv_if_ne (tgt := 219) hx hb dX12_happens_189 (by decide) (fun c11 => ?_) (fun c11 => ?_)
  · replace hq := hq.2 c11
    exact lt_X12_happens_219  C hr hlk hn h0  hq hw (lv_sub hl [0, 1, 2] rfl)
  · replace hq := hq.1 c11
    refine lv_aload_n hx hb dX12_happens_192 rfl (lv_at hl 0 rfl) ?_
    refine gfX12_299 C hw hw.2.2.1 h0 dX12_happens_193 ?_
    refine lv_iconst (v := 1) hx hb dX12_happens_196 (by decide) ?_
    refine lv_icmp_eq (tgt := 219) hx hb dX12_happens_197 (by decide) (fun c12 => ?_) (fun c12 => ?_)
    · replace hq := hq.1 c12
      exact lt_X12_happens_219  C hr hlk hn h0  hq hw (lv_sub hl [0, 1, 2] rfl)
    · replace hq := hq.2 c12
      refine lv_aload_n hx hb dX12_happens_200 rfl (lv_at hl 0 rfl) ?_
      obtain ⟨q13, e14, hq⟩ := hq
      refine gfX12_66 C hw hw.2.2.1 h0 e14 dX12_happens_201 ?_
      refine lv_iload_n hx hb dX12_happens_204 rfl (lv_at hl 2 rfl) ?_
      obtain ⟨h15, hq⟩ := hq
      obtain ⟨h16, hq⟩ := hq
      refine q_zald C hw hw.2.2.1 h15 h16 dX12_happens_205 ?_
      refine lv_if_ne (tgt := 232) hx hb dX12_happens_206 (by decide) (fun c17 => ?_) (fun c17 => ?_)
      · replace hq := hq.2 c17
        exact lt_X12_happens_232  C hr hlk hn h0  hq hw (lv_sub hl [0, 1, 2] rfl)
      · replace hq := hq.1 c17
        refine lv_aload_n hx hb dX12_happens_209 rfl (lv_at hl 0 rfl) ?_
        obtain ⟨q18, e19, hq⟩ := hq
        refine gfX12_60 C hw hw.2.2.1 h0 e19 dX12_happens_210 ?_
        refine lv_iload_n hx hb dX12_happens_213 rfl (lv_at hl 2 rfl) ?_
        obtain ⟨h20, hq⟩ := hq
        obtain ⟨h21, hq⟩ := hq
        refine q_iald C hw hw.2.2.1 h20 h21 dX12_happens_214 ?_
        refine lv_iconst (v := (-1)) hx hb dX12_happens_215 (by decide) ?_
        refine lv_icmp_ne (tgt := 232) hx hb dX12_happens_216 (by decide) (fun c22 => ?_) (fun c22 => ?_)
        · replace hq := hq.2 c22
          exact lt_X12_happens_232  C hr hlk hn h0  hq hw (lv_sub hl [0, 1, 2] rfl)
        · replace hq := hq.1 c22
          exact lt_X12_happens_219  C hr hlk hn h0  hq hw (lv_sub hl [0, 1, 2] rfl)
set_option maxHeartbeats 4000000 in
set_option maxRecDepth 100000 in
theorem lt_X12_happens_145 {l : Launch} {g : Gh} {p : Program} {e : Env} {s : State} {m : MethodId} {args : Array Value} {below : List Frame} {meth : Method} {c : Code} {H : Heap} {locs : List Loc} {ls : Array Slot} {M0 M : Mem} {a0 : Nat} {p1 : Int32} {p2 : Int32} {post : Mem → Prop} {x3 : Int32} {s0 : Nat} {s1 : Int32} {s2 : Int32}  (C : Cx g p s m args c cX12_happens 5 RX12) (hr : meth.sig.returnType = none) (hlk : meth.locks = false) (hn : meth.name = "happens") (h0 : okc (gB g) M0 a0 12)  (hq : lb_X12_happens_145  g M0 a0 p1 p2 post  x3 s0 s1 s2 M) (hw : Wd g s M0 M H locs) (hl : lv_has ls 5 [(0, .ref a0), (1, .int p1), (2, .int p2), (3, .int x3)]) : W p l e (rmo 2 0 0) s m args below meth c H locs 0 0 (MQ below (Cq g M0 (pV post)) args s 0 0 (gA g)) (F0 m 145 ls [.int s2, .int s1, .ref s0]) := by
  have hx := C.1.1
  have hb := C.1.2.1
  unfold lb_X12_happens_145 at hq
  obtain ⟨h23, hq⟩ := hq
  obtain ⟨h24, hq⟩ := hq
  refine q_iast C hw hw.2.2.1 h23 h24 dX12_happens_145 (fun H locs hw => ?_)
  generalize e26 : uI M s0 (Int32.toNatClampNeg s1) s2 = M25 at hw
  replace hq := hq M25 e26.symm
  refine lv_aload_n hx hb dX12_happens_146 rfl (lv_at hl 0 rfl) ?_
  obtain ⟨q27, e28, hq⟩ := hq
  refine gfX12_99 C hw hw.2.2.1 h0 e28 dX12_happens_147 ?_
  refine lv_iload_n hx hb dX12_happens_150 rfl (lv_at hl 1 rfl) ?_
  obtain ⟨h29, hq⟩ := hq
  obtain ⟨h30, hq⟩ := hq
  refine q_iald C hw hw.2.2.1 h29 h30 dX12_happens_151 ?_
  refine lv_if_ne (tgt := 173) hx hb dX12_happens_152 (by decide) (fun c31 => ?_) (fun c31 => ?_)
  · replace hq := hq.2 c31
    refine lv_aload_n hx hb dX12_happens_173 rfl (lv_at hl 0 rfl) ?_
    refine lv_dup hx hb dX12_happens_174 rfl ?_
    refine gfX12_314 C hw hw.2.2.1 h0 dX12_happens_175 ?_
    refine lv_aload_n hx hb dX12_happens_178 rfl (lv_at hl 0 rfl) ?_
    obtain ⟨q32, e33, hq⟩ := hq
    refine gfX12_102 C hw hw.2.2.1 h0 e33 dX12_happens_179 ?_
    refine lv_iload_n hx hb dX12_happens_182 rfl (lv_at hl 1 rfl) ?_
    obtain ⟨h34, hq⟩ := hq
    obtain ⟨h35, hq⟩ := hq
    refine q_iald C hw hw.2.2.1 h34 h35 dX12_happens_183 ?_
    refine lv_iadd hx hb dX12_happens_184 ?_
    refine pfX12_314 C hw hw.2.2.1 h0 dX12_happens_185 (fun H locs hw => ?_)
    generalize e37 : uI M25 a0 54 ((mI M25 a0 54) + (mI M25 q32 (Int32.toNatClampNeg p1))) = M36 at hw
    replace hq := hq M36 e37.symm
    have e28 : mR M36 a0 58 = some q27 := by rw [← e37, mR_uI]; exact e28
    have e33 : mR M36 a0 59 = some q32 := by rw [← e37, mR_uI]; exact e33
    exact lt_X12_happens_188  C hr hlk hn h0  hq hw (lv_sub hl [0, 1, 2, 3] rfl)
  · replace hq := hq.1 c31
    refine lv_aload_n hx hb dX12_happens_155 rfl (lv_at hl 0 rfl) ?_
    refine lv_dup hx hb dX12_happens_156 rfl ?_
    refine gfX12_311 C hw hw.2.2.1 h0 dX12_happens_157 ?_
    refine lv_aload_n hx hb dX12_happens_160 rfl (lv_at hl 0 rfl) ?_
    obtain ⟨q38, e39, hq⟩ := hq
    refine gfX12_102 C hw hw.2.2.1 h0 e39 dX12_happens_161 ?_
    refine lv_iload_n hx hb dX12_happens_164 rfl (lv_at hl 1 rfl) ?_
    obtain ⟨h40, hq⟩ := hq
    obtain ⟨h41, hq⟩ := hq
    refine q_iald C hw hw.2.2.1 h40 h41 dX12_happens_165 ?_
    refine lv_iadd hx hb dX12_happens_166 ?_
    refine pfX12_311 C hw hw.2.2.1 h0 dX12_happens_167 (fun H locs hw => ?_)
    generalize e43 : uI M25 a0 53 ((mI M25 a0 53) + (mI M25 q38 (Int32.toNatClampNeg p1))) = M42 at hw
    replace hq := hq M42 e43.symm
    have e28 : mR M42 a0 58 = some q27 := by rw [← e43, mR_uI]; exact e28
    have e39 : mR M42 a0 59 = some q38 := by rw [← e43, mR_uI]; exact e39
    refine lv_goto (tgt := 188) hx hb dX12_happens_170 (by decide) ?_
    exact lt_X12_happens_188  C hr hlk hn h0  hq hw (lv_sub hl [0, 1, 2, 3] rfl)
set_option maxHeartbeats 4000000 in
set_option maxRecDepth 100000 in
theorem lt_X12_happens_84 {l : Launch} {g : Gh} {p : Program} {e : Env} {s : State} {m : MethodId} {args : Array Value} {below : List Frame} {meth : Method} {c : Code} {H : Heap} {locs : List Loc} {ls : Array Slot} {M0 M : Mem} {a0 : Nat} {p1 : Int32} {p2 : Int32} {post : Mem → Prop} {x3 : Int32} {s0 : Int32}  (C : Cx g p s m args c cX12_happens 5 RX12) (hr : meth.sig.returnType = none) (hlk : meth.locks = false) (hn : meth.name = "happens") (h0 : okc (gB g) M0 a0 12)  (hq : lb_X12_happens_84  g M0 a0 p1 p2 post  x3 s0 M) (hw : Wd g s M0 M H locs) (hl : lv_has ls 5 [(0, .ref a0), (1, .int p1), (2, .int p2), (3, .int x3)]) : W p l e (rmo 2 0 0) s m args below meth c H locs 0 0 (MQ below (Cq g M0 (pV post)) args s 0 0 (gA g)) (F0 m 84 ls [.int s0]) := by
  have hx := C.1.1
  have hb := C.1.2.1
  unfold lb_X12_happens_84 at hq
  refine lv_istore (lv' := [(4, .int s0), (0, .ref a0), (1, .int p1), (2, .int p2), (3, .int x3)]) hx hb dX12_happens_84 hl (by decide) rfl (fun ls hl => ?_)
  refine lv_aload_n hx hb dX12_happens_86 rfl (lv_at hl 1 rfl) ?_
  obtain ⟨q44, e45, hq⟩ := hq
  refine gfX12_102 C hw hw.2.2.1 h0 e45 dX12_happens_87 ?_
  refine lv_iload_n hx hb dX12_happens_90 rfl (lv_at hl 2 rfl) ?_
  refine lv_iload_n hx hb dX12_happens_91 rfl (lv_at hl 4 rfl) ?_
  refine lv_if_eq (tgt := 129) hx hb dX12_happens_92 (by decide) (fun c46 => ?_) (fun c46 => ?_)
  · replace hq := hq.1 c46
    refine lv_iload hx hb dX12_happens_129 (lv_at hl 0 rfl) ?_
    refine lv_if_eq (tgt := 144) hx hb dX12_happens_131 (by decide) (fun c47 => ?_) (fun c47 => ?_)
    · replace hq := hq.1 c47
      refine lv_iconst (v := 0) hx hb dX12_happens_144 (by decide) ?_
      exact lt_X12_happens_145  C hr hlk hn h0  hq hw (lv_sub hl [1, 2, 3, 4] rfl)
    · replace hq := hq.2 c47
      refine lv_aload_n hx hb dX12_happens_134 rfl (lv_at hl 1 rfl) ?_
      obtain ⟨q48, e49, hq⟩ := hq
      refine gfX12_63 C hw hw.2.2.1 h0 e49 dX12_happens_135 ?_
      refine lv_iload_n hx hb dX12_happens_138 rfl (lv_at hl 3 rfl) ?_
      obtain ⟨h50, hq⟩ := hq
      obtain ⟨h51, hq⟩ := hq
      refine q_iald C hw hw.2.2.1 h50 h51 dX12_happens_139 ?_
      refine lv_ineg hx hb dX12_happens_140 ?_
      refine lv_goto (tgt := 145) hx hb dX12_happens_141 (by decide) ?_
      exact lt_X12_happens_145  C hr hlk hn h0  hq hw (lv_sub hl [1, 2, 3, 4] rfl)
  · replace hq := hq.2 c46
    refine lv_aload_n hx hb dX12_happens_95 rfl (lv_at hl 1 rfl) ?_
    obtain ⟨q52, e53, hq⟩ := hq
    refine gfX12_66 C hw hw.2.2.1 h0 e53 dX12_happens_96 ?_
    refine lv_iload_n hx hb dX12_happens_99 rfl (lv_at hl 3 rfl) ?_
    obtain ⟨h54, hq⟩ := hq
    obtain ⟨h55, hq⟩ := hq
    refine q_zald C hw hw.2.2.1 h54 h55 dX12_happens_100 ?_
    refine lv_if_ne (tgt := 111) hx hb dX12_happens_101 (by decide) (fun c56 => ?_) (fun c56 => ?_)
    · replace hq := hq.2 c56
      refine lv_aload_n hx hb dX12_happens_111 rfl (lv_at hl 1 rfl) ?_
      obtain ⟨q57, e58, hq⟩ := hq
      refine gfX12_57 C hw hw.2.2.1 h0 e58 dX12_happens_112 ?_
      refine lv_iload_n hx hb dX12_happens_115 rfl (lv_at hl 3 rfl) ?_
      obtain ⟨h59, hq⟩ := hq
      obtain ⟨h60, hq⟩ := hq
      refine q_iald C hw hw.2.2.1 h59 h60 dX12_happens_116 ?_
      refine lv_goto (tgt := 145) hx hb dX12_happens_117 (by decide) ?_
      exact lt_X12_happens_145  C hr hlk hn h0  hq hw (lv_sub hl [1, 2, 3, 4] rfl)
    · replace hq := hq.1 c56
      refine lv_aload_n hx hb dX12_happens_104 rfl (lv_at hl 1 rfl) ?_
      refine gfX12_299 C hw hw.2.2.1 h0 dX12_happens_105 ?_
      refine lv_if_ne (tgt := 120) hx hb dX12_happens_108 (by decide) (fun c61 => ?_) (fun c61 => ?_)
      · replace hq := hq.2 c61
        refine lv_aload_n hx hb dX12_happens_120 rfl (lv_at hl 1 rfl) ?_
        obtain ⟨q62, e63, hq⟩ := hq
        refine gfX12_60 C hw hw.2.2.1 h0 e63 dX12_happens_121 ?_
        refine lv_iload_n hx hb dX12_happens_124 rfl (lv_at hl 3 rfl) ?_
        obtain ⟨h64, hq⟩ := hq
        obtain ⟨h65, hq⟩ := hq
        refine q_iald C hw hw.2.2.1 h64 h65 dX12_happens_125 ?_
        refine lv_goto (tgt := 145) hx hb dX12_happens_126 (by decide) ?_
        exact lt_X12_happens_145  C hr hlk hn h0  hq hw (lv_sub hl [1, 2, 3, 4] rfl)
      · replace hq := hq.1 c61
        refine lv_aload_n hx hb dX12_happens_111 rfl (lv_at hl 1 rfl) ?_
        obtain ⟨q66, e67, hq⟩ := hq
        refine gfX12_57 C hw hw.2.2.1 h0 e67 dX12_happens_112 ?_
        refine lv_iload_n hx hb dX12_happens_115 rfl (lv_at hl 3 rfl) ?_
        obtain ⟨h68, hq⟩ := hq
        obtain ⟨h69, hq⟩ := hq
        refine q_iald C hw hw.2.2.1 h68 h69 dX12_happens_116 ?_
        refine lv_goto (tgt := 145) hx hb dX12_happens_117 (by decide) ?_
        exact lt_X12_happens_145  C hr hlk hn h0  hq hw (lv_sub hl [1, 2, 3, 4] rfl)
set_option maxHeartbeats 4000000 in
set_option maxRecDepth 100000 in
theorem lt_X12_happens_44 {l : Launch} {g : Gh} {p : Program} {e : Env} {s : State} {m : MethodId} {args : Array Value} {below : List Frame} {meth : Method} {c : Code} {H : Heap} {locs : List Loc} {ls : Array Slot} {M0 M : Mem} {a0 : Nat} {p1 : Int32} {p2 : Int32} {post : Mem → Prop}  {s0 : Int32}  (C : Cx g p s m args c cX12_happens 5 RX12) (hr : meth.sig.returnType = none) (hlk : meth.locks = false) (hn : meth.name = "happens") (h0 : okc (gB g) M0 a0 12)  (hq : lb_X12_happens_44  g M0 a0 p1 p2 post  s0 M) (hw : Wd g s M0 M H locs) (hl : lv_has ls 5 [(0, .ref a0), (1, .int p1), (2, .int p2)]) : W p l e (rmo 2 0 0) s m args below meth c H locs 0 0 (MQ below (Cq g M0 (pV post)) args s 0 0 (gA g)) (F0 m 44 ls [.int s0]) := by
  have hx := C.1.1
  have hb := C.1.2.1
  unfold lb_X12_happens_44 at hq
  refine lv_istore_n (lv' := [(3, .int s0), (0, .ref a0), (1, .int p1), (2, .int p2)]) hx hb dX12_happens_44 rfl hl (by decide) rfl (fun ls hl => ?_)
  refine lv_aload_n hx hb dX12_happens_45 rfl (lv_at hl 1 rfl) ?_
  obtain ⟨q70, e71, hq⟩ := hq
  refine gfX12_96 C hw hw.2.2.1 h0 e71 dX12_happens_46 ?_
  refine lv_iload_n hx hb dX12_happens_49 rfl (lv_at hl 2 rfl) ?_
  obtain ⟨h72, hq⟩ := hq
  obtain ⟨h73, hq⟩ := hq
  refine q_iald C hw hw.2.2.1 h72 h73 dX12_happens_50 ?_
  refine lv_if_ne (tgt := 83) hx hb dX12_happens_51 (by decide) (fun c74 => ?_) (fun c74 => ?_)
  · replace hq := hq.2 c74
    refine lv_iconst (v := 0) hx hb dX12_happens_83 (by decide) ?_
    exact lt_X12_happens_84  C hr hlk hn h0  hq hw (lv_sub hl [1, 2, 3, 0] rfl)
  · replace hq := hq.1 c74
    refine lv_aload_n hx hb dX12_happens_54 rfl (lv_at hl 1 rfl) ?_
    obtain ⟨q75, e76, hq⟩ := hq
    refine gfX12_105 C hw hw.2.2.1 h0 e76 dX12_happens_55 ?_
    refine lv_iload_n hx hb dX12_happens_58 rfl (lv_at hl 2 rfl) ?_
    obtain ⟨h77, hq⟩ := hq
    obtain ⟨h78, hq⟩ := hq
    refine q_zald C hw hw.2.2.1 h77 h78 dX12_happens_59 ?_
    refine lv_if_ne (tgt := 83) hx hb dX12_happens_60 (by decide) (fun c79 => ?_) (fun c79 => ?_)
    · replace hq := hq.2 c79
      refine lv_iconst (v := 0) hx hb dX12_happens_83 (by decide) ?_
      exact lt_X12_happens_84  C hr hlk hn h0  hq hw (lv_sub hl [1, 2, 3, 0] rfl)
    · replace hq := hq.1 c79
      refine lv_aload_n hx hb dX12_happens_63 rfl (lv_at hl 1 rfl) ?_
      obtain ⟨q80, e81, hq⟩ := hq
      refine gfX12_66 C hw hw.2.2.1 h0 e81 dX12_happens_64 ?_
      refine lv_iload_n hx hb dX12_happens_67 rfl (lv_at hl 3 rfl) ?_
      obtain ⟨h82, hq⟩ := hq
      obtain ⟨h83, hq⟩ := hq
      refine q_zald C hw hw.2.2.1 h82 h83 dX12_happens_68 ?_
      refine lv_if_ne (tgt := 79) hx hb dX12_happens_69 (by decide) (fun c84 => ?_) (fun c84 => ?_)
      · replace hq := hq.2 c84
        refine lv_iconst (v := 1) hx hb dX12_happens_79 (by decide) ?_
        refine lv_goto (tgt := 84) hx hb dX12_happens_80 (by decide) ?_
        exact lt_X12_happens_84  C hr hlk hn h0  hq hw (lv_sub hl [1, 2, 3, 0] rfl)
      · replace hq := hq.1 c84
        refine lv_aload_n hx hb dX12_happens_72 rfl (lv_at hl 1 rfl) ?_
        refine gfX12_299 C hw hw.2.2.1 h0 dX12_happens_73 ?_
        refine lv_if_ne (tgt := 83) hx hb dX12_happens_76 (by decide) (fun c85 => ?_) (fun c85 => ?_)
        · replace hq := hq.2 c85
          refine lv_iconst (v := 0) hx hb dX12_happens_83 (by decide) ?_
          exact lt_X12_happens_84  C hr hlk hn h0  hq hw (lv_sub hl [1, 2, 3, 0] rfl)
        · replace hq := hq.1 c85
          refine lv_iconst (v := 1) hx hb dX12_happens_79 (by decide) ?_
          refine lv_goto (tgt := 84) hx hb dX12_happens_80 (by decide) ?_
          exact lt_X12_happens_84  C hr hlk hn h0  hq hw (lv_sub hl [1, 2, 3, 0] rfl)
set_option maxHeartbeats 4000000 in
set_option maxRecDepth 100000 in
theorem ct_X12_happens {l : Launch} {g : Gh} {M0 : Mem} {a0 : Nat} {p1 : Int32} {p2 : Int32} {post : Mem → Prop}  (hq : wp_X12_happens  g M0 a0 p1 p2 post) : Ct l g yX12_happens cX12_happens 5 none 2 0 0 [.ref a0, .int p1, .int p2] M0 (pV post) := by
  unfold wp_X12_happens at hq
  obtain ⟨h0, hq⟩ := hq
  refine Ct.of (by decide) (Nat.le_of_ble_eq_true rfl) ?_
  intro p e s m below meth c ls C hr hlk hn hl hw
  have hx := C.1.1
  have hb := C.1.2.1
  have hl : lv_has ls 5 [(0, .ref a0), (1, .int p1), (2, .int p2)] := hl
  refine lv_aload_n hx hb dX12_happens_0 rfl (lv_at hl 0 rfl) ?_
  obtain ⟨q86, e87, hq⟩ := hq
  refine gfX12_96 C hw hw.2.2.1 h0 e87 dX12_happens_1 ?_
  refine lv_iload_n hx hb dX12_happens_4 rfl (lv_at hl 1 rfl) ?_
  obtain ⟨h88, hq⟩ := hq
  obtain ⟨h89, hq⟩ := hq
  refine q_iald C hw hw.2.2.1 h88 h89 dX12_happens_5 ?_
  refine lv_iconst (v := 2) hx hb dX12_happens_6 (by decide) ?_
  refine lv_icmp_ne (tgt := 21) hx hb dX12_happens_7 (by decide) (fun c90 => ?_) (fun c90 => ?_)
  · replace hq := hq.2 c90
    refine lv_aload_n hx hb dX12_happens_21 rfl (lv_at hl 0 rfl) ?_
    refine gfX12_96 C hw hw.2.2.1 h0 e87 dX12_happens_22 ?_
    refine lv_iload_n hx hb dX12_happens_25 rfl (lv_at hl 1 rfl) ?_
    refine q_iald C hw hw.2.2.1 h88 h89 dX12_happens_26 ?_
    refine lv_if_ne (tgt := 43) hx hb dX12_happens_27 (by decide) (fun c91 => ?_) (fun c91 => ?_)
    · replace hq := hq.2 c91
      refine lv_iconst (v := 0) hx hb dX12_happens_43 (by decide) ?_
      exact lt_X12_happens_44  C hr hlk hn h0  hq hw (lv_sub hl [0, 1, 2] rfl)
    · replace hq := hq.1 c91
      refine lv_aload_n hx hb dX12_happens_30 rfl (lv_at hl 0 rfl) ?_
      obtain ⟨q92, e93, hq⟩ := hq
      refine gfX12_105 C hw hw.2.2.1 h0 e93 dX12_happens_31 ?_
      refine lv_iload_n hx hb dX12_happens_34 rfl (lv_at hl 1 rfl) ?_
      obtain ⟨h94, hq⟩ := hq
      obtain ⟨h95, hq⟩ := hq
      refine q_zald C hw hw.2.2.1 h94 h95 dX12_happens_35 ?_
      refine lv_if_eq (tgt := 43) hx hb dX12_happens_36 (by decide) (fun c96 => ?_) (fun c96 => ?_)
      · replace hq := hq.1 c96
        refine lv_iconst (v := 0) hx hb dX12_happens_43 (by decide) ?_
        exact lt_X12_happens_44  C hr hlk hn h0  hq hw (lv_sub hl [0, 1, 2] rfl)
      · replace hq := hq.2 c96
        refine lv_iconst (v := 1) hx hb dX12_happens_39 (by decide) ?_
        refine lv_goto (tgt := 44) hx hb dX12_happens_40 (by decide) ?_
        exact lt_X12_happens_44  C hr hlk hn h0  hq hw (lv_sub hl [0, 1, 2] rfl)
  · replace hq := hq.1 c90
    refine lv_aload_n hx hb dX12_happens_10 rfl (lv_at hl 0 rfl) ?_
    refine lv_aload_n hx hb dX12_happens_11 rfl (lv_at hl 0 rfl) ?_
    refine gfX12_296 C hw hw.2.2.1 h0 dX12_happens_12 ?_
    refine lv_iconst (v := 1) hx hb dX12_happens_15 (by decide) ?_
    refine lv_iadd hx hb dX12_happens_16 ?_
    refine r_callV (T := TX12) (N := 67) (ci := 12) (index := 308) (n := 1) (d2 := 1) (mc := 0) (ms := 0) (As := [.int ((mI M0 a0 50) + 1)]) (rest := []) C hw (ct_X12_hands hq) kvX12_308 hq.1 (by decide) rfl ⟨by decide, by decide⟩ ⟨by decide, by decide⟩ rfl hl.1 rfl (Nat.le_of_ble_eq_true rfl) dX12_happens_17 (fun r M98 H locs hp hle hw => ?_)
    obtain ⟨rfl, hq⟩ := hp
    refine W.eq (g2 := F0 m 20 ls []) rfl ?_
    exact r_vret C hr hlk hw dX12_happens_20 (Nat.le_refl _) (Nat.le_refl _) ⟨rfl, hq⟩
