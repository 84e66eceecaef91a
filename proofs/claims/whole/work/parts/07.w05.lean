set_option maxRecDepth 100000 in
def bd_X3_stepPart_2  (g : Gh) (M0 : Mem) (a0 : Nat) (a1 : Nat) (post : Mem → Prop)  (bk2 : Int32 × Mem → Prop) (x2 : Int32)  (M : Mem) : Prop :=
  ((21 ≤ x2) → post M) ∧ (¬ (21 ≤ x2) → ∃ q2, mR M a0 0 = some q2 ∧ (okc (gB g) M0 q2 14 ∧ (vp_in x2 (mN M0 q2) ∧ (wp_X3_endsBehind g M (mI M q2 (Int32.toNatClampNeg x2)) a1 0 (fun v6 M7 => ∀ M8, M8 = uI M7 q2 (Int32.toNatClampNeg x2) v6 → (bk2 ((x2 + 1), M8)))))))
set_option maxRecDepth 100000 in
def wp_X3_stepPart  (g : Gh) (M0 : Mem) (a0 : Nat) (a1 : Nat) (post : Mem → Prop) : Prop :=
  okc (gB g) M0 a0 3 ∧ ((∃ n : Nat, lfp (fun bk z => bd_X3_stepPart_2  g M0 a0 a1 post  bk z.1 z.2) n (0, M0)))
set_option maxHeartbeats 4000000 in
set_option maxRecDepth 100000 in
theorem lp_X3_stepPart_2 {l : Launch} {g : Gh} {p : Program} {e : Env} {s : State} {m : MethodId} {args : Array Value} {below : List Frame} {meth : Method} {c : Code} {M0 : Mem} {a0 : Nat} {a1 : Nat} {post : Mem → Prop}  (C : Cx g p s m args c cX3_stepPart 3 RX3) (hr : meth.sig.returnType = none) (hlk : meth.locks = false) (hn : meth.name = "stepPart") (h0 : okc (gB g) M0 a0 3)  : ∀ (nf : Nat) (x2 : Int32)  (M : Mem) (H : Heap) (locs : List Loc) (ls : Array Slot), lfp (fun bk z => bd_X3_stepPart_2  g M0 a0 a1 post  bk z.1 z.2) nf (x2, M) → Wd g s M0 M H locs → lv_has ls 3 [(0, .ref a0), (1, .ref a1), (2, .int x2)] → W p l e (rmo 1 0 0) s m args below meth c H locs 0 0 (MQ below (Cq g M0 (pV post)) args s 0 0 (gA g)) (F0 m 2 ls []) := by
  have hx := C.1.1
  have hb := C.1.2.1
  intro nf
  induction nf with
  | zero => intro _ _ H locs ls hq; exact hq.elim
  | succ nf hk2 =>
    intro x2 M H locs ls hq hw hl
    replace hq : bd_X3_stepPart_2  g M0 a0 a1 post  (lfp (fun bk z => bd_X3_stepPart_2  g M0 a0 a1 post  bk z.1 z.2) nf) x2 M := hq
    unfold bd_X3_stepPart_2 at hq
    refine lv_iload_n hx hb dX3_stepPart_2 rfl (lv_at hl 2 rfl) ?_
    refine lv_bipush (v := 21) hx hb dX3_stepPart_3 (by decide) ?_
    refine lv_icmp_ge (tgt := 31) hx hb dX3_stepPart_5 (by decide) (fun c1 => ?_) (fun c1 => ?_)
    · replace hq := hq.1 c1
      exact r_vret C hr hlk hw dX3_stepPart_31 (Nat.le_refl _) (Nat.le_refl _) ⟨rfl, hq⟩
    · replace hq := hq.2 c1
      refine lv_aload_n hx hb dX3_stepPart_8 rfl (lv_at hl 0 rfl) ?_
      obtain ⟨q2, e3, hq⟩ := hq
      refine gfX3_11 C hw hw.2.2.1 h0 e3 dX3_stepPart_9 ?_
      refine lv_iload_n hx hb dX3_stepPart_12 rfl (lv_at hl 2 rfl) ?_
      refine lv_aload_n hx hb dX3_stepPart_13 rfl (lv_at hl 0 rfl) ?_
      refine gfX3_11 C hw hw.2.2.1 h0 e3 dX3_stepPart_14 ?_
      refine lv_iload_n hx hb dX3_stepPart_17 rfl (lv_at hl 2 rfl) ?_
      obtain ⟨h4, hq⟩ := hq
      obtain ⟨h5, hq⟩ := hq
      refine q_iald C hw hw.2.2.1 h4 h5 dX3_stepPart_18 ?_
      refine lv_aload_n hx hb dX3_stepPart_19 rfl (lv_at hl 1 rfl) ?_
      refine lv_iconst (v := 0) hx hb dX3_stepPart_20 (by decide) ?_
      refine r_callS (index := 33) (n := 3) (d2 := 0) (mc := 0) (ms := 0) (As := [.int (mI M q2 (Int32.toNatClampNeg x2)), .ref a1, .int 0]) (rest := [.int x2, .ref q2]) C hw (ct_X3_endsBehind hq) ksX3_33 ⟨by decide, by decide⟩ ⟨by decide, by decide⟩ rfl hl.1 rfl (Nat.le_of_ble_eq_true rfl) dX3_stepPart_21 (fun r M7 H locs hp hle hw => ?_)
      obtain ⟨v6, rfl, hq⟩ := hp
      refine W.eq (g2 := F0 m 24 ls [.int v6, .int x2, .ref q2]) rfl ?_
      refine q_iast C hw hw.2.2.1 h4 h5 dX3_stepPart_24 (fun H locs hw => ?_)
      generalize e9 : uI M7 q2 (Int32.toNatClampNeg x2) v6 = M8 at hw
      replace hq := hq M8 e9.symm
      refine lv_iinc (v := (x2 + 1)) (lv' := [(2, .int (x2 + 1)), (0, .ref a0), (1, .ref a1)]) hx hb dX3_stepPart_25 hl (k := 2) rfl rfl (by decide) rfl (fun ls hl => ?_)
      refine lv_goto (tgt := 2) hx hb dX3_stepPart_28 (by decide) ?_
      exact hk2 _ _ _ _ _ hq hw (lv_sub hl [1, 2, 0] rfl)
set_option maxHeartbeats 4000000 in
set_option maxRecDepth 100000 in
theorem ct_X3_stepPart {l : Launch} {g : Gh} {M0 : Mem} {a0 : Nat} {a1 : Nat} {post : Mem → Prop}  (hq : wp_X3_stepPart  g M0 a0 a1 post) : Ct l g yX3_stepPart cX3_stepPart 3 none 1 0 0 [.ref a0, .ref a1] M0 (pV post) := by
  unfold wp_X3_stepPart at hq
  obtain ⟨h0, hq⟩ := hq
  refine Ct.of (by decide) (Nat.le_of_ble_eq_true rfl) ?_
  intro p e s m below meth c ls C hr hlk hn hl hw
  have hx := C.1.1
  have hb := C.1.2.1
  have hl : lv_has ls 3 [(0, .ref a0), (1, .ref a1)] := hl
  refine lv_iconst (v := 0) hx hb dX3_stepPart_0 (by decide) ?_
  refine lv_istore_n (lv' := [(2, .int 0), (0, .ref a0), (1, .ref a1)]) hx hb dX3_stepPart_1 rfl hl (by decide) rfl (fun ls hl => ?_)
  obtain ⟨nf, hq⟩ := hq
  exact lp_X3_stepPart_2  C hr hlk hn h0  nf _ _ _ _ _ hq hw (lv_sub hl [1, 2, 0] rfl)

set_option maxRecDepth 100000 in
def bd_X3_closeRow_2  (g : Gh) (M0 : Mem) (a0 : Nat) (post : Mem → Prop)  (bk2 : Int32 × Mem → Prop) (x1 : Int32)  (M : Mem) : Prop :=
  ((21 ≤ x1) → post M) ∧ (¬ (21 ≤ x1) → ∃ q2, mR M a0 1 = some q2 ∧ (okc (gB g) M0 q2 14 ∧ (vp_in x1 (mN M0 q2) ∧ (∃ q6, mR M a0 0 = some q6 ∧ (okc (gB g) M0 q6 14 ∧ (vp_in x1 (mN M0 q6) ∧ (∀ M10, M10 = uI M q2 (Int32.toNatClampNeg x1) ((mI M q2 (Int32.toNatClampNeg x1)) ||| (mI M q6 (Int32.toNatClampNeg x1))) → (∀ M12, M12 = uI M10 q6 (Int32.toNatClampNeg x1) (1 <<< (x1 &&& 31)) → (bk2 ((x1 + 1), M12))))))))))
set_option maxRecDepth 100000 in
def wp_X3_closeRow  (g : Gh) (M0 : Mem) (a0 : Nat) (post : Mem → Prop) : Prop :=
  okc (gB g) M0 a0 3 ∧ ((∃ n : Nat, lfp (fun bk z => bd_X3_closeRow_2  g M0 a0 post  bk z.1 z.2) n (0, M0)))
set_option maxHeartbeats 4000000 in
set_option maxRecDepth 100000 in
theorem lp_X3_closeRow_2 {l : Launch} {g : Gh} {p : Program} {e : Env} {s : State} {m : MethodId} {args : Array Value} {below : List Frame} {meth : Method} {c : Code} {M0 : Mem} {a0 : Nat} {post : Mem → Prop}  (C : Cx g p s m args c cX3_closeRow 2 RX3) (hr : meth.sig.returnType = none) (hlk : meth.locks = false) (hn : meth.name = "closeRow") (h0 : okc (gB g) M0 a0 3)  : ∀ (nf : Nat) (x1 : Int32)  (M : Mem) (H : Heap) (locs : List Loc) (ls : Array Slot), lfp (fun bk z => bd_X3_closeRow_2  g M0 a0 post  bk z.1 z.2) nf (x1, M) → Wd g s M0 M H locs → lv_has ls 2 [(0, .ref a0), (1, .int x1)] → W p l e (rmo 0 0 0) s m args below meth c H locs 0 0 (MQ below (Cq g M0 (pV post)) args s 0 0 (gA g)) (F0 m 2 ls []) := by
  have hx := C.1.1
  have hb := C.1.2.1
  intro nf
  induction nf with
  | zero => intro _ _ H locs ls hq; exact hq.elim
  | succ nf hk2 =>
    intro x1 M H locs ls hq hw hl
    replace hq : bd_X3_closeRow_2  g M0 a0 post  (lfp (fun bk z => bd_X3_closeRow_2  g M0 a0 post  bk z.1 z.2) nf) x1 M := hq
    unfold bd_X3_closeRow_2 at hq
    refine lv_iload_n hx hb dX3_closeRow_2 rfl (lv_at hl 1 rfl) ?_
    refine lv_bipush (v := 21) hx hb dX3_closeRow_3 (by decide) ?_
    refine lv_icmp_ge (tgt := 38) hx hb dX3_closeRow_5 (by decide) (fun c1 => ?_) (fun c1 => ?_)
    · replace hq := hq.1 c1
      exact r_vret C hr hlk hw dX3_closeRow_38 (Nat.le_refl _) (Nat.le_refl _) ⟨rfl, hq⟩
    · replace hq := hq.2 c1
      refine lv_aload_n hx hb dX3_closeRow_8 rfl (lv_at hl 0 rfl) ?_
      obtain ⟨q2, e3, hq⟩ := hq
      refine gfX3_15 C hw hw.2.2.1 h0 e3 dX3_closeRow_9 ?_
      refine lv_iload_n hx hb dX3_closeRow_12 rfl (lv_at hl 1 rfl) ?_
      refine lv_dup2_11 hx hb dX3_closeRow_13 rfl rfl ?_
      obtain ⟨h4, hq⟩ := hq
      obtain ⟨h5, hq⟩ := hq
      refine q_iald C hw hw.2.2.1 h4 h5 dX3_closeRow_14 ?_
      refine lv_aload_n hx hb dX3_closeRow_15 rfl (lv_at hl 0 rfl) ?_
      obtain ⟨q6, e7, hq⟩ := hq
      refine gfX3_11 C hw hw.2.2.1 h0 e7 dX3_closeRow_16 ?_
      refine lv_iload_n hx hb dX3_closeRow_19 rfl (lv_at hl 1 rfl) ?_
      obtain ⟨h8, hq⟩ := hq
      obtain ⟨h9, hq⟩ := hq
      refine q_iald C hw hw.2.2.1 h8 h9 dX3_closeRow_20 ?_
      refine lv_ior hx hb dX3_closeRow_21 ?_
      refine q_iast C hw hw.2.2.1 h4 h5 dX3_closeRow_22 (fun H locs hw => ?_)
      generalize e11 : uI M q2 (Int32.toNatClampNeg x1) ((mI M q2 (Int32.toNatClampNeg x1)) ||| (mI M q6 (Int32.toNatClampNeg x1))) = M10 at hw
      replace hq := hq M10 e11.symm
      have e3 : mR M10 a0 1 = some q2 := by rw [← e11, mR_uI]; exact e3
      have e7 : mR M10 a0 0 = some q6 := by rw [← e11, mR_uI]; exact e7
      refine lv_aload_n hx hb dX3_closeRow_23 rfl (lv_at hl 0 rfl) ?_
      refine gfX3_11 C hw hw.2.2.1 h0 e7 dX3_closeRow_24 ?_
      refine lv_iload_n hx hb dX3_closeRow_27 rfl (lv_at hl 1 rfl) ?_
      refine lv_iconst (v := 1) hx hb dX3_closeRow_28 (by decide) ?_
      refine lv_iload_n hx hb dX3_closeRow_29 rfl (lv_at hl 1 rfl) ?_
      refine lv_ishl hx hb dX3_closeRow_30 ?_
      refine q_iast C hw hw.2.2.1 h8 h9 dX3_closeRow_31 (fun H locs hw => ?_)
      generalize e13 : uI M10 q6 (Int32.toNatClampNeg x1) (1 <<< (x1 &&& 31)) = M12 at hw
      replace hq := hq M12 e13.symm
      have e3 : mR M12 a0 1 = some q2 := by rw [← e13, mR_uI]; exact e3
      have e7 : mR M12 a0 0 = some q6 := by rw [← e13, mR_uI]; exact e7
      refine lv_iinc (v := (x1 + 1)) (lv' := [(1, .int (x1 + 1)), (0, .ref a0)]) hx hb dX3_closeRow_32 hl (k := 1) rfl rfl (by decide) rfl (fun ls hl => ?_)
      refine lv_goto (tgt := 2) hx hb dX3_closeRow_35 (by decide) ?_
      exact hk2 _ _ _ _ _ hq hw (lv_sub hl [1, 0] rfl)
set_option maxHeartbeats 4000000 in
set_option maxRecDepth 100000 in
theorem ct_X3_closeRow {l : Launch} {g : Gh} {M0 : Mem} {a0 : Nat} {post : Mem → Prop}  (hq : wp_X3_closeRow  g M0 a0 post) : Ct l g yX3_closeRow cX3_closeRow 2 none 0 0 0 [.ref a0] M0 (pV post) := by
  unfold wp_X3_closeRow at hq
  obtain ⟨h0, hq⟩ := hq
  refine Ct.of (by decide) (Nat.le_of_ble_eq_true rfl) ?_
  intro p e s m below meth c ls C hr hlk hn hl hw
  have hx := C.1.1
  have hb := C.1.2.1
  have hl : lv_has ls 2 [(0, .ref a0)] := hl
  refine lv_iconst (v := 0) hx hb dX3_closeRow_0 (by decide) ?_
  refine lv_istore_n (lv' := [(1, .int 0), (0, .ref a0)]) hx hb dX3_closeRow_1 rfl hl (by decide) rfl (fun ls hl => ?_)
  obtain ⟨nf, hq⟩ := hq
  exact lp_X3_closeRow_2  C hr hlk hn h0  nf _ _ _ _ _ hq hw (lv_sub hl [1, 0] rfl)

set_option maxRecDepth 100000 in
def wp_X3_keepForm  (g : Gh) (M0 : Mem) (a0 : Nat) (post : Mem → Prop) : Prop :=
  okc (gB g) M0 a0 3 ∧ (((5 ≤ (mI M0 a0 3)) → wp_X3_restartForm g M0 a0 (fun M3 => post M3)) ∧ (¬ (5 ≤ (mI M0 a0 3)) → ∃ q4, mR M0 a0 1 = some q4 ∧ (∃ q6, mR M0 a0 2 = some q6 ∧ (okc (gB g) M0 q4 14 ∧ (okc (gB g) M0 q6 14 ∧ ((¬ (0 : Int32) < 0 ∧ ¬ (((mI M0 a0 3) * 21) : Int32) < 0 ∧ ¬ (21 : Int32) < 0 ∧ Int32.toNatClampNeg 0 + Int32.toNatClampNeg 21 ≤ mN M0 q4 ∧ Int32.toNatClampNeg ((mI M0 a0 3) * 21) + Int32.toNatClampNeg 21 ≤ mN M0 q6) ∧ (∀ M11, M11 = wI M0 q6 (va_cpy (mI M0 q4) (mI M0 q6) (Int32.toNatClampNeg 0) (Int32.toNatClampNeg ((mI M0 a0 3) * 21)) (Int32.toNatClampNeg 21)) → (∀ M13, M13 = uI M11 a0 3 ((mI M11 a0 3) + 1) → (wp_X3_restartForm g M13 a0 (fun M16 => post M16))))))))))
set_option maxHeartbeats 4000000 in
set_option maxRecDepth 100000 in
theorem ct_X3_keepForm {l : Launch} {g : Gh} {M0 : Mem} {a0 : Nat} {post : Mem → Prop}  (hq : wp_X3_keepForm  g M0 a0 post) : Ct l g yX3_keepForm cX3_keepForm 1 none 1 0 0 [.ref a0] M0 (pV post) := by
  unfold wp_X3_keepForm at hq
  obtain ⟨h0, hq⟩ := hq
  refine Ct.of (by decide) (Nat.le_of_ble_eq_true rfl) ?_
  intro p e s m below meth c ls C hr hlk hn hl hw
  have hx := C.1.1
  have hb := C.1.2.1
  have hl : lv_has ls 1 [(0, .ref a0)] := hl
  refine lv_aload_n hx hb dX3_keepForm_0 rfl (lv_at hl 0 rfl) ?_
  refine gfX3_23 C hw hw.2.2.1 h0 dX3_keepForm_1 ?_
  refine lv_iconst (v := 5) hx hb dX3_keepForm_4 (by decide) ?_
  refine lv_icmp_ge (tgt := 39) hx hb dX3_keepForm_5 (by decide) (fun c1 => ?_) (fun c1 => ?_)
  · replace hq := hq.1 c1
    refine lv_aload_n hx hb dX3_keepForm_39 rfl (lv_at hl 0 rfl) ?_
    refine r_callV (T := TX3) (N := 5) (ci := 3) (index := 30) (n := 0) (d2 := 0) (mc := 0) (ms := 0) (As := []) (rest := []) C hw (ct_X3_restartForm hq) kvX3_30 hq.1 (by decide) rfl ⟨by decide, by decide⟩ ⟨by decide, by decide⟩ rfl hl.1 rfl (Nat.le_of_ble_eq_true rfl) dX3_keepForm_40 (fun r M3 H locs hp hle hw => ?_)
    obtain ⟨rfl, hq⟩ := hp
    refine W.eq (g2 := F0 m 43 ls []) rfl ?_
    exact r_vret C hr hlk hw dX3_keepForm_43 (Nat.le_refl _) (Nat.le_refl _) ⟨rfl, hq⟩
  · replace hq := hq.2 c1
    refine lv_aload_n hx hb dX3_keepForm_8 rfl (lv_at hl 0 rfl) ?_
    obtain ⟨q4, e5, hq⟩ := hq
    refine gfX3_15 C hw hw.2.2.1 h0 e5 dX3_keepForm_9 ?_
    refine lv_iconst (v := 0) hx hb dX3_keepForm_12 (by decide) ?_
    refine lv_aload_n hx hb dX3_keepForm_13 rfl (lv_at hl 0 rfl) ?_
    obtain ⟨q6, e7, hq⟩ := hq
    refine gfX3_20 C hw hw.2.2.1 h0 e7 dX3_keepForm_14 ?_
    refine lv_aload_n hx hb dX3_keepForm_17 rfl (lv_at hl 0 rfl) ?_
    refine gfX3_23 C hw hw.2.2.1 h0 dX3_keepForm_18 ?_
    refine lv_bipush (v := 21) hx hb dX3_keepForm_21 (by decide) ?_
    refine lv_imul hx hb dX3_keepForm_23 ?_
    refine lv_bipush (v := 21) hx hb dX3_keepForm_24 (by decide) ?_
    obtain ⟨h8, hq⟩ := hq
    obtain ⟨h9, hq⟩ := hq
    obtain ⟨h10, hq⟩ := hq
    refine q_copyi (kd := 14) (ty := .int) C hw hl.1 hw.2.2.1 h8 h9 (by decide) (by decide) (by decide) rfl rfl w_693 w_593 w_592 w_21 h10.1 h10.2.1 h10.2.2.1 h10.2.2.2.1 h10.2.2.2.2 (fun _ _ => rfl) (by decide) (Nat.le_of_ble_eq_true rfl) dX3_keepForm_26 (fun H locs hw => ?_)
    generalize e12 : wI M0 q6 (va_cpy (mI M0 q4) (mI M0 q6) (Int32.toNatClampNeg 0) (Int32.toNatClampNeg ((mI M0 a0 3) * 21)) (Int32.toNatClampNeg 21)) = M11 at hw
    replace hq := hq M11 e12.symm
    have e5 : mR M11 a0 1 = some q4 := by rw [← e12, mR_wI]; exact e5
    have e7 : mR M11 a0 2 = some q6 := by rw [← e12, mR_wI]; exact e7
    refine lv_aload_n hx hb dX3_keepForm_29 rfl (lv_at hl 0 rfl) ?_
    refine lv_dup hx hb dX3_keepForm_30 rfl ?_
    refine gfX3_23 C hw hw.2.2.1 h0 dX3_keepForm_31 ?_
    refine lv_iconst (v := 1) hx hb dX3_keepForm_34 (by decide) ?_
    refine lv_iadd hx hb dX3_keepForm_35 ?_
    refine pfX3_23 C hw hw.2.2.1 h0 dX3_keepForm_36 (fun H locs hw => ?_)
    generalize e14 : uI M11 a0 3 ((mI M11 a0 3) + 1) = M13 at hw
    replace hq := hq M13 e14.symm
    have e5 : mR M13 a0 1 = some q4 := by rw [← e14, mR_uI]; exact e5
    have e7 : mR M13 a0 2 = some q6 := by rw [← e14, mR_uI]; exact e7
    refine lv_aload_n hx hb dX3_keepForm_39 rfl (lv_at hl 0 rfl) ?_
    refine r_callV (T := TX3) (N := 5) (ci := 3) (index := 30) (n := 0) (d2 := 0) (mc := 0) (ms := 0) (As := []) (rest := []) C hw (ct_X3_restartForm hq) kvX3_30 hq.1 (by decide) rfl ⟨by decide, by decide⟩ ⟨by decide, by decide⟩ rfl hl.1 rfl (Nat.le_of_ble_eq_true rfl) dX3_keepForm_40 (fun r M16 H locs hp hle hw => ?_)
    obtain ⟨rfl, hq⟩ := hp
    refine W.eq (g2 := F0 m 43 ls []) rfl ?_
    exact r_vret C hr hlk hw dX3_keepForm_43 (Nat.le_refl _) (Nat.le_refl _) ⟨rfl, hq⟩

set_option maxRecDepth 100000 in
def bd_J7_fill_53178_5  (g : Gh) (M0 : Mem) (a0 : Nat) (p1 : Int32) (post : Mem → Prop)  (bk5 : Int32 × Int32 × Mem → Prop) (x2 : Int32) (x3 : Int32)  (M : Mem) : Prop :=
  ((x3 ≤ x2) → post M) ∧ (¬ (x3 ≤ x2) → okc (gB g) M0 a0 14 ∧ (vp_in x2 (mN M0 a0) ∧ (∀ M4, M4 = uI M a0 (Int32.toNatClampNeg x2) p1 → (bk5 ((x2 + 1), x3, M4)))))
set_option maxRecDepth 100000 in
def wp_J7_fill_53178  (g : Gh) (M0 : Mem) (a0 : Nat) (p1 : Int32) (post : Mem → Prop) : Prop :=
  okc (gB g) M0 a0 14 ∧ ((∃ n : Nat, lfp (fun bk z => bd_J7_fill_53178_5  g M0 a0 p1 post  bk z.1 z.2.1 z.2.2) n (0, (nI (mN M0 a0)), M0)))
set_option maxHeartbeats 4000000 in
set_option maxRecDepth 100000 in
theorem lp_J7_fill_53178_5 {l : Launch} {g : Gh} {p : Program} {e : Env} {s : State} {m : MethodId} {args : Array Value} {below : List Frame} {meth : Method} {c : Code} {M0 : Mem} {a0 : Nat} {p1 : Int32} {post : Mem → Prop}  (C : Cx g p s m args c cJ7_fill_53178 4 RJ7) (hr : meth.sig.returnType = none) (hlk : meth.locks = false) (hn : meth.name = "fill")   : ∀ (nf : Nat) (x2 : Int32) (x3 : Int32)  (M : Mem) (H : Heap) (locs : List Loc) (ls : Array Slot), lfp (fun bk z => bd_J7_fill_53178_5  g M0 a0 p1 post  bk z.1 z.2.1 z.2.2) nf (x2, x3, M) → Wd g s M0 M H locs → lv_has ls 4 [(0, .ref a0), (1, .int p1), (2, .int x2), (3, .int x3)] → W p l e (rmo 0 0 0) s m args below meth c H locs 0 0 (MQ below (Cq g M0 (pV post)) args s 0 0 (gA g)) (F0 m 5 ls []) := by
  have hx := C.1.1
  have hb := C.1.2.1
  intro nf
  induction nf with
  | zero => intro _ _ _ H locs ls hq; exact hq.elim
  | succ nf hk5 =>
    intro x2 x3 M H locs ls hq hw hl
    replace hq : bd_J7_fill_53178_5  g M0 a0 p1 post  (lfp (fun bk z => bd_J7_fill_53178_5  g M0 a0 p1 post  bk z.1 z.2.1 z.2.2) nf) x2 x3 M := hq
    unfold bd_J7_fill_53178_5 at hq
    refine lv_iload_n hx hb dJ7_fill_53178_5 rfl (lv_at hl 2 rfl) ?_
    refine lv_iload_n hx hb dJ7_fill_53178_6 rfl (lv_at hl 3 rfl) ?_
    refine lv_icmp_ge (tgt := 20) hx hb dJ7_fill_53178_7 (by decide) (fun c1 => ?_) (fun c1 => ?_)
    · replace hq := hq.1 c1
      exact r_vret C hr hlk hw dJ7_fill_53178_20 (Nat.le_refl _) (Nat.le_refl _) ⟨rfl, hq⟩
    · replace hq := hq.2 c1
      refine lv_aload_n hx hb dJ7_fill_53178_10 rfl (lv_at hl 0 rfl) ?_
      refine lv_iload_n hx hb dJ7_fill_53178_11 rfl (lv_at hl 2 rfl) ?_
      refine lv_iload_n hx hb dJ7_fill_53178_12 rfl (lv_at hl 1 rfl) ?_
      obtain ⟨h2, hq⟩ := hq
      obtain ⟨h3, hq⟩ := hq
      refine q_iast C hw hw.2.2.1 h2 h3 dJ7_fill_53178_13 (fun H locs hw => ?_)
      generalize e5 : uI M a0 (Int32.toNatClampNeg x2) p1 = M4 at hw
      replace hq := hq M4 e5.symm
      refine lv_iinc (v := (x2 + 1)) (lv' := [(2, .int (x2 + 1)), (0, .ref a0), (1, .int p1), (3, .int x3)]) hx hb dJ7_fill_53178_14 hl (k := 2) rfl rfl (by decide) rfl (fun ls hl => ?_)
      refine lv_goto (tgt := 5) hx hb dJ7_fill_53178_17 (by decide) ?_
      exact hk5 _ _ _ _ _ _ hq hw (lv_sub hl [1, 2, 0, 3] rfl)
set_option maxHeartbeats 4000000 in
set_option maxRecDepth 100000 in
theorem ct_J7_fill_53178 {l : Launch} {g : Gh} {M0 : Mem} {a0 : Nat} {p1 : Int32} {post : Mem → Prop}  (hq : wp_J7_fill_53178  g M0 a0 p1 post) : Ct l g yJ7_fill_53178 cJ7_fill_53178 4 none 0 0 0 [.ref a0, .int p1] M0 (pV post) := by
  unfold wp_J7_fill_53178 at hq
  refine Ct.of (by decide) (Nat.le_of_ble_eq_true rfl) ?_
  intro p e s m below meth c ls C hr hlk hn hl hw
  have hx := C.1.1
  have hb := C.1.2.1
  have hl : lv_has ls 4 [(0, .ref a0), (1, .int p1)] := hl
  refine lv_iconst (v := 0) hx hb dJ7_fill_53178_0 (by decide) ?_
  refine lv_istore_n (lv' := [(2, .int 0), (0, .ref a0), (1, .int p1)]) hx hb dJ7_fill_53178_1 rfl hl (by decide) rfl (fun ls hl => ?_)
  refine lv_aload_n hx hb dJ7_fill_53178_2 rfl (lv_at hl 1 rfl) ?_
  obtain ⟨h6, hq⟩ := hq
  refine q_alen C hw hw.2.2.1 h6 (by decide) (by decide) rfl dJ7_fill_53178_3 ?_
  refine lv_istore_n (lv' := [(3, .int (nI (mN M0 a0))), (2, .int 0), (0, .ref a0), (1, .int p1)]) hx hb dJ7_fill_53178_4 rfl hl (by decide) rfl (fun ls hl => ?_)
  obtain ⟨nf, hq⟩ := hq
  exact lp_J7_fill_53178_5  C hr hlk hn  nf _ _ _ _ _ _ hq hw (lv_sub hl [2, 3, 1, 0] rfl)

set_option maxRecDepth 100000 in
def lb_X3_endsInAnyOrder_107  (g : Gh) (M0 : Mem) (a0 : Nat) (p1 : Int32) (post : Int32 → Mem → Prop)  (x2 : Int32)  (M : Mem) : Prop :=
  ∃ q1, mR M a0 4 = some q1 ∧ (okc (gB g) M0 q1 14 ∧ (vp_in x2 (mN M0 q1) ∧ (post (mI M q1 (Int32.toNatClampNeg x2)) M)))
set_option maxRecDepth 100000 in
def lb_X3_endsInAnyOrder_98  (g : Gh) (M0 : Mem) (a0 : Nat) (p1 : Int32) (post : Int32 → Mem → Prop) (bk28 : Int32 × Int32 × Mem → Prop) (bk36 : Int32 × Int32 × Int32 × Mem → Prop) (x2 : Int32) (x3 : Int32) (x4 : Int32)  (M : Mem) : Prop :=
  bk36 (x2, x3, x4, M)
set_option maxRecDepth 100000 in
def bd_X3_endsInAnyOrder_36  (g : Gh) (M0 : Mem) (a0 : Nat) (p1 : Int32) (post : Int32 → Mem → Prop) (bk28 : Int32 × Int32 × Mem → Prop) (bk36 : Int32 × Int32 × Int32 × Mem → Prop) (x2 : Int32) (x3 : Int32) (x4 : Int32)  (M : Mem) : Prop :=
  (((mI M a0 3) ≤ x4) → bk28 (x2, (x3 + 1), M)) ∧ (¬ ((mI M a0 3) ≤ x4) → ∃ q6, mR M a0 4 = some q6 ∧ (okc (gB g) M0 q6 14 ∧ (vp_in x3 (mN M0 q6) ∧ ((((mI M q6 (Int32.toNatClampNeg x3)) = 0) → bk28 (x2, (x3 + 1), M)) ∧ (¬ ((mI M q6 (Int32.toNatClampNeg x3)) = 0) → ((((x3 >>> (x4 &&& 31)) &&& 1) = 0) → vp_in (x3 ||| (1 <<< (x4 &&& 31))) (mN M0 q6) ∧ (∃ q13, mR M a0 2 = some q13 ∧ (wp_X3_endsBehind g M (mI M q6 (Int32.toNatClampNeg x3)) q13 (x4 * 21) (fun v15 M16 => ∀ M17, M17 = uI M16 q6 (Int32.toNatClampNeg (x3 ||| (1 <<< (x4 &&& 31)))) ((mI M q6 (Int32.toNatClampNeg (x3 ||| (1 <<< (x4 &&& 31))))) ||| v15) → (lb_X3_endsInAnyOrder_98  g M0 a0 p1 post bk28 bk36 x2 x3 (x4 + 1) M17))))) ∧ (¬ (((x3 >>> (x4 &&& 31)) &&& 1) = 0) → lb_X3_endsInAnyOrder_98  g M0 a0 p1 post bk28 bk36 x2 x3 (x4 + 1) M))))))
set_option maxRecDepth 100000 in
def bd_X3_endsInAnyOrder_28  (g : Gh) (M0 : Mem) (a0 : Nat) (p1 : Int32) (post : Int32 → Mem → Prop)  (bk28 : Int32 × Int32 × Mem → Prop) (x2 : Int32) (x3 : Int32)  (M : Mem) : Prop :=
  ((x2 ≤ x3) → lb_X3_endsInAnyOrder_107  g M0 a0 p1 post  x2 M) ∧ (¬ (x2 ≤ x3) → (∃ n : Nat, lfp (fun bk z => bd_X3_endsInAnyOrder_36  g M0 a0 p1 post bk28 bk z.1 z.2.1 z.2.2.1 z.2.2.2) n (x2, x3, 0, M)))
set_option maxRecDepth 100000 in
def wp_X3_endsInAnyOrder  (g : Gh) (M0 : Mem) (a0 : Nat) (p1 : Int32) (post : Int32 → Mem → Prop) : Prop :=
  okc (gB g) M0 a0 3 ∧ (∃ q20, mR M0 a0 4 = some q20 ∧ (wp_J7_fill_53178 g M0 q20 0 (fun M23 => ∃ q24, mR M23 a0 4 = some q24 ∧ (okc (gB g) M0 q24 14 ∧ (vp_in 0 (mN M0 q24) ∧ (∀ M28, M28 = uI M23 q24 (Int32.toNatClampNeg 0) (1 <<< (p1 &&& 31)) → ((∃ n : Nat, lfp (fun bk z => bd_X3_endsInAnyOrder_28  g M0 a0 p1 post  bk z.1 z.2.1 z.2.2) n (((1 <<< ((mI M0 a0 3) &&& 31)) - 1), 0, M28)))))))))
set_option maxHeartbeats 4000000 in
set_option maxRecDepth 100000 in
theorem lt_X3_endsInAnyOrder_107 {l : Launch} {g : Gh} {p : Program} {e : Env} {s : State} {m : MethodId} {args : Array Value} {below : List Frame} {meth : Method} {c : Code} {H : Heap} {locs : List Loc} {ls : Array Slot} {M0 M : Mem} {a0 : Nat} {p1 : Int32} {post : Int32 → Mem → Prop} {x2 : Int32}   (C : Cx g p s m args c cX3_endsInAnyOrder 5 RX3) (hr : meth.sig.returnType = (some .int)) (hlk : meth.locks = false) (hn : meth.name = "endsInAnyOrder") (h0 : okc (gB g) M0 a0 3)  (hq : lb_X3_endsInAnyOrder_107  g M0 a0 p1 post  x2 M) (hw : Wd g s M0 M H locs) (hl : lv_has ls 5 [(0, .ref a0), (1, .int p1), (2, .int x2)]) : W p l e (rmo 1 0 0) s m args below meth c H locs 0 0 (MQ below (Cq g M0 (pI post)) args s 0 0 (gA g)) (F0 m 107 ls []) := by
  have hx := C.1.1
  have hb := C.1.2.1
  unfold lb_X3_endsInAnyOrder_107 at hq
  refine lv_aload_n hx hb dX3_endsInAnyOrder_107 rfl (lv_at hl 0 rfl) ?_
  obtain ⟨q1, e2, hq⟩ := hq
  refine gfX3_27 C hw hw.2.2.1 h0 e2 dX3_endsInAnyOrder_108 ?_
  refine lv_iload_n hx hb dX3_endsInAnyOrder_111 rfl (lv_at hl 2 rfl) ?_
  obtain ⟨h3, hq⟩ := hq
  obtain ⟨h4, hq⟩ := hq
  refine q_iald C hw hw.2.2.1 h3 h4 dX3_endsInAnyOrder_112 ?_
  exact r_iret C hr hlk hw dX3_endsInAnyOrder_113 (Nat.le_refl _) (Nat.le_refl _) ⟨_, rfl, hq⟩
set_option maxHeartbeats 4000000 in
set_option maxRecDepth 100000 in
theorem lt_X3_endsInAnyOrder_98 {l : Launch} {g : Gh} {p : Program} {e : Env} {s : State} {m : MethodId} {args : Array Value} {below : List Frame} {meth : Method} {c : Code} {H : Heap} {locs : List Loc} {ls : Array Slot} {M0 M : Mem} {a0 : Nat} {p1 : Int32} {post : Int32 → Mem → Prop} {x2 : Int32} {x3 : Int32} {x4 : Int32}   (C : Cx g p s m args c cX3_endsInAnyOrder 5 RX3) (hr : meth.sig.returnType = (some .int)) (hlk : meth.locks = false) (hn : meth.name = "endsInAnyOrder") (h0 : okc (gB g) M0 a0 3) {bk28 : Int32 × Int32 × Mem → Prop} (hk28 : ∀ (x2 : Int32) (x3 : Int32) (M : Mem) (H : Heap) (locs : List Loc) (ls : Array Slot), bk28 (x2, x3, M) → Wd g s M0 M H locs → lv_has ls 5 [(0, .ref a0), (1, .int p1), (2, .int x2), (3, .int x3)] → W p l e (rmo 1 0 0) s m args below meth c H locs 0 0 (MQ below (Cq g M0 (pI post)) args s 0 0 (gA g)) (F0 m 28 ls [])) {bk36 : Int32 × Int32 × Int32 × Mem → Prop} (hk36 : ∀ (x2 : Int32) (x3 : Int32) (x4 : Int32) (M : Mem) (H : Heap) (locs : List Loc) (ls : Array Slot), bk36 (x2, x3, x4, M) → Wd g s M0 M H locs → lv_has ls 5 [(0, .ref a0), (1, .int p1), (2, .int x2), (3, .int x3), (4, .int x4)] → W p l e (rmo 1 0 0) s m args below meth c H locs 0 0 (MQ below (Cq g M0 (pI post)) args s 0 0 (gA g)) (F0 m 36 ls [])) (hq : lb_X3_endsInAnyOrder_98  g M0 a0 p1 post bk28 bk36 x2 x3 x4 M) (hw : Wd g s M0 M H locs) (hl : lv_has ls 5 [(0, .ref a0), (1, .int p1), (2, .int x2), (3, .int x3), (4, .int x4)]) : W p l e (rmo 1 0 0) s m args below meth c H locs 0 0 (MQ below (Cq g M0 (pI post)) args s 0 0 (gA g)) (F0 m 98 ls []) := by
  have hx := C.1.1
  have hb := C.1.2.1
  unfold lb_X3_endsInAnyOrder_98 at hq
  refine lv_goto (tgt := 36) hx hb dX3_endsInAnyOrder_98 (by decide) ?_
  exact hk36 _ _ _ _ _ _ _ hq hw (lv_sub hl [0, 1, 2, 3, 4] rfl)
set_option maxHeartbeats 4000000 in
set_option maxRecDepth 100000 in
theorem lp_X3_endsInAnyOrder_36 {l : Launch} {g : Gh} {p : Program} {e : Env} {s : State} {m : MethodId} {args : Array Value} {below : List Frame} {meth : Method} {c : Code} {M0 : Mem} {a0 : Nat} {p1 : Int32} {post : Int32 → Mem → Prop}  (C : Cx g p s m args c cX3_endsInAnyOrder 5 RX3) (hr : meth.sig.returnType = (some .int)) (hlk : meth.locks = false) (hn : meth.name = "endsInAnyOrder") (h0 : okc (gB g) M0 a0 3) {bk28 : Int32 × Int32 × Mem → Prop} (hk28 : ∀ (x2 : Int32) (x3 : Int32) (M : Mem) (H : Heap) (locs : List Loc) (ls : Array Slot), bk28 (x2, x3, M) → Wd g s M0 M H locs → lv_has ls 5 [(0, .ref a0), (1, .int p1), (2, .int x2), (3, .int x3)] → W p l e (rmo 1 0 0) s m args below meth c H locs 0 0 (MQ below (Cq g M0 (pI post)) args s 0 0 (gA g)) (F0 m 28 ls [])) : ∀ (nf : Nat) (x2 : Int32) (x3 : Int32) (x4 : Int32)  (M : Mem) (H : Heap) (locs : List Loc) (ls : Array Slot), lfp (fun bk z => bd_X3_endsInAnyOrder_36  g M0 a0 p1 post bk28 bk z.1 z.2.1 z.2.2.1 z.2.2.2) nf (x2, x3, x4, M) → Wd g s M0 M H locs → lv_has ls 5 [(0, .ref a0), (1, .int p1), (2, .int x2), (3, .int x3), (4, .int x4)] → W p l e (rmo 1 0 0) s m args below meth c H locs 0 0 (MQ below (Cq g M0 (pI post)) args s 0 0 (gA g)) (F0 m 36 ls []) := by
  have hx := C.1.1
  have hb := C.1.2.1
  intro nf
  induction nf with
  | zero => intro _ _ _ _ H locs ls hq; exact hq.elim
  | succ nf hk36 =>
    intro x2 x3 x4 M H locs ls hq hw hl
    replace hq : bd_X3_endsInAnyOrder_36  g M0 a0 p1 post bk28 (lfp (fun bk z => bd_X3_endsInAnyOrder_36  g M0 a0 p1 post bk28 bk z.1 z.2.1 z.2.2.1 z.2.2.2) nf) x2 x3 x4 M := hq
    unfold bd_X3_endsInAnyOrder_36 at hq
    refine lv_iload hx hb dX3_endsInAnyOrder_36 (lv_at hl 4 rfl) ?_
    refine lv_aload_n hx hb dX3_endsInAnyOrder_38 rfl (lv_at hl 0 rfl) ?_
    refine gfX3_23 C hw hw.2.2.1 h0 dX3_endsInAnyOrder_39 ?_
    refine lv_icmp_ge (tgt := 101) hx hb dX3_endsInAnyOrder_42 (by decide) (fun c5 => ?_) (fun c5 => ?_)
    · replace hq := hq.1 c5
      refine lv_iinc (v := (x3 + 1)) (lv' := [(3, .int (x3 + 1)), (0, .ref a0), (1, .int p1), (2, .int x2), (4, .int x4)]) hx hb dX3_endsInAnyOrder_101 hl (k := 3) rfl rfl (by decide) rfl (fun ls hl => ?_)
      refine lv_goto (tgt := 28) hx hb dX3_endsInAnyOrder_104 (by decide) ?_
      exact hk28 _ _ _ _ _ _ hq hw (lv_sub hl [1, 2, 3, 0] rfl)
    · replace hq := hq.2 c5
      refine lv_aload_n hx hb dX3_endsInAnyOrder_45 rfl (lv_at hl 0 rfl) ?_
      obtain ⟨q6, e7, hq⟩ := hq
      refine gfX3_27 C hw hw.2.2.1 h0 e7 dX3_endsInAnyOrder_46 ?_
      refine lv_iload_n hx hb dX3_endsInAnyOrder_49 rfl (lv_at hl 3 rfl) ?_
      obtain ⟨h8, hq⟩ := hq
      obtain ⟨h9, hq⟩ := hq
      refine q_iald C hw hw.2.2.1 h8 h9 dX3_endsInAnyOrder_50 ?_
      refine lv_if_eq (tgt := 101) hx hb dX3_endsInAnyOrder_51 (by decide) (fun c10 => ?_) (fun c10 => ?_)
      · replace hq := hq.1 c10
        refine lv_iinc (v := (x3 + 1)) (lv' := [(3, .int (x3 + 1)), (0, .ref a0), (1, .int p1), (2, .int x2), (4, .int x4)]) hx hb dX3_endsInAnyOrder_101 hl (k := 3) rfl rfl (by decide) rfl (fun ls hl => ?_)
        refine lv_goto (tgt := 28) hx hb dX3_endsInAnyOrder_104 (by decide) ?_
        exact hk28 _ _ _ _ _ _ hq hw (lv_sub hl [1, 2, 3, 0] rfl)
      · replace hq := hq.2 c10
        refine lv_iload_n hx hb dX3_endsInAnyOrder_54 rfl (lv_at hl 3 rfl) ?_
        refine lv_iload hx hb dX3_endsInAnyOrder_55 (lv_at hl 4 rfl) ?_
        refine lv_ishr hx hb dX3_endsInAnyOrder_57 ?_
        refine lv_iconst (v := 1) hx hb dX3_endsInAnyOrder_58 (by decide) ?_
        refine lv_iand hx hb dX3_endsInAnyOrder_59 ?_
        refine lv_if_ne (tgt := 95) hx hb dX3_endsInAnyOrder_60 (by decide) (fun c11 => ?_) (fun c11 => ?_)
        · replace hq := hq.2 c11
          refine lv_iinc (v := (x4 + 1)) (lv' := [(4, .int (x4 + 1)), (0, .ref a0), (1, .int p1), (2, .int x2), (3, .int x3)]) hx hb dX3_endsInAnyOrder_95 hl (k := 4) rfl rfl (by decide) rfl (fun ls hl => ?_)
          exact lt_X3_endsInAnyOrder_98  C hr hlk hn h0 hk28 hk36 hq hw (lv_sub hl [1, 2, 3, 4, 0] rfl)
        · replace hq := hq.1 c11
          refine lv_aload_n hx hb dX3_endsInAnyOrder_63 rfl (lv_at hl 0 rfl) ?_
          refine gfX3_27 C hw hw.2.2.1 h0 e7 dX3_endsInAnyOrder_64 ?_
          refine lv_iload_n hx hb dX3_endsInAnyOrder_67 rfl (lv_at hl 3 rfl) ?_
          refine lv_iconst (v := 1) hx hb dX3_endsInAnyOrder_68 (by decide) ?_
          refine lv_iload hx hb dX3_endsInAnyOrder_69 (lv_at hl 4 rfl) ?_
          refine lv_ishl hx hb dX3_endsInAnyOrder_71 ?_
          refine lv_ior hx hb dX3_endsInAnyOrder_72 ?_
          refine lv_dup2_11 hx hb dX3_endsInAnyOrder_73 rfl rfl ?_
          obtain ⟨h12, hq⟩ := hq
          refine q_iald C hw hw.2.2.1 h8 h12 dX3_endsInAnyOrder_74 ?_
          refine lv_aload_n hx hb dX3_endsInAnyOrder_75 rfl (lv_at hl 0 rfl) ?_
          refine gfX3_27 C hw hw.2.2.1 h0 e7 dX3_endsInAnyOrder_76 ?_
          refine lv_iload_n hx hb dX3_endsInAnyOrder_79 rfl (lv_at hl 3 rfl) ?_
          refine q_iald C hw hw.2.2.1 h8 h9 dX3_endsInAnyOrder_80 ?_
          refine lv_aload_n hx hb dX3_endsInAnyOrder_81 rfl (lv_at hl 0 rfl) ?_
          obtain ⟨q13, e14, hq⟩ := hq
          refine gfX3_20 C hw hw.2.2.1 h0 e14 dX3_endsInAnyOrder_82 ?_
          refine lv_iload hx hb dX3_endsInAnyOrder_85 (lv_at hl 4 rfl) ?_
          refine lv_bipush (v := 21) hx hb dX3_endsInAnyOrder_87 (by decide) ?_
          refine lv_imul hx hb dX3_endsInAnyOrder_89 ?_
          refine r_callS (index := 33) (n := 3) (d2 := 0) (mc := 0) (ms := 0) (As := [.int (mI M q6 (Int32.toNatClampNeg x3)), .ref q13, .int (x4 * 21)]) (rest := [.int (mI M q6 (Int32.toNatClampNeg (x3 ||| (1 <<< (x4 &&& 31))))), .int (x3 ||| (1 <<< (x4 &&& 31))), .ref q6]) C hw (ct_X3_endsBehind hq) ksX3_33 ⟨by decide, by decide⟩ ⟨by decide, by decide⟩ rfl hl.1 rfl (Nat.le_of_ble_eq_true rfl) dX3_endsInAnyOrder_90 (fun r M16 H locs hp hle hw => ?_)
          obtain ⟨v15, rfl, hq⟩ := hp
          refine W.eq (g2 := F0 m 93 ls [.int v15, .int (mI M q6 (Int32.toNatClampNeg (x3 ||| (1 <<< (x4 &&& 31))))), .int (x3 ||| (1 <<< (x4 &&& 31))), .ref q6]) rfl ?_
          refine lv_ior hx hb dX3_endsInAnyOrder_93 ?_
          refine q_iast C hw hw.2.2.1 h8 h12 dX3_endsInAnyOrder_94 (fun H locs hw => ?_)
          generalize e18 : uI M16 q6 (Int32.toNatClampNeg (x3 ||| (1 <<< (x4 &&& 31)))) ((mI M q6 (Int32.toNatClampNeg (x3 ||| (1 <<< (x4 &&& 31))))) ||| v15) = M17 at hw
          replace hq := hq M17 e18.symm
          refine lv_iinc (v := (x4 + 1)) (lv' := [(4, .int (x4 + 1)), (0, .ref a0), (1, .int p1), (2, .int x2), (3, .int x3)]) hx hb dX3_endsInAnyOrder_95 hl (k := 4) rfl rfl (by decide) rfl (fun ls hl => ?_)
          exact lt_X3_endsInAnyOrder_98  C hr hlk hn h0 hk28 hk36 hq hw (lv_sub hl [1, 2, 3, 4, 0] rfl)
set_option maxHeartbeats 4000000 in
set_option maxRecDepth 100000 in
theorem lp_X3_endsInAnyOrder_28 {l : Launch} {g : Gh} {p : Program} {e : Env} {s : State} {m : MethodId} {args : Array Value} {below : List Frame} {meth : Method} {c : Code} {M0 : Mem} {a0 : Nat} {p1 : Int32} {post : Int32 → Mem → Prop}  (C : Cx g p s m args c cX3_endsInAnyOrder 5 RX3) (hr : meth.sig.returnType = (some .int)) (hlk : meth.locks = false) (hn : meth.name = "endsInAnyOrder") (h0 : okc (gB g) M0 a0 3)  : ∀ (nf : Nat) (x2 : Int32) (x3 : Int32)  (M : Mem) (H : Heap) (locs : List Loc) (ls : Array Slot), lfp (fun bk z => bd_X3_endsInAnyOrder_28  g M0 a0 p1 post  bk z.1 z.2.1 z.2.2) nf (x2, x3, M) → Wd g s M0 M H locs → lv_has ls 5 [(0, .ref a0), (1, .int p1), (2, .int x2), (3, .int x3)] → W p l e (rmo 1 0 0) s m args below meth c H locs 0 0 (MQ below (Cq g M0 (pI post)) args s 0 0 (gA g)) (F0 m 28 ls []) := by
  have hx := C.1.1
  have hb := C.1.2.1
  intro nf
  induction nf with
  | zero => intro _ _ _ H locs ls hq; exact hq.elim
  | succ nf hk28 =>
    intro x2 x3 M H locs ls hq hw hl
    replace hq : bd_X3_endsInAnyOrder_28  g M0 a0 p1 post  (lfp (fun bk z => bd_X3_endsInAnyOrder_28  g M0 a0 p1 post  bk z.1 z.2.1 z.2.2) nf) x2 x3 M := hq
    unfold bd_X3_endsInAnyOrder_28 at hq
    refine lv_iload_n hx hb dX3_endsInAnyOrder_28 rfl (lv_at hl 3 rfl) ?_
    refine lv_iload_n hx hb dX3_endsInAnyOrder_29 rfl (lv_at hl 2 rfl) ?_
    refine lv_icmp_ge (tgt := 107) hx hb dX3_endsInAnyOrder_30 (by decide) (fun c19 => ?_) (fun c19 => ?_)
    · replace hq := hq.1 c19
      exact lt_X3_endsInAnyOrder_107  C hr hlk hn h0  hq hw (lv_sub hl [0, 1, 2] rfl)
    · replace hq := hq.2 c19
      refine lv_iconst (v := 0) hx hb dX3_endsInAnyOrder_33 (by decide) ?_
      refine lv_istore (lv' := [(4, .int 0), (0, .ref a0), (1, .int p1), (2, .int x2), (3, .int x3)]) hx hb dX3_endsInAnyOrder_34 hl (by decide) rfl (fun ls hl => ?_)
      obtain ⟨nf, hq⟩ := hq
      exact lp_X3_endsInAnyOrder_36  C hr hlk hn h0 hk28 nf _ _ _ _ _ _ _ hq hw (lv_sub hl [1, 2, 3, 4, 0] rfl)
set_option maxHeartbeats 4000000 in
set_option maxRecDepth 100000 in
theorem ct_X3_endsInAnyOrder {l : Launch} {g : Gh} {M0 : Mem} {a0 : Nat} {p1 : Int32} {post : Int32 → Mem → Prop}  (hq : wp_X3_endsInAnyOrder  g M0 a0 p1 post) : Ct l g yX3_endsInAnyOrder cX3_endsInAnyOrder 5 (some .int) 1 0 0 [.ref a0, .int p1] M0 (pI post) := by
  unfold wp_X3_endsInAnyOrder at hq
  obtain ⟨h0, hq⟩ := hq
  refine Ct.of (by decide) (Nat.le_of_ble_eq_true rfl) ?_
  intro p e s m below meth c ls C hr hlk hn hl hw
  have hx := C.1.1
  have hb := C.1.2.1
  have hl : lv_has ls 5 [(0, .ref a0), (1, .int p1)] := hl
  refine lv_iconst (v := 1) hx hb dX3_endsInAnyOrder_0 (by decide) ?_
  refine lv_aload_n hx hb dX3_endsInAnyOrder_1 rfl (lv_at hl 0 rfl) ?_
  refine gfX3_23 C hw hw.2.2.1 h0 dX3_endsInAnyOrder_2 ?_
  refine lv_ishl hx hb dX3_endsInAnyOrder_5 ?_
  refine lv_iconst (v := 1) hx hb dX3_endsInAnyOrder_6 (by decide) ?_
  refine lv_isub hx hb dX3_endsInAnyOrder_7 ?_
  refine lv_istore_n (lv' := [(2, .int ((1 <<< ((mI M0 a0 3) &&& 31)) - 1)), (0, .ref a0), (1, .int p1)]) hx hb dX3_endsInAnyOrder_8 rfl hl (by decide) rfl (fun ls hl => ?_)
  refine lv_aload_n hx hb dX3_endsInAnyOrder_9 rfl (lv_at hl 1 rfl) ?_
  obtain ⟨q20, e21, hq⟩ := hq
  refine gfX3_27 C hw hw.2.2.1 h0 e21 dX3_endsInAnyOrder_10 ?_
  refine lv_iconst (v := 0) hx hb dX3_endsInAnyOrder_13 (by decide) ?_
  refine r_callS (index := 43) (n := 2) (d2 := 0) (mc := 0) (ms := 0) (As := [.ref q20, .int 0]) (rest := []) C hw (ct_J7_fill_53178 hq) ksX3_43 ⟨by decide, by decide⟩ ⟨by decide, by decide⟩ rfl hl.1 rfl (Nat.le_of_ble_eq_true rfl) dX3_endsInAnyOrder_14 (fun r M23 H locs hp hle hw => ?_)
  obtain ⟨rfl, hq⟩ := hp
  refine W.eq (g2 := F0 m 17 ls []) rfl ?_
  refine lv_aload_n hx hb dX3_endsInAnyOrder_17 rfl (lv_at hl 1 rfl) ?_
  obtain ⟨q24, e25, hq⟩ := hq
  refine gfX3_27 C hw hw.2.2.1 h0 e25 dX3_endsInAnyOrder_18 ?_
  refine lv_iconst (v := 0) hx hb dX3_endsInAnyOrder_21 (by decide) ?_
  refine lv_iconst (v := 1) hx hb dX3_endsInAnyOrder_22 (by decide) ?_
  refine lv_iload_n hx hb dX3_endsInAnyOrder_23 rfl (lv_at hl 2 rfl) ?_
  refine lv_ishl hx hb dX3_endsInAnyOrder_24 ?_
  obtain ⟨h26, hq⟩ := hq
  obtain ⟨h27, hq⟩ := hq
  refine q_iast C hw hw.2.2.1 h26 h27 dX3_endsInAnyOrder_25 (fun H locs hw => ?_)
  generalize e29 : uI M23 q24 (Int32.toNatClampNeg 0) (1 <<< (p1 &&& 31)) = M28 at hw
  replace hq := hq M28 e29.symm
  have e25 : mR M28 a0 4 = some q24 := by rw [← e29, mR_uI]; exact e25
  refine lv_iconst (v := 0) hx hb dX3_endsInAnyOrder_26 (by decide) ?_
  refine lv_istore_n (lv' := [(3, .int 0), (2, .int ((1 <<< ((mI M0 a0 3) &&& 31)) - 1)), (0, .ref a0), (1, .int p1)]) hx hb dX3_endsInAnyOrder_27 rfl hl (by decide) rfl (fun ls hl => ?_)
  obtain ⟨nf, hq⟩ := hq
  exact lp_X3_endsInAnyOrder_28  C hr hlk hn h0  nf _ _ _ _ _ _ hq hw (lv_sub hl [2, 3, 1, 0] rfl)

set_option maxRecDepth 100000 in
def wp_X4_init  (g : Gh) (M0 : Mem) (a0 : Nat) (post : Mem → Prop) : Prop :=
  okc (gB g) M0 a0 4 ∧ (∀ q2 M3, q2 = mT M0 → M3 = nw M0 14 6 → (∀ M7, M7 = uR M3 a0 2 (some q2) → (∀ q10 M11, q10 = mT M7 → M11 = nw M7 17 6 → (∀ M15, M15 = uR M11 a0 3 (some q10) → (∀ q18 M19, q18 = mT M15 → M19 = nw M15 14 6 → (∀ M23, M23 = uR M19 a0 4 (some q18) → (∀ q26 M27, q26 = mT M23 → M27 = nw M23 14 6 → (∀ M31, M31 = uR M27 a0 5 (some q26) → (∀ q34 M35, q34 = mT M31 → M35 = nw M31 14 6 → (∀ M39, M39 = uR M35 a0 6 (some q34) → (post M39)))))))))))
set_option maxHeartbeats 4000000 in
set_option maxRecDepth 100000 in
theorem ct_X4_init {l : Launch} {g : Gh} {M0 : Mem} {a0 : Nat} {post : Mem → Prop}  (hq : wp_X4_init  g M0 a0 post) : Ct l g yX4_init cX4_init 1 none 1 5 30 [.ref a0] M0 (pV post) := by
  unfold wp_X4_init at hq
  obtain ⟨h0, hq⟩ := hq
  have h00 := h0
  refine Ct.of (by decide) (Nat.le_of_ble_eq_true rfl) ?_
  intro p e s m below meth c ls C hr hlk hn hl hw
  have hx := C.1.1
  have hb := C.1.2.1
  have hl : lv_has ls 1 [(0, .ref a0)] := hl
  refine lv_aload_n hx hb dX4_init_0 rfl (lv_at hl 0 rfl) ?_
  refine W.objInit hx hb C.1.2.2.2.1 (C.1.2.2.2.2 _ w_167) (C.1.2.2.2.2 _ w_35) (C.1.2.2.2.2 _ w_objInit) rfl (by rw [C.1.2.2.1]; exact hl.1) rfl dX4_init_1 (Nat.le_of_ble_eq_true rfl) (Nat.le_of_ble_eq_true rfl) ?_
  refine W.eq (g2 := F0 m 4 ls []) rfl ?_
  refine lv_aload_n hx hb dX4_init_4 rfl (lv_at hl 0 rfl) ?_
  refine lv_bipush (v := 6) hx hb dX4_init_5 (by decide) ?_
  have hB := hw.B C.2.2.2.2.2
  have h1 : 0 + 1 ≤ 5 ∧ 0 + 6 ≤ 30 := by decide
  refine q_newa_14 (N' := 6) C hw (by decide) (by decide) (by decide) h1.1 h1.2 dX4_init_7 (fun H hw => ?_)
  have h6 := okc_nw (gB g) M0 14 6 hB
  have h0 := h0.up (mle_nw M0 14 6)
  generalize e4 : nw M0 14 6 = M3 at hw h6 h0
  generalize e5 : mT M0 = q2 at h6 ⊢
  replace hq := hq q2 M3 e5.symm e4.symm
  refine pfX4_11 (v := (some q2)) C hw (mle_rf _) h0 hn dX4_init_9 (fun H locs hw => ?_)
  generalize e8 : uR M3 a0 2 (some q2) = M7 at hw
  replace hq := hq M7 e8.symm
  have h0 : okc (gB g) M7 a0 4 := by rw [← e8]; exact okc_uR h0
  refine lv_aload_n hx hb dX4_init_12 rfl (lv_at hl 0 rfl) ?_
  refine lv_bipush (v := 6) hx hb dX4_init_13 (by decide) ?_
  have hB := hw.B C.2.2.2.2.2
  have h9 : 1 + 1 ≤ 5 ∧ 6 + 6 ≤ 30 := by decide
  refine q_newa_17 (N' := 6) C hw (by decide) (by decide) (by decide) h9.1 h9.2 dX4_init_15 (fun H hw => ?_)
  have h14 := okc_nw (gB g) M7 17 6 hB
  have h0 := h0.up (mle_nw M7 17 6)
  generalize e12 : nw M7 17 6 = M11 at hw h14 h0
  generalize e13 : mT M7 = q10 at h14 ⊢
  replace hq := hq q10 M11 e13.symm e12.symm
  refine pfX4_15 (v := (some q10)) C hw (mle_rf _) h0 hn dX4_init_17 (fun H locs hw => ?_)
  generalize e16 : uR M11 a0 3 (some q10) = M15 at hw
  replace hq := hq M15 e16.symm
  have h0 : okc (gB g) M15 a0 4 := by rw [← e16]; exact okc_uR h0
  refine lv_aload_n hx hb dX4_init_20 rfl (lv_at hl 0 rfl) ?_
  refine lv_bipush (v := 6) hx hb dX4_init_21 (by decide) ?_
  have hB := hw.B C.2.2.2.2.2
  have h17 : 2 + 1 ≤ 5 ∧ 12 + 6 ≤ 30 := by decide
  refine q_newa_14 (N' := 6) C hw (by decide) (by decide) (by decide) h17.1 h17.2 dX4_init_23 (fun H hw => ?_)
  have h22 := okc_nw (gB g) M15 14 6 hB
  have h0 := h0.up (mle_nw M15 14 6)
  generalize e20 : nw M15 14 6 = M19 at hw h22 h0
  generalize e21 : mT M15 = q18 at h22 ⊢
  replace hq := hq q18 M19 e21.symm e20.symm
  refine pfX4_19 (v := (some q18)) C hw (mle_rf _) h0 hn dX4_init_25 (fun H locs hw => ?_)
  generalize e24 : uR M19 a0 4 (some q18) = M23 at hw
  replace hq := hq M23 e24.symm
  have h0 : okc (gB g) M23 a0 4 := by rw [← e24]; exact okc_uR h0
  refine lv_aload_n hx hb dX4_init_28 rfl (lv_at hl 0 rfl) ?_
  refine lv_bipush (v := 6) hx hb dX4_init_29 (by decide) ?_
  have hB := hw.B C.2.2.2.2.2
  have h25 : 3 + 1 ≤ 5 ∧ 18 + 6 ≤ 30 := by decide
  refine q_newa_14 (N' := 6) C hw (by decide) (by decide) (by decide) h25.1 h25.2 dX4_init_31 (fun H hw => ?_)
  have h30 := okc_nw (gB g) M23 14 6 hB
  have h0 := h0.up (mle_nw M23 14 6)
  generalize e28 : nw M23 14 6 = M27 at hw h30 h0
  generalize e29 : mT M23 = q26 at h30 ⊢
  replace hq := hq q26 M27 e29.symm e28.symm
  refine pfX4_22 (v := (some q26)) C hw (mle_rf _) h0 hn dX4_init_33 (fun H locs hw => ?_)
  generalize e32 : uR M27 a0 5 (some q26) = M31 at hw
  replace hq := hq M31 e32.symm
  have h0 : okc (gB g) M31 a0 4 := by rw [← e32]; exact okc_uR h0
  refine lv_aload_n hx hb dX4_init_36 rfl (lv_at hl 0 rfl) ?_
  refine lv_bipush (v := 6) hx hb dX4_init_37 (by decide) ?_
  have hB := hw.B C.2.2.2.2.2
  have h33 : 4 + 1 ≤ 5 ∧ 24 + 6 ≤ 30 := by decide
  refine q_newa_14 (N' := 6) C hw (by decide) (by decide) (by decide) h33.1 h33.2 dX4_init_39 (fun H hw => ?_)
  have h38 := okc_nw (gB g) M31 14 6 hB
  have h0 := h0.up (mle_nw M31 14 6)
  generalize e36 : nw M31 14 6 = M35 at hw h38 h0
  generalize e37 : mT M31 = q34 at h38 ⊢
  replace hq := hq q34 M35 e37.symm e36.symm
  refine pfX4_25 (v := (some q34)) C hw (mle_rf _) h0 hn dX4_init_41 (fun H locs hw => ?_)
  generalize e40 : uR M35 a0 6 (some q34) = M39 at hw
  replace hq := hq M39 e40.symm
  have h0 : okc (gB g) M39 a0 4 := by rw [← e40]; exact okc_uR h0
  have h41 : 5 ≤ 5 ∧ 30 ≤ 30 := by decide
  exact r_vret C hr hlk hw dX4_init_44 h41.1 h41.2 ⟨rfl, hq⟩

set_option maxRecDepth 100000 in
def wp_J3_checkIndex_8e157  (g : Gh) (M0 : Mem) (p0 : Int32) (p1 : Int32) (r2 : Option Nat) (post : Int32 → Mem → Prop) : Prop :=
  ((p0 < 0) → False) ∧ (¬ (p0 < 0) → ((p0 < p1) → post p0 M0) ∧ (¬ (p0 < p1) → False))
set_option maxHeartbeats 4000000 in
set_option maxRecDepth 100000 in
theorem ct_J3_checkIndex_8e157 {l : Launch} {g : Gh} {M0 : Mem} {p0 : Int32} {p1 : Int32} {r2 : Option Nat} {post : Int32 → Mem → Prop}  (hq : wp_J3_checkIndex_8e157  g M0 p0 p1 r2 post) : Ct l g yJ3_checkIndex_8e157 cJ3_checkIndex_8e157 3 (some .int) 0 0 0 [.int p0, .int p1, va_rf r2] M0 (pI post) := by
  unfold wp_J3_checkIndex_8e157 at hq
  refine Ct.of (by decide) (by cases r2 <;> exact Nat.le_of_ble_eq_true rfl) ?_
  intro p e s m below meth c ls C hr hlk hn hl hw
  have hx := C.1.1
  have hb := C.1.2.1
  have hl : lv_has ls 3 [(0, .int p0), (1, .int p1), (2, va_rf r2)] := hl
  refine lv_iload_n hx hb dJ3_checkIndex_8e157_0 rfl (lv_at hl 0 rfl) ?_
  refine lv_if_lt (tgt := 9) hx hb dJ3_checkIndex_8e157_1 (by decide) (fun c1 => ?_) (fun c1 => ?_)
  · replace hq := hq.1 c1
    refine r_aload_n hx hb dJ3_checkIndex_8e157_9 rfl (lv_at hl 2 rfl) ?_
    refine lv_iload_n hx hb dJ3_checkIndex_8e157_10 rfl (lv_at hl 0 rfl) ?_
    refine lv_iload_n hx hb dJ3_checkIndex_8e157_11 rfl (lv_at hl 1 rfl) ?_
    exact hq.elim
  · replace hq := hq.2 c1
    refine lv_iload_n hx hb dJ3_checkIndex_8e157_4 rfl (lv_at hl 0 rfl) ?_
    refine lv_iload_n hx hb dJ3_checkIndex_8e157_5 rfl (lv_at hl 1 rfl) ?_
    refine lv_icmp_lt (tgt := 16) hx hb dJ3_checkIndex_8e157_6 (by decide) (fun c2 => ?_) (fun c2 => ?_)
    · replace hq := hq.1 c2
      refine lv_iload_n hx hb dJ3_checkIndex_8e157_16 rfl (lv_at hl 0 rfl) ?_
      exact r_iret C hr hlk hw dJ3_checkIndex_8e157_17 (Nat.le_refl _) (Nat.le_refl _) ⟨_, rfl, hq⟩
    · replace hq := hq.2 c2
      refine r_aload_n hx hb dJ3_checkIndex_8e157_9 rfl (lv_at hl 2 rfl) ?_
      refine lv_iload_n hx hb dJ3_checkIndex_8e157_10 rfl (lv_at hl 0 rfl) ?_
      refine lv_iload_n hx hb dJ3_checkIndex_8e157_11 rfl (lv_at hl 1 rfl) ?_
      exact hq.elim
