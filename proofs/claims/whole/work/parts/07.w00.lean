def wp_X0_tell (g : Gh) (M0 : Mem) (a0 : Nat) (p1 : Int32) (post : Int32 → Mem → Prop) : Prop :=
  okc (gB g) M0 a0 0 ∧ (((p1 = 0) → post (mI M0 a0 0) M0) ∧ ((p1 = 1) → post (mI M0 a0 1) M0) ∧ ((p1 = 2) → post (mI M0 a0 2) M0) ∧ ((p1 = 3) → (((mI M0 a0 3) = 0) → post 0 M0) ∧ (¬ ((mI M0 a0 3) = 0) → post 1 M0)) ∧ ((p1 = 4) → (((mI M0 a0 4) = 0) → post 0 M0) ∧ (¬ ((mI M0 a0 4) = 0) → post 1 M0)) ∧ ((p1 = 5) → post (mI M0 a0 5) M0) ∧ ((¬ (p1 = 0) ∧ ¬ (p1 = 1) ∧ ¬ (p1 = 2) ∧ ¬ (p1 = 3) ∧ ¬ (p1 = 4) ∧ ¬ (p1 = 5)) → post (-1) M0))
set_option maxHeartbeats 4000000 in
set_option maxRecDepth 100000 in
theorem ct_X0_tell {l : Launch} {g : Gh} {M0 : Mem} {a0 : Nat} {p1 : Int32} {post : Int32 → Mem → Prop} (hq : wp_X0_tell g M0 a0 p1 post) : Ct l g yX0_tell cX0_tell 2 (some .int) 0 0 0 [.ref a0, .int p1] M0 (pI post) := by
  unfold wp_X0_tell at hq
  obtain ⟨h0, hq⟩ := hq
  refine Ct.of (by decide) (Nat.le_of_ble_eq_true rfl) ?_
  intro p e s m below meth c ls C hr hlk hn hl hw
  have hx := C.1.1
  have hb := C.1.2.1
  have hl : lv_has ls 2 [(0, .ref a0), (1, .int p1)] := hl
  refine lv_iload_n hx hb dX0_tell_0 rfl (lv_at hl 1 rfl) ?_
  by_cases c4 : p1 = 0
  · refine r_table (v := 0) (off := 39) (tgt := 40) hx hb dX0_tell_1 c4 (by decide) (by decide) rfl (by decide) ?_
    replace hq := hq.1 c4
    refine lv_aload_n hx hb dX0_tell_40 rfl (lv_at hl 0 rfl) ?_
    refine gfX0_9 C hw hw.2.2.1 h0 dX0_tell_41 ?_
    exact r_iret C hr hlk hw dX0_tell_44 (by decide) (by decide) ⟨_, rfl, hq⟩
  by_cases c5 : p1 = 1
  · refine r_table (v := 1) (off := 44) (tgt := 45) hx hb dX0_tell_1 c5 (by decide) (by decide) rfl (by decide) ?_
    replace hq := hq.2.1 c5
    refine lv_aload_n hx hb dX0_tell_45 rfl (lv_at hl 0 rfl) ?_
    refine gfX0_15 C hw hw.2.2.1 h0 dX0_tell_46 ?_
    exact r_iret C hr hlk hw dX0_tell_49 (by decide) (by decide) ⟨_, rfl, hq⟩
  by_cases c6 : p1 = 2
  · refine r_table (v := 2) (off := 49) (tgt := 50) hx hb dX0_tell_1 c6 (by decide) (by decide) rfl (by decide) ?_
    replace hq := hq.2.2.1 c6
    refine lv_aload_n hx hb dX0_tell_50 rfl (lv_at hl 0 rfl) ?_
    refine gfX0_18 C hw hw.2.2.1 h0 dX0_tell_51 ?_
    exact r_iret C hr hlk hw dX0_tell_54 (by decide) (by decide) ⟨_, rfl, hq⟩
  by_cases c7 : p1 = 3
  · refine r_table (v := 3) (off := 54) (tgt := 55) hx hb dX0_tell_1 c7 (by decide) (by decide) rfl (by decide) ?_
    replace hq := hq.2.2.2.1 c7
    refine lv_aload_n hx hb dX0_tell_55 rfl (lv_at hl 0 rfl) ?_
    refine gfX0_21 C hw hw.2.2.1 h0 dX0_tell_56 ?_
    refine lv_if_eq (tgt := 66) hx hb dX0_tell_59 (by decide) (fun c2 => ?_) (fun c2 => ?_)
    · replace hq := hq.1 c2
      refine lv_iconst (v := 0) hx hb dX0_tell_66 (by decide) ?_
      exact r_iret C hr hlk hw dX0_tell_67 (by decide) (by decide) ⟨_, rfl, hq⟩
    · replace hq := hq.2 c2
      refine lv_iconst (v := 1) hx hb dX0_tell_62 (by decide) ?_
      refine lv_goto (tgt := 67) hx hb dX0_tell_63 (by decide) ?_
      exact r_iret C hr hlk hw dX0_tell_67 (by decide) (by decide) ⟨_, rfl, hq⟩
  by_cases c8 : p1 = 4
  · refine r_table (v := 4) (off := 67) (tgt := 68) hx hb dX0_tell_1 c8 (by decide) (by decide) rfl (by decide) ?_
    replace hq := hq.2.2.2.2.1 c8
    refine lv_aload_n hx hb dX0_tell_68 rfl (lv_at hl 0 rfl) ?_
    refine gfX0_25 C hw hw.2.2.1 h0 dX0_tell_69 ?_
    refine lv_if_eq (tgt := 79) hx hb dX0_tell_72 (by decide) (fun c3 => ?_) (fun c3 => ?_)
    · replace hq := hq.1 c3
      refine lv_iconst (v := 0) hx hb dX0_tell_79 (by decide) ?_
      exact r_iret C hr hlk hw dX0_tell_80 (by decide) (by decide) ⟨_, rfl, hq⟩
    · replace hq := hq.2 c3
      refine lv_iconst (v := 1) hx hb dX0_tell_75 (by decide) ?_
      refine lv_goto (tgt := 80) hx hb dX0_tell_76 (by decide) ?_
      exact r_iret C hr hlk hw dX0_tell_80 (by decide) (by decide) ⟨_, rfl, hq⟩
  by_cases c9 : p1 = 5
  · refine r_table (v := 5) (off := 80) (tgt := 81) hx hb dX0_tell_1 c9 (by decide) (by decide) rfl (by decide) ?_
    replace hq := hq.2.2.2.2.2.1 c9
    refine lv_aload_n hx hb dX0_tell_81 rfl (lv_at hl 0 rfl) ?_
    refine gfX0_28 C hw hw.2.2.1 h0 dX0_tell_82 ?_
    exact r_iret C hr hlk hw dX0_tell_85 (by decide) (by decide) ⟨_, rfl, hq⟩
  refine r_tableOut (tgt := 86) (k := 5) hx hb dX0_tell_1 (by decide) (fun j hj => by rcases (show j = 0 ∨ j = 1 ∨ j = 2 ∨ j = 3 ∨ j = 4 ∨ j = 5 by omega) with rfl | rfl | rfl | rfl | rfl | rfl <;> assumption) (by decide) ?_
  replace hq := hq.2.2.2.2.2.2 ⟨c4, c5, c6, c7, c8, c9⟩
  refine lv_iconst (v := (-1)) hx hb dX0_tell_86 (by decide) ?_
  exact r_iret C hr hlk hw dX0_tell_87 (by decide) (by decide) ⟨_, rfl, hq⟩

def wp_X1_size (g : Gh) (M0 : Mem) (a0 : Nat) (post : Int32 → Mem → Prop) : Prop :=
  okc (gB g) M0 a0 1 ∧ (∃ q1, mR M0 a0 0 = some q1 ∧ (okc (gB g) M0 q1 13 ∧ (∃ q4, mR M0 a0 1 = some q4 ∧ (okc (gB g) M0 q4 15 ∧ (∃ q7, mR M0 a0 2 = some q7 ∧ (okc (gB g) M0 q7 15 ∧ (post (if (if (nI (mN M0 q7)) < (nI (mN M0 q4)) then (nI (mN M0 q7)) else (nI (mN M0 q4))) < (nI (mN M0 q1)) then (if (nI (mN M0 q7)) < (nI (mN M0 q4)) then (nI (mN M0 q7)) else (nI (mN M0 q4))) else (nI (mN M0 q1))) M0)))))))
set_option maxHeartbeats 4000000 in
set_option maxRecDepth 100000 in
theorem ct_X1_size {l : Launch} {g : Gh} {M0 : Mem} {a0 : Nat} {post : Int32 → Mem → Prop} (hq : wp_X1_size g M0 a0 post) : Ct l g yX1_size cX1_size 1 (some .int) 1 0 0 [.ref a0] M0 (pI post) := by
  unfold wp_X1_size at hq
  obtain ⟨h0, hq⟩ := hq
  refine Ct.of (by decide) (Nat.le_of_ble_eq_true rfl) ?_
  intro p e s m below meth c ls C hr hlk hn hl hw
  have hx := C.1.1
  have hb := C.1.2.1
  have hl : lv_has ls 1 [(0, .ref a0)] := hl
  refine lv_aload_n hx hb dX1_size_0 rfl (lv_at hl 0 rfl) ?_
  obtain ⟨q1, e2, hq⟩ := hq
  refine gfX1_7 C hw hw.2.2.1 h0 e2 dX1_size_1 ?_
  obtain ⟨h3, hq⟩ := hq
  refine q_alen C hw hw.2.2.1 h3 (by decide) (by decide) rfl dX1_size_4 ?_
  refine lv_aload_n hx hb dX1_size_5 rfl (lv_at hl 0 rfl) ?_
  obtain ⟨q4, e5, hq⟩ := hq
  refine gfX1_13 C hw hw.2.2.1 h0 e5 dX1_size_6 ?_
  obtain ⟨h6, hq⟩ := hq
  refine q_alen C hw hw.2.2.1 h6 (by decide) (by decide) rfl dX1_size_9 ?_
  refine lv_aload_n hx hb dX1_size_10 rfl (lv_at hl 0 rfl) ?_
  obtain ⟨q7, e8, hq⟩ := hq
  refine gfX1_17 C hw hw.2.2.1 h0 e8 dX1_size_11 ?_
  obtain ⟨h9, hq⟩ := hq
  refine q_alen C hw hw.2.2.1 h9 (by decide) (by decide) rfl dX1_size_14 ?_
  refine va_mmin hx hb (by rw [C.1.2.2.1]; exact hl.1.symm) C.1.2.2.2.1 (C.1.2.2.2.2 _ w_676) (C.1.2.2.2.2 _ w_487) (C.1.2.2.2.2 _ w_14) (C.1.2.2.2.2 _ w_488) (by decide) (Nat.le_of_ble_eq_true rfl) (by decide) (by decide) dX1_size_15 ?_
  refine va_mmin hx hb (by rw [C.1.2.2.1]; exact hl.1.symm) C.1.2.2.2.1 (C.1.2.2.2.2 _ w_676) (C.1.2.2.2.2 _ w_487) (C.1.2.2.2.2 _ w_14) (C.1.2.2.2.2 _ w_488) (by decide) (Nat.le_of_ble_eq_true rfl) (by decide) (by decide) dX1_size_18 ?_
  exact r_iret C hr hlk hw dX1_size_21 (by decide) (by decide) ⟨_, rfl, hq⟩

def wp_X10_rewind (g : Gh) (M0 : Mem) (a0 : Nat) (post : Mem → Prop) : Prop :=
  okc (gB g) M0 a0 10 ∧ (∀ M1, M1 = uI M0 a0 2 3 → (∀ M3, M3 = uI M1 a0 3 0 → (∀ M5, M5 = uJ M3 a0 4 0 → (∀ M7, M7 = uI M5 a0 5 0 → (post M7)))))
set_option maxHeartbeats 4000000 in
set_option maxRecDepth 100000 in
theorem ct_X10_rewind {l : Launch} {g : Gh} {M0 : Mem} {a0 : Nat} {post : Mem → Prop} (hq : wp_X10_rewind g M0 a0 post) : Ct l g yX10_rewind cX10_rewind 1 none 0 0 0 [.ref a0] M0 (pV post) := by
  unfold wp_X10_rewind at hq
  obtain ⟨h0, hq⟩ := hq
  refine Ct.of (by decide) (Nat.le_of_ble_eq_true rfl) ?_
  intro p e s m below meth c ls C hr hlk hn hl hw
  have hx := C.1.1
  have hb := C.1.2.1
  have hl : lv_has ls 1 [(0, .ref a0)] := hl
  refine lv_aload_n hx hb dX10_rewind_0 rfl (lv_at hl 0 rfl) ?_
  refine lv_iconst (v := 3) hx hb dX10_rewind_1 (by decide) ?_
  refine pfX10_19 C hw hw.2.2.1 h0 dX10_rewind_2 (fun H locs hw => ?_)
  generalize e2 : uI M0 a0 2 3 = M1 at hw
  replace hq := hq M1 e2.symm
  refine lv_aload_n hx hb dX10_rewind_5 rfl (lv_at hl 0 rfl) ?_
  refine lv_iconst (v := 0) hx hb dX10_rewind_6 (by decide) ?_
  refine pfX10_22 C hw hw.2.2.1 h0 dX10_rewind_7 (fun H locs hw => ?_)
  generalize e4 : uI M1 a0 3 0 = M3 at hw
  replace hq := hq M3 e4.symm
  refine lv_aload_n hx hb dX10_rewind_10 rfl (lv_at hl 0 rfl) ?_
  refine lv_lconst (v := 0) hx hb dX10_rewind_11 (by decide) ?_
  refine pfX10_25 C hw hw.2.2.1 h0 dX10_rewind_12 (fun H locs hw => ?_)
  generalize e6 : uJ M3 a0 4 0 = M5 at hw
  replace hq := hq M5 e6.symm
  refine lv_aload_n hx hb dX10_rewind_15 rfl (lv_at hl 0 rfl) ?_
  refine lv_iconst (v := 0) hx hb dX10_rewind_16 (by decide) ?_
  refine pfX10_29 C hw hw.2.2.1 h0 dX10_rewind_17 (fun H locs hw => ?_)
  generalize e8 : uI M5 a0 5 0 = M7 at hw
  replace hq := hq M7 e8.symm
  exact r_vret C hr hlk hw dX10_rewind_20 (by decide) (by decide) ⟨rfl, hq⟩

def wp_X10_byteAt (g : Gh) (M0 : Mem) (a0 : Nat) (p1 : Int32) (post : Int32 → Mem → Prop) : Prop :=
  okc (gB g) M0 a0 10 ∧ (((p1 < 0) → post (-1) M0) ∧ (¬ (p1 < 0) → (((mI M0 a0 1) ≤ p1) → post (-1) M0) ∧ (¬ ((mI M0 a0 1) ≤ p1) → ∃ q3, mR M0 a0 0 = some q3 ∧ (okc (gB g) M0 q3 16 ∧ ((((nI (mN M0 q3)) ≤ p1) → post (-1) M0) ∧ (¬ ((nI (mN M0 q3)) ≤ p1) → vp_in p1 (mN M0 q3) ∧ (post (mI M0 q3 (Int32.toNatClampNeg p1)) M0)))))))
set_option maxHeartbeats 4000000 in
set_option maxRecDepth 100000 in
theorem ct_X10_byteAt {l : Launch} {g : Gh} {M0 : Mem} {a0 : Nat} {p1 : Int32} {post : Int32 → Mem → Prop} (hq : wp_X10_byteAt g M0 a0 p1 post) : Ct l g yX10_byteAt cX10_byteAt 2 (some .int) 0 0 0 [.ref a0, .int p1] M0 (pI post) := by
  unfold wp_X10_byteAt at hq
  obtain ⟨h0, hq⟩ := hq
  refine Ct.of (by decide) (Nat.le_of_ble_eq_true rfl) ?_
  intro p e s m below meth c ls C hr hlk hn hl hw
  have hx := C.1.1
  have hb := C.1.2.1
  have hl : lv_has ls 2 [(0, .ref a0), (1, .int p1)] := hl
  refine lv_iload_n hx hb dX10_byteAt_0 rfl (lv_at hl 1 rfl) ?_
  refine lv_if_lt (tgt := 30) hx hb dX10_byteAt_1 (by decide) (fun c1 => ?_) (fun c1 => ?_)
  · replace hq := hq.1 c1
    refine lv_iconst (v := (-1)) hx hb dX10_byteAt_30 (by decide) ?_
    exact r_iret C hr hlk hw dX10_byteAt_31 (by decide) (by decide) ⟨_, rfl, hq⟩
  · replace hq := hq.2 c1
    refine lv_iload_n hx hb dX10_byteAt_4 rfl (lv_at hl 1 rfl) ?_
    refine lv_aload_n hx hb dX10_byteAt_5 rfl (lv_at hl 0 rfl) ?_
    refine gfX10_15 C hw hw.2.2.1 h0 dX10_byteAt_6 ?_
    refine lv_icmp_ge (tgt := 30) hx hb dX10_byteAt_9 (by decide) (fun c2 => ?_) (fun c2 => ?_)
    · replace hq := hq.1 c2
      refine lv_iconst (v := (-1)) hx hb dX10_byteAt_30 (by decide) ?_
      exact r_iret C hr hlk hw dX10_byteAt_31 (by decide) (by decide) ⟨_, rfl, hq⟩
    · replace hq := hq.2 c2
      refine lv_iload_n hx hb dX10_byteAt_12 rfl (lv_at hl 1 rfl) ?_
      refine lv_aload_n hx hb dX10_byteAt_13 rfl (lv_at hl 0 rfl) ?_
      obtain ⟨q3, e4, hq⟩ := hq
      refine gfX10_11 C hw hw.2.2.1 h0 e4 dX10_byteAt_14 ?_
      obtain ⟨h5, hq⟩ := hq
      refine q_alen C hw hw.2.2.1 h5 (by decide) (by decide) rfl dX10_byteAt_17 ?_
      refine lv_icmp_ge (tgt := 30) hx hb dX10_byteAt_18 (by decide) (fun c6 => ?_) (fun c6 => ?_)
      · replace hq := hq.1 c6
        refine lv_iconst (v := (-1)) hx hb dX10_byteAt_30 (by decide) ?_
        exact r_iret C hr hlk hw dX10_byteAt_31 (by decide) (by decide) ⟨_, rfl, hq⟩
      · replace hq := hq.2 c6
        refine lv_aload_n hx hb dX10_byteAt_21 rfl (lv_at hl 0 rfl) ?_
        refine gfX10_11 C hw hw.2.2.1 h0 e4 dX10_byteAt_22 ?_
        refine lv_iload_n hx hb dX10_byteAt_25 rfl (lv_at hl 1 rfl) ?_
        obtain ⟨h7, hq⟩ := hq
        refine q_sald C hw hw.2.2.1 h5 h7 dX10_byteAt_26 ?_
        refine lv_goto (tgt := 31) hx hb dX10_byteAt_27 (by decide) ?_
        exact r_iret C hr hlk hw dX10_byteAt_31 (by decide) (by decide) ⟨_, rfl, hq⟩

def bd_X10_skipBlanks_0 (g : Gh) (M0 : Mem) (a0 : Nat) (post : Mem → Prop)  (bk0 : Mem → Prop)   (M : Mem) : Prop :=
  (((mI M a0 1) ≤ (mI M a0 5)) → post M) ∧ (¬ ((mI M a0 1) ≤ (mI M a0 5)) → wp_X10_byteAt g M a0 (mI M a0 5) (fun v2 M3 => ((v2 = 32) → ∀ M5, M5 = uI M3 a0 5 ((mI M3 a0 5) + 1) → (bk0 (M5))) ∧ (¬ (v2 = 32) → post M3)))
def wp_X10_skipBlanks (g : Gh) (M0 : Mem) (a0 : Nat) (post : Mem → Prop) : Prop :=
  okc (gB g) M0 a0 10 ∧ ((∃ n : Nat, lfp (fun bk z => bd_X10_skipBlanks_0 g M0 a0 post  bk z) n (M0)))
set_option maxHeartbeats 4000000 in
set_option maxRecDepth 100000 in
theorem lp_X10_skipBlanks_0 {l : Launch} {g : Gh} {p : Program} {e : Env} {s : State} {m : MethodId} {args : Array Value} {below : List Frame} {meth : Method} {c : Code} {M0 : Mem} {a0 : Nat} {post : Mem → Prop} (C : Cx g p s m args c cX10_skipBlanks 1 RX10) (hr : meth.sig.returnType = none) (hlk : meth.locks = false) (hn : meth.name = "skipBlanks") (h0 : okc (gB g) M0 a0 10)  : ∀ (nf : Nat)   (M : Mem) (H : Heap) (locs : List Loc) (ls : Array Slot), lfp (fun bk z => bd_X10_skipBlanks_0 g M0 a0 post  bk z) nf (M) → Wd g s M0 M H locs → lv_has ls 1 [(0, .ref a0)] → W p l e (rmo 1 0 0) s m args below meth c H locs 0 0 (MQ below (Cq g M0 (pV post)) args s 0 0 (gA g)) (F0 m 0 ls []) := by
  have hx := C.1.1
  have hb := C.1.2.1
  intro nf
  induction nf with
  | zero => intro _ H locs ls hq; exact hq.elim
  | succ nf hk0 =>
    intro M H locs ls hq hw hl
    replace hq : bd_X10_skipBlanks_0 g M0 a0 post  (lfp (fun bk z => bd_X10_skipBlanks_0 g M0 a0 post  bk z) nf) M := hq
    unfold bd_X10_skipBlanks_0 at hq
    refine lv_aload_n hx hb dX10_skipBlanks_0 rfl (lv_at hl 0 rfl) ?_
    refine gfX10_29 C hw hw.2.2.1 h0 dX10_skipBlanks_1 ?_
    refine lv_aload_n hx hb dX10_skipBlanks_4 rfl (lv_at hl 0 rfl) ?_
    refine gfX10_15 C hw hw.2.2.1 h0 dX10_skipBlanks_5 ?_
    refine lv_icmp_ge (tgt := 37) hx hb dX10_skipBlanks_8 (by decide) (fun c1 => ?_) (fun c1 => ?_)
    · replace hq := hq.1 c1
      exact r_vret C hr hlk hw dX10_skipBlanks_37 (by decide) (by decide) ⟨rfl, hq⟩
    · replace hq := hq.2 c1
      refine lv_aload_n hx hb dX10_skipBlanks_11 rfl (lv_at hl 0 rfl) ?_
      refine lv_aload_n hx hb dX10_skipBlanks_12 rfl (lv_at hl 0 rfl) ?_
      refine gfX10_29 C hw hw.2.2.1 h0 dX10_skipBlanks_13 ?_
      refine r_callV (T := TX10) (N := 6) (ci := 10) (index := 35) (n := 1) (d2 := 0) (mc := 0) (ms := 0) (As := [.int (mI M a0 5)]) (rest := []) C hw (ct_X10_byteAt hq) kvX10_35 hq.1 (by decide) rfl ⟨by decide, by decide⟩ ⟨by decide, by decide⟩ rfl hl.1 rfl (Nat.le_of_ble_eq_true rfl) dX10_skipBlanks_16 (fun r M3 H locs hp hle hw => ?_)
      obtain ⟨v2, rfl, hq⟩ := hp
      refine W.eq (g2 := F0 m 19 ls [.int v2]) rfl ?_
      refine lv_bipush (v := 32) hx hb dX10_skipBlanks_19 (by decide) ?_
      refine lv_icmp_ne (tgt := 37) hx hb dX10_skipBlanks_21 (by decide) (fun c4 => ?_) (fun c4 => ?_)
      · replace hq := hq.2 c4
        exact r_vret C hr hlk hw dX10_skipBlanks_37 (by decide) (by decide) ⟨rfl, hq⟩
      · replace hq := hq.1 c4
        refine lv_aload_n hx hb dX10_skipBlanks_24 rfl (lv_at hl 0 rfl) ?_
        refine lv_dup hx hb dX10_skipBlanks_25 rfl ?_
        refine gfX10_29 C hw hw.2.2.1 h0 dX10_skipBlanks_26 ?_
        refine lv_iconst (v := 1) hx hb dX10_skipBlanks_29 (by decide) ?_
        refine lv_iadd hx hb dX10_skipBlanks_30 ?_
        refine pfX10_29 C hw hw.2.2.1 h0 dX10_skipBlanks_31 (fun H locs hw => ?_)
        generalize e6 : uI M3 a0 5 ((mI M3 a0 5) + 1) = M5 at hw
        replace hq := hq M5 e6.symm
        refine lv_goto (tgt := 0) hx hb dX10_skipBlanks_34 (by decide) ?_
        exact hk0 _ _ _ _ hq hw (lv_sub hl [0] rfl)
set_option maxHeartbeats 4000000 in
set_option maxRecDepth 100000 in
theorem ct_X10_skipBlanks {l : Launch} {g : Gh} {M0 : Mem} {a0 : Nat} {post : Mem → Prop} (hq : wp_X10_skipBlanks g M0 a0 post) : Ct l g yX10_skipBlanks cX10_skipBlanks 1 none 1 0 0 [.ref a0] M0 (pV post) := by
  unfold wp_X10_skipBlanks at hq
  obtain ⟨h0, hq⟩ := hq
  refine Ct.of (by decide) (Nat.le_of_ble_eq_true rfl) ?_
  intro p e s m below meth c ls C hr hlk hn hl hw
  have hx := C.1.1
  have hb := C.1.2.1
  have hl : lv_has ls 1 [(0, .ref a0)] := hl
  obtain ⟨nf, hq⟩ := hq
  exact lp_X10_skipBlanks_0 C hr hlk hn h0  nf _ _ _ _ hq hw (lv_sub hl [0] rfl)

def wp_X10_isLetter (g : Gh) (M0 : Mem) (p0 : Int32) (post : Int32 → Mem → Prop) : Prop :=
  ((p0 < 97) → post 0 M0) ∧ (¬ (p0 < 97) → ((122 < p0) → post 0 M0) ∧ (¬ (122 < p0) → post 1 M0))
set_option maxHeartbeats 4000000 in
set_option maxRecDepth 100000 in
theorem ct_X10_isLetter {l : Launch} {g : Gh} {M0 : Mem} {p0 : Int32} {post : Int32 → Mem → Prop} (hq : wp_X10_isLetter g M0 p0 post) : Ct l g yX10_isLetter cX10_isLetter 1 (some .boolean) 0 0 0 [.int p0] M0 (pI post) := by
  unfold wp_X10_isLetter at hq
  refine Ct.of (by decide) (Nat.le_of_ble_eq_true rfl) ?_
  intro p e s m below meth c ls C hr hlk hn hl hw
  have hx := C.1.1
  have hb := C.1.2.1
  have hl : lv_has ls 1 [(0, .int p0)] := hl
  refine lv_iload_n hx hb dX10_isLetter_0 rfl (lv_at hl 0 rfl) ?_
  refine lv_bipush (v := 97) hx hb dX10_isLetter_1 (by decide) ?_
  refine lv_icmp_lt (tgt := 16) hx hb dX10_isLetter_3 (by decide) (fun c1 => ?_) (fun c1 => ?_)
  · replace hq := hq.1 c1
    refine lv_iconst (v := 0) hx hb dX10_isLetter_16 (by decide) ?_
    exact r_zret C hr hlk hw dX10_isLetter_17 (by decide) (by decide) (by decide) ⟨_, rfl, hq⟩
  · replace hq := hq.2 c1
    refine lv_iload_n hx hb dX10_isLetter_6 rfl (lv_at hl 0 rfl) ?_
    refine lv_bipush (v := 122) hx hb dX10_isLetter_7 (by decide) ?_
    refine lv_icmp_gt (tgt := 16) hx hb dX10_isLetter_9 (by decide) (fun c2 => ?_) (fun c2 => ?_)
    · replace hq := hq.1 c2
      refine lv_iconst (v := 0) hx hb dX10_isLetter_16 (by decide) ?_
      exact r_zret C hr hlk hw dX10_isLetter_17 (by decide) (by decide) (by decide) ⟨_, rfl, hq⟩
    · replace hq := hq.2 c2
      refine lv_iconst (v := 1) hx hb dX10_isLetter_12 (by decide) ?_
      refine lv_goto (tgt := 17) hx hb dX10_isLetter_13 (by decide) ?_
      exact r_zret C hr hlk hw dX10_isLetter_17 (by decide) (by decide) (by decide) ⟨_, rfl, hq⟩

def wp_X10_isDigit (g : Gh) (M0 : Mem) (p0 : Int32) (post : Int32 → Mem → Prop) : Prop :=
  ((p0 < 48) → post 0 M0) ∧ (¬ (p0 < 48) → ((57 < p0) → post 0 M0) ∧ (¬ (57 < p0) → post 1 M0))
set_option maxHeartbeats 4000000 in
set_option maxRecDepth 100000 in
theorem ct_X10_isDigit {l : Launch} {g : Gh} {M0 : Mem} {p0 : Int32} {post : Int32 → Mem → Prop} (hq : wp_X10_isDigit g M0 p0 post) : Ct l g yX10_isDigit cX10_isDigit 1 (some .boolean) 0 0 0 [.int p0] M0 (pI post) := by
  unfold wp_X10_isDigit at hq
  refine Ct.of (by decide) (Nat.le_of_ble_eq_true rfl) ?_
  intro p e s m below meth c ls C hr hlk hn hl hw
  have hx := C.1.1
  have hb := C.1.2.1
  have hl : lv_has ls 1 [(0, .int p0)] := hl
  refine lv_iload_n hx hb dX10_isDigit_0 rfl (lv_at hl 0 rfl) ?_
  refine lv_bipush (v := 48) hx hb dX10_isDigit_1 (by decide) ?_
  refine lv_icmp_lt (tgt := 16) hx hb dX10_isDigit_3 (by decide) (fun c1 => ?_) (fun c1 => ?_)
  · replace hq := hq.1 c1
    refine lv_iconst (v := 0) hx hb dX10_isDigit_16 (by decide) ?_
    exact r_zret C hr hlk hw dX10_isDigit_17 (by decide) (by decide) (by decide) ⟨_, rfl, hq⟩
  · replace hq := hq.2 c1
    refine lv_iload_n hx hb dX10_isDigit_6 rfl (lv_at hl 0 rfl) ?_
    refine lv_bipush (v := 57) hx hb dX10_isDigit_7 (by decide) ?_
    refine lv_icmp_gt (tgt := 16) hx hb dX10_isDigit_9 (by decide) (fun c2 => ?_) (fun c2 => ?_)
    · replace hq := hq.1 c2
      refine lv_iconst (v := 0) hx hb dX10_isDigit_16 (by decide) ?_
      exact r_zret C hr hlk hw dX10_isDigit_17 (by decide) (by decide) (by decide) ⟨_, rfl, hq⟩
    · replace hq := hq.2 c2
      refine lv_iconst (v := 1) hx hb dX10_isDigit_12 (by decide) ?_
      refine lv_goto (tgt := 17) hx hb dX10_isDigit_13 (by decide) ?_
      exact r_zret C hr hlk hw dX10_isDigit_17 (by decide) (by decide) (by decide) ⟨_, rfl, hq⟩

def lb_X10_setRun_24 (g : Gh) (M0 : Mem) (a0 : Nat) (p1 : Int32) (p2 : Int32) (p3 : Int64) (p5 : Int32) (post : Mem → Prop)    (M : Mem) : Prop :=
  ((p1 = 0) → ((6 < p2) → ∀ M5, M5 = uI M a0 2 3 → (post M5)) ∧ (¬ (6 < p2) → ∀ M7, M7 = uI M a0 2 2 → (∀ M9, M9 = uJ M7 a0 4 (Int32.toInt64 p5) → (post M9)))) ∧ (¬ (p1 = 0) → ∀ M2, M2 = uI M a0 2 3 → (post M2))
def wp_X10_setRun (g : Gh) (M0 : Mem) (a0 : Nat) (p1 : Int32) (p2 : Int32) (p3 : Int64) (p5 : Int32) (post : Mem → Prop) : Prop :=
  okc (gB g) M0 a0 10 ∧ (((p2 = 0) → ((12 < p1) → lb_X10_setRun_24 g M0 a0 p1 p2 p3 p5 post   M0) ∧ (¬ (12 < p1) → ∀ M13, M13 = uI M0 a0 2 1 → (∀ M15, M15 = uJ M13 a0 4 (-p3) → (post M15)))) ∧ (¬ (p2 = 0) → lb_X10_setRun_24 g M0 a0 p1 p2 p3 p5 post   M0))
set_option maxHeartbeats 4000000 in
set_option maxRecDepth 100000 in
theorem lt_X10_setRun_24 {l : Launch} {g : Gh} {p : Program} {e : Env} {s : State} {m : MethodId} {args : Array Value} {below : List Frame} {meth : Method} {c : Code} {H : Heap} {locs : List Loc} {ls : Array Slot} {M0 M : Mem} {a0 : Nat} {p1 : Int32} {p2 : Int32} {p3 : Int64} {p5 : Int32} {post : Mem → Prop}   (C : Cx g p s m args c cX10_setRun 6 RX10) (hr : meth.sig.returnType = none) (hlk : meth.locks = false) (hn : meth.name = "setRun") (h0 : okc (gB g) M0 a0 10)  (hq : lb_X10_setRun_24 g M0 a0 p1 p2 p3 p5 post   M) (hw : Wd g s M0 M H locs) (hl : lv_has ls 6 [(0, .ref a0), (1, .int p1), (2, .int p2), (3, .long p3), (5, .int p5)]) : W p l e (rmo 0 0 0) s m args below meth c H locs 0 0 (MQ below (Cq g M0 (pV post)) args s 0 0 (gA g)) (F0 m 24 ls []) := by
  have hx := C.1.1
  have hb := C.1.2.1
  unfold lb_X10_setRun_24 at hq
  refine lv_iload_n hx hb dX10_setRun_24 rfl (lv_at hl 1 rfl) ?_
  refine lv_if_ne (tgt := 49) hx hb dX10_setRun_25 (by decide) (fun c1 => ?_) (fun c1 => ?_)
  · replace hq := hq.2 c1
    refine lv_aload_n hx hb dX10_setRun_49 rfl (lv_at hl 0 rfl) ?_
    refine lv_iconst (v := 3) hx hb dX10_setRun_50 (by decide) ?_
    refine pfX10_19 C hw hw.2.2.1 h0 dX10_setRun_51 (fun H locs hw => ?_)
    generalize e3 : uI M a0 2 3 = M2 at hw
    replace hq := hq M2 e3.symm
    exact r_vret C hr hlk hw dX10_setRun_54 (by decide) (by decide) ⟨rfl, hq⟩
  · replace hq := hq.1 c1
    refine lv_iload_n hx hb dX10_setRun_28 rfl (lv_at hl 2 rfl) ?_
    refine lv_bipush (v := 6) hx hb dX10_setRun_29 (by decide) ?_
    refine lv_icmp_gt (tgt := 49) hx hb dX10_setRun_31 (by decide) (fun c4 => ?_) (fun c4 => ?_)
    · replace hq := hq.1 c4
      refine lv_aload_n hx hb dX10_setRun_49 rfl (lv_at hl 0 rfl) ?_
      refine lv_iconst (v := 3) hx hb dX10_setRun_50 (by decide) ?_
      refine pfX10_19 C hw hw.2.2.1 h0 dX10_setRun_51 (fun H locs hw => ?_)
      generalize e6 : uI M a0 2 3 = M5 at hw
      replace hq := hq M5 e6.symm
      exact r_vret C hr hlk hw dX10_setRun_54 (by decide) (by decide) ⟨rfl, hq⟩
    · replace hq := hq.2 c4
      refine lv_aload_n hx hb dX10_setRun_34 rfl (lv_at hl 0 rfl) ?_
      refine lv_iconst (v := 2) hx hb dX10_setRun_35 (by decide) ?_
      refine pfX10_19 C hw hw.2.2.1 h0 dX10_setRun_36 (fun H locs hw => ?_)
      generalize e8 : uI M a0 2 2 = M7 at hw
      replace hq := hq M7 e8.symm
      refine lv_aload_n hx hb dX10_setRun_39 rfl (lv_at hl 0 rfl) ?_
      refine lv_iload hx hb dX10_setRun_40 (lv_at hl 4 rfl) ?_
      refine lv_i2l (v := (Int32.toInt64 p5)) hx hb dX10_setRun_42 rfl ?_
      refine pfX10_25 C hw hw.2.2.1 h0 dX10_setRun_43 (fun H locs hw => ?_)
      generalize e10 : uJ M7 a0 4 (Int32.toInt64 p5) = M9 at hw
      replace hq := hq M9 e10.symm
      refine lv_goto (tgt := 54) hx hb dX10_setRun_46 (by decide) ?_
      exact r_vret C hr hlk hw dX10_setRun_54 (by decide) (by decide) ⟨rfl, hq⟩
set_option maxHeartbeats 4000000 in
set_option maxRecDepth 100000 in
theorem ct_X10_setRun {l : Launch} {g : Gh} {M0 : Mem} {a0 : Nat} {p1 : Int32} {p2 : Int32} {p3 : Int64} {p5 : Int32} {post : Mem → Prop} (hq : wp_X10_setRun g M0 a0 p1 p2 p3 p5 post) : Ct l g yX10_setRun cX10_setRun 6 none 0 0 0 [.ref a0, .int p1, .int p2, .long p3, .int p5] M0 (pV post) := by
  unfold wp_X10_setRun at hq
  obtain ⟨h0, hq⟩ := hq
  refine Ct.of (by decide) (Nat.le_of_ble_eq_true rfl) ?_
  intro p e s m below meth c ls C hr hlk hn hl hw
  have hx := C.1.1
  have hb := C.1.2.1
  have hl : lv_has ls 6 [(0, .ref a0), (1, .int p1), (2, .int p2), (3, .long p3), (5, .int p5)] := hl
  refine lv_iload_n hx hb dX10_setRun_0 rfl (lv_at hl 2 rfl) ?_
  refine lv_if_ne (tgt := 24) hx hb dX10_setRun_1 (by decide) (fun c11 => ?_) (fun c11 => ?_)
  · replace hq := hq.2 c11
    exact lt_X10_setRun_24 C hr hlk hn h0  hq hw (lv_sub hl [0, 1, 2, 3, 4] rfl)
  · replace hq := hq.1 c11
    refine lv_iload_n hx hb dX10_setRun_4 rfl (lv_at hl 1 rfl) ?_
    refine lv_bipush (v := 12) hx hb dX10_setRun_5 (by decide) ?_
    refine lv_icmp_gt (tgt := 24) hx hb dX10_setRun_7 (by decide) (fun c12 => ?_) (fun c12 => ?_)
    · replace hq := hq.1 c12
      exact lt_X10_setRun_24 C hr hlk hn h0  hq hw (lv_sub hl [0, 1, 2, 3, 4] rfl)
    · replace hq := hq.2 c12
      refine lv_aload_n hx hb dX10_setRun_10 rfl (lv_at hl 0 rfl) ?_
      refine lv_iconst (v := 1) hx hb dX10_setRun_11 (by decide) ?_
      refine pfX10_19 C hw hw.2.2.1 h0 dX10_setRun_12 (fun H locs hw => ?_)
      generalize e14 : uI M0 a0 2 1 = M13 at hw
      replace hq := hq M13 e14.symm
      refine lv_aload_n hx hb dX10_setRun_15 rfl (lv_at hl 0 rfl) ?_
      refine lv_lload_n hx hb dX10_setRun_16 rfl (lv_at hl 3 rfl) ?_
      refine lv_lneg hx hb dX10_setRun_17 ?_
      refine pfX10_25 C hw hw.2.2.1 h0 dX10_setRun_18 (fun H locs hw => ?_)
      generalize e16 : uJ M13 a0 4 (-p3) = M15 at hw
      replace hq := hq M15 e16.symm
      refine lv_goto (tgt := 54) hx hb dX10_setRun_21 (by decide) ?_
      exact r_vret C hr hlk hw dX10_setRun_54 (by decide) (by decide) ⟨rfl, hq⟩

def lb_X10_readRun_91 (g : Gh) (M0 : Mem) (a0 : Nat) (post : Mem → Prop)  (x1 : Int32) (x2 : Int32) (x3 : Int64) (x5 : Int32)  (M : Mem) : Prop :=
  ∀ M1, M1 = uI M a0 5 (((mI M a0 3) + x1) + x2) → (wp_X10_setRun g M1 a0 x1 x2 x3 x5 (fun M4 => post M4))
def bd_X10_readRun_15 (g : Gh) (M0 : Mem) (a0 : Nat) (post : Mem → Prop)  (bk15 : Int32 × Int32 × Int64 × Int32 × Int32 × Mem → Prop) (x1 : Int32) (x2 : Int32) (x3 : Int64) (x5 : Int32) (x6 : Int32)  (M : Mem) : Prop :=
  (((mI M a0 1) ≤ x6) → lb_X10_readRun_91 g M0 a0 post  x1 x2 x3 x5 M) ∧ (¬ ((mI M a0 1) ≤ x6) → wp_X10_byteAt g M a0 x6 (fun v6 M7 => wp_X10_isLetter g M7 v6 (fun v8 M9 => ((v8 = 0) → wp_X10_isDigit g M9 v6 (fun v11 M12 => ((v11 = 0) → lb_X10_readRun_91 g M0 a0 post  x1 x2 x3 x5 M12) ∧ (¬ (v11 = 0) → bk15 (x1, (x2 + 1), x3, ((x5 * 10) + (v6 - 48)), (x6 + 1), M12)))) ∧ (¬ (v8 = 0) → bk15 ((x1 + 1), x2, ((x3 * 27) + (Int32.toInt64 ((v6 - 97) + 1))), x5, (x6 + 1), M9)))))
def wp_X10_readRun (g : Gh) (M0 : Mem) (a0 : Nat) (post : Mem → Prop) : Prop :=
  okc (gB g) M0 a0 10 ∧ ((∃ n : Nat, lfp (fun bk z => bd_X10_readRun_15 g M0 a0 post  bk z.1 z.2.1 z.2.2.1 z.2.2.2.1 z.2.2.2.2.1 z.2.2.2.2.2) n (0, 0, 0, 0, (mI M0 a0 3), M0)))
set_option maxHeartbeats 4000000 in
set_option maxRecDepth 100000 in
theorem lt_X10_readRun_91 {l : Launch} {g : Gh} {p : Program} {e : Env} {s : State} {m : MethodId} {args : Array Value} {below : List Frame} {meth : Method} {c : Code} {H : Heap} {locs : List Loc} {ls : Array Slot} {M0 M : Mem} {a0 : Nat} {post : Mem → Prop} {x1 : Int32} {x2 : Int32} {x3 : Int64} {x5 : Int32}  (C : Cx g p s m args c cX10_readRun 8 RX10) (hr : meth.sig.returnType = none) (hlk : meth.locks = false) (hn : meth.name = "readRun") (h0 : okc (gB g) M0 a0 10)  (hq : lb_X10_readRun_91 g M0 a0 post  x1 x2 x3 x5 M) (hw : Wd g s M0 M H locs) (hl : lv_has ls 8 [(0, .ref a0), (1, .int x1), (2, .int x2), (3, .long x3), (5, .int x5)]) : W p l e (rmo 1 0 0) s m args below meth c H locs 0 0 (MQ below (Cq g M0 (pV post)) args s 0 0 (gA g)) (F0 m 91 ls []) := by
  have hx := C.1.1
  have hb := C.1.2.1
  unfold lb_X10_readRun_91 at hq
  refine lv_aload_n hx hb dX10_readRun_91 rfl (lv_at hl 0 rfl) ?_
  refine lv_aload_n hx hb dX10_readRun_92 rfl (lv_at hl 0 rfl) ?_
  refine gfX10_22 C hw hw.2.2.1 h0 dX10_readRun_93 ?_
  refine lv_iload_n hx hb dX10_readRun_96 rfl (lv_at hl 1 rfl) ?_
  refine lv_iadd hx hb dX10_readRun_97 ?_
  refine lv_iload_n hx hb dX10_readRun_98 rfl (lv_at hl 2 rfl) ?_
  refine lv_iadd hx hb dX10_readRun_99 ?_
  refine pfX10_29 C hw hw.2.2.1 h0 dX10_readRun_100 (fun H locs hw => ?_)
  generalize e2 : uI M a0 5 (((mI M a0 3) + x1) + x2) = M1 at hw
  replace hq := hq M1 e2.symm
  refine lv_aload_n hx hb dX10_readRun_103 rfl (lv_at hl 0 rfl) ?_
  refine lv_iload_n hx hb dX10_readRun_104 rfl (lv_at hl 1 rfl) ?_
  refine lv_iload_n hx hb dX10_readRun_105 rfl (lv_at hl 2 rfl) ?_
  refine lv_lload_n hx hb dX10_readRun_106 rfl (lv_at hl 3 rfl) ?_
  refine lv_iload hx hb dX10_readRun_107 (lv_at hl 4 rfl) ?_
  refine r_callV (T := TX10) (N := 6) (ci := 10) (index := 65) (n := 4) (d2 := 0) (mc := 0) (ms := 0) (As := [.int x1, .int x2, .long x3, .int x5]) (rest := []) C hw (ct_X10_setRun hq) kvX10_65 hq.1 (by decide) rfl ⟨by decide, by decide⟩ ⟨by decide, by decide⟩ rfl hl.1 rfl (Nat.le_of_ble_eq_true rfl) dX10_readRun_109 (fun r M4 H locs hp hle hw => ?_)
  obtain ⟨rfl, hq⟩ := hp
  refine W.eq (g2 := F0 m 112 ls []) rfl ?_
  exact r_vret C hr hlk hw dX10_readRun_112 (by decide) (by decide) ⟨rfl, hq⟩
set_option maxHeartbeats 4000000 in
set_option maxRecDepth 100000 in
theorem lp_X10_readRun_15 {l : Launch} {g : Gh} {p : Program} {e : Env} {s : State} {m : MethodId} {args : Array Value} {below : List Frame} {meth : Method} {c : Code} {M0 : Mem} {a0 : Nat} {post : Mem → Prop} (C : Cx g p s m args c cX10_readRun 8 RX10) (hr : meth.sig.returnType = none) (hlk : meth.locks = false) (hn : meth.name = "readRun") (h0 : okc (gB g) M0 a0 10)  : ∀ (nf : Nat) (x1 : Int32) (x2 : Int32) (x3 : Int64) (x5 : Int32) (x6 : Int32)  (M : Mem) (H : Heap) (locs : List Loc) (ls : Array Slot), lfp (fun bk z => bd_X10_readRun_15 g M0 a0 post  bk z.1 z.2.1 z.2.2.1 z.2.2.2.1 z.2.2.2.2.1 z.2.2.2.2.2) nf (x1, x2, x3, x5, x6, M) → Wd g s M0 M H locs → lv_has ls 8 [(0, .ref a0), (1, .int x1), (2, .int x2), (3, .long x3), (5, .int x5), (6, .int x6)] → W p l e (rmo 1 0 0) s m args below meth c H locs 0 0 (MQ below (Cq g M0 (pV post)) args s 0 0 (gA g)) (F0 m 15 ls []) := by
  have hx := C.1.1
  have hb := C.1.2.1
  intro nf
  induction nf with
  | zero => intro _ _ _ _ _ _ H locs ls hq; exact hq.elim
  | succ nf hk15 =>
    intro x1 x2 x3 x5 x6 M H locs ls hq hw hl
    replace hq : bd_X10_readRun_15 g M0 a0 post  (lfp (fun bk z => bd_X10_readRun_15 g M0 a0 post  bk z.1 z.2.1 z.2.2.1 z.2.2.2.1 z.2.2.2.2.1 z.2.2.2.2.2) nf) x1 x2 x3 x5 x6 M := hq
    unfold bd_X10_readRun_15 at hq
    refine lv_iload hx hb dX10_readRun_15 (lv_at hl 5 rfl) ?_
    refine lv_aload_n hx hb dX10_readRun_17 rfl (lv_at hl 0 rfl) ?_
    refine gfX10_15 C hw hw.2.2.1 h0 dX10_readRun_18 ?_
    refine lv_icmp_ge (tgt := 91) hx hb dX10_readRun_21 (by decide) (fun c5 => ?_) (fun c5 => ?_)
    · replace hq := hq.1 c5
      exact lt_X10_readRun_91 C hr hlk hn h0  hq hw (lv_sub hl [0, 1, 2, 3, 4] rfl)
    · replace hq := hq.2 c5
      refine lv_aload_n hx hb dX10_readRun_24 rfl (lv_at hl 0 rfl) ?_
      refine lv_iload hx hb dX10_readRun_25 (lv_at hl 5 rfl) ?_
      refine r_callV (T := TX10) (N := 6) (ci := 10) (index := 35) (n := 1) (d2 := 0) (mc := 0) (ms := 0) (As := [.int x6]) (rest := []) C hw (ct_X10_byteAt hq) kvX10_35 hq.1 (by decide) rfl ⟨by decide, by decide⟩ ⟨by decide, by decide⟩ rfl hl.1 rfl (Nat.le_of_ble_eq_true rfl) dX10_readRun_27 (fun r M7 H locs hp hle hw => ?_)
      obtain ⟨v6, rfl, hq⟩ := hp
      refine W.eq (g2 := F0 m 30 ls [.int v6]) rfl ?_
      refine lv_istore (lv' := [(7, .int v6), (0, .ref a0), (1, .int x1), (2, .int x2), (3, .long x3), (5, .int x5), (6, .int x6)]) hx hb dX10_readRun_30 hl (by decide) rfl (fun ls hl => ?_)
      refine lv_iload hx hb dX10_readRun_32 (lv_at hl 0 rfl) ?_
      refine r_callS (index := 39) (n := 1) (d2 := 0) (mc := 0) (ms := 0) (As := [.int v6]) (rest := []) C hw (ct_X10_isLetter hq) ksX10_39 ⟨by decide, by decide⟩ ⟨by decide, by decide⟩ rfl hl.1 rfl (Nat.le_of_ble_eq_true rfl) dX10_readRun_34 (fun r M9 H locs hp hle hw => ?_)
      obtain ⟨v8, rfl, hq⟩ := hp
      refine W.eq (g2 := F0 m 37 ls [.int v8]) rfl ?_
      refine lv_if_eq (tgt := 61) hx hb dX10_readRun_37 (by decide) (fun c10 => ?_) (fun c10 => ?_)
      · replace hq := hq.1 c10
        refine lv_iload hx hb dX10_readRun_61 (lv_at hl 0 rfl) ?_
        refine r_callS (index := 43) (n := 1) (d2 := 0) (mc := 0) (ms := 0) (As := [.int v6]) (rest := []) C hw (ct_X10_isDigit hq) ksX10_43 ⟨by decide, by decide⟩ ⟨by decide, by decide⟩ rfl hl.1 rfl (Nat.le_of_ble_eq_true rfl) dX10_readRun_63 (fun r M12 H locs hp hle hw => ?_)
        obtain ⟨v11, rfl, hq⟩ := hp
        refine W.eq (g2 := F0 m 66 ls [.int v11]) rfl ?_
        refine lv_if_eq (tgt := 91) hx hb dX10_readRun_66 (by decide) (fun c13 => ?_) (fun c13 => ?_)
        · replace hq := hq.1 c13
          exact lt_X10_readRun_91 C hr hlk hn h0  hq hw (lv_sub hl [1, 2, 3, 4, 5] rfl)
        · replace hq := hq.2 c13
          refine lv_iinc (v := (x2 + 1)) (lv' := [(2, .int (x2 + 1)), (7, .int v6), (0, .ref a0), (1, .int x1), (3, .long x3), (5, .int x5), (6, .int x6)]) hx hb dX10_readRun_69 hl (k := 3) rfl rfl (by decide) rfl (fun ls hl => ?_)
          refine lv_iload hx hb dX10_readRun_72 (lv_at hl 5 rfl) ?_
          refine lv_bipush (v := 10) hx hb dX10_readRun_74 (by decide) ?_
          refine lv_imul hx hb dX10_readRun_76 ?_
          refine lv_iload hx hb dX10_readRun_77 (lv_at hl 1 rfl) ?_
          refine lv_bipush (v := 48) hx hb dX10_readRun_79 (by decide) ?_
          refine lv_isub hx hb dX10_readRun_81 ?_
          refine lv_iadd hx hb dX10_readRun_82 ?_
          refine lv_istore (lv' := [(5, .int ((x5 * 10) + (v6 - 48))), (2, .int (x2 + 1)), (7, .int v6), (0, .ref a0), (1, .int x1), (3, .long x3), (6, .int x6)]) hx hb dX10_readRun_83 hl (by decide) rfl (fun ls hl => ?_)
          refine lv_iinc (v := (x6 + 1)) (lv' := [(6, .int (x6 + 1)), (5, .int ((x5 * 10) + (v6 - 48))), (2, .int (x2 + 1)), (7, .int v6), (0, .ref a0), (1, .int x1), (3, .long x3)]) hx hb dX10_readRun_85 hl (k := 6) rfl rfl (by decide) rfl (fun ls hl => ?_)
          refine lv_goto (tgt := 15) hx hb dX10_readRun_88 (by decide) ?_
          exact hk15 _ _ _ _ _ _ _ _ _ hq hw (lv_sub hl [4, 5, 2, 6, 1, 0] rfl)
      · replace hq := hq.2 c10
        refine lv_iinc (v := (x1 + 1)) (lv' := [(1, .int (x1 + 1)), (7, .int v6), (0, .ref a0), (2, .int x2), (3, .long x3), (5, .int x5), (6, .int x6)]) hx hb dX10_readRun_40 hl (k := 2) rfl rfl (by decide) rfl (fun ls hl => ?_)
        refine lv_lload_n hx hb dX10_readRun_43 rfl (lv_at hl 4 rfl) ?_
        refine lv_ldc2 (v := 27) hx hb C.1.2.2.2.1 (C.1.2.2.2.2 _ w_446) dX10_readRun_44 ?_
        refine lv_lmul hx hb dX10_readRun_47 ?_
        refine lv_iload hx hb dX10_readRun_48 (lv_at hl 1 rfl) ?_
        refine lv_bipush (v := 97) hx hb dX10_readRun_50 (by decide) ?_
        refine lv_isub hx hb dX10_readRun_52 ?_
        refine lv_iconst (v := 1) hx hb dX10_readRun_53 (by decide) ?_
        refine lv_iadd hx hb dX10_readRun_54 ?_
        refine lv_i2l (v := (Int32.toInt64 ((v6 - 97) + 1))) hx hb dX10_readRun_55 rfl ?_
        refine lv_ladd hx hb dX10_readRun_56 ?_
        refine lv_lstore_n (lv' := [(3, .long ((x3 * 27) + (Int32.toInt64 ((v6 - 97) + 1)))), (1, .int (x1 + 1)), (7, .int v6), (0, .ref a0), (2, .int x2), (5, .int x5), (6, .int x6)]) hx hb dX10_readRun_57 rfl hl (by decide) rfl (fun ls hl => ?_)
        refine lv_goto (tgt := 85) hx hb dX10_readRun_58 (by decide) ?_
        refine lv_iinc (v := (x6 + 1)) (lv' := [(6, .int (x6 + 1)), (3, .long ((x3 * 27) + (Int32.toInt64 ((v6 - 97) + 1)))), (1, .int (x1 + 1)), (7, .int v6), (0, .ref a0), (2, .int x2), (5, .int x5)]) hx hb dX10_readRun_85 hl (k := 6) rfl rfl (by decide) rfl (fun ls hl => ?_)
        refine lv_goto (tgt := 15) hx hb dX10_readRun_88 (by decide) ?_
        exact hk15 _ _ _ _ _ _ _ _ _ hq hw (lv_sub hl [4, 2, 5, 1, 6, 0] rfl)
set_option maxHeartbeats 4000000 in
set_option maxRecDepth 100000 in
theorem ct_X10_readRun {l : Launch} {g : Gh} {M0 : Mem} {a0 : Nat} {post : Mem → Prop} (hq : wp_X10_readRun g M0 a0 post) : Ct l g yX10_readRun cX10_readRun 8 none 1 0 0 [.ref a0] M0 (pV post) := by
  unfold wp_X10_readRun at hq
  obtain ⟨h0, hq⟩ := hq
  refine Ct.of (by decide) (Nat.le_of_ble_eq_true rfl) ?_
  intro p e s m below meth c ls C hr hlk hn hl hw
  have hx := C.1.1
  have hb := C.1.2.1
  have hl : lv_has ls 8 [(0, .ref a0)] := hl
  refine lv_iconst (v := 0) hx hb dX10_readRun_0 (by decide) ?_
  refine lv_istore_n (lv' := [(1, .int 0), (0, .ref a0)]) hx hb dX10_readRun_1 rfl hl (by decide) rfl (fun ls hl => ?_)
  refine lv_iconst (v := 0) hx hb dX10_readRun_2 (by decide) ?_
  refine lv_istore_n (lv' := [(2, .int 0), (1, .int 0), (0, .ref a0)]) hx hb dX10_readRun_3 rfl hl (by decide) rfl (fun ls hl => ?_)
  refine lv_lconst (v := 0) hx hb dX10_readRun_4 (by decide) ?_
  refine lv_lstore_n (lv' := [(3, .long 0), (2, .int 0), (1, .int 0), (0, .ref a0)]) hx hb dX10_readRun_5 rfl hl (by decide) rfl (fun ls hl => ?_)
  refine lv_iconst (v := 0) hx hb dX10_readRun_6 (by decide) ?_
  refine lv_istore (lv' := [(5, .int 0), (3, .long 0), (2, .int 0), (1, .int 0), (0, .ref a0)]) hx hb dX10_readRun_7 hl (by decide) rfl (fun ls hl => ?_)
  refine lv_aload_n hx hb dX10_readRun_9 rfl (lv_at hl 4 rfl) ?_
  refine gfX10_22 C hw hw.2.2.1 h0 dX10_readRun_10 ?_
  refine lv_istore (lv' := [(6, .int (mI M0 a0 3)), (5, .int 0), (3, .long 0), (2, .int 0), (1, .int 0), (0, .ref a0)]) hx hb dX10_readRun_13 hl (by decide) rfl (fun ls hl => ?_)
  obtain ⟨nf, hq⟩ := hq
  exact lp_X10_readRun_15 C hr hlk hn h0  nf _ _ _ _ _ _ _ _ _ hq hw (lv_sub hl [5, 4, 3, 2, 1, 0] rfl)

def wp_X2_closeRange (g : Gh) (M0 : Mem) (a0 : Nat) (p1 : Int32) (p2 : Int64) (post : Int32 → Mem → Prop) : Prop :=
  okc (gB g) M0 a0 2 ∧ (((p1 = 2) → (((mI M0 a0 3) < 1) → post 1 M0) ∧ (¬ ((mI M0 a0 3) < 1) → ∃ q3, mR M0 a0 2 = some q3 ∧ (okc (gB g) M0 q3 15 ∧ ((((mI M0 a0 3) ≤ (nI (mN M0 q3))) → ∃ q7, mR M0 a0 1 = some q7 ∧ (okc (gB g) M0 q7 15 ∧ (vp_in ((mI M0 a0 3) - 1) (mN M0 q7) ∧ (((0 ≤ (lg_cmp p2 (mJ M0 q7 (Int32.toNatClampNeg ((mI M0 a0 3) - 1))))) → vp_in ((mI M0 a0 3) - 1) (mN M0 q3) ∧ (∀ M13, M13 = uJ M0 q3 (Int32.toNatClampNeg ((mI M0 a0 3) - 1)) p2 → (∀ M15, M15 = uI M13 a0 7 1 → (post 0 M15)))) ∧ (¬ (0 ≤ (lg_cmp p2 (mJ M0 q7 (Int32.toNatClampNeg ((mI M0 a0 3) - 1))))) → post 2 M0))))) ∧ (¬ ((mI M0 a0 3) ≤ (nI (mN M0 q3))) → post 1 M0))))) ∧ (¬ (p1 = 2) → post 1 M0))
set_option maxHeartbeats 4000000 in
set_option maxRecDepth 100000 in
theorem ct_X2_closeRange {l : Launch} {g : Gh} {M0 : Mem} {a0 : Nat} {p1 : Int32} {p2 : Int64} {post : Int32 → Mem → Prop} (hq : wp_X2_closeRange g M0 a0 p1 p2 post) : Ct l g yX2_closeRange cX2_closeRange 4 (some .int) 0 0 0 [.ref a0, .int p1, .long p2] M0 (pI post) := by
  unfold wp_X2_closeRange at hq
  obtain ⟨h0, hq⟩ := hq
  refine Ct.of (by decide) (Nat.le_of_ble_eq_true rfl) ?_
  intro p e s m below meth c ls C hr hlk hn hl hw
  have hx := C.1.1
  have hb := C.1.2.1
  have hl : lv_has ls 4 [(0, .ref a0), (1, .int p1), (2, .long p2)] := hl
  refine lv_iload_n hx hb dX2_closeRange_0 rfl (lv_at hl 1 rfl) ?_
  refine lv_iconst (v := 2) hx hb dX2_closeRange_1 (by decide) ?_
  refine lv_icmp_ne (tgt := 25) hx hb dX2_closeRange_2 (by decide) (fun c1 => ?_) (fun c1 => ?_)
  · replace hq := hq.2 c1
    refine lv_iconst (v := 1) hx hb dX2_closeRange_25 (by decide) ?_
    exact r_iret C hr hlk hw dX2_closeRange_26 (by decide) (by decide) ⟨_, rfl, hq⟩
  · replace hq := hq.1 c1
    refine lv_aload_n hx hb dX2_closeRange_5 rfl (lv_at hl 0 rfl) ?_
    refine gfX2_31 C hw hw.2.2.1 h0 dX2_closeRange_6 ?_
    refine lv_iconst (v := 1) hx hb dX2_closeRange_9 (by decide) ?_
    refine lv_icmp_lt (tgt := 25) hx hb dX2_closeRange_10 (by decide) (fun c2 => ?_) (fun c2 => ?_)
    · replace hq := hq.1 c2
      refine lv_iconst (v := 1) hx hb dX2_closeRange_25 (by decide) ?_
      exact r_iret C hr hlk hw dX2_closeRange_26 (by decide) (by decide) ⟨_, rfl, hq⟩
    · replace hq := hq.2 c2
      refine lv_aload_n hx hb dX2_closeRange_13 rfl (lv_at hl 0 rfl) ?_
      refine gfX2_31 C hw hw.2.2.1 h0 dX2_closeRange_14 ?_
      refine lv_aload_n hx hb dX2_closeRange_17 rfl (lv_at hl 0 rfl) ?_
      obtain ⟨q3, e4, hq⟩ := hq
      refine gfX2_21 C hw hw.2.2.1 h0 e4 dX2_closeRange_18 ?_
      obtain ⟨h5, hq⟩ := hq
      refine q_alen C hw hw.2.2.1 h5 (by decide) (by decide) rfl dX2_closeRange_21 ?_
      refine lv_icmp_le (tgt := 27) hx hb dX2_closeRange_22 (by decide) (fun c6 => ?_) (fun c6 => ?_)
      · replace hq := hq.1 c6
        refine lv_lload_n hx hb dX2_closeRange_27 rfl (lv_at hl 2 rfl) ?_
        refine lv_aload_n hx hb dX2_closeRange_28 rfl (lv_at hl 0 rfl) ?_
        obtain ⟨q7, e8, hq⟩ := hq
        refine gfX2_17 C hw hw.2.2.1 h0 e8 dX2_closeRange_29 ?_
        refine lv_aload_n hx hb dX2_closeRange_32 rfl (lv_at hl 0 rfl) ?_
        refine gfX2_31 C hw hw.2.2.1 h0 dX2_closeRange_33 ?_
        refine lv_iconst (v := 1) hx hb dX2_closeRange_36 (by decide) ?_
        refine lv_isub hx hb dX2_closeRange_37 ?_
        obtain ⟨h9, hq⟩ := hq
        obtain ⟨h10, hq⟩ := hq
        refine q_lald C hw hw.2.2.1 h9 h10 dX2_closeRange_38 ?_
        refine W.lcmp hx hb dX2_closeRange_39 ?_
        refine lv_if_ge (tgt := 45) hx hb dX2_closeRange_40 (by decide) (fun c11 => ?_) (fun c11 => ?_)
        · replace hq := hq.1 c11
          refine lv_aload_n hx hb dX2_closeRange_45 rfl (lv_at hl 0 rfl) ?_
          refine gfX2_21 C hw hw.2.2.1 h0 e4 dX2_closeRange_46 ?_
          refine lv_aload_n hx hb dX2_closeRange_49 rfl (lv_at hl 0 rfl) ?_
          refine gfX2_31 C hw hw.2.2.1 h0 dX2_closeRange_50 ?_
          refine lv_iconst (v := 1) hx hb dX2_closeRange_53 (by decide) ?_
          refine lv_isub hx hb dX2_closeRange_54 ?_
          refine lv_lload_n hx hb dX2_closeRange_55 rfl (lv_at hl 2 rfl) ?_
          obtain ⟨h12, hq⟩ := hq
          refine q_last C hw hw.2.2.1 h5 h12 dX2_closeRange_56 (fun H locs hw => ?_)
          generalize e14 : uJ M0 q3 (Int32.toNatClampNeg ((mI M0 a0 3) - 1)) p2 = M13 at hw
          replace hq := hq M13 e14.symm
          have e4 : mR M13 a0 2 = some q3 := by rw [← e14, mR_uJ]; exact e4
          have e8 : mR M13 a0 1 = some q7 := by rw [← e14, mR_uJ]; exact e8
          refine lv_aload_n hx hb dX2_closeRange_57 rfl (lv_at hl 0 rfl) ?_
          refine lv_iconst (v := 1) hx hb dX2_closeRange_58 (by decide) ?_
          refine pfX2_38 C hw hw.2.2.1 h0 dX2_closeRange_59 (fun H locs hw => ?_)
          generalize e16 : uI M13 a0 7 1 = M15 at hw
          replace hq := hq M15 e16.symm
          have e4 : mR M15 a0 2 = some q3 := by rw [← e16, mR_uI]; exact e4
          have e8 : mR M15 a0 1 = some q7 := by rw [← e16, mR_uI]; exact e8
          refine lv_iconst (v := 0) hx hb dX2_closeRange_62 (by decide) ?_
          exact r_iret C hr hlk hw dX2_closeRange_63 (by decide) (by decide) ⟨_, rfl, hq⟩
        · replace hq := hq.2 c11
          refine lv_iconst (v := 2) hx hb dX2_closeRange_43 (by decide) ?_
          exact r_iret C hr hlk hw dX2_closeRange_44 (by decide) (by decide) ⟨_, rfl, hq⟩
      · replace hq := hq.2 c6
        refine lv_iconst (v := 1) hx hb dX2_closeRange_25 (by decide) ?_
        exact r_iret C hr hlk hw dX2_closeRange_26 (by decide) (by decide) ⟨_, rfl, hq⟩

def wp_X2_addItem (g : Gh) (M0 : Mem) (a0 : Nat) (p1 : Int32) (p2 : Int64) (post : Mem → Prop) : Prop :=
  okc (gB g) M0 a0 2 ∧ (∃ q1, mR M0 a0 0 = some q1 ∧ (okc (gB g) M0 q1 13 ∧ ((((nI (mN M0 q1)) ≤ (mI M0 a0 3)) → post M0) ∧ (¬ ((nI (mN M0 q1)) ≤ (mI M0 a0 3)) → vp_in (mI M0 a0 3) (mN M0 q1) ∧ (∀ M6, M6 = uI M0 q1 (Int32.toNatClampNeg (mI M0 a0 3)) (vp_nar .byte ((Int32.toInt8 p1).toInt32)) → (∃ q8, mR M6 a0 1 = some q8 ∧ (okc (gB g) M0 q8 15 ∧ (vp_in (mI M6 a0 3) (mN M0 q8) ∧ (∀ M12, M12 = uJ M6 q8 (Int32.toNatClampNeg (mI M6 a0 3)) p2 → (∃ q14, mR M12 a0 2 = some q14 ∧ (okc (gB g) M0 q14 15 ∧ (vp_in (mI M12 a0 3) (mN M0 q14) ∧ (∀ M18, M18 = uJ M12 q14 (Int32.toNatClampNeg (mI M12 a0 3)) p2 → (∀ M20, M20 = uI M18 a0 3 ((mI M18 a0 3) + 1) → (post M20)))))))))))))))
set_option maxHeartbeats 4000000 in
set_option maxRecDepth 100000 in
theorem ct_X2_addItem {l : Launch} {g : Gh} {M0 : Mem} {a0 : Nat} {p1 : Int32} {p2 : Int64} {post : Mem → Prop} (hq : wp_X2_addItem g M0 a0 p1 p2 post) : Ct l g yX2_addItem cX2_addItem 4 none 0 0 0 [.ref a0, .int p1, .long p2] M0 (pV post) := by
  unfold wp_X2_addItem at hq
  obtain ⟨h0, hq⟩ := hq
  refine Ct.of (by decide) (Nat.le_of_ble_eq_true rfl) ?_
  intro p e s m below meth c ls C hr hlk hn hl hw
  have hx := C.1.1
  have hb := C.1.2.1
  have hl : lv_has ls 4 [(0, .ref a0), (1, .int p1), (2, .long p2)] := hl
  refine lv_aload_n hx hb dX2_addItem_0 rfl (lv_at hl 0 rfl) ?_
  refine gfX2_31 C hw hw.2.2.1 h0 dX2_addItem_1 ?_
  refine lv_aload_n hx hb dX2_addItem_4 rfl (lv_at hl 0 rfl) ?_
  obtain ⟨q1, e2, hq⟩ := hq
  refine gfX2_11 C hw hw.2.2.1 h0 e2 dX2_addItem_5 ?_
  obtain ⟨h3, hq⟩ := hq
  refine q_alen C hw hw.2.2.1 h3 (by decide) (by decide) rfl dX2_addItem_8 ?_
  refine lv_icmp_ge (tgt := 53) hx hb dX2_addItem_9 (by decide) (fun c4 => ?_) (fun c4 => ?_)
  · replace hq := hq.1 c4
    exact r_vret C hr hlk hw dX2_addItem_53 (by decide) (by decide) ⟨rfl, hq⟩
  · replace hq := hq.2 c4
    refine lv_aload_n hx hb dX2_addItem_12 rfl (lv_at hl 0 rfl) ?_
    refine gfX2_11 C hw hw.2.2.1 h0 e2 dX2_addItem_13 ?_
    refine lv_aload_n hx hb dX2_addItem_16 rfl (lv_at hl 0 rfl) ?_
    refine gfX2_31 C hw hw.2.2.1 h0 dX2_addItem_17 ?_
    refine lv_iload_n hx hb dX2_addItem_20 rfl (lv_at hl 1 rfl) ?_
    refine lv_i2b (v := ((Int32.toInt8 p1).toInt32)) hx hb dX2_addItem_21 rfl ?_
    obtain ⟨h5, hq⟩ := hq
    refine q_bast C hw hw.2.2.1 h3 h5 dX2_addItem_22 (fun H locs hw => ?_)
    generalize e7 : uI M0 q1 (Int32.toNatClampNeg (mI M0 a0 3)) (vp_nar .byte ((Int32.toInt8 p1).toInt32)) = M6 at hw
    replace hq := hq M6 e7.symm
    have e2 : mR M6 a0 0 = some q1 := by rw [← e7, mR_uI]; exact e2
    refine lv_aload_n hx hb dX2_addItem_23 rfl (lv_at hl 0 rfl) ?_
    obtain ⟨q8, e9, hq⟩ := hq
    refine gfX2_17 C hw hw.2.2.1 h0 e9 dX2_addItem_24 ?_
    refine lv_aload_n hx hb dX2_addItem_27 rfl (lv_at hl 0 rfl) ?_
    refine gfX2_31 C hw hw.2.2.1 h0 dX2_addItem_28 ?_
    refine lv_lload_n hx hb dX2_addItem_31 rfl (lv_at hl 2 rfl) ?_
    obtain ⟨h10, hq⟩ := hq
    obtain ⟨h11, hq⟩ := hq
    refine q_last C hw hw.2.2.1 h10 h11 dX2_addItem_32 (fun H locs hw => ?_)
    generalize e13 : uJ M6 q8 (Int32.toNatClampNeg (mI M6 a0 3)) p2 = M12 at hw
    replace hq := hq M12 e13.symm
    have e2 : mR M12 a0 0 = some q1 := by rw [← e13, mR_uJ]; exact e2
    have e9 : mR M12 a0 1 = some q8 := by rw [← e13, mR_uJ]; exact e9
    refine lv_aload_n hx hb dX2_addItem_33 rfl (lv_at hl 0 rfl) ?_
    obtain ⟨q14, e15, hq⟩ := hq
    refine gfX2_21 C hw hw.2.2.1 h0 e15 dX2_addItem_34 ?_
    refine lv_aload_n hx hb dX2_addItem_37 rfl (lv_at hl 0 rfl) ?_
    refine gfX2_31 C hw hw.2.2.1 h0 dX2_addItem_38 ?_
    refine lv_lload_n hx hb dX2_addItem_41 rfl (lv_at hl 2 rfl) ?_
    obtain ⟨h16, hq⟩ := hq
    obtain ⟨h17, hq⟩ := hq
    refine q_last C hw hw.2.2.1 h16 h17 dX2_addItem_42 (fun H locs hw => ?_)
    generalize e19 : uJ M12 q14 (Int32.toNatClampNeg (mI M12 a0 3)) p2 = M18 at hw
    replace hq := hq M18 e19.symm
    have e2 : mR M18 a0 0 = some q1 := by rw [← e19, mR_uJ]; exact e2
    have e9 : mR M18 a0 1 = some q8 := by rw [← e19, mR_uJ]; exact e9
    have e15 : mR M18 a0 2 = some q14 := by rw [← e19, mR_uJ]; exact e15
    refine lv_aload_n hx hb dX2_addItem_43 rfl (lv_at hl 0 rfl) ?_
    refine lv_dup hx hb dX2_addItem_44 rfl ?_
    refine gfX2_31 C hw hw.2.2.1 h0 dX2_addItem_45 ?_
    refine lv_iconst (v := 1) hx hb dX2_addItem_48 (by decide) ?_
    refine lv_iadd hx hb dX2_addItem_49 ?_
    refine pfX2_31 C hw hw.2.2.1 h0 dX2_addItem_50 (fun H locs hw => ?_)
    generalize e21 : uI M18 a0 3 ((mI M18 a0 3) + 1) = M20 at hw
    replace hq := hq M20 e21.symm
    have e2 : mR M20 a0 0 = some q1 := by rw [← e21, mR_uI]; exact e2
    have e9 : mR M20 a0 1 = some q8 := by rw [← e21, mR_uI]; exact e9
    have e15 : mR M20 a0 2 = some q14 := by rw [← e21, mR_uI]; exact e15
    exact r_vret C hr hlk hw dX2_addItem_53 (by decide) (by decide) ⟨rfl, hq⟩

def wp_X2_openBracket (g : Gh) (M0 : Mem) (a0 : Nat) (p1 : Int32) (p2 : Int32) (post : Int32 → Mem → Prop) : Prop :=
  okc (gB g) M0 a0 2 ∧ ((((mI M0 a0 6) < 6) → ∃ q2, mR M0 a0 4 = some q2 ∧ (okc (gB g) M0 q2 14 ∧ (vp_in (mI M0 a0 6) (mN M0 q2) ∧ (∀ M6, M6 = uI M0 q2 (Int32.toNatClampNeg (mI M0 a0 6)) p2 → (∃ q8, mR M6 a0 5 = some q8 ∧ (okc (gB g) M0 q8 14 ∧ (vp_in (mI M6 a0 6) (mN M0 q8) ∧ (∀ M12, M12 = uI M6 q8 (Int32.toNatClampNeg (mI M6 a0 6)) 1 → (∀ M14, M14 = uI M12 a0 6 ((mI M12 a0 6) + 1) → (wp_X2_addItem g M14 a0 p1 0 (fun M17 => ∀ M18, M18 = uI M17 a0 7 0 → (post 0 M18)))))))))))) ∧ (¬ ((mI M0 a0 6) < 6) → post 3 M0))
set_option maxHeartbeats 4000000 in
set_option maxRecDepth 100000 in
theorem ct_X2_openBracket {l : Launch} {g : Gh} {M0 : Mem} {a0 : Nat} {p1 : Int32} {p2 : Int32} {post : Int32 → Mem → Prop} (hq : wp_X2_openBracket g M0 a0 p1 p2 post) : Ct l g yX2_openBracket cX2_openBracket 3 (some .int) 1 0 0 [.ref a0, .int p1, .int p2] M0 (pI post) := by
  unfold wp_X2_openBracket at hq
  obtain ⟨h0, hq⟩ := hq
  refine Ct.of (by decide) (Nat.le_of_ble_eq_true rfl) ?_
  intro p e s m below meth c ls C hr hlk hn hl hw
  have hx := C.1.1
  have hb := C.1.2.1
  have hl : lv_has ls 3 [(0, .ref a0), (1, .int p1), (2, .int p2)] := hl
  refine lv_aload_n hx hb dX2_openBracket_0 rfl (lv_at hl 0 rfl) ?_
  refine gfX2_35 C hw hw.2.2.1 h0 dX2_openBracket_1 ?_
  refine lv_bipush (v := 6) hx hb dX2_openBracket_4 (by decide) ?_
  refine lv_icmp_lt (tgt := 11) hx hb dX2_openBracket_6 (by decide) (fun c1 => ?_) (fun c1 => ?_)
  · replace hq := hq.1 c1
    refine lv_aload_n hx hb dX2_openBracket_11 rfl (lv_at hl 0 rfl) ?_
    obtain ⟨q2, e3, hq⟩ := hq
    refine gfX2_24 C hw hw.2.2.1 h0 e3 dX2_openBracket_12 ?_
    refine lv_aload_n hx hb dX2_openBracket_15 rfl (lv_at hl 0 rfl) ?_
    refine gfX2_35 C hw hw.2.2.1 h0 dX2_openBracket_16 ?_
    refine lv_iload_n hx hb dX2_openBracket_19 rfl (lv_at hl 2 rfl) ?_
    obtain ⟨h4, hq⟩ := hq
    obtain ⟨h5, hq⟩ := hq
    refine q_iast C hw hw.2.2.1 h4 h5 dX2_openBracket_20 (fun H locs hw => ?_)
    generalize e7 : uI M0 q2 (Int32.toNatClampNeg (mI M0 a0 6)) p2 = M6 at hw
    replace hq := hq M6 e7.symm
    have e3 : mR M6 a0 4 = some q2 := by rw [← e7, mR_uI]; exact e3
    refine lv_aload_n hx hb dX2_openBracket_21 rfl (lv_at hl 0 rfl) ?_
    obtain ⟨q8, e9, hq⟩ := hq
    refine gfX2_28 C hw hw.2.2.1 h0 e9 dX2_openBracket_22 ?_
    refine lv_aload_n hx hb dX2_openBracket_25 rfl (lv_at hl 0 rfl) ?_
    refine gfX2_35 C hw hw.2.2.1 h0 dX2_openBracket_26 ?_
    refine lv_iconst (v := 1) hx hb dX2_openBracket_29 (by decide) ?_
    obtain ⟨h10, hq⟩ := hq
    obtain ⟨h11, hq⟩ := hq
    refine q_iast C hw hw.2.2.1 h10 h11 dX2_openBracket_30 (fun H locs hw => ?_)
    generalize e13 : uI M6 q8 (Int32.toNatClampNeg (mI M6 a0 6)) 1 = M12 at hw
    replace hq := hq M12 e13.symm
    have e3 : mR M12 a0 4 = some q2 := by rw [← e13, mR_uI]; exact e3
    have e9 : mR M12 a0 5 = some q8 := by rw [← e13, mR_uI]; exact e9
    refine lv_aload_n hx hb dX2_openBracket_31 rfl (lv_at hl 0 rfl) ?_
    refine lv_dup hx hb dX2_openBracket_32 rfl ?_
    refine gfX2_35 C hw hw.2.2.1 h0 dX2_openBracket_33 ?_
    refine lv_iconst (v := 1) hx hb dX2_openBracket_36 (by decide) ?_
    refine lv_iadd hx hb dX2_openBracket_37 ?_
    refine pfX2_35 C hw hw.2.2.1 h0 dX2_openBracket_38 (fun H locs hw => ?_)
    generalize e15 : uI M12 a0 6 ((mI M12 a0 6) + 1) = M14 at hw
    replace hq := hq M14 e15.symm
    have e3 : mR M14 a0 4 = some q2 := by rw [← e15, mR_uI]; exact e3
    have e9 : mR M14 a0 5 = some q8 := by rw [← e15, mR_uI]; exact e9
    refine lv_aload_n hx hb dX2_openBracket_41 rfl (lv_at hl 0 rfl) ?_
    refine lv_iload_n hx hb dX2_openBracket_42 rfl (lv_at hl 1 rfl) ?_
    refine lv_lconst (v := 0) hx hb dX2_openBracket_43 (by decide) ?_
    refine r_callV (T := TX2) (N := 10) (ci := 2) (index := 85) (n := 2) (d2 := 0) (mc := 0) (ms := 0) (As := [.int p1, .long 0]) (rest := []) C hw (ct_X2_addItem hq) kvX2_85 hq.1 (by decide) rfl ⟨by decide, by decide⟩ ⟨by decide, by decide⟩ rfl hl.1 rfl (Nat.le_of_ble_eq_true rfl) dX2_openBracket_44 (fun r M17 H locs hp hle hw => ?_)
    obtain ⟨rfl, hq⟩ := hp
    refine W.eq (g2 := F0 m 47 ls []) rfl ?_
    refine lv_aload_n hx hb dX2_openBracket_47 rfl (lv_at hl 0 rfl) ?_
    refine lv_iconst (v := 0) hx hb dX2_openBracket_48 (by decide) ?_
    refine pfX2_38 C hw hw.2.2.1 h0 dX2_openBracket_49 (fun H locs hw => ?_)
    generalize e19 : uI M17 a0 7 0 = M18 at hw
    replace hq := hq M18 e19.symm
    refine lv_iconst (v := 0) hx hb dX2_openBracket_52 (by decide) ?_
    exact r_iret C hr hlk hw dX2_openBracket_53 (by decide) (by decide) ⟨_, rfl, hq⟩
  · replace hq := hq.2 c1
    refine lv_iconst (v := 3) hx hb dX2_openBracket_9 (by decide) ?_
    exact r_iret C hr hlk hw dX2_openBracket_10 (by decide) (by decide) ⟨_, rfl, hq⟩

def wp_X2_isInnermost (g : Gh) (M0 : Mem) (a0 : Nat) (p1 : Int32) (post : Int32 → Mem → Prop) : Prop :=
  okc (gB g) M0 a0 2 ∧ ((((mI M0 a0 6) < 1) → post 0 M0) ∧ (¬ ((mI M0 a0 6) < 1) → ((6 < (mI M0 a0 6)) → post 0 M0) ∧ (¬ (6 < (mI M0 a0 6)) → ∃ q3, mR M0 a0 4 = some q3 ∧ (okc (gB g) M0 q3 14 ∧ (vp_in ((mI M0 a0 6) - 1) (mN M0 q3) ∧ ((((mI M0 q3 (Int32.toNatClampNeg ((mI M0 a0 6) - 1))) = p1) → post 1 M0) ∧ (¬ ((mI M0 q3 (Int32.toNatClampNeg ((mI M0 a0 6) - 1))) = p1) → post 0 M0)))))))
set_option maxHeartbeats 4000000 in
set_option maxRecDepth 100000 in
theorem ct_X2_isInnermost {l : Launch} {g : Gh} {M0 : Mem} {a0 : Nat} {p1 : Int32} {post : Int32 → Mem → Prop} (hq : wp_X2_isInnermost g M0 a0 p1 post) : Ct l g yX2_isInnermost cX2_isInnermost 2 (some .boolean) 0 0 0 [.ref a0, .int p1] M0 (pI post) := by
  unfold wp_X2_isInnermost at hq
  obtain ⟨h0, hq⟩ := hq
  refine Ct.of (by decide) (Nat.le_of_ble_eq_true rfl) ?_
  intro p e s m below meth c ls C hr hlk hn hl hw
  have hx := C.1.1
  have hb := C.1.2.1
  have hl : lv_has ls 2 [(0, .ref a0), (1, .int p1)] := hl
  refine lv_aload_n hx hb dX2_isInnermost_0 rfl (lv_at hl 0 rfl) ?_
  refine gfX2_35 C hw hw.2.2.1 h0 dX2_isInnermost_1 ?_
  refine lv_iconst (v := 1) hx hb dX2_isInnermost_4 (by decide) ?_
  refine lv_icmp_lt (tgt := 36) hx hb dX2_isInnermost_5 (by decide) (fun c1 => ?_) (fun c1 => ?_)
  · replace hq := hq.1 c1
    refine lv_iconst (v := 0) hx hb dX2_isInnermost_36 (by decide) ?_
    exact r_zret C hr hlk hw dX2_isInnermost_37 (by decide) (by decide) (by decide) ⟨_, rfl, hq⟩
  · replace hq := hq.2 c1
    refine lv_aload_n hx hb dX2_isInnermost_8 rfl (lv_at hl 0 rfl) ?_
    refine gfX2_35 C hw hw.2.2.1 h0 dX2_isInnermost_9 ?_
    refine lv_bipush (v := 6) hx hb dX2_isInnermost_12 (by decide) ?_
    refine lv_icmp_gt (tgt := 36) hx hb dX2_isInnermost_14 (by decide) (fun c2 => ?_) (fun c2 => ?_)
    · replace hq := hq.1 c2
      refine lv_iconst (v := 0) hx hb dX2_isInnermost_36 (by decide) ?_
      exact r_zret C hr hlk hw dX2_isInnermost_37 (by decide) (by decide) (by decide) ⟨_, rfl, hq⟩
    · replace hq := hq.2 c2
      refine lv_aload_n hx hb dX2_isInnermost_17 rfl (lv_at hl 0 rfl) ?_
      obtain ⟨q3, e4, hq⟩ := hq
      refine gfX2_24 C hw hw.2.2.1 h0 e4 dX2_isInnermost_18 ?_
      refine lv_aload_n hx hb dX2_isInnermost_21 rfl (lv_at hl 0 rfl) ?_
      refine gfX2_35 C hw hw.2.2.1 h0 dX2_isInnermost_22 ?_
      refine lv_iconst (v := 1) hx hb dX2_isInnermost_25 (by decide) ?_
      refine lv_isub hx hb dX2_isInnermost_26 ?_
      obtain ⟨h5, hq⟩ := hq
      obtain ⟨h6, hq⟩ := hq
      refine q_iald C hw hw.2.2.1 h5 h6 dX2_isInnermost_27 ?_
      refine lv_iload_n hx hb dX2_isInnermost_28 rfl (lv_at hl 1 rfl) ?_
      refine lv_icmp_ne (tgt := 36) hx hb dX2_isInnermost_29 (by decide) (fun c7 => ?_) (fun c7 => ?_)
      · replace hq := hq.2 c7
        refine lv_iconst (v := 0) hx hb dX2_isInnermost_36 (by decide) ?_
        exact r_zret C hr hlk hw dX2_isInnermost_37 (by decide) (by decide) (by decide) ⟨_, rfl, hq⟩
      · replace hq := hq.1 c7
        refine lv_iconst (v := 1) hx hb dX2_isInnermost_32 (by decide) ?_
        refine lv_goto (tgt := 37) hx hb dX2_isInnermost_33 (by decide) ?_
        exact r_zret C hr hlk hw dX2_isInnermost_37 (by decide) (by decide) (by decide) ⟨_, rfl, hq⟩

def wp_X2_nextOfSet (g : Gh) (M0 : Mem) (a0 : Nat) (p1 : Int32) (post : Int32 → Mem → Prop) : Prop :=
  okc (gB g) M0 a0 2 ∧ (wp_X2_isInnermost g M0 a0 125 (fun v1 M2 => ((v1 = 0) → post 1 M2) ∧ (¬ (v1 = 0) → ∃ q4, mR M2 a0 5 = some q4 ∧ (okc (gB g) M0 q4 14 ∧ (vp_in ((mI M2 a0 6) - 1) (mN M0 q4) ∧ ((((mI M2 q4 (Int32.toNatClampNeg ((mI M2 a0 6) - 1))) < 5) → ∀ M9, M9 = uI M2 q4 (Int32.toNatClampNeg ((mI M2 a0 6) - 1)) ((mI M2 q4 (Int32.toNatClampNeg ((mI M2 a0 6) - 1))) + 1) → (wp_X2_addItem g M9 a0 p1 0 (fun M12 => ∀ M13, M13 = uI M12 a0 7 0 → (post 0 M13)))) ∧ (¬ ((mI M2 q4 (Int32.toNatClampNeg ((mI M2 a0 6) - 1))) < 5) → post 3 M2)))))))
set_option maxHeartbeats 4000000 in
set_option maxRecDepth 100000 in
theorem ct_X2_nextOfSet {l : Launch} {g : Gh} {M0 : Mem} {a0 : Nat} {p1 : Int32} {post : Int32 → Mem → Prop} (hq : wp_X2_nextOfSet g M0 a0 p1 post) : Ct l g yX2_nextOfSet cX2_nextOfSet 2 (some .int) 1 0 0 [.ref a0, .int p1] M0 (pI post) := by
  unfold wp_X2_nextOfSet at hq
  obtain ⟨h0, hq⟩ := hq
  refine Ct.of (by decide) (Nat.le_of_ble_eq_true rfl) ?_
  intro p e s m below meth c ls C hr hlk hn hl hw
  have hx := C.1.1
  have hb := C.1.2.1
  have hl : lv_has ls 2 [(0, .ref a0), (1, .int p1)] := hl
  refine lv_aload_n hx hb dX2_nextOfSet_0 rfl (lv_at hl 0 rfl) ?_
  refine lv_bipush (v := 125) hx hb dX2_nextOfSet_1 (by decide) ?_
  refine r_callV (T := TX2) (N := 10) (ci := 2) (index := 103) (n := 1) (d2 := 0) (mc := 0) (ms := 0) (As := [.int 125]) (rest := []) C hw (ct_X2_isInnermost hq) kvX2_103 hq.1 (by decide) rfl ⟨by decide, by decide⟩ ⟨by decide, by decide⟩ rfl hl.1 rfl (Nat.le_of_ble_eq_true rfl) dX2_nextOfSet_3 (fun r M2 H locs hp hle hw => ?_)
  obtain ⟨v1, rfl, hq⟩ := hp
  refine W.eq (g2 := F0 m 6 ls [.int v1]) rfl ?_
  refine lv_if_ne (tgt := 11) hx hb dX2_nextOfSet_6 (by decide) (fun c3 => ?_) (fun c3 => ?_)
  · replace hq := hq.2 c3
    refine lv_aload_n hx hb dX2_nextOfSet_11 rfl (lv_at hl 0 rfl) ?_
    obtain ⟨q4, e5, hq⟩ := hq
    refine gfX2_28 C hw hw.2.2.1 h0 e5 dX2_nextOfSet_12 ?_
    refine lv_aload_n hx hb dX2_nextOfSet_15 rfl (lv_at hl 0 rfl) ?_
    refine gfX2_35 C hw hw.2.2.1 h0 dX2_nextOfSet_16 ?_
    refine lv_iconst (v := 1) hx hb dX2_nextOfSet_19 (by decide) ?_
    refine lv_isub hx hb dX2_nextOfSet_20 ?_
    obtain ⟨h6, hq⟩ := hq
    obtain ⟨h7, hq⟩ := hq
    refine q_iald C hw hw.2.2.1 h6 h7 dX2_nextOfSet_21 ?_
    refine lv_iconst (v := 5) hx hb dX2_nextOfSet_22 (by decide) ?_
    refine lv_icmp_lt (tgt := 28) hx hb dX2_nextOfSet_23 (by decide) (fun c8 => ?_) (fun c8 => ?_)
    · replace hq := hq.1 c8
      refine lv_aload_n hx hb dX2_nextOfSet_28 rfl (lv_at hl 0 rfl) ?_
      refine gfX2_28 C hw hw.2.2.1 h0 e5 dX2_nextOfSet_29 ?_
      refine lv_aload_n hx hb dX2_nextOfSet_32 rfl (lv_at hl 0 rfl) ?_
      refine gfX2_35 C hw hw.2.2.1 h0 dX2_nextOfSet_33 ?_
      refine lv_iconst (v := 1) hx hb dX2_nextOfSet_36 (by decide) ?_
      refine lv_isub hx hb dX2_nextOfSet_37 ?_
      refine lv_dup2_11 hx hb dX2_nextOfSet_38 rfl rfl ?_
      refine q_iald C hw hw.2.2.1 h6 h7 dX2_nextOfSet_39 ?_
      refine lv_iconst (v := 1) hx hb dX2_nextOfSet_40 (by decide) ?_
      refine lv_iadd hx hb dX2_nextOfSet_41 ?_
      refine q_iast C hw hw.2.2.1 h6 h7 dX2_nextOfSet_42 (fun H locs hw => ?_)
      generalize e10 : uI M2 q4 (Int32.toNatClampNeg ((mI M2 a0 6) - 1)) ((mI M2 q4 (Int32.toNatClampNeg ((mI M2 a0 6) - 1))) + 1) = M9 at hw
      replace hq := hq M9 e10.symm
      have e5 : mR M9 a0 5 = some q4 := by rw [← e10, mR_uI]; exact e5
      refine lv_aload_n hx hb dX2_nextOfSet_43 rfl (lv_at hl 0 rfl) ?_
      refine lv_iload_n hx hb dX2_nextOfSet_44 rfl (lv_at hl 1 rfl) ?_
      refine lv_lconst (v := 0) hx hb dX2_nextOfSet_45 (by decide) ?_
      refine r_callV (T := TX2) (N := 10) (ci := 2) (index := 85) (n := 2) (d2 := 0) (mc := 0) (ms := 0) (As := [.int p1, .long 0]) (rest := []) C hw (ct_X2_addItem hq) kvX2_85 hq.1 (by decide) rfl ⟨by decide, by decide⟩ ⟨by decide, by decide⟩ rfl hl.1 rfl (Nat.le_of_ble_eq_true rfl) dX2_nextOfSet_46 (fun r M12 H locs hp hle hw => ?_)
      obtain ⟨rfl, hq⟩ := hp
      refine W.eq (g2 := F0 m 49 ls []) rfl ?_
      refine lv_aload_n hx hb dX2_nextOfSet_49 rfl (lv_at hl 0 rfl) ?_
      refine lv_iconst (v := 0) hx hb dX2_nextOfSet_50 (by decide) ?_
      refine pfX2_38 C hw hw.2.2.1 h0 dX2_nextOfSet_51 (fun H locs hw => ?_)
      generalize e14 : uI M12 a0 7 0 = M13 at hw
      replace hq := hq M13 e14.symm
      refine lv_iconst (v := 0) hx hb dX2_nextOfSet_54 (by decide) ?_
      exact r_iret C hr hlk hw dX2_nextOfSet_55 (by decide) (by decide) ⟨_, rfl, hq⟩
    · replace hq := hq.2 c8
      refine lv_iconst (v := 3) hx hb dX2_nextOfSet_26 (by decide) ?_
      exact r_iret C hr hlk hw dX2_nextOfSet_27 (by decide) (by decide) ⟨_, rfl, hq⟩
  · replace hq := hq.1 c3
    refine lv_iconst (v := 1) hx hb dX2_nextOfSet_9 (by decide) ?_
    exact r_iret C hr hlk hw dX2_nextOfSet_10 (by decide) (by decide) ⟨_, rfl, hq⟩

def wp_X2_closeBracket (g : Gh) (M0 : Mem) (a0 : Nat) (p1 : Int32) (post : Int32 → Mem → Prop) : Prop :=
  okc (gB g) M0 a0 2 ∧ (wp_X2_isInnermost g M0 a0 p1 (fun v1 M2 => ((v1 = 0) → post 1 M2) ∧ (¬ (v1 = 0) → ∀ M4, M4 = uI M2 a0 6 ((mI M2 a0 6) - 1) → (wp_X2_addItem g M4 a0 p1 0 (fun M7 => ∀ M8, M8 = uI M7 a0 7 1 → (post 0 M8))))))
set_option maxHeartbeats 4000000 in
set_option maxRecDepth 100000 in
theorem ct_X2_closeBracket {l : Launch} {g : Gh} {M0 : Mem} {a0 : Nat} {p1 : Int32} {post : Int32 → Mem → Prop} (hq : wp_X2_closeBracket g M0 a0 p1 post) : Ct l g yX2_closeBracket cX2_closeBracket 2 (some .int) 1 0 0 [.ref a0, .int p1] M0 (pI post) := by
  unfold wp_X2_closeBracket at hq
  obtain ⟨h0, hq⟩ := hq
  refine Ct.of (by decide) (Nat.le_of_ble_eq_true rfl) ?_
  intro p e s m below meth c ls C hr hlk hn hl hw
  have hx := C.1.1
  have hb := C.1.2.1
  have hl : lv_has ls 2 [(0, .ref a0), (1, .int p1)] := hl
  refine lv_aload_n hx hb dX2_closeBracket_0 rfl (lv_at hl 0 rfl) ?_
  refine lv_iload_n hx hb dX2_closeBracket_1 rfl (lv_at hl 1 rfl) ?_
  refine r_callV (T := TX2) (N := 10) (ci := 2) (index := 103) (n := 1) (d2 := 0) (mc := 0) (ms := 0) (As := [.int p1]) (rest := []) C hw (ct_X2_isInnermost hq) kvX2_103 hq.1 (by decide) rfl ⟨by decide, by decide⟩ ⟨by decide, by decide⟩ rfl hl.1 rfl (Nat.le_of_ble_eq_true rfl) dX2_closeBracket_2 (fun r M2 H locs hp hle hw => ?_)
  obtain ⟨v1, rfl, hq⟩ := hp
  refine W.eq (g2 := F0 m 5 ls [.int v1]) rfl ?_
  refine lv_if_ne (tgt := 10) hx hb dX2_closeBracket_5 (by decide) (fun c3 => ?_) (fun c3 => ?_)
  · replace hq := hq.2 c3
    refine lv_aload_n hx hb dX2_closeBracket_10 rfl (lv_at hl 0 rfl) ?_
    refine lv_dup hx hb dX2_closeBracket_11 rfl ?_
    refine gfX2_35 C hw hw.2.2.1 h0 dX2_closeBracket_12 ?_
    refine lv_iconst (v := 1) hx hb dX2_closeBracket_15 (by decide) ?_
    refine lv_isub hx hb dX2_closeBracket_16 ?_
    refine pfX2_35 C hw hw.2.2.1 h0 dX2_closeBracket_17 (fun H locs hw => ?_)
    generalize e5 : uI M2 a0 6 ((mI M2 a0 6) - 1) = M4 at hw
    replace hq := hq M4 e5.symm
    refine lv_aload_n hx hb dX2_closeBracket_20 rfl (lv_at hl 0 rfl) ?_
    refine lv_iload_n hx hb dX2_closeBracket_21 rfl (lv_at hl 1 rfl) ?_
    refine lv_lconst (v := 0) hx hb dX2_closeBracket_22 (by decide) ?_
    refine r_callV (T := TX2) (N := 10) (ci := 2) (index := 85) (n := 2) (d2 := 0) (mc := 0) (ms := 0) (As := [.int p1, .long 0]) (rest := []) C hw (ct_X2_addItem hq) kvX2_85 hq.1 (by decide) rfl ⟨by decide, by decide⟩ ⟨by decide, by decide⟩ rfl hl.1 rfl (Nat.le_of_ble_eq_true rfl) dX2_closeBracket_23 (fun r M7 H locs hp hle hw => ?_)
    obtain ⟨rfl, hq⟩ := hp
    refine W.eq (g2 := F0 m 26 ls []) rfl ?_
    refine lv_aload_n hx hb dX2_closeBracket_26 rfl (lv_at hl 0 rfl) ?_
    refine lv_iconst (v := 1) hx hb dX2_closeBracket_27 (by decide) ?_
    refine pfX2_38 C hw hw.2.2.1 h0 dX2_closeBracket_28 (fun H locs hw => ?_)
    generalize e9 : uI M7 a0 7 1 = M8 at hw
    replace hq := hq M8 e9.symm
    refine lv_iconst (v := 0) hx hb dX2_closeBracket_31 (by decide) ?_
    exact r_iret C hr hlk hw dX2_closeBracket_32 (by decide) (by decide) ⟨_, rfl, hq⟩
  · replace hq := hq.1 c3
    refine lv_iconst (v := 1) hx hb dX2_closeBracket_8 (by decide) ?_
    exact r_iret C hr hlk hw dX2_closeBracket_9 (by decide) (by decide) ⟨_, rfl, hq⟩

def wp_X2_faultBehindPart (g : Gh) (M0 : Mem) (a0 : Nat) (p1 : Int32) (post : Int32 → Mem → Prop) : Prop :=
  okc (gB g) M0 a0 2 ∧ (((p1 = 0) → (((mI M0 a0 6) = 0) → post 0 M0) ∧ (¬ ((mI M0 a0 6) = 0) → post 1 M0)) ∧ ((p1 = 41) → wp_X2_closeBracket g M0 a0 p1 (fun v3 M4 => post v3 M4)) ∧ ((p1 = 44) → wp_X2_nextOfSet g M0 a0 p1 (fun v5 M6 => post v5 M6)) ∧ ((p1 = 46) → (((mI M0 a0 7) = 2) → ∀ M8, M8 = uI M0 a0 7 3 → (post 0 M8)) ∧ (¬ ((mI M0 a0 7) = 2) → post 1 M0)) ∧ ((p1 = 93) → wp_X2_closeBracket g M0 a0 p1 (fun v10 M11 => post v10 M11)) ∧ ((p1 = 124) → wp_X2_addItem g M0 a0 p1 0 (fun M13 => ∀ M14, M14 = uI M13 a0 7 0 → (post 0 M14))) ∧ ((p1 = 125) → wp_X2_closeBracket g M0 a0 p1 (fun v16 M17 => post v16 M17)) ∧ ((¬ (p1 = 0) ∧ ¬ (p1 = 41) ∧ ¬ (p1 = 44) ∧ ¬ (p1 = 46) ∧ ¬ (p1 = 93) ∧ ¬ (p1 = 124) ∧ ¬ (p1 = 125)) → post 1 M0))
set_option maxHeartbeats 4000000 in
set_option maxRecDepth 100000 in
theorem ct_X2_faultBehindPart {l : Launch} {g : Gh} {M0 : Mem} {a0 : Nat} {p1 : Int32} {post : Int32 → Mem → Prop} (hq : wp_X2_faultBehindPart g M0 a0 p1 post) : Ct l g yX2_faultBehindPart cX2_faultBehindPart 2 (some .int) 2 0 0 [.ref a0, .int p1] M0 (pI post) := by
  unfold wp_X2_faultBehindPart at hq
  obtain ⟨h0, hq⟩ := hq
  refine Ct.of (by decide) (Nat.le_of_ble_eq_true rfl) ?_
  intro p e s m below meth c ls C hr hlk hn hl hw
  have hx := C.1.1
  have hb := C.1.2.1
  have hl : lv_has ls 2 [(0, .ref a0), (1, .int p1)] := hl
  refine lv_iload_n hx hb dX2_faultBehindPart_0 rfl (lv_at hl 1 rfl) ?_
  by_cases c18 : p1 = 0
  · refine r_lookup (v := 0) (off := 67) (tgt := 68) hx hb dX2_faultBehindPart_1 (by decide) c18 (by decide +kernel) (by decide) ?_
    replace hq := hq.1 c18
    refine lv_aload_n hx hb dX2_faultBehindPart_68 rfl (lv_at hl 0 rfl) ?_
    refine gfX2_35 C hw hw.2.2.1 h0 dX2_faultBehindPart_69 ?_
    refine lv_if_ne (tgt := 79) hx hb dX2_faultBehindPart_72 (by decide) (fun c2 => ?_) (fun c2 => ?_)
    · replace hq := hq.2 c2
      refine lv_iconst (v := 1) hx hb dX2_faultBehindPart_79 (by decide) ?_
      exact r_iret C hr hlk hw dX2_faultBehindPart_80 (by decide) (by decide) ⟨_, rfl, hq⟩
    · replace hq := hq.1 c2
      refine lv_iconst (v := 0) hx hb dX2_faultBehindPart_75 (by decide) ?_
      refine lv_goto (tgt := 80) hx hb dX2_faultBehindPart_76 (by decide) ?_
      exact r_iret C hr hlk hw dX2_faultBehindPart_80 (by decide) (by decide) ⟨_, rfl, hq⟩
  by_cases c19 : p1 = 41
  · refine r_lookup (v := 41) (off := 116) (tgt := 117) hx hb dX2_faultBehindPart_1 (by decide) c19 (by decide +kernel) (by decide) ?_
    replace hq := hq.2.1 c19
    refine lv_aload_n hx hb dX2_faultBehindPart_117 rfl (lv_at hl 0 rfl) ?_
    refine lv_iload_n hx hb dX2_faultBehindPart_118 rfl (lv_at hl 1 rfl) ?_
    refine r_callV (T := TX2) (N := 10) (ci := 2) (index := 100) (n := 1) (d2 := 1) (mc := 0) (ms := 0) (As := [.int p1]) (rest := []) C hw (ct_X2_closeBracket hq) kvX2_100 hq.1 (by decide) rfl ⟨by decide, by decide⟩ ⟨by decide, by decide⟩ rfl hl.1 rfl (Nat.le_of_ble_eq_true rfl) dX2_faultBehindPart_119 (fun r M4 H locs hp hle hw => ?_)
    obtain ⟨v3, rfl, hq⟩ := hp
    refine W.eq (g2 := F0 m 122 ls [.int v3]) rfl ?_
    exact r_iret C hr hlk hw dX2_faultBehindPart_122 (by decide) (by decide) ⟨_, rfl, hq⟩
  by_cases c20 : p1 = 44
  · refine r_lookup (v := 44) (off := 110) (tgt := 111) hx hb dX2_faultBehindPart_1 (by decide) c20 (by decide +kernel) (by decide) ?_
    replace hq := hq.2.2.1 c20
    refine lv_aload_n hx hb dX2_faultBehindPart_111 rfl (lv_at hl 0 rfl) ?_
    refine lv_iload_n hx hb dX2_faultBehindPart_112 rfl (lv_at hl 1 rfl) ?_
    refine r_callV (T := TX2) (N := 10) (ci := 2) (index := 97) (n := 1) (d2 := 1) (mc := 0) (ms := 0) (As := [.int p1]) (rest := []) C hw (ct_X2_nextOfSet hq) kvX2_97 hq.1 (by decide) rfl ⟨by decide, by decide⟩ ⟨by decide, by decide⟩ rfl hl.1 rfl (Nat.le_of_ble_eq_true rfl) dX2_faultBehindPart_113 (fun r M6 H locs hp hle hw => ?_)
    obtain ⟨v5, rfl, hq⟩ := hp
    refine W.eq (g2 := F0 m 116 ls [.int v5]) rfl ?_
    exact r_iret C hr hlk hw dX2_faultBehindPart_116 (by decide) (by decide) ⟨_, rfl, hq⟩
  by_cases c21 : p1 = 46
  · refine r_lookup (v := 46) (off := 80) (tgt := 81) hx hb dX2_faultBehindPart_1 (by decide) c21 (by decide +kernel) (by decide) ?_
    replace hq := hq.2.2.2.1 c21
    refine lv_aload_n hx hb dX2_faultBehindPart_81 rfl (lv_at hl 0 rfl) ?_
    refine gfX2_38 C hw hw.2.2.1 h0 dX2_faultBehindPart_82 ?_
    refine lv_iconst (v := 2) hx hb dX2_faultBehindPart_85 (by decide) ?_
    refine lv_icmp_eq (tgt := 91) hx hb dX2_faultBehindPart_86 (by decide) (fun c7 => ?_) (fun c7 => ?_)
    · replace hq := hq.1 c7
      refine lv_aload_n hx hb dX2_faultBehindPart_91 rfl (lv_at hl 0 rfl) ?_
      refine lv_iconst (v := 3) hx hb dX2_faultBehindPart_92 (by decide) ?_
      refine pfX2_38 C hw hw.2.2.1 h0 dX2_faultBehindPart_93 (fun H locs hw => ?_)
      generalize e9 : uI M0 a0 7 3 = M8 at hw
      replace hq := hq M8 e9.symm
      refine lv_iconst (v := 0) hx hb dX2_faultBehindPart_96 (by decide) ?_
      exact r_iret C hr hlk hw dX2_faultBehindPart_97 (by decide) (by decide) ⟨_, rfl, hq⟩
    · replace hq := hq.2 c7
      refine lv_iconst (v := 1) hx hb dX2_faultBehindPart_89 (by decide) ?_
      exact r_iret C hr hlk hw dX2_faultBehindPart_90 (by decide) (by decide) ⟨_, rfl, hq⟩
  by_cases c22 : p1 = 93
  · refine r_lookup (v := 93) (off := 116) (tgt := 117) hx hb dX2_faultBehindPart_1 (by decide) c22 (by decide +kernel) (by decide) ?_
    replace hq := hq.2.2.2.2.1 c22
    refine lv_aload_n hx hb dX2_faultBehindPart_117 rfl (lv_at hl 0 rfl) ?_
    refine lv_iload_n hx hb dX2_faultBehindPart_118 rfl (lv_at hl 1 rfl) ?_
    refine r_callV (T := TX2) (N := 10) (ci := 2) (index := 100) (n := 1) (d2 := 1) (mc := 0) (ms := 0) (As := [.int p1]) (rest := []) C hw (ct_X2_closeBracket hq) kvX2_100 hq.1 (by decide) rfl ⟨by decide, by decide⟩ ⟨by decide, by decide⟩ rfl hl.1 rfl (Nat.le_of_ble_eq_true rfl) dX2_faultBehindPart_119 (fun r M11 H locs hp hle hw => ?_)
    obtain ⟨v10, rfl, hq⟩ := hp
    refine W.eq (g2 := F0 m 122 ls [.int v10]) rfl ?_
    exact r_iret C hr hlk hw dX2_faultBehindPart_122 (by decide) (by decide) ⟨_, rfl, hq⟩
  by_cases c23 : p1 = 124
  · refine r_lookup (v := 124) (off := 97) (tgt := 98) hx hb dX2_faultBehindPart_1 (by decide) c23 (by decide +kernel) (by decide) ?_
    replace hq := hq.2.2.2.2.2.1 c23
    refine lv_aload_n hx hb dX2_faultBehindPart_98 rfl (lv_at hl 0 rfl) ?_
    refine lv_iload_n hx hb dX2_faultBehindPart_99 rfl (lv_at hl 1 rfl) ?_
    refine lv_lconst (v := 0) hx hb dX2_faultBehindPart_100 (by decide) ?_
    refine r_callV (T := TX2) (N := 10) (ci := 2) (index := 85) (n := 2) (d2 := 0) (mc := 0) (ms := 0) (As := [.int p1, .long 0]) (rest := []) C hw (ct_X2_addItem hq) kvX2_85 hq.1 (by decide) rfl ⟨by decide, by decide⟩ ⟨by decide, by decide⟩ rfl hl.1 rfl (Nat.le_of_ble_eq_true rfl) dX2_faultBehindPart_101 (fun r M13 H locs hp hle hw => ?_)
    obtain ⟨rfl, hq⟩ := hp
    refine W.eq (g2 := F0 m 104 ls []) rfl ?_
    refine lv_aload_n hx hb dX2_faultBehindPart_104 rfl (lv_at hl 0 rfl) ?_
    refine lv_iconst (v := 0) hx hb dX2_faultBehindPart_105 (by decide) ?_
    refine pfX2_38 C hw hw.2.2.1 h0 dX2_faultBehindPart_106 (fun H locs hw => ?_)
    generalize e15 : uI M13 a0 7 0 = M14 at hw
    replace hq := hq M14 e15.symm
    refine lv_iconst (v := 0) hx hb dX2_faultBehindPart_109 (by decide) ?_
    exact r_iret C hr hlk hw dX2_faultBehindPart_110 (by decide) (by decide) ⟨_, rfl, hq⟩
  by_cases c24 : p1 = 125
  · refine r_lookup (v := 125) (off := 116) (tgt := 117) hx hb dX2_faultBehindPart_1 (by decide) c24 (by decide +kernel) (by decide) ?_
    replace hq := hq.2.2.2.2.2.2.1 c24
    refine lv_aload_n hx hb dX2_faultBehindPart_117 rfl (lv_at hl 0 rfl) ?_
    refine lv_iload_n hx hb dX2_faultBehindPart_118 rfl (lv_at hl 1 rfl) ?_
    refine r_callV (T := TX2) (N := 10) (ci := 2) (index := 100) (n := 1) (d2 := 1) (mc := 0) (ms := 0) (As := [.int p1]) (rest := []) C hw (ct_X2_closeBracket hq) kvX2_100 hq.1 (by decide) rfl ⟨by decide, by decide⟩ ⟨by decide, by decide⟩ rfl hl.1 rfl (Nat.le_of_ble_eq_true rfl) dX2_faultBehindPart_119 (fun r M17 H locs hp hle hw => ?_)
    obtain ⟨v16, rfl, hq⟩ := hp
    refine W.eq (g2 := F0 m 122 ls [.int v16]) rfl ?_
    exact r_iret C hr hlk hw dX2_faultBehindPart_122 (by decide) (by decide) ⟨_, rfl, hq⟩
  refine r_lookupOut (tgt := 123) hx hb dX2_faultBehindPart_1 (by decide) (List.forall_mem_cons.mpr ⟨fun h => c18 (Int32.toInt_inj.mp (h.trans (show (0 : Int) = (0 : Int32).toInt by decide))), List.forall_mem_cons.mpr ⟨fun h => c19 (Int32.toInt_inj.mp (h.trans (show (41 : Int) = (41 : Int32).toInt by decide))), List.forall_mem_cons.mpr ⟨fun h => c20 (Int32.toInt_inj.mp (h.trans (show (44 : Int) = (44 : Int32).toInt by decide))), List.forall_mem_cons.mpr ⟨fun h => c21 (Int32.toInt_inj.mp (h.trans (show (46 : Int) = (46 : Int32).toInt by decide))), List.forall_mem_cons.mpr ⟨fun h => c22 (Int32.toInt_inj.mp (h.trans (show (93 : Int) = (93 : Int32).toInt by decide))), List.forall_mem_cons.mpr ⟨fun h => c23 (Int32.toInt_inj.mp (h.trans (show (124 : Int) = (124 : Int32).toInt by decide))), List.forall_mem_cons.mpr ⟨fun h => c24 (Int32.toInt_inj.mp (h.trans (show (125 : Int) = (125 : Int32).toInt by decide))), List.forall_mem_nil _⟩⟩⟩⟩⟩⟩⟩) (by decide) ?_
  replace hq := hq.2.2.2.2.2.2.2 ⟨c18, c19, c20, c21, c22, c23, c24⟩
  refine lv_iconst (v := 1) hx hb dX2_faultBehindPart_123 (by decide) ?_
  exact r_iret C hr hlk hw dX2_faultBehindPart_124 (by decide) (by decide) ⟨_, rfl, hq⟩

def wp_X2_faultOf (g : Gh) (M0 : Mem) (a0 : Nat) (p1 : Int32) (p2 : Int64) (post : Int32 → Mem → Prop) : Prop :=
  okc (gB g) M0 a0 2 ∧ ((((mI M0 a0 7) = 3) → wp_X2_closeRange g M0 a0 p1 p2 (fun v25 M26 => post v25 M26)) ∧ (¬ ((mI M0 a0 7) = 3) → ((p1 = 1) → wp_X2_addItem g M0 a0 p1 p2 (fun M4 => ∀ M5, M5 = uI M4 a0 7 1 → (post 0 M5))) ∧ ((p1 = 2) → wp_X2_addItem g M0 a0 p1 p2 (fun M8 => ∀ M9, M9 = uI M8 a0 7 2 → (post 0 M9))) ∧ ((p1 = 40) → wp_X2_openBracket g M0 a0 p1 41 (fun v11 M12 => post v11 M12)) ∧ ((p1 = 91) → wp_X2_openBracket g M0 a0 p1 93 (fun v13 M14 => post v13 M14)) ∧ ((p1 = 123) → wp_X2_openBracket g M0 a0 p1 125 (fun v15 M16 => post v15 M16)) ∧ ((¬ (p1 = 1) ∧ ¬ (p1 = 2) ∧ ¬ (p1 = 40) ∧ ¬ (p1 = 91) ∧ ¬ (p1 = 123)) → (((mI M0 a0 7) = 0) → post 1 M0) ∧ (¬ ((mI M0 a0 7) = 0) → wp_X2_faultBehindPart g M0 a0 p1 (fun v18 M19 => post v18 M19)))))
set_option maxHeartbeats 4000000 in
set_option maxRecDepth 100000 in
theorem ct_X2_faultOf {l : Launch} {g : Gh} {M0 : Mem} {a0 : Nat} {p1 : Int32} {p2 : Int64} {post : Int32 → Mem → Prop} (hq : wp_X2_faultOf g M0 a0 p1 p2 post) : Ct l g yX2_faultOf cX2_faultOf 4 (some .int) 3 0 0 [.ref a0, .int p1, .long p2] M0 (pI post) := by
  unfold wp_X2_faultOf at hq
  obtain ⟨h0, hq⟩ := hq
  refine Ct.of (by decide) (Nat.le_of_ble_eq_true rfl) ?_
  intro p e s m below meth c ls C hr hlk hn hl hw
  have hx := C.1.1
  have hb := C.1.2.1
  have hl : lv_has ls 4 [(0, .ref a0), (1, .int p1), (2, .long p2)] := hl
  refine lv_aload_n hx hb dX2_faultOf_0 rfl (lv_at hl 0 rfl) ?_
  refine gfX2_38 C hw hw.2.2.1 h0 dX2_faultOf_1 ?_
  refine lv_iconst (v := 3) hx hb dX2_faultOf_4 (by decide) ?_
  refine lv_icmp_ne (tgt := 15) hx hb dX2_faultOf_5 (by decide) (fun c1 => ?_) (fun c1 => ?_)
  · replace hq := hq.2 c1
    refine lv_iload_n hx hb dX2_faultOf_15 rfl (lv_at hl 1 rfl) ?_
    by_cases c20 : p1 = 1
    · refine r_lookup (v := 1) (off := 52) (tgt := 68) hx hb dX2_faultOf_16 (by decide) c20 (by decide +kernel) (by decide) ?_
      replace hq := hq.1 c20
      refine lv_aload_n hx hb dX2_faultOf_68 rfl (lv_at hl 0 rfl) ?_
      refine lv_iload_n hx hb dX2_faultOf_69 rfl (lv_at hl 1 rfl) ?_
      refine lv_lload_n hx hb dX2_faultOf_70 rfl (lv_at hl 2 rfl) ?_
      refine r_callV (T := TX2) (N := 10) (ci := 2) (index := 85) (n := 2) (d2 := 0) (mc := 0) (ms := 0) (As := [.int p1, .long p2]) (rest := []) C hw (ct_X2_addItem hq) kvX2_85 hq.1 (by decide) rfl ⟨by decide, by decide⟩ ⟨by decide, by decide⟩ rfl hl.1 rfl (Nat.le_of_ble_eq_true rfl) dX2_faultOf_71 (fun r M4 H locs hp hle hw => ?_)
      obtain ⟨rfl, hq⟩ := hp
      refine W.eq (g2 := F0 m 74 ls []) rfl ?_
      refine lv_aload_n hx hb dX2_faultOf_74 rfl (lv_at hl 0 rfl) ?_
      refine lv_iconst (v := 1) hx hb dX2_faultOf_75 (by decide) ?_
      refine pfX2_38 C hw hw.2.2.1 h0 dX2_faultOf_76 (fun H locs hw => ?_)
      generalize e6 : uI M4 a0 7 1 = M5 at hw
      replace hq := hq M5 e6.symm
      refine lv_iconst (v := 0) hx hb dX2_faultOf_79 (by decide) ?_
      exact r_iret C hr hlk hw dX2_faultOf_80 (by decide) (by decide) ⟨_, rfl, hq⟩
    by_cases c21 : p1 = 2
    · refine r_lookup (v := 2) (off := 65) (tgt := 81) hx hb dX2_faultOf_16 (by decide) c21 (by decide +kernel) (by decide) ?_
      replace hq := hq.2.1 c21
      refine lv_aload_n hx hb dX2_faultOf_81 rfl (lv_at hl 0 rfl) ?_
      refine lv_iload_n hx hb dX2_faultOf_82 rfl (lv_at hl 1 rfl) ?_
      refine lv_lload_n hx hb dX2_faultOf_83 rfl (lv_at hl 2 rfl) ?_
      refine r_callV (T := TX2) (N := 10) (ci := 2) (index := 85) (n := 2) (d2 := 0) (mc := 0) (ms := 0) (As := [.int p1, .long p2]) (rest := []) C hw (ct_X2_addItem hq) kvX2_85 hq.1 (by decide) rfl ⟨by decide, by decide⟩ ⟨by decide, by decide⟩ rfl hl.1 rfl (Nat.le_of_ble_eq_true rfl) dX2_faultOf_84 (fun r M8 H locs hp hle hw => ?_)
      obtain ⟨rfl, hq⟩ := hp
      refine W.eq (g2 := F0 m 87 ls []) rfl ?_
      refine lv_aload_n hx hb dX2_faultOf_87 rfl (lv_at hl 0 rfl) ?_
      refine lv_iconst (v := 2) hx hb dX2_faultOf_88 (by decide) ?_
      refine pfX2_38 C hw hw.2.2.1 h0 dX2_faultOf_89 (fun H locs hw => ?_)
      generalize e10 : uI M8 a0 7 2 = M9 at hw
      replace hq := hq M9 e10.symm
      refine lv_iconst (v := 0) hx hb dX2_faultOf_92 (by decide) ?_
      exact r_iret C hr hlk hw dX2_faultOf_93 (by decide) (by decide) ⟨_, rfl, hq⟩
    by_cases c22 : p1 = 40
    · refine r_lookup (v := 40) (off := 86) (tgt := 102) hx hb dX2_faultOf_16 (by decide) c22 (by decide +kernel) (by decide) ?_
      replace hq := hq.2.2.1 c22
      refine lv_aload_n hx hb dX2_faultOf_102 rfl (lv_at hl 0 rfl) ?_
      refine lv_iload_n hx hb dX2_faultOf_103 rfl (lv_at hl 1 rfl) ?_
      refine lv_bipush (v := 41) hx hb dX2_faultOf_104 (by decide) ?_
      refine r_callV (T := TX2) (N := 10) (ci := 2) (index := 89) (n := 2) (d2 := 1) (mc := 0) (ms := 0) (As := [.int p1, .int 41]) (rest := []) C hw (ct_X2_openBracket hq) kvX2_89 hq.1 (by decide) rfl ⟨by decide, by decide⟩ ⟨by decide, by decide⟩ rfl hl.1 rfl (Nat.le_of_ble_eq_true rfl) dX2_faultOf_106 (fun r M12 H locs hp hle hw => ?_)
      obtain ⟨v11, rfl, hq⟩ := hp
      refine W.eq (g2 := F0 m 109 ls [.int v11]) rfl ?_
      exact r_iret C hr hlk hw dX2_faultOf_109 (by decide) (by decide) ⟨_, rfl, hq⟩
    by_cases c23 : p1 = 91
    · refine r_lookup (v := 91) (off := 78) (tgt := 94) hx hb dX2_faultOf_16 (by decide) c23 (by decide +kernel) (by decide) ?_
      replace hq := hq.2.2.2.1 c23
      refine lv_aload_n hx hb dX2_faultOf_94 rfl (lv_at hl 0 rfl) ?_
      refine lv_iload_n hx hb dX2_faultOf_95 rfl (lv_at hl 1 rfl) ?_
      refine lv_bipush (v := 93) hx hb dX2_faultOf_96 (by decide) ?_
      refine r_callV (T := TX2) (N := 10) (ci := 2) (index := 89) (n := 2) (d2 := 1) (mc := 0) (ms := 0) (As := [.int p1, .int 93]) (rest := []) C hw (ct_X2_openBracket hq) kvX2_89 hq.1 (by decide) rfl ⟨by decide, by decide⟩ ⟨by decide, by decide⟩ rfl hl.1 rfl (Nat.le_of_ble_eq_true rfl) dX2_faultOf_98 (fun r M14 H locs hp hle hw => ?_)
      obtain ⟨v13, rfl, hq⟩ := hp
      refine W.eq (g2 := F0 m 101 ls [.int v13]) rfl ?_
      exact r_iret C hr hlk hw dX2_faultOf_101 (by decide) (by decide) ⟨_, rfl, hq⟩
    by_cases c24 : p1 = 123
    · refine r_lookup (v := 123) (off := 94) (tgt := 110) hx hb dX2_faultOf_16 (by decide) c24 (by decide +kernel) (by decide) ?_
      replace hq := hq.2.2.2.2.1 c24
      refine lv_aload_n hx hb dX2_faultOf_110 rfl (lv_at hl 0 rfl) ?_
      refine lv_iload_n hx hb dX2_faultOf_111 rfl (lv_at hl 1 rfl) ?_
      refine lv_bipush (v := 125) hx hb dX2_faultOf_112 (by decide) ?_
      refine r_callV (T := TX2) (N := 10) (ci := 2) (index := 89) (n := 2) (d2 := 1) (mc := 0) (ms := 0) (As := [.int p1, .int 125]) (rest := []) C hw (ct_X2_openBracket hq) kvX2_89 hq.1 (by decide) rfl ⟨by decide, by decide⟩ ⟨by decide, by decide⟩ rfl hl.1 rfl (Nat.le_of_ble_eq_true rfl) dX2_faultOf_114 (fun r M16 H locs hp hle hw => ?_)
      obtain ⟨v15, rfl, hq⟩ := hp
      refine W.eq (g2 := F0 m 117 ls [.int v15]) rfl ?_
      exact r_iret C hr hlk hw dX2_faultOf_117 (by decide) (by decide) ⟨_, rfl, hq⟩
    refine r_lookupOut (tgt := 118) hx hb dX2_faultOf_16 (by decide) (List.forall_mem_cons.mpr ⟨fun h => c20 (Int32.toInt_inj.mp (h.trans (show (1 : Int) = (1 : Int32).toInt by decide))), List.forall_mem_cons.mpr ⟨fun h => c21 (Int32.toInt_inj.mp (h.trans (show (2 : Int) = (2 : Int32).toInt by decide))), List.forall_mem_cons.mpr ⟨fun h => c22 (Int32.toInt_inj.mp (h.trans (show (40 : Int) = (40 : Int32).toInt by decide))), List.forall_mem_cons.mpr ⟨fun h => c23 (Int32.toInt_inj.mp (h.trans (show (91 : Int) = (91 : Int32).toInt by decide))), List.forall_mem_cons.mpr ⟨fun h => c24 (Int32.toInt_inj.mp (h.trans (show (123 : Int) = (123 : Int32).toInt by decide))), List.forall_mem_nil _⟩⟩⟩⟩⟩) (by decide) ?_
    replace hq := hq.2.2.2.2.2 ⟨c20, c21, c22, c23, c24⟩
    refine lv_aload_n hx hb dX2_faultOf_118 rfl (lv_at hl 0 rfl) ?_
    refine gfX2_38 C hw hw.2.2.1 h0 dX2_faultOf_119 ?_
    refine lv_if_ne (tgt := 129) hx hb dX2_faultOf_122 (by decide) (fun c17 => ?_) (fun c17 => ?_)
    · replace hq := hq.2 c17
      refine lv_aload_n hx hb dX2_faultOf_129 rfl (lv_at hl 0 rfl) ?_
      refine lv_iload_n hx hb dX2_faultOf_130 rfl (lv_at hl 1 rfl) ?_
      refine r_callV (T := TX2) (N := 10) (ci := 2) (index := 93) (n := 1) (d2 := 2) (mc := 0) (ms := 0) (As := [.int p1]) (rest := []) C hw (ct_X2_faultBehindPart hq) kvX2_93 hq.1 (by decide) rfl ⟨by decide, by decide⟩ ⟨by decide, by decide⟩ rfl hl.1 rfl (Nat.le_of_ble_eq_true rfl) dX2_faultOf_131 (fun r M19 H locs hp hle hw => ?_)
      obtain ⟨v18, rfl, hq⟩ := hp
      refine W.eq (g2 := F0 m 134 ls [.int v18]) rfl ?_
      exact r_iret C hr hlk hw dX2_faultOf_134 (by decide) (by decide) ⟨_, rfl, hq⟩
    · replace hq := hq.1 c17
      refine lv_iconst (v := 1) hx hb dX2_faultOf_125 (by decide) ?_
      refine lv_goto (tgt := 134) hx hb dX2_faultOf_126 (by decide) ?_
      exact r_iret C hr hlk hw dX2_faultOf_134 (by decide) (by decide) ⟨_, rfl, hq⟩
  · replace hq := hq.1 c1
    refine lv_aload_n hx hb dX2_faultOf_8 rfl (lv_at hl 0 rfl) ?_
    refine lv_iload_n hx hb dX2_faultOf_9 rfl (lv_at hl 1 rfl) ?_
    refine lv_lload_n hx hb dX2_faultOf_10 rfl (lv_at hl 2 rfl) ?_
    refine r_callV (T := TX2) (N := 10) (ci := 2) (index := 82) (n := 2) (d2 := 0) (mc := 0) (ms := 0) (As := [.int p1, .long p2]) (rest := []) C hw (ct_X2_closeRange hq) kvX2_82 hq.1 (by decide) rfl ⟨by decide, by decide⟩ ⟨by decide, by decide⟩ rfl hl.1 rfl (Nat.le_of_ble_eq_true rfl) dX2_faultOf_11 (fun r M26 H locs hp hle hw => ?_)
    obtain ⟨v25, rfl, hq⟩ := hp
    refine W.eq (g2 := F0 m 14 ls [.int v25]) rfl ?_
    exact r_iret C hr hlk hw dX2_faultOf_14 (by decide) (by decide) ⟨_, rfl, hq⟩

def bd_X3_restartForm_2 (g : Gh) (M0 : Mem) (a0 : Nat) (post : Mem → Prop)  (bk2 : Int32 × Mem → Prop) (x1 : Int32)  (M : Mem) : Prop :=
  ((21 ≤ x1) → post M) ∧ (¬ (21 ≤ x1) → ∃ q2, mR M a0 1 = some q2 ∧ (okc (gB g) M0 q2 14 ∧ (vp_in x1 (mN M0 q2) ∧ (∀ M6, M6 = uI M q2 (Int32.toNatClampNeg x1) 0 → (∃ q8, mR M6 a0 0 = some q8 ∧ (okc (gB g) M0 q8 14 ∧ (vp_in x1 (mN M0 q8) ∧ (∀ M12, M12 = uI M6 q8 (Int32.toNatClampNeg x1) (1 <<< (x1 &&& 31)) → (bk2 ((x1 + 1), M12))))))))))
def wp_X3_restartForm (g : Gh) (M0 : Mem) (a0 : Nat) (post : Mem → Prop) : Prop :=
  okc (gB g) M0 a0 3 ∧ ((∃ n : Nat, lfp (fun bk z => bd_X3_restartForm_2 g M0 a0 post  bk z.1 z.2) n (0, M0)))
set_option maxHeartbeats 4000000 in
set_option maxRecDepth 100000 in
theorem lp_X3_restartForm_2 {l : Launch} {g : Gh} {p : Program} {e : Env} {s : State} {m : MethodId} {args : Array Value} {below : List Frame} {meth : Method} {c : Code} {M0 : Mem} {a0 : Nat} {post : Mem → Prop} (C : Cx g p s m args c cX3_restartForm 2 RX3) (hr : meth.sig.returnType = none) (hlk : meth.locks = false) (hn : meth.name = "restartForm") (h0 : okc (gB g) M0 a0 3)  : ∀ (nf : Nat) (x1 : Int32)  (M : Mem) (H : Heap) (locs : List Loc) (ls : Array Slot), lfp (fun bk z => bd_X3_restartForm_2 g M0 a0 post  bk z.1 z.2) nf (x1, M) → Wd g s M0 M H locs → lv_has ls 2 [(0, .ref a0), (1, .int x1)] → W p l e (rmo 0 0 0) s m args below meth c H locs 0 0 (MQ below (Cq g M0 (pV post)) args s 0 0 (gA g)) (F0 m 2 ls []) := by
  have hx := C.1.1
  have hb := C.1.2.1
  intro nf
  induction nf with
  | zero => intro _ _ H locs ls hq; exact hq.elim
  | succ nf hk2 =>
    intro x1 M H locs ls hq hw hl
    replace hq : bd_X3_restartForm_2 g M0 a0 post  (lfp (fun bk z => bd_X3_restartForm_2 g M0 a0 post  bk z.1 z.2) nf) x1 M := hq
    unfold bd_X3_restartForm_2 at hq
    refine lv_iload_n hx hb dX3_restartForm_2 rfl (lv_at hl 1 rfl) ?_
    refine lv_bipush (v := 21) hx hb dX3_restartForm_3 (by decide) ?_
    refine lv_icmp_ge (tgt := 30) hx hb dX3_restartForm_5 (by decide) (fun c1 => ?_) (fun c1 => ?_)
    · replace hq := hq.1 c1
      exact r_vret C hr hlk hw dX3_restartForm_30 (by decide) (by decide) ⟨rfl, hq⟩
    · replace hq := hq.2 c1
      refine lv_aload_n hx hb dX3_restartForm_8 rfl (lv_at hl 0 rfl) ?_
      obtain ⟨q2, e3, hq⟩ := hq
      refine gfX3_15 C hw hw.2.2.1 h0 e3 dX3_restartForm_9 ?_
      refine lv_iload_n hx hb dX3_restartForm_12 rfl (lv_at hl 1 rfl) ?_
      refine lv_iconst (v := 0) hx hb dX3_restartForm_13 (by decide) ?_
      obtain ⟨h4, hq⟩ := hq
      obtain ⟨h5, hq⟩ := hq
      refine q_iast C hw hw.2.2.1 h4 h5 dX3_restartForm_14 (fun H locs hw => ?_)
      generalize e7 : uI M q2 (Int32.toNatClampNeg x1) 0 = M6 at hw
      replace hq := hq M6 e7.symm
      have e3 : mR M6 a0 1 = some q2 := by rw [← e7, mR_uI]; exact e3
      refine lv_aload_n hx hb dX3_restartForm_15 rfl (lv_at hl 0 rfl) ?_
      obtain ⟨q8, e9, hq⟩ := hq
      refine gfX3_11 C hw hw.2.2.1 h0 e9 dX3_restartForm_16 ?_
      refine lv_iload_n hx hb dX3_restartForm_19 rfl (lv_at hl 1 rfl) ?_
      refine lv_iconst (v := 1) hx hb dX3_restartForm_20 (by decide) ?_
      refine lv_iload_n hx hb dX3_restartForm_21 rfl (lv_at hl 1 rfl) ?_
      refine lv_ishl hx hb dX3_restartForm_22 ?_
      obtain ⟨h10, hq⟩ := hq
      obtain ⟨h11, hq⟩ := hq
      refine q_iast C hw hw.2.2.1 h10 h11 dX3_restartForm_23 (fun H locs hw => ?_)
      generalize e13 : uI M6 q8 (Int32.toNatClampNeg x1) (1 <<< (x1 &&& 31)) = M12 at hw
      replace hq := hq M12 e13.symm
      have e3 : mR M12 a0 1 = some q2 := by rw [← e13, mR_uI]; exact e3
      have e9 : mR M12 a0 0 = some q8 := by rw [← e13, mR_uI]; exact e9
      refine lv_iinc (v := (x1 + 1)) (lv' := [(1, .int (x1 + 1)), (0, .ref a0)]) hx hb dX3_restartForm_24 hl (k := 1) rfl rfl (by decide) rfl (fun ls hl => ?_)
      refine lv_goto (tgt := 2) hx hb dX3_restartForm_27 (by decide) ?_
      exact hk2 _ _ _ _ _ hq hw (lv_sub hl [1, 0] rfl)
set_option maxHeartbeats 4000000 in
set_option maxRecDepth 100000 in
theorem ct_X3_restartForm {l : Launch} {g : Gh} {M0 : Mem} {a0 : Nat} {post : Mem → Prop} (hq : wp_X3_restartForm g M0 a0 post) : Ct l g yX3_restartForm cX3_restartForm 2 none 0 0 0 [.ref a0] M0 (pV post) := by
  unfold wp_X3_restartForm at hq
  obtain ⟨h0, hq⟩ := hq
  refine Ct.of (by decide) (Nat.le_of_ble_eq_true rfl) ?_
  intro p e s m below meth c ls C hr hlk hn hl hw
  have hx := C.1.1
  have hb := C.1.2.1
  have hl : lv_has ls 2 [(0, .ref a0)] := hl
  refine lv_iconst (v := 0) hx hb dX3_restartForm_0 (by decide) ?_
  refine lv_istore_n (lv' := [(1, .int 0), (0, .ref a0)]) hx hb dX3_restartForm_1 rfl hl (by decide) rfl (fun ls hl => ?_)
  obtain ⟨nf, hq⟩ := hq
  exact lp_X3_restartForm_2 C hr hlk hn h0  nf _ _ _ _ _ hq hw (lv_sub hl [1, 0] rfl)

def wp_X3_restart (g : Gh) (M0 : Mem) (a0 : Nat) (post : Mem → Prop) : Prop :=
  okc (gB g) M0 a0 3 ∧ (∀ M1, M1 = uI M0 a0 3 0 → (wp_X3_restartForm g M1 a0 (fun M4 => post M4)))
set_option maxHeartbeats 4000000 in
set_option maxRecDepth 100000 in
theorem ct_X3_restart {l : Launch} {g : Gh} {M0 : Mem} {a0 : Nat} {post : Mem → Prop} (hq : wp_X3_restart g M0 a0 post) : Ct l g yX3_restart cX3_restart 1 none 1 0 0 [.ref a0] M0 (pV post) := by
  unfold wp_X3_restart at hq
  obtain ⟨h0, hq⟩ := hq
  refine Ct.of (by decide) (Nat.le_of_ble_eq_true rfl) ?_
  intro p e s m below meth c ls C hr hlk hn hl hw
  have hx := C.1.1
  have hb := C.1.2.1
  have hl : lv_has ls 1 [(0, .ref a0)] := hl
  refine lv_aload_n hx hb dX3_restart_0 rfl (lv_at hl 0 rfl) ?_
  refine lv_iconst (v := 0) hx hb dX3_restart_1 (by decide) ?_
  refine pfX3_23 C hw hw.2.2.1 h0 dX3_restart_2 (fun H locs hw => ?_)
  generalize e2 : uI M0 a0 3 0 = M1 at hw
  replace hq := hq M1 e2.symm
  refine lv_aload_n hx hb dX3_restart_5 rfl (lv_at hl 0 rfl) ?_
  refine r_callV (T := TX3) (N := 5) (ci := 3) (index := 30) (n := 0) (d2 := 0) (mc := 0) (ms := 0) (As := []) (rest := []) C hw (ct_X3_restartForm hq) kvX3_30 hq.1 (by decide) rfl ⟨by decide, by decide⟩ ⟨by decide, by decide⟩ rfl hl.1 rfl (Nat.le_of_ble_eq_true rfl) dX3_restart_6 (fun r M4 H locs hp hle hw => ?_)
  obtain ⟨rfl, hq⟩ := hp
  refine W.eq (g2 := F0 m 9 ls []) rfl ?_
  exact r_vret C hr hlk hw dX3_restart_9 (by decide) (by decide) ⟨rfl, hq⟩

def bd_X3_stepToken_2 (g : Gh) (M0 : Mem) (a0 : Nat) (p1 : Int32) (post : Mem → Prop)  (bk2 : Int32 × Mem → Prop) (x2 : Int32)  (M : Mem) : Prop :=
  ((21 ≤ x2) → post M) ∧ (¬ (21 ≤ x2) → ∃ q2, mR M a0 0 = some q2 ∧ (okc (gB g) M0 q2 14 ∧ (vp_in x2 (mN M0 q2) ∧ (∀ M6, M6 = uI M q2 (Int32.toNatClampNeg x2) (((mI M q2 (Int32.toNatClampNeg x2)) &&& p1) <<< (1 &&& 31)) → (bk2 ((x2 + 1), M6))))))
def wp_X3_stepToken (g : Gh) (M0 : Mem) (a0 : Nat) (p1 : Int32) (post : Mem → Prop) : Prop :=
  okc (gB g) M0 a0 3 ∧ ((∃ n : Nat, lfp (fun bk z => bd_X3_stepToken_2 g M0 a0 p1 post  bk z.1 z.2) n (0, M0)))
set_option maxHeartbeats 4000000 in
set_option maxRecDepth 100000 in
theorem lp_X3_stepToken_2 {l : Launch} {g : Gh} {p : Program} {e : Env} {s : State} {m : MethodId} {args : Array Value} {below : List Frame} {meth : Method} {c : Code} {M0 : Mem} {a0 : Nat} {p1 : Int32} {post : Mem → Prop} (C : Cx g p s m args c cX3_stepToken 3 RX3) (hr : meth.sig.returnType = none) (hlk : meth.locks = false) (hn : meth.name = "stepToken") (h0 : okc (gB g) M0 a0 3)  : ∀ (nf : Nat) (x2 : Int32)  (M : Mem) (H : Heap) (locs : List Loc) (ls : Array Slot), lfp (fun bk z => bd_X3_stepToken_2 g M0 a0 p1 post  bk z.1 z.2) nf (x2, M) → Wd g s M0 M H locs → lv_has ls 3 [(0, .ref a0), (1, .int p1), (2, .int x2)] → W p l e (rmo 0 0 0) s m args below meth c H locs 0 0 (MQ below (Cq g M0 (pV post)) args s 0 0 (gA g)) (F0 m 2 ls []) := by
  have hx := C.1.1
  have hb := C.1.2.1
  intro nf
  induction nf with
  | zero => intro _ _ H locs ls hq; exact hq.elim
  | succ nf hk2 =>
    intro x2 M H locs ls hq hw hl
    replace hq : bd_X3_stepToken_2 g M0 a0 p1 post  (lfp (fun bk z => bd_X3_stepToken_2 g M0 a0 p1 post  bk z.1 z.2) nf) x2 M := hq
    unfold bd_X3_stepToken_2 at hq
    refine lv_iload_n hx hb dX3_stepToken_2 rfl (lv_at hl 2 rfl) ?_
    refine lv_bipush (v := 21) hx hb dX3_stepToken_3 (by decide) ?_
    refine lv_icmp_ge (tgt := 30) hx hb dX3_stepToken_5 (by decide) (fun c1 => ?_) (fun c1 => ?_)
    · replace hq := hq.1 c1
      exact r_vret C hr hlk hw dX3_stepToken_30 (by decide) (by decide) ⟨rfl, hq⟩
    · replace hq := hq.2 c1
      refine lv_aload_n hx hb dX3_stepToken_8 rfl (lv_at hl 0 rfl) ?_
      obtain ⟨q2, e3, hq⟩ := hq
      refine gfX3_11 C hw hw.2.2.1 h0 e3 dX3_stepToken_9 ?_
      refine lv_iload_n hx hb dX3_stepToken_12 rfl (lv_at hl 2 rfl) ?_
      refine lv_aload_n hx hb dX3_stepToken_13 rfl (lv_at hl 0 rfl) ?_
      refine gfX3_11 C hw hw.2.2.1 h0 e3 dX3_stepToken_14 ?_
      refine lv_iload_n hx hb dX3_stepToken_17 rfl (lv_at hl 2 rfl) ?_
      obtain ⟨h4, hq⟩ := hq
      obtain ⟨h5, hq⟩ := hq
      refine q_iald C hw hw.2.2.1 h4 h5 dX3_stepToken_18 ?_
      refine lv_iload_n hx hb dX3_stepToken_19 rfl (lv_at hl 1 rfl) ?_
      refine lv_iand hx hb dX3_stepToken_20 ?_
      refine lv_iconst (v := 1) hx hb dX3_stepToken_21 (by decide) ?_
      refine lv_ishl hx hb dX3_stepToken_22 ?_
      refine q_iast C hw hw.2.2.1 h4 h5 dX3_stepToken_23 (fun H locs hw => ?_)
      generalize e7 : uI M q2 (Int32.toNatClampNeg x2) (((mI M q2 (Int32.toNatClampNeg x2)) &&& p1) <<< (1 &&& 31)) = M6 at hw
      replace hq := hq M6 e7.symm
      have e3 : mR M6 a0 0 = some q2 := by rw [← e7, mR_uI]; exact e3
      refine lv_iinc (v := (x2 + 1)) (lv' := [(2, .int (x2 + 1)), (0, .ref a0), (1, .int p1)]) hx hb dX3_stepToken_24 hl (k := 2) rfl rfl (by decide) rfl (fun ls hl => ?_)
      refine lv_goto (tgt := 2) hx hb dX3_stepToken_27 (by decide) ?_
      exact hk2 _ _ _ _ _ hq hw (lv_sub hl [1, 2, 0] rfl)
set_option maxHeartbeats 4000000 in
set_option maxRecDepth 100000 in
theorem ct_X3_stepToken {l : Launch} {g : Gh} {M0 : Mem} {a0 : Nat} {p1 : Int32} {post : Mem → Prop} (hq : wp_X3_stepToken g M0 a0 p1 post) : Ct l g yX3_stepToken cX3_stepToken 3 none 0 0 0 [.ref a0, .int p1] M0 (pV post) := by
  unfold wp_X3_stepToken at hq
  obtain ⟨h0, hq⟩ := hq
  refine Ct.of (by decide) (Nat.le_of_ble_eq_true rfl) ?_
  intro p e s m below meth c ls C hr hlk hn hl hw
  have hx := C.1.1
  have hb := C.1.2.1
  have hl : lv_has ls 3 [(0, .ref a0), (1, .int p1)] := hl
  refine lv_iconst (v := 0) hx hb dX3_stepToken_0 (by decide) ?_
  refine lv_istore_n (lv' := [(2, .int 0), (0, .ref a0), (1, .int p1)]) hx hb dX3_stepToken_1 rfl hl (by decide) rfl (fun ls hl => ?_)
  obtain ⟨nf, hq⟩ := hq
  exact lp_X3_stepToken_2 C hr hlk hn h0  nf _ _ _ _ _ hq hw (lv_sub hl [1, 2, 0] rfl)

def bd_X3_endsBehind_5 (g : Gh) (M0 : Mem) (p0 : Int32) (a1 : Nat) (p2 : Int32) (post : Int32 → Mem → Prop)  (bk5 : Int32 × Int32 × Mem → Prop) (x3 : Int32) (x4 : Int32)  (M : Mem) : Prop :=
  ((21 ≤ x4) → post x3 M) ∧ (¬ (21 ≤ x4) → (((p0 >>> (x4 &&& 31)) = 0) → post x3 M) ∧ (¬ ((p0 >>> (x4 &&& 31)) = 0) → ((((p0 >>> (x4 &&& 31)) &&& 1) = 1) → (((p2 + x4) < 0) → bk5 (x3, (x4 + 1), M)) ∧ (¬ ((p2 + x4) < 0) → okc (gB g) M0 a1 14 ∧ ((((nI (mN M0 a1)) ≤ (p2 + x4)) → bk5 (x3, (x4 + 1), M)) ∧ (¬ ((nI (mN M0 a1)) ≤ (p2 + x4)) → vp_in (p2 + x4) (mN M0 a1) ∧ (bk5 ((x3 ||| (mI M a1 (Int32.toNatClampNeg (p2 + x4)))), (x4 + 1), M)))))) ∧ (¬ (((p0 >>> (x4 &&& 31)) &&& 1) = 1) → bk5 (x3, (x4 + 1), M))))
def wp_X3_endsBehind (g : Gh) (M0 : Mem) (p0 : Int32) (a1 : Nat) (p2 : Int32) (post : Int32 → Mem → Prop) : Prop :=
  (∃ n : Nat, lfp (fun bk z => bd_X3_endsBehind_5 g M0 p0 a1 p2 post  bk z.1 z.2.1 z.2.2) n (0, 0, M0))
set_option maxHeartbeats 4000000 in
set_option maxRecDepth 100000 in
theorem lp_X3_endsBehind_5 {l : Launch} {g : Gh} {p : Program} {e : Env} {s : State} {m : MethodId} {args : Array Value} {below : List Frame} {meth : Method} {c : Code} {M0 : Mem} {p0 : Int32} {a1 : Nat} {p2 : Int32} {post : Int32 → Mem → Prop} (C : Cx g p s m args c cX3_endsBehind 6 RX3) (hr : meth.sig.returnType = (some .int)) (hlk : meth.locks = false) (hn : meth.name = "endsBehind")   : ∀ (nf : Nat) (x3 : Int32) (x4 : Int32)  (M : Mem) (H : Heap) (locs : List Loc) (ls : Array Slot), lfp (fun bk z => bd_X3_endsBehind_5 g M0 p0 a1 p2 post  bk z.1 z.2.1 z.2.2) nf (x3, x4, M) → Wd g s M0 M H locs → lv_has ls 6 [(0, .int p0), (1, .ref a1), (2, .int p2), (3, .int x3), (4, .int x4)] → W p l e (rmo 0 0 0) s m args below meth c H locs 0 0 (MQ below (Cq g M0 (pI post)) args s 0 0 (gA g)) (F0 m 5 ls []) := by
  have hx := C.1.1
  have hb := C.1.2.1
  intro nf
  induction nf with
  | zero => intro _ _ _ H locs ls hq; exact hq.elim
  | succ nf hk5 =>
    intro x3 x4 M H locs ls hq hw hl
    replace hq : bd_X3_endsBehind_5 g M0 p0 a1 p2 post  (lfp (fun bk z => bd_X3_endsBehind_5 g M0 p0 a1 p2 post  bk z.1 z.2.1 z.2.2) nf) x3 x4 M := hq
    unfold bd_X3_endsBehind_5 at hq
    refine lv_iload hx hb dX3_endsBehind_5 (lv_at hl 4 rfl) ?_
    refine lv_bipush (v := 21) hx hb dX3_endsBehind_7 (by decide) ?_
    refine lv_icmp_ge (tgt := 60) hx hb dX3_endsBehind_9 (by decide) (fun c1 => ?_) (fun c1 => ?_)
    · replace hq := hq.1 c1
      refine lv_iload_n hx hb dX3_endsBehind_60 rfl (lv_at hl 3 rfl) ?_
      exact r_iret C hr hlk hw dX3_endsBehind_61 (by decide) (by decide) ⟨_, rfl, hq⟩
    · replace hq := hq.2 c1
      refine lv_iload_n hx hb dX3_endsBehind_12 rfl (lv_at hl 0 rfl) ?_
      refine lv_iload hx hb dX3_endsBehind_13 (lv_at hl 4 rfl) ?_
      refine lv_ishr hx hb dX3_endsBehind_15 ?_
      refine lv_if_eq (tgt := 60) hx hb dX3_endsBehind_16 (by decide) (fun c2 => ?_) (fun c2 => ?_)
      · replace hq := hq.1 c2
        refine lv_iload_n hx hb dX3_endsBehind_60 rfl (lv_at hl 3 rfl) ?_
        exact r_iret C hr hlk hw dX3_endsBehind_61 (by decide) (by decide) ⟨_, rfl, hq⟩
      · replace hq := hq.2 c2
        refine lv_iload_n hx hb dX3_endsBehind_19 rfl (lv_at hl 2 rfl) ?_
        refine lv_iload hx hb dX3_endsBehind_20 (lv_at hl 4 rfl) ?_
        refine lv_iadd hx hb dX3_endsBehind_22 ?_
        refine lv_istore (lv' := [(5, .int (p2 + x4)), (0, .int p0), (1, .ref a1), (2, .int p2), (3, .int x3), (4, .int x4)]) hx hb dX3_endsBehind_23 hl (by decide) rfl (fun ls hl => ?_)
        refine lv_iload_n hx hb dX3_endsBehind_25 rfl (lv_at hl 1 rfl) ?_
        refine lv_iload hx hb dX3_endsBehind_26 (lv_at hl 5 rfl) ?_
        refine lv_ishr hx hb dX3_endsBehind_28 ?_
        refine lv_iconst (v := 1) hx hb dX3_endsBehind_29 (by decide) ?_
        refine lv_iand hx hb dX3_endsBehind_30 ?_
        refine lv_iconst (v := 1) hx hb dX3_endsBehind_31 (by decide) ?_
        refine lv_icmp_ne (tgt := 54) hx hb dX3_endsBehind_32 (by decide) (fun c3 => ?_) (fun c3 => ?_)
        · replace hq := hq.2 c3
          refine lv_iinc (v := (x4 + 1)) (lv' := [(4, .int (x4 + 1)), (5, .int (p2 + x4)), (0, .int p0), (1, .ref a1), (2, .int p2), (3, .int x3)]) hx hb dX3_endsBehind_54 hl (k := 5) rfl rfl (by decide) rfl (fun ls hl => ?_)
          refine lv_goto (tgt := 5) hx hb dX3_endsBehind_57 (by decide) ?_
          exact hk5 _ _ _ _ _ _ hq hw (lv_sub hl [2, 3, 4, 5, 0] rfl)
        · replace hq := hq.1 c3
          refine lv_iload hx hb dX3_endsBehind_35 (lv_at hl 0 rfl) ?_
          refine lv_if_lt (tgt := 54) hx hb dX3_endsBehind_37 (by decide) (fun c4 => ?_) (fun c4 => ?_)
          · replace hq := hq.1 c4
            refine lv_iinc (v := (x4 + 1)) (lv' := [(4, .int (x4 + 1)), (5, .int (p2 + x4)), (0, .int p0), (1, .ref a1), (2, .int p2), (3, .int x3)]) hx hb dX3_endsBehind_54 hl (k := 5) rfl rfl (by decide) rfl (fun ls hl => ?_)
            refine lv_goto (tgt := 5) hx hb dX3_endsBehind_57 (by decide) ?_
            exact hk5 _ _ _ _ _ _ hq hw (lv_sub hl [2, 3, 4, 5, 0] rfl)
          · replace hq := hq.2 c4
            refine lv_iload hx hb dX3_endsBehind_40 (lv_at hl 0 rfl) ?_
            refine lv_aload_n hx hb dX3_endsBehind_42 rfl (lv_at hl 2 rfl) ?_
            obtain ⟨h5, hq⟩ := hq
            refine q_alen C hw hw.2.2.1 h5 (by decide) (by decide) rfl dX3_endsBehind_43 ?_
            refine lv_icmp_ge (tgt := 54) hx hb dX3_endsBehind_44 (by decide) (fun c6 => ?_) (fun c6 => ?_)
            · replace hq := hq.1 c6
              refine lv_iinc (v := (x4 + 1)) (lv' := [(4, .int (x4 + 1)), (5, .int (p2 + x4)), (0, .int p0), (1, .ref a1), (2, .int p2), (3, .int x3)]) hx hb dX3_endsBehind_54 hl (k := 5) rfl rfl (by decide) rfl (fun ls hl => ?_)
              refine lv_goto (tgt := 5) hx hb dX3_endsBehind_57 (by decide) ?_
              exact hk5 _ _ _ _ _ _ hq hw (lv_sub hl [2, 3, 4, 5, 0] rfl)
            · replace hq := hq.2 c6
              refine lv_iload_n hx hb dX3_endsBehind_47 rfl (lv_at hl 4 rfl) ?_
              refine lv_aload_n hx hb dX3_endsBehind_48 rfl (lv_at hl 2 rfl) ?_
              refine lv_iload hx hb dX3_endsBehind_49 (lv_at hl 0 rfl) ?_
              obtain ⟨h7, hq⟩ := hq
              refine q_iald C hw hw.2.2.1 h5 h7 dX3_endsBehind_51 ?_
              refine lv_ior hx hb dX3_endsBehind_52 ?_
              refine lv_istore_n (lv' := [(3, .int (x3 ||| (mI M a1 (Int32.toNatClampNeg (p2 + x4))))), (5, .int (p2 + x4)), (0, .int p0), (1, .ref a1), (2, .int p2), (4, .int x4)]) hx hb dX3_endsBehind_53 rfl hl (by decide) rfl (fun ls hl => ?_)
              refine lv_iinc (v := (x4 + 1)) (lv' := [(4, .int (x4 + 1)), (3, .int (x3 ||| (mI M a1 (Int32.toNatClampNeg (p2 + x4))))), (5, .int (p2 + x4)), (0, .int p0), (1, .ref a1), (2, .int p2)]) hx hb dX3_endsBehind_54 hl (k := 5) rfl rfl (by decide) rfl (fun ls hl => ?_)
              refine lv_goto (tgt := 5) hx hb dX3_endsBehind_57 (by decide) ?_
              exact hk5 _ _ _ _ _ _ hq hw (lv_sub hl [3, 4, 5, 1, 0] rfl)
set_option maxHeartbeats 4000000 in
set_option maxRecDepth 100000 in
theorem ct_X3_endsBehind {l : Launch} {g : Gh} {M0 : Mem} {p0 : Int32} {a1 : Nat} {p2 : Int32} {post : Int32 → Mem → Prop} (hq : wp_X3_endsBehind g M0 p0 a1 p2 post) : Ct l g yX3_endsBehind cX3_endsBehind 6 (some .int) 0 0 0 [.int p0, .ref a1, .int p2] M0 (pI post) := by
  unfold wp_X3_endsBehind at hq
  refine Ct.of (by decide) (Nat.le_of_ble_eq_true rfl) ?_
  intro p e s m below meth c ls C hr hlk hn hl hw
  have hx := C.1.1
  have hb := C.1.2.1
  have hl : lv_has ls 6 [(0, .int p0), (1, .ref a1), (2, .int p2)] := hl
  refine lv_iconst (v := 0) hx hb dX3_endsBehind_0 (by decide) ?_
  refine lv_istore_n (lv' := [(3, .int 0), (0, .int p0), (1, .ref a1), (2, .int p2)]) hx hb dX3_endsBehind_1 rfl hl (by decide) rfl (fun ls hl => ?_)
  refine lv_iconst (v := 0) hx hb dX3_endsBehind_2 (by decide) ?_
  refine lv_istore (lv' := [(4, .int 0), (3, .int 0), (0, .int p0), (1, .ref a1), (2, .int p2)]) hx hb dX3_endsBehind_3 hl (by decide) rfl (fun ls hl => ?_)
  obtain ⟨nf, hq⟩ := hq
  exact lp_X3_endsBehind_5 C hr hlk hn  nf _ _ _ _ _ _ hq hw (lv_sub hl [2, 3, 4, 1, 0] rfl)

def bd_X3_stepPart_2 (g : Gh) (M0 : Mem) (a0 : Nat) (a1 : Nat) (post : Mem → Prop)  (bk2 : Int32 × Mem → Prop) (x2 : Int32)  (M : Mem) : Prop :=
  ((21 ≤ x2) → post M) ∧ (¬ (21 ≤ x2) → ∃ q2, mR M a0 0 = some q2 ∧ (okc (gB g) M0 q2 14 ∧ (vp_in x2 (mN M0 q2) ∧ (wp_X3_endsBehind g M (mI M q2 (Int32.toNatClampNeg x2)) a1 0 (fun v6 M7 => ∀ M8, M8 = uI M7 q2 (Int32.toNatClampNeg x2) v6 → (bk2 ((x2 + 1), M8)))))))
def wp_X3_stepPart (g : Gh) (M0 : Mem) (a0 : Nat) (a1 : Nat) (post : Mem → Prop) : Prop :=
  okc (gB g) M0 a0 3 ∧ ((∃ n : Nat, lfp (fun bk z => bd_X3_stepPart_2 g M0 a0 a1 post  bk z.1 z.2) n (0, M0)))
set_option maxHeartbeats 4000000 in
set_option maxRecDepth 100000 in
theorem lp_X3_stepPart_2 {l : Launch} {g : Gh} {p : Program} {e : Env} {s : State} {m : MethodId} {args : Array Value} {below : List Frame} {meth : Method} {c : Code} {M0 : Mem} {a0 : Nat} {a1 : Nat} {post : Mem → Prop} (C : Cx g p s m args c cX3_stepPart 3 RX3) (hr : meth.sig.returnType = none) (hlk : meth.locks = false) (hn : meth.name = "stepPart") (h0 : okc (gB g) M0 a0 3)  : ∀ (nf : Nat) (x2 : Int32)  (M : Mem) (H : Heap) (locs : List Loc) (ls : Array Slot), lfp (fun bk z => bd_X3_stepPart_2 g M0 a0 a1 post  bk z.1 z.2) nf (x2, M) → Wd g s M0 M H locs → lv_has ls 3 [(0, .ref a0), (1, .ref a1), (2, .int x2)] → W p l e (rmo 1 0 0) s m args below meth c H locs 0 0 (MQ below (Cq g M0 (pV post)) args s 0 0 (gA g)) (F0 m 2 ls []) := by
  have hx := C.1.1
  have hb := C.1.2.1
  intro nf
  induction nf with
  | zero => intro _ _ H locs ls hq; exact hq.elim
  | succ nf hk2 =>
    intro x2 M H locs ls hq hw hl
    replace hq : bd_X3_stepPart_2 g M0 a0 a1 post  (lfp (fun bk z => bd_X3_stepPart_2 g M0 a0 a1 post  bk z.1 z.2) nf) x2 M := hq
    unfold bd_X3_stepPart_2 at hq
    refine lv_iload_n hx hb dX3_stepPart_2 rfl (lv_at hl 2 rfl) ?_
    refine lv_bipush (v := 21) hx hb dX3_stepPart_3 (by decide) ?_
    refine lv_icmp_ge (tgt := 31) hx hb dX3_stepPart_5 (by decide) (fun c1 => ?_) (fun c1 => ?_)
    · replace hq := hq.1 c1
      exact r_vret C hr hlk hw dX3_stepPart_31 (by decide) (by decide) ⟨rfl, hq⟩
    · replace hq := hq.2 c1
      refine lv_aload_n hx hb dX3_stepPart_8 rfl (lv_at hl 0 rfl) ?_
      obtain ⟨q2, e3, hq⟩ := hq
      refine gfX3_11 C hw hw.2.2.1 h0 e3 dX3_stepPart_9 ?_
      refine lv_iload_n hx hb dX3_stepPart_12 rfl (lv_at hl 2 rfl) ?_
      refine lv_aload_n hx hb dX3_stepPart_13 rfl (lv_at hl 0 rfl) ?_
      refine gfX3_11 C hw hw.2.2.1 h0 e3 dX3_stepPart_14 ?_
      refine lv_iload_n hx hb dX3_stepPart_17 rfl (lv_at hl 2 rfl) ?_
      obtain ⟨h4, hq⟩ := hq
      obtain ⟨h5, hq⟩ := hq
      refine q_iald C hw hw.2.2.1 h4 h5 dX3_stepPart_18 ?_
      refine lv_aload_n hx hb dX3_stepPart_19 rfl (lv_at hl 1 rfl) ?_
      refine lv_iconst (v := 0) hx hb dX3_stepPart_20 (by decide) ?_
      refine r_callS (index := 33) (n := 3) (d2 := 0) (mc := 0) (ms := 0) (As := [.int (mI M q2 (Int32.toNatClampNeg x2)), .ref a1, .int 0]) (rest := [.int x2, .ref q2]) C hw (ct_X3_endsBehind hq) ksX3_33 ⟨by decide, by decide⟩ ⟨by decide, by decide⟩ rfl hl.1 rfl (Nat.le_of_ble_eq_true rfl) dX3_stepPart_21 (fun r M7 H locs hp hle hw => ?_)
      obtain ⟨v6, rfl, hq⟩ := hp
      refine W.eq (g2 := F0 m 24 ls [.int v6, .int x2, .ref q2]) rfl ?_
      refine q_iast C hw hw.2.2.1 h4 h5 dX3_stepPart_24 (fun H locs hw => ?_)
      generalize e9 : uI M7 q2 (Int32.toNatClampNeg x2) v6 = M8 at hw
      replace hq := hq M8 e9.symm
      refine lv_iinc (v := (x2 + 1)) (lv' := [(2, .int (x2 + 1)), (0, .ref a0), (1, .ref a1)]) hx hb dX3_stepPart_25 hl (k := 2) rfl rfl (by decide) rfl (fun ls hl => ?_)
      refine lv_goto (tgt := 2) hx hb dX3_stepPart_28 (by decide) ?_
      exact hk2 _ _ _ _ _ hq hw (lv_sub hl [1, 2, 0] rfl)
set_option maxHeartbeats 4000000 in
set_option maxRecDepth 100000 in
theorem ct_X3_stepPart {l : Launch} {g : Gh} {M0 : Mem} {a0 : Nat} {a1 : Nat} {post : Mem → Prop} (hq : wp_X3_stepPart g M0 a0 a1 post) : Ct l g yX3_stepPart cX3_stepPart 3 none 1 0 0 [.ref a0, .ref a1] M0 (pV post) := by
  unfold wp_X3_stepPart at hq
  obtain ⟨h0, hq⟩ := hq
  refine Ct.of (by decide) (Nat.le_of_ble_eq_true rfl) ?_
  intro p e s m below meth c ls C hr hlk hn hl hw
  have hx := C.1.1
  have hb := C.1.2.1
  have hl : lv_has ls 3 [(0, .ref a0), (1, .ref a1)] := hl
  refine lv_iconst (v := 0) hx hb dX3_stepPart_0 (by decide) ?_
  refine lv_istore_n (lv' := [(2, .int 0), (0, .ref a0), (1, .ref a1)]) hx hb dX3_stepPart_1 rfl hl (by decide) rfl (fun ls hl => ?_)
  obtain ⟨nf, hq⟩ := hq
  exact lp_X3_stepPart_2 C hr hlk hn h0  nf _ _ _ _ _ hq hw (lv_sub hl [1, 2, 0] rfl)

def bd_X3_closeRow_2 (g : Gh) (M0 : Mem) (a0 : Nat) (post : Mem → Prop)  (bk2 : Int32 × Mem → Prop) (x1 : Int32)  (M : Mem) : Prop :=
  ((21 ≤ x1) → post M) ∧ (¬ (21 ≤ x1) → ∃ q2, mR M a0 1 = some q2 ∧ (okc (gB g) M0 q2 14 ∧ (vp_in x1 (mN M0 q2) ∧ (∃ q6, mR M a0 0 = some q6 ∧ (okc (gB g) M0 q6 14 ∧ (vp_in x1 (mN M0 q6) ∧ (∀ M10, M10 = uI M q2 (Int32.toNatClampNeg x1) ((mI M q2 (Int32.toNatClampNeg x1)) ||| (mI M q6 (Int32.toNatClampNeg x1))) → (∀ M12, M12 = uI M10 q6 (Int32.toNatClampNeg x1) (1 <<< (x1 &&& 31)) → (bk2 ((x1 + 1), M12))))))))))
def wp_X3_closeRow (g : Gh) (M0 : Mem) (a0 : Nat) (post : Mem → Prop) : Prop :=
  okc (gB g) M0 a0 3 ∧ ((∃ n : Nat, lfp (fun bk z => bd_X3_closeRow_2 g M0 a0 post  bk z.1 z.2) n (0, M0)))
set_option maxHeartbeats 4000000 in
set_option maxRecDepth 100000 in
theorem lp_X3_closeRow_2 {l : Launch} {g : Gh} {p : Program} {e : Env} {s : State} {m : MethodId} {args : Array Value} {below : List Frame} {meth : Method} {c : Code} {M0 : Mem} {a0 : Nat} {post : Mem → Prop} (C : Cx g p s m args c cX3_closeRow 2 RX3) (hr : meth.sig.returnType = none) (hlk : meth.locks = false) (hn : meth.name = "closeRow") (h0 : okc (gB g) M0 a0 3)  : ∀ (nf : Nat) (x1 : Int32)  (M : Mem) (H : Heap) (locs : List Loc) (ls : Array Slot), lfp (fun bk z => bd_X3_closeRow_2 g M0 a0 post  bk z.1 z.2) nf (x1, M) → Wd g s M0 M H locs → lv_has ls 2 [(0, .ref a0), (1, .int x1)] → W p l e (rmo 0 0 0) s m args below meth c H locs 0 0 (MQ below (Cq g M0 (pV post)) args s 0 0 (gA g)) (F0 m 2 ls []) := by
  have hx := C.1.1
  have hb := C.1.2.1
  intro nf
  induction nf with
  | zero => intro _ _ H locs ls hq; exact hq.elim
  | succ nf hk2 =>
    intro x1 M H locs ls hq hw hl
    replace hq : bd_X3_closeRow_2 g M0 a0 post  (lfp (fun bk z => bd_X3_closeRow_2 g M0 a0 post  bk z.1 z.2) nf) x1 M := hq
    unfold bd_X3_closeRow_2 at hq
    refine lv_iload_n hx hb dX3_closeRow_2 rfl (lv_at hl 1 rfl) ?_
    refine lv_bipush (v := 21) hx hb dX3_closeRow_3 (by decide) ?_
    refine lv_icmp_ge (tgt := 38) hx hb dX3_closeRow_5 (by decide) (fun c1 => ?_) (fun c1 => ?_)
    · replace hq := hq.1 c1
      exact r_vret C hr hlk hw dX3_closeRow_38 (by decide) (by decide) ⟨rfl, hq⟩
    · replace hq := hq.2 c1
      refine lv_aload_n hx hb dX3_closeRow_8 rfl (lv_at hl 0 rfl) ?_
      obtain ⟨q2, e3, hq⟩ := hq
      refine gfX3_15 C hw hw.2.2.1 h0 e3 dX3_closeRow_9 ?_
      refine lv_iload_n hx hb dX3_closeRow_12 rfl (lv_at hl 1 rfl) ?_
      refine lv_dup2_11 hx hb dX3_closeRow_13 rfl rfl ?_
      obtain ⟨h4, hq⟩ := hq
      obtain ⟨h5, hq⟩ := hq
      refine q_iald C hw hw.2.2.1 h4 h5 dX3_closeRow_14 ?_
      refine lv_aload_n hx hb dX3_closeRow_15 rfl (lv_at hl 0 rfl) ?_
      obtain ⟨q6, e7, hq⟩ := hq
      refine gfX3_11 C hw hw.2.2.1 h0 e7 dX3_closeRow_16 ?_
      refine lv_iload_n hx hb dX3_closeRow_19 rfl (lv_at hl 1 rfl) ?_
      obtain ⟨h8, hq⟩ := hq
      obtain ⟨h9, hq⟩ := hq
      refine q_iald C hw hw.2.2.1 h8 h9 dX3_closeRow_20 ?_
      refine lv_ior hx hb dX3_closeRow_21 ?_
      refine q_iast C hw hw.2.2.1 h4 h5 dX3_closeRow_22 (fun H locs hw => ?_)
      generalize e11 : uI M q2 (Int32.toNatClampNeg x1) ((mI M q2 (Int32.toNatClampNeg x1)) ||| (mI M q6 (Int32.toNatClampNeg x1))) = M10 at hw
      replace hq := hq M10 e11.symm
      have e3 : mR M10 a0 1 = some q2 := by rw [← e11, mR_uI]; exact e3
      have e7 : mR M10 a0 0 = some q6 := by rw [← e11, mR_uI]; exact e7
      refine lv_aload_n hx hb dX3_closeRow_23 rfl (lv_at hl 0 rfl) ?_
      refine gfX3_11 C hw hw.2.2.1 h0 e7 dX3_closeRow_24 ?_
      refine lv_iload_n hx hb dX3_closeRow_27 rfl (lv_at hl 1 rfl) ?_
      refine lv_iconst (v := 1) hx hb dX3_closeRow_28 (by decide) ?_
      refine lv_iload_n hx hb dX3_closeRow_29 rfl (lv_at hl 1 rfl) ?_
      refine lv_ishl hx hb dX3_closeRow_30 ?_
      refine q_iast C hw hw.2.2.1 h8 h9 dX3_closeRow_31 (fun H locs hw => ?_)
      generalize e13 : uI M10 q6 (Int32.toNatClampNeg x1) (1 <<< (x1 &&& 31)) = M12 at hw
      replace hq := hq M12 e13.symm
      have e3 : mR M12 a0 1 = some q2 := by rw [← e13, mR_uI]; exact e3
      have e7 : mR M12 a0 0 = some q6 := by rw [← e13, mR_uI]; exact e7
      refine lv_iinc (v := (x1 + 1)) (lv' := [(1, .int (x1 + 1)), (0, .ref a0)]) hx hb dX3_closeRow_32 hl (k := 1) rfl rfl (by decide) rfl (fun ls hl => ?_)
      refine lv_goto (tgt := 2) hx hb dX3_closeRow_35 (by decide) ?_
      exact hk2 _ _ _ _ _ hq hw (lv_sub hl [1, 0] rfl)
set_option maxHeartbeats 4000000 in
set_option maxRecDepth 100000 in
theorem ct_X3_closeRow {l : Launch} {g : Gh} {M0 : Mem} {a0 : Nat} {post : Mem → Prop} (hq : wp_X3_closeRow g M0 a0 post) : Ct l g yX3_closeRow cX3_closeRow 2 none 0 0 0 [.ref a0] M0 (pV post) := by
  unfold wp_X3_closeRow at hq
  obtain ⟨h0, hq⟩ := hq
  refine Ct.of (by decide) (Nat.le_of_ble_eq_true rfl) ?_
  intro p e s m below meth c ls C hr hlk hn hl hw
  have hx := C.1.1
  have hb := C.1.2.1
  have hl : lv_has ls 2 [(0, .ref a0)] := hl
  refine lv_iconst (v := 0) hx hb dX3_closeRow_0 (by decide) ?_
  refine lv_istore_n (lv' := [(1, .int 0), (0, .ref a0)]) hx hb dX3_closeRow_1 rfl hl (by decide) rfl (fun ls hl => ?_)
  obtain ⟨nf, hq⟩ := hq
  exact lp_X3_closeRow_2 C hr hlk hn h0  nf _ _ _ _ _ hq hw (lv_sub hl [1, 0] rfl)

def bd_J7_fill_53178_5 (g : Gh) (M0 : Mem) (a0 : Nat) (p1 : Int32) (post : Mem → Prop)  (bk5 : Int32 × Int32 × Mem → Prop) (x2 : Int32) (x3 : Int32)  (M : Mem) : Prop :=
  ((x3 ≤ x2) → post M) ∧ (¬ (x3 ≤ x2) → okc (gB g) M0 a0 14 ∧ (vp_in x2 (mN M0 a0) ∧ (∀ M4, M4 = uI M a0 (Int32.toNatClampNeg x2) p1 → (bk5 ((x2 + 1), x3, M4)))))
def wp_J7_fill_53178 (g : Gh) (M0 : Mem) (a0 : Nat) (p1 : Int32) (post : Mem → Prop) : Prop :=
  okc (gB g) M0 a0 14 ∧ ((∃ n : Nat, lfp (fun bk z => bd_J7_fill_53178_5 g M0 a0 p1 post  bk z.1 z.2.1 z.2.2) n (0, (nI (mN M0 a0)), M0)))
set_option maxHeartbeats 4000000 in
set_option maxRecDepth 100000 in
theorem lp_J7_fill_53178_5 {l : Launch} {g : Gh} {p : Program} {e : Env} {s : State} {m : MethodId} {args : Array Value} {below : List Frame} {meth : Method} {c : Code} {M0 : Mem} {a0 : Nat} {p1 : Int32} {post : Mem → Prop} (C : Cx g p s m args c cJ7_fill_53178 4 RJ7) (hr : meth.sig.returnType = none) (hlk : meth.locks = false) (hn : meth.name = "fill")   : ∀ (nf : Nat) (x2 : Int32) (x3 : Int32)  (M : Mem) (H : Heap) (locs : List Loc) (ls : Array Slot), lfp (fun bk z => bd_J7_fill_53178_5 g M0 a0 p1 post  bk z.1 z.2.1 z.2.2) nf (x2, x3, M) → Wd g s M0 M H locs → lv_has ls 4 [(0, .ref a0), (1, .int p1), (2, .int x2), (3, .int x3)] → W p l e (rmo 0 0 0) s m args below meth c H locs 0 0 (MQ below (Cq g M0 (pV post)) args s 0 0 (gA g)) (F0 m 5 ls []) := by
  have hx := C.1.1
  have hb := C.1.2.1
  intro nf
  induction nf with
  | zero => intro _ _ _ H locs ls hq; exact hq.elim
  | succ nf hk5 =>
    intro x2 x3 M H locs ls hq hw hl
    replace hq : bd_J7_fill_53178_5 g M0 a0 p1 post  (lfp (fun bk z => bd_J7_fill_53178_5 g M0 a0 p1 post  bk z.1 z.2.1 z.2.2) nf) x2 x3 M := hq
    unfold bd_J7_fill_53178_5 at hq
    refine lv_iload_n hx hb dJ7_fill_53178_5 rfl (lv_at hl 2 rfl) ?_
    refine lv_iload_n hx hb dJ7_fill_53178_6 rfl (lv_at hl 3 rfl) ?_
    refine lv_icmp_ge (tgt := 20) hx hb dJ7_fill_53178_7 (by decide) (fun c1 => ?_) (fun c1 => ?_)
    · replace hq := hq.1 c1
      exact r_vret C hr hlk hw dJ7_fill_53178_20 (by decide) (by decide) ⟨rfl, hq⟩
    · replace hq := hq.2 c1
      refine lv_aload_n hx hb dJ7_fill_53178_10 rfl (lv_at hl 0 rfl) ?_
      refine lv_iload_n hx hb dJ7_fill_53178_11 rfl (lv_at hl 2 rfl) ?_
      refine lv_iload_n hx hb dJ7_fill_53178_12 rfl (lv_at hl 1 rfl) ?_
      obtain ⟨h2, hq⟩ := hq
      obtain ⟨h3, hq⟩ := hq
      refine q_iast C hw hw.2.2.1 h2 h3 dJ7_fill_53178_13 (fun H locs hw => ?_)
      generalize e5 : uI M a0 (Int32.toNatClampNeg x2) p1 = M4 at hw
      replace hq := hq M4 e5.symm
      refine lv_iinc (v := (x2 + 1)) (lv' := [(2, .int (x2 + 1)), (0, .ref a0), (1, .int p1), (3, .int x3)]) hx hb dJ7_fill_53178_14 hl (k := 2) rfl rfl (by decide) rfl (fun ls hl => ?_)
      refine lv_goto (tgt := 5) hx hb dJ7_fill_53178_17 (by decide) ?_
      exact hk5 _ _ _ _ _ _ hq hw (lv_sub hl [1, 2, 0, 3] rfl)
set_option maxHeartbeats 4000000 in
set_option maxRecDepth 100000 in
theorem ct_J7_fill_53178 {l : Launch} {g : Gh} {M0 : Mem} {a0 : Nat} {p1 : Int32} {post : Mem → Prop} (hq : wp_J7_fill_53178 g M0 a0 p1 post) : Ct l g yJ7_fill_53178 cJ7_fill_53178 4 none 0 0 0 [.ref a0, .int p1] M0 (pV post) := by
  unfold wp_J7_fill_53178 at hq
  refine Ct.of (by decide) (Nat.le_of_ble_eq_true rfl) ?_
  intro p e s m below meth c ls C hr hlk hn hl hw
  have hx := C.1.1
  have hb := C.1.2.1
  have hl : lv_has ls 4 [(0, .ref a0), (1, .int p1)] := hl
  refine lv_iconst (v := 0) hx hb dJ7_fill_53178_0 (by decide) ?_
  refine lv_istore_n (lv' := [(2, .int 0), (0, .ref a0), (1, .int p1)]) hx hb dJ7_fill_53178_1 rfl hl (by decide) rfl (fun ls hl => ?_)
  refine lv_aload_n hx hb dJ7_fill_53178_2 rfl (lv_at hl 1 rfl) ?_
  obtain ⟨h6, hq⟩ := hq
  refine q_alen C hw hw.2.2.1 h6 (by decide) (by decide) rfl dJ7_fill_53178_3 ?_
  refine lv_istore_n (lv' := [(3, .int (nI (mN M0 a0))), (2, .int 0), (0, .ref a0), (1, .int p1)]) hx hb dJ7_fill_53178_4 rfl hl (by decide) rfl (fun ls hl => ?_)
  obtain ⟨nf, hq⟩ := hq
  exact lp_J7_fill_53178_5 C hr hlk hn  nf _ _ _ _ _ _ hq hw (lv_sub hl [2, 3, 1, 0] rfl)
