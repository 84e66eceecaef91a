def wp_X11_table (g : Gh) (M0 : Mem) (a0 : Nat) (p1 : Int32) (p2 : Int32) (post : Int32 → Mem → Prop) : Prop :=
  okc (gB g) M0 a0 11 ∧ (∃ q1, mR M0 a0 10 = some q1 ∧ (wp_X5_teamAt g M0 q1 p1 (fun v3 M4 => wp_X11_isTeam g M4 v3 (fun v5 M6 => ((v5 = 0) → post (-1) M6) ∧ (¬ (v5 = 0) → ∃ q8, mR M6 a0 10 = some q8 ∧ (wp_X5_tell g M6 q8 v3 p2 (fun v10 M11 => post v10 M11)))))))
set_option maxHeartbeats 4000000 in
set_option maxRecDepth 100000 in
theorem ct_X11_table {l : Launch} {g : Gh} {M0 : Mem} {a0 : Nat} {p1 : Int32} {p2 : Int32} {post : Int32 → Mem → Prop} (hq : wp_X11_table g M0 a0 p1 p2 post) : Ct l g yX11_table cX11_table 4 (some .int) 4 0 0 [.ref a0, .int p1, .int p2] M0 (pI post) := by
  unfold wp_X11_table at hq
  obtain ⟨h0, hq⟩ := hq
  refine Ct.of (by decide) (Nat.le_of_ble_eq_true rfl) ?_
  intro p e s m below meth c ls C hr hlk hn hl hw
  have hx := C.1.1
  have hb := C.1.2.1
  have hl : lv_has ls 4 [(0, .ref a0), (1, .int p1), (2, .int p2)] := hl
  refine lv_aload_n hx hb dX11_table_0 rfl (lv_at hl 0 rfl) ?_
  obtain ⟨q1, e2, hq⟩ := hq
  refine gfX11_72 C hw hw.2.2.1 h0 e2 dX11_table_1 ?_
  refine lv_iload_n hx hb dX11_table_4 rfl (lv_at hl 1 rfl) ?_
  refine r_callV (T := TX5) (N := 5) (ci := 5) (index := 245) (n := 1) (d2 := 3) (mc := 0) (ms := 0) (As := [.int p1]) (rest := []) C hw (ct_X5_teamAt hq) kvX11_245 hq.1 (by decide) rfl ⟨by decide, by decide⟩ ⟨by decide, by decide⟩ rfl hl.1 rfl (Nat.le_of_ble_eq_true rfl) dX11_table_5 (fun r M4 H locs hp hle hw => ?_)
  obtain ⟨v3, rfl, hq⟩ := hp
  refine W.eq (g2 := F0 m 8 ls [.int v3]) rfl ?_
  refine lv_istore_n (lv' := [(3, .int v3), (0, .ref a0), (1, .int p1), (2, .int p2)]) hx hb dX11_table_8 rfl hl (by decide) rfl (fun ls hl => ?_)
  refine lv_iload_n hx hb dX11_table_9 rfl (lv_at hl 0 rfl) ?_
  refine r_callS (index := 143) (n := 1) (d2 := 0) (mc := 0) (ms := 0) (As := [.int v3]) (rest := []) C hw (ct_X11_isTeam hq) ksX11_143 ⟨by decide, by decide⟩ ⟨by decide, by decide⟩ rfl hl.1 rfl (Nat.le_of_ble_eq_true rfl) dX11_table_10 (fun r M6 H locs hp hle hw => ?_)
  obtain ⟨v5, rfl, hq⟩ := hp
  refine W.eq (g2 := F0 m 13 ls [.int v5]) rfl ?_
  refine lv_if_eq (tgt := 28) hx hb dX11_table_13 (by decide) (fun c7 => ?_) (fun c7 => ?_)
  · replace hq := hq.1 c7
    refine lv_iconst (v := (-1)) hx hb dX11_table_28 (by decide) ?_
    exact r_iret C hr hlk hw dX11_table_29 (by decide) (by decide) ⟨_, rfl, hq⟩
  · replace hq := hq.2 c7
    refine lv_aload_n hx hb dX11_table_16 rfl (lv_at hl 1 rfl) ?_
    obtain ⟨q8, e9, hq⟩ := hq
    refine gfX11_72 C hw hw.2.2.1 h0 e9 dX11_table_17 ?_
    refine lv_iload_n hx hb dX11_table_20 rfl (lv_at hl 0 rfl) ?_
    refine lv_iload_n hx hb dX11_table_21 rfl (lv_at hl 3 rfl) ?_
    refine r_callV (T := TX5) (N := 5) (ci := 5) (index := 248) (n := 2) (d2 := 1) (mc := 0) (ms := 0) (As := [.int v3, .int p2]) (rest := []) C hw (ct_X5_tell hq) kvX11_248 hq.1 (by decide) rfl ⟨by decide, by decide⟩ ⟨by decide, by decide⟩ rfl hl.1 rfl (Nat.le_of_ble_eq_true rfl) dX11_table_22 (fun r M11 H locs hp hle hw => ?_)
    obtain ⟨v10, rfl, hq⟩ := hp
    refine W.eq (g2 := F0 m 25 ls [.int v10]) rfl ?_
    refine lv_goto (tgt := 29) hx hb dX11_table_25 (by decide) ?_
    exact r_iret C hr hlk hw dX11_table_29 (by decide) (by decide) ⟨_, rfl, hq⟩

def wp_X11_count (g : Gh) (M0 : Mem) (a0 : Nat) (p1 : Int32) (post : Int32 → Mem → Prop) : Prop :=
  okc (gB g) M0 a0 11 ∧ (((p1 = 0) → post (mI M0 a0 4) M0) ∧ ((p1 = 1) → ∃ q2, mR M0 a0 5 = some q2 ∧ (okc (gB g) M0 q2 4 ∧ (post (mI M0 q2 1) M0))) ∧ ((p1 = 2) → ∃ q5, mR M0 a0 5 = some q5 ∧ (okc (gB g) M0 q5 4 ∧ (post (mI M0 q5 0) M0))) ∧ ((p1 = 3) → ∃ q8, mR M0 a0 8 = some q8 ∧ (okc (gB g) M0 q8 8 ∧ (post (mI M0 q8 2) M0))) ∧ ((p1 = 4) → ∃ q11, mR M0 a0 8 = some q11 ∧ (okc (gB g) M0 q11 8 ∧ (post (mI M0 q11 3) M0))) ∧ ((p1 = 5) → ∃ q14, mR M0 a0 10 = some q14 ∧ (okc (gB g) M0 q14 5 ∧ (post (mI M0 q14 4) M0))) ∧ ((p1 = 6) → ∃ q17, mR M0 a0 0 = some q17 ∧ (okc (gB g) M0 q17 10 ∧ (post (mI M0 q17 1) M0))) ∧ ((¬ (p1 = 0) ∧ ¬ (p1 = 1) ∧ ¬ (p1 = 2) ∧ ¬ (p1 = 3) ∧ ¬ (p1 = 4) ∧ ¬ (p1 = 5) ∧ ¬ (p1 = 6)) → post (-1) M0))
set_option maxHeartbeats 4000000 in
set_option maxRecDepth 100000 in
theorem ct_X11_count {l : Launch} {g : Gh} {M0 : Mem} {a0 : Nat} {p1 : Int32} {post : Int32 → Mem → Prop} (hq : wp_X11_count g M0 a0 p1 post) : Ct l g yX11_count cX11_count 2 (some .int) 0 0 0 [.ref a0, .int p1] M0 (pI post) := by
  unfold wp_X11_count at hq
  obtain ⟨h0, hq⟩ := hq
  refine Ct.of (by decide) (Nat.le_of_ble_eq_true rfl) ?_
  intro p e s m below meth c ls C hr hlk hn hl hw
  have hx := C.1.1
  have hb := C.1.2.1
  have hl : lv_has ls 2 [(0, .ref a0), (1, .int p1)] := hl
  refine lv_iload_n hx hb dX11_count_0 rfl (lv_at hl 1 rfl) ?_
  by_cases c20 : p1 = 0
  · refine r_table (v := 0) (off := 43) (tgt := 44) hx hb dX11_count_1 c20 (by decide) (by decide) rfl (by decide) ?_
    replace hq := hq.1 c20
    refine lv_aload_n hx hb dX11_count_44 rfl (lv_at hl 0 rfl) ?_
    refine gfX11_36 C hw hw.2.2.1 h0 dX11_count_45 ?_
    exact r_iret C hr hlk hw dX11_count_48 (by decide) (by decide) ⟨_, rfl, hq⟩
  by_cases c21 : p1 = 1
  · refine r_table (v := 1) (off := 48) (tgt := 49) hx hb dX11_count_1 c21 (by decide) (by decide) rfl (by decide) ?_
    replace hq := hq.2.1 c21
    refine lv_aload_n hx hb dX11_count_49 rfl (lv_at hl 0 rfl) ?_
    obtain ⟨q2, e3, hq⟩ := hq
    refine gfX11_43 C hw hw.2.2.1 h0 e3 dX11_count_50 ?_
    obtain ⟨h4, hq⟩ := hq
    refine gfX11_152 C hw hw.2.2.1 h4 dX11_count_53 ?_
    exact r_iret C hr hlk hw dX11_count_56 (by decide) (by decide) ⟨_, rfl, hq⟩
  by_cases c22 : p1 = 2
  · refine r_table (v := 2) (off := 56) (tgt := 57) hx hb dX11_count_1 c22 (by decide) (by decide) rfl (by decide) ?_
    replace hq := hq.2.2.1 c22
    refine lv_aload_n hx hb dX11_count_57 rfl (lv_at hl 0 rfl) ?_
    obtain ⟨q5, e6, hq⟩ := hq
    refine gfX11_43 C hw hw.2.2.1 h0 e6 dX11_count_58 ?_
    obtain ⟨h7, hq⟩ := hq
    refine gfX11_250 C hw hw.2.2.1 h7 dX11_count_61 ?_
    exact r_iret C hr hlk hw dX11_count_64 (by decide) (by decide) ⟨_, rfl, hq⟩
  by_cases c23 : p1 = 3
  · refine r_table (v := 3) (off := 64) (tgt := 65) hx hb dX11_count_1 c23 (by decide) (by decide) rfl (by decide) ?_
    replace hq := hq.2.2.2.1 c23
    refine lv_aload_n hx hb dX11_count_65 rfl (lv_at hl 0 rfl) ?_
    obtain ⟨q8, e9, hq⟩ := hq
    refine gfX11_56 C hw hw.2.2.1 h0 e9 dX11_count_66 ?_
    obtain ⟨h10, hq⟩ := hq
    refine gfX11_183 C hw hw.2.2.1 h10 dX11_count_69 ?_
    exact r_iret C hr hlk hw dX11_count_72 (by decide) (by decide) ⟨_, rfl, hq⟩
  by_cases c24 : p1 = 4
  · refine r_table (v := 4) (off := 72) (tgt := 73) hx hb dX11_count_1 c24 (by decide) (by decide) rfl (by decide) ?_
    replace hq := hq.2.2.2.2.1 c24
    refine lv_aload_n hx hb dX11_count_73 rfl (lv_at hl 0 rfl) ?_
    obtain ⟨q11, e12, hq⟩ := hq
    refine gfX11_56 C hw hw.2.2.1 h0 e12 dX11_count_74 ?_
    obtain ⟨h13, hq⟩ := hq
    refine gfX11_253 C hw hw.2.2.1 h13 dX11_count_77 ?_
    exact r_iret C hr hlk hw dX11_count_80 (by decide) (by decide) ⟨_, rfl, hq⟩
  by_cases c25 : p1 = 5
  · refine r_table (v := 5) (off := 80) (tgt := 81) hx hb dX11_count_1 c25 (by decide) (by decide) rfl (by decide) ?_
    replace hq := hq.2.2.2.2.2.1 c25
    refine lv_aload_n hx hb dX11_count_81 rfl (lv_at hl 0 rfl) ?_
    obtain ⟨q14, e15, hq⟩ := hq
    refine gfX11_72 C hw hw.2.2.1 h0 e15 dX11_count_82 ?_
    obtain ⟨h16, hq⟩ := hq
    refine gfX11_256 C hw hw.2.2.1 h16 dX11_count_85 ?_
    exact r_iret C hr hlk hw dX11_count_88 (by decide) (by decide) ⟨_, rfl, hq⟩
  by_cases c26 : p1 = 6
  · refine r_table (v := 6) (off := 88) (tgt := 89) hx hb dX11_count_1 c26 (by decide) (by decide) rfl (by decide) ?_
    replace hq := hq.2.2.2.2.2.2.1 c26
    refine lv_aload_n hx hb dX11_count_89 rfl (lv_at hl 0 rfl) ?_
    obtain ⟨q17, e18, hq⟩ := hq
    refine gfX11_10 C hw hw.2.2.1 h0 e18 dX11_count_90 ?_
    obtain ⟨h19, hq⟩ := hq
    refine gfX11_84 C hw hw.2.2.1 h19 dX11_count_93 ?_
    exact r_iret C hr hlk hw dX11_count_96 (by decide) (by decide) ⟨_, rfl, hq⟩
  refine r_tableOut (tgt := 97) (k := 6) hx hb dX11_count_1 (by decide) (fun j hj => by rcases (show j = 0 ∨ j = 1 ∨ j = 2 ∨ j = 3 ∨ j = 4 ∨ j = 5 ∨ j = 6 by omega) with rfl | rfl | rfl | rfl | rfl | rfl | rfl <;> assumption) (by decide) ?_
  replace hq := hq.2.2.2.2.2.2.2 ⟨c20, c21, c22, c23, c24, c25, c26⟩
  refine lv_iconst (v := (-1)) hx hb dX11_count_97 (by decide) ?_
  exact r_iret C hr hlk hw dX11_count_98 (by decide) (by decide) ⟨_, rfl, hq⟩

def wp_X12_thrown (g : Gh) (M0 : Mem) (a0 : Nat) (post : Int32 → Mem → Prop) : Prop :=
  okc (gB g) M0 a0 12 ∧ (post (mI M0 a0 0) M0)
set_option maxHeartbeats 4000000 in
set_option maxRecDepth 100000 in
theorem ct_X12_thrown {l : Launch} {g : Gh} {M0 : Mem} {a0 : Nat} {post : Int32 → Mem → Prop} (hq : wp_X12_thrown g M0 a0 post) : Ct l g yX12_thrown cX12_thrown 1 (some .int) 0 0 0 [.ref a0] M0 (pI post) := by
  unfold wp_X12_thrown at hq
  obtain ⟨h0, hq⟩ := hq
  refine Ct.of (by decide) (Nat.le_of_ble_eq_true rfl) ?_
  intro p e s m below meth c ls C hr hlk hn hl hw
  have hx := C.1.1
  have hb := C.1.2.1
  have hl : lv_has ls 1 [(0, .ref a0)] := hl
  refine lv_aload_n hx hb dX12_thrown_0 rfl (lv_at hl 0 rfl) ?_
  refine gfX12_123 C hw hw.2.2.1 h0 dX12_thrown_1 ?_
  exact r_iret C hr hlk hw dX12_thrown_4 (by decide) (by decide) ⟨_, rfl, hq⟩

def bd_X12_come_3 (g : Gh) (M0 : Mem) (a0 : Nat) (p1 : Int32) (post : Mem → Prop)  (bk3 : Int32 × Mem → Prop) (x2 : Int32)  (M : Mem) : Prop :=
  ((x2 < 0) → post M) ∧ (¬ (x2 < 0) → ∃ q2, mR M a0 1 = some q2 ∧ (okc (gB g) M0 q2 14 ∧ (vp_in (mI M a0 2) (mN M0 q2) ∧ (∀ M6, M6 = uI M q2 (Int32.toNatClampNeg (mI M a0 2)) (((Int32.toUInt32 p1 >>> (Int32.toUInt32 x2 &&& Int32.toUInt32 31)).toInt32) &&& 255) → (∀ M8, M8 = uI M6 a0 2 ((mI M6 a0 2) + 1) → (bk3 ((x2 + (-8)), M8)))))))
def wp_X12_come (g : Gh) (M0 : Mem) (a0 : Nat) (p1 : Int32) (post : Mem → Prop) : Prop :=
  okc (gB g) M0 a0 12 ∧ ((∃ n : Nat, lfp (fun bk z => bd_X12_come_3 g M0 a0 p1 post  bk z.1 z.2) n (24, M0)))
set_option maxHeartbeats 4000000 in
set_option maxRecDepth 100000 in
theorem lp_X12_come_3 {l : Launch} {g : Gh} {p : Program} {e : Env} {s : State} {m : MethodId} {args : Array Value} {below : List Frame} {meth : Method} {c : Code} {M0 : Mem} {a0 : Nat} {p1 : Int32} {post : Mem → Prop} (C : Cx g p s m args c cX12_come 3 RX12) (hr : meth.sig.returnType = none) (hlk : meth.locks = false) (hn : meth.name = "come") (h0 : okc (gB g) M0 a0 12)  : ∀ (nf : Nat) (x2 : Int32)  (M : Mem) (H : Heap) (locs : List Loc) (ls : Array Slot), lfp (fun bk z => bd_X12_come_3 g M0 a0 p1 post  bk z.1 z.2) nf (x2, M) → Wd g s M0 M H locs → lv_has ls 3 [(0, .ref a0), (1, .int p1), (2, .int x2)] → W p l e (rmo 0 0 0) s m args below meth c H locs 0 0 (MQ below (Cq g M0 (pV post)) args s 0 0 (gA g)) (F0 m 3 ls []) := by
  have hx := C.1.1
  have hb := C.1.2.1
  intro nf
  induction nf with
  | zero => intro _ _ H locs ls hq; exact hq.elim
  | succ nf hk3 =>
    intro x2 M H locs ls hq hw hl
    replace hq : bd_X12_come_3 g M0 a0 p1 post  (lfp (fun bk z => bd_X12_come_3 g M0 a0 p1 post  bk z.1 z.2) nf) x2 M := hq
    unfold bd_X12_come_3 at hq
    refine lv_iload_n hx hb dX12_come_3 rfl (lv_at hl 2 rfl) ?_
    refine lv_if_lt (tgt := 39) hx hb dX12_come_4 (by decide) (fun c1 => ?_) (fun c1 => ?_)
    · replace hq := hq.1 c1
      exact r_vret C hr hlk hw dX12_come_39 (by decide) (by decide) ⟨rfl, hq⟩
    · replace hq := hq.2 c1
      refine lv_aload_n hx hb dX12_come_7 rfl (lv_at hl 0 rfl) ?_
      obtain ⟨q2, e3, hq⟩ := hq
      refine gfX12_7 C hw hw.2.2.1 h0 e3 dX12_come_8 ?_
      refine lv_aload_n hx hb dX12_come_11 rfl (lv_at hl 0 rfl) ?_
      refine gfX12_127 C hw hw.2.2.1 h0 dX12_come_12 ?_
      refine lv_iload_n hx hb dX12_come_15 rfl (lv_at hl 1 rfl) ?_
      refine lv_iload_n hx hb dX12_come_16 rfl (lv_at hl 2 rfl) ?_
      refine lv_iushr (v := ((Int32.toUInt32 p1 >>> (Int32.toUInt32 x2 &&& Int32.toUInt32 31)).toInt32)) hx hb dX12_come_17 rfl ?_
      refine lv_sipush (v := 255) hx hb dX12_come_18 (by decide) ?_
      refine lv_iand hx hb dX12_come_21 ?_
      obtain ⟨h4, hq⟩ := hq
      obtain ⟨h5, hq⟩ := hq
      refine q_iast C hw hw.2.2.1 h4 h5 dX12_come_22 (fun H locs hw => ?_)
      generalize e7 : uI M q2 (Int32.toNatClampNeg (mI M a0 2)) (((Int32.toUInt32 p1 >>> (Int32.toUInt32 x2 &&& Int32.toUInt32 31)).toInt32) &&& 255) = M6 at hw
      replace hq := hq M6 e7.symm
      have e3 : mR M6 a0 1 = some q2 := by rw [← e7, mR_uI]; exact e3
      refine lv_aload_n hx hb dX12_come_23 rfl (lv_at hl 0 rfl) ?_
      refine lv_dup hx hb dX12_come_24 rfl ?_
      refine gfX12_127 C hw hw.2.2.1 h0 dX12_come_25 ?_
      refine lv_iconst (v := 1) hx hb dX12_come_28 (by decide) ?_
      refine lv_iadd hx hb dX12_come_29 ?_
      refine pfX12_127 C hw hw.2.2.1 h0 dX12_come_30 (fun H locs hw => ?_)
      generalize e9 : uI M6 a0 2 ((mI M6 a0 2) + 1) = M8 at hw
      replace hq := hq M8 e9.symm
      have e3 : mR M8 a0 1 = some q2 := by rw [← e9, mR_uI]; exact e3
      refine lv_iinc (v := (x2 + (-8))) (lv' := [(2, .int (x2 + (-8))), (0, .ref a0), (1, .int p1)]) hx hb dX12_come_33 hl (k := 2) rfl rfl (by decide) rfl (fun ls hl => ?_)
      refine lv_goto (tgt := 3) hx hb dX12_come_36 (by decide) ?_
      exact hk3 _ _ _ _ _ hq hw (lv_sub hl [1, 2, 0] rfl)
set_option maxHeartbeats 4000000 in
set_option maxRecDepth 100000 in
theorem ct_X12_come {l : Launch} {g : Gh} {M0 : Mem} {a0 : Nat} {p1 : Int32} {post : Mem → Prop} (hq : wp_X12_come g M0 a0 p1 post) : Ct l g yX12_come cX12_come 3 none 0 0 0 [.ref a0, .int p1] M0 (pV post) := by
  unfold wp_X12_come at hq
  obtain ⟨h0, hq⟩ := hq
  refine Ct.of (by decide) (Nat.le_of_ble_eq_true rfl) ?_
  intro p e s m below meth c ls C hr hlk hn hl hw
  have hx := C.1.1
  have hb := C.1.2.1
  have hl : lv_has ls 3 [(0, .ref a0), (1, .int p1)] := hl
  refine lv_bipush (v := 24) hx hb dX12_come_0 (by decide) ?_
  refine lv_istore_n (lv' := [(2, .int 24), (0, .ref a0), (1, .int p1)]) hx hb dX12_come_2 rfl hl (by decide) rfl (fun ls hl => ?_)
  obtain ⟨nf, hq⟩ := hq
  exact lp_X12_come_3 C hr hlk hn h0  nf _ _ _ _ _ hq hw (lv_sub hl [1, 2, 0] rfl)

def wp_X12_feed (g : Gh) (M0 : Mem) (a0 : Nat) (p1 : Int32) (p2 : Int32) (p3 : Int32) (p4 : Int32) (p5 : Int32) (post : Int32 → Mem → Prop) : Prop :=
  okc (gB g) M0 a0 12 ∧ (∀ M1, M1 = uI M0 a0 0 0 → (((((mI M1 a0 2) + 20) ≤ 260) → wp_X12_come g M1 a0 p1 (fun M5 => wp_X12_come g M5 a0 p2 (fun M7 => wp_X12_come g M7 a0 p3 (fun M9 => wp_X12_come g M9 a0 p4 (fun M11 => wp_X12_come g M11 a0 p5 (fun M13 => post (mI M13 a0 2) M13)))))) ∧ (¬ (((mI M1 a0 2) + 20) ≤ 260) → post (-1) M1)))
set_option maxHeartbeats 4000000 in
set_option maxRecDepth 100000 in
theorem ct_X12_feed {l : Launch} {g : Gh} {M0 : Mem} {a0 : Nat} {p1 : Int32} {p2 : Int32} {p3 : Int32} {p4 : Int32} {p5 : Int32} {post : Int32 → Mem → Prop} (hq : wp_X12_feed g M0 a0 p1 p2 p3 p4 p5 post) : Ct l g yX12_feed cX12_feed 6 (some .int) 1 0 0 [.ref a0, .int p1, .int p2, .int p3, .int p4, .int p5] M0 (pI post) := by
  unfold wp_X12_feed at hq
  obtain ⟨h0, hq⟩ := hq
  refine Ct.of (by decide) (Nat.le_of_ble_eq_true rfl) ?_
  intro p e s m below meth c ls C hr hlk hn hl hw
  have hx := C.1.1
  have hb := C.1.2.1
  have hl : lv_has ls 6 [(0, .ref a0), (1, .int p1), (2, .int p2), (3, .int p3), (4, .int p4), (5, .int p5)] := hl
  refine lv_aload_n hx hb dX12_feed_0 rfl (lv_at hl 0 rfl) ?_
  refine lv_iconst (v := 0) hx hb dX12_feed_1 (by decide) ?_
  refine pfX12_123 C hw hw.2.2.1 h0 dX12_feed_2 (fun H locs hw => ?_)
  generalize e2 : uI M0 a0 0 0 = M1 at hw
  replace hq := hq M1 e2.symm
  refine lv_aload_n hx hb dX12_feed_5 rfl (lv_at hl 0 rfl) ?_
  refine gfX12_127 C hw hw.2.2.1 h0 dX12_feed_6 ?_
  refine lv_bipush (v := 20) hx hb dX12_feed_9 (by decide) ?_
  refine lv_iadd hx hb dX12_feed_11 ?_
  refine lv_sipush (v := 260) hx hb dX12_feed_12 (by decide) ?_
  refine lv_icmp_le (tgt := 20) hx hb dX12_feed_15 (by decide) (fun c3 => ?_) (fun c3 => ?_)
  · replace hq := hq.1 c3
    refine lv_aload_n hx hb dX12_feed_20 rfl (lv_at hl 0 rfl) ?_
    refine lv_iload_n hx hb dX12_feed_21 rfl (lv_at hl 1 rfl) ?_
    refine r_callV (T := TX12) (N := 67) (ci := 12) (index := 130) (n := 1) (d2 := 0) (mc := 0) (ms := 0) (As := [.int p1]) (rest := []) C hw (ct_X12_come hq) kvX12_130 hq.1 (by decide) rfl ⟨by decide, by decide⟩ ⟨by decide, by decide⟩ rfl hl.1 rfl (Nat.le_of_ble_eq_true rfl) dX12_feed_22 (fun r M5 H locs hp hle hw => ?_)
    obtain ⟨rfl, hq⟩ := hp
    refine W.eq (g2 := F0 m 25 ls []) rfl ?_
    refine lv_aload_n hx hb dX12_feed_25 rfl (lv_at hl 0 rfl) ?_
    refine lv_iload_n hx hb dX12_feed_26 rfl (lv_at hl 2 rfl) ?_
    refine r_callV (T := TX12) (N := 67) (ci := 12) (index := 130) (n := 1) (d2 := 0) (mc := 0) (ms := 0) (As := [.int p2]) (rest := []) C hw (ct_X12_come hq) kvX12_130 hq.1 (by decide) rfl ⟨by decide, by decide⟩ ⟨by decide, by decide⟩ rfl hl.1 rfl (Nat.le_of_ble_eq_true rfl) dX12_feed_27 (fun r M7 H locs hp hle hw => ?_)
    obtain ⟨rfl, hq⟩ := hp
    refine W.eq (g2 := F0 m 30 ls []) rfl ?_
    refine lv_aload_n hx hb dX12_feed_30 rfl (lv_at hl 0 rfl) ?_
    refine lv_iload_n hx hb dX12_feed_31 rfl (lv_at hl 3 rfl) ?_
    refine r_callV (T := TX12) (N := 67) (ci := 12) (index := 130) (n := 1) (d2 := 0) (mc := 0) (ms := 0) (As := [.int p3]) (rest := []) C hw (ct_X12_come hq) kvX12_130 hq.1 (by decide) rfl ⟨by decide, by decide⟩ ⟨by decide, by decide⟩ rfl hl.1 rfl (Nat.le_of_ble_eq_true rfl) dX12_feed_32 (fun r M9 H locs hp hle hw => ?_)
    obtain ⟨rfl, hq⟩ := hp
    refine W.eq (g2 := F0 m 35 ls []) rfl ?_
    refine lv_aload_n hx hb dX12_feed_35 rfl (lv_at hl 0 rfl) ?_
    refine lv_iload hx hb dX12_feed_36 (lv_at hl 4 rfl) ?_
    refine r_callV (T := TX12) (N := 67) (ci := 12) (index := 130) (n := 1) (d2 := 0) (mc := 0) (ms := 0) (As := [.int p4]) (rest := []) C hw (ct_X12_come hq) kvX12_130 hq.1 (by decide) rfl ⟨by decide, by decide⟩ ⟨by decide, by decide⟩ rfl hl.1 rfl (Nat.le_of_ble_eq_true rfl) dX12_feed_38 (fun r M11 H locs hp hle hw => ?_)
    obtain ⟨rfl, hq⟩ := hp
    refine W.eq (g2 := F0 m 41 ls []) rfl ?_
    refine lv_aload_n hx hb dX12_feed_41 rfl (lv_at hl 0 rfl) ?_
    refine lv_iload hx hb dX12_feed_42 (lv_at hl 5 rfl) ?_
    refine r_callV (T := TX12) (N := 67) (ci := 12) (index := 130) (n := 1) (d2 := 0) (mc := 0) (ms := 0) (As := [.int p5]) (rest := []) C hw (ct_X12_come hq) kvX12_130 hq.1 (by decide) rfl ⟨by decide, by decide⟩ ⟨by decide, by decide⟩ rfl hl.1 rfl (Nat.le_of_ble_eq_true rfl) dX12_feed_44 (fun r M13 H locs hp hle hw => ?_)
    obtain ⟨rfl, hq⟩ := hp
    refine W.eq (g2 := F0 m 47 ls []) rfl ?_
    refine lv_aload_n hx hb dX12_feed_47 rfl (lv_at hl 0 rfl) ?_
    refine gfX12_127 C hw hw.2.2.1 h0 dX12_feed_48 ?_
    exact r_iret C hr hlk hw dX12_feed_51 (by decide) (by decide) ⟨_, rfl, hq⟩
  · replace hq := hq.2 c3
    refine lv_iconst (v := (-1)) hx hb dX12_feed_18 (by decide) ?_
    exact r_iret C hr hlk hw dX12_feed_19 (by decide) (by decide) ⟨_, rfl, hq⟩

def wp_X12_end (g : Gh) (M0 : Mem) (a0 : Nat) (p1 : Int32) (post : Int32 → Mem → Prop) : Prop :=
  okc (gB g) M0 a0 12 ∧ (∀ M1, M1 = uI M0 a0 0 0 → (((p1 < 0) → post 0 M1) ∧ (¬ (p1 < 0) → ((p1 ≤ (mI M1 a0 2)) → ∀ M5, M5 = uI M1 a0 2 p1 → (post 1 M5)) ∧ (¬ (p1 ≤ (mI M1 a0 2)) → post 0 M1))))
set_option maxHeartbeats 4000000 in
set_option maxRecDepth 100000 in
theorem ct_X12_end {l : Launch} {g : Gh} {M0 : Mem} {a0 : Nat} {p1 : Int32} {post : Int32 → Mem → Prop} (hq : wp_X12_end g M0 a0 p1 post) : Ct l g yX12_end cX12_end 2 (some .boolean) 0 0 0 [.ref a0, .int p1] M0 (pI post) := by
  unfold wp_X12_end at hq
  obtain ⟨h0, hq⟩ := hq
  refine Ct.of (by decide) (Nat.le_of_ble_eq_true rfl) ?_
  intro p e s m below meth c ls C hr hlk hn hl hw
  have hx := C.1.1
  have hb := C.1.2.1
  have hl : lv_has ls 2 [(0, .ref a0), (1, .int p1)] := hl
  refine lv_aload_n hx hb dX12_end_0 rfl (lv_at hl 0 rfl) ?_
  refine lv_iconst (v := 0) hx hb dX12_end_1 (by decide) ?_
  refine pfX12_123 C hw hw.2.2.1 h0 dX12_end_2 (fun H locs hw => ?_)
  generalize e2 : uI M0 a0 0 0 = M1 at hw
  replace hq := hq M1 e2.symm
  refine lv_iload_n hx hb dX12_end_5 rfl (lv_at hl 1 rfl) ?_
  refine lv_if_lt (tgt := 17) hx hb dX12_end_6 (by decide) (fun c3 => ?_) (fun c3 => ?_)
  · replace hq := hq.1 c3
    refine lv_iconst (v := 0) hx hb dX12_end_17 (by decide) ?_
    exact r_zret C hr hlk hw dX12_end_18 (by decide) (by decide) (by decide) ⟨_, rfl, hq⟩
  · replace hq := hq.2 c3
    refine lv_iload_n hx hb dX12_end_9 rfl (lv_at hl 1 rfl) ?_
    refine lv_aload_n hx hb dX12_end_10 rfl (lv_at hl 0 rfl) ?_
    refine gfX12_127 C hw hw.2.2.1 h0 dX12_end_11 ?_
    refine lv_icmp_le (tgt := 19) hx hb dX12_end_14 (by decide) (fun c4 => ?_) (fun c4 => ?_)
    · replace hq := hq.1 c4
      refine lv_aload_n hx hb dX12_end_19 rfl (lv_at hl 0 rfl) ?_
      refine lv_iload_n hx hb dX12_end_20 rfl (lv_at hl 1 rfl) ?_
      refine pfX12_127 C hw hw.2.2.1 h0 dX12_end_21 (fun H locs hw => ?_)
      generalize e6 : uI M1 a0 2 p1 = M5 at hw
      replace hq := hq M5 e6.symm
      refine lv_iconst (v := 1) hx hb dX12_end_24 (by decide) ?_
      exact r_zret C hr hlk hw dX12_end_25 (by decide) (by decide) (by decide) ⟨_, rfl, hq⟩
    · replace hq := hq.2 c4
      refine lv_iconst (v := 0) hx hb dX12_end_17 (by decide) ?_
      exact r_zret C hr hlk hw dX12_end_18 (by decide) (by decide) (by decide) ⟨_, rfl, hq⟩

def wp_X12_at (g : Gh) (M0 : Mem) (a0 : Nat) (p1 : Int32) (post : Int32 → Mem → Prop) : Prop :=
  okc (gB g) M0 a0 12 ∧ ((((mI M0 a0 3) ≤ p1) → post 0 M0) ∧ (¬ ((mI M0 a0 3) ≤ p1) → ∃ q2, mR M0 a0 1 = some q2 ∧ (okc (gB g) M0 q2 14 ∧ (vp_in p1 (mN M0 q2) ∧ (post (mI M0 q2 (Int32.toNatClampNeg p1)) M0)))))
set_option maxHeartbeats 4000000 in
set_option maxRecDepth 100000 in
theorem ct_X12_at {l : Launch} {g : Gh} {M0 : Mem} {a0 : Nat} {p1 : Int32} {post : Int32 → Mem → Prop} (hq : wp_X12_at g M0 a0 p1 post) : Ct l g yX12_at cX12_at 2 (some .int) 0 0 0 [.ref a0, .int p1] M0 (pI post) := by
  unfold wp_X12_at at hq
  obtain ⟨h0, hq⟩ := hq
  refine Ct.of (by decide) (Nat.le_of_ble_eq_true rfl) ?_
  intro p e s m below meth c ls C hr hlk hn hl hw
  have hx := C.1.1
  have hb := C.1.2.1
  have hl : lv_has ls 2 [(0, .ref a0), (1, .int p1)] := hl
  refine lv_iload_n hx hb dX12_at_0 rfl (lv_at hl 1 rfl) ?_
  refine lv_aload_n hx hb dX12_at_1 rfl (lv_at hl 0 rfl) ?_
  refine gfX12_134 C hw hw.2.2.1 h0 dX12_at_2 ?_
  refine lv_icmp_ge (tgt := 17) hx hb dX12_at_5 (by decide) (fun c1 => ?_) (fun c1 => ?_)
  · replace hq := hq.1 c1
    refine lv_iconst (v := 0) hx hb dX12_at_17 (by decide) ?_
    exact r_iret C hr hlk hw dX12_at_18 (by decide) (by decide) ⟨_, rfl, hq⟩
  · replace hq := hq.2 c1
    refine lv_aload_n hx hb dX12_at_8 rfl (lv_at hl 0 rfl) ?_
    obtain ⟨q2, e3, hq⟩ := hq
    refine gfX12_7 C hw hw.2.2.1 h0 e3 dX12_at_9 ?_
    refine lv_iload_n hx hb dX12_at_12 rfl (lv_at hl 1 rfl) ?_
    obtain ⟨h4, hq⟩ := hq
    obtain ⟨h5, hq⟩ := hq
    refine q_iald C hw hw.2.2.1 h4 h5 dX12_at_13 ?_
    refine lv_goto (tgt := 18) hx hb dX12_at_14 (by decide) ?_
    exact r_iret C hr hlk hw dX12_at_18 (by decide) (by decide) ⟨_, rfl, hq⟩

def wp_X12_isDigit (g : Gh) (M0 : Mem) (p0 : Int32) (post : Int32 → Mem → Prop) : Prop :=
  ((p0 < 48) → post 0 M0) ∧ (¬ (p0 < 48) → ((57 < p0) → post 0 M0) ∧ (¬ (57 < p0) → post 1 M0))
set_option maxHeartbeats 4000000 in
set_option maxRecDepth 100000 in
theorem ct_X12_isDigit {l : Launch} {g : Gh} {M0 : Mem} {p0 : Int32} {post : Int32 → Mem → Prop} (hq : wp_X12_isDigit g M0 p0 post) : Ct l g yX12_isDigit cX12_isDigit 1 (some .boolean) 0 0 0 [.int p0] M0 (pI post) := by
  unfold wp_X12_isDigit at hq
  refine Ct.of (by decide) (Nat.le_of_ble_eq_true rfl) ?_
  intro p e s m below meth c ls C hr hlk hn hl hw
  have hx := C.1.1
  have hb := C.1.2.1
  have hl : lv_has ls 1 [(0, .int p0)] := hl
  refine lv_iload_n hx hb dX12_isDigit_0 rfl (lv_at hl 0 rfl) ?_
  refine lv_bipush (v := 48) hx hb dX12_isDigit_1 (by decide) ?_
  refine lv_icmp_lt (tgt := 16) hx hb dX12_isDigit_3 (by decide) (fun c1 => ?_) (fun c1 => ?_)
  · replace hq := hq.1 c1
    refine lv_iconst (v := 0) hx hb dX12_isDigit_16 (by decide) ?_
    exact r_zret C hr hlk hw dX12_isDigit_17 (by decide) (by decide) (by decide) ⟨_, rfl, hq⟩
  · replace hq := hq.2 c1
    refine lv_iload_n hx hb dX12_isDigit_6 rfl (lv_at hl 0 rfl) ?_
    refine lv_bipush (v := 57) hx hb dX12_isDigit_7 (by decide) ?_
    refine lv_icmp_gt (tgt := 16) hx hb dX12_isDigit_9 (by decide) (fun c2 => ?_) (fun c2 => ?_)
    · replace hq := hq.1 c2
      refine lv_iconst (v := 0) hx hb dX12_isDigit_16 (by decide) ?_
      exact r_zret C hr hlk hw dX12_isDigit_17 (by decide) (by decide) (by decide) ⟨_, rfl, hq⟩
    · replace hq := hq.2 c2
      refine lv_iconst (v := 1) hx hb dX12_isDigit_12 (by decide) ?_
      refine lv_goto (tgt := 17) hx hb dX12_isDigit_13 (by decide) ?_
      exact r_zret C hr hlk hw dX12_isDigit_17 (by decide) (by decide) (by decide) ⟨_, rfl, hq⟩

def wp_X12_isLetter (g : Gh) (M0 : Mem) (p0 : Int32) (post : Int32 → Mem → Prop) : Prop :=
  ((p0 < 97) → post 0 M0) ∧ (¬ (p0 < 97) → ((122 < p0) → post 0 M0) ∧ (¬ (122 < p0) → post 1 M0))
set_option maxHeartbeats 4000000 in
set_option maxRecDepth 100000 in
theorem ct_X12_isLetter {l : Launch} {g : Gh} {M0 : Mem} {p0 : Int32} {post : Int32 → Mem → Prop} (hq : wp_X12_isLetter g M0 p0 post) : Ct l g yX12_isLetter cX12_isLetter 1 (some .boolean) 0 0 0 [.int p0] M0 (pI post) := by
  unfold wp_X12_isLetter at hq
  refine Ct.of (by decide) (Nat.le_of_ble_eq_true rfl) ?_
  intro p e s m below meth c ls C hr hlk hn hl hw
  have hx := C.1.1
  have hb := C.1.2.1
  have hl : lv_has ls 1 [(0, .int p0)] := hl
  refine lv_iload_n hx hb dX12_isLetter_0 rfl (lv_at hl 0 rfl) ?_
  refine lv_bipush (v := 97) hx hb dX12_isLetter_1 (by decide) ?_
  refine lv_icmp_lt (tgt := 16) hx hb dX12_isLetter_3 (by decide) (fun c1 => ?_) (fun c1 => ?_)
  · replace hq := hq.1 c1
    refine lv_iconst (v := 0) hx hb dX12_isLetter_16 (by decide) ?_
    exact r_zret C hr hlk hw dX12_isLetter_17 (by decide) (by decide) (by decide) ⟨_, rfl, hq⟩
  · replace hq := hq.2 c1
    refine lv_iload_n hx hb dX12_isLetter_6 rfl (lv_at hl 0 rfl) ?_
    refine lv_bipush (v := 122) hx hb dX12_isLetter_7 (by decide) ?_
    refine lv_icmp_gt (tgt := 16) hx hb dX12_isLetter_9 (by decide) (fun c2 => ?_) (fun c2 => ?_)
    · replace hq := hq.1 c2
      refine lv_iconst (v := 0) hx hb dX12_isLetter_16 (by decide) ?_
      exact r_zret C hr hlk hw dX12_isLetter_17 (by decide) (by decide) (by decide) ⟨_, rfl, hq⟩
    · replace hq := hq.2 c2
      refine lv_iconst (v := 1) hx hb dX12_isLetter_12 (by decide) ?_
      refine lv_goto (tgt := 17) hx hb dX12_isLetter_13 (by decide) ?_
      exact r_zret C hr hlk hw dX12_isLetter_17 (by decide) (by decide) (by decide) ⟨_, rfl, hq⟩

def lb_X12_readWord_169 (g : Gh) (M0 : Mem) (a0 : Nat) (post : Mem → Prop)  (x1 : Int32) (s0 : Nat) (s1 : Int32) (s2 : Int32) (M : Mem) : Prop :=
  ((s1 ≤ s2) → ((x1 = 0) → okc (gB g) M0 s0 12 ∧ (∀ M4, M4 = uI M s0 6 3 → (post M4))) ∧ (¬ (x1 = 0) → okc (gB g) M0 s0 12 ∧ (∀ M7, M7 = uI M s0 6 2 → (post M7)))) ∧ (¬ (s1 ≤ s2) → okc (gB g) M0 s0 12 ∧ (∀ M10, M10 = uI M s0 6 1 → (post M10)))
def lb_X12_readWord_144 (g : Gh) (M0 : Mem) (a0 : Nat) (post : Mem → Prop)  (x1 : Int32) (x2 : Int32)  (M : Mem) : Prop :=
  ((x2 = 0) → ∀ M13, M13 = uI M a0 6 1 → (post M13)) ∧ (¬ (x2 = 0) → ((x1 = 0) → lb_X12_readWord_169 g M0 a0 post  x1 a0 ((mI M a0 4) - (mI M a0 5)) 6 M) ∧ (¬ (x1 = 0) → lb_X12_readWord_169 g M0 a0 post  x1 a0 ((mI M a0 4) - (mI M a0 5)) 12 M))
def lb_X12_readWord_128 (g : Gh) (M0 : Mem) (a0 : Nat) (post : Mem → Prop) (bk20 : Int32 × Int32 × Mem → Prop) (x1 : Int32) (x2 : Int32) (s0 : Nat) (s1 : Int64) (M : Mem) : Prop :=
  okc (gB g) M0 s0 12 ∧ (∀ M17, M17 = uJ M s0 8 s1 → (∀ M19, M19 = uI M17 a0 4 ((mI M17 a0 4) + 1) → (bk20 (x1, x2, M19))))
def lb_X12_readWord_75 (g : Gh) (M0 : Mem) (a0 : Nat) (post : Mem → Prop) (bk20 : Int32 × Int32 × Mem → Prop) (x1 : Int32) (x3 : Int32) (s0 : Int32) (M : Mem) : Prop :=
  ((12 ≤ ((mI M a0 4) - (mI M a0 5))) → ∀ M22, M22 = uI M a0 4 ((mI M a0 4) + 1) → (bk20 (x1, s0, M22))) ∧ (¬ (12 ≤ ((mI M a0 4) - (mI M a0 5))) → ((x1 = 0) → lb_X12_readWord_128 g M0 a0 post bk20 x1 s0 a0 (((10 * (mJ M a0 8)) + (Int32.toInt64 x3)) - 48) M) ∧ (¬ (x1 = 0) → lb_X12_readWord_128 g M0 a0 post bk20 x1 s0 a0 (((27 * (mJ M a0 8)) + (Int32.toInt64 x3)) - 96) M))
def lb_X12_readWord_48 (g : Gh) (M0 : Mem) (a0 : Nat) (post : Mem → Prop) (bk20 : Int32 × Int32 × Mem → Prop) (x1 : Int32) (x2 : Int32)  (M : Mem) : Prop :=
  ∃ q25, mR M a0 1 = some q25 ∧ (okc (gB g) M0 q25 14 ∧ (vp_in (mI M a0 4) (mN M0 q25) ∧ (((x2 = 0) → lb_X12_readWord_75 g M0 a0 post bk20 x1 (mI M q25 (Int32.toNatClampNeg (mI M a0 4))) 0 M) ∧ (¬ (x2 = 0) → wp_X12_isLetter g M (mI M q25 (Int32.toNatClampNeg (mI M a0 4))) (fun v30 M31 => ((v30 = x1) → lb_X12_readWord_75 g M0 a0 post bk20 x1 (mI M q25 (Int32.toNatClampNeg (mI M a0 4))) 1 M31) ∧ (¬ (v30 = x1) → lb_X12_readWord_75 g M0 a0 post bk20 x1 (mI M q25 (Int32.toNatClampNeg (mI M a0 4))) 0 M31))))))
def bd_X12_readWord_20 (g : Gh) (M0 : Mem) (a0 : Nat) (post : Mem → Prop)  (bk20 : Int32 × Int32 × Mem → Prop) (x1 : Int32) (x2 : Int32)  (M : Mem) : Prop :=
  wp_X12_at g M a0 (mI M a0 4) (fun v33 M34 => wp_X12_isLetter g M34 v33 (fun v35 M36 => ((v35 = 0) → wp_X12_at g M36 a0 (mI M36 a0 4) (fun v38 M39 => wp_X12_isDigit g M39 v38 (fun v40 M41 => ((v40 = 0) → lb_X12_readWord_144 g M0 a0 post  x1 x2 M41) ∧ (¬ (v40 = 0) → lb_X12_readWord_48 g M0 a0 post bk20 x1 x2 M41)))) ∧ (¬ (v35 = 0) → lb_X12_readWord_48 g M0 a0 post bk20 x1 x2 M36)))
def wp_X12_readWord (g : Gh) (M0 : Mem) (a0 : Nat) (post : Mem → Prop) : Prop :=
  okc (gB g) M0 a0 12 ∧ (∃ q43, mR M0 a0 1 = some q43 ∧ (okc (gB g) M0 q43 14 ∧ (vp_in (mI M0 a0 4) (mN M0 q43) ∧ (wp_X12_isLetter g M0 (mI M0 q43 (Int32.toNatClampNeg (mI M0 a0 4))) (fun v47 M48 => ∀ M49, M49 = uJ M48 a0 8 0 → ((∃ n : Nat, lfp (fun bk z => bd_X12_readWord_20 g M0 a0 post  bk z.1 z.2.1 z.2.2) n (v47, 1, M49))))))))
set_option maxHeartbeats 4000000 in
set_option maxRecDepth 100000 in
theorem lt_X12_readWord_169 {l : Launch} {g : Gh} {p : Program} {e : Env} {s : State} {m : MethodId} {args : Array Value} {below : List Frame} {meth : Method} {c : Code} {H : Heap} {locs : List Loc} {ls : Array Slot} {M0 M : Mem} {a0 : Nat} {post : Mem → Prop} {x1 : Int32} {s0 : Nat} {s1 : Int32} {s2 : Int32} (C : Cx g p s m args c cX12_readWord 4 RX12) (hr : meth.sig.returnType = none) (hlk : meth.locks = false) (hn : meth.name = "readWord") (h0 : okc (gB g) M0 a0 12)  (hq : lb_X12_readWord_169 g M0 a0 post  x1 s0 s1 s2 M) (hw : Wd g s M0 M H locs) (hl : lv_has ls 4 [(0, .ref a0), (1, .int x1)]) : W p l e (rmo 1 0 0) s m args below meth c H locs 0 0 (MQ below (Cq g M0 (pV post)) args s 0 0 (gA g)) (F0 m 169 ls [.int s2, .int s1, .ref s0]) := by
  have hx := C.1.1
  have hb := C.1.2.1
  unfold lb_X12_readWord_169 at hq
  refine lv_icmp_le (tgt := 176) hx hb dX12_readWord_169 (by decide) (fun c1 => ?_) (fun c1 => ?_)
  · replace hq := hq.1 c1
    refine lv_iload_n hx hb dX12_readWord_176 rfl (lv_at hl 1 rfl) ?_
    refine lv_if_eq (tgt := 184) hx hb dX12_readWord_177 (by decide) (fun c2 => ?_) (fun c2 => ?_)
    · replace hq := hq.1 c2
      refine lv_iconst (v := 3) hx hb dX12_readWord_184 (by decide) ?_
      obtain ⟨h3, hq⟩ := hq
      refine pfX12_143 C hw hw.2.2.1 h3 dX12_readWord_185 (fun H locs hw => ?_)
      generalize e5 : uI M s0 6 3 = M4 at hw
      replace hq := hq M4 e5.symm
      exact r_vret C hr hlk hw dX12_readWord_188 (by decide) (by decide) ⟨rfl, hq⟩
    · replace hq := hq.2 c2
      refine lv_iconst (v := 2) hx hb dX12_readWord_180 (by decide) ?_
      refine lv_goto (tgt := 185) hx hb dX12_readWord_181 (by decide) ?_
      obtain ⟨h6, hq⟩ := hq
      refine pfX12_143 C hw hw.2.2.1 h6 dX12_readWord_185 (fun H locs hw => ?_)
      generalize e8 : uI M s0 6 2 = M7 at hw
      replace hq := hq M7 e8.symm
      exact r_vret C hr hlk hw dX12_readWord_188 (by decide) (by decide) ⟨rfl, hq⟩
  · replace hq := hq.2 c1
    refine lv_iconst (v := 1) hx hb dX12_readWord_172 (by decide) ?_
    refine lv_goto (tgt := 185) hx hb dX12_readWord_173 (by decide) ?_
    obtain ⟨h9, hq⟩ := hq
    refine pfX12_143 C hw hw.2.2.1 h9 dX12_readWord_185 (fun H locs hw => ?_)
    generalize e11 : uI M s0 6 1 = M10 at hw
    replace hq := hq M10 e11.symm
    exact r_vret C hr hlk hw dX12_readWord_188 (by decide) (by decide) ⟨rfl, hq⟩
set_option maxHeartbeats 4000000 in
set_option maxRecDepth 100000 in
theorem lt_X12_readWord_144 {l : Launch} {g : Gh} {p : Program} {e : Env} {s : State} {m : MethodId} {args : Array Value} {below : List Frame} {meth : Method} {c : Code} {H : Heap} {locs : List Loc} {ls : Array Slot} {M0 M : Mem} {a0 : Nat} {post : Mem → Prop} {x1 : Int32} {x2 : Int32}  (C : Cx g p s m args c cX12_readWord 4 RX12) (hr : meth.sig.returnType = none) (hlk : meth.locks = false) (hn : meth.name = "readWord") (h0 : okc (gB g) M0 a0 12)  (hq : lb_X12_readWord_144 g M0 a0 post  x1 x2 M) (hw : Wd g s M0 M H locs) (hl : lv_has ls 4 [(0, .ref a0), (1, .int x1), (2, .int x2)]) : W p l e (rmo 1 0 0) s m args below meth c H locs 0 0 (MQ below (Cq g M0 (pV post)) args s 0 0 (gA g)) (F0 m 144 ls []) := by
  have hx := C.1.1
  have hb := C.1.2.1
  unfold lb_X12_readWord_144 at hq
  refine lv_aload_n hx hb dX12_readWord_144 rfl (lv_at hl 0 rfl) ?_
  refine lv_iload_n hx hb dX12_readWord_145 rfl (lv_at hl 2 rfl) ?_
  refine lv_if_eq (tgt := 172) hx hb dX12_readWord_146 (by decide) (fun c12 => ?_) (fun c12 => ?_)
  · replace hq := hq.1 c12
    refine lv_iconst (v := 1) hx hb dX12_readWord_172 (by decide) ?_
    refine lv_goto (tgt := 185) hx hb dX12_readWord_173 (by decide) ?_
    refine pfX12_143 C hw hw.2.2.1 h0 dX12_readWord_185 (fun H locs hw => ?_)
    generalize e14 : uI M a0 6 1 = M13 at hw
    replace hq := hq M13 e14.symm
    exact r_vret C hr hlk hw dX12_readWord_188 (by decide) (by decide) ⟨rfl, hq⟩
  · replace hq := hq.2 c12
    refine lv_aload_n hx hb dX12_readWord_149 rfl (lv_at hl 0 rfl) ?_
    refine gfX12_137 C hw hw.2.2.1 h0 dX12_readWord_150 ?_
    refine lv_aload_n hx hb dX12_readWord_153 rfl (lv_at hl 0 rfl) ?_
    refine gfX12_140 C hw hw.2.2.1 h0 dX12_readWord_154 ?_
    refine lv_isub hx hb dX12_readWord_157 ?_
    refine lv_iload_n hx hb dX12_readWord_158 rfl (lv_at hl 1 rfl) ?_
    refine lv_if_eq (tgt := 167) hx hb dX12_readWord_159 (by decide) (fun c15 => ?_) (fun c15 => ?_)
    · replace hq := hq.1 c15
      refine lv_bipush (v := 6) hx hb dX12_readWord_167 (by decide) ?_
      exact lt_X12_readWord_169 C hr hlk hn h0  hq hw (lv_sub hl [0, 1] rfl)
    · replace hq := hq.2 c15
      refine lv_bipush (v := 12) hx hb dX12_readWord_162 (by decide) ?_
      refine lv_goto (tgt := 169) hx hb dX12_readWord_164 (by decide) ?_
      exact lt_X12_readWord_169 C hr hlk hn h0  hq hw (lv_sub hl [0, 1] rfl)
set_option maxHeartbeats 4000000 in
set_option maxRecDepth 100000 in
theorem lt_X12_readWord_128 {l : Launch} {g : Gh} {p : Program} {e : Env} {s : State} {m : MethodId} {args : Array Value} {below : List Frame} {meth : Method} {c : Code} {H : Heap} {locs : List Loc} {ls : Array Slot} {M0 M : Mem} {a0 : Nat} {post : Mem → Prop} {x1 : Int32} {x2 : Int32} {s0 : Nat} {s1 : Int64} (C : Cx g p s m args c cX12_readWord 4 RX12) (hr : meth.sig.returnType = none) (hlk : meth.locks = false) (hn : meth.name = "readWord") (h0 : okc (gB g) M0 a0 12) {bk20 : Int32 × Int32 × Mem → Prop} (hk20 : ∀ (x1 : Int32) (x2 : Int32) (M : Mem) (H : Heap) (locs : List Loc) (ls : Array Slot), bk20 (x1, x2, M) → Wd g s M0 M H locs → lv_has ls 4 [(0, .ref a0), (1, .int x1), (2, .int x2)] → W p l e (rmo 1 0 0) s m args below meth c H locs 0 0 (MQ below (Cq g M0 (pV post)) args s 0 0 (gA g)) (F0 m 20 ls [])) (hq : lb_X12_readWord_128 g M0 a0 post bk20 x1 x2 s0 s1 M) (hw : Wd g s M0 M H locs) (hl : lv_has ls 4 [(0, .ref a0), (1, .int x1), (2, .int x2)]) : W p l e (rmo 1 0 0) s m args below meth c H locs 0 0 (MQ below (Cq g M0 (pV post)) args s 0 0 (gA g)) (F0 m 128 ls [.long s1, .ref s0]) := by
  have hx := C.1.1
  have hb := C.1.2.1
  unfold lb_X12_readWord_128 at hq
  obtain ⟨h16, hq⟩ := hq
  refine pfX12_163 C hw hw.2.2.1 h16 dX12_readWord_128 (fun H locs hw => ?_)
  generalize e18 : uJ M s0 8 s1 = M17 at hw
  replace hq := hq M17 e18.symm
  refine lv_aload_n hx hb dX12_readWord_131 rfl (lv_at hl 0 rfl) ?_
  refine lv_dup hx hb dX12_readWord_132 rfl ?_
  refine gfX12_137 C hw hw.2.2.1 h0 dX12_readWord_133 ?_
  refine lv_iconst (v := 1) hx hb dX12_readWord_136 (by decide) ?_
  refine lv_iadd hx hb dX12_readWord_137 ?_
  refine pfX12_137 C hw hw.2.2.1 h0 dX12_readWord_138 (fun H locs hw => ?_)
  generalize e20 : uI M17 a0 4 ((mI M17 a0 4) + 1) = M19 at hw
  replace hq := hq M19 e20.symm
  refine lv_goto (tgt := 20) hx hb dX12_readWord_141 (by decide) ?_
  exact hk20 _ _ _ _ _ _ hq hw (lv_sub hl [0, 1, 2] rfl)
set_option maxHeartbeats 4000000 in
set_option maxRecDepth 100000 in
theorem lt_X12_readWord_75 {l : Launch} {g : Gh} {p : Program} {e : Env} {s : State} {m : MethodId} {args : Array Value} {below : List Frame} {meth : Method} {c : Code} {H : Heap} {locs : List Loc} {ls : Array Slot} {M0 M : Mem} {a0 : Nat} {post : Mem → Prop} {x1 : Int32} {x3 : Int32} {s0 : Int32} (C : Cx g p s m args c cX12_readWord 4 RX12) (hr : meth.sig.returnType = none) (hlk : meth.locks = false) (hn : meth.name = "readWord") (h0 : okc (gB g) M0 a0 12) {bk20 : Int32 × Int32 × Mem → Prop} (hk20 : ∀ (x1 : Int32) (x2 : Int32) (M : Mem) (H : Heap) (locs : List Loc) (ls : Array Slot), bk20 (x1, x2, M) → Wd g s M0 M H locs → lv_has ls 4 [(0, .ref a0), (1, .int x1), (2, .int x2)] → W p l e (rmo 1 0 0) s m args below meth c H locs 0 0 (MQ below (Cq g M0 (pV post)) args s 0 0 (gA g)) (F0 m 20 ls [])) (hq : lb_X12_readWord_75 g M0 a0 post bk20 x1 x3 s0 M) (hw : Wd g s M0 M H locs) (hl : lv_has ls 4 [(0, .ref a0), (1, .int x1), (3, .int x3)]) : W p l e (rmo 1 0 0) s m args below meth c H locs 0 0 (MQ below (Cq g M0 (pV post)) args s 0 0 (gA g)) (F0 m 75 ls [.int s0]) := by
  have hx := C.1.1
  have hb := C.1.2.1
  unfold lb_X12_readWord_75 at hq
  refine lv_istore_n (lv' := [(2, .int s0), (0, .ref a0), (1, .int x1), (3, .int x3)]) hx hb dX12_readWord_75 rfl hl (by decide) rfl (fun ls hl => ?_)
  refine lv_aload_n hx hb dX12_readWord_76 rfl (lv_at hl 1 rfl) ?_
  refine gfX12_137 C hw hw.2.2.1 h0 dX12_readWord_77 ?_
  refine lv_aload_n hx hb dX12_readWord_80 rfl (lv_at hl 1 rfl) ?_
  refine gfX12_140 C hw hw.2.2.1 h0 dX12_readWord_81 ?_
  refine lv_isub hx hb dX12_readWord_84 ?_
  refine lv_bipush (v := 12) hx hb dX12_readWord_85 (by decide) ?_
  refine lv_icmp_ge (tgt := 131) hx hb dX12_readWord_87 (by decide) (fun c21 => ?_) (fun c21 => ?_)
  · replace hq := hq.1 c21
    refine lv_aload_n hx hb dX12_readWord_131 rfl (lv_at hl 1 rfl) ?_
    refine lv_dup hx hb dX12_readWord_132 rfl ?_
    refine gfX12_137 C hw hw.2.2.1 h0 dX12_readWord_133 ?_
    refine lv_iconst (v := 1) hx hb dX12_readWord_136 (by decide) ?_
    refine lv_iadd hx hb dX12_readWord_137 ?_
    refine pfX12_137 C hw hw.2.2.1 h0 dX12_readWord_138 (fun H locs hw => ?_)
    generalize e23 : uI M a0 4 ((mI M a0 4) + 1) = M22 at hw
    replace hq := hq M22 e23.symm
    refine lv_goto (tgt := 20) hx hb dX12_readWord_141 (by decide) ?_
    exact hk20 _ _ _ _ _ _ hq hw (lv_sub hl [1, 2, 0] rfl)
  · replace hq := hq.2 c21
    refine lv_aload_n hx hb dX12_readWord_90 rfl (lv_at hl 1 rfl) ?_
    refine lv_iload_n hx hb dX12_readWord_91 rfl (lv_at hl 2 rfl) ?_
    refine lv_if_eq (tgt := 113) hx hb dX12_readWord_92 (by decide) (fun c24 => ?_) (fun c24 => ?_)
    · replace hq := hq.1 c24
      refine lv_ldc2 (v := 10) hx hb C.1.2.2.2.1 (C.1.2.2.2.2 _ w_1395) dX12_readWord_113 ?_
      refine lv_aload_n hx hb dX12_readWord_116 rfl (lv_at hl 1 rfl) ?_
      refine gfX12_163 C hw hw.2.2.1 h0 dX12_readWord_117 ?_
      refine lv_lmul hx hb dX12_readWord_120 ?_
      refine lv_iload_n hx hb dX12_readWord_121 rfl (lv_at hl 3 rfl) ?_
      refine lv_i2l (v := (Int32.toInt64 x3)) hx hb dX12_readWord_122 rfl ?_
      refine lv_ladd hx hb dX12_readWord_123 ?_
      refine lv_ldc2 (v := 48) hx hb C.1.2.2.2.1 (C.1.2.2.2.2 _ w_1396) dX12_readWord_124 ?_
      refine lv_lsub hx hb dX12_readWord_127 ?_
      exact lt_X12_readWord_128 C hr hlk hn h0 hk20 hq hw (lv_sub hl [1, 2, 0] rfl)
    · replace hq := hq.2 c24
      refine lv_ldc2 (v := 27) hx hb C.1.2.2.2.1 (C.1.2.2.2.2 _ w_1393) dX12_readWord_95 ?_
      refine lv_aload_n hx hb dX12_readWord_98 rfl (lv_at hl 1 rfl) ?_
      refine gfX12_163 C hw hw.2.2.1 h0 dX12_readWord_99 ?_
      refine lv_lmul hx hb dX12_readWord_102 ?_
      refine lv_iload_n hx hb dX12_readWord_103 rfl (lv_at hl 3 rfl) ?_
      refine lv_i2l (v := (Int32.toInt64 x3)) hx hb dX12_readWord_104 rfl ?_
      refine lv_ladd hx hb dX12_readWord_105 ?_
      refine lv_ldc2 (v := 96) hx hb C.1.2.2.2.1 (C.1.2.2.2.2 _ w_1394) dX12_readWord_106 ?_
      refine lv_lsub hx hb dX12_readWord_109 ?_
      refine lv_goto (tgt := 128) hx hb dX12_readWord_110 (by decide) ?_
      exact lt_X12_readWord_128 C hr hlk hn h0 hk20 hq hw (lv_sub hl [1, 2, 0] rfl)
set_option maxHeartbeats 4000000 in
set_option maxRecDepth 100000 in
theorem lt_X12_readWord_48 {l : Launch} {g : Gh} {p : Program} {e : Env} {s : State} {m : MethodId} {args : Array Value} {below : List Frame} {meth : Method} {c : Code} {H : Heap} {locs : List Loc} {ls : Array Slot} {M0 M : Mem} {a0 : Nat} {post : Mem → Prop} {x1 : Int32} {x2 : Int32}  (C : Cx g p s m args c cX12_readWord 4 RX12) (hr : meth.sig.returnType = none) (hlk : meth.locks = false) (hn : meth.name = "readWord") (h0 : okc (gB g) M0 a0 12) {bk20 : Int32 × Int32 × Mem → Prop} (hk20 : ∀ (x1 : Int32) (x2 : Int32) (M : Mem) (H : Heap) (locs : List Loc) (ls : Array Slot), bk20 (x1, x2, M) → Wd g s M0 M H locs → lv_has ls 4 [(0, .ref a0), (1, .int x1), (2, .int x2)] → W p l e (rmo 1 0 0) s m args below meth c H locs 0 0 (MQ below (Cq g M0 (pV post)) args s 0 0 (gA g)) (F0 m 20 ls [])) (hq : lb_X12_readWord_48 g M0 a0 post bk20 x1 x2 M) (hw : Wd g s M0 M H locs) (hl : lv_has ls 4 [(0, .ref a0), (1, .int x1), (2, .int x2)]) : W p l e (rmo 1 0 0) s m args below meth c H locs 0 0 (MQ below (Cq g M0 (pV post)) args s 0 0 (gA g)) (F0 m 48 ls []) := by
  have hx := C.1.1
  have hb := C.1.2.1
  unfold lb_X12_readWord_48 at hq
  refine lv_aload_n hx hb dX12_readWord_48 rfl (lv_at hl 0 rfl) ?_
  obtain ⟨q25, e26, hq⟩ := hq
  refine gfX12_7 C hw hw.2.2.1 h0 e26 dX12_readWord_49 ?_
  refine lv_aload_n hx hb dX12_readWord_52 rfl (lv_at hl 0 rfl) ?_
  refine gfX12_137 C hw hw.2.2.1 h0 dX12_readWord_53 ?_
  obtain ⟨h27, hq⟩ := hq
  obtain ⟨h28, hq⟩ := hq
  refine q_iald C hw hw.2.2.1 h27 h28 dX12_readWord_56 ?_
  refine lv_istore_n (lv' := [(3, .int (mI M q25 (Int32.toNatClampNeg (mI M a0 4)))), (0, .ref a0), (1, .int x1), (2, .int x2)]) hx hb dX12_readWord_57 rfl hl (by decide) rfl (fun ls hl => ?_)
  refine lv_iload_n hx hb dX12_readWord_58 rfl (lv_at hl 3 rfl) ?_
  refine lv_if_eq (tgt := 74) hx hb dX12_readWord_59 (by decide) (fun c29 => ?_) (fun c29 => ?_)
  · replace hq := hq.1 c29
    refine lv_iconst (v := 0) hx hb dX12_readWord_74 (by decide) ?_
    exact lt_X12_readWord_75 C hr hlk hn h0 hk20 hq hw (lv_sub hl [1, 2, 0] rfl)
  · replace hq := hq.2 c29
    refine lv_iload_n hx hb dX12_readWord_62 rfl (lv_at hl 0 rfl) ?_
    refine r_callS (index := 146) (n := 1) (d2 := 0) (mc := 0) (ms := 0) (As := [.int (mI M q25 (Int32.toNatClampNeg (mI M a0 4)))]) (rest := []) C hw (ct_X12_isLetter hq) ksX12_146 ⟨by decide, by decide⟩ ⟨by decide, by decide⟩ rfl hl.1 rfl (Nat.le_of_ble_eq_true rfl) dX12_readWord_63 (fun r M31 H locs hp hle hw => ?_)
    obtain ⟨v30, rfl, hq⟩ := hp
    refine W.eq (g2 := F0 m 66 ls [.int v30]) rfl ?_
    refine lv_iload_n hx hb dX12_readWord_66 rfl (lv_at hl 2 rfl) ?_
    refine lv_icmp_ne (tgt := 74) hx hb dX12_readWord_67 (by decide) (fun c32 => ?_) (fun c32 => ?_)
    · replace hq := hq.2 c32
      refine lv_iconst (v := 0) hx hb dX12_readWord_74 (by decide) ?_
      exact lt_X12_readWord_75 C hr hlk hn h0 hk20 hq hw (lv_sub hl [1, 2, 0] rfl)
    · replace hq := hq.1 c32
      refine lv_iconst (v := 1) hx hb dX12_readWord_70 (by decide) ?_
      refine lv_goto (tgt := 75) hx hb dX12_readWord_71 (by decide) ?_
      exact lt_X12_readWord_75 C hr hlk hn h0 hk20 hq hw (lv_sub hl [1, 2, 0] rfl)
set_option maxHeartbeats 4000000 in
set_option maxRecDepth 100000 in
theorem lp_X12_readWord_20 {l : Launch} {g : Gh} {p : Program} {e : Env} {s : State} {m : MethodId} {args : Array Value} {below : List Frame} {meth : Method} {c : Code} {M0 : Mem} {a0 : Nat} {post : Mem → Prop} (C : Cx g p s m args c cX12_readWord 4 RX12) (hr : meth.sig.returnType = none) (hlk : meth.locks = false) (hn : meth.name = "readWord") (h0 : okc (gB g) M0 a0 12)  : ∀ (nf : Nat) (x1 : Int32) (x2 : Int32)  (M : Mem) (H : Heap) (locs : List Loc) (ls : Array Slot), lfp (fun bk z => bd_X12_readWord_20 g M0 a0 post  bk z.1 z.2.1 z.2.2) nf (x1, x2, M) → Wd g s M0 M H locs → lv_has ls 4 [(0, .ref a0), (1, .int x1), (2, .int x2)] → W p l e (rmo 1 0 0) s m args below meth c H locs 0 0 (MQ below (Cq g M0 (pV post)) args s 0 0 (gA g)) (F0 m 20 ls []) := by
  have hx := C.1.1
  have hb := C.1.2.1
  intro nf
  induction nf with
  | zero => intro _ _ _ H locs ls hq; exact hq.elim
  | succ nf hk20 =>
    intro x1 x2 M H locs ls hq hw hl
    replace hq : bd_X12_readWord_20 g M0 a0 post  (lfp (fun bk z => bd_X12_readWord_20 g M0 a0 post  bk z.1 z.2.1 z.2.2) nf) x1 x2 M := hq
    unfold bd_X12_readWord_20 at hq
    refine lv_aload_n hx hb dX12_readWord_20 rfl (lv_at hl 0 rfl) ?_
    refine lv_aload_n hx hb dX12_readWord_21 rfl (lv_at hl 0 rfl) ?_
    refine gfX12_137 C hw hw.2.2.1 h0 dX12_readWord_22 ?_
    refine r_callV (T := TX12) (N := 67) (ci := 12) (index := 159) (n := 1) (d2 := 0) (mc := 0) (ms := 0) (As := [.int (mI M a0 4)]) (rest := []) C hw (ct_X12_at hq) kvX12_159 hq.1 (by decide) rfl ⟨by decide, by decide⟩ ⟨by decide, by decide⟩ rfl hl.1 rfl (Nat.le_of_ble_eq_true rfl) dX12_readWord_25 (fun r M34 H locs hp hle hw => ?_)
    obtain ⟨v33, rfl, hq⟩ := hp
    refine W.eq (g2 := F0 m 28 ls [.int v33]) rfl ?_
    refine r_callS (index := 146) (n := 1) (d2 := 0) (mc := 0) (ms := 0) (As := [.int v33]) (rest := []) C hw (ct_X12_isLetter hq) ksX12_146 ⟨by decide, by decide⟩ ⟨by decide, by decide⟩ rfl hl.1 rfl (Nat.le_of_ble_eq_true rfl) dX12_readWord_28 (fun r M36 H locs hp hle hw => ?_)
    obtain ⟨v35, rfl, hq⟩ := hp
    refine W.eq (g2 := F0 m 31 ls [.int v35]) rfl ?_
    refine lv_if_ne (tgt := 48) hx hb dX12_readWord_31 (by decide) (fun c37 => ?_) (fun c37 => ?_)
    · replace hq := hq.2 c37
      exact lt_X12_readWord_48 C hr hlk hn h0 hk20 hq hw (lv_sub hl [0, 1, 2] rfl)
    · replace hq := hq.1 c37
      refine lv_aload_n hx hb dX12_readWord_34 rfl (lv_at hl 0 rfl) ?_
      refine lv_aload_n hx hb dX12_readWord_35 rfl (lv_at hl 0 rfl) ?_
      refine gfX12_137 C hw hw.2.2.1 h0 dX12_readWord_36 ?_
      refine r_callV (T := TX12) (N := 67) (ci := 12) (index := 159) (n := 1) (d2 := 0) (mc := 0) (ms := 0) (As := [.int (mI M36 a0 4)]) (rest := []) C hw (ct_X12_at hq) kvX12_159 hq.1 (by decide) rfl ⟨by decide, by decide⟩ ⟨by decide, by decide⟩ rfl hl.1 rfl (Nat.le_of_ble_eq_true rfl) dX12_readWord_39 (fun r M39 H locs hp hle hw => ?_)
      obtain ⟨v38, rfl, hq⟩ := hp
      refine W.eq (g2 := F0 m 42 ls [.int v38]) rfl ?_
      refine r_callS (index := 150) (n := 1) (d2 := 0) (mc := 0) (ms := 0) (As := [.int v38]) (rest := []) C hw (ct_X12_isDigit hq) ksX12_150 ⟨by decide, by decide⟩ ⟨by decide, by decide⟩ rfl hl.1 rfl (Nat.le_of_ble_eq_true rfl) dX12_readWord_42 (fun r M41 H locs hp hle hw => ?_)
      obtain ⟨v40, rfl, hq⟩ := hp
      refine W.eq (g2 := F0 m 45 ls [.int v40]) rfl ?_
      refine lv_if_eq (tgt := 144) hx hb dX12_readWord_45 (by decide) (fun c42 => ?_) (fun c42 => ?_)
      · replace hq := hq.1 c42
        exact lt_X12_readWord_144 C hr hlk hn h0  hq hw (lv_sub hl [0, 1, 2] rfl)
      · replace hq := hq.2 c42
        exact lt_X12_readWord_48 C hr hlk hn h0 hk20 hq hw (lv_sub hl [0, 1, 2] rfl)
set_option maxHeartbeats 4000000 in
set_option maxRecDepth 100000 in
theorem ct_X12_readWord {l : Launch} {g : Gh} {M0 : Mem} {a0 : Nat} {post : Mem → Prop} (hq : wp_X12_readWord g M0 a0 post) : Ct l g yX12_readWord cX12_readWord 4 none 1 0 0 [.ref a0] M0 (pV post) := by
  unfold wp_X12_readWord at hq
  obtain ⟨h0, hq⟩ := hq
  refine Ct.of (by decide) (Nat.le_of_ble_eq_true rfl) ?_
  intro p e s m below meth c ls C hr hlk hn hl hw
  have hx := C.1.1
  have hb := C.1.2.1
  have hl : lv_has ls 4 [(0, .ref a0)] := hl
  refine lv_aload_n hx hb dX12_readWord_0 rfl (lv_at hl 0 rfl) ?_
  obtain ⟨q43, e44, hq⟩ := hq
  refine gfX12_7 C hw hw.2.2.1 h0 e44 dX12_readWord_1 ?_
  refine lv_aload_n hx hb dX12_readWord_4 rfl (lv_at hl 0 rfl) ?_
  refine gfX12_137 C hw hw.2.2.1 h0 dX12_readWord_5 ?_
  obtain ⟨h45, hq⟩ := hq
  obtain ⟨h46, hq⟩ := hq
  refine q_iald C hw hw.2.2.1 h45 h46 dX12_readWord_8 ?_
  refine r_callS (index := 146) (n := 1) (d2 := 0) (mc := 0) (ms := 0) (As := [.int (mI M0 q43 (Int32.toNatClampNeg (mI M0 a0 4)))]) (rest := []) C hw (ct_X12_isLetter hq) ksX12_146 ⟨by decide, by decide⟩ ⟨by decide, by decide⟩ rfl hl.1 rfl (Nat.le_of_ble_eq_true rfl) dX12_readWord_9 (fun r M48 H locs hp hle hw => ?_)
  obtain ⟨v47, rfl, hq⟩ := hp
  refine W.eq (g2 := F0 m 12 ls [.int v47]) rfl ?_
  refine lv_istore_n (lv' := [(1, .int v47), (0, .ref a0)]) hx hb dX12_readWord_12 rfl hl (by decide) rfl (fun ls hl => ?_)
  refine lv_iconst (v := 1) hx hb dX12_readWord_13 (by decide) ?_
  refine lv_istore_n (lv' := [(2, .int 1), (1, .int v47), (0, .ref a0)]) hx hb dX12_readWord_14 rfl hl (by decide) rfl (fun ls hl => ?_)
  refine lv_aload_n hx hb dX12_readWord_15 rfl (lv_at hl 2 rfl) ?_
  refine lv_lconst (v := 0) hx hb dX12_readWord_16 (by decide) ?_
  refine pfX12_163 C hw hw.2.2.1 h0 dX12_readWord_17 (fun H locs hw => ?_)
  generalize e50 : uJ M48 a0 8 0 = M49 at hw
  replace hq := hq M49 e50.symm
  obtain ⟨nf, hq⟩ := hq
  exact lp_X12_readWord_20 C hr hlk hn h0  nf _ _ _ _ _ _ hq hw (lv_sub hl [2, 1, 0] rfl)

def lb_X12_go_247 (g : Gh) (M0 : Mem) (a0 : Nat) (p1 : Int32) (post : Mem → Prop)  (x3 : Int32)  (M : Mem) : Prop :=
  ((x3 = 0) → ∀ M2, M2 = uI M a0 6 1 → (post M2)) ∧ (¬ (x3 = 0) → ∀ M4, M4 = uI M a0 6 4 → (post M4))
def lb_X12_go_196 (g : Gh) (M0 : Mem) (a0 : Nat) (p1 : Int32) (post : Mem → Prop)  (x2 : Int32) (s0 : Int32) (M : Mem) : Prop :=
  ∀ M6, M6 = uI M a0 7 x2 → (∀ M8, M8 = uI M6 a0 4 ((mI M6 a0 4) + 1) → (((p1 = 0) → lb_X12_go_247 g M0 a0 p1 post  s0 M8) ∧ (¬ (p1 = 0) → ((x2 = 46) → wp_X12_at g M8 a0 (mI M8 a0 4) (fun v12 M13 => ((v12 = 46) → ∀ M15, M15 = uI M13 a0 4 ((mI M13 a0 4) + 1) → (lb_X12_go_247 g M0 a0 p1 post  1 M15)) ∧ (¬ (v12 = 46) → lb_X12_go_247 g M0 a0 p1 post  s0 M13))) ∧ (¬ (x2 = 46) → lb_X12_go_247 g M0 a0 p1 post  s0 M8))))
def lb_X12_go_79 (g : Gh) (M0 : Mem) (a0 : Nat) (p1 : Int32) (post : Mem → Prop)    (M : Mem) : Prop :=
  (((mI M a0 4) < (mI M a0 3)) → ∃ q18, mR M a0 1 = some q18 ∧ (okc (gB g) M0 q18 14 ∧ (vp_in (mI M a0 4) (mN M0 q18) ∧ (wp_X12_isLetter g M (mI M q18 (Int32.toNatClampNeg (mI M a0 4))) (fun v22 M23 => ((v22 = 0) → wp_X12_isDigit g M23 (mI M q18 (Int32.toNatClampNeg (mI M a0 4))) (fun v27 M28 => ((v27 = 0) → ((p1 = 0) → (((mI M q18 (Int32.toNatClampNeg (mI M a0 4))) = 59) → lb_X12_go_196 g M0 a0 p1 post  (mI M q18 (Int32.toNatClampNeg (mI M a0 4))) 1 M28) ∧ (¬ ((mI M q18 (Int32.toNatClampNeg (mI M a0 4))) = 59) → lb_X12_go_196 g M0 a0 p1 post  (mI M q18 (Int32.toNatClampNeg (mI M a0 4))) 0 M28)) ∧ (¬ (p1 = 0) → (((mI M q18 (Int32.toNatClampNeg (mI M a0 4))) = 124) → lb_X12_go_196 g M0 a0 p1 post  (mI M q18 (Int32.toNatClampNeg (mI M a0 4))) 1 M28) ∧ (¬ ((mI M q18 (Int32.toNatClampNeg (mI M a0 4))) = 124) → (((mI M q18 (Int32.toNatClampNeg (mI M a0 4))) = 91) → lb_X12_go_196 g M0 a0 p1 post  (mI M q18 (Int32.toNatClampNeg (mI M a0 4))) 1 M28) ∧ (¬ ((mI M q18 (Int32.toNatClampNeg (mI M a0 4))) = 91) → (((mI M q18 (Int32.toNatClampNeg (mI M a0 4))) = 93) → lb_X12_go_196 g M0 a0 p1 post  (mI M q18 (Int32.toNatClampNeg (mI M a0 4))) 1 M28) ∧ (¬ ((mI M q18 (Int32.toNatClampNeg (mI M a0 4))) = 93) → (((mI M q18 (Int32.toNatClampNeg (mI M a0 4))) = 40) → lb_X12_go_196 g M0 a0 p1 post  (mI M q18 (Int32.toNatClampNeg (mI M a0 4))) 1 M28) ∧ (¬ ((mI M q18 (Int32.toNatClampNeg (mI M a0 4))) = 40) → (((mI M q18 (Int32.toNatClampNeg (mI M a0 4))) = 41) → lb_X12_go_196 g M0 a0 p1 post  (mI M q18 (Int32.toNatClampNeg (mI M a0 4))) 1 M28) ∧ (¬ ((mI M q18 (Int32.toNatClampNeg (mI M a0 4))) = 41) → (((mI M q18 (Int32.toNatClampNeg (mI M a0 4))) = 123) → lb_X12_go_196 g M0 a0 p1 post  (mI M q18 (Int32.toNatClampNeg (mI M a0 4))) 1 M28) ∧ (¬ ((mI M q18 (Int32.toNatClampNeg (mI M a0 4))) = 123) → (((mI M q18 (Int32.toNatClampNeg (mI M a0 4))) = 125) → lb_X12_go_196 g M0 a0 p1 post  (mI M q18 (Int32.toNatClampNeg (mI M a0 4))) 1 M28) ∧ (¬ ((mI M q18 (Int32.toNatClampNeg (mI M a0 4))) = 125) → (((mI M q18 (Int32.toNatClampNeg (mI M a0 4))) = 44) → lb_X12_go_196 g M0 a0 p1 post  (mI M q18 (Int32.toNatClampNeg (mI M a0 4))) 1 M28) ∧ (¬ ((mI M q18 (Int32.toNatClampNeg (mI M a0 4))) = 44) → lb_X12_go_196 g M0 a0 p1 post  (mI M q18 (Int32.toNatClampNeg (mI M a0 4))) 0 M28)))))))))) ∧ (¬ (v27 = 0) → wp_X12_readWord g M28 a0 (fun M41 => post M41)))) ∧ (¬ (v22 = 0) → wp_X12_readWord g M23 a0 (fun M26 => post M26))))))) ∧ (¬ ((mI M a0 4) < (mI M a0 3)) → ∀ M42, M42 = uI M a0 6 0 → (post M42))
def lb_X12_go_38 (g : Gh) (M0 : Mem) (a0 : Nat) (p1 : Int32) (post : Mem → Prop)    (M : Mem) : Prop :=
  ∀ M44, M44 = uI M a0 5 (mI M a0 4) → ((((mI M44 a0 3) ≤ 200) → lb_X12_go_79 g M0 a0 p1 post   M44) ∧ (¬ ((mI M44 a0 3) ≤ 200) → (((mI M44 a0 5) < 200) → lb_X12_go_79 g M0 a0 p1 post   M44) ∧ (¬ ((mI M44 a0 5) < 200) → ∀ M48, M48 = uI M44 a0 5 200 → (∀ M50, M50 = uI M48 a0 6 1 → (post M50)))))
def bd_X12_go_0 (g : Gh) (M0 : Mem) (a0 : Nat) (p1 : Int32) (post : Mem → Prop)  (bk0 : Mem → Prop)   (M : Mem) : Prop :=
  (((mI M a0 3) ≤ (mI M a0 4)) → lb_X12_go_38 g M0 a0 p1 post   M) ∧ (¬ ((mI M a0 3) ≤ (mI M a0 4)) → ∃ q53, mR M a0 1 = some q53 ∧ (okc (gB g) M0 q53 14 ∧ (vp_in (mI M a0 4) (mN M0 q53) ∧ ((((mI M q53 (Int32.toNatClampNeg (mI M a0 4))) = 32) → ∀ M58, M58 = uI M a0 4 ((mI M a0 4) + 1) → (bk0 (M58))) ∧ (¬ ((mI M q53 (Int32.toNatClampNeg (mI M a0 4))) = 32) → lb_X12_go_38 g M0 a0 p1 post   M)))))
def wp_X12_go (g : Gh) (M0 : Mem) (a0 : Nat) (p1 : Int32) (post : Mem → Prop) : Prop :=
  okc (gB g) M0 a0 12 ∧ ((∃ n : Nat, lfp (fun bk z => bd_X12_go_0 g M0 a0 p1 post  bk z) n (M0)))
set_option maxHeartbeats 4000000 in
set_option maxRecDepth 100000 in
theorem lt_X12_go_247 {l : Launch} {g : Gh} {p : Program} {e : Env} {s : State} {m : MethodId} {args : Array Value} {below : List Frame} {meth : Method} {c : Code} {H : Heap} {locs : List Loc} {ls : Array Slot} {M0 M : Mem} {a0 : Nat} {p1 : Int32} {post : Mem → Prop} {x3 : Int32}  (C : Cx g p s m args c cX12_go 4 RX12) (hr : meth.sig.returnType = none) (hlk : meth.locks = false) (hn : meth.name = "go") (h0 : okc (gB g) M0 a0 12)  (hq : lb_X12_go_247 g M0 a0 p1 post  x3 M) (hw : Wd g s M0 M H locs) (hl : lv_has ls 4 [(0, .ref a0), (1, .int p1), (3, .int x3)]) : W p l e (rmo 2 0 0) s m args below meth c H locs 0 0 (MQ below (Cq g M0 (pV post)) args s 0 0 (gA g)) (F0 m 247 ls []) := by
  have hx := C.1.1
  have hb := C.1.2.1
  unfold lb_X12_go_247 at hq
  refine lv_aload_n hx hb dX12_go_247 rfl (lv_at hl 0 rfl) ?_
  refine lv_iload_n hx hb dX12_go_248 rfl (lv_at hl 2 rfl) ?_
  refine lv_if_eq (tgt := 256) hx hb dX12_go_249 (by decide) (fun c1 => ?_) (fun c1 => ?_)
  · replace hq := hq.1 c1
    refine lv_iconst (v := 1) hx hb dX12_go_256 (by decide) ?_
    refine pfX12_143 C hw hw.2.2.1 h0 dX12_go_257 (fun H locs hw => ?_)
    generalize e3 : uI M a0 6 1 = M2 at hw
    replace hq := hq M2 e3.symm
    exact r_vret C hr hlk hw dX12_go_260 (by decide) (by decide) ⟨rfl, hq⟩
  · replace hq := hq.2 c1
    refine lv_iconst (v := 4) hx hb dX12_go_252 (by decide) ?_
    refine lv_goto (tgt := 257) hx hb dX12_go_253 (by decide) ?_
    refine pfX12_143 C hw hw.2.2.1 h0 dX12_go_257 (fun H locs hw => ?_)
    generalize e5 : uI M a0 6 4 = M4 at hw
    replace hq := hq M4 e5.symm
    exact r_vret C hr hlk hw dX12_go_260 (by decide) (by decide) ⟨rfl, hq⟩
set_option maxHeartbeats 4000000 in
set_option maxRecDepth 100000 in
theorem lt_X12_go_196 {l : Launch} {g : Gh} {p : Program} {e : Env} {s : State} {m : MethodId} {args : Array Value} {below : List Frame} {meth : Method} {c : Code} {H : Heap} {locs : List Loc} {ls : Array Slot} {M0 M : Mem} {a0 : Nat} {p1 : Int32} {post : Mem → Prop} {x2 : Int32} {s0 : Int32} (C : Cx g p s m args c cX12_go 4 RX12) (hr : meth.sig.returnType = none) (hlk : meth.locks = false) (hn : meth.name = "go") (h0 : okc (gB g) M0 a0 12)  (hq : lb_X12_go_196 g M0 a0 p1 post  x2 s0 M) (hw : Wd g s M0 M H locs) (hl : lv_has ls 4 [(0, .ref a0), (1, .int p1), (2, .int x2)]) : W p l e (rmo 2 0 0) s m args below meth c H locs 0 0 (MQ below (Cq g M0 (pV post)) args s 0 0 (gA g)) (F0 m 196 ls [.int s0]) := by
  have hx := C.1.1
  have hb := C.1.2.1
  unfold lb_X12_go_196 at hq
  refine lv_istore_n (lv' := [(3, .int s0), (0, .ref a0), (1, .int p1), (2, .int x2)]) hx hb dX12_go_196 rfl hl (by decide) rfl (fun ls hl => ?_)
  refine lv_aload_n hx hb dX12_go_197 rfl (lv_at hl 1 rfl) ?_
  refine lv_iload_n hx hb dX12_go_198 rfl (lv_at hl 3 rfl) ?_
  refine pfX12_156 C hw hw.2.2.1 h0 dX12_go_199 (fun H locs hw => ?_)
  generalize e7 : uI M a0 7 x2 = M6 at hw
  replace hq := hq M6 e7.symm
  refine lv_aload_n hx hb dX12_go_202 rfl (lv_at hl 1 rfl) ?_
  refine lv_dup hx hb dX12_go_203 rfl ?_
  refine gfX12_137 C hw hw.2.2.1 h0 dX12_go_204 ?_
  refine lv_iconst (v := 1) hx hb dX12_go_207 (by decide) ?_
  refine lv_iadd hx hb dX12_go_208 ?_
  refine pfX12_137 C hw hw.2.2.1 h0 dX12_go_209 (fun H locs hw => ?_)
  generalize e9 : uI M6 a0 4 ((mI M6 a0 4) + 1) = M8 at hw
  replace hq := hq M8 e9.symm
  refine lv_iload_n hx hb dX12_go_212 rfl (lv_at hl 2 rfl) ?_
  refine lv_if_eq (tgt := 247) hx hb dX12_go_213 (by decide) (fun c10 => ?_) (fun c10 => ?_)
  · replace hq := hq.1 c10
    exact lt_X12_go_247 C hr hlk hn h0  hq hw (lv_sub hl [1, 2, 0] rfl)
  · replace hq := hq.2 c10
    refine lv_iload_n hx hb dX12_go_216 rfl (lv_at hl 3 rfl) ?_
    refine lv_bipush (v := 46) hx hb dX12_go_217 (by decide) ?_
    refine lv_icmp_ne (tgt := 247) hx hb dX12_go_219 (by decide) (fun c11 => ?_) (fun c11 => ?_)
    · replace hq := hq.2 c11
      exact lt_X12_go_247 C hr hlk hn h0  hq hw (lv_sub hl [1, 2, 0] rfl)
    · replace hq := hq.1 c11
      refine lv_aload_n hx hb dX12_go_222 rfl (lv_at hl 1 rfl) ?_
      refine lv_aload_n hx hb dX12_go_223 rfl (lv_at hl 1 rfl) ?_
      refine gfX12_137 C hw hw.2.2.1 h0 dX12_go_224 ?_
      refine r_callV (T := TX12) (N := 67) (ci := 12) (index := 159) (n := 1) (d2 := 0) (mc := 0) (ms := 0) (As := [.int (mI M8 a0 4)]) (rest := []) C hw (ct_X12_at hq) kvX12_159 hq.1 (by decide) rfl ⟨by decide, by decide⟩ ⟨by decide, by decide⟩ rfl hl.1 rfl (Nat.le_of_ble_eq_true rfl) dX12_go_227 (fun r M13 H locs hp hle hw => ?_)
      obtain ⟨v12, rfl, hq⟩ := hp
      refine W.eq (g2 := F0 m 230 ls [.int v12]) rfl ?_
      refine lv_bipush (v := 46) hx hb dX12_go_230 (by decide) ?_
      refine lv_icmp_ne (tgt := 247) hx hb dX12_go_232 (by decide) (fun c14 => ?_) (fun c14 => ?_)
      · replace hq := hq.2 c14
        exact lt_X12_go_247 C hr hlk hn h0  hq hw (lv_sub hl [1, 2, 0] rfl)
      · replace hq := hq.1 c14
        refine lv_iconst (v := 1) hx hb dX12_go_235 (by decide) ?_
        refine lv_istore_n (lv' := [(3, .int 1), (0, .ref a0), (1, .int p1), (2, .int x2)]) hx hb dX12_go_236 rfl hl (by decide) rfl (fun ls hl => ?_)
        refine lv_aload_n hx hb dX12_go_237 rfl (lv_at hl 1 rfl) ?_
        refine lv_dup hx hb dX12_go_238 rfl ?_
        refine gfX12_137 C hw hw.2.2.1 h0 dX12_go_239 ?_
        refine lv_iconst (v := 1) hx hb dX12_go_242 (by decide) ?_
        refine lv_iadd hx hb dX12_go_243 ?_
        refine pfX12_137 C hw hw.2.2.1 h0 dX12_go_244 (fun H locs hw => ?_)
        generalize e16 : uI M13 a0 4 ((mI M13 a0 4) + 1) = M15 at hw
        replace hq := hq M15 e16.symm
        exact lt_X12_go_247 C hr hlk hn h0  hq hw (lv_sub hl [1, 2, 0] rfl)
set_option maxHeartbeats 4000000 in
set_option maxRecDepth 100000 in
theorem lt_X12_go_79 {l : Launch} {g : Gh} {p : Program} {e : Env} {s : State} {m : MethodId} {args : Array Value} {below : List Frame} {meth : Method} {c : Code} {H : Heap} {locs : List Loc} {ls : Array Slot} {M0 M : Mem} {a0 : Nat} {p1 : Int32} {post : Mem → Prop}   (C : Cx g p s m args c cX12_go 4 RX12) (hr : meth.sig.returnType = none) (hlk : meth.locks = false) (hn : meth.name = "go") (h0 : okc (gB g) M0 a0 12)  (hq : lb_X12_go_79 g M0 a0 p1 post   M) (hw : Wd g s M0 M H locs) (hl : lv_has ls 4 [(0, .ref a0), (1, .int p1)]) : W p l e (rmo 2 0 0) s m args below meth c H locs 0 0 (MQ below (Cq g M0 (pV post)) args s 0 0 (gA g)) (F0 m 79 ls []) := by
  have hx := C.1.1
  have hb := C.1.2.1
  unfold lb_X12_go_79 at hq
  refine lv_aload_n hx hb dX12_go_79 rfl (lv_at hl 0 rfl) ?_
  refine gfX12_137 C hw hw.2.2.1 h0 dX12_go_80 ?_
  refine lv_aload_n hx hb dX12_go_83 rfl (lv_at hl 0 rfl) ?_
  refine gfX12_134 C hw hw.2.2.1 h0 dX12_go_84 ?_
  refine lv_icmp_lt (tgt := 96) hx hb dX12_go_87 (by decide) (fun c17 => ?_) (fun c17 => ?_)
  · replace hq := hq.1 c17
    refine lv_aload_n hx hb dX12_go_96 rfl (lv_at hl 0 rfl) ?_
    obtain ⟨q18, e19, hq⟩ := hq
    refine gfX12_7 C hw hw.2.2.1 h0 e19 dX12_go_97 ?_
    refine lv_aload_n hx hb dX12_go_100 rfl (lv_at hl 0 rfl) ?_
    refine gfX12_137 C hw hw.2.2.1 h0 dX12_go_101 ?_
    obtain ⟨h20, hq⟩ := hq
    obtain ⟨h21, hq⟩ := hq
    refine q_iald C hw hw.2.2.1 h20 h21 dX12_go_104 ?_
    refine lv_istore_n (lv' := [(2, .int (mI M q18 (Int32.toNatClampNeg (mI M a0 4)))), (0, .ref a0), (1, .int p1)]) hx hb dX12_go_105 rfl hl (by decide) rfl (fun ls hl => ?_)
    refine lv_iload_n hx hb dX12_go_106 rfl (lv_at hl 0 rfl) ?_
    refine r_callS (index := 146) (n := 1) (d2 := 0) (mc := 0) (ms := 0) (As := [.int (mI M q18 (Int32.toNatClampNeg (mI M a0 4)))]) (rest := []) C hw (ct_X12_isLetter hq) ksX12_146 ⟨by decide, by decide⟩ ⟨by decide, by decide⟩ rfl hl.1 rfl (Nat.le_of_ble_eq_true rfl) dX12_go_107 (fun r M23 H locs hp hle hw => ?_)
    obtain ⟨v22, rfl, hq⟩ := hp
    refine W.eq (g2 := F0 m 110 ls [.int v22]) rfl ?_
    refine lv_if_ne (tgt := 120) hx hb dX12_go_110 (by decide) (fun c24 => ?_) (fun c24 => ?_)
    · replace hq := hq.2 c24
      refine lv_aload_n hx hb dX12_go_120 rfl (lv_at hl 1 rfl) ?_
      refine r_callV (T := TX12) (N := 67) (ci := 12) (index := 153) (n := 0) (d2 := 1) (mc := 0) (ms := 0) (As := []) (rest := []) C hw (ct_X12_readWord hq) kvX12_153 hq.1 (by decide) rfl ⟨by decide, by decide⟩ ⟨by decide, by decide⟩ rfl hl.1 rfl (Nat.le_of_ble_eq_true rfl) dX12_go_121 (fun r M26 H locs hp hle hw => ?_)
      obtain ⟨rfl, hq⟩ := hp
      refine W.eq (g2 := F0 m 124 ls []) rfl ?_
      exact r_vret C hr hlk hw dX12_go_124 (by decide) (by decide) ⟨rfl, hq⟩
    · replace hq := hq.1 c24
      refine lv_iload_n hx hb dX12_go_113 rfl (lv_at hl 0 rfl) ?_
      refine r_callS (index := 150) (n := 1) (d2 := 0) (mc := 0) (ms := 0) (As := [.int (mI M q18 (Int32.toNatClampNeg (mI M a0 4)))]) (rest := []) C hw (ct_X12_isDigit hq) ksX12_150 ⟨by decide, by decide⟩ ⟨by decide, by decide⟩ rfl hl.1 rfl (Nat.le_of_ble_eq_true rfl) dX12_go_114 (fun r M28 H locs hp hle hw => ?_)
      obtain ⟨v27, rfl, hq⟩ := hp
      refine W.eq (g2 := F0 m 117 ls [.int v27]) rfl ?_
      refine lv_if_eq (tgt := 125) hx hb dX12_go_117 (by decide) (fun c29 => ?_) (fun c29 => ?_)
      · replace hq := hq.1 c29
        refine lv_iload_n hx hb dX12_go_125 rfl (lv_at hl 2 rfl) ?_
        refine lv_if_eq (tgt := 185) hx hb dX12_go_126 (by decide) (fun c30 => ?_) (fun c30 => ?_)
        · replace hq := hq.1 c30
          refine lv_iload_n hx hb dX12_go_185 rfl (lv_at hl 0 rfl) ?_
          refine lv_bipush (v := 59) hx hb dX12_go_186 (by decide) ?_
          refine lv_icmp_ne (tgt := 195) hx hb dX12_go_188 (by decide) (fun c31 => ?_) (fun c31 => ?_)
          · replace hq := hq.2 c31
            refine lv_iconst (v := 0) hx hb dX12_go_195 (by decide) ?_
            exact lt_X12_go_196 C hr hlk hn h0  hq hw (lv_sub hl [1, 2, 0] rfl)
          · replace hq := hq.1 c31
            refine lv_iconst (v := 1) hx hb dX12_go_191 (by decide) ?_
            refine lv_goto (tgt := 196) hx hb dX12_go_192 (by decide) ?_
            exact lt_X12_go_196 C hr hlk hn h0  hq hw (lv_sub hl [1, 2, 0] rfl)
        · replace hq := hq.2 c30
          refine lv_iload_n hx hb dX12_go_129 rfl (lv_at hl 0 rfl) ?_
          refine lv_bipush (v := 124) hx hb dX12_go_130 (by decide) ?_
          refine lv_icmp_eq (tgt := 177) hx hb dX12_go_132 (by decide) (fun c32 => ?_) (fun c32 => ?_)
          · replace hq := hq.1 c32
            refine lv_iconst (v := 1) hx hb dX12_go_177 (by decide) ?_
            refine lv_goto (tgt := 196) hx hb dX12_go_178 (by decide) ?_
            exact lt_X12_go_196 C hr hlk hn h0  hq hw (lv_sub hl [1, 2, 0] rfl)
          · replace hq := hq.2 c32
            refine lv_iload_n hx hb dX12_go_135 rfl (lv_at hl 0 rfl) ?_
            refine lv_bipush (v := 91) hx hb dX12_go_136 (by decide) ?_
            refine lv_icmp_eq (tgt := 177) hx hb dX12_go_138 (by decide) (fun c33 => ?_) (fun c33 => ?_)
            · replace hq := hq.1 c33
              refine lv_iconst (v := 1) hx hb dX12_go_177 (by decide) ?_
              refine lv_goto (tgt := 196) hx hb dX12_go_178 (by decide) ?_
              exact lt_X12_go_196 C hr hlk hn h0  hq hw (lv_sub hl [1, 2, 0] rfl)
            · replace hq := hq.2 c33
              refine lv_iload_n hx hb dX12_go_141 rfl (lv_at hl 0 rfl) ?_
              refine lv_bipush (v := 93) hx hb dX12_go_142 (by decide) ?_
              refine lv_icmp_eq (tgt := 177) hx hb dX12_go_144 (by decide) (fun c34 => ?_) (fun c34 => ?_)
              · replace hq := hq.1 c34
                refine lv_iconst (v := 1) hx hb dX12_go_177 (by decide) ?_
                refine lv_goto (tgt := 196) hx hb dX12_go_178 (by decide) ?_
                exact lt_X12_go_196 C hr hlk hn h0  hq hw (lv_sub hl [1, 2, 0] rfl)
              · replace hq := hq.2 c34
                refine lv_iload_n hx hb dX12_go_147 rfl (lv_at hl 0 rfl) ?_
                refine lv_bipush (v := 40) hx hb dX12_go_148 (by decide) ?_
                refine lv_icmp_eq (tgt := 177) hx hb dX12_go_150 (by decide) (fun c35 => ?_) (fun c35 => ?_)
                · replace hq := hq.1 c35
                  refine lv_iconst (v := 1) hx hb dX12_go_177 (by decide) ?_
                  refine lv_goto (tgt := 196) hx hb dX12_go_178 (by decide) ?_
                  exact lt_X12_go_196 C hr hlk hn h0  hq hw (lv_sub hl [1, 2, 0] rfl)
                · replace hq := hq.2 c35
                  refine lv_iload_n hx hb dX12_go_153 rfl (lv_at hl 0 rfl) ?_
                  refine lv_bipush (v := 41) hx hb dX12_go_154 (by decide) ?_
                  refine lv_icmp_eq (tgt := 177) hx hb dX12_go_156 (by decide) (fun c36 => ?_) (fun c36 => ?_)
                  · replace hq := hq.1 c36
                    refine lv_iconst (v := 1) hx hb dX12_go_177 (by decide) ?_
                    refine lv_goto (tgt := 196) hx hb dX12_go_178 (by decide) ?_
                    exact lt_X12_go_196 C hr hlk hn h0  hq hw (lv_sub hl [1, 2, 0] rfl)
                  · replace hq := hq.2 c36
                    refine lv_iload_n hx hb dX12_go_159 rfl (lv_at hl 0 rfl) ?_
                    refine lv_bipush (v := 123) hx hb dX12_go_160 (by decide) ?_
                    refine lv_icmp_eq (tgt := 177) hx hb dX12_go_162 (by decide) (fun c37 => ?_) (fun c37 => ?_)
                    · replace hq := hq.1 c37
                      refine lv_iconst (v := 1) hx hb dX12_go_177 (by decide) ?_
                      refine lv_goto (tgt := 196) hx hb dX12_go_178 (by decide) ?_
                      exact lt_X12_go_196 C hr hlk hn h0  hq hw (lv_sub hl [1, 2, 0] rfl)
                    · replace hq := hq.2 c37
                      refine lv_iload_n hx hb dX12_go_165 rfl (lv_at hl 0 rfl) ?_
                      refine lv_bipush (v := 125) hx hb dX12_go_166 (by decide) ?_
                      refine lv_icmp_eq (tgt := 177) hx hb dX12_go_168 (by decide) (fun c38 => ?_) (fun c38 => ?_)
                      · replace hq := hq.1 c38
                        refine lv_iconst (v := 1) hx hb dX12_go_177 (by decide) ?_
                        refine lv_goto (tgt := 196) hx hb dX12_go_178 (by decide) ?_
                        exact lt_X12_go_196 C hr hlk hn h0  hq hw (lv_sub hl [1, 2, 0] rfl)
                      · replace hq := hq.2 c38
                        refine lv_iload_n hx hb dX12_go_171 rfl (lv_at hl 0 rfl) ?_
                        refine lv_bipush (v := 44) hx hb dX12_go_172 (by decide) ?_
                        refine lv_icmp_ne (tgt := 181) hx hb dX12_go_174 (by decide) (fun c39 => ?_) (fun c39 => ?_)
                        · replace hq := hq.2 c39
                          refine lv_iconst (v := 0) hx hb dX12_go_181 (by decide) ?_
                          refine lv_goto (tgt := 196) hx hb dX12_go_182 (by decide) ?_
                          exact lt_X12_go_196 C hr hlk hn h0  hq hw (lv_sub hl [1, 2, 0] rfl)
                        · replace hq := hq.1 c39
                          refine lv_iconst (v := 1) hx hb dX12_go_177 (by decide) ?_
                          refine lv_goto (tgt := 196) hx hb dX12_go_178 (by decide) ?_
                          exact lt_X12_go_196 C hr hlk hn h0  hq hw (lv_sub hl [1, 2, 0] rfl)
      · replace hq := hq.2 c29
        refine lv_aload_n hx hb dX12_go_120 rfl (lv_at hl 1 rfl) ?_
        refine r_callV (T := TX12) (N := 67) (ci := 12) (index := 153) (n := 0) (d2 := 1) (mc := 0) (ms := 0) (As := []) (rest := []) C hw (ct_X12_readWord hq) kvX12_153 hq.1 (by decide) rfl ⟨by decide, by decide⟩ ⟨by decide, by decide⟩ rfl hl.1 rfl (Nat.le_of_ble_eq_true rfl) dX12_go_121 (fun r M41 H locs hp hle hw => ?_)
        obtain ⟨rfl, hq⟩ := hp
        refine W.eq (g2 := F0 m 124 ls []) rfl ?_
        exact r_vret C hr hlk hw dX12_go_124 (by decide) (by decide) ⟨rfl, hq⟩
  · replace hq := hq.2 c17
    refine lv_aload_n hx hb dX12_go_90 rfl (lv_at hl 0 rfl) ?_
    refine lv_iconst (v := 0) hx hb dX12_go_91 (by decide) ?_
    refine pfX12_143 C hw hw.2.2.1 h0 dX12_go_92 (fun H locs hw => ?_)
    generalize e43 : uI M a0 6 0 = M42 at hw
    replace hq := hq M42 e43.symm
    exact r_vret C hr hlk hw dX12_go_95 (by decide) (by decide) ⟨rfl, hq⟩
set_option maxHeartbeats 4000000 in
set_option maxRecDepth 100000 in
theorem lt_X12_go_38 {l : Launch} {g : Gh} {p : Program} {e : Env} {s : State} {m : MethodId} {args : Array Value} {below : List Frame} {meth : Method} {c : Code} {H : Heap} {locs : List Loc} {ls : Array Slot} {M0 M : Mem} {a0 : Nat} {p1 : Int32} {post : Mem → Prop}   (C : Cx g p s m args c cX12_go 4 RX12) (hr : meth.sig.returnType = none) (hlk : meth.locks = false) (hn : meth.name = "go") (h0 : okc (gB g) M0 a0 12)  (hq : lb_X12_go_38 g M0 a0 p1 post   M) (hw : Wd g s M0 M H locs) (hl : lv_has ls 4 [(0, .ref a0), (1, .int p1)]) : W p l e (rmo 2 0 0) s m args below meth c H locs 0 0 (MQ below (Cq g M0 (pV post)) args s 0 0 (gA g)) (F0 m 38 ls []) := by
  have hx := C.1.1
  have hb := C.1.2.1
  unfold lb_X12_go_38 at hq
  refine lv_aload_n hx hb dX12_go_38 rfl (lv_at hl 0 rfl) ?_
  refine lv_aload_n hx hb dX12_go_39 rfl (lv_at hl 0 rfl) ?_
  refine gfX12_137 C hw hw.2.2.1 h0 dX12_go_40 ?_
  refine pfX12_140 C hw hw.2.2.1 h0 dX12_go_43 (fun H locs hw => ?_)
  generalize e45 : uI M a0 5 (mI M a0 4) = M44 at hw
  replace hq := hq M44 e45.symm
  refine lv_aload_n hx hb dX12_go_46 rfl (lv_at hl 0 rfl) ?_
  refine gfX12_134 C hw hw.2.2.1 h0 dX12_go_47 ?_
  refine lv_sipush (v := 200) hx hb dX12_go_50 (by decide) ?_
  refine lv_icmp_le (tgt := 79) hx hb dX12_go_53 (by decide) (fun c46 => ?_) (fun c46 => ?_)
  · replace hq := hq.1 c46
    exact lt_X12_go_79 C hr hlk hn h0  hq hw (lv_sub hl [0, 1] rfl)
  · replace hq := hq.2 c46
    refine lv_aload_n hx hb dX12_go_56 rfl (lv_at hl 0 rfl) ?_
    refine gfX12_140 C hw hw.2.2.1 h0 dX12_go_57 ?_
    refine lv_sipush (v := 200) hx hb dX12_go_60 (by decide) ?_
    refine lv_icmp_lt (tgt := 79) hx hb dX12_go_63 (by decide) (fun c47 => ?_) (fun c47 => ?_)
    · replace hq := hq.1 c47
      exact lt_X12_go_79 C hr hlk hn h0  hq hw (lv_sub hl [0, 1] rfl)
    · replace hq := hq.2 c47
      refine lv_aload_n hx hb dX12_go_66 rfl (lv_at hl 0 rfl) ?_
      refine lv_sipush (v := 200) hx hb dX12_go_67 (by decide) ?_
      refine pfX12_140 C hw hw.2.2.1 h0 dX12_go_70 (fun H locs hw => ?_)
      generalize e49 : uI M44 a0 5 200 = M48 at hw
      replace hq := hq M48 e49.symm
      refine lv_aload_n hx hb dX12_go_73 rfl (lv_at hl 0 rfl) ?_
      refine lv_iconst (v := 1) hx hb dX12_go_74 (by decide) ?_
      refine pfX12_143 C hw hw.2.2.1 h0 dX12_go_75 (fun H locs hw => ?_)
      generalize e51 : uI M48 a0 6 1 = M50 at hw
      replace hq := hq M50 e51.symm
      exact r_vret C hr hlk hw dX12_go_78 (by decide) (by decide) ⟨rfl, hq⟩
set_option maxHeartbeats 4000000 in
set_option maxRecDepth 100000 in
theorem lp_X12_go_0 {l : Launch} {g : Gh} {p : Program} {e : Env} {s : State} {m : MethodId} {args : Array Value} {below : List Frame} {meth : Method} {c : Code} {M0 : Mem} {a0 : Nat} {p1 : Int32} {post : Mem → Prop} (C : Cx g p s m args c cX12_go 4 RX12) (hr : meth.sig.returnType = none) (hlk : meth.locks = false) (hn : meth.name = "go") (h0 : okc (gB g) M0 a0 12)  : ∀ (nf : Nat)   (M : Mem) (H : Heap) (locs : List Loc) (ls : Array Slot), lfp (fun bk z => bd_X12_go_0 g M0 a0 p1 post  bk z) nf (M) → Wd g s M0 M H locs → lv_has ls 4 [(0, .ref a0), (1, .int p1)] → W p l e (rmo 2 0 0) s m args below meth c H locs 0 0 (MQ below (Cq g M0 (pV post)) args s 0 0 (gA g)) (F0 m 0 ls []) := by
  have hx := C.1.1
  have hb := C.1.2.1
  intro nf
  induction nf with
  | zero => intro _ H locs ls hq; exact hq.elim
  | succ nf hk0 =>
    intro M H locs ls hq hw hl
    replace hq : bd_X12_go_0 g M0 a0 p1 post  (lfp (fun bk z => bd_X12_go_0 g M0 a0 p1 post  bk z) nf) M := hq
    unfold bd_X12_go_0 at hq
    refine lv_aload_n hx hb dX12_go_0 rfl (lv_at hl 0 rfl) ?_
    refine gfX12_137 C hw hw.2.2.1 h0 dX12_go_1 ?_
    refine lv_aload_n hx hb dX12_go_4 rfl (lv_at hl 0 rfl) ?_
    refine gfX12_134 C hw hw.2.2.1 h0 dX12_go_5 ?_
    refine lv_icmp_ge (tgt := 38) hx hb dX12_go_8 (by decide) (fun c52 => ?_) (fun c52 => ?_)
    · replace hq := hq.1 c52
      exact lt_X12_go_38 C hr hlk hn h0  hq hw (lv_sub hl [0, 1] rfl)
    · replace hq := hq.2 c52
      refine lv_aload_n hx hb dX12_go_11 rfl (lv_at hl 0 rfl) ?_
      obtain ⟨q53, e54, hq⟩ := hq
      refine gfX12_7 C hw hw.2.2.1 h0 e54 dX12_go_12 ?_
      refine lv_aload_n hx hb dX12_go_15 rfl (lv_at hl 0 rfl) ?_
      refine gfX12_137 C hw hw.2.2.1 h0 dX12_go_16 ?_
      obtain ⟨h55, hq⟩ := hq
      obtain ⟨h56, hq⟩ := hq
      refine q_iald C hw hw.2.2.1 h55 h56 dX12_go_19 ?_
      refine lv_bipush (v := 32) hx hb dX12_go_20 (by decide) ?_
      refine lv_icmp_ne (tgt := 38) hx hb dX12_go_22 (by decide) (fun c57 => ?_) (fun c57 => ?_)
      · replace hq := hq.2 c57
        exact lt_X12_go_38 C hr hlk hn h0  hq hw (lv_sub hl [0, 1] rfl)
      · replace hq := hq.1 c57
        refine lv_aload_n hx hb dX12_go_25 rfl (lv_at hl 0 rfl) ?_
        refine lv_dup hx hb dX12_go_26 rfl ?_
        refine gfX12_137 C hw hw.2.2.1 h0 dX12_go_27 ?_
        refine lv_iconst (v := 1) hx hb dX12_go_30 (by decide) ?_
        refine lv_iadd hx hb dX12_go_31 ?_
        refine pfX12_137 C hw hw.2.2.1 h0 dX12_go_32 (fun H locs hw => ?_)
        generalize e59 : uI M a0 4 ((mI M a0 4) + 1) = M58 at hw
        replace hq := hq M58 e59.symm
        have e54 : mR M58 a0 1 = some q53 := by rw [← e59, mR_uI]; exact e54
        refine lv_goto (tgt := 0) hx hb dX12_go_35 (by decide) ?_
        exact hk0 _ _ _ _ hq hw (lv_sub hl [0, 1] rfl)
set_option maxHeartbeats 4000000 in
set_option maxRecDepth 100000 in
theorem ct_X12_go {l : Launch} {g : Gh} {M0 : Mem} {a0 : Nat} {p1 : Int32} {post : Mem → Prop} (hq : wp_X12_go g M0 a0 p1 post) : Ct l g yX12_go cX12_go 4 none 2 0 0 [.ref a0, .int p1] M0 (pV post) := by
  unfold wp_X12_go at hq
  obtain ⟨h0, hq⟩ := hq
  refine Ct.of (by decide) (Nat.le_of_ble_eq_true rfl) ?_
  intro p e s m below meth c ls C hr hlk hn hl hw
  have hx := C.1.1
  have hb := C.1.2.1
  have hl : lv_has ls 4 [(0, .ref a0), (1, .int p1)] := hl
  obtain ⟨nf, hq⟩ := hq
  exact lp_X12_go_0 C hr hlk hn h0  nf _ _ _ _ hq hw (lv_sub hl [0, 1] rfl)

def wp_X12_bad (g : Gh) (M0 : Mem) (a0 : Nat) (p1 : Int32) (post : Int32 → Mem → Prop) : Prop :=
  okc (gB g) M0 a0 12 ∧ ((((mI M0 a0 6) = 1) → ∀ M6, M6 = uI M0 a0 9 1 → (∀ M8, M8 = uI M6 a0 10 (mI M6 a0 5) → (post 0 M8))) ∧ (¬ ((mI M0 a0 6) = 1) → ∀ M2, M2 = uI M0 a0 9 p1 → (∀ M4, M4 = uI M2 a0 10 (mI M2 a0 5) → (post 0 M4))))
set_option maxHeartbeats 4000000 in
set_option maxRecDepth 100000 in
theorem ct_X12_bad {l : Launch} {g : Gh} {M0 : Mem} {a0 : Nat} {p1 : Int32} {post : Int32 → Mem → Prop} (hq : wp_X12_bad g M0 a0 p1 post) : Ct l g yX12_bad cX12_bad 2 (some .boolean) 0 0 0 [.ref a0, .int p1] M0 (pI post) := by
  unfold wp_X12_bad at hq
  obtain ⟨h0, hq⟩ := hq
  refine Ct.of (by decide) (Nat.le_of_ble_eq_true rfl) ?_
  intro p e s m below meth c ls C hr hlk hn hl hw
  have hx := C.1.1
  have hb := C.1.2.1
  have hl : lv_has ls 2 [(0, .ref a0), (1, .int p1)] := hl
  refine lv_aload_n hx hb dX12_bad_0 rfl (lv_at hl 0 rfl) ?_
  refine lv_aload_n hx hb dX12_bad_1 rfl (lv_at hl 0 rfl) ?_
  refine gfX12_143 C hw hw.2.2.1 h0 dX12_bad_2 ?_
  refine lv_iconst (v := 1) hx hb dX12_bad_5 (by decide) ?_
  refine lv_icmp_ne (tgt := 13) hx hb dX12_bad_6 (by decide) (fun c1 => ?_) (fun c1 => ?_)
  · replace hq := hq.2 c1
    refine lv_iload_n hx hb dX12_bad_13 rfl (lv_at hl 1 rfl) ?_
    refine pfX12_175 C hw hw.2.2.1 h0 dX12_bad_14 (fun H locs hw => ?_)
    generalize e3 : uI M0 a0 9 p1 = M2 at hw
    replace hq := hq M2 e3.symm
    refine lv_aload_n hx hb dX12_bad_17 rfl (lv_at hl 0 rfl) ?_
    refine lv_aload_n hx hb dX12_bad_18 rfl (lv_at hl 0 rfl) ?_
    refine gfX12_140 C hw hw.2.2.1 h0 dX12_bad_19 ?_
    refine pfX12_178 C hw hw.2.2.1 h0 dX12_bad_22 (fun H locs hw => ?_)
    generalize e5 : uI M2 a0 10 (mI M2 a0 5) = M4 at hw
    replace hq := hq M4 e5.symm
    refine lv_iconst (v := 0) hx hb dX12_bad_25 (by decide) ?_
    exact r_zret C hr hlk hw dX12_bad_26 (by decide) (by decide) (by decide) ⟨_, rfl, hq⟩
  · replace hq := hq.1 c1
    refine lv_iconst (v := 1) hx hb dX12_bad_9 (by decide) ?_
    refine lv_goto (tgt := 14) hx hb dX12_bad_10 (by decide) ?_
    refine pfX12_175 C hw hw.2.2.1 h0 dX12_bad_14 (fun H locs hw => ?_)
    generalize e7 : uI M0 a0 9 1 = M6 at hw
    replace hq := hq M6 e7.symm
    refine lv_aload_n hx hb dX12_bad_17 rfl (lv_at hl 0 rfl) ?_
    refine lv_aload_n hx hb dX12_bad_18 rfl (lv_at hl 0 rfl) ?_
    refine gfX12_140 C hw hw.2.2.1 h0 dX12_bad_19 ?_
    refine pfX12_178 C hw hw.2.2.1 h0 dX12_bad_22 (fun H locs hw => ?_)
    generalize e9 : uI M6 a0 10 (mI M6 a0 5) = M8 at hw
    replace hq := hq M8 e9.symm
    refine lv_iconst (v := 0) hx hb dX12_bad_25 (by decide) ?_
    exact r_zret C hr hlk hw dX12_bad_26 (by decide) (by decide) (by decide) ⟨_, rfl, hq⟩

def wp_X12_isSign (g : Gh) (M0 : Mem) (a0 : Nat) (p1 : Int32) (post : Int32 → Mem → Prop) : Prop :=
  okc (gB g) M0 a0 12 ∧ ((((mI M0 a0 6) = 4) → (((mI M0 a0 7) = p1) → post 1 M0) ∧ (¬ ((mI M0 a0 7) = p1) → post 0 M0)) ∧ (¬ ((mI M0 a0 6) = 4) → post 0 M0))
set_option maxHeartbeats 4000000 in
set_option maxRecDepth 100000 in
theorem ct_X12_isSign {l : Launch} {g : Gh} {M0 : Mem} {a0 : Nat} {p1 : Int32} {post : Int32 → Mem → Prop} (hq : wp_X12_isSign g M0 a0 p1 post) : Ct l g yX12_isSign cX12_isSign 2 (some .boolean) 0 0 0 [.ref a0, .int p1] M0 (pI post) := by
  unfold wp_X12_isSign at hq
  obtain ⟨h0, hq⟩ := hq
  refine Ct.of (by decide) (Nat.le_of_ble_eq_true rfl) ?_
  intro p e s m below meth c ls C hr hlk hn hl hw
  have hx := C.1.1
  have hb := C.1.2.1
  have hl : lv_has ls 2 [(0, .ref a0), (1, .int p1)] := hl
  refine lv_aload_n hx hb dX12_isSign_0 rfl (lv_at hl 0 rfl) ?_
  refine gfX12_143 C hw hw.2.2.1 h0 dX12_isSign_1 ?_
  refine lv_iconst (v := 4) hx hb dX12_isSign_4 (by decide) ?_
  refine lv_icmp_ne (tgt := 20) hx hb dX12_isSign_5 (by decide) (fun c1 => ?_) (fun c1 => ?_)
  · replace hq := hq.2 c1
    refine lv_iconst (v := 0) hx hb dX12_isSign_20 (by decide) ?_
    exact r_zret C hr hlk hw dX12_isSign_21 (by decide) (by decide) (by decide) ⟨_, rfl, hq⟩
  · replace hq := hq.1 c1
    refine lv_aload_n hx hb dX12_isSign_8 rfl (lv_at hl 0 rfl) ?_
    refine gfX12_156 C hw hw.2.2.1 h0 dX12_isSign_9 ?_
    refine lv_iload_n hx hb dX12_isSign_12 rfl (lv_at hl 1 rfl) ?_
    refine lv_icmp_ne (tgt := 20) hx hb dX12_isSign_13 (by decide) (fun c2 => ?_) (fun c2 => ?_)
    · replace hq := hq.2 c2
      refine lv_iconst (v := 0) hx hb dX12_isSign_20 (by decide) ?_
      exact r_zret C hr hlk hw dX12_isSign_21 (by decide) (by decide) (by decide) ⟨_, rfl, hq⟩
    · replace hq := hq.1 c2
      refine lv_iconst (v := 1) hx hb dX12_isSign_16 (by decide) ?_
      refine lv_goto (tgt := 21) hx hb dX12_isSign_17 (by decide) ?_
      exact r_zret C hr hlk hw dX12_isSign_21 (by decide) (by decide) (by decide) ⟨_, rfl, hq⟩

def wp_X12_node (g : Gh) (M0 : Mem) (a0 : Nat) (p1 : Int32) (p2 : Int64) (p4 : Int64) (post : Int32 → Mem → Prop) : Prop :=
  okc (gB g) M0 a0 12 ∧ (∀ M1, M1 = uI M0 a0 17 ((mI M0 a0 17) + 1) → (∃ q3, mR M1 a0 11 = some q3 ∧ (okc (gB g) M0 q3 14 ∧ (vp_in ((420 * (mI M0 a0 16)) + (mI M0 a0 17)) (mN M0 q3) ∧ (∀ M7, M7 = uI M1 q3 (Int32.toNatClampNeg ((420 * (mI M0 a0 16)) + (mI M0 a0 17))) p1 → (∃ q9, mR M7 a0 12 = some q9 ∧ (okc (gB g) M0 q9 14 ∧ (vp_in ((420 * (mI M0 a0 16)) + (mI M0 a0 17)) (mN M0 q9) ∧ (∀ M13, M13 = uI M7 q9 (Int32.toNatClampNeg ((420 * (mI M0 a0 16)) + (mI M0 a0 17))) (-1) → (∃ q15, mR M13 a0 13 = some q15 ∧ (okc (gB g) M0 q15 14 ∧ (vp_in ((420 * (mI M0 a0 16)) + (mI M0 a0 17)) (mN M0 q15) ∧ (∀ M19, M19 = uI M13 q15 (Int32.toNatClampNeg ((420 * (mI M0 a0 16)) + (mI M0 a0 17))) (-1) → (∃ q21, mR M19 a0 14 = some q21 ∧ (okc (gB g) M0 q21 15 ∧ (vp_in ((420 * (mI M0 a0 16)) + (mI M0 a0 17)) (mN M0 q21) ∧ (∀ M25, M25 = uJ M19 q21 (Int32.toNatClampNeg ((420 * (mI M0 a0 16)) + (mI M0 a0 17))) p2 → (∃ q27, mR M25 a0 15 = some q27 ∧ (okc (gB g) M0 q27 15 ∧ (vp_in ((420 * (mI M0 a0 16)) + (mI M0 a0 17)) (mN M0 q27) ∧ (∀ M31, M31 = uJ M25 q27 (Int32.toNatClampNeg ((420 * (mI M0 a0 16)) + (mI M0 a0 17))) p4 → (post ((420 * (mI M0 a0 16)) + (mI M0 a0 17)) M31))))))))))))))))))))))
set_option maxHeartbeats 4000000 in
set_option maxRecDepth 100000 in
theorem ct_X12_node {l : Launch} {g : Gh} {M0 : Mem} {a0 : Nat} {p1 : Int32} {p2 : Int64} {p4 : Int64} {post : Int32 → Mem → Prop} (hq : wp_X12_node g M0 a0 p1 p2 p4 post) : Ct l g yX12_node cX12_node 7 (some .int) 0 0 0 [.ref a0, .int p1, .long p2, .long p4] M0 (pI post) := by
  unfold wp_X12_node at hq
  obtain ⟨h0, hq⟩ := hq
  refine Ct.of (by decide) (Nat.le_of_ble_eq_true rfl) ?_
  intro p e s m below meth c ls C hr hlk hn hl hw
  have hx := C.1.1
  have hb := C.1.2.1
  have hl : lv_has ls 7 [(0, .ref a0), (1, .int p1), (2, .long p2), (4, .long p4)] := hl
  refine lv_sipush (v := 420) hx hb dX12_node_0 (by decide) ?_
  refine lv_aload_n hx hb dX12_node_3 rfl (lv_at hl 0 rfl) ?_
  refine gfX12_181 C hw hw.2.2.1 h0 dX12_node_4 ?_
  refine lv_imul hx hb dX12_node_7 ?_
  refine lv_aload_n hx hb dX12_node_8 rfl (lv_at hl 0 rfl) ?_
  refine gfX12_184 C hw hw.2.2.1 h0 dX12_node_9 ?_
  refine lv_iadd hx hb dX12_node_12 ?_
  refine lv_istore (lv' := [(6, .int ((420 * (mI M0 a0 16)) + (mI M0 a0 17))), (0, .ref a0), (1, .int p1), (2, .long p2), (4, .long p4)]) hx hb dX12_node_13 hl (by decide) rfl (fun ls hl => ?_)
  refine lv_aload_n hx hb dX12_node_15 rfl (lv_at hl 1 rfl) ?_
  refine lv_dup hx hb dX12_node_16 rfl ?_
  refine gfX12_184 C hw hw.2.2.1 h0 dX12_node_17 ?_
  refine lv_iconst (v := 1) hx hb dX12_node_20 (by decide) ?_
  refine lv_iadd hx hb dX12_node_21 ?_
  refine pfX12_184 C hw hw.2.2.1 h0 dX12_node_22 (fun H locs hw => ?_)
  generalize e2 : uI M0 a0 17 ((mI M0 a0 17) + 1) = M1 at hw
  replace hq := hq M1 e2.symm
  refine lv_aload_n hx hb dX12_node_25 rfl (lv_at hl 1 rfl) ?_
  obtain ⟨q3, e4, hq⟩ := hq
  refine gfX12_13 C hw hw.2.2.1 h0 e4 dX12_node_26 ?_
  refine lv_iload hx hb dX12_node_29 (lv_at hl 0 rfl) ?_
  refine lv_iload_n hx hb dX12_node_31 rfl (lv_at hl 2 rfl) ?_
  obtain ⟨h5, hq⟩ := hq
  obtain ⟨h6, hq⟩ := hq
  refine q_iast C hw hw.2.2.1 h5 h6 dX12_node_32 (fun H locs hw => ?_)
  generalize e8 : uI M1 q3 (Int32.toNatClampNeg ((420 * (mI M0 a0 16)) + (mI M0 a0 17))) p1 = M7 at hw
  replace hq := hq M7 e8.symm
  have e4 : mR M7 a0 11 = some q3 := by rw [← e8, mR_uI]; exact e4
  refine lv_aload_n hx hb dX12_node_33 rfl (lv_at hl 1 rfl) ?_
  obtain ⟨q9, e10, hq⟩ := hq
  refine gfX12_16 C hw hw.2.2.1 h0 e10 dX12_node_34 ?_
  refine lv_iload hx hb dX12_node_37 (lv_at hl 0 rfl) ?_
  refine lv_iconst (v := (-1)) hx hb dX12_node_39 (by decide) ?_
  obtain ⟨h11, hq⟩ := hq
  obtain ⟨h12, hq⟩ := hq
  refine q_iast C hw hw.2.2.1 h11 h12 dX12_node_40 (fun H locs hw => ?_)
  generalize e14 : uI M7 q9 (Int32.toNatClampNeg ((420 * (mI M0 a0 16)) + (mI M0 a0 17))) (-1) = M13 at hw
  replace hq := hq M13 e14.symm
  have e4 : mR M13 a0 11 = some q3 := by rw [← e14, mR_uI]; exact e4
  have e10 : mR M13 a0 12 = some q9 := by rw [← e14, mR_uI]; exact e10
  refine lv_aload_n hx hb dX12_node_41 rfl (lv_at hl 1 rfl) ?_
  obtain ⟨q15, e16, hq⟩ := hq
  refine gfX12_19 C hw hw.2.2.1 h0 e16 dX12_node_42 ?_
  refine lv_iload hx hb dX12_node_45 (lv_at hl 0 rfl) ?_
  refine lv_iconst (v := (-1)) hx hb dX12_node_47 (by decide) ?_
  obtain ⟨h17, hq⟩ := hq
  obtain ⟨h18, hq⟩ := hq
  refine q_iast C hw hw.2.2.1 h17 h18 dX12_node_48 (fun H locs hw => ?_)
  generalize e20 : uI M13 q15 (Int32.toNatClampNeg ((420 * (mI M0 a0 16)) + (mI M0 a0 17))) (-1) = M19 at hw
  replace hq := hq M19 e20.symm
  have e4 : mR M19 a0 11 = some q3 := by rw [← e20, mR_uI]; exact e4
  have e10 : mR M19 a0 12 = some q9 := by rw [← e20, mR_uI]; exact e10
  have e16 : mR M19 a0 13 = some q15 := by rw [← e20, mR_uI]; exact e16
  refine lv_aload_n hx hb dX12_node_49 rfl (lv_at hl 1 rfl) ?_
  obtain ⟨q21, e22, hq⟩ := hq
  refine gfX12_22 C hw hw.2.2.1 h0 e22 dX12_node_50 ?_
  refine lv_iload hx hb dX12_node_53 (lv_at hl 0 rfl) ?_
  refine lv_lload_n hx hb dX12_node_55 rfl (lv_at hl 3 rfl) ?_
  obtain ⟨h23, hq⟩ := hq
  obtain ⟨h24, hq⟩ := hq
  refine q_last C hw hw.2.2.1 h23 h24 dX12_node_56 (fun H locs hw => ?_)
  generalize e26 : uJ M19 q21 (Int32.toNatClampNeg ((420 * (mI M0 a0 16)) + (mI M0 a0 17))) p2 = M25 at hw
  replace hq := hq M25 e26.symm
  have e4 : mR M25 a0 11 = some q3 := by rw [← e26, mR_uJ]; exact e4
  have e10 : mR M25 a0 12 = some q9 := by rw [← e26, mR_uJ]; exact e10
  have e16 : mR M25 a0 13 = some q15 := by rw [← e26, mR_uJ]; exact e16
  have e22 : mR M25 a0 14 = some q21 := by rw [← e26, mR_uJ]; exact e22
  refine lv_aload_n hx hb dX12_node_57 rfl (lv_at hl 1 rfl) ?_
  obtain ⟨q27, e28, hq⟩ := hq
  refine gfX12_26 C hw hw.2.2.1 h0 e28 dX12_node_58 ?_
  refine lv_iload hx hb dX12_node_61 (lv_at hl 0 rfl) ?_
  refine lv_lload hx hb dX12_node_63 (lv_at hl 4 rfl) ?_
  obtain ⟨h29, hq⟩ := hq
  obtain ⟨h30, hq⟩ := hq
  refine q_last C hw hw.2.2.1 h29 h30 dX12_node_65 (fun H locs hw => ?_)
  generalize e32 : uJ M25 q27 (Int32.toNatClampNeg ((420 * (mI M0 a0 16)) + (mI M0 a0 17))) p4 = M31 at hw
  replace hq := hq M31 e32.symm
  have e4 : mR M31 a0 11 = some q3 := by rw [← e32, mR_uJ]; exact e4
  have e10 : mR M31 a0 12 = some q9 := by rw [← e32, mR_uJ]; exact e10
  have e16 : mR M31 a0 13 = some q15 := by rw [← e32, mR_uJ]; exact e16
  have e22 : mR M31 a0 14 = some q21 := by rw [← e32, mR_uJ]; exact e22
  have e28 : mR M31 a0 15 = some q27 := by rw [← e32, mR_uJ]; exact e28
  refine lv_iload hx hb dX12_node_66 (lv_at hl 0 rfl) ?_
  exact r_iret C hr hlk hw dX12_node_68 (by decide) (by decide) ⟨_, rfl, hq⟩

def wp_X12_hang (g : Gh) (M0 : Mem) (a0 : Nat) (p1 : Int32) (p2 : Int32) (p3 : Int32) (post : Mem → Prop) : Prop :=
  okc (gB g) M0 a0 12 ∧ (((p2 = (-1)) → ∃ q8, mR M0 a0 12 = some q8 ∧ (okc (gB g) M0 q8 14 ∧ (vp_in p1 (mN M0 q8) ∧ (∀ M12, M12 = uI M0 q8 (Int32.toNatClampNeg p1) p3 → (post M12))))) ∧ (¬ (p2 = (-1)) → ∃ q2, mR M0 a0 13 = some q2 ∧ (okc (gB g) M0 q2 14 ∧ (vp_in p2 (mN M0 q2) ∧ (∀ M6, M6 = uI M0 q2 (Int32.toNatClampNeg p2) p3 → (post M6))))))
set_option maxHeartbeats 4000000 in
set_option maxRecDepth 100000 in
theorem ct_X12_hang {l : Launch} {g : Gh} {M0 : Mem} {a0 : Nat} {p1 : Int32} {p2 : Int32} {p3 : Int32} {post : Mem → Prop} (hq : wp_X12_hang g M0 a0 p1 p2 p3 post) : Ct l g yX12_hang cX12_hang 4 none 0 0 0 [.ref a0, .int p1, .int p2, .int p3] M0 (pV post) := by
  unfold wp_X12_hang at hq
  obtain ⟨h0, hq⟩ := hq
  refine Ct.of (by decide) (Nat.le_of_ble_eq_true rfl) ?_
  intro p e s m below meth c ls C hr hlk hn hl hw
  have hx := C.1.1
  have hb := C.1.2.1
  have hl : lv_has ls 4 [(0, .ref a0), (1, .int p1), (2, .int p2), (3, .int p3)] := hl
  refine lv_iload_n hx hb dX12_hang_0 rfl (lv_at hl 2 rfl) ?_
  refine lv_iconst (v := (-1)) hx hb dX12_hang_1 (by decide) ?_
  refine lv_icmp_ne (tgt := 15) hx hb dX12_hang_2 (by decide) (fun c1 => ?_) (fun c1 => ?_)
  · replace hq := hq.2 c1
    refine lv_aload_n hx hb dX12_hang_15 rfl (lv_at hl 0 rfl) ?_
    obtain ⟨q2, e3, hq⟩ := hq
    refine gfX12_19 C hw hw.2.2.1 h0 e3 dX12_hang_16 ?_
    refine lv_iload_n hx hb dX12_hang_19 rfl (lv_at hl 2 rfl) ?_
    refine lv_iload_n hx hb dX12_hang_20 rfl (lv_at hl 3 rfl) ?_
    obtain ⟨h4, hq⟩ := hq
    obtain ⟨h5, hq⟩ := hq
    refine q_iast C hw hw.2.2.1 h4 h5 dX12_hang_21 (fun H locs hw => ?_)
    generalize e7 : uI M0 q2 (Int32.toNatClampNeg p2) p3 = M6 at hw
    replace hq := hq M6 e7.symm
    have e3 : mR M6 a0 13 = some q2 := by rw [← e7, mR_uI]; exact e3
    exact r_vret C hr hlk hw dX12_hang_22 (by decide) (by decide) ⟨rfl, hq⟩
  · replace hq := hq.1 c1
    refine lv_aload_n hx hb dX12_hang_5 rfl (lv_at hl 0 rfl) ?_
    obtain ⟨q8, e9, hq⟩ := hq
    refine gfX12_16 C hw hw.2.2.1 h0 e9 dX12_hang_6 ?_
    refine lv_iload_n hx hb dX12_hang_9 rfl (lv_at hl 1 rfl) ?_
    refine lv_iload_n hx hb dX12_hang_10 rfl (lv_at hl 3 rfl) ?_
    obtain ⟨h10, hq⟩ := hq
    obtain ⟨h11, hq⟩ := hq
    refine q_iast C hw hw.2.2.1 h10 h11 dX12_hang_11 (fun H locs hw => ?_)
    generalize e13 : uI M0 q8 (Int32.toNatClampNeg p1) p3 = M12 at hw
    replace hq := hq M12 e13.symm
    have e9 : mR M12 a0 12 = some q8 := by rw [← e13, mR_uI]; exact e9
    refine lv_goto (tgt := 22) hx hb dX12_hang_12 (by decide) ?_
    exact r_vret C hr hlk hw dX12_hang_22 (by decide) (by decide) ⟨rfl, hq⟩

def wp_X12_isPart (g : Gh) (M0 : Mem) (a0 : Nat) (post : Int32 → Mem → Prop) : Prop :=
  okc (gB g) M0 a0 12 ∧ ((((mI M0 a0 6) = 2) → post 1 M0) ∧ (¬ ((mI M0 a0 6) = 2) → (((mI M0 a0 6) = 3) → post 1 M0) ∧ (¬ ((mI M0 a0 6) = 3) → wp_X12_isSign g M0 a0 91 (fun v3 M4 => ((v3 = 0) → wp_X12_isSign g M4 a0 40 (fun v6 M7 => ((v6 = 0) → wp_X12_isSign g M7 a0 123 (fun v9 M10 => ((v9 = 0) → post 0 M10) ∧ (¬ (v9 = 0) → post 1 M10))) ∧ (¬ (v6 = 0) → post 1 M7))) ∧ (¬ (v3 = 0) → post 1 M4)))))
set_option maxHeartbeats 4000000 in
set_option maxRecDepth 100000 in
theorem ct_X12_isPart {l : Launch} {g : Gh} {M0 : Mem} {a0 : Nat} {post : Int32 → Mem → Prop} (hq : wp_X12_isPart g M0 a0 post) : Ct l g yX12_isPart cX12_isPart 1 (some .boolean) 1 0 0 [.ref a0] M0 (pI post) := by
  unfold wp_X12_isPart at hq
  obtain ⟨h0, hq⟩ := hq
  refine Ct.of (by decide) (Nat.le_of_ble_eq_true rfl) ?_
  intro p e s m below meth c ls C hr hlk hn hl hw
  have hx := C.1.1
  have hb := C.1.2.1
  have hl : lv_has ls 1 [(0, .ref a0)] := hl
  refine lv_aload_n hx hb dX12_isPart_0 rfl (lv_at hl 0 rfl) ?_
  refine gfX12_143 C hw hw.2.2.1 h0 dX12_isPart_1 ?_
  refine lv_iconst (v := 2) hx hb dX12_isPart_4 (by decide) ?_
  refine lv_icmp_eq (tgt := 43) hx hb dX12_isPart_5 (by decide) (fun c1 => ?_) (fun c1 => ?_)
  · replace hq := hq.1 c1
    refine lv_iconst (v := 1) hx hb dX12_isPart_43 (by decide) ?_
    refine lv_goto (tgt := 48) hx hb dX12_isPart_44 (by decide) ?_
    exact r_zret C hr hlk hw dX12_isPart_48 (by decide) (by decide) (by decide) ⟨_, rfl, hq⟩
  · replace hq := hq.2 c1
    refine lv_aload_n hx hb dX12_isPart_8 rfl (lv_at hl 0 rfl) ?_
    refine gfX12_143 C hw hw.2.2.1 h0 dX12_isPart_9 ?_
    refine lv_iconst (v := 3) hx hb dX12_isPart_12 (by decide) ?_
    refine lv_icmp_eq (tgt := 43) hx hb dX12_isPart_13 (by decide) (fun c2 => ?_) (fun c2 => ?_)
    · replace hq := hq.1 c2
      refine lv_iconst (v := 1) hx hb dX12_isPart_43 (by decide) ?_
      refine lv_goto (tgt := 48) hx hb dX12_isPart_44 (by decide) ?_
      exact r_zret C hr hlk hw dX12_isPart_48 (by decide) (by decide) (by decide) ⟨_, rfl, hq⟩
    · replace hq := hq.2 c2
      refine lv_aload_n hx hb dX12_isPart_16 rfl (lv_at hl 0 rfl) ?_
      refine lv_bipush (v := 91) hx hb dX12_isPart_17 (by decide) ?_
      refine r_callV (T := TX12) (N := 67) (ci := 12) (index := 187) (n := 1) (d2 := 0) (mc := 0) (ms := 0) (As := [.int 91]) (rest := []) C hw (ct_X12_isSign hq) kvX12_187 hq.1 (by decide) rfl ⟨by decide, by decide⟩ ⟨by decide, by decide⟩ rfl hl.1 rfl (Nat.le_of_ble_eq_true rfl) dX12_isPart_19 (fun r M4 H locs hp hle hw => ?_)
      obtain ⟨v3, rfl, hq⟩ := hp
      refine W.eq (g2 := F0 m 22 ls [.int v3]) rfl ?_
      refine lv_if_ne (tgt := 43) hx hb dX12_isPart_22 (by decide) (fun c5 => ?_) (fun c5 => ?_)
      · replace hq := hq.2 c5
        refine lv_iconst (v := 1) hx hb dX12_isPart_43 (by decide) ?_
        refine lv_goto (tgt := 48) hx hb dX12_isPart_44 (by decide) ?_
        exact r_zret C hr hlk hw dX12_isPart_48 (by decide) (by decide) (by decide) ⟨_, rfl, hq⟩
      · replace hq := hq.1 c5
        refine lv_aload_n hx hb dX12_isPart_25 rfl (lv_at hl 0 rfl) ?_
        refine lv_bipush (v := 40) hx hb dX12_isPart_26 (by decide) ?_
        refine r_callV (T := TX12) (N := 67) (ci := 12) (index := 187) (n := 1) (d2 := 0) (mc := 0) (ms := 0) (As := [.int 40]) (rest := []) C hw (ct_X12_isSign hq) kvX12_187 hq.1 (by decide) rfl ⟨by decide, by decide⟩ ⟨by decide, by decide⟩ rfl hl.1 rfl (Nat.le_of_ble_eq_true rfl) dX12_isPart_28 (fun r M7 H locs hp hle hw => ?_)
        obtain ⟨v6, rfl, hq⟩ := hp
        refine W.eq (g2 := F0 m 31 ls [.int v6]) rfl ?_
        refine lv_if_ne (tgt := 43) hx hb dX12_isPart_31 (by decide) (fun c8 => ?_) (fun c8 => ?_)
        · replace hq := hq.2 c8
          refine lv_iconst (v := 1) hx hb dX12_isPart_43 (by decide) ?_
          refine lv_goto (tgt := 48) hx hb dX12_isPart_44 (by decide) ?_
          exact r_zret C hr hlk hw dX12_isPart_48 (by decide) (by decide) (by decide) ⟨_, rfl, hq⟩
        · replace hq := hq.1 c8
          refine lv_aload_n hx hb dX12_isPart_34 rfl (lv_at hl 0 rfl) ?_
          refine lv_bipush (v := 123) hx hb dX12_isPart_35 (by decide) ?_
          refine r_callV (T := TX12) (N := 67) (ci := 12) (index := 187) (n := 1) (d2 := 0) (mc := 0) (ms := 0) (As := [.int 123]) (rest := []) C hw (ct_X12_isSign hq) kvX12_187 hq.1 (by decide) rfl ⟨by decide, by decide⟩ ⟨by decide, by decide⟩ rfl hl.1 rfl (Nat.le_of_ble_eq_true rfl) dX12_isPart_37 (fun r M10 H locs hp hle hw => ?_)
          obtain ⟨v9, rfl, hq⟩ := hp
          refine W.eq (g2 := F0 m 40 ls [.int v9]) rfl ?_
          refine lv_if_eq (tgt := 47) hx hb dX12_isPart_40 (by decide) (fun c11 => ?_) (fun c11 => ?_)
          · replace hq := hq.1 c11
            refine lv_iconst (v := 0) hx hb dX12_isPart_47 (by decide) ?_
            exact r_zret C hr hlk hw dX12_isPart_48 (by decide) (by decide) (by decide) ⟨_, rfl, hq⟩
          · replace hq := hq.2 c11
            refine lv_iconst (v := 1) hx hb dX12_isPart_43 (by decide) ?_
            refine lv_goto (tgt := 48) hx hb dX12_isPart_44 (by decide) ?_
            exact r_zret C hr hlk hw dX12_isPart_48 (by decide) (by decide) (by decide) ⟨_, rfl, hq⟩

def wp_X12_none (g : Gh) (M0 : Mem) (a0 : Nat) (p1 : Int32) (post : Int32 → Mem → Prop) : Prop :=
  okc (gB g) M0 a0 12 ∧ (wp_X12_bad g M0 a0 p1 (fun v1 M2 => post (-1) M2))
set_option maxHeartbeats 4000000 in
set_option maxRecDepth 100000 in
theorem ct_X12_none {l : Launch} {g : Gh} {M0 : Mem} {a0 : Nat} {p1 : Int32} {post : Int32 → Mem → Prop} (hq : wp_X12_none g M0 a0 p1 post) : Ct l g yX12_none cX12_none 2 (some .int) 1 0 0 [.ref a0, .int p1] M0 (pI post) := by
  unfold wp_X12_none at hq
  obtain ⟨h0, hq⟩ := hq
  refine Ct.of (by decide) (Nat.le_of_ble_eq_true rfl) ?_
  intro p e s m below meth c ls C hr hlk hn hl hw
  have hx := C.1.1
  have hb := C.1.2.1
  have hl : lv_has ls 2 [(0, .ref a0), (1, .int p1)] := hl
  refine lv_aload_n hx hb dX12_none_0 rfl (lv_at hl 0 rfl) ?_
  refine lv_iload_n hx hb dX12_none_1 rfl (lv_at hl 1 rfl) ?_
  refine r_callV (T := TX12) (N := 67) (ci := 12) (index := 213) (n := 1) (d2 := 0) (mc := 0) (ms := 0) (As := [.int p1]) (rest := []) C hw (ct_X12_bad hq) kvX12_213 hq.1 (by decide) rfl ⟨by decide, by decide⟩ ⟨by decide, by decide⟩ rfl hl.1 rfl (Nat.le_of_ble_eq_true rfl) dX12_none_2 (fun r M2 H locs hp hle hw => ?_)
  obtain ⟨v1, rfl, hq⟩ := hp
  refine W.eq (g2 := F0 m 5 ls [.int v1]) rfl ?_
  refine lv_pop hx hb dX12_none_5 rfl ?_
  refine lv_iconst (v := (-1)) hx hb dX12_none_6 (by decide) ?_
  exact r_iret C hr hlk hw dX12_none_7 (by decide) (by decide) ⟨_, rfl, hq⟩
