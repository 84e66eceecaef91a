set_option maxRecDepth 100000 in
def lb_X10_readSign_67  (g : Gh) (M0 : Mem) (a0 : Nat) (a1 : Nat) (post : Mem → Prop)  (x2 : Int32) (x3 : Int32) (s0 : Nat) (s1 : Int32) (M : Mem) : Prop :=
  okc (gB g) M0 s0 10 ∧ (∀ M2, M2 = uI M s0 2 s1 → (((x2 = 46) → ((x3 = 0) → ∀ M10, M10 = uI M2 a0 5 ((mI M2 a0 3) + 2) → (post M10)) ∧ (¬ (x3 = 0) → ∀ M8, M8 = uI M2 a0 5 ((mI M2 a0 3) + 1) → (post M8))) ∧ (¬ (x2 = 46) → ∀ M5, M5 = uI M2 a0 5 ((mI M2 a0 3) + 1) → (post M5))))
set_option maxRecDepth 100000 in
def lb_X10_readSign_54  (g : Gh) (M0 : Mem) (a0 : Nat) (a1 : Nat) (post : Mem → Prop)  (x2 : Int32) (x3 : Int32) (s0 : Int32) (M : Mem) : Prop :=
  ((s0 = 0) → lb_X10_readSign_67  g M0 a0 a1 post  x2 x3 a0 3 M) ∧ (¬ (s0 = 0) → lb_X10_readSign_67  g M0 a0 a1 post  x2 x3 a0 x2 M)
set_option maxRecDepth 100000 in
def lb_X10_readSign_35  (g : Gh) (M0 : Mem) (a0 : Nat) (a1 : Nat) (post : Mem → Prop)  (x2 : Int32) (s0 : Int32) (M : Mem) : Prop :=
  ((s0 = 0) → ∃ i14, a1 = gK g i14 ∧ (wp_J0_indexOf_0f7a4 g M i14 ((Int32.toUInt32 x2 % 65536).toInt32) (fun v16 M17 => ((v16 < 0) → lb_X10_readSign_54  g M0 a0 a1 post  x2 s0 0 M17) ∧ (¬ (v16 < 0) → lb_X10_readSign_54  g M0 a0 a1 post  x2 s0 1 M17)))) ∧ (¬ (s0 = 0) → lb_X10_readSign_54  g M0 a0 a1 post  x2 s0 0 M)
set_option maxRecDepth 100000 in
def wp_X10_readSign  (g : Gh) (M0 : Mem) (a0 : Nat) (a1 : Nat) (post : Mem → Prop) : Prop :=
  okc (gB g) M0 a0 10 ∧ (wp_X10_byteAt g M0 a0 (mI M0 a0 3) (fun v19 M20 => ((v19 = 46) → wp_X10_byteAt g M20 a0 ((mI M20 a0 3) + 1) (fun v22 M23 => ((v22 = 46) → lb_X10_readSign_35  g M0 a0 a1 post  v19 0 M23) ∧ (¬ (v22 = 46) → lb_X10_readSign_35  g M0 a0 a1 post  v19 1 M23))) ∧ (¬ (v19 = 46) → lb_X10_readSign_35  g M0 a0 a1 post  v19 0 M20)))
set_option maxHeartbeats 4000000 in
set_option maxRecDepth 100000 in
theorem lt_X10_readSign_67 {l : Launch} {g : Gh} {p : Program} {e : Env} {s : State} {m : MethodId} {args : Array Value} {below : List Frame} {meth : Method} {c : Code} {H : Heap} {locs : List Loc} {ls : Array Slot} {M0 M : Mem} {a0 : Nat} {a1 : Nat} {post : Mem → Prop} {x2 : Int32} {x3 : Int32} {s0 : Nat} {s1 : Int32}  (C : Cx g p s m args c cX10_readSign 5 RX10) (hr : meth.sig.returnType = none) (hlk : meth.locks = false) (hn : meth.name = "readSign") (h0 : okc (gB g) M0 a0 10)  (hq : lb_X10_readSign_67  g M0 a0 a1 post  x2 x3 s0 s1 M) (hw : Wd g s M0 M H locs) (hl : lv_has ls 5 [(0, .ref a0), (1, .ref a1), (2, .int x2), (3, .int x3)]) : W p l e (rmo 7 0 0) s m args below meth c H locs 0 0 (MQ below (Cq g M0 (pV post)) args s 0 0 (gA g)) (F0 m 67 ls [.int s1, .ref s0]) := by
  have hx := C.1.1
  have hb := C.1.2.1
  unfold lb_X10_readSign_67 at hq
  obtain ⟨h1, hq⟩ := hq
  refine pfX10_19 C hw hw.2.2.1 h1 dX10_readSign_67 (fun H locs hw => ?_)
  generalize e3 : uI M s0 2 s1 = M2 at hw
  replace hq := hq M2 e3.symm
  refine lv_aload_n hx hb dX10_readSign_70 rfl (lv_at hl 0 rfl) ?_
  refine lv_aload_n hx hb dX10_readSign_71 rfl (lv_at hl 0 rfl) ?_
  refine gfX10_22 C hw hw.2.2.1 h0 dX10_readSign_72 ?_
  refine lv_iload_n hx hb dX10_readSign_75 rfl (lv_at hl 2 rfl) ?_
  refine lv_bipush (v := 46) hx hb dX10_readSign_76 (by decide) ?_
  refine lv_icmp_ne (tgt := 89) hx hb dX10_readSign_78 (by decide) (fun c4 => ?_) (fun c4 => ?_)
  · replace hq := hq.2 c4
    refine lv_iconst (v := 1) hx hb dX10_readSign_89 (by decide) ?_
    refine lv_iadd hx hb dX10_readSign_90 ?_
    refine pfX10_29 C hw hw.2.2.1 h0 dX10_readSign_91 (fun H locs hw => ?_)
    generalize e6 : uI M2 a0 5 ((mI M2 a0 3) + 1) = M5 at hw
    replace hq := hq M5 e6.symm
    exact r_vret C hr hlk hw dX10_readSign_94 (Nat.le_refl _) (Nat.le_refl _) ⟨rfl, hq⟩
  · replace hq := hq.1 c4
    refine lv_iload_n hx hb dX10_readSign_81 rfl (lv_at hl 3 rfl) ?_
    refine lv_if_ne (tgt := 89) hx hb dX10_readSign_82 (by decide) (fun c7 => ?_) (fun c7 => ?_)
    · replace hq := hq.2 c7
      refine lv_iconst (v := 1) hx hb dX10_readSign_89 (by decide) ?_
      refine lv_iadd hx hb dX10_readSign_90 ?_
      refine pfX10_29 C hw hw.2.2.1 h0 dX10_readSign_91 (fun H locs hw => ?_)
      generalize e9 : uI M2 a0 5 ((mI M2 a0 3) + 1) = M8 at hw
      replace hq := hq M8 e9.symm
      exact r_vret C hr hlk hw dX10_readSign_94 (Nat.le_refl _) (Nat.le_refl _) ⟨rfl, hq⟩
    · replace hq := hq.1 c7
      refine lv_iconst (v := 2) hx hb dX10_readSign_85 (by decide) ?_
      refine lv_goto (tgt := 90) hx hb dX10_readSign_86 (by decide) ?_
      refine lv_iadd hx hb dX10_readSign_90 ?_
      refine pfX10_29 C hw hw.2.2.1 h0 dX10_readSign_91 (fun H locs hw => ?_)
      generalize e11 : uI M2 a0 5 ((mI M2 a0 3) + 2) = M10 at hw
      replace hq := hq M10 e11.symm
      exact r_vret C hr hlk hw dX10_readSign_94 (Nat.le_refl _) (Nat.le_refl _) ⟨rfl, hq⟩
set_option maxHeartbeats 4000000 in
set_option maxRecDepth 100000 in
theorem lt_X10_readSign_54 {l : Launch} {g : Gh} {p : Program} {e : Env} {s : State} {m : MethodId} {args : Array Value} {below : List Frame} {meth : Method} {c : Code} {H : Heap} {locs : List Loc} {ls : Array Slot} {M0 M : Mem} {a0 : Nat} {a1 : Nat} {post : Mem → Prop} {x2 : Int32} {x3 : Int32} {s0 : Int32}  (C : Cx g p s m args c cX10_readSign 5 RX10) (hr : meth.sig.returnType = none) (hlk : meth.locks = false) (hn : meth.name = "readSign") (h0 : okc (gB g) M0 a0 10)  (hq : lb_X10_readSign_54  g M0 a0 a1 post  x2 x3 s0 M) (hw : Wd g s M0 M H locs) (hl : lv_has ls 5 [(0, .ref a0), (1, .ref a1), (2, .int x2), (3, .int x3)]) : W p l e (rmo 7 0 0) s m args below meth c H locs 0 0 (MQ below (Cq g M0 (pV post)) args s 0 0 (gA g)) (F0 m 54 ls [.int s0]) := by
  have hx := C.1.1
  have hb := C.1.2.1
  unfold lb_X10_readSign_54 at hq
  refine lv_istore (lv' := [(4, .int s0), (0, .ref a0), (1, .ref a1), (2, .int x2), (3, .int x3)]) hx hb dX10_readSign_54 hl (by decide) rfl (fun ls hl => ?_)
  refine lv_aload_n hx hb dX10_readSign_56 rfl (lv_at hl 1 rfl) ?_
  refine lv_iload hx hb dX10_readSign_57 (lv_at hl 0 rfl) ?_
  refine lv_if_eq (tgt := 66) hx hb dX10_readSign_59 (by decide) (fun c12 => ?_) (fun c12 => ?_)
  · replace hq := hq.1 c12
    refine lv_iconst (v := 3) hx hb dX10_readSign_66 (by decide) ?_
    exact lt_X10_readSign_67  C hr hlk hn h0  hq hw (lv_sub hl [1, 2, 3, 4] rfl)
  · replace hq := hq.2 c12
    refine lv_iload_n hx hb dX10_readSign_62 rfl (lv_at hl 3 rfl) ?_
    refine lv_goto (tgt := 67) hx hb dX10_readSign_63 (by decide) ?_
    exact lt_X10_readSign_67  C hr hlk hn h0  hq hw (lv_sub hl [1, 2, 3, 4] rfl)
set_option maxHeartbeats 4000000 in
set_option maxRecDepth 100000 in
theorem lt_X10_readSign_35 {l : Launch} {g : Gh} {p : Program} {e : Env} {s : State} {m : MethodId} {args : Array Value} {below : List Frame} {meth : Method} {c : Code} {H : Heap} {locs : List Loc} {ls : Array Slot} {M0 M : Mem} {a0 : Nat} {a1 : Nat} {post : Mem → Prop} {x2 : Int32} {s0 : Int32}  (C : Cx g p s m args c cX10_readSign 5 RX10) (hr : meth.sig.returnType = none) (hlk : meth.locks = false) (hn : meth.name = "readSign") (h0 : okc (gB g) M0 a0 10)  (hq : lb_X10_readSign_35  g M0 a0 a1 post  x2 s0 M) (hw : Wd g s M0 M H locs) (hl : lv_has ls 5 [(0, .ref a0), (1, .ref a1), (2, .int x2)]) : W p l e (rmo 7 0 0) s m args below meth c H locs 0 0 (MQ below (Cq g M0 (pV post)) args s 0 0 (gA g)) (F0 m 35 ls [.int s0]) := by
  have hx := C.1.1
  have hb := C.1.2.1
  unfold lb_X10_readSign_35 at hq
  refine lv_istore_n (lv' := [(3, .int s0), (0, .ref a0), (1, .ref a1), (2, .int x2)]) hx hb dX10_readSign_35 rfl hl (by decide) rfl (fun ls hl => ?_)
  refine lv_iload_n hx hb dX10_readSign_36 rfl (lv_at hl 0 rfl) ?_
  refine lv_if_ne (tgt := 53) hx hb dX10_readSign_37 (by decide) (fun c13 => ?_) (fun c13 => ?_)
  · replace hq := hq.2 c13
    refine lv_iconst (v := 0) hx hb dX10_readSign_53 (by decide) ?_
    exact lt_X10_readSign_54  C hr hlk hn h0  hq hw (lv_sub hl [1, 2, 3, 0] rfl)
  · replace hq := hq.1 c13
    refine lv_aload_n hx hb dX10_readSign_40 rfl (lv_at hl 2 rfl) ?_
    refine lv_iload_n hx hb dX10_readSign_41 rfl (lv_at hl 3 rfl) ?_
    refine lv_i2c (v := ((Int32.toUInt32 x2 % 65536).toInt32)) hx hb dX10_readSign_42 rfl ?_
    obtain ⟨i14, e15, hq⟩ := hq
    refine W.eq (g2 := F0 m 43 ls [.int ((Int32.toUInt32 x2 % 65536).toInt32), .ref (gK g i14)]) (by rw [e15]) ?_
    refine r_callT (index := 69) (n := 1) (d2 := 6) (mc := 0) (ms := 0) (As := [.int ((Int32.toUInt32 x2 % 65536).toInt32)]) (rest := []) C hw (ct_J0_indexOf_0f7a4 hq) kvX10_69 hq.1 ⟨by decide, by decide⟩ ⟨by decide, by decide⟩ rfl hl.1 rfl (Nat.le_of_ble_eq_true rfl) dX10_readSign_43 (fun r M17 H locs hp hle hw => ?_)
    obtain ⟨v16, rfl, hq⟩ := hp
    refine W.eq (g2 := F0 m 46 ls [.int v16]) rfl ?_
    refine lv_if_lt (tgt := 53) hx hb dX10_readSign_46 (by decide) (fun c18 => ?_) (fun c18 => ?_)
    · replace hq := hq.1 c18
      refine lv_iconst (v := 0) hx hb dX10_readSign_53 (by decide) ?_
      exact lt_X10_readSign_54  C hr hlk hn h0  hq hw (lv_sub hl [1, 2, 3, 0] rfl)
    · replace hq := hq.2 c18
      refine lv_iconst (v := 1) hx hb dX10_readSign_49 (by decide) ?_
      refine lv_goto (tgt := 54) hx hb dX10_readSign_50 (by decide) ?_
      exact lt_X10_readSign_54  C hr hlk hn h0  hq hw (lv_sub hl [1, 2, 3, 0] rfl)
set_option maxHeartbeats 4000000 in
set_option maxRecDepth 100000 in
theorem ct_X10_readSign {l : Launch} {g : Gh} {M0 : Mem} {a0 : Nat} {a1 : Nat} {post : Mem → Prop}  (hq : wp_X10_readSign  g M0 a0 a1 post) : Ct l g yX10_readSign cX10_readSign 5 none 7 0 0 [.ref a0, .ref a1] M0 (pV post) := by
  unfold wp_X10_readSign at hq
  obtain ⟨h0, hq⟩ := hq
  refine Ct.of (by decide) (Nat.le_of_ble_eq_true rfl) ?_
  intro p e s m below meth c ls C hr hlk hn hl hw
  have hx := C.1.1
  have hb := C.1.2.1
  have hl : lv_has ls 5 [(0, .ref a0), (1, .ref a1)] := hl
  refine lv_aload_n hx hb dX10_readSign_0 rfl (lv_at hl 0 rfl) ?_
  refine lv_aload_n hx hb dX10_readSign_1 rfl (lv_at hl 0 rfl) ?_
  refine gfX10_22 C hw hw.2.2.1 h0 dX10_readSign_2 ?_
  refine r_callV (T := TX10) (N := 6) (ci := 10) (index := 35) (n := 1) (d2 := 0) (mc := 0) (ms := 0) (As := [.int (mI M0 a0 3)]) (rest := []) C hw (ct_X10_byteAt hq) kvX10_35 hq.1 (by decide) rfl ⟨by decide, by decide⟩ ⟨by decide, by decide⟩ rfl hl.1 rfl (Nat.le_of_ble_eq_true rfl) dX10_readSign_5 (fun r M20 H locs hp hle hw => ?_)
  obtain ⟨v19, rfl, hq⟩ := hp
  refine W.eq (g2 := F0 m 8 ls [.int v19]) rfl ?_
  refine lv_istore_n (lv' := [(2, .int v19), (0, .ref a0), (1, .ref a1)]) hx hb dX10_readSign_8 rfl hl (by decide) rfl (fun ls hl => ?_)
  refine lv_iload_n hx hb dX10_readSign_9 rfl (lv_at hl 0 rfl) ?_
  refine lv_bipush (v := 46) hx hb dX10_readSign_10 (by decide) ?_
  refine lv_icmp_ne (tgt := 34) hx hb dX10_readSign_12 (by decide) (fun c21 => ?_) (fun c21 => ?_)
  · replace hq := hq.2 c21
    refine lv_iconst (v := 0) hx hb dX10_readSign_34 (by decide) ?_
    exact lt_X10_readSign_35  C hr hlk hn h0  hq hw (lv_sub hl [1, 2, 0] rfl)
  · replace hq := hq.1 c21
    refine lv_aload_n hx hb dX10_readSign_15 rfl (lv_at hl 1 rfl) ?_
    refine lv_aload_n hx hb dX10_readSign_16 rfl (lv_at hl 1 rfl) ?_
    refine gfX10_22 C hw hw.2.2.1 h0 dX10_readSign_17 ?_
    refine lv_iconst (v := 1) hx hb dX10_readSign_20 (by decide) ?_
    refine lv_iadd hx hb dX10_readSign_21 ?_
    refine r_callV (T := TX10) (N := 6) (ci := 10) (index := 35) (n := 1) (d2 := 0) (mc := 0) (ms := 0) (As := [.int ((mI M20 a0 3) + 1)]) (rest := []) C hw (ct_X10_byteAt hq) kvX10_35 hq.1 (by decide) rfl ⟨by decide, by decide⟩ ⟨by decide, by decide⟩ rfl hl.1 rfl (Nat.le_of_ble_eq_true rfl) dX10_readSign_22 (fun r M23 H locs hp hle hw => ?_)
    obtain ⟨v22, rfl, hq⟩ := hp
    refine W.eq (g2 := F0 m 25 ls [.int v22]) rfl ?_
    refine lv_bipush (v := 46) hx hb dX10_readSign_25 (by decide) ?_
    refine lv_icmp_eq (tgt := 34) hx hb dX10_readSign_27 (by decide) (fun c24 => ?_) (fun c24 => ?_)
    · replace hq := hq.1 c24
      refine lv_iconst (v := 0) hx hb dX10_readSign_34 (by decide) ?_
      exact lt_X10_readSign_35  C hr hlk hn h0  hq hw (lv_sub hl [1, 2, 0] rfl)
    · replace hq := hq.2 c24
      refine lv_iconst (v := 1) hx hb dX10_readSign_30 (by decide) ?_
      refine lv_goto (tgt := 35) hx hb dX10_readSign_31 (by decide) ?_
      exact lt_X10_readSign_35  C hr hlk hn h0  hq hw (lv_sub hl [1, 2, 0] rfl)

set_option maxRecDepth 100000 in
def lb_X10_readNext_117  (g : Gh) (M0 : Mem) (a0 : Nat) (a1 : Nat) (post : Mem → Prop)    (M : Mem) : Prop :=
  wp_X10_readSign g M a0 a1 (fun M2 => post M2)
set_option maxRecDepth 100000 in
def lb_X10_readNext_46  (g : Gh) (M0 : Mem) (a0 : Nat) (a1 : Nat) (post : Mem → Prop)   (s0 : Nat) (s1 : Int32) (M : Mem) : Prop :=
  okc (gB g) M0 s0 10 ∧ (∀ M4, M4 = uI M s0 2 s1 → ((((mI M4 a0 1) ≤ 200) → ∀ M7, M7 = uI M4 a0 3 (mI M4 a0 1) → (post M7)) ∧ (¬ ((mI M4 a0 1) ≤ 200) → ∀ M9, M9 = uI M4 a0 3 200 → (post M9))))
set_option maxRecDepth 100000 in
def lb_X10_readNext_30  (g : Gh) (M0 : Mem) (a0 : Nat) (a1 : Nat) (post : Mem → Prop)    (M : Mem) : Prop :=
  (((mI M a0 1) ≤ 200) → lb_X10_readNext_46  g M0 a0 a1 post  a0 0 M) ∧ (¬ ((mI M a0 1) ≤ 200) → lb_X10_readNext_46  g M0 a0 a1 post  a0 3 M)
set_option maxRecDepth 100000 in
def wp_X10_readNext  (g : Gh) (M0 : Mem) (a0 : Nat) (a1 : Nat) (post : Mem → Prop) : Prop :=
  okc (gB g) M0 a0 10 ∧ (wp_X10_skipBlanks g M0 a0 (fun M13 => ∀ M14, M14 = uJ M13 a0 4 0 → ((((mI M14 a0 1) ≤ (mI M14 a0 5)) → lb_X10_readNext_30  g M0 a0 a1 post   M14) ∧ (¬ ((mI M14 a0 1) ≤ (mI M14 a0 5)) → (((mI M14 a0 5) < 200) → ∀ M18, M18 = uI M14 a0 3 (mI M14 a0 5) → (wp_X10_byteAt g M18 a0 (mI M18 a0 3) (fun v20 M21 => wp_X10_isLetter g M21 v20 (fun v22 M23 => ((v22 = 0) → wp_X10_byteAt g M23 a0 (mI M23 a0 3) (fun v27 M28 => wp_X10_isDigit g M28 v27 (fun v29 M30 => ((v29 = 0) → lb_X10_readNext_117  g M0 a0 a1 post   M30) ∧ (¬ (v29 = 0) → wp_X10_readRun g M30 a0 (fun M33 => post M33))))) ∧ (¬ (v22 = 0) → wp_X10_readRun g M23 a0 (fun M26 => post M26)))))) ∧ (¬ ((mI M14 a0 5) < 200) → lb_X10_readNext_30  g M0 a0 a1 post   M14)))))
set_option maxHeartbeats 4000000 in
set_option maxRecDepth 100000 in
theorem lt_X10_readNext_117 {l : Launch} {g : Gh} {p : Program} {e : Env} {s : State} {m : MethodId} {args : Array Value} {below : List Frame} {meth : Method} {c : Code} {H : Heap} {locs : List Loc} {ls : Array Slot} {M0 M : Mem} {a0 : Nat} {a1 : Nat} {post : Mem → Prop}    (C : Cx g p s m args c cX10_readNext 2 RX10) (hr : meth.sig.returnType = none) (hlk : meth.locks = false) (hn : meth.name = "readNext") (h0 : okc (gB g) M0 a0 10)  (hq : lb_X10_readNext_117  g M0 a0 a1 post   M) (hw : Wd g s M0 M H locs) (hl : lv_has ls 2 [(0, .ref a0), (1, .ref a1)]) : W p l e (rmo 8 0 0) s m args below meth c H locs 0 0 (MQ below (Cq g M0 (pV post)) args s 0 0 (gA g)) (F0 m 117 ls []) := by
  have hx := C.1.1
  have hb := C.1.2.1
  unfold lb_X10_readNext_117 at hq
  refine lv_aload_n hx hb dX10_readNext_117 rfl (lv_at hl 0 rfl) ?_
  refine lv_aload_n hx hb dX10_readNext_118 rfl (lv_at hl 1 rfl) ?_
  refine r_callV (T := TX10) (N := 6) (ci := 10) (index := 49) (n := 1) (d2 := 7) (mc := 0) (ms := 0) (As := [.ref a1]) (rest := []) C hw (ct_X10_readSign hq) kvX10_49 hq.1 (by decide) rfl ⟨by decide, by decide⟩ ⟨by decide, by decide⟩ rfl hl.1 rfl (Nat.le_of_ble_eq_true rfl) dX10_readNext_119 (fun r M2 H locs hp hle hw => ?_)
  obtain ⟨rfl, hq⟩ := hp
  refine W.eq (g2 := F0 m 122 ls []) rfl ?_
  exact r_vret C hr hlk hw dX10_readNext_122 (Nat.le_refl _) (Nat.le_refl _) ⟨rfl, hq⟩
set_option maxHeartbeats 4000000 in
set_option maxRecDepth 100000 in
theorem lt_X10_readNext_46 {l : Launch} {g : Gh} {p : Program} {e : Env} {s : State} {m : MethodId} {args : Array Value} {below : List Frame} {meth : Method} {c : Code} {H : Heap} {locs : List Loc} {ls : Array Slot} {M0 M : Mem} {a0 : Nat} {a1 : Nat} {post : Mem → Prop}  {s0 : Nat} {s1 : Int32}  (C : Cx g p s m args c cX10_readNext 2 RX10) (hr : meth.sig.returnType = none) (hlk : meth.locks = false) (hn : meth.name = "readNext") (h0 : okc (gB g) M0 a0 10)  (hq : lb_X10_readNext_46  g M0 a0 a1 post  s0 s1 M) (hw : Wd g s M0 M H locs) (hl : lv_has ls 2 [(0, .ref a0), (1, .ref a1)]) : W p l e (rmo 8 0 0) s m args below meth c H locs 0 0 (MQ below (Cq g M0 (pV post)) args s 0 0 (gA g)) (F0 m 46 ls [.int s1, .ref s0]) := by
  have hx := C.1.1
  have hb := C.1.2.1
  unfold lb_X10_readNext_46 at hq
  obtain ⟨h3, hq⟩ := hq
  refine pfX10_19 C hw hw.2.2.1 h3 dX10_readNext_46 (fun H locs hw => ?_)
  generalize e5 : uI M s0 2 s1 = M4 at hw
  replace hq := hq M4 e5.symm
  refine lv_aload_n hx hb dX10_readNext_49 rfl (lv_at hl 0 rfl) ?_
  refine lv_aload_n hx hb dX10_readNext_50 rfl (lv_at hl 0 rfl) ?_
  refine gfX10_15 C hw hw.2.2.1 h0 dX10_readNext_51 ?_
  refine lv_sipush (v := 200) hx hb dX10_readNext_54 (by decide) ?_
  refine lv_icmp_le (tgt := 66) hx hb dX10_readNext_57 (by decide) (fun c6 => ?_) (fun c6 => ?_)
  · replace hq := hq.1 c6
    refine lv_aload_n hx hb dX10_readNext_66 rfl (lv_at hl 0 rfl) ?_
    refine gfX10_15 C hw hw.2.2.1 h0 dX10_readNext_67 ?_
    refine pfX10_22 C hw hw.2.2.1 h0 dX10_readNext_70 (fun H locs hw => ?_)
    generalize e8 : uI M4 a0 3 (mI M4 a0 1) = M7 at hw
    replace hq := hq M7 e8.symm
    exact r_vret C hr hlk hw dX10_readNext_73 (Nat.le_refl _) (Nat.le_refl _) ⟨rfl, hq⟩
  · replace hq := hq.2 c6
    refine lv_sipush (v := 200) hx hb dX10_readNext_60 (by decide) ?_
    refine lv_goto (tgt := 70) hx hb dX10_readNext_63 (by decide) ?_
    refine pfX10_22 C hw hw.2.2.1 h0 dX10_readNext_70 (fun H locs hw => ?_)
    generalize e10 : uI M4 a0 3 200 = M9 at hw
    replace hq := hq M9 e10.symm
    exact r_vret C hr hlk hw dX10_readNext_73 (Nat.le_refl _) (Nat.le_refl _) ⟨rfl, hq⟩
set_option maxHeartbeats 4000000 in
set_option maxRecDepth 100000 in
theorem lt_X10_readNext_30 {l : Launch} {g : Gh} {p : Program} {e : Env} {s : State} {m : MethodId} {args : Array Value} {below : List Frame} {meth : Method} {c : Code} {H : Heap} {locs : List Loc} {ls : Array Slot} {M0 M : Mem} {a0 : Nat} {a1 : Nat} {post : Mem → Prop}    (C : Cx g p s m args c cX10_readNext 2 RX10) (hr : meth.sig.returnType = none) (hlk : meth.locks = false) (hn : meth.name = "readNext") (h0 : okc (gB g) M0 a0 10)  (hq : lb_X10_readNext_30  g M0 a0 a1 post   M) (hw : Wd g s M0 M H locs) (hl : lv_has ls 2 [(0, .ref a0), (1, .ref a1)]) : W p l e (rmo 8 0 0) s m args below meth c H locs 0 0 (MQ below (Cq g M0 (pV post)) args s 0 0 (gA g)) (F0 m 30 ls []) := by
  have hx := C.1.1
  have hb := C.1.2.1
  unfold lb_X10_readNext_30 at hq
  refine lv_aload_n hx hb dX10_readNext_30 rfl (lv_at hl 0 rfl) ?_
  refine lv_aload_n hx hb dX10_readNext_31 rfl (lv_at hl 0 rfl) ?_
  refine gfX10_15 C hw hw.2.2.1 h0 dX10_readNext_32 ?_
  refine lv_sipush (v := 200) hx hb dX10_readNext_35 (by decide) ?_
  refine lv_icmp_le (tgt := 45) hx hb dX10_readNext_38 (by decide) (fun c11 => ?_) (fun c11 => ?_)
  · replace hq := hq.1 c11
    refine lv_iconst (v := 0) hx hb dX10_readNext_45 (by decide) ?_
    exact lt_X10_readNext_46  C hr hlk hn h0  hq hw (lv_sub hl [0, 1] rfl)
  · replace hq := hq.2 c11
    refine lv_iconst (v := 3) hx hb dX10_readNext_41 (by decide) ?_
    refine lv_goto (tgt := 46) hx hb dX10_readNext_42 (by decide) ?_
    exact lt_X10_readNext_46  C hr hlk hn h0  hq hw (lv_sub hl [0, 1] rfl)
set_option maxHeartbeats 4000000 in
set_option maxRecDepth 100000 in
theorem ct_X10_readNext {l : Launch} {g : Gh} {M0 : Mem} {a0 : Nat} {a1 : Nat} {post : Mem → Prop}  (hq : wp_X10_readNext  g M0 a0 a1 post) : Ct l g yX10_readNext cX10_readNext 2 none 8 0 0 [.ref a0, .ref a1] M0 (pV post) := by
  unfold wp_X10_readNext at hq
  obtain ⟨h0, hq⟩ := hq
  refine Ct.of (by decide) (Nat.le_of_ble_eq_true rfl) ?_
  intro p e s m below meth c ls C hr hlk hn hl hw
  have hx := C.1.1
  have hb := C.1.2.1
  have hl : lv_has ls 2 [(0, .ref a0), (1, .ref a1)] := hl
  refine lv_aload_n hx hb dX10_readNext_0 rfl (lv_at hl 0 rfl) ?_
  refine r_callV (T := TX10) (N := 6) (ci := 10) (index := 32) (n := 0) (d2 := 1) (mc := 0) (ms := 0) (As := []) (rest := []) C hw (ct_X10_skipBlanks hq) kvX10_32 hq.1 (by decide) rfl ⟨by decide, by decide⟩ ⟨by decide, by decide⟩ rfl hl.1 rfl (Nat.le_of_ble_eq_true rfl) dX10_readNext_1 (fun r M13 H locs hp hle hw => ?_)
  obtain ⟨rfl, hq⟩ := hp
  refine W.eq (g2 := F0 m 4 ls []) rfl ?_
  refine lv_aload_n hx hb dX10_readNext_4 rfl (lv_at hl 0 rfl) ?_
  refine lv_lconst (v := 0) hx hb dX10_readNext_5 (by decide) ?_
  refine pfX10_25 C hw hw.2.2.1 h0 dX10_readNext_6 (fun H locs hw => ?_)
  generalize e15 : uJ M13 a0 4 0 = M14 at hw
  replace hq := hq M14 e15.symm
  refine lv_aload_n hx hb dX10_readNext_9 rfl (lv_at hl 0 rfl) ?_
  refine gfX10_29 C hw hw.2.2.1 h0 dX10_readNext_10 ?_
  refine lv_aload_n hx hb dX10_readNext_13 rfl (lv_at hl 0 rfl) ?_
  refine gfX10_15 C hw hw.2.2.1 h0 dX10_readNext_14 ?_
  refine lv_icmp_ge (tgt := 30) hx hb dX10_readNext_17 (by decide) (fun c16 => ?_) (fun c16 => ?_)
  · replace hq := hq.1 c16
    exact lt_X10_readNext_30  C hr hlk hn h0  hq hw (lv_sub hl [0, 1] rfl)
  · replace hq := hq.2 c16
    refine lv_aload_n hx hb dX10_readNext_20 rfl (lv_at hl 0 rfl) ?_
    refine gfX10_29 C hw hw.2.2.1 h0 dX10_readNext_21 ?_
    refine lv_sipush (v := 200) hx hb dX10_readNext_24 (by decide) ?_
    refine lv_icmp_lt (tgt := 74) hx hb dX10_readNext_27 (by decide) (fun c17 => ?_) (fun c17 => ?_)
    · replace hq := hq.1 c17
      refine lv_aload_n hx hb dX10_readNext_74 rfl (lv_at hl 0 rfl) ?_
      refine lv_aload_n hx hb dX10_readNext_75 rfl (lv_at hl 0 rfl) ?_
      refine gfX10_29 C hw hw.2.2.1 h0 dX10_readNext_76 ?_
      refine pfX10_22 C hw hw.2.2.1 h0 dX10_readNext_79 (fun H locs hw => ?_)
      generalize e19 : uI M14 a0 3 (mI M14 a0 5) = M18 at hw
      replace hq := hq M18 e19.symm
      refine lv_aload_n hx hb dX10_readNext_82 rfl (lv_at hl 0 rfl) ?_
      refine lv_aload_n hx hb dX10_readNext_83 rfl (lv_at hl 0 rfl) ?_
      refine gfX10_22 C hw hw.2.2.1 h0 dX10_readNext_84 ?_
      refine r_callV (T := TX10) (N := 6) (ci := 10) (index := 35) (n := 1) (d2 := 0) (mc := 0) (ms := 0) (As := [.int (mI M18 a0 3)]) (rest := []) C hw (ct_X10_byteAt hq) kvX10_35 hq.1 (by decide) rfl ⟨by decide, by decide⟩ ⟨by decide, by decide⟩ rfl hl.1 rfl (Nat.le_of_ble_eq_true rfl) dX10_readNext_87 (fun r M21 H locs hp hle hw => ?_)
      obtain ⟨v20, rfl, hq⟩ := hp
      refine W.eq (g2 := F0 m 90 ls [.int v20]) rfl ?_
      refine r_callS (index := 39) (n := 1) (d2 := 0) (mc := 0) (ms := 0) (As := [.int v20]) (rest := []) C hw (ct_X10_isLetter hq) ksX10_39 ⟨by decide, by decide⟩ ⟨by decide, by decide⟩ rfl hl.1 rfl (Nat.le_of_ble_eq_true rfl) dX10_readNext_90 (fun r M23 H locs hp hle hw => ?_)
      obtain ⟨v22, rfl, hq⟩ := hp
      refine W.eq (g2 := F0 m 93 ls [.int v22]) rfl ?_
      refine lv_if_ne (tgt := 110) hx hb dX10_readNext_93 (by decide) (fun c24 => ?_) (fun c24 => ?_)
      · replace hq := hq.2 c24
        refine lv_aload_n hx hb dX10_readNext_110 rfl (lv_at hl 0 rfl) ?_
        refine r_callV (T := TX10) (N := 6) (ci := 10) (index := 46) (n := 0) (d2 := 1) (mc := 0) (ms := 0) (As := []) (rest := []) C hw (ct_X10_readRun hq) kvX10_46 hq.1 (by decide) rfl ⟨by decide, by decide⟩ ⟨by decide, by decide⟩ rfl hl.1 rfl (Nat.le_of_ble_eq_true rfl) dX10_readNext_111 (fun r M26 H locs hp hle hw => ?_)
        obtain ⟨rfl, hq⟩ := hp
        refine W.eq (g2 := F0 m 114 ls []) rfl ?_
        refine lv_goto (tgt := 122) hx hb dX10_readNext_114 (by decide) ?_
        exact r_vret C hr hlk hw dX10_readNext_122 (Nat.le_refl _) (Nat.le_refl _) ⟨rfl, hq⟩
      · replace hq := hq.1 c24
        refine lv_aload_n hx hb dX10_readNext_96 rfl (lv_at hl 0 rfl) ?_
        refine lv_aload_n hx hb dX10_readNext_97 rfl (lv_at hl 0 rfl) ?_
        refine gfX10_22 C hw hw.2.2.1 h0 dX10_readNext_98 ?_
        refine r_callV (T := TX10) (N := 6) (ci := 10) (index := 35) (n := 1) (d2 := 0) (mc := 0) (ms := 0) (As := [.int (mI M23 a0 3)]) (rest := []) C hw (ct_X10_byteAt hq) kvX10_35 hq.1 (by decide) rfl ⟨by decide, by decide⟩ ⟨by decide, by decide⟩ rfl hl.1 rfl (Nat.le_of_ble_eq_true rfl) dX10_readNext_101 (fun r M28 H locs hp hle hw => ?_)
        obtain ⟨v27, rfl, hq⟩ := hp
        refine W.eq (g2 := F0 m 104 ls [.int v27]) rfl ?_
        refine r_callS (index := 43) (n := 1) (d2 := 0) (mc := 0) (ms := 0) (As := [.int v27]) (rest := []) C hw (ct_X10_isDigit hq) ksX10_43 ⟨by decide, by decide⟩ ⟨by decide, by decide⟩ rfl hl.1 rfl (Nat.le_of_ble_eq_true rfl) dX10_readNext_104 (fun r M30 H locs hp hle hw => ?_)
        obtain ⟨v29, rfl, hq⟩ := hp
        refine W.eq (g2 := F0 m 107 ls [.int v29]) rfl ?_
        refine lv_if_eq (tgt := 117) hx hb dX10_readNext_107 (by decide) (fun c31 => ?_) (fun c31 => ?_)
        · replace hq := hq.1 c31
          exact lt_X10_readNext_117  C hr hlk hn h0  hq hw (lv_sub hl [0, 1] rfl)
        · replace hq := hq.2 c31
          refine lv_aload_n hx hb dX10_readNext_110 rfl (lv_at hl 0 rfl) ?_
          refine r_callV (T := TX10) (N := 6) (ci := 10) (index := 46) (n := 0) (d2 := 1) (mc := 0) (ms := 0) (As := []) (rest := []) C hw (ct_X10_readRun hq) kvX10_46 hq.1 (by decide) rfl ⟨by decide, by decide⟩ ⟨by decide, by decide⟩ rfl hl.1 rfl (Nat.le_of_ble_eq_true rfl) dX10_readNext_111 (fun r M33 H locs hp hle hw => ?_)
          obtain ⟨rfl, hq⟩ := hp
          refine W.eq (g2 := F0 m 114 ls []) rfl ?_
          refine lv_goto (tgt := 122) hx hb dX10_readNext_114 (by decide) ?_
          exact r_vret C hr hlk hw dX10_readNext_122 (Nat.le_refl _) (Nat.le_refl _) ⟨rfl, hq⟩
    · replace hq := hq.2 c17
      exact lt_X10_readNext_30  C hr hlk hn h0  hq hw (lv_sub hl [0, 1] rfl)

set_option maxRecDepth 100000 in
def lb_X2_closeRange_57  (g : Gh) (M0 : Mem) (a0 : Nat) (p1 : Int32) (p2 : Int64) (post : Int32 → Mem → Prop)    (M : Mem) : Prop :=
  ∀ M1, M1 = uI M a0 7 1 → (post 0 M1)
set_option maxRecDepth 100000 in
def wp_X2_closeRange  (g : Gh) (M0 : Mem) (a0 : Nat) (p1 : Int32) (p2 : Int64) (post : Int32 → Mem → Prop) : Prop :=
  okc (gB g) M0 a0 2 ∧ (((p1 = 2) → (((mI M0 a0 3) < 1) → post 1 M0) ∧ (¬ ((mI M0 a0 3) < 1) → ∃ q5, mR M0 a0 2 = some q5 ∧ (okc (gB g) M0 q5 15 ∧ ((((mI M0 a0 3) ≤ (nI (mN M0 q5))) → ∃ q9, mR M0 a0 1 = some q9 ∧ (okc (gB g) M0 q9 15 ∧ (vp_in ((mI M0 a0 3) - 1) (mN M0 q9) ∧ (((0 ≤ (lg_cmp p2 (mJ M0 q9 (Int32.toNatClampNeg ((mI M0 a0 3) - 1))))) → vp_in ((mI M0 a0 3) - 1) (mN M0 q5) ∧ (∀ M15, M15 = uJ M0 q5 (Int32.toNatClampNeg ((mI M0 a0 3) - 1)) p2 → (lb_X2_closeRange_57  g M0 a0 p1 p2 post   M15))) ∧ (¬ (0 ≤ (lg_cmp p2 (mJ M0 q9 (Int32.toNatClampNeg ((mI M0 a0 3) - 1))))) → post 2 M0))))) ∧ (¬ ((mI M0 a0 3) ≤ (nI (mN M0 q5))) → post 1 M0))))) ∧ (¬ (p1 = 2) → post 1 M0))
set_option maxHeartbeats 4000000 in
set_option maxRecDepth 100000 in
theorem lt_X2_closeRange_57 {l : Launch} {g : Gh} {p : Program} {e : Env} {s : State} {m : MethodId} {args : Array Value} {below : List Frame} {meth : Method} {c : Code} {H : Heap} {locs : List Loc} {ls : Array Slot} {M0 M : Mem} {a0 : Nat} {p1 : Int32} {p2 : Int64} {post : Int32 → Mem → Prop}    (C : Cx g p s m args c cX2_closeRange 4 RX2) (hr : meth.sig.returnType = (some .int)) (hlk : meth.locks = false) (hn : meth.name = "closeRange") (h0 : okc (gB g) M0 a0 2)  (hq : lb_X2_closeRange_57  g M0 a0 p1 p2 post   M) (hw : Wd g s M0 M H locs) (hl : lv_has ls 4 [(0, .ref a0), (1, .int p1), (2, .long p2)]) : W p l e (rmo 0 0 0) s m args below meth c H locs 0 0 (MQ below (Cq g M0 (pI post)) args s 0 0 (gA g)) (F0 m 57 ls []) := by
  have hx := C.1.1
  have hb := C.1.2.1
  unfold lb_X2_closeRange_57 at hq
  refine lv_aload_n hx hb dX2_closeRange_57 rfl (lv_at hl 0 rfl) ?_
  refine lv_iconst (v := 1) hx hb dX2_closeRange_58 (by decide) ?_
  refine pfX2_38 C hw hw.2.2.1 h0 dX2_closeRange_59 (fun H locs hw => ?_)
  generalize e2 : uI M a0 7 1 = M1 at hw
  replace hq := hq M1 e2.symm
  refine lv_iconst (v := 0) hx hb dX2_closeRange_62 (by decide) ?_
  exact r_iret C hr hlk hw dX2_closeRange_63 (Nat.le_refl _) (Nat.le_refl _) ⟨_, rfl, hq⟩
set_option maxHeartbeats 4000000 in
set_option maxRecDepth 100000 in
theorem ct_X2_closeRange {l : Launch} {g : Gh} {M0 : Mem} {a0 : Nat} {p1 : Int32} {p2 : Int64} {post : Int32 → Mem → Prop}  (hq : wp_X2_closeRange  g M0 a0 p1 p2 post) : Ct l g yX2_closeRange cX2_closeRange 4 (some .int) 0 0 0 [.ref a0, .int p1, .long p2] M0 (pI post) := by
  unfold wp_X2_closeRange at hq
  obtain ⟨h0, hq⟩ := hq
  refine Ct.of (by decide) (Nat.le_of_ble_eq_true rfl) ?_
  intro p e s m below meth c ls C hr hlk hn hl hw
  have hx := C.1.1
  have hb := C.1.2.1
  have hl : lv_has ls 4 [(0, .ref a0), (1, .int p1), (2, .long p2)] := hl
  refine lv_iload_n hx hb dX2_closeRange_0 rfl (lv_at hl 1 rfl) ?_
  refine lv_iconst (v := 2) hx hb dX2_closeRange_1 (by decide) ?_
  refine lv_icmp_ne (tgt := 25) hx hb dX2_closeRange_2 (by decide) (fun c3 => ?_) (fun c3 => ?_)
  · replace hq := hq.2 c3
    refine lv_iconst (v := 1) hx hb dX2_closeRange_25 (by decide) ?_
    exact r_iret C hr hlk hw dX2_closeRange_26 (Nat.le_refl _) (Nat.le_refl _) ⟨_, rfl, hq⟩
  · replace hq := hq.1 c3
    refine lv_aload_n hx hb dX2_closeRange_5 rfl (lv_at hl 0 rfl) ?_
    refine gfX2_31 C hw hw.2.2.1 h0 dX2_closeRange_6 ?_
    refine lv_iconst (v := 1) hx hb dX2_closeRange_9 (by decide) ?_
    refine lv_icmp_lt (tgt := 25) hx hb dX2_closeRange_10 (by decide) (fun c4 => ?_) (fun c4 => ?_)
    · replace hq := hq.1 c4
      refine lv_iconst (v := 1) hx hb dX2_closeRange_25 (by decide) ?_
      exact r_iret C hr hlk hw dX2_closeRange_26 (Nat.le_refl _) (Nat.le_refl _) ⟨_, rfl, hq⟩
    · replace hq := hq.2 c4
      refine lv_aload_n hx hb dX2_closeRange_13 rfl (lv_at hl 0 rfl) ?_
      refine gfX2_31 C hw hw.2.2.1 h0 dX2_closeRange_14 ?_
      refine lv_aload_n hx hb dX2_closeRange_17 rfl (lv_at hl 0 rfl) ?_
      obtain ⟨q5, e6, hq⟩ := hq
      refine gfX2_21 C hw hw.2.2.1 h0 e6 dX2_closeRange_18 ?_
      obtain ⟨h7, hq⟩ := hq
      refine q_alen C hw hw.2.2.1 h7 (by decide) (by decide) rfl dX2_closeRange_21 ?_
      refine lv_icmp_le (tgt := 27) hx hb dX2_closeRange_22 (by decide) (fun c8 => ?_) (fun c8 => ?_)
      · replace hq := hq.1 c8
        refine lv_lload_n hx hb dX2_closeRange_27 rfl (lv_at hl 2 rfl) ?_
        refine lv_aload_n hx hb dX2_closeRange_28 rfl (lv_at hl 0 rfl) ?_
        obtain ⟨q9, e10, hq⟩ := hq
        refine gfX2_17 C hw hw.2.2.1 h0 e10 dX2_closeRange_29 ?_
        refine lv_aload_n hx hb dX2_closeRange_32 rfl (lv_at hl 0 rfl) ?_
        refine gfX2_31 C hw hw.2.2.1 h0 dX2_closeRange_33 ?_
        refine lv_iconst (v := 1) hx hb dX2_closeRange_36 (by decide) ?_
        refine lv_isub hx hb dX2_closeRange_37 ?_
        obtain ⟨h11, hq⟩ := hq
        obtain ⟨h12, hq⟩ := hq
        refine q_lald C hw hw.2.2.1 h11 h12 dX2_closeRange_38 ?_
        refine W.lcmp hx hb dX2_closeRange_39 ?_
        refine lv_if_ge (tgt := 45) hx hb dX2_closeRange_40 (by decide) (fun c13 => ?_) (fun c13 => ?_)
        · replace hq := hq.1 c13
          refine lv_aload_n hx hb dX2_closeRange_45 rfl (lv_at hl 0 rfl) ?_
          refine gfX2_21 C hw hw.2.2.1 h0 e6 dX2_closeRange_46 ?_
          refine lv_aload_n hx hb dX2_closeRange_49 rfl (lv_at hl 0 rfl) ?_
          refine gfX2_31 C hw hw.2.2.1 h0 dX2_closeRange_50 ?_
          refine lv_iconst (v := 1) hx hb dX2_closeRange_53 (by decide) ?_
          refine lv_isub hx hb dX2_closeRange_54 ?_
          refine lv_lload_n hx hb dX2_closeRange_55 rfl (lv_at hl 2 rfl) ?_
          obtain ⟨h14, hq⟩ := hq
          refine q_last C hw hw.2.2.1 h7 h14 dX2_closeRange_56 (fun H locs hw => ?_)
          generalize e16 : uJ M0 q5 (Int32.toNatClampNeg ((mI M0 a0 3) - 1)) p2 = M15 at hw
          replace hq := hq M15 e16.symm
          have e6 : mR M15 a0 2 = some q5 := by rw [← e16, mR_uJ]; exact e6
          have e10 : mR M15 a0 1 = some q9 := by rw [← e16, mR_uJ]; exact e10
          exact lt_X2_closeRange_57  C hr hlk hn h0  hq hw (lv_sub hl [0, 1, 2] rfl)
        · replace hq := hq.2 c13
          refine lv_iconst (v := 2) hx hb dX2_closeRange_43 (by decide) ?_
          exact r_iret C hr hlk hw dX2_closeRange_44 (Nat.le_refl _) (Nat.le_refl _) ⟨_, rfl, hq⟩
      · replace hq := hq.2 c8
        refine lv_iconst (v := 1) hx hb dX2_closeRange_25 (by decide) ?_
        exact r_iret C hr hlk hw dX2_closeRange_26 (Nat.le_refl _) (Nat.le_refl _) ⟨_, rfl, hq⟩

set_option maxRecDepth 100000 in
def wp_X2_addItem  (g : Gh) (M0 : Mem) (a0 : Nat) (p1 : Int32) (p2 : Int64) (post : Mem → Prop) : Prop :=
  okc (gB g) M0 a0 2 ∧ (∃ q1, mR M0 a0 0 = some q1 ∧ (okc (gB g) M0 q1 13 ∧ ((((nI (mN M0 q1)) ≤ (mI M0 a0 3)) → post M0) ∧ (¬ ((nI (mN M0 q1)) ≤ (mI M0 a0 3)) → vp_in (mI M0 a0 3) (mN M0 q1) ∧ (∀ M6, M6 = uI M0 q1 (Int32.toNatClampNeg (mI M0 a0 3)) (vp_nar .byte ((Int32.toInt8 p1).toInt32)) → (∃ q8, mR M6 a0 1 = some q8 ∧ (okc (gB g) M0 q8 15 ∧ (vp_in (mI M6 a0 3) (mN M0 q8) ∧ (∀ M12, M12 = uJ M6 q8 (Int32.toNatClampNeg (mI M6 a0 3)) p2 → (∃ q14, mR M12 a0 2 = some q14 ∧ (okc (gB g) M0 q14 15 ∧ (vp_in (mI M12 a0 3) (mN M0 q14) ∧ (∀ M18, M18 = uJ M12 q14 (Int32.toNatClampNeg (mI M12 a0 3)) p2 → (∀ M20, M20 = uI M18 a0 3 ((mI M18 a0 3) + 1) → (post M20)))))))))))))))
set_option maxHeartbeats 4000000 in
set_option maxRecDepth 100000 in
theorem ct_X2_addItem {l : Launch} {g : Gh} {M0 : Mem} {a0 : Nat} {p1 : Int32} {p2 : Int64} {post : Mem → Prop}  (hq : wp_X2_addItem  g M0 a0 p1 p2 post) : Ct l g yX2_addItem cX2_addItem 4 none 0 0 0 [.ref a0, .int p1, .long p2] M0 (pV post) := by
  unfold wp_X2_addItem at hq
  obtain ⟨h0, hq⟩ := hq
  refine Ct.of (by decide) (Nat.le_of_ble_eq_true rfl) ?_
  intro p e s m below meth c ls C hr hlk hn hl hw
  have hx := C.1.1
  have hb := C.1.2.1
  have hl : lv_has ls 4 [(0, .ref a0), (1, .int p1), (2, .long p2)] := hl
  refine lv_aload_n hx hb dX2_addItem_0 rfl (lv_at hl 0 rfl) ?_
  refine gfX2_31 C hw hw.2.2.1 h0 dX2_addItem_1 ?_
  refine lv_aload_n hx hb dX2_addItem_4 rfl (lv_at hl 0 rfl) ?_
  obtain ⟨q1, e2, hq⟩ := hq
  refine gfX2_11 C hw hw.2.2.1 h0 e2 dX2_addItem_5 ?_
  obtain ⟨h3, hq⟩ := hq
  refine q_alen C hw hw.2.2.1 h3 (by decide) (by decide) rfl dX2_addItem_8 ?_
  refine lv_icmp_ge (tgt := 53) hx hb dX2_addItem_9 (by decide) (fun c4 => ?_) (fun c4 => ?_)
  · replace hq := hq.1 c4
    exact r_vret C hr hlk hw dX2_addItem_53 (Nat.le_refl _) (Nat.le_refl _) ⟨rfl, hq⟩
  · replace hq := hq.2 c4
    refine lv_aload_n hx hb dX2_addItem_12 rfl (lv_at hl 0 rfl) ?_
    refine gfX2_11 C hw hw.2.2.1 h0 e2 dX2_addItem_13 ?_
    refine lv_aload_n hx hb dX2_addItem_16 rfl (lv_at hl 0 rfl) ?_
    refine gfX2_31 C hw hw.2.2.1 h0 dX2_addItem_17 ?_
    refine lv_iload_n hx hb dX2_addItem_20 rfl (lv_at hl 1 rfl) ?_
    refine lv_i2b (v := ((Int32.toInt8 p1).toInt32)) hx hb dX2_addItem_21 rfl ?_
    obtain ⟨h5, hq⟩ := hq
    refine q_bast C hw hw.2.2.1 h3 h5 dX2_addItem_22 (fun H locs hw => ?_)
    generalize e7 : uI M0 q1 (Int32.toNatClampNeg (mI M0 a0 3)) (vp_nar .byte ((Int32.toInt8 p1).toInt32)) = M6 at hw
    replace hq := hq M6 e7.symm
    have e2 : mR M6 a0 0 = some q1 := by rw [← e7, mR_uI]; exact e2
    refine lv_aload_n hx hb dX2_addItem_23 rfl (lv_at hl 0 rfl) ?_
    obtain ⟨q8, e9, hq⟩ := hq
    refine gfX2_17 C hw hw.2.2.1 h0 e9 dX2_addItem_24 ?_
    refine lv_aload_n hx hb dX2_addItem_27 rfl (lv_at hl 0 rfl) ?_
    refine gfX2_31 C hw hw.2.2.1 h0 dX2_addItem_28 ?_
    refine lv_lload_n hx hb dX2_addItem_31 rfl (lv_at hl 2 rfl) ?_
    obtain ⟨h10, hq⟩ := hq
    obtain ⟨h11, hq⟩ := hq
    refine q_last C hw hw.2.2.1 h10 h11 dX2_addItem_32 (fun H locs hw => ?_)
    generalize e13 : uJ M6 q8 (Int32.toNatClampNeg (mI M6 a0 3)) p2 = M12 at hw
    replace hq := hq M12 e13.symm
    have e2 : mR M12 a0 0 = some q1 := by rw [← e13, mR_uJ]; exact e2
    have e9 : mR M12 a0 1 = some q8 := by rw [← e13, mR_uJ]; exact e9
    refine lv_aload_n hx hb dX2_addItem_33 rfl (lv_at hl 0 rfl) ?_
    obtain ⟨q14, e15, hq⟩ := hq
    refine gfX2_21 C hw hw.2.2.1 h0 e15 dX2_addItem_34 ?_
    refine lv_aload_n hx hb dX2_addItem_37 rfl (lv_at hl 0 rfl) ?_
    refine gfX2_31 C hw hw.2.2.1 h0 dX2_addItem_38 ?_
    refine lv_lload_n hx hb dX2_addItem_41 rfl (lv_at hl 2 rfl) ?_
    obtain ⟨h16, hq⟩ := hq
    obtain ⟨h17, hq⟩ := hq
    refine q_last C hw hw.2.2.1 h16 h17 dX2_addItem_42 (fun H locs hw => ?_)
    generalize e19 : uJ M12 q14 (Int32.toNatClampNeg (mI M12 a0 3)) p2 = M18 at hw
    replace hq := hq M18 e19.symm
    have e2 : mR M18 a0 0 = some q1 := by rw [← e19, mR_uJ]; exact e2
    have e9 : mR M18 a0 1 = some q8 := by rw [← e19, mR_uJ]; exact e9
    have e15 : mR M18 a0 2 = some q14 := by rw [← e19, mR_uJ]; exact e15
    refine lv_aload_n hx hb dX2_addItem_43 rfl (lv_at hl 0 rfl) ?_
    refine lv_dup hx hb dX2_addItem_44 rfl ?_
    refine gfX2_31 C hw hw.2.2.1 h0 dX2_addItem_45 ?_
    refine lv_iconst (v := 1) hx hb dX2_addItem_48 (by decide) ?_
    refine lv_iadd hx hb dX2_addItem_49 ?_
    refine pfX2_31 C hw hw.2.2.1 h0 dX2_addItem_50 (fun H locs hw => ?_)
    generalize e21 : uI M18 a0 3 ((mI M18 a0 3) + 1) = M20 at hw
    replace hq := hq M20 e21.symm
    have e2 : mR M20 a0 0 = some q1 := by rw [← e21, mR_uI]; exact e2
    have e9 : mR M20 a0 1 = some q8 := by rw [← e21, mR_uI]; exact e9
    have e15 : mR M20 a0 2 = some q14 := by rw [← e21, mR_uI]; exact e15
    exact r_vret C hr hlk hw dX2_addItem_53 (Nat.le_refl _) (Nat.le_refl _) ⟨rfl, hq⟩

set_option maxRecDepth 100000 in
def lb_X2_openBracket_52  (g : Gh) (M0 : Mem) (a0 : Nat) (p1 : Int32) (p2 : Int32) (post : Int32 → Mem → Prop)    (M : Mem) : Prop :=
  post 0 M
set_option maxRecDepth 100000 in
def wp_X2_openBracket  (g : Gh) (M0 : Mem) (a0 : Nat) (p1 : Int32) (p2 : Int32) (post : Int32 → Mem → Prop) : Prop :=
  okc (gB g) M0 a0 2 ∧ ((((mI M0 a0 6) < 6) → ∃ q2, mR M0 a0 4 = some q2 ∧ (okc (gB g) M0 q2 14 ∧ (vp_in (mI M0 a0 6) (mN M0 q2) ∧ (∀ M6, M6 = uI M0 q2 (Int32.toNatClampNeg (mI M0 a0 6)) p2 → (∃ q8, mR M6 a0 5 = some q8 ∧ (okc (gB g) M0 q8 14 ∧ (vp_in (mI M6 a0 6) (mN M0 q8) ∧ (∀ M12, M12 = uI M6 q8 (Int32.toNatClampNeg (mI M6 a0 6)) 1 → (∀ M14, M14 = uI M12 a0 6 ((mI M12 a0 6) + 1) → (wp_X2_addItem g M14 a0 p1 0 (fun M17 => ∀ M18, M18 = uI M17 a0 7 0 → (lb_X2_openBracket_52  g M0 a0 p1 p2 post   M18)))))))))))) ∧ (¬ ((mI M0 a0 6) < 6) → post 3 M0))
set_option maxHeartbeats 4000000 in
set_option maxRecDepth 100000 in
theorem lt_X2_openBracket_52 {l : Launch} {g : Gh} {p : Program} {e : Env} {s : State} {m : MethodId} {args : Array Value} {below : List Frame} {meth : Method} {c : Code} {H : Heap} {locs : List Loc} {ls : Array Slot} {M0 M : Mem} {a0 : Nat} {p1 : Int32} {p2 : Int32} {post : Int32 → Mem → Prop}    (C : Cx g p s m args c cX2_openBracket 3 RX2) (hr : meth.sig.returnType = (some .int)) (hlk : meth.locks = false) (hn : meth.name = "openBracket") (h0 : okc (gB g) M0 a0 2)  (hq : lb_X2_openBracket_52  g M0 a0 p1 p2 post   M) (hw : Wd g s M0 M H locs) (hl : lv_has ls 3 [(0, .ref a0), (1, .int p1), (2, .int p2)]) : W p l e (rmo 1 0 0) s m args below meth c H locs 0 0 (MQ below (Cq g M0 (pI post)) args s 0 0 (gA g)) (F0 m 52 ls []) := by
  have hx := C.1.1
  have hb := C.1.2.1
  unfold lb_X2_openBracket_52 at hq
  refine lv_iconst (v := 0) hx hb dX2_openBracket_52 (by decide) ?_
  exact r_iret C hr hlk hw dX2_openBracket_53 (Nat.le_refl _) (Nat.le_refl _) ⟨_, rfl, hq⟩
set_option maxHeartbeats 4000000 in
set_option maxRecDepth 100000 in
theorem ct_X2_openBracket {l : Launch} {g : Gh} {M0 : Mem} {a0 : Nat} {p1 : Int32} {p2 : Int32} {post : Int32 → Mem → Prop}  (hq : wp_X2_openBracket  g M0 a0 p1 p2 post) : Ct l g yX2_openBracket cX2_openBracket 3 (some .int) 1 0 0 [.ref a0, .int p1, .int p2] M0 (pI post) := by
  unfold wp_X2_openBracket at hq
  obtain ⟨h0, hq⟩ := hq
  refine Ct.of (by decide) (Nat.le_of_ble_eq_true rfl) ?_
  intro p e s m below meth c ls C hr hlk hn hl hw
  have hx := C.1.1
  have hb := C.1.2.1
  have hl : lv_has ls 3 [(0, .ref a0), (1, .int p1), (2, .int p2)] := hl
  refine lv_aload_n hx hb dX2_openBracket_0 rfl (lv_at hl 0 rfl) ?_
  refine gfX2_35 C hw hw.2.2.1 h0 dX2_openBracket_1 ?_
  refine lv_bipush (v := 6) hx hb dX2_openBracket_4 (by decide) ?_
  refine lv_icmp_lt (tgt := 11) hx hb dX2_openBracket_6 (by decide) (fun c1 => ?_) (fun c1 => ?_)
  · replace hq := hq.1 c1
    refine lv_aload_n hx hb dX2_openBracket_11 rfl (lv_at hl 0 rfl) ?_
    obtain ⟨q2, e3, hq⟩ := hq
    refine gfX2_24 C hw hw.2.2.1 h0 e3 dX2_openBracket_12 ?_
    refine lv_aload_n hx hb dX2_openBracket_15 rfl (lv_at hl 0 rfl) ?_
    refine gfX2_35 C hw hw.2.2.1 h0 dX2_openBracket_16 ?_
    refine lv_iload_n hx hb dX2_openBracket_19 rfl (lv_at hl 2 rfl) ?_
    obtain ⟨h4, hq⟩ := hq
    obtain ⟨h5, hq⟩ := hq
    refine q_iast C hw hw.2.2.1 h4 h5 dX2_openBracket_20 (fun H locs hw => ?_)
    generalize e7 : uI M0 q2 (Int32.toNatClampNeg (mI M0 a0 6)) p2 = M6 at hw
    replace hq := hq M6 e7.symm
    have e3 : mR M6 a0 4 = some q2 := by rw [← e7, mR_uI]; exact e3
    refine lv_aload_n hx hb dX2_openBracket_21 rfl (lv_at hl 0 rfl) ?_
    obtain ⟨q8, e9, hq⟩ := hq
    refine gfX2_28 C hw hw.2.2.1 h0 e9 dX2_openBracket_22 ?_
    refine lv_aload_n hx hb dX2_openBracket_25 rfl (lv_at hl 0 rfl) ?_
    refine gfX2_35 C hw hw.2.2.1 h0 dX2_openBracket_26 ?_
    refine lv_iconst (v := 1) hx hb dX2_openBracket_29 (by decide) ?_
    obtain ⟨h10, hq⟩ := hq
    obtain ⟨h11, hq⟩ := hq
    refine q_iast C hw hw.2.2.1 h10 h11 dX2_openBracket_30 (fun H locs hw => ?_)
    generalize e13 : uI M6 q8 (Int32.toNatClampNeg (mI M6 a0 6)) 1 = M12 at hw
    replace hq := hq M12 e13.symm
    have e3 : mR M12 a0 4 = some q2 := by rw [← e13, mR_uI]; exact e3
    have e9 : mR M12 a0 5 = some q8 := by rw [← e13, mR_uI]; exact e9
    refine lv_aload_n hx hb dX2_openBracket_31 rfl (lv_at hl 0 rfl) ?_
    refine lv_dup hx hb dX2_openBracket_32 rfl ?_
    refine gfX2_35 C hw hw.2.2.1 h0 dX2_openBracket_33 ?_
    refine lv_iconst (v := 1) hx hb dX2_openBracket_36 (by decide) ?_
    refine lv_iadd hx hb dX2_openBracket_37 ?_
    refine pfX2_35 C hw hw.2.2.1 h0 dX2_openBracket_38 (fun H locs hw => ?_)
    generalize e15 : uI M12 a0 6 ((mI M12 a0 6) + 1) = M14 at hw
    replace hq := hq M14 e15.symm
    have e3 : mR M14 a0 4 = some q2 := by rw [← e15, mR_uI]; exact e3
    have e9 : mR M14 a0 5 = some q8 := by rw [← e15, mR_uI]; exact e9
    refine lv_aload_n hx hb dX2_openBracket_41 rfl (lv_at hl 0 rfl) ?_
    refine lv_iload_n hx hb dX2_openBracket_42 rfl (lv_at hl 1 rfl) ?_
    refine lv_lconst (v := 0) hx hb dX2_openBracket_43 (by decide) ?_
    refine r_callV (T := TX2) (N := 10) (ci := 2) (index := 85) (n := 2) (d2 := 0) (mc := 0) (ms := 0) (As := [.int p1, .long 0]) (rest := []) C hw (ct_X2_addItem hq) kvX2_85 hq.1 (by decide) rfl ⟨by decide, by decide⟩ ⟨by decide, by decide⟩ rfl hl.1 rfl (Nat.le_of_ble_eq_true rfl) dX2_openBracket_44 (fun r M17 H locs hp hle hw => ?_)
    obtain ⟨rfl, hq⟩ := hp
    refine W.eq (g2 := F0 m 47 ls []) rfl ?_
    refine lv_aload_n hx hb dX2_openBracket_47 rfl (lv_at hl 0 rfl) ?_
    refine lv_iconst (v := 0) hx hb dX2_openBracket_48 (by decide) ?_
    refine pfX2_38 C hw hw.2.2.1 h0 dX2_openBracket_49 (fun H locs hw => ?_)
    generalize e19 : uI M17 a0 7 0 = M18 at hw
    replace hq := hq M18 e19.symm
    exact lt_X2_openBracket_52  C hr hlk hn h0  hq hw (lv_sub hl [0, 1, 2] rfl)
  · replace hq := hq.2 c1
    refine lv_iconst (v := 3) hx hb dX2_openBracket_9 (by decide) ?_
    exact r_iret C hr hlk hw dX2_openBracket_10 (Nat.le_refl _) (Nat.le_refl _) ⟨_, rfl, hq⟩
