set_option maxRecDepth 100000 in
def lb_X4_faultOfPoints_100  (g : Gh) (M0 : Mem) (a0 : Nat) (a1 : Nat) (p2 : Int32) (post : Int32 → Mem → Prop)  (x3 : Int32)  (M : Mem) : Prop :=
  ((x3 = 0) → okc (gB g) M0 a1 10 ∧ ((((mI M a1 2) = 59) → ∃ q4, mR M a0 2 = some q4 ∧ (okc (gB g) M0 q4 14 ∧ (vp_in p2 (mN M0 q4) ∧ (∀ M8, M8 = uI M a0 1 ((mI M a0 1) + (mI M q4 (Int32.toNatClampNeg p2))) → (∀ M10, M10 = uI M8 a0 0 ((mI M8 a0 0) + 1) → (wp_X10_readNext g M10 a1 (gK g 2) (fun M13 => post 0 M13))))))) ∧ (¬ ((mI M a1 2) = 59) → post 1 M))) ∧ (¬ (x3 = 0) → post x3 M)
set_option maxRecDepth 100000 in
def lb_X4_faultOfPoints_77  (g : Gh) (M0 : Mem) (a0 : Nat) (a1 : Nat) (p2 : Int32) (post : Int32 → Mem → Prop)  (x3 : Int32)  (M : Mem) : Prop :=
  ((x3 = 0) → wp_X10_isWord g M a1 (gK g 8) (fun v15 M16 => ((v15 = 0) → lb_X4_faultOfPoints_100  g M0 a0 a1 p2 post  x3 M16) ∧ (¬ (v15 = 0) → ∃ q18, mR M16 a0 6 = some q18 ∧ (wp_X4_readPoints g M16 a1 q18 p2 (fun v20 M21 => lb_X4_faultOfPoints_100  g M0 a0 a1 p2 post  v20 M21))))) ∧ (¬ (x3 = 0) → lb_X4_faultOfPoints_100  g M0 a0 a1 p2 post  x3 M)
set_option maxRecDepth 100000 in
def lb_X4_faultOfPoints_58  (g : Gh) (M0 : Mem) (a0 : Nat) (a1 : Nat) (p2 : Int32) (post : Int32 → Mem → Prop)  (x3 : Int32)  (M : Mem) : Prop :=
  wp_X10_isWord g M a1 (gK g 7) (fun v22 M23 => ((v22 = 0) → lb_X4_faultOfPoints_77  g M0 a0 a1 p2 post  x3 M23) ∧ (¬ (v22 = 0) → ∃ q25, mR M23 a0 5 = some q25 ∧ (wp_X4_readPoints g M23 a1 q25 p2 (fun v27 M28 => lb_X4_faultOfPoints_77  g M0 a0 a1 p2 post  v27 M28))))
set_option maxRecDepth 100000 in
def wp_X4_faultOfPoints  (g : Gh) (M0 : Mem) (a0 : Nat) (a1 : Nat) (p2 : Int32) (post : Int32 → Mem → Prop) : Prop :=
  okc (gB g) M0 a0 4 ∧ (((p2 < 0) → post 1 M0) ∧ (¬ (p2 < 0) → ((6 ≤ p2) → post 1 M0) ∧ (¬ (6 ≤ p2) → wp_X10_isWord g M0 a1 (gK g 6) (fun v31 M32 => ((v31 = 0) → post 1 M32) ∧ (¬ (v31 = 0) → ∃ q34, mR M32 a0 5 = some q34 ∧ (okc (gB g) M0 q34 14 ∧ (vp_in p2 (mN M0 q34) ∧ (∀ M38, M38 = uI M32 q34 (Int32.toNatClampNeg p2) (-1) → (∃ q40, mR M38 a0 6 = some q40 ∧ (okc (gB g) M0 q40 14 ∧ (vp_in p2 (mN M0 q40) ∧ (∀ M44, M44 = uI M38 q40 (Int32.toNatClampNeg p2) 0 → (∃ q46, mR M44 a0 4 = some q46 ∧ (wp_X4_readPoints g M44 a1 q46 p2 (fun v48 M49 => ((v48 = 0) → ∃ q51, mR M49 a0 3 = some q51 ∧ (okc (gB g) M0 q51 17 ∧ (vp_in p2 (mN M0 q51) ∧ ((((mI M49 q51 (Int32.toNatClampNeg p2)) = 0) → lb_X4_faultOfPoints_58  g M0 a0 a1 p2 post  v48 M49) ∧ (¬ ((mI M49 q51 (Int32.toNatClampNeg p2)) = 0) → lb_X4_faultOfPoints_77  g M0 a0 a1 p2 post  v48 M49))))) ∧ (¬ (v48 = 0) → lb_X4_faultOfPoints_77  g M0 a0 a1 p2 post  v48 M49))))))))))))))))
set_option maxHeartbeats 4000000 in
set_option maxRecDepth 100000 in
theorem lt_X4_faultOfPoints_100 {l : Launch} {g : Gh} {p : Program} {e : Env} {s : State} {m : MethodId} {args : Array Value} {below : List Frame} {meth : Method} {c : Code} {H : Heap} {locs : List Loc} {ls : Array Slot} {M0 M : Mem} {a0 : Nat} {a1 : Nat} {p2 : Int32} {post : Int32 → Mem → Prop} {x3 : Int32}   (C : Cx g p s m args c cX4_faultOfPoints 4 RX4) (hr : meth.sig.returnType = (some .int)) (hlk : meth.locks = false) (hn : meth.name = "faultOfPoints") (h0 : okc (gB g) M0 a0 4)  (hq : lb_X4_faultOfPoints_100  g M0 a0 a1 p2 post  x3 M) (hw : Wd g s M0 M H locs) (hl : lv_has ls 4 [(0, .ref a0), (1, .ref a1), (2, .int p2), (3, .int x3)]) : W p l e (rmo 10 0 0) s m args below meth c H locs 0 0 (MQ below (Cq g M0 (pI post)) args s 0 0 (gA g)) (F0 m 100 ls []) := by
  have hx := C.1.1
  have hb := C.1.2.1
  unfold lb_X4_faultOfPoints_100 at hq
  refine lv_iload_n hx hb dX4_faultOfPoints_100 rfl (lv_at hl 3 rfl) ?_
  refine lv_if_eq (tgt := 106) hx hb dX4_faultOfPoints_101 (by decide) (fun c1 => ?_) (fun c1 => ?_)
  · replace hq := hq.1 c1
    refine lv_aload_n hx hb dX4_faultOfPoints_106 rfl (lv_at hl 1 rfl) ?_
    obtain ⟨h2, hq⟩ := hq
    refine gfX4_52 C hw hw.2.2.1 h2 dX4_faultOfPoints_107 ?_
    refine lv_bipush (v := 59) hx hb dX4_faultOfPoints_110 (by decide) ?_
    refine lv_icmp_eq (tgt := 117) hx hb dX4_faultOfPoints_112 (by decide) (fun c3 => ?_) (fun c3 => ?_)
    · replace hq := hq.1 c3
      refine lv_aload_n hx hb dX4_faultOfPoints_117 rfl (lv_at hl 0 rfl) ?_
      refine lv_dup hx hb dX4_faultOfPoints_118 rfl ?_
      refine gfX4_32 C hw hw.2.2.1 h0 dX4_faultOfPoints_119 ?_
      refine lv_aload_n hx hb dX4_faultOfPoints_122 rfl (lv_at hl 0 rfl) ?_
      obtain ⟨q4, e5, hq⟩ := hq
      refine gfX4_11 C hw hw.2.2.1 h0 e5 dX4_faultOfPoints_123 ?_
      refine lv_iload_n hx hb dX4_faultOfPoints_126 rfl (lv_at hl 2 rfl) ?_
      obtain ⟨h6, hq⟩ := hq
      obtain ⟨h7, hq⟩ := hq
      refine q_iald C hw hw.2.2.1 h6 h7 dX4_faultOfPoints_127 ?_
      refine lv_iadd hx hb dX4_faultOfPoints_128 ?_
      refine pfX4_32 C hw hw.2.2.1 h0 dX4_faultOfPoints_129 (fun H locs hw => ?_)
      generalize e9 : uI M a0 1 ((mI M a0 1) + (mI M q4 (Int32.toNatClampNeg p2))) = M8 at hw
      replace hq := hq M8 e9.symm
      have e5 : mR M8 a0 2 = some q4 := by rw [← e9, mR_uI]; exact e5
      refine lv_aload_n hx hb dX4_faultOfPoints_132 rfl (lv_at hl 0 rfl) ?_
      refine lv_dup hx hb dX4_faultOfPoints_133 rfl ?_
      refine gfX4_28 C hw hw.2.2.1 h0 dX4_faultOfPoints_134 ?_
      refine lv_iconst (v := 1) hx hb dX4_faultOfPoints_137 (by decide) ?_
      refine lv_iadd hx hb dX4_faultOfPoints_138 ?_
      refine pfX4_28 C hw hw.2.2.1 h0 dX4_faultOfPoints_139 (fun H locs hw => ?_)
      generalize e11 : uI M8 a0 0 ((mI M8 a0 0) + 1) = M10 at hw
      replace hq := hq M10 e11.symm
      have e5 : mR M10 a0 2 = some q4 := by rw [← e11, mR_uI]; exact e5
      refine lv_aload_n hx hb dX4_faultOfPoints_142 rfl (lv_at hl 1 rfl) ?_
      refine va_ldcS hx hb C.1.2.2.2.1 (st_2 C.2.2.2.2.1) dX4_faultOfPoints_143 ?_
      refine r_callV (T := TX10) (N := 6) (ci := 10) (index := 48) (n := 1) (d2 := 8) (mc := 0) (ms := 0) (As := [.ref (gK g 2)]) (rest := []) C hw (ct_X10_readNext hq) kvX4_48 hq.1 (by decide) rfl ⟨by decide, by decide⟩ ⟨by decide, by decide⟩ rfl hl.1 rfl (Nat.le_of_ble_eq_true rfl) dX4_faultOfPoints_145 (fun r M13 H locs hp hle hw => ?_)
      obtain ⟨rfl, hq⟩ := hp
      refine W.eq (g2 := F0 m 148 ls []) rfl ?_
      refine lv_iconst (v := 0) hx hb dX4_faultOfPoints_148 (by decide) ?_
      exact r_iret C hr hlk hw dX4_faultOfPoints_149 (Nat.le_refl _) (Nat.le_refl _) ⟨_, rfl, hq⟩
    · replace hq := hq.2 c3
      refine lv_iconst (v := 1) hx hb dX4_faultOfPoints_115 (by decide) ?_
      exact r_iret C hr hlk hw dX4_faultOfPoints_116 (Nat.le_refl _) (Nat.le_refl _) ⟨_, rfl, hq⟩
  · replace hq := hq.2 c1
    refine lv_iload_n hx hb dX4_faultOfPoints_104 rfl (lv_at hl 3 rfl) ?_
    exact r_iret C hr hlk hw dX4_faultOfPoints_105 (Nat.le_refl _) (Nat.le_refl _) ⟨_, rfl, hq⟩
set_option maxHeartbeats 4000000 in
set_option maxRecDepth 100000 in
theorem lt_X4_faultOfPoints_77 {l : Launch} {g : Gh} {p : Program} {e : Env} {s : State} {m : MethodId} {args : Array Value} {below : List Frame} {meth : Method} {c : Code} {H : Heap} {locs : List Loc} {ls : Array Slot} {M0 M : Mem} {a0 : Nat} {a1 : Nat} {p2 : Int32} {post : Int32 → Mem → Prop} {x3 : Int32}   (C : Cx g p s m args c cX4_faultOfPoints 4 RX4) (hr : meth.sig.returnType = (some .int)) (hlk : meth.locks = false) (hn : meth.name = "faultOfPoints") (h0 : okc (gB g) M0 a0 4)  (hq : lb_X4_faultOfPoints_77  g M0 a0 a1 p2 post  x3 M) (hw : Wd g s M0 M H locs) (hl : lv_has ls 4 [(0, .ref a0), (1, .ref a1), (2, .int p2), (3, .int x3)]) : W p l e (rmo 10 0 0) s m args below meth c H locs 0 0 (MQ below (Cq g M0 (pI post)) args s 0 0 (gA g)) (F0 m 77 ls []) := by
  have hx := C.1.1
  have hb := C.1.2.1
  unfold lb_X4_faultOfPoints_77 at hq
  refine lv_iload_n hx hb dX4_faultOfPoints_77 rfl (lv_at hl 3 rfl) ?_
  refine lv_if_ne (tgt := 100) hx hb dX4_faultOfPoints_78 (by decide) (fun c14 => ?_) (fun c14 => ?_)
  · replace hq := hq.2 c14
    exact lt_X4_faultOfPoints_100  C hr hlk hn h0  hq hw (lv_sub hl [0, 1, 2, 3] rfl)
  · replace hq := hq.1 c14
    refine lv_aload_n hx hb dX4_faultOfPoints_81 rfl (lv_at hl 1 rfl) ?_
    refine va_ldcS hx hb C.1.2.2.2.1 (st_8 C.2.2.2.2.1) dX4_faultOfPoints_82 ?_
    refine r_callV (T := TX10) (N := 6) (ci := 10) (index := 66) (n := 1) (d2 := 5) (mc := 0) (ms := 0) (As := [.ref (gK g 8)]) (rest := []) C hw (ct_X10_isWord hq) kvX4_66 hq.1 (by decide) rfl ⟨by decide, by decide⟩ ⟨by decide, by decide⟩ rfl hl.1 rfl (Nat.le_of_ble_eq_true rfl) dX4_faultOfPoints_84 (fun r M16 H locs hp hle hw => ?_)
    obtain ⟨v15, rfl, hq⟩ := hp
    refine W.eq (g2 := F0 m 87 ls [.int v15]) rfl ?_
    refine lv_if_eq (tgt := 100) hx hb dX4_faultOfPoints_87 (by decide) (fun c17 => ?_) (fun c17 => ?_)
    · replace hq := hq.1 c17
      exact lt_X4_faultOfPoints_100  C hr hlk hn h0  hq hw (lv_sub hl [0, 1, 2, 3] rfl)
    · replace hq := hq.2 c17
      refine lv_aload_n hx hb dX4_faultOfPoints_90 rfl (lv_at hl 1 rfl) ?_
      refine lv_aload_n hx hb dX4_faultOfPoints_91 rfl (lv_at hl 0 rfl) ?_
      obtain ⟨q18, e19, hq⟩ := hq
      refine gfX4_25 C hw hw.2.2.1 h0 e19 dX4_faultOfPoints_92 ?_
      refine lv_iload_n hx hb dX4_faultOfPoints_95 rfl (lv_at hl 2 rfl) ?_
      refine r_callS (index := 84) (n := 3) (d2 := 9) (mc := 0) (ms := 0) (As := [.ref a1, .ref q18, .int p2]) (rest := []) C hw (ct_X4_readPoints hq) ksX4_84 ⟨by decide, by decide⟩ ⟨by decide, by decide⟩ rfl hl.1 rfl (Nat.le_of_ble_eq_true rfl) dX4_faultOfPoints_96 (fun r M21 H locs hp hle hw => ?_)
      obtain ⟨v20, rfl, hq⟩ := hp
      refine W.eq (g2 := F0 m 99 ls [.int v20]) rfl ?_
      refine lv_istore_n (lv' := [(3, .int v20), (0, .ref a0), (1, .ref a1), (2, .int p2)]) hx hb dX4_faultOfPoints_99 rfl hl (by decide) rfl (fun ls hl => ?_)
      exact lt_X4_faultOfPoints_100  C hr hlk hn h0  hq hw (lv_sub hl [1, 2, 3, 0] rfl)
set_option maxHeartbeats 4000000 in
set_option maxRecDepth 100000 in
theorem lt_X4_faultOfPoints_58 {l : Launch} {g : Gh} {p : Program} {e : Env} {s : State} {m : MethodId} {args : Array Value} {below : List Frame} {meth : Method} {c : Code} {H : Heap} {locs : List Loc} {ls : Array Slot} {M0 M : Mem} {a0 : Nat} {a1 : Nat} {p2 : Int32} {post : Int32 → Mem → Prop} {x3 : Int32}   (C : Cx g p s m args c cX4_faultOfPoints 4 RX4) (hr : meth.sig.returnType = (some .int)) (hlk : meth.locks = false) (hn : meth.name = "faultOfPoints") (h0 : okc (gB g) M0 a0 4)  (hq : lb_X4_faultOfPoints_58  g M0 a0 a1 p2 post  x3 M) (hw : Wd g s M0 M H locs) (hl : lv_has ls 4 [(0, .ref a0), (1, .ref a1), (2, .int p2), (3, .int x3)]) : W p l e (rmo 10 0 0) s m args below meth c H locs 0 0 (MQ below (Cq g M0 (pI post)) args s 0 0 (gA g)) (F0 m 58 ls []) := by
  have hx := C.1.1
  have hb := C.1.2.1
  unfold lb_X4_faultOfPoints_58 at hq
  refine lv_aload_n hx hb dX4_faultOfPoints_58 rfl (lv_at hl 1 rfl) ?_
  refine va_ldcS hx hb C.1.2.2.2.1 (st_7 C.2.2.2.2.1) dX4_faultOfPoints_59 ?_
  refine r_callV (T := TX10) (N := 6) (ci := 10) (index := 66) (n := 1) (d2 := 5) (mc := 0) (ms := 0) (As := [.ref (gK g 7)]) (rest := []) C hw (ct_X10_isWord hq) kvX4_66 hq.1 (by decide) rfl ⟨by decide, by decide⟩ ⟨by decide, by decide⟩ rfl hl.1 rfl (Nat.le_of_ble_eq_true rfl) dX4_faultOfPoints_61 (fun r M23 H locs hp hle hw => ?_)
  obtain ⟨v22, rfl, hq⟩ := hp
  refine W.eq (g2 := F0 m 64 ls [.int v22]) rfl ?_
  refine lv_if_eq (tgt := 77) hx hb dX4_faultOfPoints_64 (by decide) (fun c24 => ?_) (fun c24 => ?_)
  · replace hq := hq.1 c24
    exact lt_X4_faultOfPoints_77  C hr hlk hn h0  hq hw (lv_sub hl [0, 1, 2, 3] rfl)
  · replace hq := hq.2 c24
    refine lv_aload_n hx hb dX4_faultOfPoints_67 rfl (lv_at hl 1 rfl) ?_
    refine lv_aload_n hx hb dX4_faultOfPoints_68 rfl (lv_at hl 0 rfl) ?_
    obtain ⟨q25, e26, hq⟩ := hq
    refine gfX4_22 C hw hw.2.2.1 h0 e26 dX4_faultOfPoints_69 ?_
    refine lv_iload_n hx hb dX4_faultOfPoints_72 rfl (lv_at hl 2 rfl) ?_
    refine r_callS (index := 84) (n := 3) (d2 := 9) (mc := 0) (ms := 0) (As := [.ref a1, .ref q25, .int p2]) (rest := []) C hw (ct_X4_readPoints hq) ksX4_84 ⟨by decide, by decide⟩ ⟨by decide, by decide⟩ rfl hl.1 rfl (Nat.le_of_ble_eq_true rfl) dX4_faultOfPoints_73 (fun r M28 H locs hp hle hw => ?_)
    obtain ⟨v27, rfl, hq⟩ := hp
    refine W.eq (g2 := F0 m 76 ls [.int v27]) rfl ?_
    refine lv_istore_n (lv' := [(3, .int v27), (0, .ref a0), (1, .ref a1), (2, .int p2)]) hx hb dX4_faultOfPoints_76 rfl hl (by decide) rfl (fun ls hl => ?_)
    exact lt_X4_faultOfPoints_77  C hr hlk hn h0  hq hw (lv_sub hl [1, 2, 3, 0] rfl)
set_option maxHeartbeats 4000000 in
set_option maxRecDepth 100000 in
theorem ct_X4_faultOfPoints {l : Launch} {g : Gh} {M0 : Mem} {a0 : Nat} {a1 : Nat} {p2 : Int32} {post : Int32 → Mem → Prop}  (hq : wp_X4_faultOfPoints  g M0 a0 a1 p2 post) : Ct l g yX4_faultOfPoints cX4_faultOfPoints 4 (some .int) 10 0 0 [.ref a0, .ref a1, .int p2] M0 (pI post) := by
  unfold wp_X4_faultOfPoints at hq
  obtain ⟨h0, hq⟩ := hq
  refine Ct.of (by decide) (Nat.le_of_ble_eq_true rfl) ?_
  intro p e s m below meth c ls C hr hlk hn hl hw
  have hx := C.1.1
  have hb := C.1.2.1
  have hl : lv_has ls 4 [(0, .ref a0), (1, .ref a1), (2, .int p2)] := hl
  refine lv_iload_n hx hb dX4_faultOfPoints_0 rfl (lv_at hl 2 rfl) ?_
  refine lv_if_lt (tgt := 19) hx hb dX4_faultOfPoints_1 (by decide) (fun c29 => ?_) (fun c29 => ?_)
  · replace hq := hq.1 c29
    refine lv_iconst (v := 1) hx hb dX4_faultOfPoints_19 (by decide) ?_
    exact r_iret C hr hlk hw dX4_faultOfPoints_20 (Nat.le_refl _) (Nat.le_refl _) ⟨_, rfl, hq⟩
  · replace hq := hq.2 c29
    refine lv_iload_n hx hb dX4_faultOfPoints_4 rfl (lv_at hl 2 rfl) ?_
    refine lv_bipush (v := 6) hx hb dX4_faultOfPoints_5 (by decide) ?_
    refine lv_icmp_ge (tgt := 19) hx hb dX4_faultOfPoints_7 (by decide) (fun c30 => ?_) (fun c30 => ?_)
    · replace hq := hq.1 c30
      refine lv_iconst (v := 1) hx hb dX4_faultOfPoints_19 (by decide) ?_
      exact r_iret C hr hlk hw dX4_faultOfPoints_20 (Nat.le_refl _) (Nat.le_refl _) ⟨_, rfl, hq⟩
    · replace hq := hq.2 c30
      refine lv_aload_n hx hb dX4_faultOfPoints_10 rfl (lv_at hl 1 rfl) ?_
      refine va_ldcS hx hb C.1.2.2.2.1 (st_6 C.2.2.2.2.1) dX4_faultOfPoints_11 ?_
      refine r_callV (T := TX10) (N := 6) (ci := 10) (index := 66) (n := 1) (d2 := 5) (mc := 0) (ms := 0) (As := [.ref (gK g 6)]) (rest := []) C hw (ct_X10_isWord hq) kvX4_66 hq.1 (by decide) rfl ⟨by decide, by decide⟩ ⟨by decide, by decide⟩ rfl hl.1 rfl (Nat.le_of_ble_eq_true rfl) dX4_faultOfPoints_13 (fun r M32 H locs hp hle hw => ?_)
      obtain ⟨v31, rfl, hq⟩ := hp
      refine W.eq (g2 := F0 m 16 ls [.int v31]) rfl ?_
      refine lv_if_ne (tgt := 21) hx hb dX4_faultOfPoints_16 (by decide) (fun c33 => ?_) (fun c33 => ?_)
      · replace hq := hq.2 c33
        refine lv_aload_n hx hb dX4_faultOfPoints_21 rfl (lv_at hl 0 rfl) ?_
        obtain ⟨q34, e35, hq⟩ := hq
        refine gfX4_22 C hw hw.2.2.1 h0 e35 dX4_faultOfPoints_22 ?_
        refine lv_iload_n hx hb dX4_faultOfPoints_25 rfl (lv_at hl 2 rfl) ?_
        refine lv_iconst (v := (-1)) hx hb dX4_faultOfPoints_26 (by decide) ?_
        obtain ⟨h36, hq⟩ := hq
        obtain ⟨h37, hq⟩ := hq
        refine q_iast C hw hw.2.2.1 h36 h37 dX4_faultOfPoints_27 (fun H locs hw => ?_)
        generalize e39 : uI M32 q34 (Int32.toNatClampNeg p2) (-1) = M38 at hw
        replace hq := hq M38 e39.symm
        have e35 : mR M38 a0 5 = some q34 := by rw [← e39, mR_uI]; exact e35
        refine lv_aload_n hx hb dX4_faultOfPoints_28 rfl (lv_at hl 0 rfl) ?_
        obtain ⟨q40, e41, hq⟩ := hq
        refine gfX4_25 C hw hw.2.2.1 h0 e41 dX4_faultOfPoints_29 ?_
        refine lv_iload_n hx hb dX4_faultOfPoints_32 rfl (lv_at hl 2 rfl) ?_
        refine lv_iconst (v := 0) hx hb dX4_faultOfPoints_33 (by decide) ?_
        obtain ⟨h42, hq⟩ := hq
        obtain ⟨h43, hq⟩ := hq
        refine q_iast C hw hw.2.2.1 h42 h43 dX4_faultOfPoints_34 (fun H locs hw => ?_)
        generalize e45 : uI M38 q40 (Int32.toNatClampNeg p2) 0 = M44 at hw
        replace hq := hq M44 e45.symm
        have e35 : mR M44 a0 5 = some q34 := by rw [← e45, mR_uI]; exact e35
        have e41 : mR M44 a0 6 = some q40 := by rw [← e45, mR_uI]; exact e41
        refine lv_aload_n hx hb dX4_faultOfPoints_35 rfl (lv_at hl 1 rfl) ?_
        refine lv_aload_n hx hb dX4_faultOfPoints_36 rfl (lv_at hl 0 rfl) ?_
        obtain ⟨q46, e47, hq⟩ := hq
        refine gfX4_19 C hw hw.2.2.1 h0 e47 dX4_faultOfPoints_37 ?_
        refine lv_iload_n hx hb dX4_faultOfPoints_40 rfl (lv_at hl 2 rfl) ?_
        refine r_callS (index := 84) (n := 3) (d2 := 9) (mc := 0) (ms := 0) (As := [.ref a1, .ref q46, .int p2]) (rest := []) C hw (ct_X4_readPoints hq) ksX4_84 ⟨by decide, by decide⟩ ⟨by decide, by decide⟩ rfl hl.1 rfl (Nat.le_of_ble_eq_true rfl) dX4_faultOfPoints_41 (fun r M49 H locs hp hle hw => ?_)
        obtain ⟨v48, rfl, hq⟩ := hp
        refine W.eq (g2 := F0 m 44 ls [.int v48]) rfl ?_
        refine lv_istore_n (lv' := [(3, .int v48), (0, .ref a0), (1, .ref a1), (2, .int p2)]) hx hb dX4_faultOfPoints_44 rfl hl (by decide) rfl (fun ls hl => ?_)
        refine lv_iload_n hx hb dX4_faultOfPoints_45 rfl (lv_at hl 0 rfl) ?_
        refine lv_if_ne (tgt := 77) hx hb dX4_faultOfPoints_46 (by decide) (fun c50 => ?_) (fun c50 => ?_)
        · replace hq := hq.2 c50
          exact lt_X4_faultOfPoints_77  C hr hlk hn h0  hq hw (lv_sub hl [1, 2, 3, 0] rfl)
        · replace hq := hq.1 c50
          refine lv_aload_n hx hb dX4_faultOfPoints_49 rfl (lv_at hl 1 rfl) ?_
          obtain ⟨q51, e52, hq⟩ := hq
          refine gfX4_15 C hw hw.2.2.1 h0 e52 dX4_faultOfPoints_50 ?_
          refine lv_iload_n hx hb dX4_faultOfPoints_53 rfl (lv_at hl 3 rfl) ?_
          obtain ⟨h53, hq⟩ := hq
          obtain ⟨h54, hq⟩ := hq
          refine q_zald C hw hw.2.2.1 h53 h54 dX4_faultOfPoints_54 ?_
          refine lv_if_ne (tgt := 77) hx hb dX4_faultOfPoints_55 (by decide) (fun c55 => ?_) (fun c55 => ?_)
          · replace hq := hq.2 c55
            exact lt_X4_faultOfPoints_77  C hr hlk hn h0  hq hw (lv_sub hl [1, 2, 3, 0] rfl)
          · replace hq := hq.1 c55
            exact lt_X4_faultOfPoints_58  C hr hlk hn h0  hq hw (lv_sub hl [1, 2, 3, 0] rfl)
      · replace hq := hq.1 c33
        refine lv_iconst (v := 1) hx hb dX4_faultOfPoints_19 (by decide) ?_
        exact r_iret C hr hlk hw dX4_faultOfPoints_20 (Nat.le_refl _) (Nat.le_refl _) ⟨_, rfl, hq⟩

set_option maxRecDepth 100000 in
def lb_X4_readFrom_86  (g : Gh) (M0 : Mem) (a0 : Nat) (a1 : Nat) (post : Mem → Prop)    (M : Mem) : Prop :=
  okc (gB g) M0 a1 10 ∧ (∀ M2, M2 = uI M a0 8 (mI M a1 3) → (post M2))
set_option maxRecDepth 100000 in
def lb_X4_readFrom_79  (g : Gh) (M0 : Mem) (a0 : Nat) (a1 : Nat) (post : Mem → Prop) (bk32 : Int32 × Mem → Prop) (x2 : Int32)  (M : Mem) : Prop :=
  (((mI M a0 7) = 0) → bk32 ((x2 + 1), M)) ∧ (¬ ((mI M a0 7) = 0) → lb_X4_readFrom_86  g M0 a0 a1 post   M)
set_option maxRecDepth 100000 in
def lb_X4_readFrom_50  (g : Gh) (M0 : Mem) (a0 : Nat) (a1 : Nat) (post : Mem → Prop) (bk32 : Int32 × Mem → Prop) (x2 : Int32)  (M : Mem) : Prop :=
  wp_X4_faultOfHead g M a0 a1 (fun v5 M6 => ∀ M7, M7 = uI M6 a0 7 v5 → ((((mI M7 a0 7) = 0) → wp_X4_faultOfPoints g M7 a0 a1 (mI M7 a0 0) (fun v10 M11 => ∀ M12, M12 = uI M11 a0 7 v10 → (lb_X4_readFrom_79  g M0 a0 a1 post bk32 x2 M12))) ∧ (¬ ((mI M7 a0 7) = 0) → lb_X4_readFrom_79  g M0 a0 a1 post bk32 x2 M7)))
set_option maxRecDepth 100000 in
def bd_X4_readFrom_32  (g : Gh) (M0 : Mem) (a0 : Nat) (a1 : Nat) (post : Mem → Prop)  (bk32 : Int32 × Mem → Prop) (x2 : Int32)  (M : Mem) : Prop :=
  ((6 < x2) → post M) ∧ (¬ (6 < x2) → ((x2 ≤ 0) → lb_X4_readFrom_50  g M0 a0 a1 post bk32 x2 M) ∧ (¬ (x2 ≤ 0) → okc (gB g) M0 a1 10 ∧ ((((mI M a1 2) = 0) → post M) ∧ (¬ ((mI M a1 2) = 0) → lb_X4_readFrom_50  g M0 a0 a1 post bk32 x2 M))))
set_option maxRecDepth 100000 in
def wp_X4_readFrom  (g : Gh) (M0 : Mem) (a0 : Nat) (a1 : Nat) (post : Mem → Prop) : Prop :=
  okc (gB g) M0 a0 4 ∧ (∀ M18, M18 = uI M0 a0 0 0 → (∀ M20, M20 = uI M18 a0 1 0 → (∀ M22, M22 = uI M20 a0 7 0 → (∀ M24, M24 = uI M22 a0 8 0 → (wp_X10_rewind g M24 a1 (fun M27 => wp_X10_readNext g M27 a1 (gK g 2) (fun M29 => (∃ n : Nat, lfp (fun bk z => bd_X4_readFrom_32  g M0 a0 a1 post  bk z.1 z.2) n (0, M29)))))))))
set_option maxHeartbeats 4000000 in
set_option maxRecDepth 100000 in
theorem lt_X4_readFrom_86 {l : Launch} {g : Gh} {p : Program} {e : Env} {s : State} {m : MethodId} {args : Array Value} {below : List Frame} {meth : Method} {c : Code} {H : Heap} {locs : List Loc} {ls : Array Slot} {M0 M : Mem} {a0 : Nat} {a1 : Nat} {post : Mem → Prop}    (C : Cx g p s m args c cX4_readFrom 3 RX4) (hr : meth.sig.returnType = none) (hlk : meth.locks = false) (hn : meth.name = "readFrom") (h0 : okc (gB g) M0 a0 4)  (hq : lb_X4_readFrom_86  g M0 a0 a1 post   M) (hw : Wd g s M0 M H locs) (hl : lv_has ls 3 [(0, .ref a0), (1, .ref a1)]) : W p l e (rmo 11 0 0) s m args below meth c H locs 0 0 (MQ below (Cq g M0 (pV post)) args s 0 0 (gA g)) (F0 m 86 ls []) := by
  have hx := C.1.1
  have hb := C.1.2.1
  unfold lb_X4_readFrom_86 at hq
  refine lv_aload_n hx hb dX4_readFrom_86 rfl (lv_at hl 0 rfl) ?_
  refine lv_aload_n hx hb dX4_readFrom_87 rfl (lv_at hl 1 rfl) ?_
  obtain ⟨h1, hq⟩ := hq
  refine gfX4_63 C hw hw.2.2.1 h1 dX4_readFrom_88 ?_
  refine pfX4_38 C hw hw.2.2.1 h0 dX4_readFrom_91 (fun H locs hw => ?_)
  generalize e3 : uI M a0 8 (mI M a1 3) = M2 at hw
  replace hq := hq M2 e3.symm
  exact r_vret C hr hlk hw dX4_readFrom_94 (Nat.le_refl _) (Nat.le_refl _) ⟨rfl, hq⟩
set_option maxHeartbeats 4000000 in
set_option maxRecDepth 100000 in
theorem lt_X4_readFrom_79 {l : Launch} {g : Gh} {p : Program} {e : Env} {s : State} {m : MethodId} {args : Array Value} {below : List Frame} {meth : Method} {c : Code} {H : Heap} {locs : List Loc} {ls : Array Slot} {M0 M : Mem} {a0 : Nat} {a1 : Nat} {post : Mem → Prop} {x2 : Int32}   (C : Cx g p s m args c cX4_readFrom 3 RX4) (hr : meth.sig.returnType = none) (hlk : meth.locks = false) (hn : meth.name = "readFrom") (h0 : okc (gB g) M0 a0 4) {bk32 : Int32 × Mem → Prop} (hk32 : ∀ (x2 : Int32) (M : Mem) (H : Heap) (locs : List Loc) (ls : Array Slot), bk32 (x2, M) → Wd g s M0 M H locs → lv_has ls 3 [(0, .ref a0), (1, .ref a1), (2, .int x2)] → W p l e (rmo 11 0 0) s m args below meth c H locs 0 0 (MQ below (Cq g M0 (pV post)) args s 0 0 (gA g)) (F0 m 32 ls [])) (hq : lb_X4_readFrom_79  g M0 a0 a1 post bk32 x2 M) (hw : Wd g s M0 M H locs) (hl : lv_has ls 3 [(0, .ref a0), (1, .ref a1), (2, .int x2)]) : W p l e (rmo 11 0 0) s m args below meth c H locs 0 0 (MQ below (Cq g M0 (pV post)) args s 0 0 (gA g)) (F0 m 79 ls []) := by
  have hx := C.1.1
  have hb := C.1.2.1
  unfold lb_X4_readFrom_79 at hq
  refine lv_aload_n hx hb dX4_readFrom_79 rfl (lv_at hl 0 rfl) ?_
  refine gfX4_35 C hw hw.2.2.1 h0 dX4_readFrom_80 ?_
  refine lv_if_eq (tgt := 95) hx hb dX4_readFrom_83 (by decide) (fun c4 => ?_) (fun c4 => ?_)
  · replace hq := hq.1 c4
    refine lv_iinc (v := (x2 + 1)) (lv' := [(2, .int (x2 + 1)), (0, .ref a0), (1, .ref a1)]) hx hb dX4_readFrom_95 hl (k := 2) rfl rfl (by decide) rfl (fun ls hl => ?_)
    refine lv_goto (tgt := 32) hx hb dX4_readFrom_98 (by decide) ?_
    exact hk32 _ _ _ _ _ hq hw (lv_sub hl [1, 2, 0] rfl)
  · replace hq := hq.2 c4
    exact lt_X4_readFrom_86  C hr hlk hn h0  hq hw (lv_sub hl [0, 1] rfl)
set_option maxHeartbeats 4000000 in
set_option maxRecDepth 100000 in
theorem lt_X4_readFrom_50 {l : Launch} {g : Gh} {p : Program} {e : Env} {s : State} {m : MethodId} {args : Array Value} {below : List Frame} {meth : Method} {c : Code} {H : Heap} {locs : List Loc} {ls : Array Slot} {M0 M : Mem} {a0 : Nat} {a1 : Nat} {post : Mem → Prop} {x2 : Int32}   (C : Cx g p s m args c cX4_readFrom 3 RX4) (hr : meth.sig.returnType = none) (hlk : meth.locks = false) (hn : meth.name = "readFrom") (h0 : okc (gB g) M0 a0 4) {bk32 : Int32 × Mem → Prop} (hk32 : ∀ (x2 : Int32) (M : Mem) (H : Heap) (locs : List Loc) (ls : Array Slot), bk32 (x2, M) → Wd g s M0 M H locs → lv_has ls 3 [(0, .ref a0), (1, .ref a1), (2, .int x2)] → W p l e (rmo 11 0 0) s m args below meth c H locs 0 0 (MQ below (Cq g M0 (pV post)) args s 0 0 (gA g)) (F0 m 32 ls [])) (hq : lb_X4_readFrom_50  g M0 a0 a1 post bk32 x2 M) (hw : Wd g s M0 M H locs) (hl : lv_has ls 3 [(0, .ref a0), (1, .ref a1), (2, .int x2)]) : W p l e (rmo 11 0 0) s m args below meth c H locs 0 0 (MQ below (Cq g M0 (pV post)) args s 0 0 (gA g)) (F0 m 50 ls []) := by
  have hx := C.1.1
  have hb := C.1.2.1
  unfold lb_X4_readFrom_50 at hq
  refine lv_aload_n hx hb dX4_readFrom_50 rfl (lv_at hl 0 rfl) ?_
  refine lv_aload_n hx hb dX4_readFrom_51 rfl (lv_at hl 0 rfl) ?_
  refine lv_aload_n hx hb dX4_readFrom_52 rfl (lv_at hl 1 rfl) ?_
  refine r_callV (T := TX4) (N := 9) (ci := 4) (index := 55) (n := 1) (d2 := 9) (mc := 0) (ms := 0) (As := [.ref a1]) (rest := [.ref a0]) C hw (ct_X4_faultOfHead hq) kvX4_55 hq.1 (by decide) rfl ⟨by decide, by decide⟩ ⟨by decide, by decide⟩ rfl hl.1 rfl (Nat.le_of_ble_eq_true rfl) dX4_readFrom_53 (fun r M6 H locs hp hle hw => ?_)
  obtain ⟨v5, rfl, hq⟩ := hp
  refine W.eq (g2 := F0 m 56 ls [.int v5, .ref a0]) rfl ?_
  refine pfX4_35 C hw hw.2.2.1 h0 dX4_readFrom_56 (fun H locs hw => ?_)
  generalize e8 : uI M6 a0 7 v5 = M7 at hw
  replace hq := hq M7 e8.symm
  refine lv_aload_n hx hb dX4_readFrom_59 rfl (lv_at hl 0 rfl) ?_
  refine gfX4_35 C hw hw.2.2.1 h0 dX4_readFrom_60 ?_
  refine lv_if_ne (tgt := 79) hx hb dX4_readFrom_63 (by decide) (fun c9 => ?_) (fun c9 => ?_)
  · replace hq := hq.2 c9
    exact lt_X4_readFrom_79  C hr hlk hn h0 hk32 hq hw (lv_sub hl [0, 1, 2] rfl)
  · replace hq := hq.1 c9
    refine lv_aload_n hx hb dX4_readFrom_66 rfl (lv_at hl 0 rfl) ?_
    refine lv_aload_n hx hb dX4_readFrom_67 rfl (lv_at hl 0 rfl) ?_
    refine lv_aload_n hx hb dX4_readFrom_68 rfl (lv_at hl 1 rfl) ?_
    refine lv_aload_n hx hb dX4_readFrom_69 rfl (lv_at hl 0 rfl) ?_
    refine gfX4_28 C hw hw.2.2.1 h0 dX4_readFrom_70 ?_
    refine r_callV (T := TX4) (N := 9) (ci := 4) (index := 59) (n := 2) (d2 := 10) (mc := 0) (ms := 0) (As := [.ref a1, .int (mI M7 a0 0)]) (rest := [.ref a0]) C hw (ct_X4_faultOfPoints hq) kvX4_59 hq.1 (by decide) rfl ⟨by decide, by decide⟩ ⟨by decide, by decide⟩ rfl hl.1 rfl (Nat.le_of_ble_eq_true rfl) dX4_readFrom_73 (fun r M11 H locs hp hle hw => ?_)
    obtain ⟨v10, rfl, hq⟩ := hp
    refine W.eq (g2 := F0 m 76 ls [.int v10, .ref a0]) rfl ?_
    refine pfX4_35 C hw hw.2.2.1 h0 dX4_readFrom_76 (fun H locs hw => ?_)
    generalize e13 : uI M11 a0 7 v10 = M12 at hw
    replace hq := hq M12 e13.symm
    exact lt_X4_readFrom_79  C hr hlk hn h0 hk32 hq hw (lv_sub hl [0, 1, 2] rfl)
set_option maxHeartbeats 4000000 in
set_option maxRecDepth 100000 in
theorem lp_X4_readFrom_32 {l : Launch} {g : Gh} {p : Program} {e : Env} {s : State} {m : MethodId} {args : Array Value} {below : List Frame} {meth : Method} {c : Code} {M0 : Mem} {a0 : Nat} {a1 : Nat} {post : Mem → Prop}  (C : Cx g p s m args c cX4_readFrom 3 RX4) (hr : meth.sig.returnType = none) (hlk : meth.locks = false) (hn : meth.name = "readFrom") (h0 : okc (gB g) M0 a0 4)  : ∀ (nf : Nat) (x2 : Int32)  (M : Mem) (H : Heap) (locs : List Loc) (ls : Array Slot), lfp (fun bk z => bd_X4_readFrom_32  g M0 a0 a1 post  bk z.1 z.2) nf (x2, M) → Wd g s M0 M H locs → lv_has ls 3 [(0, .ref a0), (1, .ref a1), (2, .int x2)] → W p l e (rmo 11 0 0) s m args below meth c H locs 0 0 (MQ below (Cq g M0 (pV post)) args s 0 0 (gA g)) (F0 m 32 ls []) := by
  have hx := C.1.1
  have hb := C.1.2.1
  intro nf
  induction nf with
  | zero => intro _ _ H locs ls hq; exact hq.elim
  | succ nf hk32 =>
    intro x2 M H locs ls hq hw hl
    replace hq : bd_X4_readFrom_32  g M0 a0 a1 post  (lfp (fun bk z => bd_X4_readFrom_32  g M0 a0 a1 post  bk z.1 z.2) nf) x2 M := hq
    unfold bd_X4_readFrom_32 at hq
    refine lv_iload_n hx hb dX4_readFrom_32 rfl (lv_at hl 2 rfl) ?_
    refine lv_bipush (v := 6) hx hb dX4_readFrom_33 (by decide) ?_
    refine lv_icmp_gt (tgt := 101) hx hb dX4_readFrom_35 (by decide) (fun c14 => ?_) (fun c14 => ?_)
    · replace hq := hq.1 c14
      exact r_vret C hr hlk hw dX4_readFrom_101 (Nat.le_refl _) (Nat.le_refl _) ⟨rfl, hq⟩
    · replace hq := hq.2 c14
      refine lv_iload_n hx hb dX4_readFrom_38 rfl (lv_at hl 2 rfl) ?_
      refine lv_if_le (tgt := 50) hx hb dX4_readFrom_39 (by decide) (fun c15 => ?_) (fun c15 => ?_)
      · replace hq := hq.1 c15
        exact lt_X4_readFrom_50  C hr hlk hn h0 hk32 hq hw (lv_sub hl [0, 1, 2] rfl)
      · replace hq := hq.2 c15
        refine lv_aload_n hx hb dX4_readFrom_42 rfl (lv_at hl 1 rfl) ?_
        obtain ⟨h16, hq⟩ := hq
        refine gfX4_52 C hw hw.2.2.1 h16 dX4_readFrom_43 ?_
        refine lv_if_ne (tgt := 50) hx hb dX4_readFrom_46 (by decide) (fun c17 => ?_) (fun c17 => ?_)
        · replace hq := hq.2 c17
          exact lt_X4_readFrom_50  C hr hlk hn h0 hk32 hq hw (lv_sub hl [0, 1, 2] rfl)
        · replace hq := hq.1 c17
          exact r_vret C hr hlk hw dX4_readFrom_49 (Nat.le_refl _) (Nat.le_refl _) ⟨rfl, hq⟩
set_option maxHeartbeats 4000000 in
set_option maxRecDepth 100000 in
theorem ct_X4_readFrom {l : Launch} {g : Gh} {M0 : Mem} {a0 : Nat} {a1 : Nat} {post : Mem → Prop}  (hq : wp_X4_readFrom  g M0 a0 a1 post) : Ct l g yX4_readFrom cX4_readFrom 3 none 11 0 0 [.ref a0, .ref a1] M0 (pV post) := by
  unfold wp_X4_readFrom at hq
  obtain ⟨h0, hq⟩ := hq
  refine Ct.of (by decide) (Nat.le_of_ble_eq_true rfl) ?_
  intro p e s m below meth c ls C hr hlk hn hl hw
  have hx := C.1.1
  have hb := C.1.2.1
  have hl : lv_has ls 3 [(0, .ref a0), (1, .ref a1)] := hl
  refine lv_aload_n hx hb dX4_readFrom_0 rfl (lv_at hl 0 rfl) ?_
  refine lv_iconst (v := 0) hx hb dX4_readFrom_1 (by decide) ?_
  refine pfX4_28 C hw hw.2.2.1 h0 dX4_readFrom_2 (fun H locs hw => ?_)
  generalize e19 : uI M0 a0 0 0 = M18 at hw
  replace hq := hq M18 e19.symm
  refine lv_aload_n hx hb dX4_readFrom_5 rfl (lv_at hl 0 rfl) ?_
  refine lv_iconst (v := 0) hx hb dX4_readFrom_6 (by decide) ?_
  refine pfX4_32 C hw hw.2.2.1 h0 dX4_readFrom_7 (fun H locs hw => ?_)
  generalize e21 : uI M18 a0 1 0 = M20 at hw
  replace hq := hq M20 e21.symm
  refine lv_aload_n hx hb dX4_readFrom_10 rfl (lv_at hl 0 rfl) ?_
  refine lv_iconst (v := 0) hx hb dX4_readFrom_11 (by decide) ?_
  refine pfX4_35 C hw hw.2.2.1 h0 dX4_readFrom_12 (fun H locs hw => ?_)
  generalize e23 : uI M20 a0 7 0 = M22 at hw
  replace hq := hq M22 e23.symm
  refine lv_aload_n hx hb dX4_readFrom_15 rfl (lv_at hl 0 rfl) ?_
  refine lv_iconst (v := 0) hx hb dX4_readFrom_16 (by decide) ?_
  refine pfX4_38 C hw hw.2.2.1 h0 dX4_readFrom_17 (fun H locs hw => ?_)
  generalize e25 : uI M22 a0 8 0 = M24 at hw
  replace hq := hq M24 e25.symm
  refine lv_aload_n hx hb dX4_readFrom_20 rfl (lv_at hl 1 rfl) ?_
  refine r_callV (T := TX10) (N := 6) (ci := 10) (index := 41) (n := 0) (d2 := 0) (mc := 0) (ms := 0) (As := []) (rest := []) C hw (ct_X10_rewind hq) kvX4_41 hq.1 (by decide) rfl ⟨by decide, by decide⟩ ⟨by decide, by decide⟩ rfl hl.1 rfl (Nat.le_of_ble_eq_true rfl) dX4_readFrom_21 (fun r M27 H locs hp hle hw => ?_)
  obtain ⟨rfl, hq⟩ := hp
  refine W.eq (g2 := F0 m 24 ls []) rfl ?_
  refine lv_aload_n hx hb dX4_readFrom_24 rfl (lv_at hl 1 rfl) ?_
  refine va_ldcS hx hb C.1.2.2.2.1 (st_2 C.2.2.2.2.1) dX4_readFrom_25 ?_
  refine r_callV (T := TX10) (N := 6) (ci := 10) (index := 48) (n := 1) (d2 := 8) (mc := 0) (ms := 0) (As := [.ref (gK g 2)]) (rest := []) C hw (ct_X10_readNext hq) kvX4_48 hq.1 (by decide) rfl ⟨by decide, by decide⟩ ⟨by decide, by decide⟩ rfl hl.1 rfl (Nat.le_of_ble_eq_true rfl) dX4_readFrom_27 (fun r M29 H locs hp hle hw => ?_)
  obtain ⟨rfl, hq⟩ := hp
  refine W.eq (g2 := F0 m 30 ls []) rfl ?_
  refine lv_iconst (v := 0) hx hb dX4_readFrom_30 (by decide) ?_
  refine lv_istore_n (lv' := [(2, .int 0), (0, .ref a0), (1, .ref a1)]) hx hb dX4_readFrom_31 rfl hl (by decide) rfl (fun ls hl => ?_)
  obtain ⟨nf, hq⟩ := hq
  exact lp_X4_readFrom_32  C hr hlk hn h0  nf _ _ _ _ _ hq hw (lv_sub hl [1, 2, 0] rfl)

set_option maxRecDepth 100000 in
def bd_X4_roundOf_4  (g : Gh) (M0 : Mem) (a0 : Nat) (p1 : Int32) (post : Int32 → Mem → Prop)  (bk4 : Int32 × Int32 × Mem → Prop) (x2 : Int32) (x3 : Int32)  (M : Mem) : Prop :=
  (((mI M a0 0) ≤ x3) → post 0 M) ∧ (¬ ((mI M a0 0) ≤ x3) → ((6 ≤ x3) → post 0 M) ∧ (¬ (6 ≤ x3) → ∃ q3, mR M a0 2 = some q3 ∧ (okc (gB g) M0 q3 14 ∧ (vp_in x3 (mN M0 q3) ∧ ((((x2 + (mI M q3 (Int32.toNatClampNeg x3))) ≤ p1) → bk4 ((x2 + (mI M q3 (Int32.toNatClampNeg x3))), (x3 + 1), M)) ∧ (¬ ((x2 + (mI M q3 (Int32.toNatClampNeg x3))) ≤ p1) → post x3 M))))))
set_option maxRecDepth 100000 in
def wp_X4_roundOf  (g : Gh) (M0 : Mem) (a0 : Nat) (p1 : Int32) (post : Int32 → Mem → Prop) : Prop :=
  okc (gB g) M0 a0 4 ∧ ((∃ n : Nat, lfp (fun bk z => bd_X4_roundOf_4  g M0 a0 p1 post  bk z.1 z.2.1 z.2.2) n (0, 0, M0)))
set_option maxHeartbeats 4000000 in
set_option maxRecDepth 100000 in
theorem lp_X4_roundOf_4 {l : Launch} {g : Gh} {p : Program} {e : Env} {s : State} {m : MethodId} {args : Array Value} {below : List Frame} {meth : Method} {c : Code} {M0 : Mem} {a0 : Nat} {p1 : Int32} {post : Int32 → Mem → Prop}  (C : Cx g p s m args c cX4_roundOf 4 RX4) (hr : meth.sig.returnType = (some .int)) (hlk : meth.locks = false) (hn : meth.name = "roundOf") (h0 : okc (gB g) M0 a0 4)  : ∀ (nf : Nat) (x2 : Int32) (x3 : Int32)  (M : Mem) (H : Heap) (locs : List Loc) (ls : Array Slot), lfp (fun bk z => bd_X4_roundOf_4  g M0 a0 p1 post  bk z.1 z.2.1 z.2.2) nf (x2, x3, M) → Wd g s M0 M H locs → lv_has ls 4 [(0, .ref a0), (1, .int p1), (2, .int x2), (3, .int x3)] → W p l e (rmo 0 0 0) s m args below meth c H locs 0 0 (MQ below (Cq g M0 (pI post)) args s 0 0 (gA g)) (F0 m 4 ls []) := by
  have hx := C.1.1
  have hb := C.1.2.1
  intro nf
  induction nf with
  | zero => intro _ _ _ H locs ls hq; exact hq.elim
  | succ nf hk4 =>
    intro x2 x3 M H locs ls hq hw hl
    replace hq : bd_X4_roundOf_4  g M0 a0 p1 post  (lfp (fun bk z => bd_X4_roundOf_4  g M0 a0 p1 post  bk z.1 z.2.1 z.2.2) nf) x2 x3 M := hq
    unfold bd_X4_roundOf_4 at hq
    refine lv_iload_n hx hb dX4_roundOf_4 rfl (lv_at hl 3 rfl) ?_
    refine lv_aload_n hx hb dX4_roundOf_5 rfl (lv_at hl 0 rfl) ?_
    refine gfX4_28 C hw hw.2.2.1 h0 dX4_roundOf_6 ?_
    refine lv_icmp_ge (tgt := 40) hx hb dX4_roundOf_9 (by decide) (fun c1 => ?_) (fun c1 => ?_)
    · replace hq := hq.1 c1
      refine lv_iconst (v := 0) hx hb dX4_roundOf_40 (by decide) ?_
      exact r_iret C hr hlk hw dX4_roundOf_41 (Nat.le_refl _) (Nat.le_refl _) ⟨_, rfl, hq⟩
    · replace hq := hq.2 c1
      refine lv_iload_n hx hb dX4_roundOf_12 rfl (lv_at hl 3 rfl) ?_
      refine lv_bipush (v := 6) hx hb dX4_roundOf_13 (by decide) ?_
      refine lv_icmp_ge (tgt := 40) hx hb dX4_roundOf_15 (by decide) (fun c2 => ?_) (fun c2 => ?_)
      · replace hq := hq.1 c2
        refine lv_iconst (v := 0) hx hb dX4_roundOf_40 (by decide) ?_
        exact r_iret C hr hlk hw dX4_roundOf_41 (Nat.le_refl _) (Nat.le_refl _) ⟨_, rfl, hq⟩
      · replace hq := hq.2 c2
        refine lv_iload_n hx hb dX4_roundOf_18 rfl (lv_at hl 2 rfl) ?_
        refine lv_aload_n hx hb dX4_roundOf_19 rfl (lv_at hl 0 rfl) ?_
        obtain ⟨q3, e4, hq⟩ := hq
        refine gfX4_11 C hw hw.2.2.1 h0 e4 dX4_roundOf_20 ?_
        refine lv_iload_n hx hb dX4_roundOf_23 rfl (lv_at hl 3 rfl) ?_
        obtain ⟨h5, hq⟩ := hq
        obtain ⟨h6, hq⟩ := hq
        refine q_iald C hw hw.2.2.1 h5 h6 dX4_roundOf_24 ?_
        refine lv_iadd hx hb dX4_roundOf_25 ?_
        refine lv_istore_n (lv' := [(2, .int (x2 + (mI M q3 (Int32.toNatClampNeg x3)))), (0, .ref a0), (1, .int p1), (3, .int x3)]) hx hb dX4_roundOf_26 rfl hl (by decide) rfl (fun ls hl => ?_)
        refine lv_iload_n hx hb dX4_roundOf_27 rfl (lv_at hl 2 rfl) ?_
        refine lv_iload_n hx hb dX4_roundOf_28 rfl (lv_at hl 0 rfl) ?_
        refine lv_icmp_ge (tgt := 34) hx hb dX4_roundOf_29 (by decide) (fun c7 => ?_) (fun c7 => ?_)
        · replace hq := hq.1 c7
          refine lv_iinc (v := (x3 + 1)) (lv' := [(3, .int (x3 + 1)), (2, .int (x2 + (mI M q3 (Int32.toNatClampNeg x3)))), (0, .ref a0), (1, .int p1)]) hx hb dX4_roundOf_34 hl (k := 3) rfl rfl (by decide) rfl (fun ls hl => ?_)
          refine lv_goto (tgt := 4) hx hb dX4_roundOf_37 (by decide) ?_
          exact hk4 _ _ _ _ _ _ hq hw (lv_sub hl [2, 3, 1, 0] rfl)
        · replace hq := hq.2 c7
          refine lv_iload_n hx hb dX4_roundOf_32 rfl (lv_at hl 3 rfl) ?_
          exact r_iret C hr hlk hw dX4_roundOf_33 (Nat.le_refl _) (Nat.le_refl _) ⟨_, rfl, hq⟩
set_option maxHeartbeats 4000000 in
set_option maxRecDepth 100000 in
theorem ct_X4_roundOf {l : Launch} {g : Gh} {M0 : Mem} {a0 : Nat} {p1 : Int32} {post : Int32 → Mem → Prop}  (hq : wp_X4_roundOf  g M0 a0 p1 post) : Ct l g yX4_roundOf cX4_roundOf 4 (some .int) 0 0 0 [.ref a0, .int p1] M0 (pI post) := by
  unfold wp_X4_roundOf at hq
  obtain ⟨h0, hq⟩ := hq
  refine Ct.of (by decide) (Nat.le_of_ble_eq_true rfl) ?_
  intro p e s m below meth c ls C hr hlk hn hl hw
  have hx := C.1.1
  have hb := C.1.2.1
  have hl : lv_has ls 4 [(0, .ref a0), (1, .int p1)] := hl
  refine lv_iconst (v := 0) hx hb dX4_roundOf_0 (by decide) ?_
  refine lv_istore_n (lv' := [(2, .int 0), (0, .ref a0), (1, .int p1)]) hx hb dX4_roundOf_1 rfl hl (by decide) rfl (fun ls hl => ?_)
  refine lv_iconst (v := 0) hx hb dX4_roundOf_2 (by decide) ?_
  refine lv_istore_n (lv' := [(3, .int 0), (2, .int 0), (0, .ref a0), (1, .int p1)]) hx hb dX4_roundOf_3 rfl hl (by decide) rfl (fun ls hl => ?_)
  obtain ⟨nf, hq⟩ := hq
  exact lp_X4_roundOf_4  C hr hlk hn h0  nf _ _ _ _ _ _ hq hw (lv_sub hl [2, 3, 1, 0] rfl)

set_option maxRecDepth 100000 in
def wp_X5_init  (g : Gh) (M0 : Mem) (a0 : Nat) (post : Mem → Prop) : Prop :=
  okc (gB g) M0 a0 5 ∧ (∀ q2 M3, q2 = mT M0 → M3 = nw M0 14 12 → (∀ M7, M7 = uR M3 a0 0 (some q2) → (∀ q10 M11, q10 = mT M7 → M11 = nw M7 14 12 → (∀ M15, M15 = uR M11 a0 1 (some q10) → (∀ q18 M19, q18 = mT M15 → M19 = nw M15 14 12 → (∀ M23, M23 = uR M19 a0 2 (some q18) → (∀ q26 M27, q26 = mT M23 → M27 = nw M23 14 12 → (∀ M31, M31 = uR M27 a0 3 (some q26) → (∀ M33, M33 = uI M31 a0 4 0 → (post M33))))))))))
set_option maxHeartbeats 4000000 in
set_option maxRecDepth 100000 in
theorem ct_X5_init {l : Launch} {g : Gh} {M0 : Mem} {a0 : Nat} {post : Mem → Prop}  (hq : wp_X5_init  g M0 a0 post) : Ct l g yX5_init cX5_init 1 none 1 4 48 [.ref a0] M0 (pV post) := by
  unfold wp_X5_init at hq
  obtain ⟨h0, hq⟩ := hq
  have h00 := h0
  refine Ct.of (by decide) (Nat.le_of_ble_eq_true rfl) ?_
  intro p e s m below meth c ls C hr hlk hn hl hw
  have hx := C.1.1
  have hb := C.1.2.1
  have hl : lv_has ls 1 [(0, .ref a0)] := hl
  refine lv_aload_n hx hb dX5_init_0 rfl (lv_at hl 0 rfl) ?_
  refine W.objInit hx hb C.1.2.2.2.1 (C.1.2.2.2.2 _ w_335) (C.1.2.2.2.2 _ w_35) (C.1.2.2.2.2 _ w_objInit) rfl (by rw [C.1.2.2.1]; exact hl.1) rfl dX5_init_1 (Nat.le_of_ble_eq_true rfl) (Nat.le_of_ble_eq_true rfl) ?_
  refine W.eq (g2 := F0 m 4 ls []) rfl ?_
  refine lv_aload_n hx hb dX5_init_4 rfl (lv_at hl 0 rfl) ?_
  refine lv_bipush (v := 12) hx hb dX5_init_5 (by decide) ?_
  have hB := hw.B C.2.2.2.2.2
  have h1 : 0 + 1 ≤ 4 ∧ 0 + 12 ≤ 48 := by decide
  refine q_newa_14 (N' := 12) C hw (by decide) (by decide) (by decide) h1.1 h1.2 dX5_init_7 (fun H hw => ?_)
  have h6 := okc_nw (gB g) M0 14 12 hB
  have h0 := h0.up (mle_nw M0 14 12)
  generalize e4 : nw M0 14 12 = M3 at hw h6 h0
  generalize e5 : mT M0 = q2 at h6 ⊢
  replace hq := hq q2 M3 e5.symm e4.symm
  refine pfX5_9 (v := (some q2)) C hw (mle_rf _) h0 hn dX5_init_9 (fun H locs hw => ?_)
  generalize e8 : uR M3 a0 0 (some q2) = M7 at hw
  replace hq := hq M7 e8.symm
  have h0 : okc (gB g) M7 a0 5 := by rw [← e8]; exact okc_uR h0
  refine lv_aload_n hx hb dX5_init_12 rfl (lv_at hl 0 rfl) ?_
  refine lv_bipush (v := 12) hx hb dX5_init_13 (by decide) ?_
  have hB := hw.B C.2.2.2.2.2
  have h9 : 1 + 1 ≤ 4 ∧ 12 + 12 ≤ 48 := by decide
  refine q_newa_14 (N' := 12) C hw (by decide) (by decide) (by decide) h9.1 h9.2 dX5_init_15 (fun H hw => ?_)
  have h14 := okc_nw (gB g) M7 14 12 hB
  have h0 := h0.up (mle_nw M7 14 12)
  generalize e12 : nw M7 14 12 = M11 at hw h14 h0
  generalize e13 : mT M7 = q10 at h14 ⊢
  replace hq := hq q10 M11 e13.symm e12.symm
  refine pfX5_15 (v := (some q10)) C hw (mle_rf _) h0 hn dX5_init_17 (fun H locs hw => ?_)
  generalize e16 : uR M11 a0 1 (some q10) = M15 at hw
  replace hq := hq M15 e16.symm
  have h0 : okc (gB g) M15 a0 5 := by rw [← e16]; exact okc_uR h0
  refine lv_aload_n hx hb dX5_init_20 rfl (lv_at hl 0 rfl) ?_
  refine lv_bipush (v := 12) hx hb dX5_init_21 (by decide) ?_
  have hB := hw.B C.2.2.2.2.2
  have h17 : 2 + 1 ≤ 4 ∧ 24 + 12 ≤ 48 := by decide
  refine q_newa_14 (N' := 12) C hw (by decide) (by decide) (by decide) h17.1 h17.2 dX5_init_23 (fun H hw => ?_)
  have h22 := okc_nw (gB g) M15 14 12 hB
  have h0 := h0.up (mle_nw M15 14 12)
  generalize e20 : nw M15 14 12 = M19 at hw h22 h0
  generalize e21 : mT M15 = q18 at h22 ⊢
  replace hq := hq q18 M19 e21.symm e20.symm
  refine pfX5_18 (v := (some q18)) C hw (mle_rf _) h0 hn dX5_init_25 (fun H locs hw => ?_)
  generalize e24 : uR M19 a0 2 (some q18) = M23 at hw
  replace hq := hq M23 e24.symm
  have h0 : okc (gB g) M23 a0 5 := by rw [← e24]; exact okc_uR h0
  refine lv_aload_n hx hb dX5_init_28 rfl (lv_at hl 0 rfl) ?_
  refine lv_bipush (v := 12) hx hb dX5_init_29 (by decide) ?_
  have hB := hw.B C.2.2.2.2.2
  have h25 : 3 + 1 ≤ 4 ∧ 36 + 12 ≤ 48 := by decide
  refine q_newa_14 (N' := 12) C hw (by decide) (by decide) (by decide) h25.1 h25.2 dX5_init_31 (fun H hw => ?_)
  have h30 := okc_nw (gB g) M23 14 12 hB
  have h0 := h0.up (mle_nw M23 14 12)
  generalize e28 : nw M23 14 12 = M27 at hw h30 h0
  generalize e29 : mT M23 = q26 at h30 ⊢
  replace hq := hq q26 M27 e29.symm e28.symm
  refine pfX5_21 (v := (some q26)) C hw (mle_rf _) h0 hn dX5_init_33 (fun H locs hw => ?_)
  generalize e32 : uR M27 a0 3 (some q26) = M31 at hw
  replace hq := hq M31 e32.symm
  have h0 : okc (gB g) M31 a0 5 := by rw [← e32]; exact okc_uR h0
  refine lv_aload_n hx hb dX5_init_36 rfl (lv_at hl 0 rfl) ?_
  refine lv_iconst (v := 0) hx hb dX5_init_37 (by decide) ?_
  refine pfX5_24 C hw (mle_rf _) h0 dX5_init_38 (fun H locs hw => ?_)
  generalize e34 : uI M31 a0 4 0 = M33 at hw
  replace hq := hq M33 e34.symm
  have h0 : okc (gB g) M33 a0 5 := by rw [← e34]; exact okc_uI h0
  have h35 : 4 ≤ 4 ∧ 48 ≤ 48 := by decide
  exact r_vret C hr hlk hw dX5_init_41 h35.1 h35.2 ⟨rfl, hq⟩

set_option maxRecDepth 100000 in
def wp_X11_isTeam  (g : Gh) (M0 : Mem) (p0 : Int32) (post : Int32 → Mem → Prop) : Prop :=
  ((p0 < 0) → post 0 M0) ∧ (¬ (p0 < 0) → ((12 ≤ p0) → post 0 M0) ∧ (¬ (12 ≤ p0) → post 1 M0))
set_option maxHeartbeats 4000000 in
set_option maxRecDepth 100000 in
theorem ct_X11_isTeam {l : Launch} {g : Gh} {M0 : Mem} {p0 : Int32} {post : Int32 → Mem → Prop}  (hq : wp_X11_isTeam  g M0 p0 post) : Ct l g yX11_isTeam cX11_isTeam 1 (some .boolean) 0 0 0 [.int p0] M0 (pI post) := by
  unfold wp_X11_isTeam at hq
  refine Ct.of (by decide) (Nat.le_of_ble_eq_true rfl) ?_
  intro p e s m below meth c ls C hr hlk hn hl hw
  have hx := C.1.1
  have hb := C.1.2.1
  have hl : lv_has ls 1 [(0, .int p0)] := hl
  refine lv_iload_n hx hb dX11_isTeam_0 rfl (lv_at hl 0 rfl) ?_
  refine lv_if_lt (tgt := 14) hx hb dX11_isTeam_1 (by decide) (fun c1 => ?_) (fun c1 => ?_)
  · replace hq := hq.1 c1
    refine lv_iconst (v := 0) hx hb dX11_isTeam_14 (by decide) ?_
    exact r_zret C hr hlk hw dX11_isTeam_15 (Nat.le_refl _) (Nat.le_refl _) (by decide) ⟨_, rfl, hq⟩
  · replace hq := hq.2 c1
    refine lv_iload_n hx hb dX11_isTeam_4 rfl (lv_at hl 0 rfl) ?_
    refine lv_bipush (v := 12) hx hb dX11_isTeam_5 (by decide) ?_
    refine lv_icmp_ge (tgt := 14) hx hb dX11_isTeam_7 (by decide) (fun c2 => ?_) (fun c2 => ?_)
    · replace hq := hq.1 c2
      refine lv_iconst (v := 0) hx hb dX11_isTeam_14 (by decide) ?_
      exact r_zret C hr hlk hw dX11_isTeam_15 (Nat.le_refl _) (Nat.le_refl _) (by decide) ⟨_, rfl, hq⟩
    · replace hq := hq.2 c2
      refine lv_iconst (v := 1) hx hb dX11_isTeam_10 (by decide) ?_
      refine lv_goto (tgt := 15) hx hb dX11_isTeam_11 (by decide) ?_
      exact r_zret C hr hlk hw dX11_isTeam_15 (Nat.le_refl _) (Nat.le_refl _) (by decide) ⟨_, rfl, hq⟩
