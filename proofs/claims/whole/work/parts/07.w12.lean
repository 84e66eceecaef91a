set_option maxRecDepth 100000 in
def lb_X7_readFrom_64  (g : Gh) (M0 : Mem) (a0 : Nat) (a1 : Nat) (post : Int32 → Mem → Prop) (bk11 : Int32 × Mem → Prop) (x2 : Int32) (s0 : Int32) (M : Mem) : Prop :=
  ((s0 = 0) → post 0 M) ∧ (¬ (s0 = 0) → (((mI M a0 1) < 20) → ∃ q3, mR M a0 0 = some q3 ∧ (okc (gB g) M0 a1 10 ∧ (okc (gB g) M0 q3 15 ∧ (vp_in (mI M a0 1) (mN M0 q3) ∧ (∀ M8, M8 = uJ M q3 (Int32.toNatClampNeg (mI M a0 1)) (mJ M a1 4) → (∀ M10, M10 = uI M8 a0 1 ((mI M8 a0 1) + 1) → (bk11 ((x2 + 1), M10)))))))) ∧ (¬ ((mI M a0 1) < 20) → post 0 M))
set_option maxRecDepth 100000 in
def lb_X7_readFrom_30  (g : Gh) (M0 : Mem) (a0 : Nat) (a1 : Nat) (post : Int32 → Mem → Prop)    (M : Mem) : Prop :=
  (((mI M a0 1) ≤ 0) → post 0 M) ∧ (¬ ((mI M a0 1) ≤ 0) → post 1 M)
set_option maxRecDepth 100000 in
def bd_X7_readFrom_11  (g : Gh) (M0 : Mem) (a0 : Nat) (a1 : Nat) (post : Int32 → Mem → Prop)  (bk11 : Int32 × Mem → Prop) (x2 : Int32)  (M : Mem) : Prop :=
  ((20 < x2) → post 0 M) ∧ (¬ (20 < x2) → wp_X10_readNext g M a1 (gK g 1) (fun M15 => okc (gB g) M0 a1 10 ∧ ((((mI M15 a1 2) = 0) → lb_X7_readFrom_30  g M0 a0 a1 post   M15) ∧ (¬ ((mI M15 a1 2) = 0) → (((mI M15 a1 2) = 1) → lb_X7_readFrom_64  g M0 a0 a1 post bk11 x2 1 M15) ∧ (¬ ((mI M15 a1 2) = 1) → (((mI M15 a1 2) = 2) → lb_X7_readFrom_64  g M0 a0 a1 post bk11 x2 1 M15) ∧ (¬ ((mI M15 a1 2) = 2) → lb_X7_readFrom_64  g M0 a0 a1 post bk11 x2 0 M15))))))
set_option maxRecDepth 100000 in
def wp_X7_readFrom  (g : Gh) (M0 : Mem) (a0 : Nat) (a1 : Nat) (post : Int32 → Mem → Prop) : Prop :=
  okc (gB g) M0 a0 7 ∧ (∀ M20, M20 = uI M0 a0 1 0 → (wp_X10_rewind g M20 a1 (fun M23 => (∃ n : Nat, lfp (fun bk z => bd_X7_readFrom_11  g M0 a0 a1 post  bk z.1 z.2) n (0, M23)))))
set_option maxHeartbeats 4000000 in
set_option maxRecDepth 100000 in
theorem lt_X7_readFrom_64 {l : Launch} {g : Gh} {p : Program} {e : Env} {s : State} {m : MethodId} {args : Array Value} {below : List Frame} {meth : Method} {c : Code} {H : Heap} {locs : List Loc} {ls : Array Slot} {M0 M : Mem} {a0 : Nat} {a1 : Nat} {post : Int32 → Mem → Prop} {x2 : Int32} {s0 : Int32}  (C : Cx g p s m args c cX7_readFrom 4 RX7) (hr : meth.sig.returnType = (some .boolean)) (hlk : meth.locks = false) (hn : meth.name = "readFrom") (h0 : okc (gB g) M0 a0 7) {bk11 : Int32 × Mem → Prop} (hk11 : ∀ (x2 : Int32) (M : Mem) (H : Heap) (locs : List Loc) (ls : Array Slot), bk11 (x2, M) → Wd g s M0 M H locs → lv_has ls 4 [(0, .ref a0), (1, .ref a1), (2, .int x2)] → W p l e (rmo 9 0 0) s m args below meth c H locs 0 0 (MQ below (Cq g M0 (pI post)) args s 0 0 (gA g)) (F0 m 11 ls [])) (hq : lb_X7_readFrom_64  g M0 a0 a1 post bk11 x2 s0 M) (hw : Wd g s M0 M H locs) (hl : lv_has ls 4 [(0, .ref a0), (1, .ref a1), (2, .int x2)]) : W p l e (rmo 9 0 0) s m args below meth c H locs 0 0 (MQ below (Cq g M0 (pI post)) args s 0 0 (gA g)) (F0 m 64 ls [.int s0]) := by
  have hx := C.1.1
  have hb := C.1.2.1
  unfold lb_X7_readFrom_64 at hq
  refine lv_istore_n (lv' := [(3, .int s0), (0, .ref a0), (1, .ref a1), (2, .int x2)]) hx hb dX7_readFrom_64 rfl hl (by decide) rfl (fun ls hl => ?_)
  refine lv_iload_n hx hb dX7_readFrom_65 rfl (lv_at hl 0 rfl) ?_
  refine lv_if_eq (tgt := 78) hx hb dX7_readFrom_66 (by decide) (fun c1 => ?_) (fun c1 => ?_)
  · replace hq := hq.1 c1
    refine lv_iconst (v := 0) hx hb dX7_readFrom_78 (by decide) ?_
    exact r_zret C hr hlk hw dX7_readFrom_79 (Nat.le_refl _) (Nat.le_refl _) (by decide) ⟨_, rfl, hq⟩
  · replace hq := hq.2 c1
    refine lv_aload_n hx hb dX7_readFrom_69 rfl (lv_at hl 1 rfl) ?_
    refine gfX7_13 C hw hw.2.2.1 h0 dX7_readFrom_70 ?_
    refine lv_bipush (v := 20) hx hb dX7_readFrom_73 (by decide) ?_
    refine lv_icmp_lt (tgt := 80) hx hb dX7_readFrom_75 (by decide) (fun c2 => ?_) (fun c2 => ?_)
    · replace hq := hq.1 c2
      refine lv_aload_n hx hb dX7_readFrom_80 rfl (lv_at hl 1 rfl) ?_
      obtain ⟨q3, e4, hq⟩ := hq
      refine gfX7_9 C hw hw.2.2.1 h0 e4 dX7_readFrom_81 ?_
      refine lv_aload_n hx hb dX7_readFrom_84 rfl (lv_at hl 1 rfl) ?_
      refine gfX7_13 C hw hw.2.2.1 h0 dX7_readFrom_85 ?_
      refine lv_aload_n hx hb dX7_readFrom_88 rfl (lv_at hl 2 rfl) ?_
      obtain ⟨h5, hq⟩ := hq
      refine gfX7_47 C hw hw.2.2.1 h5 dX7_readFrom_89 ?_
      obtain ⟨h6, hq⟩ := hq
      obtain ⟨h7, hq⟩ := hq
      refine q_last C hw hw.2.2.1 h6 h7 dX7_readFrom_92 (fun H locs hw => ?_)
      generalize e9 : uJ M q3 (Int32.toNatClampNeg (mI M a0 1)) (mJ M a1 4) = M8 at hw
      replace hq := hq M8 e9.symm
      have e4 : mR M8 a0 0 = some q3 := by rw [← e9, mR_uJ]; exact e4
      refine lv_aload_n hx hb dX7_readFrom_93 rfl (lv_at hl 1 rfl) ?_
      refine lv_dup hx hb dX7_readFrom_94 rfl ?_
      refine gfX7_13 C hw hw.2.2.1 h0 dX7_readFrom_95 ?_
      refine lv_iconst (v := 1) hx hb dX7_readFrom_98 (by decide) ?_
      refine lv_iadd hx hb dX7_readFrom_99 ?_
      refine pfX7_13 C hw hw.2.2.1 h0 dX7_readFrom_100 (fun H locs hw => ?_)
      generalize e11 : uI M8 a0 1 ((mI M8 a0 1) + 1) = M10 at hw
      replace hq := hq M10 e11.symm
      have e4 : mR M10 a0 0 = some q3 := by rw [← e11, mR_uI]; exact e4
      refine lv_iinc (v := (x2 + 1)) (lv' := [(2, .int (x2 + 1)), (3, .int s0), (0, .ref a0), (1, .ref a1)]) hx hb dX7_readFrom_103 hl (k := 3) rfl rfl (by decide) rfl (fun ls hl => ?_)
      refine lv_goto (tgt := 11) hx hb dX7_readFrom_106 (by decide) ?_
      exact hk11 _ _ _ _ _ hq hw (lv_sub hl [2, 3, 0] rfl)
    · replace hq := hq.2 c2
      refine lv_iconst (v := 0) hx hb dX7_readFrom_78 (by decide) ?_
      exact r_zret C hr hlk hw dX7_readFrom_79 (Nat.le_refl _) (Nat.le_refl _) (by decide) ⟨_, rfl, hq⟩
set_option maxHeartbeats 4000000 in
set_option maxRecDepth 100000 in
theorem lt_X7_readFrom_30 {l : Launch} {g : Gh} {p : Program} {e : Env} {s : State} {m : MethodId} {args : Array Value} {below : List Frame} {meth : Method} {c : Code} {H : Heap} {locs : List Loc} {ls : Array Slot} {M0 M : Mem} {a0 : Nat} {a1 : Nat} {post : Int32 → Mem → Prop}    (C : Cx g p s m args c cX7_readFrom 4 RX7) (hr : meth.sig.returnType = (some .boolean)) (hlk : meth.locks = false) (hn : meth.name = "readFrom") (h0 : okc (gB g) M0 a0 7)  (hq : lb_X7_readFrom_30  g M0 a0 a1 post   M) (hw : Wd g s M0 M H locs) (hl : lv_has ls 4 [(0, .ref a0), (1, .ref a1)]) : W p l e (rmo 9 0 0) s m args below meth c H locs 0 0 (MQ below (Cq g M0 (pI post)) args s 0 0 (gA g)) (F0 m 30 ls []) := by
  have hx := C.1.1
  have hb := C.1.2.1
  unfold lb_X7_readFrom_30 at hq
  refine lv_aload_n hx hb dX7_readFrom_30 rfl (lv_at hl 0 rfl) ?_
  refine gfX7_13 C hw hw.2.2.1 h0 dX7_readFrom_31 ?_
  refine lv_if_le (tgt := 41) hx hb dX7_readFrom_34 (by decide) (fun c12 => ?_) (fun c12 => ?_)
  · replace hq := hq.1 c12
    refine lv_iconst (v := 0) hx hb dX7_readFrom_41 (by decide) ?_
    exact r_zret C hr hlk hw dX7_readFrom_42 (Nat.le_refl _) (Nat.le_refl _) (by decide) ⟨_, rfl, hq⟩
  · replace hq := hq.2 c12
    refine lv_iconst (v := 1) hx hb dX7_readFrom_37 (by decide) ?_
    refine lv_goto (tgt := 42) hx hb dX7_readFrom_38 (by decide) ?_
    exact r_zret C hr hlk hw dX7_readFrom_42 (Nat.le_refl _) (Nat.le_refl _) (by decide) ⟨_, rfl, hq⟩
set_option maxHeartbeats 4000000 in
set_option maxRecDepth 100000 in
theorem lp_X7_readFrom_11 {l : Launch} {g : Gh} {p : Program} {e : Env} {s : State} {m : MethodId} {args : Array Value} {below : List Frame} {meth : Method} {c : Code} {M0 : Mem} {a0 : Nat} {a1 : Nat} {post : Int32 → Mem → Prop}  (C : Cx g p s m args c cX7_readFrom 4 RX7) (hr : meth.sig.returnType = (some .boolean)) (hlk : meth.locks = false) (hn : meth.name = "readFrom") (h0 : okc (gB g) M0 a0 7)  : ∀ (nf : Nat) (x2 : Int32)  (M : Mem) (H : Heap) (locs : List Loc) (ls : Array Slot), lfp (fun bk z => bd_X7_readFrom_11  g M0 a0 a1 post  bk z.1 z.2) nf (x2, M) → Wd g s M0 M H locs → lv_has ls 4 [(0, .ref a0), (1, .ref a1), (2, .int x2)] → W p l e (rmo 9 0 0) s m args below meth c H locs 0 0 (MQ below (Cq g M0 (pI post)) args s 0 0 (gA g)) (F0 m 11 ls []) := by
  have hx := C.1.1
  have hb := C.1.2.1
  intro nf
  induction nf with
  | zero => intro _ _ H locs ls hq; exact hq.elim
  | succ nf hk11 =>
    intro x2 M H locs ls hq hw hl
    replace hq : bd_X7_readFrom_11  g M0 a0 a1 post  (lfp (fun bk z => bd_X7_readFrom_11  g M0 a0 a1 post  bk z.1 z.2) nf) x2 M := hq
    unfold bd_X7_readFrom_11 at hq
    refine lv_iload_n hx hb dX7_readFrom_11 rfl (lv_at hl 2 rfl) ?_
    refine lv_bipush (v := 20) hx hb dX7_readFrom_12 (by decide) ?_
    refine lv_icmp_gt (tgt := 109) hx hb dX7_readFrom_14 (by decide) (fun c13 => ?_) (fun c13 => ?_)
    · replace hq := hq.1 c13
      refine lv_iconst (v := 0) hx hb dX7_readFrom_109 (by decide) ?_
      exact r_zret C hr hlk hw dX7_readFrom_110 (Nat.le_refl _) (Nat.le_refl _) (by decide) ⟨_, rfl, hq⟩
    · replace hq := hq.2 c13
      refine lv_aload_n hx hb dX7_readFrom_17 rfl (lv_at hl 1 rfl) ?_
      refine va_ldcS hx hb C.1.2.2.2.1 (st_1 C.2.2.2.2.1) dX7_readFrom_18 ?_
      refine r_callV (T := TX10) (N := 6) (ci := 10) (index := 40) (n := 1) (d2 := 8) (mc := 0) (ms := 0) (As := [.ref (gK g 1)]) (rest := []) C hw (ct_X10_readNext hq) kvX7_40 hq.1 (by decide) rfl ⟨by decide, by decide⟩ ⟨by decide, by decide⟩ rfl hl.1 rfl (Nat.le_of_ble_eq_true rfl) dX7_readFrom_20 (fun r M15 H locs hp hle hw => ?_)
      obtain ⟨rfl, hq⟩ := hp
      refine W.eq (g2 := F0 m 23 ls []) rfl ?_
      refine lv_aload_n hx hb dX7_readFrom_23 rfl (lv_at hl 1 rfl) ?_
      obtain ⟨h16, hq⟩ := hq
      refine gfX7_44 C hw hw.2.2.1 h16 dX7_readFrom_24 ?_
      refine lv_if_ne (tgt := 43) hx hb dX7_readFrom_27 (by decide) (fun c17 => ?_) (fun c17 => ?_)
      · replace hq := hq.2 c17
        refine lv_aload_n hx hb dX7_readFrom_43 rfl (lv_at hl 1 rfl) ?_
        refine gfX7_44 C hw hw.2.2.1 h16 dX7_readFrom_44 ?_
        refine lv_iconst (v := 1) hx hb dX7_readFrom_47 (by decide) ?_
        refine lv_icmp_eq (tgt := 59) hx hb dX7_readFrom_48 (by decide) (fun c18 => ?_) (fun c18 => ?_)
        · replace hq := hq.1 c18
          refine lv_iconst (v := 1) hx hb dX7_readFrom_59 (by decide) ?_
          refine lv_goto (tgt := 64) hx hb dX7_readFrom_60 (by decide) ?_
          exact lt_X7_readFrom_64  C hr hlk hn h0 hk11 hq hw (lv_sub hl [0, 1, 2] rfl)
        · replace hq := hq.2 c18
          refine lv_aload_n hx hb dX7_readFrom_51 rfl (lv_at hl 1 rfl) ?_
          refine gfX7_44 C hw hw.2.2.1 h16 dX7_readFrom_52 ?_
          refine lv_iconst (v := 2) hx hb dX7_readFrom_55 (by decide) ?_
          refine lv_icmp_ne (tgt := 63) hx hb dX7_readFrom_56 (by decide) (fun c19 => ?_) (fun c19 => ?_)
          · replace hq := hq.2 c19
            refine lv_iconst (v := 0) hx hb dX7_readFrom_63 (by decide) ?_
            exact lt_X7_readFrom_64  C hr hlk hn h0 hk11 hq hw (lv_sub hl [0, 1, 2] rfl)
          · replace hq := hq.1 c19
            refine lv_iconst (v := 1) hx hb dX7_readFrom_59 (by decide) ?_
            refine lv_goto (tgt := 64) hx hb dX7_readFrom_60 (by decide) ?_
            exact lt_X7_readFrom_64  C hr hlk hn h0 hk11 hq hw (lv_sub hl [0, 1, 2] rfl)
      · replace hq := hq.1 c17
        exact lt_X7_readFrom_30  C hr hlk hn h0  hq hw (lv_sub hl [0, 1] rfl)
set_option maxHeartbeats 4000000 in
set_option maxRecDepth 100000 in
theorem ct_X7_readFrom {l : Launch} {g : Gh} {M0 : Mem} {a0 : Nat} {a1 : Nat} {post : Int32 → Mem → Prop}  (hq : wp_X7_readFrom  g M0 a0 a1 post) : Ct l g yX7_readFrom cX7_readFrom 4 (some .boolean) 9 0 0 [.ref a0, .ref a1] M0 (pI post) := by
  unfold wp_X7_readFrom at hq
  obtain ⟨h0, hq⟩ := hq
  refine Ct.of (by decide) (Nat.le_of_ble_eq_true rfl) ?_
  intro p e s m below meth c ls C hr hlk hn hl hw
  have hx := C.1.1
  have hb := C.1.2.1
  have hl : lv_has ls 4 [(0, .ref a0), (1, .ref a1)] := hl
  refine lv_aload_n hx hb dX7_readFrom_0 rfl (lv_at hl 0 rfl) ?_
  refine lv_iconst (v := 0) hx hb dX7_readFrom_1 (by decide) ?_
  refine pfX7_13 C hw hw.2.2.1 h0 dX7_readFrom_2 (fun H locs hw => ?_)
  generalize e21 : uI M0 a0 1 0 = M20 at hw
  replace hq := hq M20 e21.symm
  refine lv_aload_n hx hb dX7_readFrom_5 rfl (lv_at hl 1 rfl) ?_
  refine r_callV (T := TX10) (N := 6) (ci := 10) (index := 33) (n := 0) (d2 := 0) (mc := 0) (ms := 0) (As := []) (rest := []) C hw (ct_X10_rewind hq) kvX7_33 hq.1 (by decide) rfl ⟨by decide, by decide⟩ ⟨by decide, by decide⟩ rfl hl.1 rfl (Nat.le_of_ble_eq_true rfl) dX7_readFrom_6 (fun r M23 H locs hp hle hw => ?_)
  obtain ⟨rfl, hq⟩ := hp
  refine W.eq (g2 := F0 m 9 ls []) rfl ?_
  refine lv_iconst (v := 0) hx hb dX7_readFrom_9 (by decide) ?_
  refine lv_istore_n (lv' := [(2, .int 0), (0, .ref a0), (1, .ref a1)]) hx hb dX7_readFrom_10 rfl hl (by decide) rfl (fun ls hl => ?_)
  obtain ⟨nf, hq⟩ := hq
  exact lp_X7_readFrom_11  C hr hlk hn h0  nf _ _ _ _ _ hq hw (lv_sub hl [1, 2, 0] rfl)

set_option maxRecDepth 100000 in
def wp_X7_openFrame  (g : Gh) (M0 : Mem) (a0 : Nat) (post : Mem → Prop) : Prop :=
  okc (gB g) M0 a0 7 ∧ (∃ q1, mR M0 a0 2 = some q1 ∧ (okc (gB g) M0 q1 19 ∧ ((((nI (mN M0 q1)) ≤ ((mI M0 a0 3) + 1)) → post M0) ∧ (¬ ((nI (mN M0 q1)) ≤ ((mI M0 a0 3) + 1)) → ∀ M5, M5 = uI M0 a0 3 ((mI M0 a0 3) + 1) → (vp_in (mI M5 a0 3) (mN M0 q1) ∧ (∃ q8, mR M5 q1 (Int32.toNatClampNeg (mI M5 a0 3)) = some q8 ∧ (wp_X3_restart g M5 q8 (fun M11 => post M11))))))))
set_option maxHeartbeats 4000000 in
set_option maxRecDepth 100000 in
theorem ct_X7_openFrame {l : Launch} {g : Gh} {M0 : Mem} {a0 : Nat} {post : Mem → Prop}  (hq : wp_X7_openFrame  g M0 a0 post) : Ct l g yX7_openFrame cX7_openFrame 1 none 2 0 0 [.ref a0] M0 (pV post) := by
  unfold wp_X7_openFrame at hq
  obtain ⟨h0, hq⟩ := hq
  refine Ct.of (by decide) (Nat.le_of_ble_eq_true rfl) ?_
  intro p e s m below meth c ls C hr hlk hn hl hw
  have hx := C.1.1
  have hb := C.1.2.1
  have hl : lv_has ls 1 [(0, .ref a0)] := hl
  refine lv_aload_n hx hb dX7_openFrame_0 rfl (lv_at hl 0 rfl) ?_
  refine gfX7_26 C hw hw.2.2.1 h0 dX7_openFrame_1 ?_
  refine lv_iconst (v := 1) hx hb dX7_openFrame_4 (by decide) ?_
  refine lv_iadd hx hb dX7_openFrame_5 ?_
  refine lv_aload_n hx hb dX7_openFrame_6 rfl (lv_at hl 0 rfl) ?_
  obtain ⟨q1, e2, hq⟩ := hq
  refine gfX7_21 C hw hw.2.2.1 h0 e2 dX7_openFrame_7 ?_
  obtain ⟨h3, hq⟩ := hq
  refine q_alen C hw hw.2.2.1 h3 (by decide) (by decide) rfl dX7_openFrame_10 ?_
  refine lv_icmp_ge (tgt := 36) hx hb dX7_openFrame_11 (by decide) (fun c4 => ?_) (fun c4 => ?_)
  · replace hq := hq.1 c4
    exact r_vret C hr hlk hw dX7_openFrame_36 (Nat.le_refl _) (Nat.le_refl _) ⟨rfl, hq⟩
  · replace hq := hq.2 c4
    refine lv_aload_n hx hb dX7_openFrame_14 rfl (lv_at hl 0 rfl) ?_
    refine lv_dup hx hb dX7_openFrame_15 rfl ?_
    refine gfX7_26 C hw hw.2.2.1 h0 dX7_openFrame_16 ?_
    refine lv_iconst (v := 1) hx hb dX7_openFrame_19 (by decide) ?_
    refine lv_iadd hx hb dX7_openFrame_20 ?_
    refine pfX7_26 C hw hw.2.2.1 h0 dX7_openFrame_21 (fun H locs hw => ?_)
    generalize e6 : uI M0 a0 3 ((mI M0 a0 3) + 1) = M5 at hw
    replace hq := hq M5 e6.symm
    have e2 : mR M5 a0 2 = some q1 := by rw [← e6, mR_uI]; exact e2
    refine lv_aload_n hx hb dX7_openFrame_24 rfl (lv_at hl 0 rfl) ?_
    refine gfX7_21 C hw hw.2.2.1 h0 e2 dX7_openFrame_25 ?_
    refine lv_aload_n hx hb dX7_openFrame_28 rfl (lv_at hl 0 rfl) ?_
    refine gfX7_26 C hw hw.2.2.1 h0 dX7_openFrame_29 ?_
    obtain ⟨h7, hq⟩ := hq
    obtain ⟨q8, e9, hq⟩ := hq
    refine q_aald C hw hw.2.2.1 h3 (by decide) (by decide) rfl h7 e9 dX7_openFrame_32 ?_
    refine r_callV (T := TX3) (N := 5) (ci := 3) (index := 51) (n := 0) (d2 := 1) (mc := 0) (ms := 0) (As := []) (rest := []) C hw (ct_X3_restart hq) kvX7_51 hq.1 (by decide) rfl ⟨by decide, by decide⟩ ⟨by decide, by decide⟩ rfl hl.1 rfl (Nat.le_of_ble_eq_true rfl) dX7_openFrame_33 (fun r M11 H locs hp hle hw => ?_)
    obtain ⟨rfl, hq⟩ := hp
    refine W.eq (g2 := F0 m 36 ls []) rfl ?_
    exact r_vret C hr hlk hw dX7_openFrame_36 (Nat.le_refl _) (Nat.le_refl _) ⟨rfl, hq⟩

set_option maxRecDepth 100000 in
def lb_X7_endsOf_50  (g : Gh) (M0 : Mem) (a0 : Nat) (a1 : Nat) (p2 : Int32) (p3 : Int32) (post : Int32 → Mem → Prop)    (M : Mem) : Prop :=
  okc (gB g) M0 a1 3 ∧ (∃ q2, mR M a1 1 = some q2 ∧ (okc (gB g) M0 q2 14 ∧ (vp_in p3 (mN M0 q2) ∧ (post (mI M q2 (Int32.toNatClampNeg p3)) M))))
set_option maxRecDepth 100000 in
def wp_X7_endsOf  (g : Gh) (M0 : Mem) (a0 : Nat) (a1 : Nat) (p2 : Int32) (p3 : Int32) (post : Int32 → Mem → Prop) : Prop :=
  okc (gB g) M0 a0 7 ∧ ((((mI M0 a0 1) < p3) → post 0 M0) ∧ (¬ ((mI M0 a0 1) < p3) → okc (gB g) M0 a1 3 ∧ (∃ q8, mR M0 a1 1 = some q8 ∧ (okc (gB g) M0 q8 14 ∧ (((p3 < (nI (mN M0 q8))) → ((p2 = 125) → wp_X3_endsInAnyOrder g M0 a1 p3 (fun v15 M16 => post v15 M16)) ∧ (¬ (p2 = 125) → ((p2 = 93) → vp_in p3 (mN M0 q8) ∧ (post ((mI M0 q8 (Int32.toNatClampNeg p3)) ||| (1 <<< (p3 &&& 31))) M0)) ∧ (¬ (p2 = 93) → lb_X7_endsOf_50  g M0 a0 a1 p2 p3 post   M0))) ∧ (¬ (p3 < (nI (mN M0 q8))) → post 0 M0))))))
set_option maxHeartbeats 4000000 in
set_option maxRecDepth 100000 in
theorem lt_X7_endsOf_50 {l : Launch} {g : Gh} {p : Program} {e : Env} {s : State} {m : MethodId} {args : Array Value} {below : List Frame} {meth : Method} {c : Code} {H : Heap} {locs : List Loc} {ls : Array Slot} {M0 M : Mem} {a0 : Nat} {a1 : Nat} {p2 : Int32} {p3 : Int32} {post : Int32 → Mem → Prop}    (C : Cx g p s m args c cX7_endsOf 4 RX7) (hr : meth.sig.returnType = (some .int)) (hlk : meth.locks = false) (hn : meth.name = "endsOf") (h0 : okc (gB g) M0 a0 7)  (hq : lb_X7_endsOf_50  g M0 a0 a1 p2 p3 post   M) (hw : Wd g s M0 M H locs) (hl : lv_has ls 4 [(0, .ref a0), (1, .ref a1), (2, .int p2), (3, .int p3)]) : W p l e (rmo 2 0 0) s m args below meth c H locs 0 0 (MQ below (Cq g M0 (pI post)) args s 0 0 (gA g)) (F0 m 50 ls []) := by
  have hx := C.1.1
  have hb := C.1.2.1
  unfold lb_X7_endsOf_50 at hq
  refine lv_aload_n hx hb dX7_endsOf_50 rfl (lv_at hl 1 rfl) ?_
  obtain ⟨h1, hq⟩ := hq
  obtain ⟨q2, e3, hq⟩ := hq
  refine gfX7_77 C hw hw.2.2.1 h1 e3 dX7_endsOf_51 ?_
  refine lv_iload_n hx hb dX7_endsOf_54 rfl (lv_at hl 3 rfl) ?_
  obtain ⟨h4, hq⟩ := hq
  obtain ⟨h5, hq⟩ := hq
  refine q_iald C hw hw.2.2.1 h4 h5 dX7_endsOf_55 ?_
  exact r_iret C hr hlk hw dX7_endsOf_56 (Nat.le_refl _) (Nat.le_refl _) ⟨_, rfl, hq⟩
set_option maxHeartbeats 4000000 in
set_option maxRecDepth 100000 in
theorem ct_X7_endsOf {l : Launch} {g : Gh} {M0 : Mem} {a0 : Nat} {a1 : Nat} {p2 : Int32} {p3 : Int32} {post : Int32 → Mem → Prop}  (hq : wp_X7_endsOf  g M0 a0 a1 p2 p3 post) : Ct l g yX7_endsOf cX7_endsOf 4 (some .int) 2 0 0 [.ref a0, .ref a1, .int p2, .int p3] M0 (pI post) := by
  unfold wp_X7_endsOf at hq
  obtain ⟨h0, hq⟩ := hq
  refine Ct.of (by decide) (Nat.le_of_ble_eq_true rfl) ?_
  intro p e s m below meth c ls C hr hlk hn hl hw
  have hx := C.1.1
  have hb := C.1.2.1
  have hl : lv_has ls 4 [(0, .ref a0), (1, .ref a1), (2, .int p2), (3, .int p3)] := hl
  refine lv_iload_n hx hb dX7_endsOf_0 rfl (lv_at hl 3 rfl) ?_
  refine lv_aload_n hx hb dX7_endsOf_1 rfl (lv_at hl 0 rfl) ?_
  refine gfX7_13 C hw hw.2.2.1 h0 dX7_endsOf_2 ?_
  refine lv_icmp_gt (tgt := 17) hx hb dX7_endsOf_5 (by decide) (fun c6 => ?_) (fun c6 => ?_)
  · replace hq := hq.1 c6
    refine lv_iconst (v := 0) hx hb dX7_endsOf_17 (by decide) ?_
    exact r_iret C hr hlk hw dX7_endsOf_18 (Nat.le_refl _) (Nat.le_refl _) ⟨_, rfl, hq⟩
  · replace hq := hq.2 c6
    refine lv_iload_n hx hb dX7_endsOf_8 rfl (lv_at hl 3 rfl) ?_
    refine lv_aload_n hx hb dX7_endsOf_9 rfl (lv_at hl 1 rfl) ?_
    obtain ⟨h7, hq⟩ := hq
    obtain ⟨q8, e9, hq⟩ := hq
    refine gfX7_77 C hw hw.2.2.1 h7 e9 dX7_endsOf_10 ?_
    obtain ⟨h10, hq⟩ := hq
    refine q_alen C hw hw.2.2.1 h10 (by decide) (by decide) rfl dX7_endsOf_13 ?_
    refine lv_icmp_lt (tgt := 19) hx hb dX7_endsOf_14 (by decide) (fun c11 => ?_) (fun c11 => ?_)
    · replace hq := hq.1 c11
      refine lv_iload_n hx hb dX7_endsOf_19 rfl (lv_at hl 2 rfl) ?_
      refine lv_bipush (v := 125) hx hb dX7_endsOf_20 (by decide) ?_
      refine lv_icmp_ne (tgt := 31) hx hb dX7_endsOf_22 (by decide) (fun c12 => ?_) (fun c12 => ?_)
      · replace hq := hq.2 c12
        refine lv_iload_n hx hb dX7_endsOf_31 rfl (lv_at hl 2 rfl) ?_
        refine lv_bipush (v := 93) hx hb dX7_endsOf_32 (by decide) ?_
        refine lv_icmp_ne (tgt := 50) hx hb dX7_endsOf_34 (by decide) (fun c13 => ?_) (fun c13 => ?_)
        · replace hq := hq.2 c13
          exact lt_X7_endsOf_50  C hr hlk hn h0  hq hw (lv_sub hl [0, 1, 2, 3] rfl)
        · replace hq := hq.1 c13
          refine lv_aload_n hx hb dX7_endsOf_37 rfl (lv_at hl 1 rfl) ?_
          refine gfX7_77 C hw hw.2.2.1 h7 e9 dX7_endsOf_38 ?_
          refine lv_iload_n hx hb dX7_endsOf_41 rfl (lv_at hl 3 rfl) ?_
          obtain ⟨h14, hq⟩ := hq
          refine q_iald C hw hw.2.2.1 h10 h14 dX7_endsOf_42 ?_
          refine lv_iconst (v := 1) hx hb dX7_endsOf_43 (by decide) ?_
          refine lv_iload_n hx hb dX7_endsOf_44 rfl (lv_at hl 3 rfl) ?_
          refine lv_ishl hx hb dX7_endsOf_45 ?_
          refine lv_ior hx hb dX7_endsOf_46 ?_
          refine lv_goto (tgt := 56) hx hb dX7_endsOf_47 (by decide) ?_
          exact r_iret C hr hlk hw dX7_endsOf_56 (Nat.le_refl _) (Nat.le_refl _) ⟨_, rfl, hq⟩
      · replace hq := hq.1 c12
        refine lv_aload_n hx hb dX7_endsOf_25 rfl (lv_at hl 1 rfl) ?_
        refine lv_iload_n hx hb dX7_endsOf_26 rfl (lv_at hl 3 rfl) ?_
        refine r_callV (T := TX3) (N := 5) (ci := 3) (index := 105) (n := 1) (d2 := 1) (mc := 0) (ms := 0) (As := [.int p3]) (rest := []) C hw (ct_X3_endsInAnyOrder hq) kvX7_105 hq.1 (by decide) rfl ⟨by decide, by decide⟩ ⟨by decide, by decide⟩ rfl hl.1 rfl (Nat.le_of_ble_eq_true rfl) dX7_endsOf_27 (fun r M16 H locs hp hle hw => ?_)
        obtain ⟨v15, rfl, hq⟩ := hp
        refine W.eq (g2 := F0 m 30 ls [.int v15]) rfl ?_
        exact r_iret C hr hlk hw dX7_endsOf_30 (Nat.le_refl _) (Nat.le_refl _) ⟨_, rfl, hq⟩
    · replace hq := hq.2 c11
      refine lv_iconst (v := 0) hx hb dX7_endsOf_17 (by decide) ?_
      exact r_iret C hr hlk hw dX7_endsOf_18 (Nat.le_refl _) (Nat.le_refl _) ⟨_, rfl, hq⟩

set_option maxRecDepth 100000 in
def lb_X7_closeFrame_75  (g : Gh) (M0 : Mem) (a0 : Nat) (p1 : Int32) (post : Mem → Prop)    (M : Mem) : Prop :=
  ∀ M1, M1 = uI M a0 3 ((mI M a0 3) - 1) → (∃ q3, mR M1 a0 2 = some q3 ∧ (okc (gB g) M0 q3 19 ∧ (vp_in (mI M1 a0 3) (mN M0 q3) ∧ (∃ q7, mR M1 q3 (Int32.toNatClampNeg (mI M1 a0 3)) = some q7 ∧ (∃ q9, mR M1 a0 4 = some q9 ∧ (wp_X3_stepPart g M1 q7 q9 (fun M12 => post M12)))))))
set_option maxRecDepth 100000 in
def bd_X7_closeFrame_47  (g : Gh) (M0 : Mem) (a0 : Nat) (p1 : Int32) (post : Mem → Prop)  (bk47 : Nat × Int32 × Mem → Prop) (b2 : Nat) (x3 : Int32)  (M : Mem) : Prop :=
  ∃ q13, mR M a0 4 = some q13 ∧ (okc (gB g) M0 q13 14 ∧ ((((nI (mN M0 q13)) ≤ x3) → lb_X7_closeFrame_75  g M0 a0 p1 post   M) ∧ (¬ ((nI (mN M0 q13)) ≤ x3) → wp_X7_endsOf g M a0 b2 p1 x3 (fun v17 M18 => vp_in x3 (mN M0 q13) ∧ (∀ M20, M20 = uI M18 q13 (Int32.toNatClampNeg x3) v17 → (bk47 (b2, (x3 + 1), M20)))))))
set_option maxRecDepth 100000 in
def wp_X7_closeFrame  (g : Gh) (M0 : Mem) (a0 : Nat) (p1 : Int32) (post : Mem → Prop) : Prop :=
  okc (gB g) M0 a0 7 ∧ ((((mI M0 a0 3) < 1) → post M0) ∧ (¬ ((mI M0 a0 3) < 1) → ∃ q23, mR M0 a0 2 = some q23 ∧ (okc (gB g) M0 q23 19 ∧ ((((mI M0 a0 3) < (nI (mN M0 q23))) → vp_in (mI M0 a0 3) (mN M0 q23) ∧ (∃ q28, mR M0 q23 (Int32.toNatClampNeg (mI M0 a0 3)) = some q28 ∧ (wp_X3_closeRow g M0 q28 (fun M31 => ((p1 = 125) → wp_X3_keepForm g M31 q28 (fun M34 => (∃ n : Nat, lfp (fun bk z => bd_X7_closeFrame_47  g M0 a0 p1 post  bk z.1 z.2.1 z.2.2) n (q28, 0, M34)))) ∧ (¬ (p1 = 125) → (∃ n : Nat, lfp (fun bk z => bd_X7_closeFrame_47  g M0 a0 p1 post  bk z.1 z.2.1 z.2.2) n (q28, 0, M31))))))) ∧ (¬ ((mI M0 a0 3) < (nI (mN M0 q23))) → post M0)))))
set_option maxHeartbeats 4000000 in
set_option maxRecDepth 100000 in
theorem lt_X7_closeFrame_75 {l : Launch} {g : Gh} {p : Program} {e : Env} {s : State} {m : MethodId} {args : Array Value} {below : List Frame} {meth : Method} {c : Code} {H : Heap} {locs : List Loc} {ls : Array Slot} {M0 M : Mem} {a0 : Nat} {p1 : Int32} {post : Mem → Prop}    (C : Cx g p s m args c cX7_closeFrame 4 RX7) (hr : meth.sig.returnType = none) (hlk : meth.locks = false) (hn : meth.name = "closeFrame") (h0 : okc (gB g) M0 a0 7)  (hq : lb_X7_closeFrame_75  g M0 a0 p1 post   M) (hw : Wd g s M0 M H locs) (hl : lv_has ls 4 [(0, .ref a0), (1, .int p1)]) : W p l e (rmo 3 0 0) s m args below meth c H locs 0 0 (MQ below (Cq g M0 (pV post)) args s 0 0 (gA g)) (F0 m 75 ls []) := by
  have hx := C.1.1
  have hb := C.1.2.1
  unfold lb_X7_closeFrame_75 at hq
  refine lv_aload_n hx hb dX7_closeFrame_75 rfl (lv_at hl 0 rfl) ?_
  refine lv_dup hx hb dX7_closeFrame_76 rfl ?_
  refine gfX7_26 C hw hw.2.2.1 h0 dX7_closeFrame_77 ?_
  refine lv_iconst (v := 1) hx hb dX7_closeFrame_80 (by decide) ?_
  refine lv_isub hx hb dX7_closeFrame_81 ?_
  refine pfX7_26 C hw hw.2.2.1 h0 dX7_closeFrame_82 (fun H locs hw => ?_)
  generalize e2 : uI M a0 3 ((mI M a0 3) - 1) = M1 at hw
  replace hq := hq M1 e2.symm
  refine lv_aload_n hx hb dX7_closeFrame_85 rfl (lv_at hl 0 rfl) ?_
  obtain ⟨q3, e4, hq⟩ := hq
  refine gfX7_21 C hw hw.2.2.1 h0 e4 dX7_closeFrame_86 ?_
  refine lv_aload_n hx hb dX7_closeFrame_89 rfl (lv_at hl 0 rfl) ?_
  refine gfX7_26 C hw hw.2.2.1 h0 dX7_closeFrame_90 ?_
  obtain ⟨h5, hq⟩ := hq
  obtain ⟨h6, hq⟩ := hq
  obtain ⟨q7, e8, hq⟩ := hq
  refine q_aald C hw hw.2.2.1 h5 (by decide) (by decide) rfl h6 e8 dX7_closeFrame_93 ?_
  refine lv_aload_n hx hb dX7_closeFrame_94 rfl (lv_at hl 0 rfl) ?_
  obtain ⟨q9, e10, hq⟩ := hq
  refine gfX7_29 C hw hw.2.2.1 h0 e10 dX7_closeFrame_95 ?_
  refine r_callV (T := TX3) (N := 5) (ci := 3) (index := 101) (n := 1) (d2 := 1) (mc := 0) (ms := 0) (As := [.ref q9]) (rest := []) C hw (ct_X3_stepPart hq) kvX7_101 hq.1 (by decide) rfl ⟨by decide, by decide⟩ ⟨by decide, by decide⟩ rfl hl.1 rfl (Nat.le_of_ble_eq_true rfl) dX7_closeFrame_98 (fun r M12 H locs hp hle hw => ?_)
  obtain ⟨rfl, hq⟩ := hp
  refine W.eq (g2 := F0 m 101 ls []) rfl ?_
  exact r_vret C hr hlk hw dX7_closeFrame_101 (Nat.le_refl _) (Nat.le_refl _) ⟨rfl, hq⟩
set_option maxHeartbeats 4000000 in
set_option maxRecDepth 100000 in
theorem lp_X7_closeFrame_47 {l : Launch} {g : Gh} {p : Program} {e : Env} {s : State} {m : MethodId} {args : Array Value} {below : List Frame} {meth : Method} {c : Code} {M0 : Mem} {a0 : Nat} {p1 : Int32} {post : Mem → Prop}  (C : Cx g p s m args c cX7_closeFrame 4 RX7) (hr : meth.sig.returnType = none) (hlk : meth.locks = false) (hn : meth.name = "closeFrame") (h0 : okc (gB g) M0 a0 7)  : ∀ (nf : Nat) (b2 : Nat) (x3 : Int32)  (M : Mem) (H : Heap) (locs : List Loc) (ls : Array Slot), lfp (fun bk z => bd_X7_closeFrame_47  g M0 a0 p1 post  bk z.1 z.2.1 z.2.2) nf (b2, x3, M) → Wd g s M0 M H locs → lv_has ls 4 [(0, .ref a0), (1, .int p1), (2, .ref b2), (3, .int x3)] → W p l e (rmo 3 0 0) s m args below meth c H locs 0 0 (MQ below (Cq g M0 (pV post)) args s 0 0 (gA g)) (F0 m 47 ls []) := by
  have hx := C.1.1
  have hb := C.1.2.1
  intro nf
  induction nf with
  | zero => intro _ _ _ H locs ls hq; exact hq.elim
  | succ nf hk47 =>
    intro b2 x3 M H locs ls hq hw hl
    replace hq : bd_X7_closeFrame_47  g M0 a0 p1 post  (lfp (fun bk z => bd_X7_closeFrame_47  g M0 a0 p1 post  bk z.1 z.2.1 z.2.2) nf) b2 x3 M := hq
    unfold bd_X7_closeFrame_47 at hq
    refine lv_iload_n hx hb dX7_closeFrame_47 rfl (lv_at hl 3 rfl) ?_
    refine lv_aload_n hx hb dX7_closeFrame_48 rfl (lv_at hl 0 rfl) ?_
    obtain ⟨q13, e14, hq⟩ := hq
    refine gfX7_29 C hw hw.2.2.1 h0 e14 dX7_closeFrame_49 ?_
    obtain ⟨h15, hq⟩ := hq
    refine q_alen C hw hw.2.2.1 h15 (by decide) (by decide) rfl dX7_closeFrame_52 ?_
    refine lv_icmp_ge (tgt := 75) hx hb dX7_closeFrame_53 (by decide) (fun c16 => ?_) (fun c16 => ?_)
    · replace hq := hq.1 c16
      exact lt_X7_closeFrame_75  C hr hlk hn h0  hq hw (lv_sub hl [0, 1] rfl)
    · replace hq := hq.2 c16
      refine lv_aload_n hx hb dX7_closeFrame_56 rfl (lv_at hl 0 rfl) ?_
      refine gfX7_29 C hw hw.2.2.1 h0 e14 dX7_closeFrame_57 ?_
      refine lv_iload_n hx hb dX7_closeFrame_60 rfl (lv_at hl 3 rfl) ?_
      refine lv_aload_n hx hb dX7_closeFrame_61 rfl (lv_at hl 0 rfl) ?_
      refine lv_aload_n hx hb dX7_closeFrame_62 rfl (lv_at hl 2 rfl) ?_
      refine lv_iload_n hx hb dX7_closeFrame_63 rfl (lv_at hl 1 rfl) ?_
      refine lv_iload_n hx hb dX7_closeFrame_64 rfl (lv_at hl 3 rfl) ?_
      refine r_callV (T := TX7) (N := 5) (ci := 7) (index := 97) (n := 3) (d2 := 2) (mc := 0) (ms := 0) (As := [.ref b2, .int p1, .int x3]) (rest := [.int x3, .ref q13]) C hw (ct_X7_endsOf hq) kvX7_97 hq.1 (by decide) rfl ⟨by decide, by decide⟩ ⟨by decide, by decide⟩ rfl hl.1 rfl (Nat.le_of_ble_eq_true rfl) dX7_closeFrame_65 (fun r M18 H locs hp hle hw => ?_)
      obtain ⟨v17, rfl, hq⟩ := hp
      refine W.eq (g2 := F0 m 68 ls [.int v17, .int x3, .ref q13]) rfl ?_
      obtain ⟨h19, hq⟩ := hq
      refine q_iast C hw hw.2.2.1 h15 h19 dX7_closeFrame_68 (fun H locs hw => ?_)
      generalize e21 : uI M18 q13 (Int32.toNatClampNeg x3) v17 = M20 at hw
      replace hq := hq M20 e21.symm
      refine lv_iinc (v := (x3 + 1)) (lv' := [(3, .int (x3 + 1)), (0, .ref a0), (1, .int p1), (2, .ref b2)]) hx hb dX7_closeFrame_69 hl (k := 3) rfl rfl (by decide) rfl (fun ls hl => ?_)
      refine lv_goto (tgt := 47) hx hb dX7_closeFrame_72 (by decide) ?_
      exact hk47 _ _ _ _ _ _ hq hw (lv_sub hl [1, 2, 3, 0] rfl)
set_option maxHeartbeats 4000000 in
set_option maxRecDepth 100000 in
theorem ct_X7_closeFrame {l : Launch} {g : Gh} {M0 : Mem} {a0 : Nat} {p1 : Int32} {post : Mem → Prop}  (hq : wp_X7_closeFrame  g M0 a0 p1 post) : Ct l g yX7_closeFrame cX7_closeFrame 4 none 3 0 0 [.ref a0, .int p1] M0 (pV post) := by
  unfold wp_X7_closeFrame at hq
  obtain ⟨h0, hq⟩ := hq
  refine Ct.of (by decide) (Nat.le_of_ble_eq_true rfl) ?_
  intro p e s m below meth c ls C hr hlk hn hl hw
  have hx := C.1.1
  have hb := C.1.2.1
  have hl : lv_has ls 4 [(0, .ref a0), (1, .int p1)] := hl
  refine lv_aload_n hx hb dX7_closeFrame_0 rfl (lv_at hl 0 rfl) ?_
  refine gfX7_26 C hw hw.2.2.1 h0 dX7_closeFrame_1 ?_
  refine lv_iconst (v := 1) hx hb dX7_closeFrame_4 (by decide) ?_
  refine lv_icmp_lt (tgt := 20) hx hb dX7_closeFrame_5 (by decide) (fun c22 => ?_) (fun c22 => ?_)
  · replace hq := hq.1 c22
    exact r_vret C hr hlk hw dX7_closeFrame_20 (Nat.le_refl _) (Nat.le_refl _) ⟨rfl, hq⟩
  · replace hq := hq.2 c22
    refine lv_aload_n hx hb dX7_closeFrame_8 rfl (lv_at hl 0 rfl) ?_
    refine gfX7_26 C hw hw.2.2.1 h0 dX7_closeFrame_9 ?_
    refine lv_aload_n hx hb dX7_closeFrame_12 rfl (lv_at hl 0 rfl) ?_
    obtain ⟨q23, e24, hq⟩ := hq
    refine gfX7_21 C hw hw.2.2.1 h0 e24 dX7_closeFrame_13 ?_
    obtain ⟨h25, hq⟩ := hq
    refine q_alen C hw hw.2.2.1 h25 (by decide) (by decide) rfl dX7_closeFrame_16 ?_
    refine lv_icmp_lt (tgt := 21) hx hb dX7_closeFrame_17 (by decide) (fun c26 => ?_) (fun c26 => ?_)
    · replace hq := hq.1 c26
      refine lv_aload_n hx hb dX7_closeFrame_21 rfl (lv_at hl 0 rfl) ?_
      refine gfX7_21 C hw hw.2.2.1 h0 e24 dX7_closeFrame_22 ?_
      refine lv_aload_n hx hb dX7_closeFrame_25 rfl (lv_at hl 0 rfl) ?_
      refine gfX7_26 C hw hw.2.2.1 h0 dX7_closeFrame_26 ?_
      obtain ⟨h27, hq⟩ := hq
      obtain ⟨q28, e29, hq⟩ := hq
      refine q_aald C hw hw.2.2.1 h25 (by decide) (by decide) rfl h27 e29 dX7_closeFrame_29 ?_
      refine lv_astore_n (lv' := [(2, .ref q28), (0, .ref a0), (1, .int p1)]) hx hb dX7_closeFrame_30 rfl hl (by decide) rfl (fun ls hl => ?_)
      refine lv_aload_n hx hb dX7_closeFrame_31 rfl (lv_at hl 0 rfl) ?_
      refine r_callV (T := TX3) (N := 5) (ci := 3) (index := 74) (n := 0) (d2 := 0) (mc := 0) (ms := 0) (As := []) (rest := []) C hw (ct_X3_closeRow hq) kvX7_74 hq.1 (by decide) rfl ⟨by decide, by decide⟩ ⟨by decide, by decide⟩ rfl hl.1 rfl (Nat.le_of_ble_eq_true rfl) dX7_closeFrame_32 (fun r M31 H locs hp hle hw => ?_)
      obtain ⟨rfl, hq⟩ := hp
      refine W.eq (g2 := F0 m 35 ls []) rfl ?_
      refine lv_iload_n hx hb dX7_closeFrame_35 rfl (lv_at hl 2 rfl) ?_
      refine lv_bipush (v := 125) hx hb dX7_closeFrame_36 (by decide) ?_
      refine lv_icmp_ne (tgt := 45) hx hb dX7_closeFrame_38 (by decide) (fun c32 => ?_) (fun c32 => ?_)
      · replace hq := hq.2 c32
        refine lv_iconst (v := 0) hx hb dX7_closeFrame_45 (by decide) ?_
        refine lv_istore_n (lv' := [(3, .int 0), (2, .ref q28), (0, .ref a0), (1, .int p1)]) hx hb dX7_closeFrame_46 rfl hl (by decide) rfl (fun ls hl => ?_)
        obtain ⟨nf, hq⟩ := hq
        exact lp_X7_closeFrame_47  C hr hlk hn h0  nf _ _ _ _ _ _ hq hw (lv_sub hl [2, 3, 1, 0] rfl)
      · replace hq := hq.1 c32
        refine lv_aload_n hx hb dX7_closeFrame_41 rfl (lv_at hl 0 rfl) ?_
        refine r_callV (T := TX3) (N := 5) (ci := 3) (index := 83) (n := 0) (d2 := 1) (mc := 0) (ms := 0) (As := []) (rest := []) C hw (ct_X3_keepForm hq) kvX7_83 hq.1 (by decide) rfl ⟨by decide, by decide⟩ ⟨by decide, by decide⟩ rfl hl.1 rfl (Nat.le_of_ble_eq_true rfl) dX7_closeFrame_42 (fun r M34 H locs hp hle hw => ?_)
        obtain ⟨rfl, hq⟩ := hp
        refine W.eq (g2 := F0 m 45 ls []) rfl ?_
        refine lv_iconst (v := 0) hx hb dX7_closeFrame_45 (by decide) ?_
        refine lv_istore_n (lv' := [(3, .int 0), (2, .ref q28), (0, .ref a0), (1, .int p1)]) hx hb dX7_closeFrame_46 rfl hl (by decide) rfl (fun ls hl => ?_)
        obtain ⟨nf, hq⟩ := hq
        exact lp_X7_closeFrame_47  C hr hlk hn h0  nf _ _ _ _ _ _ hq hw (lv_sub hl [2, 3, 1, 0] rfl)
    · replace hq := hq.2 c26
      exact r_vret C hr hlk hw dX7_closeFrame_20 (Nat.le_refl _) (Nat.le_refl _) ⟨rfl, hq⟩

set_option maxRecDepth 100000 in
def bd_X7_placesFrom_6  (g : Gh) (M0 : Mem) (a0 : Nat) (p1 : Int64) (p3 : Int64) (post : Int32 → Mem → Prop)  (bk6 : Int32 × Int32 × Mem → Prop) (x5 : Int32) (x6 : Int32)  (M : Mem) : Prop :=
  (((mI M a0 1) ≤ x6) → post x5 M) ∧ (¬ ((mI M a0 1) ≤ x6) → ∃ q2, mR M a0 0 = some q2 ∧ (okc (gB g) M0 q2 15 ∧ (vp_in x6 (mN M0 q2) ∧ (((0 < (lg_cmp p1 (mJ M q2 (Int32.toNatClampNeg x6)))) → bk6 (x5, (x6 + 1), M)) ∧ (¬ (0 < (lg_cmp p1 (mJ M q2 (Int32.toNatClampNeg x6)))) → ((0 < (lg_cmp (mJ M q2 (Int32.toNatClampNeg x6)) p3)) → bk6 (x5, (x6 + 1), M)) ∧ (¬ (0 < (lg_cmp (mJ M q2 (Int32.toNatClampNeg x6)) p3)) → bk6 ((x5 ||| (1 <<< (x6 &&& 31))), (x6 + 1), M)))))))
set_option maxRecDepth 100000 in
def wp_X7_placesFrom  (g : Gh) (M0 : Mem) (a0 : Nat) (p1 : Int64) (p3 : Int64) (post : Int32 → Mem → Prop) : Prop :=
  okc (gB g) M0 a0 7 ∧ ((∃ n : Nat, lfp (fun bk z => bd_X7_placesFrom_6  g M0 a0 p1 p3 post  bk z.1 z.2.1 z.2.2) n (0, 0, M0)))
set_option maxHeartbeats 4000000 in
set_option maxRecDepth 100000 in
theorem lp_X7_placesFrom_6 {l : Launch} {g : Gh} {p : Program} {e : Env} {s : State} {m : MethodId} {args : Array Value} {below : List Frame} {meth : Method} {c : Code} {M0 : Mem} {a0 : Nat} {p1 : Int64} {p3 : Int64} {post : Int32 → Mem → Prop}  (C : Cx g p s m args c cX7_placesFrom 7 RX7) (hr : meth.sig.returnType = (some .int)) (hlk : meth.locks = false) (hn : meth.name = "placesFrom") (h0 : okc (gB g) M0 a0 7)  : ∀ (nf : Nat) (x5 : Int32) (x6 : Int32)  (M : Mem) (H : Heap) (locs : List Loc) (ls : Array Slot), lfp (fun bk z => bd_X7_placesFrom_6  g M0 a0 p1 p3 post  bk z.1 z.2.1 z.2.2) nf (x5, x6, M) → Wd g s M0 M H locs → lv_has ls 7 [(0, .ref a0), (1, .long p1), (3, .long p3), (5, .int x5), (6, .int x6)] → W p l e (rmo 0 0 0) s m args below meth c H locs 0 0 (MQ below (Cq g M0 (pI post)) args s 0 0 (gA g)) (F0 m 6 ls []) := by
  have hx := C.1.1
  have hb := C.1.2.1
  intro nf
  induction nf with
  | zero => intro _ _ _ H locs ls hq; exact hq.elim
  | succ nf hk6 =>
    intro x5 x6 M H locs ls hq hw hl
    replace hq : bd_X7_placesFrom_6  g M0 a0 p1 p3 post  (lfp (fun bk z => bd_X7_placesFrom_6  g M0 a0 p1 p3 post  bk z.1 z.2.1 z.2.2) nf) x5 x6 M := hq
    unfold bd_X7_placesFrom_6 at hq
    refine lv_iload hx hb dX7_placesFrom_6 (lv_at hl 4 rfl) ?_
    refine lv_aload_n hx hb dX7_placesFrom_8 rfl (lv_at hl 0 rfl) ?_
    refine gfX7_13 C hw hw.2.2.1 h0 dX7_placesFrom_9 ?_
    refine lv_icmp_ge (tgt := 54) hx hb dX7_placesFrom_12 (by decide) (fun c1 => ?_) (fun c1 => ?_)
    · replace hq := hq.1 c1
      refine lv_iload hx hb dX7_placesFrom_54 (lv_at hl 3 rfl) ?_
      exact r_iret C hr hlk hw dX7_placesFrom_56 (Nat.le_refl _) (Nat.le_refl _) ⟨_, rfl, hq⟩
    · replace hq := hq.2 c1
      refine lv_lload_n hx hb dX7_placesFrom_15 rfl (lv_at hl 1 rfl) ?_
      refine lv_aload_n hx hb dX7_placesFrom_16 rfl (lv_at hl 0 rfl) ?_
      obtain ⟨q2, e3, hq⟩ := hq
      refine gfX7_9 C hw hw.2.2.1 h0 e3 dX7_placesFrom_17 ?_
      refine lv_iload hx hb dX7_placesFrom_20 (lv_at hl 4 rfl) ?_
      obtain ⟨h4, hq⟩ := hq
      obtain ⟨h5, hq⟩ := hq
      refine q_lald C hw hw.2.2.1 h4 h5 dX7_placesFrom_22 ?_
      refine W.lcmp hx hb dX7_placesFrom_23 ?_
      refine lv_if_gt (tgt := 48) hx hb dX7_placesFrom_24 (by decide) (fun c6 => ?_) (fun c6 => ?_)
      · replace hq := hq.1 c6
        refine lv_iinc (v := (x6 + 1)) (lv' := [(6, .int (x6 + 1)), (0, .ref a0), (1, .long p1), (3, .long p3), (5, .int x5)]) hx hb dX7_placesFrom_48 hl (k := 4) rfl rfl (by decide) rfl (fun ls hl => ?_)
        refine lv_goto (tgt := 6) hx hb dX7_placesFrom_51 (by decide) ?_
        exact hk6 _ _ _ _ _ _ hq hw (lv_sub hl [1, 2, 3, 4, 0] rfl)
      · replace hq := hq.2 c6
        refine lv_aload_n hx hb dX7_placesFrom_27 rfl (lv_at hl 0 rfl) ?_
        refine gfX7_9 C hw hw.2.2.1 h0 e3 dX7_placesFrom_28 ?_
        refine lv_iload hx hb dX7_placesFrom_31 (lv_at hl 4 rfl) ?_
        refine q_lald C hw hw.2.2.1 h4 h5 dX7_placesFrom_33 ?_
        refine lv_lload_n hx hb dX7_placesFrom_34 rfl (lv_at hl 2 rfl) ?_
        refine W.lcmp hx hb dX7_placesFrom_35 ?_
        refine lv_if_gt (tgt := 48) hx hb dX7_placesFrom_36 (by decide) (fun c7 => ?_) (fun c7 => ?_)
        · replace hq := hq.1 c7
          refine lv_iinc (v := (x6 + 1)) (lv' := [(6, .int (x6 + 1)), (0, .ref a0), (1, .long p1), (3, .long p3), (5, .int x5)]) hx hb dX7_placesFrom_48 hl (k := 4) rfl rfl (by decide) rfl (fun ls hl => ?_)
          refine lv_goto (tgt := 6) hx hb dX7_placesFrom_51 (by decide) ?_
          exact hk6 _ _ _ _ _ _ hq hw (lv_sub hl [1, 2, 3, 4, 0] rfl)
        · replace hq := hq.2 c7
          refine lv_iload hx hb dX7_placesFrom_39 (lv_at hl 3 rfl) ?_
          refine lv_iconst (v := 1) hx hb dX7_placesFrom_41 (by decide) ?_
          refine lv_iload hx hb dX7_placesFrom_42 (lv_at hl 4 rfl) ?_
          refine lv_ishl hx hb dX7_placesFrom_44 ?_
          refine lv_ior hx hb dX7_placesFrom_45 ?_
          refine lv_istore (lv' := [(5, .int (x5 ||| (1 <<< (x6 &&& 31)))), (0, .ref a0), (1, .long p1), (3, .long p3), (6, .int x6)]) hx hb dX7_placesFrom_46 hl (by decide) rfl (fun ls hl => ?_)
          refine lv_iinc (v := (x6 + 1)) (lv' := [(6, .int (x6 + 1)), (5, .int (x5 ||| (1 <<< (x6 &&& 31)))), (0, .ref a0), (1, .long p1), (3, .long p3)]) hx hb dX7_placesFrom_48 hl (k := 4) rfl rfl (by decide) rfl (fun ls hl => ?_)
          refine lv_goto (tgt := 6) hx hb dX7_placesFrom_51 (by decide) ?_
          exact hk6 _ _ _ _ _ _ hq hw (lv_sub hl [2, 3, 4, 1, 0] rfl)
set_option maxHeartbeats 4000000 in
set_option maxRecDepth 100000 in
theorem ct_X7_placesFrom {l : Launch} {g : Gh} {M0 : Mem} {a0 : Nat} {p1 : Int64} {p3 : Int64} {post : Int32 → Mem → Prop}  (hq : wp_X7_placesFrom  g M0 a0 p1 p3 post) : Ct l g yX7_placesFrom cX7_placesFrom 7 (some .int) 0 0 0 [.ref a0, .long p1, .long p3] M0 (pI post) := by
  unfold wp_X7_placesFrom at hq
  obtain ⟨h0, hq⟩ := hq
  refine Ct.of (by decide) (Nat.le_of_ble_eq_true rfl) ?_
  intro p e s m below meth c ls C hr hlk hn hl hw
  have hx := C.1.1
  have hb := C.1.2.1
  have hl : lv_has ls 7 [(0, .ref a0), (1, .long p1), (3, .long p3)] := hl
  refine lv_iconst (v := 0) hx hb dX7_placesFrom_0 (by decide) ?_
  refine lv_istore (lv' := [(5, .int 0), (0, .ref a0), (1, .long p1), (3, .long p3)]) hx hb dX7_placesFrom_1 hl (by decide) rfl (fun ls hl => ?_)
  refine lv_iconst (v := 0) hx hb dX7_placesFrom_3 (by decide) ?_
  refine lv_istore (lv' := [(6, .int 0), (5, .int 0), (0, .ref a0), (1, .long p1), (3, .long p3)]) hx hb dX7_placesFrom_4 hl (by decide) rfl (fun ls hl => ?_)
  obtain ⟨nf, hq⟩ := hq
  exact lp_X7_placesFrom_6  C hr hlk hn h0  nf _ _ _ _ _ _ hq hw (lv_sub hl [2, 3, 4, 1, 0] rfl)
