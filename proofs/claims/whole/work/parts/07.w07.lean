set_option maxRecDepth 100000 in
def lb_X4_readFrom_86  (g : Gh) (M0 : Mem) (a0 : Nat) (a1 : Nat) (post : Mem → Prop)    (M : Mem) : Prop :=
  okc (gB g) M0 a1 10 ∧ (∀ M2, M2 = uI M a0 8 (mI M a1 3) → (post M2))
set_option maxRecDepth 100000 in
def lb_X4_readFrom_79  (g : Gh) (M0 : Mem) (a0 : Nat) (a1 : Nat) (post : Mem → Prop) (bk32 : Int32 × Mem → Prop) (x2 : Int32)  (M : Mem) : Prop :=
  (((mI M a0 7) = 0) → bk32 ((x2 + 1), M)) ∧ (¬ ((mI M a0 7) = 0) → lb_X4_readFrom_86  g M0 a0 a1 post   M)
set_option maxRecDepth 100000 in
def lb_X4_readFrom_50  (g : Gh) (M0 : Mem) (a0 : Nat) (a1 : Nat) (post : Mem → Prop) (bk32 : Int32 × Mem → Prop) (x2 : Int32)  (M : Mem) : Prop :=
  wp_X4_faultOfHead g M a0 a1 (fun v5 M6 => ∀ M7, M7 = uI M6 a0 7 v5 → ((((mI M7 a0 7) = 0) → wp_X4_faultOfPoints g M7 a0 a1 (mI M7 a0 0) (fun v10 M11 => ∀ M12, M12 = uI M11 a0 7 v10 → (lb_X4_readFrom_79  g M0 a0 a1 post bk32 x2 M12))) ∧ (¬ ((mI M7 a0 7) = 0) → lb_X4_readFrom_79  g M0 a0 a1 post bk32 x2 M7)))
set_option maxRecDepth 100000 in
def bd_X4_readFrom_32  (g : Gh) (M0 : Mem) (a0 : Nat) (a1 : Nat) (post : Mem → Prop)  (bk32 : Int32 × Mem → Prop) (x2 : Int32)  (M : Mem) : Prop :=
  ((6 < x2) → post M) ∧ (¬ (6 < x2) → ((x2 ≤ 0) → lb_X4_readFrom_50  g M0 a0 a1 post bk32 x2 M) ∧ (¬ (x2 ≤ 0) → okc (gB g) M0 a1 10 ∧ ((((mI M a1 2) = 0) → post M) ∧ (¬ ((mI M a1 2) = 0) → lb_X4_readFrom_50  g M0 a0 a1 post bk32 x2 M))))
set_option maxRecDepth 100000 in
def wp_X4_readFrom  (g : Gh) (M0 : Mem) (a0 : Nat) (a1 : Nat) (post : Mem → Prop) : Prop :=
  okc (gB g) M0 a0 4 ∧ (∀ M18, M18 = uI M0 a0 0 0 → (∀ M20, M20 = uI M18 a0 1 0 → (∀ M22, M22 = uI M20 a0 7 0 → (∀ M24, M24 = uI M22 a0 8 0 → (wp_X10_rewind g M24 a1 (fun M27 => wp_X10_readNext g M27 a1 (gK g 2) (fun M29 => (∃ n : Nat, lfp (fun bk z => bd_X4_readFrom_32  g M0 a0 a1 post  bk z.1 z.2) n (0, M29)))))))))
set_option maxHeartbeats 4000000 in
set_option maxRecDepth 100000 in
theorem lt_X4_readFrom_86 {l : Launch} {g : Gh} {p : Program} {e : Env} {s : State} {m : MethodId} {args : Array Value} {below : List Frame} {meth : Method} {c : Code} {H : Heap} {locs : List Loc} {ls : Array Slot} {M0 M : Mem} {a0 : Nat} {a1 : Nat} {post : Mem → Prop}    (C : Cx g p s m args c cX4_readFrom 3 RX4) (hr : meth.sig.returnType = none) (hlk : meth.locks = false) (hn : meth.name = "readFrom") (h0 : okc (gB g) M0 a0 4)  (hq : lb_X4_readFrom_86  g M0 a0 a1 post   M) (hw : Wd g s M0 M H locs) (hl : lv_has ls 3 [(0, .ref a0), (1, .ref a1)]) : W p l e (rmo 11 0 0) s m args below meth c H locs 0 0 (MQ below (Cq g M0 (pV post)) args s 0 0 (gA g)) (F0 m 86 ls []) := by
  have hx := C.1.1
  have hb := C.1.2.1
  unfold lb_X4_readFrom_86 at hq
  refine lv_aload_n hx hb dX4_readFrom_86 rfl (lv_at hl 0 rfl) ?_
  refine lv_aload_n hx hb dX4_readFrom_87 rfl (lv_at hl 1 rfl) ?_
  obtain ⟨h1, hq⟩ := hq
  refine gfX4_63 C hw hw.2.2.1 h1 dX4_readFrom_88 ?_
  refine pfX4_38 C hw hw.2.2.1 h0 dX4_readFrom_91 (fun H locs hw => ?_)
  generalize e3 : uI M a0 8 (mI M a1 3) = M2 at hw
  replace hq := hq M2 e3.symm
  exact r_vret C hr hlk hw dX4_readFrom_94 (Nat.le_refl _) (Nat.le_refl _) ⟨rfl, hq⟩
set_option maxHeartbeats 4000000 in
set_option maxRecDepth 100000 in
theorem lt_X4_readFrom_79 {l : Launch} {g : Gh} {p : Program} {e : Env} {s : State} {m : MethodId} {args : Array Value} {below : List Frame} {meth : Method} {c : Code} {H : Heap} {locs : List Loc} {ls : Array Slot} {M0 M : Mem} {a0 : Nat} {a1 : Nat} {post : Mem → Prop} {x2 : Int32}   (C : Cx g p s m args c cX4_readFrom 3 RX4) (hr : meth.sig.returnType = none) (hlk : meth.locks = false) (hn : meth.name = "readFrom") (h0 : okc (gB g) M0 a0 4) {bk32 : Int32 × Mem → Prop} (hk32 : ∀ (x2 : Int32) (M : Mem) (H : Heap) (locs : List Loc) (ls : Array Slot), bk32 (x2, M) → Wd g s M0 M H locs → lv_has ls 3 [(0, .ref a0), (1, .ref a1), (2, .int x2)] → W p l e (rmo 11 0 0) s m args below meth c H locs 0 0 (MQ below (Cq g M0 (pV post)) args s 0 0 (gA g)) (F0 m 32 ls [])) (hq : lb_X4_readFrom_79  g M0 a0 a1 post bk32 x2 M) (hw : Wd g s M0 M H locs) (hl : lv_has ls 3 [(0, .ref a0), (1, .ref a1), (2, .int x2)]) : W p l e (rmo 11 0 0) s m args below meth c H locs 0 0 (MQ below (Cq g M0 (pV post)) args s 0 0 (gA g)) (F0 m 79 ls []) := by
  have hx := C.1.1
  have hb := C.1.2.1
  unfold lb_X4_readFrom_79 at hq
  refine lv_aload_n hx hb dX4_readFrom_79 rfl (lv_at hl 0 rfl) ?_
  refine gfX4_35 C hw hw.2.2.1 h0 dX4_readFrom_80 ?_
  refine lv_if_eq (tgt := 95) hx hb dX4_readFrom_83 (by decide) (fun c4 => ?_) (fun c4 => ?_)
  · replace hq := hq.1 c4
    refine lv_iinc (v := (x2 + 1)) (lv' := [(2, .int (x2 + 1)), (0, .ref a0), (1, .ref a1)]) hx hb dX4_readFrom_95 hl (k := 2) rfl rfl (by decide) rfl (fun ls hl => ?_)
    refine lv_goto (tgt := 32) hx hb dX4_readFrom_98 (by decide) ?_
    exact hk32 _ _ _ _ _ hq hw (lv_sub hl [1, 2, 0] rfl)
  · replace hq := hq.2 c4
    exact lt_X4_readFrom_86  C hr hlk hn h0  hq hw (lv_sub hl [0, 1] rfl)
set_option maxHeartbeats 4000000 in
set_option maxRecDepth 100000 in
theorem lt_X4_readFrom_50 {l : Launch} {g : Gh} {p : Program} {e : Env} {s : State} {m : MethodId} {args : Array Value} {below : List Frame} {meth : Method} {c : Code} {H : Heap} {locs : List Loc} {ls : Array Slot} {M0 M : Mem} {a0 : Nat} {a1 : Nat} {post : Mem → Prop} {x2 : Int32}   (C : Cx g p s m args c cX4_readFrom 3 RX4) (hr : meth.sig.returnType = none) (hlk : meth.locks = false) (hn : meth.name = "readFrom") (h0 : okc (gB g) M0 a0 4) {bk32 : Int32 × Mem → Prop} (hk32 : ∀ (x2 : Int32) (M : Mem) (H : Heap) (locs : List Loc) (ls : Array Slot), bk32 (x2, M) → Wd g s M0 M H locs → lv_has ls 3 [(0, .ref a0), (1, .ref a1), (2, .int x2)] → W p l e (rmo 11 0 0) s m args below meth c H locs 0 0 (MQ below (Cq g M0 (pV post)) args s 0 0 (gA g)) (F0 m 32 ls [])) (hq : lb_X4_readFrom_50  g M0 a0 a1 post bk32 x2 M) (hw : Wd g s M0 M H locs) (hl : lv_has ls 3 [(0, .ref a0), (1, .ref a1), (2, .int x2)]) : W p l e (rmo 11 0 0) s m args below meth c H locs 0 0 (MQ below (Cq g M0 (pV post)) args s 0 0 (gA g)) (F0 m 50 ls []) := by
  have hx := C.1.1
  have hb := C.1.2.1
  unfold lb_X4_readFrom_50 at hq
  refine lv_aload_n hx hb dX4_readFrom_50 rfl (lv_at hl 0 rfl) ?_
  refine lv_aload_n hx hb dX4_readFrom_51 rfl (lv_at hl 0 rfl) ?_
  refine lv_aload_n hx hb dX4_readFrom_52 rfl (lv_at hl 1 rfl) ?_
  refine r_callV (T := TX4) (N := 9) (ci := 4) (index := 55) (n := 1) (d2 := 9) (mc := 0) (ms := 0) (As := [.ref a1]) (rest := [.ref a0]) C hw (ct_X4_faultOfHead hq) kvX4_55 hq.1 (by decide) rfl ⟨by decide, by decide⟩ ⟨by decide, by decide⟩ rfl hl.1 rfl (Nat.le_of_ble_eq_true rfl) dX4_readFrom_53 (fun r M6 H locs hp hle hw => ?_)
  obtain ⟨v5, rfl, hq⟩ := hp
  refine W.eq (g2 := F0 m 56 ls [.int v5, .ref a0]) rfl ?_
  refine pfX4_35 C hw hw.2.2.1 h0 dX4_readFrom_56 (fun H locs hw => ?_)
  generalize e8 : uI M6 a0 7 v5 = M7 at hw
  replace hq := hq M7 e8.symm
  refine lv_aload_n hx hb dX4_readFrom_59 rfl (lv_at hl 0 rfl) ?_
  refine gfX4_35 C hw hw.2.2.1 h0 dX4_readFrom_60 ?_
  refine lv_if_ne (tgt := 79) hx hb dX4_readFrom_63 (by decide) (fun c9 => ?_) (fun c9 => ?_)
  · replace hq := hq.2 c9
    exact lt_X4_readFrom_79  C hr hlk hn h0 hk32 hq hw (lv_sub hl [0, 1, 2] rfl)
  · replace hq := hq.1 c9
    refine lv_aload_n hx hb dX4_readFrom_66 rfl (lv_at hl 0 rfl) ?_
    refine lv_aload_n hx hb dX4_readFrom_67 rfl (lv_at hl 0 rfl) ?_
    refine lv_aload_n hx hb dX4_readFrom_68 rfl (lv_at hl 1 rfl) ?_
    refine lv_aload_n hx hb dX4_readFrom_69 rfl (lv_at hl 0 rfl) ?_
    refine gfX4_28 C hw hw.2.2.1 h0 dX4_readFrom_70 ?_
    refine r_callV (T := TX4) (N := 9) (ci := 4) (index := 59) (n := 2) (d2 := 10) (mc := 0) (ms := 0) (As := [.ref a1, .int (mI M7 a0 0)]) (rest := [.ref a0]) C hw (ct_X4_faultOfPoints hq) kvX4_59 hq.1 (by decide) rfl ⟨by decide, by decide⟩ ⟨by decide, by decide⟩ rfl hl.1 rfl (Nat.le_of_ble_eq_true rfl) dX4_readFrom_73 (fun r M11 H locs hp hle hw => ?_)
    obtain ⟨v10, rfl, hq⟩ := hp
    refine W.eq (g2 := F0 m 76 ls [.int v10, .ref a0]) rfl ?_
    refine pfX4_35 C hw hw.2.2.1 h0 dX4_readFrom_76 (fun H locs hw => ?_)
    generalize e13 : uI M11 a0 7 v10 = M12 at hw
    replace hq := hq M12 e13.symm
    exact lt_X4_readFrom_79  C hr hlk hn h0 hk32 hq hw (lv_sub hl [0, 1, 2] rfl)
set_option maxHeartbeats 4000000 in
set_option maxRecDepth 100000 in
theorem lp_X4_readFrom_32 {l : Launch} {g : Gh} {p : Program} {e : Env} {s : State} {m : MethodId} {args : Array Value} {below : List Frame} {meth : Method} {c : Code} {M0 : Mem} {a0 : Nat} {a1 : Nat} {post : Mem → Prop}  (C : Cx g p s m args c cX4_readFrom 3 RX4) (hr : meth.sig.returnType = none) (hlk : meth.locks = false) (hn : meth.name = "readFrom") (h0 : okc (gB g) M0 a0 4)  : ∀ (nf : Nat) (x2 : Int32)  (M : Mem) (H : Heap) (locs : List Loc) (ls : Array Slot), lfp (fun bk z => bd_X4_readFrom_32  g M0 a0 a1 post  bk z.1 z.2) nf (x2, M) → Wd g s M0 M H locs → lv_has ls 3 [(0, .ref a0), (1, .ref a1), (2, .int x2)] → W p l e (rmo 11 0 0) s m args below meth c H locs 0 0 (MQ below (Cq g M0 (pV post)) args s 0 0 (gA g)) (F0 m 32 ls []) := by
  have hx := C.1.1
  have hb := C.1.2.1
  intro nf
  induction nf with
  | zero => intro _ _ H locs ls hq; exact hq.elim
  | succ nf hk32 =>
    intro x2 M H locs ls hq hw hl
    replace hq : bd_X4_readFrom_32  g M0 a0 a1 post  (lfp (fun bk z => bd_X4_readFrom_32  g M0 a0 a1 post  bk z.1 z.2) nf) x2 M := hq
    unfold bd_X4_readFrom_32 at hq
    refine lv_iload_n hx hb dX4_readFrom_32 rfl (lv_at hl 2 rfl) ?_
    refine lv_bipush (v := 6) hx hb dX4_readFrom_33 (by decide) ?_
    refine lv_icmp_gt (tgt := 101) hx hb dX4_readFrom_35 (by decide) (fun c14 => ?_) (fun c14 => ?_)
    · replace hq := hq.1 c14
      exact r_vret C hr hlk hw dX4_readFrom_101 (Nat.le_refl _) (Nat.le_refl _) ⟨rfl, hq⟩
    · replace hq := hq.2 c14
      refine lv_iload_n hx hb dX4_readFrom_38 rfl (lv_at hl 2 rfl) ?_
      refine lv_if_le (tgt := 50) hx hb dX4_readFrom_39 (by decide) (fun c15 => ?_) (fun c15 => ?_)
      · replace hq := hq.1 c15
        exact lt_X4_readFrom_50  C hr hlk hn h0 hk32 hq hw (lv_sub hl [0, 1, 2] rfl)
      · replace hq := hq.2 c15
        refine lv_aload_n hx hb dX4_readFrom_42 rfl (lv_at hl 1 rfl) ?_
        obtain ⟨h16, hq⟩ := hq
        refine gfX4_52 C hw hw.2.2.1 h16 dX4_readFrom_43 ?_
        refine lv_if_ne (tgt := 50) hx hb dX4_readFrom_46 (by decide) (fun c17 => ?_) (fun c17 => ?_)
        · replace hq := hq.2 c17
          exact lt_X4_readFrom_50  C hr hlk hn h0 hk32 hq hw (lv_sub hl [0, 1, 2] rfl)
        · replace hq := hq.1 c17
          exact r_vret C hr hlk hw dX4_readFrom_49 (Nat.le_refl _) (Nat.le_refl _) ⟨rfl, hq⟩
set_option maxHeartbeats 4000000 in
set_option maxRecDepth 100000 in
theorem ct_X4_readFrom {l : Launch} {g : Gh} {M0 : Mem} {a0 : Nat} {a1 : Nat} {post : Mem → Prop}  (hq : wp_X4_readFrom  g M0 a0 a1 post) : Ct l g yX4_readFrom cX4_readFrom 3 none 11 0 0 [.ref a0, .ref a1] M0 (pV post) := by
  unfold wp_X4_readFrom at hq
  obtain ⟨h0, hq⟩ := hq
  refine Ct.of (by decide) (Nat.le_of_ble_eq_true rfl) ?_
  intro p e s m below meth c ls C hr hlk hn hl hw
  have hx := C.1.1
  have hb := C.1.2.1
  have hl : lv_has ls 3 [(0, .ref a0), (1, .ref a1)] := hl
  refine lv_aload_n hx hb dX4_readFrom_0 rfl (lv_at hl 0 rfl) ?_
  refine lv_iconst (v := 0) hx hb dX4_readFrom_1 (by decide) ?_
  refine pfX4_28 C hw hw.2.2.1 h0 dX4_readFrom_2 (fun H locs hw => ?_)
  generalize e19 : uI M0 a0 0 0 = M18 at hw
  replace hq := hq M18 e19.symm
  refine lv_aload_n hx hb dX4_readFrom_5 rfl (lv_at hl 0 rfl) ?_
  refine lv_iconst (v := 0) hx hb dX4_readFrom_6 (by decide) ?_
  refine pfX4_32 C hw hw.2.2.1 h0 dX4_readFrom_7 (fun H locs hw => ?_)
  generalize e21 : uI M18 a0 1 0 = M20 at hw
  replace hq := hq M20 e21.symm
  refine lv_aload_n hx hb dX4_readFrom_10 rfl (lv_at hl 0 rfl) ?_
  refine lv_iconst (v := 0) hx hb dX4_readFrom_11 (by decide) ?_
  refine pfX4_35 C hw hw.2.2.1 h0 dX4_readFrom_12 (fun H locs hw => ?_)
  generalize e23 : uI M20 a0 7 0 = M22 at hw
  replace hq := hq M22 e23.symm
  refine lv_aload_n hx hb dX4_readFrom_15 rfl (lv_at hl 0 rfl) ?_
  refine lv_iconst (v := 0) hx hb dX4_readFrom_16 (by decide) ?_
  refine pfX4_38 C hw hw.2.2.1 h0 dX4_readFrom_17 (fun H locs hw => ?_)
  generalize e25 : uI M22 a0 8 0 = M24 at hw
  replace hq := hq M24 e25.symm
  refine lv_aload_n hx hb dX4_readFrom_20 rfl (lv_at hl 1 rfl) ?_
  refine r_callV (T := TX10) (N := 6) (ci := 10) (index := 41) (n := 0) (d2 := 0) (mc := 0) (ms := 0) (As := []) (rest := []) C hw (ct_X10_rewind hq) kvX4_41 hq.1 (by decide) rfl ⟨by decide, by decide⟩ ⟨by decide, by decide⟩ rfl hl.1 rfl (Nat.le_of_ble_eq_true rfl) dX4_readFrom_21 (fun r M27 H locs hp hle hw => ?_)
  obtain ⟨rfl, hq⟩ := hp
  refine W.eq (g2 := F0 m 24 ls []) rfl ?_
  refine lv_aload_n hx hb dX4_readFrom_24 rfl (lv_at hl 1 rfl) ?_
  refine va_ldcS hx hb C.1.2.2.2.1 (st_2 C.2.2.2.2.1) dX4_readFrom_25 ?_
  refine r_callV (T := TX10) (N := 6) (ci := 10) (index := 48) (n := 1) (d2 := 8) (mc := 0) (ms := 0) (As := [.ref (gK g 2)]) (rest := []) C hw (ct_X10_readNext hq) kvX4_48 hq.1 (by decide) rfl ⟨by decide, by decide⟩ ⟨by decide, by decide⟩ rfl hl.1 rfl (Nat.le_of_ble_eq_true rfl) dX4_readFrom_27 (fun r M29 H locs hp hle hw => ?_)
  obtain ⟨rfl, hq⟩ := hp
  refine W.eq (g2 := F0 m 30 ls []) rfl ?_
  refine lv_iconst (v := 0) hx hb dX4_readFrom_30 (by decide) ?_
  refine lv_istore_n (lv' := [(2, .int 0), (0, .ref a0), (1, .ref a1)]) hx hb dX4_readFrom_31 rfl hl (by decide) rfl (fun ls hl => ?_)
  obtain ⟨nf, hq⟩ := hq
  exact lp_X4_readFrom_32  C hr hlk hn h0  nf _ _ _ _ _ hq hw (lv_sub hl [1, 2, 0] rfl)

set_option maxRecDepth 100000 in
def bd_X4_roundOf_4  (g : Gh) (M0 : Mem) (a0 : Nat) (p1 : Int32) (post : Int32 → Mem → Prop)  (bk4 : Int32 × Int32 × Mem → Prop) (x2 : Int32) (x3 : Int32)  (M : Mem) : Prop :=
  (((mI M a0 0) ≤ x3) → post 0 M) ∧ (¬ ((mI M a0 0) ≤ x3) → ((6 ≤ x3) → post 0 M) ∧ (¬ (6 ≤ x3) → ∃ q3, mR M a0 2 = some q3 ∧ (okc (gB g) M0 q3 14 ∧ (vp_in x3 (mN M0 q3) ∧ ((((x2 + (mI M q3 (Int32.toNatClampNeg x3))) ≤ p1) → bk4 ((x2 + (mI M q3 (Int32.toNatClampNeg x3))), (x3 + 1), M)) ∧ (¬ ((x2 + (mI M q3 (Int32.toNatClampNeg x3))) ≤ p1) → post x3 M))))))
set_option maxRecDepth 100000 in
def wp_X4_roundOf  (g : Gh) (M0 : Mem) (a0 : Nat) (p1 : Int32) (post : Int32 → Mem → Prop) : Prop :=
  okc (gB g) M0 a0 4 ∧ ((∃ n : Nat, lfp (fun bk z => bd_X4_roundOf_4  g M0 a0 p1 post  bk z.1 z.2.1 z.2.2) n (0, 0, M0)))
set_option maxHeartbeats 4000000 in
set_option maxRecDepth 100000 in
theorem lp_X4_roundOf_4 {l : Launch} {g : Gh} {p : Program} {e : Env} {s : State} {m : MethodId} {args : Array Value} {below : List Frame} {meth : Method} {c : Code} {M0 : Mem} {a0 : Nat} {p1 : Int32} {post : Int32 → Mem → Prop}  (C : Cx g p s m args c cX4_roundOf 4 RX4) (hr : meth.sig.returnType = (some .int)) (hlk : meth.locks = false) (hn : meth.name = "roundOf") (h0 : okc (gB g) M0 a0 4)  : ∀ (nf : Nat) (x2 : Int32) (x3 : Int32)  (M : Mem) (H : Heap) (locs : List Loc) (ls : Array Slot), lfp (fun bk z => bd_X4_roundOf_4  g M0 a0 p1 post  bk z.1 z.2.1 z.2.2) nf (x2, x3, M) → Wd g s M0 M H locs → lv_has ls 4 [(0, .ref a0), (1, .int p1), (2, .int x2), (3, .int x3)] → W p l e (rmo 0 0 0) s m args below meth c H locs 0 0 (MQ below (Cq g M0 (pI post)) args s 0 0 (gA g)) (F0 m 4 ls []) := by
  have hx := C.1.1
  have hb := C.1.2.1
  intro nf
  induction nf with
  | zero => intro _ _ _ H locs ls hq; exact hq.elim
  | succ nf hk4 =>
    intro x2 x3 M H locs ls hq hw hl
    replace hq : bd_X4_roundOf_4  g M0 a0 p1 post  (lfp (fun bk z => bd_X4_roundOf_4  g M0 a0 p1 post  bk z.1 z.2.1 z.2.2) nf) x2 x3 M := hq
    unfold bd_X4_roundOf_4 at hq
    refine lv_iload_n hx hb dX4_roundOf_4 rfl (lv_at hl 3 rfl) ?_
    refine lv_aload_n hx hb dX4_roundOf_5 rfl (lv_at hl 0 rfl) ?_
    refine gfX4_28 C hw hw.2.2.1 h0 dX4_roundOf_6 ?_
    refine lv_icmp_ge (tgt := 40) hx hb dX4_roundOf_9 (by decide) (fun c1 => ?_) (fun c1 => ?_)
    · replace hq := hq.1 c1
      refine lv_iconst (v := 0) hx hb dX4_roundOf_40 (by decide) ?_
      exact r_iret C hr hlk hw dX4_roundOf_41 (Nat.le_refl _) (Nat.le_refl _) ⟨_, rfl, hq⟩
    · replace hq := hq.2 c1
      refine lv_iload_n hx hb dX4_roundOf_12 rfl (lv_at hl 3 rfl) ?_
      refine lv_bipush (v := 6) hx hb dX4_roundOf_13 (by decide) ?_
      refine lv_icmp_ge (tgt := 40) hx hb dX4_roundOf_15 (by decide) (fun c2 => ?_) (fun c2 => ?_)
      · replace hq := hq.1 c2
        refine lv_iconst (v := 0) hx hb dX4_roundOf_40 (by decide) ?_
        exact r_iret C hr hlk hw dX4_roundOf_41 (Nat.le_refl _) (Nat.le_refl _) ⟨_, rfl, hq⟩
      · replace hq := hq.2 c2
        refine lv_iload_n hx hb dX4_roundOf_18 rfl (lv_at hl 2 rfl) ?_
        refine lv_aload_n hx hb dX4_roundOf_19 rfl (lv_at hl 0 rfl) ?_
        obtain ⟨q3, e4, hq⟩ := hq
        refine gfX4_11 C hw hw.2.2.1 h0 e4 dX4_roundOf_20 ?_
        refine lv_iload_n hx hb dX4_roundOf_23 rfl (lv_at hl 3 rfl) ?_
        obtain ⟨h5, hq⟩ := hq
        obtain ⟨h6, hq⟩ := hq
        refine q_iald C hw hw.2.2.1 h5 h6 dX4_roundOf_24 ?_
        refine lv_iadd hx hb dX4_roundOf_25 ?_
        refine lv_istore_n (lv' := [(2, .int (x2 + (mI M q3 (Int32.toNatClampNeg x3)))), (0, .ref a0), (1, .int p1), (3, .int x3)]) hx hb dX4_roundOf_26 rfl hl (by decide) rfl (fun ls hl => ?_)
        refine lv_iload_n hx hb dX4_roundOf_27 rfl (lv_at hl 2 rfl) ?_
        refine lv_iload_n hx hb dX4_roundOf_28 rfl (lv_at hl 0 rfl) ?_
        refine lv_icmp_ge (tgt := 34) hx hb dX4_roundOf_29 (by decide) (fun c7 => ?_) (fun c7 => ?_)
        · replace hq := hq.1 c7
          refine lv_iinc (v := (x3 + 1)) (lv' := [(3, .int (x3 + 1)), (2, .int (x2 + (mI M q3 (Int32.toNatClampNeg x3)))), (0, .ref a0), (1, .int p1)]) hx hb dX4_roundOf_34 hl (k := 3) rfl rfl (by decide) rfl (fun ls hl => ?_)
          refine lv_goto (tgt := 4) hx hb dX4_roundOf_37 (by decide) ?_
          exact hk4 _ _ _ _ _ _ hq hw (lv_sub hl [2, 3, 1, 0] rfl)
        · replace hq := hq.2 c7
          refine lv_iload_n hx hb dX4_roundOf_32 rfl (lv_at hl 3 rfl) ?_
          exact r_iret C hr hlk hw dX4_roundOf_33 (Nat.le_refl _) (Nat.le_refl _) ⟨_, rfl, hq⟩
set_option maxHeartbeats 4000000 in
set_option maxRecDepth 100000 in
theorem ct_X4_roundOf {l : Launch} {g : Gh} {M0 : Mem} {a0 : Nat} {p1 : Int32} {post : Int32 → Mem → Prop}  (hq : wp_X4_roundOf  g M0 a0 p1 post) : Ct l g yX4_roundOf cX4_roundOf 4 (some .int) 0 0 0 [.ref a0, .int p1] M0 (pI post) := by
  unfold wp_X4_roundOf at hq
  obtain ⟨h0, hq⟩ := hq
  refine Ct.of (by decide) (Nat.le_of_ble_eq_true rfl) ?_
  intro p e s m below meth c ls C hr hlk hn hl hw
  have hx := C.1.1
  have hb := C.1.2.1
  have hl : lv_has ls 4 [(0, .ref a0), (1, .int p1)] := hl
  refine lv_iconst (v := 0) hx hb dX4_roundOf_0 (by decide) ?_
  refine lv_istore_n (lv' := [(2, .int 0), (0, .ref a0), (1, .int p1)]) hx hb dX4_roundOf_1 rfl hl (by decide) rfl (fun ls hl => ?_)
  refine lv_iconst (v := 0) hx hb dX4_roundOf_2 (by decide) ?_
  refine lv_istore_n (lv' := [(3, .int 0), (2, .int 0), (0, .ref a0), (1, .int p1)]) hx hb dX4_roundOf_3 rfl hl (by decide) rfl (fun ls hl => ?_)
  obtain ⟨nf, hq⟩ := hq
  exact lp_X4_roundOf_4  C hr hlk hn h0  nf _ _ _ _ _ _ hq hw (lv_sub hl [2, 3, 1, 0] rfl)

set_option maxRecDepth 100000 in
def wp_X5_init  (g : Gh) (M0 : Mem) (a0 : Nat) (post : Mem → Prop) : Prop :=
  okc (gB g) M0 a0 5 ∧ (∀ q2 M3, q2 = mT M0 → M3 = nw M0 14 12 → (∀ M7, M7 = uR M3 a0 0 (some q2) → (∀ q10 M11, q10 = mT M7 → M11 = nw M7 14 12 → (∀ M15, M15 = uR M11 a0 1 (some q10) → (∀ q18 M19, q18 = mT M15 → M19 = nw M15 14 12 → (∀ M23, M23 = uR M19 a0 2 (some q18) → (∀ q26 M27, q26 = mT M23 → M27 = nw M23 14 12 → (∀ M31, M31 = uR M27 a0 3 (some q26) → (∀ M33, M33 = uI M31 a0 4 0 → (post M33))))))))))
set_option maxHeartbeats 4000000 in
set_option maxRecDepth 100000 in
theorem ct_X5_init {l : Launch} {g : Gh} {M0 : Mem} {a0 : Nat} {post : Mem → Prop}  (hq : wp_X5_init  g M0 a0 post) : Ct l g yX5_init cX5_init 1 none 1 4 48 [.ref a0] M0 (pV post) := by
  unfold wp_X5_init at hq
  obtain ⟨h0, hq⟩ := hq
  have h00 := h0
  refine Ct.of (by decide) (Nat.le_of_ble_eq_true rfl) ?_
  intro p e s m below meth c ls C hr hlk hn hl hw
  have hx := C.1.1
  have hb := C.1.2.1
  have hl : lv_has ls 1 [(0, .ref a0)] := hl
  refine lv_aload_n hx hb dX5_init_0 rfl (lv_at hl 0 rfl) ?_
  refine W.objInit hx hb C.1.2.2.2.1 (C.1.2.2.2.2 _ w_335) (C.1.2.2.2.2 _ w_35) (C.1.2.2.2.2 _ w_objInit) rfl (by rw [C.1.2.2.1]; exact hl.1) rfl dX5_init_1 (Nat.le_of_ble_eq_true rfl) (Nat.le_of_ble_eq_true rfl) ?_
  refine W.eq (g2 := F0 m 4 ls []) rfl ?_
  refine lv_aload_n hx hb dX5_init_4 rfl (lv_at hl 0 rfl) ?_
  refine lv_bipush (v := 12) hx hb dX5_init_5 (by decide) ?_
  have hB := hw.B C.2.2.2.2.2
  have h1 : 0 + 1 ≤ 4 ∧ 0 + 12 ≤ 48 := by decide
  refine q_newa_14 (N' := 12) C hw (by decide) (by decide) (by decide) h1.1 h1.2 dX5_init_7 (fun H hw => ?_)
  have h6 := okc_nw (gB g) M0 14 12 hB
  have h0 := h0.up (mle_nw M0 14 12)
  generalize e4 : nw M0 14 12 = M3 at hw h6 h0
  generalize e5 : mT M0 = q2 at h6 ⊢
  replace hq := hq q2 M3 e5.symm e4.symm
  refine pfX5_9 (v := (some q2)) C hw (mle_rf _) h0 hn dX5_init_9 (fun H locs hw => ?_)
  generalize e8 : uR M3 a0 0 (some q2) = M7 at hw
  replace hq := hq M7 e8.symm
  have h0 : okc (gB g) M7 a0 5 := by rw [← e8]; exact okc_uR h0
  refine lv_aload_n hx hb dX5_init_12 rfl (lv_at hl 0 rfl) ?_
  refine lv_bipush (v := 12) hx hb dX5_init_13 (by decide) ?_
  have hB := hw.B C.2.2.2.2.2
  have h9 : 1 + 1 ≤ 4 ∧ 12 + 12 ≤ 48 := by decide
  refine q_newa_14 (N' := 12) C hw (by decide) (by decide) (by decide) h9.1 h9.2 dX5_init_15 (fun H hw => ?_)
  have h14 := okc_nw (gB g) M7 14 12 hB
  have h0 := h0.up (mle_nw M7 14 12)
  generalize e12 : nw M7 14 12 = M11 at hw h14 h0
  generalize e13 : mT M7 = q10 at h14 ⊢
  replace hq := hq q10 M11 e13.symm e12.symm
  refine pfX5_15 (v := (some q10)) C hw (mle_rf _) h0 hn dX5_init_17 (fun H locs hw => ?_)
  generalize e16 : uR M11 a0 1 (some q10) = M15 at hw
  replace hq := hq M15 e16.symm
  have h0 : okc (gB g) M15 a0 5 := by rw [← e16]; exact okc_uR h0
  refine lv_aload_n hx hb dX5_init_20 rfl (lv_at hl 0 rfl) ?_
  refine lv_bipush (v := 12) hx hb dX5_init_21 (by decide) ?_
  have hB := hw.B C.2.2.2.2.2
  have h17 : 2 + 1 ≤ 4 ∧ 24 + 12 ≤ 48 := by decide
  refine q_newa_14 (N' := 12) C hw (by decide) (by decide) (by decide) h17.1 h17.2 dX5_init_23 (fun H hw => ?_)
  have h22 := okc_nw (gB g) M15 14 12 hB
  have h0 := h0.up (mle_nw M15 14 12)
  generalize e20 : nw M15 14 12 = M19 at hw h22 h0
  generalize e21 : mT M15 = q18 at h22 ⊢
  replace hq := hq q18 M19 e21.symm e20.symm
  refine pfX5_18 (v := (some q18)) C hw (mle_rf _) h0 hn dX5_init_25 (fun H locs hw => ?_)
  generalize e24 : uR M19 a0 2 (some q18) = M23 at hw
  replace hq := hq M23 e24.symm
  have h0 : okc (gB g) M23 a0 5 := by rw [← e24]; exact okc_uR h0
  refine lv_aload_n hx hb dX5_init_28 rfl (lv_at hl 0 rfl) ?_
  refine lv_bipush (v := 12) hx hb dX5_init_29 (by decide) ?_
  have hB := hw.B C.2.2.2.2.2
  have h25 : 3 + 1 ≤ 4 ∧ 36 + 12 ≤ 48 := by decide
  refine q_newa_14 (N' := 12) C hw (by decide) (by decide) (by decide) h25.1 h25.2 dX5_init_31 (fun H hw => ?_)
  have h30 := okc_nw (gB g) M23 14 12 hB
  have h0 := h0.up (mle_nw M23 14 12)
  generalize e28 : nw M23 14 12 = M27 at hw h30 h0
  generalize e29 : mT M23 = q26 at h30 ⊢
  replace hq := hq q26 M27 e29.symm e28.symm
  refine pfX5_21 (v := (some q26)) C hw (mle_rf _) h0 hn dX5_init_33 (fun H locs hw => ?_)
  generalize e32 : uR M27 a0 3 (some q26) = M31 at hw
  replace hq := hq M31 e32.symm
  have h0 : okc (gB g) M31 a0 5 := by rw [← e32]; exact okc_uR h0
  refine lv_aload_n hx hb dX5_init_36 rfl (lv_at hl 0 rfl) ?_
  refine lv_iconst (v := 0) hx hb dX5_init_37 (by decide) ?_
  refine pfX5_24 C hw (mle_rf _) h0 dX5_init_38 (fun H locs hw => ?_)
  generalize e34 : uI M31 a0 4 0 = M33 at hw
  replace hq := hq M33 e34.symm
  have h0 : okc (gB g) M33 a0 5 := by rw [← e34]; exact okc_uI h0
  have h35 : 4 ≤ 4 ∧ 48 ≤ 48 := by decide
  exact r_vret C hr hlk hw dX5_init_41 h35.1 h35.2 ⟨rfl, hq⟩

set_option maxRecDepth 100000 in
def wp_X11_isTeam  (g : Gh) (M0 : Mem) (p0 : Int32) (post : Int32 → Mem → Prop) : Prop :=
  ((p0 < 0) → post 0 M0) ∧ (¬ (p0 < 0) → ((12 ≤ p0) → post 0 M0) ∧ (¬ (12 ≤ p0) → post 1 M0))
set_option maxHeartbeats 4000000 in
set_option maxRecDepth 100000 in
theorem ct_X11_isTeam {l : Launch} {g : Gh} {M0 : Mem} {p0 : Int32} {post : Int32 → Mem → Prop}  (hq : wp_X11_isTeam  g M0 p0 post) : Ct l g yX11_isTeam cX11_isTeam 1 (some .boolean) 0 0 0 [.int p0] M0 (pI post) := by
  unfold wp_X11_isTeam at hq
  refine Ct.of (by decide) (Nat.le_of_ble_eq_true rfl) ?_
  intro p e s m below meth c ls C hr hlk hn hl hw
  have hx := C.1.1
  have hb := C.1.2.1
  have hl : lv_has ls 1 [(0, .int p0)] := hl
  refine lv_iload_n hx hb dX11_isTeam_0 rfl (lv_at hl 0 rfl) ?_
  refine lv_if_lt (tgt := 14) hx hb dX11_isTeam_1 (by decide) (fun c1 => ?_) (fun c1 => ?_)
  · replace hq := hq.1 c1
    refine lv_iconst (v := 0) hx hb dX11_isTeam_14 (by decide) ?_
    exact r_zret C hr hlk hw dX11_isTeam_15 (Nat.le_refl _) (Nat.le_refl _) (by decide) ⟨_, rfl, hq⟩
  · replace hq := hq.2 c1
    refine lv_iload_n hx hb dX11_isTeam_4 rfl (lv_at hl 0 rfl) ?_
    refine lv_bipush (v := 12) hx hb dX11_isTeam_5 (by decide) ?_
    refine lv_icmp_ge (tgt := 14) hx hb dX11_isTeam_7 (by decide) (fun c2 => ?_) (fun c2 => ?_)
    · replace hq := hq.1 c2
      refine lv_iconst (v := 0) hx hb dX11_isTeam_14 (by decide) ?_
      exact r_zret C hr hlk hw dX11_isTeam_15 (Nat.le_refl _) (Nat.le_refl _) (by decide) ⟨_, rfl, hq⟩
    · replace hq := hq.2 c2
      refine lv_iconst (v := 1) hx hb dX11_isTeam_10 (by decide) ?_
      refine lv_goto (tgt := 15) hx hb dX11_isTeam_11 (by decide) ?_
      exact r_zret C hr hlk hw dX11_isTeam_15 (Nat.le_refl _) (Nat.le_refl _) (by decide) ⟨_, rfl, hq⟩

set_option maxRecDepth 100000 in
def lb_X5_addSide_37  (g : Gh) (M0 : Mem) (a0 : Nat) (p1 : Int32) (p2 : Int32) (p3 : Int32) (post : Mem → Prop)   (s0 : Nat) (s1 : Int32) (s2 : Int32) (s3 : Int32) (M : Mem) : Prop :=
  okc (gB g) M0 s0 14 ∧ (vp_in s1 (mN M0 s0) ∧ (∀ M3, M3 = uI M s0 (Int32.toNatClampNeg s1) (s2 + s3) → (∃ q5, mR M3 a0 1 = some q5 ∧ (okc (gB g) M0 q5 14 ∧ (vp_in p1 (mN M0 q5) ∧ (∀ M9, M9 = uI M3 q5 (Int32.toNatClampNeg p1) ((mI M3 q5 (Int32.toNatClampNeg p1)) + 1) → (∃ q11, mR M9 a0 2 = some q11 ∧ (okc (gB g) M0 q11 14 ∧ (vp_in p1 (mN M0 q11) ∧ (∀ M15, M15 = uI M9 q11 (Int32.toNatClampNeg p1) ((mI M9 q11 (Int32.toNatClampNeg p1)) + p2) → (∃ q17, mR M15 a0 3 = some q17 ∧ (okc (gB g) M0 q17 14 ∧ (vp_in p1 (mN M0 q17) ∧ (∀ M21, M21 = uI M15 q17 (Int32.toNatClampNeg p1) ((mI M15 q17 (Int32.toNatClampNeg p1)) + p3) → (post M21)))))))))))))))
set_option maxRecDepth 100000 in
def lb_X5_addSide_17  (g : Gh) (M0 : Mem) (a0 : Nat) (p1 : Int32) (p2 : Int32) (p3 : Int32) (post : Mem → Prop)   (s0 : Int32) (M : Mem) : Prop :=
  ∃ q23, mR M a0 0 = some q23 ∧ (okc (gB g) M0 q23 14 ∧ (vp_in p1 (mN M0 q23) ∧ (((p2 = p3) → lb_X5_addSide_37  g M0 a0 p1 p2 p3 post  q23 p1 (mI M q23 (Int32.toNatClampNeg p1)) 1 M) ∧ (¬ (p2 = p3) → lb_X5_addSide_37  g M0 a0 p1 p2 p3 post  q23 p1 (mI M q23 (Int32.toNatClampNeg p1)) s0 M))))
set_option maxRecDepth 100000 in
def wp_X5_addSide  (g : Gh) (M0 : Mem) (a0 : Nat) (p1 : Int32) (p2 : Int32) (p3 : Int32) (post : Mem → Prop) : Prop :=
  okc (gB g) M0 a0 5 ∧ (wp_X11_isTeam g M0 p1 (fun v28 M29 => ((v28 = 0) → post M29) ∧ (¬ (v28 = 0) → ((p2 ≤ p3) → lb_X5_addSide_17  g M0 a0 p1 p2 p3 post  0 M29) ∧ (¬ (p2 ≤ p3) → lb_X5_addSide_17  g M0 a0 p1 p2 p3 post  2 M29))))
set_option maxHeartbeats 4000000 in
set_option maxRecDepth 100000 in
theorem lt_X5_addSide_37 {l : Launch} {g : Gh} {p : Program} {e : Env} {s : State} {m : MethodId} {args : Array Value} {below : List Frame} {meth : Method} {c : Code} {H : Heap} {locs : List Loc} {ls : Array Slot} {M0 M : Mem} {a0 : Nat} {p1 : Int32} {p2 : Int32} {p3 : Int32} {post : Mem → Prop}  {s0 : Nat} {s1 : Int32} {s2 : Int32} {s3 : Int32}  (C : Cx g p s m args c cX5_addSide 5 RX5) (hr : meth.sig.returnType = none) (hlk : meth.locks = false) (hn : meth.name = "addSide") (h0 : okc (gB g) M0 a0 5)  (hq : lb_X5_addSide_37  g M0 a0 p1 p2 p3 post  s0 s1 s2 s3 M) (hw : Wd g s M0 M H locs) (hl : lv_has ls 5 [(0, .ref a0), (1, .int p1), (2, .int p2), (3, .int p3)]) : W p l e (rmo 1 0 0) s m args below meth c H locs 0 0 (MQ below (Cq g M0 (pV post)) args s 0 0 (gA g)) (F0 m 37 ls [.int s3, .int s2, .int s1, .ref s0]) := by
  have hx := C.1.1
  have hb := C.1.2.1
  unfold lb_X5_addSide_37 at hq
  refine lv_iadd hx hb dX5_addSide_37 ?_
  obtain ⟨h1, hq⟩ := hq
  obtain ⟨h2, hq⟩ := hq
  refine q_iast C hw hw.2.2.1 h1 h2 dX5_addSide_38 (fun H locs hw => ?_)
  generalize e4 : uI M s0 (Int32.toNatClampNeg s1) (s2 + s3) = M3 at hw
  replace hq := hq M3 e4.symm
  refine lv_aload_n hx hb dX5_addSide_39 rfl (lv_at hl 0 rfl) ?_
  obtain ⟨q5, e6, hq⟩ := hq
  refine gfX5_15 C hw hw.2.2.1 h0 e6 dX5_addSide_40 ?_
  refine lv_iload_n hx hb dX5_addSide_43 rfl (lv_at hl 1 rfl) ?_
  refine lv_dup2_11 hx hb dX5_addSide_44 rfl rfl ?_
  obtain ⟨h7, hq⟩ := hq
  obtain ⟨h8, hq⟩ := hq
  refine q_iald C hw hw.2.2.1 h7 h8 dX5_addSide_45 ?_
  refine lv_iconst (v := 1) hx hb dX5_addSide_46 (by decide) ?_
  refine lv_iadd hx hb dX5_addSide_47 ?_
  refine q_iast C hw hw.2.2.1 h7 h8 dX5_addSide_48 (fun H locs hw => ?_)
  generalize e10 : uI M3 q5 (Int32.toNatClampNeg p1) ((mI M3 q5 (Int32.toNatClampNeg p1)) + 1) = M9 at hw
  replace hq := hq M9 e10.symm
  have e6 : mR M9 a0 1 = some q5 := by rw [← e10, mR_uI]; exact e6
  refine lv_aload_n hx hb dX5_addSide_49 rfl (lv_at hl 0 rfl) ?_
  obtain ⟨q11, e12, hq⟩ := hq
  refine gfX5_18 C hw hw.2.2.1 h0 e12 dX5_addSide_50 ?_
  refine lv_iload_n hx hb dX5_addSide_53 rfl (lv_at hl 1 rfl) ?_
  refine lv_dup2_11 hx hb dX5_addSide_54 rfl rfl ?_
  obtain ⟨h13, hq⟩ := hq
  obtain ⟨h14, hq⟩ := hq
  refine q_iald C hw hw.2.2.1 h13 h14 dX5_addSide_55 ?_
  refine lv_iload_n hx hb dX5_addSide_56 rfl (lv_at hl 2 rfl) ?_
  refine lv_iadd hx hb dX5_addSide_57 ?_
  refine q_iast C hw hw.2.2.1 h13 h14 dX5_addSide_58 (fun H locs hw => ?_)
  generalize e16 : uI M9 q11 (Int32.toNatClampNeg p1) ((mI M9 q11 (Int32.toNatClampNeg p1)) + p2) = M15 at hw
  replace hq := hq M15 e16.symm
  have e6 : mR M15 a0 1 = some q5 := by rw [← e16, mR_uI]; exact e6
  have e12 : mR M15 a0 2 = some q11 := by rw [← e16, mR_uI]; exact e12
  refine lv_aload_n hx hb dX5_addSide_59 rfl (lv_at hl 0 rfl) ?_
  obtain ⟨q17, e18, hq⟩ := hq
  refine gfX5_21 C hw hw.2.2.1 h0 e18 dX5_addSide_60 ?_
  refine lv_iload_n hx hb dX5_addSide_63 rfl (lv_at hl 1 rfl) ?_
  refine lv_dup2_11 hx hb dX5_addSide_64 rfl rfl ?_
  obtain ⟨h19, hq⟩ := hq
  obtain ⟨h20, hq⟩ := hq
  refine q_iald C hw hw.2.2.1 h19 h20 dX5_addSide_65 ?_
  refine lv_iload_n hx hb dX5_addSide_66 rfl (lv_at hl 3 rfl) ?_
  refine lv_iadd hx hb dX5_addSide_67 ?_
  refine q_iast C hw hw.2.2.1 h19 h20 dX5_addSide_68 (fun H locs hw => ?_)
  generalize e22 : uI M15 q17 (Int32.toNatClampNeg p1) ((mI M15 q17 (Int32.toNatClampNeg p1)) + p3) = M21 at hw
  replace hq := hq M21 e22.symm
  have e6 : mR M21 a0 1 = some q5 := by rw [← e22, mR_uI]; exact e6
  have e12 : mR M21 a0 2 = some q11 := by rw [← e22, mR_uI]; exact e12
  have e18 : mR M21 a0 3 = some q17 := by rw [← e22, mR_uI]; exact e18
  exact r_vret C hr hlk hw dX5_addSide_69 (Nat.le_refl _) (Nat.le_refl _) ⟨rfl, hq⟩
set_option maxHeartbeats 4000000 in
set_option maxRecDepth 100000 in
theorem lt_X5_addSide_17 {l : Launch} {g : Gh} {p : Program} {e : Env} {s : State} {m : MethodId} {args : Array Value} {below : List Frame} {meth : Method} {c : Code} {H : Heap} {locs : List Loc} {ls : Array Slot} {M0 M : Mem} {a0 : Nat} {p1 : Int32} {p2 : Int32} {p3 : Int32} {post : Mem → Prop}  {s0 : Int32}  (C : Cx g p s m args c cX5_addSide 5 RX5) (hr : meth.sig.returnType = none) (hlk : meth.locks = false) (hn : meth.name = "addSide") (h0 : okc (gB g) M0 a0 5)  (hq : lb_X5_addSide_17  g M0 a0 p1 p2 p3 post  s0 M) (hw : Wd g s M0 M H locs) (hl : lv_has ls 5 [(0, .ref a0), (1, .int p1), (2, .int p2), (3, .int p3)]) : W p l e (rmo 1 0 0) s m args below meth c H locs 0 0 (MQ below (Cq g M0 (pV post)) args s 0 0 (gA g)) (F0 m 17 ls [.int s0]) := by
  have hx := C.1.1
  have hb := C.1.2.1
  unfold lb_X5_addSide_17 at hq
  refine lv_istore (lv' := [(4, .int s0), (0, .ref a0), (1, .int p1), (2, .int p2), (3, .int p3)]) hx hb dX5_addSide_17 hl (by decide) rfl (fun ls hl => ?_)
  refine lv_aload_n hx hb dX5_addSide_19 rfl (lv_at hl 1 rfl) ?_
  obtain ⟨q23, e24, hq⟩ := hq
  refine gfX5_9 C hw hw.2.2.1 h0 e24 dX5_addSide_20 ?_
  refine lv_iload_n hx hb dX5_addSide_23 rfl (lv_at hl 2 rfl) ?_
  refine lv_dup2_11 hx hb dX5_addSide_24 rfl rfl ?_
  obtain ⟨h25, hq⟩ := hq
  obtain ⟨h26, hq⟩ := hq
  refine q_iald C hw hw.2.2.1 h25 h26 dX5_addSide_25 ?_
  refine lv_iload_n hx hb dX5_addSide_26 rfl (lv_at hl 3 rfl) ?_
  refine lv_iload_n hx hb dX5_addSide_27 rfl (lv_at hl 4 rfl) ?_
  refine lv_icmp_ne (tgt := 35) hx hb dX5_addSide_28 (by decide) (fun c27 => ?_) (fun c27 => ?_)
  · replace hq := hq.2 c27
    refine lv_iload hx hb dX5_addSide_35 (lv_at hl 0 rfl) ?_
    exact lt_X5_addSide_37  C hr hlk hn h0  hq hw (lv_sub hl [1, 2, 3, 4] rfl)
  · replace hq := hq.1 c27
    refine lv_iconst (v := 1) hx hb dX5_addSide_31 (by decide) ?_
    refine lv_goto (tgt := 37) hx hb dX5_addSide_32 (by decide) ?_
    exact lt_X5_addSide_37  C hr hlk hn h0  hq hw (lv_sub hl [1, 2, 3, 4] rfl)
set_option maxHeartbeats 4000000 in
set_option maxRecDepth 100000 in
theorem ct_X5_addSide {l : Launch} {g : Gh} {M0 : Mem} {a0 : Nat} {p1 : Int32} {p2 : Int32} {p3 : Int32} {post : Mem → Prop}  (hq : wp_X5_addSide  g M0 a0 p1 p2 p3 post) : Ct l g yX5_addSide cX5_addSide 5 none 1 0 0 [.ref a0, .int p1, .int p2, .int p3] M0 (pV post) := by
  unfold wp_X5_addSide at hq
  obtain ⟨h0, hq⟩ := hq
  refine Ct.of (by decide) (Nat.le_of_ble_eq_true rfl) ?_
  intro p e s m below meth c ls C hr hlk hn hl hw
  have hx := C.1.1
  have hb := C.1.2.1
  have hl : lv_has ls 5 [(0, .ref a0), (1, .int p1), (2, .int p2), (3, .int p3)] := hl
  refine lv_iload_n hx hb dX5_addSide_0 rfl (lv_at hl 1 rfl) ?_
  refine r_callSN (index := 36) (n := 1) (d2 := 0) (mc := 0) (ms := 0) (As := [.int p1]) (rest := []) C hw (ct_X11_isTeam hq) ksX5_36 ⟨by decide, by decide⟩ ⟨by decide, by decide⟩ rfl hl.1 rfl (Nat.le_of_ble_eq_true rfl) dX5_addSide_1 (fun r M29 H locs hp hle hw => ?_)
  obtain ⟨v28, rfl, hq⟩ := hp
  refine W.eq (g2 := F0 m 4 ls [.int v28]) rfl ?_
  refine lv_if_eq (tgt := 69) hx hb dX5_addSide_4 (by decide) (fun c30 => ?_) (fun c30 => ?_)
  · replace hq := hq.1 c30
    exact r_vret C hr hlk hw dX5_addSide_69 (Nat.le_refl _) (Nat.le_refl _) ⟨rfl, hq⟩
  · replace hq := hq.2 c30
    refine lv_iload_n hx hb dX5_addSide_7 rfl (lv_at hl 2 rfl) ?_
    refine lv_iload_n hx hb dX5_addSide_8 rfl (lv_at hl 3 rfl) ?_
    refine lv_icmp_le (tgt := 16) hx hb dX5_addSide_9 (by decide) (fun c31 => ?_) (fun c31 => ?_)
    · replace hq := hq.1 c31
      refine lv_iconst (v := 0) hx hb dX5_addSide_16 (by decide) ?_
      exact lt_X5_addSide_17  C hr hlk hn h0  hq hw (lv_sub hl [0, 1, 2, 3] rfl)
    · replace hq := hq.2 c31
      refine lv_iconst (v := 2) hx hb dX5_addSide_12 (by decide) ?_
      refine lv_goto (tgt := 17) hx hb dX5_addSide_13 (by decide) ?_
      exact lt_X5_addSide_17  C hr hlk hn h0  hq hw (lv_sub hl [0, 1, 2, 3] rfl)

set_option maxRecDepth 100000 in
def wp_X5_addMatch  (g : Gh) (M0 : Mem) (a0 : Nat) (p1 : Int32) (p2 : Int32) (p3 : Int32) (p4 : Int32) (post : Mem → Prop) : Prop :=
  okc (gB g) M0 a0 5 ∧ (∀ M1, M1 = uI M0 a0 4 ((mI M0 a0 4) + 1) → (wp_X5_addSide g M1 a0 p1 p3 p4 (fun M4 => wp_X5_addSide g M4 a0 p2 p4 p3 (fun M6 => post M6))))
set_option maxHeartbeats 4000000 in
set_option maxRecDepth 100000 in
theorem ct_X5_addMatch {l : Launch} {g : Gh} {M0 : Mem} {a0 : Nat} {p1 : Int32} {p2 : Int32} {p3 : Int32} {p4 : Int32} {post : Mem → Prop}  (hq : wp_X5_addMatch  g M0 a0 p1 p2 p3 p4 post) : Ct l g yX5_addMatch cX5_addMatch 5 none 2 0 0 [.ref a0, .int p1, .int p2, .int p3, .int p4] M0 (pV post) := by
  unfold wp_X5_addMatch at hq
  obtain ⟨h0, hq⟩ := hq
  refine Ct.of (by decide) (Nat.le_of_ble_eq_true rfl) ?_
  intro p e s m below meth c ls C hr hlk hn hl hw
  have hx := C.1.1
  have hb := C.1.2.1
  have hl : lv_has ls 5 [(0, .ref a0), (1, .int p1), (2, .int p2), (3, .int p3), (4, .int p4)] := hl
  refine lv_aload_n hx hb dX5_addMatch_0 rfl (lv_at hl 0 rfl) ?_
  refine lv_dup hx hb dX5_addMatch_1 rfl ?_
  refine gfX5_24 C hw hw.2.2.1 h0 dX5_addMatch_2 ?_
  refine lv_iconst (v := 1) hx hb dX5_addMatch_5 (by decide) ?_
  refine lv_iadd hx hb dX5_addMatch_6 ?_
  refine pfX5_24 C hw hw.2.2.1 h0 dX5_addMatch_7 (fun H locs hw => ?_)
  generalize e2 : uI M0 a0 4 ((mI M0 a0 4) + 1) = M1 at hw
  replace hq := hq M1 e2.symm
  refine lv_aload_n hx hb dX5_addMatch_10 rfl (lv_at hl 0 rfl) ?_
  refine lv_iload_n hx hb dX5_addMatch_11 rfl (lv_at hl 1 rfl) ?_
  refine lv_iload_n hx hb dX5_addMatch_12 rfl (lv_at hl 3 rfl) ?_
  refine lv_iload hx hb dX5_addMatch_13 (lv_at hl 4 rfl) ?_
  refine r_callV (T := TX5) (N := 5) (ci := 5) (index := 28) (n := 3) (d2 := 1) (mc := 0) (ms := 0) (As := [.int p1, .int p3, .int p4]) (rest := []) C hw (ct_X5_addSide hq) kvX5_28 hq.1 (by decide) rfl ⟨by decide, by decide⟩ ⟨by decide, by decide⟩ rfl hl.1 rfl (Nat.le_of_ble_eq_true rfl) dX5_addMatch_15 (fun r M4 H locs hp hle hw => ?_)
  obtain ⟨rfl, hq⟩ := hp
  refine W.eq (g2 := F0 m 18 ls []) rfl ?_
  refine lv_aload_n hx hb dX5_addMatch_18 rfl (lv_at hl 0 rfl) ?_
  refine lv_iload_n hx hb dX5_addMatch_19 rfl (lv_at hl 2 rfl) ?_
  refine lv_iload hx hb dX5_addMatch_20 (lv_at hl 4 rfl) ?_
  refine lv_iload_n hx hb dX5_addMatch_22 rfl (lv_at hl 3 rfl) ?_
  refine r_callV (T := TX5) (N := 5) (ci := 5) (index := 28) (n := 3) (d2 := 1) (mc := 0) (ms := 0) (As := [.int p2, .int p4, .int p3]) (rest := []) C hw (ct_X5_addSide hq) kvX5_28 hq.1 (by decide) rfl ⟨by decide, by decide⟩ ⟨by decide, by decide⟩ rfl hl.1 rfl (Nat.le_of_ble_eq_true rfl) dX5_addMatch_23 (fun r M6 H locs hp hle hw => ?_)
  obtain ⟨rfl, hq⟩ := hp
  refine W.eq (g2 := F0 m 26 ls []) rfl ?_
  exact r_vret C hr hlk hw dX5_addMatch_26 (Nat.le_refl _) (Nat.le_refl _) ⟨rfl, hq⟩
