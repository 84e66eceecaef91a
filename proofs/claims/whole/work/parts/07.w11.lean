set_option maxRecDepth 100000 in
def bd_X6_isKnown_2  (g : Gh) (M0 : Mem) (a0 : Nat) (p1 : Int32) (post : Int32 → Mem → Prop)  (bk2 : Int32 × Mem → Prop) (x2 : Int32)  (M : Mem) : Prop :=
  (((mI M a0 3) ≤ x2) → post 0 M) ∧ (¬ ((mI M a0 3) ≤ x2) → ((120 ≤ x2) → post 0 M) ∧ (¬ (120 ≤ x2) → ∃ q3, mR M a0 2 = some q3 ∧ (okc (gB g) M0 q3 18 ∧ (vp_in x2 (mN M0 q3) ∧ (∃ q7, mR M q3 (Int32.toNatClampNeg x2) = some q7 ∧ (okc (gB g) M0 q7 0 ∧ ((((mI M q7 0) = p1) → (((mI M q7 3) = 0) → bk2 ((x2 + 1), M)) ∧ (¬ ((mI M q7 3) = 0) → (((mI M q7 4) = 0) → post 1 M) ∧ (¬ ((mI M q7 4) = 0) → bk2 ((x2 + 1), M)))) ∧ (¬ ((mI M q7 0) = p1) → bk2 ((x2 + 1), M)))))))))
set_option maxRecDepth 100000 in
def wp_X6_isKnown  (g : Gh) (M0 : Mem) (a0 : Nat) (p1 : Int32) (post : Int32 → Mem → Prop) : Prop :=
  okc (gB g) M0 a0 6 ∧ ((∃ n : Nat, lfp (fun bk z => bd_X6_isKnown_2  g M0 a0 p1 post  bk z.1 z.2) n (0, M0)))
set_option maxHeartbeats 4000000 in
set_option maxRecDepth 100000 in
theorem lp_X6_isKnown_2 {l : Launch} {g : Gh} {p : Program} {e : Env} {s : State} {m : MethodId} {args : Array Value} {below : List Frame} {meth : Method} {c : Code} {M0 : Mem} {a0 : Nat} {p1 : Int32} {post : Int32 → Mem → Prop}  (C : Cx g p s m args c cX6_isKnown 3 RX6) (hr : meth.sig.returnType = (some .boolean)) (hlk : meth.locks = false) (hn : meth.name = "isKnown") (h0 : okc (gB g) M0 a0 6)  : ∀ (nf : Nat) (x2 : Int32)  (M : Mem) (H : Heap) (locs : List Loc) (ls : Array Slot), lfp (fun bk z => bd_X6_isKnown_2  g M0 a0 p1 post  bk z.1 z.2) nf (x2, M) → Wd g s M0 M H locs → lv_has ls 3 [(0, .ref a0), (1, .int p1), (2, .int x2)] → W p l e (rmo 0 0 0) s m args below meth c H locs 0 0 (MQ below (Cq g M0 (pI post)) args s 0 0 (gA g)) (F0 m 2 ls []) := by
  have hx := C.1.1
  have hb := C.1.2.1
  intro nf
  induction nf with
  | zero => intro _ _ H locs ls hq; exact hq.elim
  | succ nf hk2 =>
    intro x2 M H locs ls hq hw hl
    replace hq : bd_X6_isKnown_2  g M0 a0 p1 post  (lfp (fun bk z => bd_X6_isKnown_2  g M0 a0 p1 post  bk z.1 z.2) nf) x2 M := hq
    unfold bd_X6_isKnown_2 at hq
    refine lv_iload_n hx hb dX6_isKnown_2 rfl (lv_at hl 2 rfl) ?_
    refine lv_aload_n hx hb dX6_isKnown_3 rfl (lv_at hl 0 rfl) ?_
    refine gfX6_30 C hw hw.2.2.1 h0 dX6_isKnown_4 ?_
    refine lv_icmp_ge (tgt := 61) hx hb dX6_isKnown_7 (by decide) (fun c1 => ?_) (fun c1 => ?_)
    · replace hq := hq.1 c1
      refine lv_iconst (v := 0) hx hb dX6_isKnown_61 (by decide) ?_
      exact r_zret C hr hlk hw dX6_isKnown_62 (Nat.le_refl _) (Nat.le_refl _) (by decide) ⟨_, rfl, hq⟩
    · replace hq := hq.2 c1
      refine lv_iload_n hx hb dX6_isKnown_10 rfl (lv_at hl 2 rfl) ?_
      refine lv_bipush (v := 120) hx hb dX6_isKnown_11 (by decide) ?_
      refine lv_icmp_ge (tgt := 61) hx hb dX6_isKnown_13 (by decide) (fun c2 => ?_) (fun c2 => ?_)
      · replace hq := hq.1 c2
        refine lv_iconst (v := 0) hx hb dX6_isKnown_61 (by decide) ?_
        exact r_zret C hr hlk hw dX6_isKnown_62 (Nat.le_refl _) (Nat.le_refl _) (by decide) ⟨_, rfl, hq⟩
      · replace hq := hq.2 c2
        refine lv_aload_n hx hb dX6_isKnown_16 rfl (lv_at hl 0 rfl) ?_
        obtain ⟨q3, e4, hq⟩ := hq
        refine gfX6_21 C hw hw.2.2.1 h0 e4 dX6_isKnown_17 ?_
        refine lv_iload_n hx hb dX6_isKnown_20 rfl (lv_at hl 2 rfl) ?_
        obtain ⟨h5, hq⟩ := hq
        obtain ⟨h6, hq⟩ := hq
        obtain ⟨q7, e8, hq⟩ := hq
        refine q_aald C hw hw.2.2.1 h5 (by decide) (by decide) rfl h6 e8 dX6_isKnown_21 ?_
        obtain ⟨h9, hq⟩ := hq
        refine gfX6_56 C hw hw.2.2.1 h9 dX6_isKnown_22 ?_
        refine lv_iload_n hx hb dX6_isKnown_25 rfl (lv_at hl 1 rfl) ?_
        refine lv_icmp_ne (tgt := 55) hx hb dX6_isKnown_26 (by decide) (fun c10 => ?_) (fun c10 => ?_)
        · replace hq := hq.2 c10
          refine lv_iinc (v := (x2 + 1)) (lv' := [(2, .int (x2 + 1)), (0, .ref a0), (1, .int p1)]) hx hb dX6_isKnown_55 hl (k := 2) rfl rfl (by decide) rfl (fun ls hl => ?_)
          refine lv_goto (tgt := 2) hx hb dX6_isKnown_58 (by decide) ?_
          exact hk2 _ _ _ _ _ hq hw (lv_sub hl [1, 2, 0] rfl)
        · replace hq := hq.1 c10
          refine lv_aload_n hx hb dX6_isKnown_29 rfl (lv_at hl 0 rfl) ?_
          refine gfX6_21 C hw hw.2.2.1 h0 e4 dX6_isKnown_30 ?_
          refine lv_iload_n hx hb dX6_isKnown_33 rfl (lv_at hl 2 rfl) ?_
          refine q_aald C hw hw.2.2.1 h5 (by decide) (by decide) rfl h6 e8 dX6_isKnown_34 ?_
          refine gfX6_65 C hw hw.2.2.1 h9 dX6_isKnown_35 ?_
          refine lv_if_eq (tgt := 55) hx hb dX6_isKnown_38 (by decide) (fun c11 => ?_) (fun c11 => ?_)
          · replace hq := hq.1 c11
            refine lv_iinc (v := (x2 + 1)) (lv' := [(2, .int (x2 + 1)), (0, .ref a0), (1, .int p1)]) hx hb dX6_isKnown_55 hl (k := 2) rfl rfl (by decide) rfl (fun ls hl => ?_)
            refine lv_goto (tgt := 2) hx hb dX6_isKnown_58 (by decide) ?_
            exact hk2 _ _ _ _ _ hq hw (lv_sub hl [1, 2, 0] rfl)
          · replace hq := hq.2 c11
            refine lv_aload_n hx hb dX6_isKnown_41 rfl (lv_at hl 0 rfl) ?_
            refine gfX6_21 C hw hw.2.2.1 h0 e4 dX6_isKnown_42 ?_
            refine lv_iload_n hx hb dX6_isKnown_45 rfl (lv_at hl 2 rfl) ?_
            refine q_aald C hw hw.2.2.1 h5 (by decide) (by decide) rfl h6 e8 dX6_isKnown_46 ?_
            refine gfX6_76 C hw hw.2.2.1 h9 dX6_isKnown_47 ?_
            refine lv_if_ne (tgt := 55) hx hb dX6_isKnown_50 (by decide) (fun c12 => ?_) (fun c12 => ?_)
            · replace hq := hq.2 c12
              refine lv_iinc (v := (x2 + 1)) (lv' := [(2, .int (x2 + 1)), (0, .ref a0), (1, .int p1)]) hx hb dX6_isKnown_55 hl (k := 2) rfl rfl (by decide) rfl (fun ls hl => ?_)
              refine lv_goto (tgt := 2) hx hb dX6_isKnown_58 (by decide) ?_
              exact hk2 _ _ _ _ _ hq hw (lv_sub hl [1, 2, 0] rfl)
            · replace hq := hq.1 c12
              refine lv_iconst (v := 1) hx hb dX6_isKnown_53 (by decide) ?_
              exact r_zret C hr hlk hw dX6_isKnown_54 (Nat.le_refl _) (Nat.le_refl _) (by decide) ⟨_, rfl, hq⟩
set_option maxHeartbeats 4000000 in
set_option maxRecDepth 100000 in
theorem ct_X6_isKnown {l : Launch} {g : Gh} {M0 : Mem} {a0 : Nat} {p1 : Int32} {post : Int32 → Mem → Prop}  (hq : wp_X6_isKnown  g M0 a0 p1 post) : Ct l g yX6_isKnown cX6_isKnown 3 (some .boolean) 0 0 0 [.ref a0, .int p1] M0 (pI post) := by
  unfold wp_X6_isKnown at hq
  obtain ⟨h0, hq⟩ := hq
  refine Ct.of (by decide) (Nat.le_of_ble_eq_true rfl) ?_
  intro p e s m below meth c ls C hr hlk hn hl hw
  have hx := C.1.1
  have hb := C.1.2.1
  have hl : lv_has ls 3 [(0, .ref a0), (1, .int p1)] := hl
  refine lv_iconst (v := 0) hx hb dX6_isKnown_0 (by decide) ?_
  refine lv_istore_n (lv' := [(2, .int 0), (0, .ref a0), (1, .int p1)]) hx hb dX6_isKnown_1 rfl hl (by decide) rfl (fun ls hl => ?_)
  obtain ⟨nf, hq⟩ := hq
  exact lp_X6_isKnown_2  C hr hlk hn h0  nf _ _ _ _ _ hq hw (lv_sub hl [1, 2, 0] rfl)

set_option maxRecDepth 100000 in
def wp_X6_tell  (g : Gh) (M0 : Mem) (a0 : Nat) (p1 : Int32) (post : Int32 → Mem → Prop) : Prop :=
  okc (gB g) M0 a0 6 ∧ (((p1 = 0) → post (mI M0 a0 5) M0) ∧ ((p1 = 1) → post (mI M0 a0 6) M0) ∧ ((p1 = 2) → wp_X6_pointsOf g M0 a0 0 (fun v2 M3 => post v2 M3)) ∧ ((p1 = 3) → wp_X6_pointsOf g M0 a0 1 (fun v4 M5 => post v4 M5)) ∧ ((p1 = 4) → post (mI M0 a0 3) M0) ∧ ((p1 = 5) → post (mI M0 a0 4) M0) ∧ ((¬ (p1 = 0) ∧ ¬ (p1 = 1) ∧ ¬ (p1 = 2) ∧ ¬ (p1 = 3) ∧ ¬ (p1 = 4) ∧ ¬ (p1 = 5)) → post (-1) M0))
set_option maxHeartbeats 4000000 in
set_option maxRecDepth 100000 in
theorem ct_X6_tell {l : Launch} {g : Gh} {M0 : Mem} {a0 : Nat} {p1 : Int32} {post : Int32 → Mem → Prop}  (hq : wp_X6_tell  g M0 a0 p1 post) : Ct l g yX6_tell cX6_tell 2 (some .int) 1 0 0 [.ref a0, .int p1] M0 (pI post) := by
  unfold wp_X6_tell at hq
  obtain ⟨h0, hq⟩ := hq
  refine Ct.of (by decide) (Nat.le_of_ble_eq_true rfl) ?_
  intro p e s m below meth c ls C hr hlk hn hl hw
  have hx := C.1.1
  have hb := C.1.2.1
  have hl : lv_has ls 2 [(0, .ref a0), (1, .int p1)] := hl
  refine lv_iload_n hx hb dX6_tell_0 rfl (lv_at hl 1 rfl) ?_
  by_cases c6 : p1 = 0
  · refine r_table (v := 0) (off := 39) (tgt := 40) hx hb dX6_tell_1 c6 (by decide) (by decide) rfl (by decide) ?_
    replace hq := hq.1 c6
    refine lv_aload_n hx hb dX6_tell_40 rfl (lv_at hl 0 rfl) ?_
    refine gfX6_37 C hw hw.2.2.1 h0 dX6_tell_41 ?_
    exact r_iret C hr hlk hw dX6_tell_44 (Nat.le_refl _) (Nat.le_refl _) ⟨_, rfl, hq⟩
  by_cases c7 : p1 = 1
  · refine r_table (v := 1) (off := 44) (tgt := 45) hx hb dX6_tell_1 c7 (by decide) (by decide) rfl (by decide) ?_
    replace hq := hq.2.1 c7
    refine lv_aload_n hx hb dX6_tell_45 rfl (lv_at hl 0 rfl) ?_
    refine gfX6_79 C hw hw.2.2.1 h0 dX6_tell_46 ?_
    exact r_iret C hr hlk hw dX6_tell_49 (Nat.le_refl _) (Nat.le_refl _) ⟨_, rfl, hq⟩
  by_cases c8 : p1 = 2
  · refine r_table (v := 2) (off := 49) (tgt := 50) hx hb dX6_tell_1 c8 (by decide) (by decide) rfl (by decide) ?_
    replace hq := hq.2.2.1 c8
    refine lv_aload_n hx hb dX6_tell_50 rfl (lv_at hl 0 rfl) ?_
    refine lv_iconst (v := 0) hx hb dX6_tell_51 (by decide) ?_
    refine r_callV (T := TX6) (N := 9) (ci := 6) (index := 82) (n := 1) (d2 := 0) (mc := 0) (ms := 0) (As := [.int 0]) (rest := []) C hw (ct_X6_pointsOf hq) kvX6_82 hq.1 (by decide) rfl ⟨by decide, by decide⟩ ⟨by decide, by decide⟩ rfl hl.1 rfl (Nat.le_of_ble_eq_true rfl) dX6_tell_52 (fun r M3 H locs hp hle hw => ?_)
    obtain ⟨v2, rfl, hq⟩ := hp
    refine W.eq (g2 := F0 m 55 ls [.int v2]) rfl ?_
    exact r_iret C hr hlk hw dX6_tell_55 (Nat.le_refl _) (Nat.le_refl _) ⟨_, rfl, hq⟩
  by_cases c9 : p1 = 3
  · refine r_table (v := 3) (off := 55) (tgt := 56) hx hb dX6_tell_1 c9 (by decide) (by decide) rfl (by decide) ?_
    replace hq := hq.2.2.2.1 c9
    refine lv_aload_n hx hb dX6_tell_56 rfl (lv_at hl 0 rfl) ?_
    refine lv_iconst (v := 1) hx hb dX6_tell_57 (by decide) ?_
    refine r_callV (T := TX6) (N := 9) (ci := 6) (index := 82) (n := 1) (d2 := 0) (mc := 0) (ms := 0) (As := [.int 1]) (rest := []) C hw (ct_X6_pointsOf hq) kvX6_82 hq.1 (by decide) rfl ⟨by decide, by decide⟩ ⟨by decide, by decide⟩ rfl hl.1 rfl (Nat.le_of_ble_eq_true rfl) dX6_tell_58 (fun r M5 H locs hp hle hw => ?_)
    obtain ⟨v4, rfl, hq⟩ := hp
    refine W.eq (g2 := F0 m 61 ls [.int v4]) rfl ?_
    exact r_iret C hr hlk hw dX6_tell_61 (Nat.le_refl _) (Nat.le_refl _) ⟨_, rfl, hq⟩
  by_cases c10 : p1 = 4
  · refine r_table (v := 4) (off := 61) (tgt := 62) hx hb dX6_tell_1 c10 (by decide) (by decide) rfl (by decide) ?_
    replace hq := hq.2.2.2.2.1 c10
    refine lv_aload_n hx hb dX6_tell_62 rfl (lv_at hl 0 rfl) ?_
    refine gfX6_30 C hw hw.2.2.1 h0 dX6_tell_63 ?_
    exact r_iret C hr hlk hw dX6_tell_66 (Nat.le_refl _) (Nat.le_refl _) ⟨_, rfl, hq⟩
  by_cases c11 : p1 = 5
  · refine r_table (v := 5) (off := 66) (tgt := 67) hx hb dX6_tell_1 c11 (by decide) (by decide) rfl (by decide) ?_
    replace hq := hq.2.2.2.2.2.1 c11
    refine lv_aload_n hx hb dX6_tell_67 rfl (lv_at hl 0 rfl) ?_
    refine gfX6_86 C hw hw.2.2.1 h0 dX6_tell_68 ?_
    exact r_iret C hr hlk hw dX6_tell_71 (Nat.le_refl _) (Nat.le_refl _) ⟨_, rfl, hq⟩
  refine r_tableOut (tgt := 72) (k := 5) hx hb dX6_tell_1 (by decide) (fun j hj => by rcases (show j = 0 ∨ j = 1 ∨ j = 2 ∨ j = 3 ∨ j = 4 ∨ j = 5 by omega) with rfl | rfl | rfl | rfl | rfl | rfl <;> assumption) (by decide) ?_
  replace hq := hq.2.2.2.2.2.2 ⟨c6, c7, c8, c9, c10, c11⟩
  refine lv_iconst (v := (-1)) hx hb dX6_tell_72 (by decide) ?_
  exact r_iret C hr hlk hw dX6_tell_73 (Nat.le_refl _) (Nat.le_refl _) ⟨_, rfl, hq⟩

set_option maxRecDepth 100000 in
def lb_X7_init_56  (g : Gh) (M0 : Mem) (a0 : Nat) (post : Mem → Prop)    (M : Mem) (ck sk : Nat) : Prop :=
  ∀ M1, M1 = uI M a0 3 0 → ((ck + 1 ≤ 38 ∧ sk + 21 ≤ 1336) ∧ (∀ q4 M5, q4 = mT M1 → M5 = nw M1 14 21 → (∀ M9, M9 = uR M5 a0 4 (some q4) → (((ck + 1) ≤ 38 ∧ (sk + 21) ≤ 1336) ∧ (post M9)))))
set_option maxRecDepth 100000 in
def bd_X7_init_28  (g : Gh) (M0 : Mem) (a0 : Nat) (post : Mem → Prop)  (bk28 : Int32 × Mem × Nat × Nat → Prop) (x1 : Int32)  (M : Mem) (ck sk : Nat) : Prop :=
  ∃ q12, mR M a0 2 = some q12 ∧ (okc (gB g) M q12 19 ∧ ((((nI (mN M q12)) ≤ x1) → lb_X7_init_56  g M0 a0 post   M ck sk) ∧ (¬ ((nI (mN M q12)) ≤ x1) → (ck + 1 ≤ 38 ∧ sk + 5 ≤ 1336) ∧ (∀ q17 M18, q17 = mT M → M18 = nw M 3 0 → (((ck + 1) + 4 ≤ 38 ∧ (sk + 5) + 179 ≤ 1336) ∧ (wp_X3_init g M18 q17 (fun M23 => vp_in x1 (mN M23 q12) ∧ (∀ M26, M26 = uR M23 q12 (Int32.toNatClampNeg x1) (some q17) → (bk28 ((x1 + 1), M26, ((ck + 1) + 4), ((sk + 5) + 179)))))))))))
set_option maxRecDepth 100000 in
def wp_X7_init  (g : Gh) (M0 : Mem) (a0 : Nat) (post : Mem → Prop) : Prop :=
  okc (gB g) M0 a0 7 ∧ ((0 + 1 ≤ 38 ∧ 0 + 20 ≤ 1336) ∧ (∀ q29 M30, q29 = mT M0 → M30 = nw M0 15 20 → (∀ M34, M34 = uR M30 a0 0 (some q29) → (∀ M36, M36 = uI M34 a0 1 0 → (((0 + 1) + 1 ≤ 38 ∧ (0 + 20) + 7 ≤ 1336) ∧ (∀ q39 M40, q39 = mT M36 → M40 = nw M36 19 7 → (∀ M44, M44 = uR M40 a0 2 (some q39) → ((∃ n : Nat, lfp (fun bk z => bd_X7_init_28  g M0 a0 post  bk z.1 z.2.1 z.2.2.1 z.2.2.2) n (0, M44, ((0 + 1) + 1), ((0 + 20) + 7)))))))))))
set_option maxHeartbeats 4000000 in
set_option maxRecDepth 100000 in
theorem lt_X7_init_56 {l : Launch} {g : Gh} {p : Program} {e : Env} {s : State} {m : MethodId} {args : Array Value} {below : List Frame} {meth : Method} {c : Code} {H : Heap} {locs : List Loc} {ls : Array Slot} {M0 M : Mem} {a0 : Nat} {post : Mem → Prop}   {ck sk : Nat}  (C : Cx g p s m args c cX7_init 2 RX7) (hr : meth.sig.returnType = none) (hlk : meth.locks = false) (hn : meth.name = "<init>") (h0 : okc (gB g) M0 a0 7)  (hq : lb_X7_init_56  g M0 a0 post   M ck sk) (hw : Wd g s M0 M H locs) (hl : lv_has ls 2 [(0, .ref a0)]) : W p l e (rmo 2 38 1336) s m args below meth c H locs ck sk (MQ below (Cq g M0 (pV post)) args s 38 1336 (gA g)) (F0 m 56 ls []) := by
  have hx := C.1.1
  have hb := C.1.2.1
  unfold lb_X7_init_56 at hq
  have h00 := h0
  replace h0 := h0.up hw.2.2.1
  refine lv_aload_n hx hb dX7_init_56 rfl (lv_at hl 0 rfl) ?_
  refine lv_iconst (v := 0) hx hb dX7_init_57 (by decide) ?_
  refine pfX7_26 C hw (mle_rf _) h0 dX7_init_58 (fun H locs hw => ?_)
  generalize e2 : uI M a0 3 0 = M1 at hw
  replace hq := hq M1 e2.symm
  have h0 : okc (gB g) M1 a0 7 := by rw [← e2]; exact okc_uI h0
  refine lv_aload_n hx hb dX7_init_61 rfl (lv_at hl 0 rfl) ?_
  refine lv_bipush (v := 21) hx hb dX7_init_62 (by decide) ?_
  have hB := hw.B C.2.2.2.2.2
  obtain ⟨h3, hq⟩ := hq
  refine q_newa_14 (N' := 21) C hw (by decide) (by decide) (by decide) h3.1 h3.2 dX7_init_64 (fun H hw => ?_)
  have h8 := okc_nw (gB g) M1 14 21 hB
  have h0 := h0.up (mle_nw M1 14 21)
  generalize e6 : nw M1 14 21 = M5 at hw h8 h0
  generalize e7 : mT M1 = q4 at h8 ⊢
  replace hq := hq q4 M5 e7.symm e6.symm
  refine pfX7_29 (v := (some q4)) C hw (mle_rf _) h0 hn dX7_init_66 (fun H locs hw => ?_)
  generalize e10 : uR M5 a0 4 (some q4) = M9 at hw
  replace hq := hq M9 e10.symm
  have h0 : okc (gB g) M9 a0 7 := by rw [← e10]; exact okc_uR h0
  obtain ⟨h11, hq⟩ := hq
  exact r_vret C hr hlk hw dX7_init_69 h11.1 h11.2 ⟨rfl, hq⟩
set_option maxHeartbeats 4000000 in
set_option maxRecDepth 100000 in
theorem lp_X7_init_28 {l : Launch} {g : Gh} {p : Program} {e : Env} {s : State} {m : MethodId} {args : Array Value} {below : List Frame} {meth : Method} {c : Code} {M0 : Mem} {a0 : Nat} {post : Mem → Prop}  (C : Cx g p s m args c cX7_init 2 RX7) (hr : meth.sig.returnType = none) (hlk : meth.locks = false) (hn : meth.name = "<init>") (h0 : okc (gB g) M0 a0 7)  : ∀ (nf : Nat) (x1 : Int32)  (M : Mem) (ck sk : Nat) (H : Heap) (locs : List Loc) (ls : Array Slot), lfp (fun bk z => bd_X7_init_28  g M0 a0 post  bk z.1 z.2.1 z.2.2.1 z.2.2.2) nf (x1, M, ck, sk) → Wd g s M0 M H locs → lv_has ls 2 [(0, .ref a0), (1, .int x1)] → W p l e (rmo 2 38 1336) s m args below meth c H locs ck sk (MQ below (Cq g M0 (pV post)) args s 38 1336 (gA g)) (F0 m 28 ls []) := by
  have hx := C.1.1
  have hb := C.1.2.1
  intro nf
  induction nf with
  | zero => intro _ _ _ _ H locs ls hq; exact hq.elim
  | succ nf hk28 =>
    intro x1 M ck sk H locs ls hq hw hl
    replace hq : bd_X7_init_28  g M0 a0 post  (lfp (fun bk z => bd_X7_init_28  g M0 a0 post  bk z.1 z.2.1 z.2.2.1 z.2.2.2) nf) x1 M ck sk := hq
    unfold bd_X7_init_28 at hq
    have h00 := h0
    replace h0 := h0.up hw.2.2.1
    refine lv_iload_n hx hb dX7_init_28 rfl (lv_at hl 1 rfl) ?_
    refine lv_aload_n hx hb dX7_init_29 rfl (lv_at hl 0 rfl) ?_
    obtain ⟨q12, e13, hq⟩ := hq
    refine gfX7_21 C hw (mle_rf _) h0 e13 dX7_init_30 ?_
    obtain ⟨h14, hq⟩ := hq
    refine q_alen C hw (mle_rf _) h14 (by decide) (by decide) rfl dX7_init_33 ?_
    refine lv_icmp_ge (tgt := 56) hx hb dX7_init_34 (by decide) (fun c15 => ?_) (fun c15 => ?_)
    · replace hq := hq.1 c15
      exact lt_X7_init_56  C hr hlk hn h00  hq hw (lv_sub hl [0] rfl)
    · replace hq := hq.2 c15
      refine lv_aload_n hx hb dX7_init_37 rfl (lv_at hl 0 rfl) ?_
      refine gfX7_21 C hw (mle_rf _) h0 e13 dX7_init_38 ?_
      refine lv_iload_n hx hb dX7_init_41 rfl (lv_at hl 1 rfl) ?_
      have hB := hw.B C.2.2.2.2.2
      obtain ⟨h16, hq⟩ := hq
      refine r_new tyX3 (T := TX3) (N := 5) (ci := 3) C hw rfl (by decide) inX3 tyX3_ok w_120 w_122 w_5 df_3 h16.1 h16.2 dX7_init_42 (fun H hw => ?_)
      have h21 := okc_nw (gB g) M 3 0 hB
      have h0 := h0.up (mle_nw M 3 0)
      have h14 := h14.up (mle_nw M 3 0)
      generalize e19 : nw M 3 0 = M18 at hw h21 h0 h14
      generalize e20 : mT M = q17 at h21 ⊢
      replace hq := hq q17 M18 e20.symm e19.symm
      refine lv_dup hx hb dX7_init_45 rfl ?_
      obtain ⟨h24, hq⟩ := hq
      refine r_callI (index := 25) (n := 0) (d2 := 1) (mc := 4) (ms := 179) (As := []) (rest := [.ref q17, .int x1, .ref q12]) C hw (ct_X3_init hq) kiX7_25 ⟨by decide, by decide⟩ ⟨h24.1, h24.2⟩ rfl hl.1 rfl (Nat.le_of_ble_eq_true rfl) dX7_init_46 (fun r M23 H locs hp hle hw => ?_)
      obtain ⟨rfl, hq⟩ := hp
      have h0 := h0.up hle
      have h14 := h14.up hle
      have h21 := h21.up hle
      refine W.eq (g2 := F0 m 49 ls [.ref q17, .int x1, .ref q12]) rfl ?_
      obtain ⟨h25, hq⟩ := hq
      refine q_aast (ci := 3) C hw (mle_rf _) h14 (by decide) (by decide) rfl h21 (by decide) rfl h25 dX7_init_49 (fun H locs hw => ?_)
      generalize e27 : uR M23 q12 (Int32.toNatClampNeg x1) (some q17) = M26 at hw
      replace hq := hq M26 e27.symm
      have h0 : okc (gB g) M26 a0 7 := by rw [← e27]; exact okc_uR h0
      refine lv_iinc (v := (x1 + 1)) (lv' := [(1, .int (x1 + 1)), (0, .ref a0)]) hx hb dX7_init_50 hl (k := 1) rfl rfl (by decide) rfl (fun ls hl => ?_)
      refine lv_goto (tgt := 28) hx hb dX7_init_53 (by decide) ?_
      exact hk28 _ _ _ _ _ _ _ hq hw (lv_sub hl [1, 0] rfl)
set_option maxHeartbeats 4000000 in
set_option maxRecDepth 100000 in
theorem ct_X7_init {l : Launch} {g : Gh} {M0 : Mem} {a0 : Nat} {post : Mem → Prop}  (hq : wp_X7_init  g M0 a0 post) : Ct l g yX7_init cX7_init 2 none 2 38 1336 [.ref a0] M0 (pV post) := by
  unfold wp_X7_init at hq
  obtain ⟨h0, hq⟩ := hq
  have h00 := h0
  refine Ct.of (by decide) (Nat.le_of_ble_eq_true rfl) ?_
  intro p e s m below meth c ls C hr hlk hn hl hw
  have hx := C.1.1
  have hb := C.1.2.1
  have hl : lv_has ls 2 [(0, .ref a0)] := hl
  refine lv_aload_n hx hb dX7_init_0 rfl (lv_at hl 0 rfl) ?_
  refine W.objInit hx hb C.1.2.2.2.1 (C.1.2.2.2.2 _ w_119) (C.1.2.2.2.2 _ w_35) (C.1.2.2.2.2 _ w_objInit) rfl (by rw [C.1.2.2.1]; exact hl.1) rfl dX7_init_1 (Nat.le_of_ble_eq_true rfl) (Nat.le_of_ble_eq_true rfl) ?_
  refine W.eq (g2 := F0 m 4 ls []) rfl ?_
  refine lv_aload_n hx hb dX7_init_4 rfl (lv_at hl 0 rfl) ?_
  refine lv_bipush (v := 20) hx hb dX7_init_5 (by decide) ?_
  have hB := hw.B C.2.2.2.2.2
  obtain ⟨h28, hq⟩ := hq
  refine q_newa_15 (N' := 20) C hw (by decide) (by decide) (by decide) h28.1 h28.2 dX7_init_7 (fun H hw => ?_)
  have h33 := okc_nw (gB g) M0 15 20 hB
  have h0 := h0.up (mle_nw M0 15 20)
  generalize e31 : nw M0 15 20 = M30 at hw h33 h0
  generalize e32 : mT M0 = q29 at h33 ⊢
  replace hq := hq q29 M30 e32.symm e31.symm
  refine pfX7_9 (v := (some q29)) C hw (mle_rf _) h0 hn dX7_init_9 (fun H locs hw => ?_)
  generalize e35 : uR M30 a0 0 (some q29) = M34 at hw
  replace hq := hq M34 e35.symm
  have h0 : okc (gB g) M34 a0 7 := by rw [← e35]; exact okc_uR h0
  refine lv_aload_n hx hb dX7_init_12 rfl (lv_at hl 0 rfl) ?_
  refine lv_iconst (v := 0) hx hb dX7_init_13 (by decide) ?_
  refine pfX7_13 C hw (mle_rf _) h0 dX7_init_14 (fun H locs hw => ?_)
  generalize e37 : uI M34 a0 1 0 = M36 at hw
  replace hq := hq M36 e37.symm
  have h0 : okc (gB g) M36 a0 7 := by rw [← e37]; exact okc_uI h0
  refine lv_aload_n hx hb dX7_init_17 rfl (lv_at hl 0 rfl) ?_
  refine lv_bipush (v := 7) hx hb dX7_init_18 (by decide) ?_
  have hB := hw.B C.2.2.2.2.2
  obtain ⟨h38, hq⟩ := hq
  refine r_newq (kd := 19) (N' := 7) C hw w_120 C.2.2.2.1.2.1 rfl (by decide) (by decide) (by decide) (by decide) (by decide) h38.1 h38.2 dX7_init_20 (fun H hw => ?_)
  have h43 := okc_nw (gB g) M36 19 7 hB
  have h0 := h0.up (mle_nw M36 19 7)
  generalize e41 : nw M36 19 7 = M40 at hw h43 h0
  generalize e42 : mT M36 = q39 at h43 ⊢
  replace hq := hq q39 M40 e42.symm e41.symm
  refine pfX7_21 (v := (some q39)) C hw (mle_rf _) h0 hn dX7_init_23 (fun H locs hw => ?_)
  generalize e45 : uR M40 a0 2 (some q39) = M44 at hw
  replace hq := hq M44 e45.symm
  have h0 : okc (gB g) M44 a0 7 := by rw [← e45]; exact okc_uR h0
  refine lv_iconst (v := 0) hx hb dX7_init_26 (by decide) ?_
  refine lv_istore_n (lv' := [(1, .int 0), (0, .ref a0)]) hx hb dX7_init_27 rfl hl (by decide) rfl (fun ls hl => ?_)
  obtain ⟨nf, hq⟩ := hq
  exact lp_X7_init_28  C hr hlk hn h00  nf _ _ _ _ _ _ _ hq hw (lv_sub hl [1, 0] rfl)

set_option maxRecDepth 100000 in
def lb_X7_readFrom_64  (g : Gh) (M0 : Mem) (a0 : Nat) (a1 : Nat) (post : Int32 → Mem → Prop) (bk11 : Int32 × Mem → Prop) (x2 : Int32) (s0 : Int32) (M : Mem) : Prop :=
  ((s0 = 0) → post 0 M) ∧ (¬ (s0 = 0) → (((mI M a0 1) < 20) → ∃ q3, mR M a0 0 = some q3 ∧ (okc (gB g) M0 a1 10 ∧ (okc (gB g) M0 q3 15 ∧ (vp_in (mI M a0 1) (mN M0 q3) ∧ (∀ M8, M8 = uJ M q3 (Int32.toNatClampNeg (mI M a0 1)) (mJ M a1 4) → (∀ M10, M10 = uI M8 a0 1 ((mI M8 a0 1) + 1) → (bk11 ((x2 + 1), M10)))))))) ∧ (¬ ((mI M a0 1) < 20) → post 0 M))
set_option maxRecDepth 100000 in
def lb_X7_readFrom_30  (g : Gh) (M0 : Mem) (a0 : Nat) (a1 : Nat) (post : Int32 → Mem → Prop)    (M : Mem) : Prop :=
  (((mI M a0 1) ≤ 0) → post 0 M) ∧ (¬ ((mI M a0 1) ≤ 0) → post 1 M)
set_option maxRecDepth 100000 in
def bd_X7_readFrom_11  (g : Gh) (M0 : Mem) (a0 : Nat) (a1 : Nat) (post : Int32 → Mem → Prop)  (bk11 : Int32 × Mem → Prop) (x2 : Int32)  (M : Mem) : Prop :=
  ((20 < x2) → post 0 M) ∧ (¬ (20 < x2) → wp_X10_readNext g M a1 (gK g 1) (fun M15 => okc (gB g) M0 a1 10 ∧ ((((mI M15 a1 2) = 0) → lb_X7_readFrom_30  g M0 a0 a1 post   M15) ∧ (¬ ((mI M15 a1 2) = 0) → (((mI M15 a1 2) = 1) → lb_X7_readFrom_64  g M0 a0 a1 post bk11 x2 1 M15) ∧ (¬ ((mI M15 a1 2) = 1) → (((mI M15 a1 2) = 2) → lb_X7_readFrom_64  g M0 a0 a1 post bk11 x2 1 M15) ∧ (¬ ((mI M15 a1 2) = 2) → lb_X7_readFrom_64  g M0 a0 a1 post bk11 x2 0 M15))))))
set_option maxRecDepth 100000 in
def wp_X7_readFrom  (g : Gh) (M0 : Mem) (a0 : Nat) (a1 : Nat) (post : Int32 → Mem → Prop) : Prop :=
  okc (gB g) M0 a0 7 ∧ (∀ M20, M20 = uI M0 a0 1 0 → (wp_X10_rewind g M20 a1 (fun M23 => (∃ n : Nat, lfp (fun bk z => bd_X7_readFrom_11  g M0 a0 a1 post  bk z.1 z.2) n (0, M23)))))
set_option maxHeartbeats 4000000 in
set_option maxRecDepth 100000 in
theorem lt_X7_readFrom_64 {l : Launch} {g : Gh} {p : Program} {e : Env} {s : State} {m : MethodId} {args : Array Value} {below : List Frame} {meth : Method} {c : Code} {H : Heap} {locs : List Loc} {ls : Array Slot} {M0 M : Mem} {a0 : Nat} {a1 : Nat} {post : Int32 → Mem → Prop} {x2 : Int32} {s0 : Int32}  (C : Cx g p s m args c cX7_readFrom 4 RX7) (hr : meth.sig.returnType = (some .boolean)) (hlk : meth.locks = false) (hn : meth.name = "readFrom") (h0 : okc (gB g) M0 a0 7) {bk11 : Int32 × Mem → Prop} (hk11 : ∀ (x2 : Int32) (M : Mem) (H : Heap) (locs : List Loc) (ls : Array Slot), bk11 (x2, M) → Wd g s M0 M H locs → lv_has ls 4 [(0, .ref a0), (1, .ref a1), (2, .int x2)] → W p l e (rmo 9 0 0) s m args below meth c H locs 0 0 (MQ below (Cq g M0 (pI post)) args s 0 0 (gA g)) (F0 m 11 ls [])) (hq : lb_X7_readFrom_64  g M0 a0 a1 post bk11 x2 s0 M) (hw : Wd g s M0 M H locs) (hl : lv_has ls 4 [(0, .ref a0), (1, .ref a1), (2, .int x2)]) : W p l e (rmo 9 0 0) s m args below meth c H locs 0 0 (MQ below (Cq g M0 (pI post)) args s 0 0 (gA g)) (F0 m 64 ls [.int s0]) := by
  have hx := C.1.1
  have hb := C.1.2.1
  unfold lb_X7_readFrom_64 at hq
  refine lv_istore_n (lv' := [(3, .int s0), (0, .ref a0), (1, .ref a1), (2, .int x2)]) hx hb dX7_readFrom_64 rfl hl (by decide) rfl (fun ls hl => ?_)
  refine lv_iload_n hx hb dX7_readFrom_65 rfl (lv_at hl 0 rfl) ?_
  refine lv_if_eq (tgt := 78) hx hb dX7_readFrom_66 (by decide) (fun c1 => ?_) (fun c1 => ?_)
  · replace hq := hq.1 c1
    refine lv_iconst (v := 0) hx hb dX7_readFrom_78 (by decide) ?_
    exact r_zret C hr hlk hw dX7_readFrom_79 (Nat.le_refl _) (Nat.le_refl _) (by decide) ⟨_, rfl, hq⟩
  · replace hq := hq.2 c1
    refine lv_aload_n hx hb dX7_readFrom_69 rfl (lv_at hl 1 rfl) ?_
    refine gfX7_13 C hw hw.2.2.1 h0 dX7_readFrom_70 ?_
    refine lv_bipush (v := 20) hx hb dX7_readFrom_73 (by decide) ?_
    refine lv_icmp_lt (tgt := 80) hx hb dX7_readFrom_75 (by decide) (fun c2 => ?_) (fun c2 => ?_)
    · replace hq := hq.1 c2
      refine lv_aload_n hx hb dX7_readFrom_80 rfl (lv_at hl 1 rfl) ?_
      obtain ⟨q3, e4, hq⟩ := hq
      refine gfX7_9 C hw hw.2.2.1 h0 e4 dX7_readFrom_81 ?_
      refine lv_aload_n hx hb dX7_readFrom_84 rfl (lv_at hl 1 rfl) ?_
      refine gfX7_13 C hw hw.2.2.1 h0 dX7_readFrom_85 ?_
      refine lv_aload_n hx hb dX7_readFrom_88 rfl (lv_at hl 2 rfl) ?_
      obtain ⟨h5, hq⟩ := hq
      refine gfX7_47 C hw hw.2.2.1 h5 dX7_readFrom_89 ?_
      obtain ⟨h6, hq⟩ := hq
      obtain ⟨h7, hq⟩ := hq
      refine q_last C hw hw.2.2.1 h6 h7 dX7_readFrom_92 (fun H locs hw => ?_)
      generalize e9 : uJ M q3 (Int32.toNatClampNeg (mI M a0 1)) (mJ M a1 4) = M8 at hw
      replace hq := hq M8 e9.symm
      have e4 : mR M8 a0 0 = some q3 := by rw [← e9, mR_uJ]; exact e4
      refine lv_aload_n hx hb dX7_readFrom_93 rfl (lv_at hl 1 rfl) ?_
      refine lv_dup hx hb dX7_readFrom_94 rfl ?_
      refine gfX7_13 C hw hw.2.2.1 h0 dX7_readFrom_95 ?_
      refine lv_iconst (v := 1) hx hb dX7_readFrom_98 (by decide) ?_
      refine lv_iadd hx hb dX7_readFrom_99 ?_
      refine pfX7_13 C hw hw.2.2.1 h0 dX7_readFrom_100 (fun H locs hw => ?_)
      generalize e11 : uI M8 a0 1 ((mI M8 a0 1) + 1) = M10 at hw
      replace hq := hq M10 e11.symm
      have e4 : mR M10 a0 0 = some q3 := by rw [← e11, mR_uI]; exact e4
      refine lv_iinc (v := (x2 + 1)) (lv' := [(2, .int (x2 + 1)), (3, .int s0), (0, .ref a0), (1, .ref a1)]) hx hb dX7_readFrom_103 hl (k := 3) rfl rfl (by decide) rfl (fun ls hl => ?_)
      refine lv_goto (tgt := 11) hx hb dX7_readFrom_106 (by decide) ?_
      exact hk11 _ _ _ _ _ hq hw (lv_sub hl [2, 3, 0] rfl)
    · replace hq := hq.2 c2
      refine lv_iconst (v := 0) hx hb dX7_readFrom_78 (by decide) ?_
      exact r_zret C hr hlk hw dX7_readFrom_79 (Nat.le_refl _) (Nat.le_refl _) (by decide) ⟨_, rfl, hq⟩
set_option maxHeartbeats 4000000 in
set_option maxRecDepth 100000 in
theorem lt_X7_readFrom_30 {l : Launch} {g : Gh} {p : Program} {e : Env} {s : State} {m : MethodId} {args : Array Value} {below : List Frame} {meth : Method} {c : Code} {H : Heap} {locs : List Loc} {ls : Array Slot} {M0 M : Mem} {a0 : Nat} {a1 : Nat} {post : Int32 → Mem → Prop}    (C : Cx g p s m args c cX7_readFrom 4 RX7) (hr : meth.sig.returnType = (some .boolean)) (hlk : meth.locks = false) (hn : meth.name = "readFrom") (h0 : okc (gB g) M0 a0 7)  (hq : lb_X7_readFrom_30  g M0 a0 a1 post   M) (hw : Wd g s M0 M H locs) (hl : lv_has ls 4 [(0, .ref a0), (1, .ref a1)]) : W p l e (rmo 9 0 0) s m args below meth c H locs 0 0 (MQ below (Cq g M0 (pI post)) args s 0 0 (gA g)) (F0 m 30 ls []) := by
  have hx := C.1.1
  have hb := C.1.2.1
  unfold lb_X7_readFrom_30 at hq
  refine lv_aload_n hx hb dX7_readFrom_30 rfl (lv_at hl 0 rfl) ?_
  refine gfX7_13 C hw hw.2.2.1 h0 dX7_readFrom_31 ?_
  refine lv_if_le (tgt := 41) hx hb dX7_readFrom_34 (by decide) (fun c12 => ?_) (fun c12 => ?_)
  · replace hq := hq.1 c12
    refine lv_iconst (v := 0) hx hb dX7_readFrom_41 (by decide) ?_
    exact r_zret C hr hlk hw dX7_readFrom_42 (Nat.le_refl _) (Nat.le_refl _) (by decide) ⟨_, rfl, hq⟩
  · replace hq := hq.2 c12
    refine lv_iconst (v := 1) hx hb dX7_readFrom_37 (by decide) ?_
    refine lv_goto (tgt := 42) hx hb dX7_readFrom_38 (by decide) ?_
    exact r_zret C hr hlk hw dX7_readFrom_42 (Nat.le_refl _) (Nat.le_refl _) (by decide) ⟨_, rfl, hq⟩
set_option maxHeartbeats 4000000 in
set_option maxRecDepth 100000 in
theorem lp_X7_readFrom_11 {l : Launch} {g : Gh} {p : Program} {e : Env} {s : State} {m : MethodId} {args : Array Value} {below : List Frame} {meth : Method} {c : Code} {M0 : Mem} {a0 : Nat} {a1 : Nat} {post : Int32 → Mem → Prop}  (C : Cx g p s m args c cX7_readFrom 4 RX7) (hr : meth.sig.returnType = (some .boolean)) (hlk : meth.locks = false) (hn : meth.name = "readFrom") (h0 : okc (gB g) M0 a0 7)  : ∀ (nf : Nat) (x2 : Int32)  (M : Mem) (H : Heap) (locs : List Loc) (ls : Array Slot), lfp (fun bk z => bd_X7_readFrom_11  g M0 a0 a1 post  bk z.1 z.2) nf (x2, M) → Wd g s M0 M H locs → lv_has ls 4 [(0, .ref a0), (1, .ref a1), (2, .int x2)] → W p l e (rmo 9 0 0) s m args below meth c H locs 0 0 (MQ below (Cq g M0 (pI post)) args s 0 0 (gA g)) (F0 m 11 ls []) := by
  have hx := C.1.1
  have hb := C.1.2.1
  intro nf
  induction nf with
  | zero => intro _ _ H locs ls hq; exact hq.elim
  | succ nf hk11 =>
    intro x2 M H locs ls hq hw hl
    replace hq : bd_X7_readFrom_11  g M0 a0 a1 post  (lfp (fun bk z => bd_X7_readFrom_11  g M0 a0 a1 post  bk z.1 z.2) nf) x2 M := hq
    unfold bd_X7_readFrom_11 at hq
    refine lv_iload_n hx hb dX7_readFrom_11 rfl (lv_at hl 2 rfl) ?_
    refine lv_bipush (v := 20) hx hb dX7_readFrom_12 (by decide) ?_
    refine lv_icmp_gt (tgt := 109) hx hb dX7_readFrom_14 (by decide) (fun c13 => ?_) (fun c13 => ?_)
    · replace hq := hq.1 c13
      refine lv_iconst (v := 0) hx hb dX7_readFrom_109 (by decide) ?_
      exact r_zret C hr hlk hw dX7_readFrom_110 (Nat.le_refl _) (Nat.le_refl _) (by decide) ⟨_, rfl, hq⟩
    · replace hq := hq.2 c13
      refine lv_aload_n hx hb dX7_readFrom_17 rfl (lv_at hl 1 rfl) ?_
      refine va_ldcS hx hb C.1.2.2.2.1 (st_1 C.2.2.2.2.1) dX7_readFrom_18 ?_
      refine r_callV (T := TX10) (N := 6) (ci := 10) (index := 40) (n := 1) (d2 := 8) (mc := 0) (ms := 0) (As := [.ref (gK g 1)]) (rest := []) C hw (ct_X10_readNext hq) kvX7_40 hq.1 (by decide) rfl ⟨by decide, by decide⟩ ⟨by decide, by decide⟩ rfl hl.1 rfl (Nat.le_of_ble_eq_true rfl) dX7_readFrom_20 (fun r M15 H locs hp hle hw => ?_)
      obtain ⟨rfl, hq⟩ := hp
      refine W.eq (g2 := F0 m 23 ls []) rfl ?_
      refine lv_aload_n hx hb dX7_readFrom_23 rfl (lv_at hl 1 rfl) ?_
      obtain ⟨h16, hq⟩ := hq
      refine gfX7_44 C hw hw.2.2.1 h16 dX7_readFrom_24 ?_
      refine lv_if_ne (tgt := 43) hx hb dX7_readFrom_27 (by decide) (fun c17 => ?_) (fun c17 => ?_)
      · replace hq := hq.2 c17
        refine lv_aload_n hx hb dX7_readFrom_43 rfl (lv_at hl 1 rfl) ?_
        refine gfX7_44 C hw hw.2.2.1 h16 dX7_readFrom_44 ?_
        refine lv_iconst (v := 1) hx hb dX7_readFrom_47 (by decide) ?_
        refine lv_icmp_eq (tgt := 59) hx hb dX7_readFrom_48 (by decide) (fun c18 => ?_) (fun c18 => ?_)
        · replace hq := hq.1 c18
          refine lv_iconst (v := 1) hx hb dX7_readFrom_59 (by decide) ?_
          refine lv_goto (tgt := 64) hx hb dX7_readFrom_60 (by decide) ?_
          exact lt_X7_readFrom_64  C hr hlk hn h0 hk11 hq hw (lv_sub hl [0, 1, 2] rfl)
        · replace hq := hq.2 c18
          refine lv_aload_n hx hb dX7_readFrom_51 rfl (lv_at hl 1 rfl) ?_
          refine gfX7_44 C hw hw.2.2.1 h16 dX7_readFrom_52 ?_
          refine lv_iconst (v := 2) hx hb dX7_readFrom_55 (by decide) ?_
          refine lv_icmp_ne (tgt := 63) hx hb dX7_readFrom_56 (by decide) (fun c19 => ?_) (fun c19 => ?_)
          · replace hq := hq.2 c19
            refine lv_iconst (v := 0) hx hb dX7_readFrom_63 (by decide) ?_
            exact lt_X7_readFrom_64  C hr hlk hn h0 hk11 hq hw (lv_sub hl [0, 1, 2] rfl)
          · replace hq := hq.1 c19
            refine lv_iconst (v := 1) hx hb dX7_readFrom_59 (by decide) ?_
            refine lv_goto (tgt := 64) hx hb dX7_readFrom_60 (by decide) ?_
            exact lt_X7_readFrom_64  C hr hlk hn h0 hk11 hq hw (lv_sub hl [0, 1, 2] rfl)
      · replace hq := hq.1 c17
        exact lt_X7_readFrom_30  C hr hlk hn h0  hq hw (lv_sub hl [0, 1] rfl)
set_option maxHeartbeats 4000000 in
set_option maxRecDepth 100000 in
theorem ct_X7_readFrom {l : Launch} {g : Gh} {M0 : Mem} {a0 : Nat} {a1 : Nat} {post : Int32 → Mem → Prop}  (hq : wp_X7_readFrom  g M0 a0 a1 post) : Ct l g yX7_readFrom cX7_readFrom 4 (some .boolean) 9 0 0 [.ref a0, .ref a1] M0 (pI post) := by
  unfold wp_X7_readFrom at hq
  obtain ⟨h0, hq⟩ := hq
  refine Ct.of (by decide) (Nat.le_of_ble_eq_true rfl) ?_
  intro p e s m below meth c ls C hr hlk hn hl hw
  have hx := C.1.1
  have hb := C.1.2.1
  have hl : lv_has ls 4 [(0, .ref a0), (1, .ref a1)] := hl
  refine lv_aload_n hx hb dX7_readFrom_0 rfl (lv_at hl 0 rfl) ?_
  refine lv_iconst (v := 0) hx hb dX7_readFrom_1 (by decide) ?_
  refine pfX7_13 C hw hw.2.2.1 h0 dX7_readFrom_2 (fun H locs hw => ?_)
  generalize e21 : uI M0 a0 1 0 = M20 at hw
  replace hq := hq M20 e21.symm
  refine lv_aload_n hx hb dX7_readFrom_5 rfl (lv_at hl 1 rfl) ?_
  refine r_callV (T := TX10) (N := 6) (ci := 10) (index := 33) (n := 0) (d2 := 0) (mc := 0) (ms := 0) (As := []) (rest := []) C hw (ct_X10_rewind hq) kvX7_33 hq.1 (by decide) rfl ⟨by decide, by decide⟩ ⟨by decide, by decide⟩ rfl hl.1 rfl (Nat.le_of_ble_eq_true rfl) dX7_readFrom_6 (fun r M23 H locs hp hle hw => ?_)
  obtain ⟨rfl, hq⟩ := hp
  refine W.eq (g2 := F0 m 9 ls []) rfl ?_
  refine lv_iconst (v := 0) hx hb dX7_readFrom_9 (by decide) ?_
  refine lv_istore_n (lv' := [(2, .int 0), (0, .ref a0), (1, .ref a1)]) hx hb dX7_readFrom_10 rfl hl (by decide) rfl (fun ls hl => ?_)
  obtain ⟨nf, hq⟩ := hq
  exact lp_X7_readFrom_11  C hr hlk hn h0  nf _ _ _ _ _ hq hw (lv_sub hl [1, 2, 0] rfl)

set_option maxRecDepth 100000 in
def wp_X7_openFrame  (g : Gh) (M0 : Mem) (a0 : Nat) (post : Mem → Prop) : Prop :=
  okc (gB g) M0 a0 7 ∧ (∃ q1, mR M0 a0 2 = some q1 ∧ (okc (gB g) M0 q1 19 ∧ ((((nI (mN M0 q1)) ≤ ((mI M0 a0 3) + 1)) → post M0) ∧ (¬ ((nI (mN M0 q1)) ≤ ((mI M0 a0 3) + 1)) → ∀ M5, M5 = uI M0 a0 3 ((mI M0 a0 3) + 1) → (vp_in (mI M5 a0 3) (mN M0 q1) ∧ (∃ q8, mR M5 q1 (Int32.toNatClampNeg (mI M5 a0 3)) = some q8 ∧ (wp_X3_restart g M5 q8 (fun M11 => post M11))))))))
set_option maxHeartbeats 4000000 in
set_option maxRecDepth 100000 in
theorem ct_X7_openFrame {l : Launch} {g : Gh} {M0 : Mem} {a0 : Nat} {post : Mem → Prop}  (hq : wp_X7_openFrame  g M0 a0 post) : Ct l g yX7_openFrame cX7_openFrame 1 none 2 0 0 [.ref a0] M0 (pV post) := by
  unfold wp_X7_openFrame at hq
  obtain ⟨h0, hq⟩ := hq
  refine Ct.of (by decide) (Nat.le_of_ble_eq_true rfl) ?_
  intro p e s m below meth c ls C hr hlk hn hl hw
  have hx := C.1.1
  have hb := C.1.2.1
  have hl : lv_has ls 1 [(0, .ref a0)] := hl
  refine lv_aload_n hx hb dX7_openFrame_0 rfl (lv_at hl 0 rfl) ?_
  refine gfX7_26 C hw hw.2.2.1 h0 dX7_openFrame_1 ?_
  refine lv_iconst (v := 1) hx hb dX7_openFrame_4 (by decide) ?_
  refine lv_iadd hx hb dX7_openFrame_5 ?_
  refine lv_aload_n hx hb dX7_openFrame_6 rfl (lv_at hl 0 rfl) ?_
  obtain ⟨q1, e2, hq⟩ := hq
  refine gfX7_21 C hw hw.2.2.1 h0 e2 dX7_openFrame_7 ?_
  obtain ⟨h3, hq⟩ := hq
  refine q_alen C hw hw.2.2.1 h3 (by decide) (by decide) rfl dX7_openFrame_10 ?_
  refine lv_icmp_ge (tgt := 36) hx hb dX7_openFrame_11 (by decide) (fun c4 => ?_) (fun c4 => ?_)
  · replace hq := hq.1 c4
    exact r_vret C hr hlk hw dX7_openFrame_36 (Nat.le_refl _) (Nat.le_refl _) ⟨rfl, hq⟩
  · replace hq := hq.2 c4
    refine lv_aload_n hx hb dX7_openFrame_14 rfl (lv_at hl 0 rfl) ?_
    refine lv_dup hx hb dX7_openFrame_15 rfl ?_
    refine gfX7_26 C hw hw.2.2.1 h0 dX7_openFrame_16 ?_
    refine lv_iconst (v := 1) hx hb dX7_openFrame_19 (by decide) ?_
    refine lv_iadd hx hb dX7_openFrame_20 ?_
    refine pfX7_26 C hw hw.2.2.1 h0 dX7_openFrame_21 (fun H locs hw => ?_)
    generalize e6 : uI M0 a0 3 ((mI M0 a0 3) + 1) = M5 at hw
    replace hq := hq M5 e6.symm
    have e2 : mR M5 a0 2 = some q1 := by rw [← e6, mR_uI]; exact e2
    refine lv_aload_n hx hb dX7_openFrame_24 rfl (lv_at hl 0 rfl) ?_
    refine gfX7_21 C hw hw.2.2.1 h0 e2 dX7_openFrame_25 ?_
    refine lv_aload_n hx hb dX7_openFrame_28 rfl (lv_at hl 0 rfl) ?_
    refine gfX7_26 C hw hw.2.2.1 h0 dX7_openFrame_29 ?_
    obtain ⟨h7, hq⟩ := hq
    obtain ⟨q8, e9, hq⟩ := hq
    refine q_aald C hw hw.2.2.1 h3 (by decide) (by decide) rfl h7 e9 dX7_openFrame_32 ?_
    refine r_callV (T := TX3) (N := 5) (ci := 3) (index := 51) (n := 0) (d2 := 1) (mc := 0) (ms := 0) (As := []) (rest := []) C hw (ct_X3_restart hq) kvX7_51 hq.1 (by decide) rfl ⟨by decide, by decide⟩ ⟨by decide, by decide⟩ rfl hl.1 rfl (Nat.le_of_ble_eq_true rfl) dX7_openFrame_33 (fun r M11 H locs hp hle hw => ?_)
    obtain ⟨rfl, hq⟩ := hp
    refine W.eq (g2 := F0 m 36 ls []) rfl ?_
    exact r_vret C hr hlk hw dX7_openFrame_36 (Nat.le_refl _) (Nat.le_refl _) ⟨rfl, hq⟩

set_option maxRecDepth 100000 in
def lb_X7_endsOf_50  (g : Gh) (M0 : Mem) (a0 : Nat) (a1 : Nat) (p2 : Int32) (p3 : Int32) (post : Int32 → Mem → Prop)    (M : Mem) : Prop :=
  okc (gB g) M0 a1 3 ∧ (∃ q2, mR M a1 1 = some q2 ∧ (okc (gB g) M0 q2 14 ∧ (vp_in p3 (mN M0 q2) ∧ (post (mI M q2 (Int32.toNatClampNeg p3)) M))))
set_option maxRecDepth 100000 in
def wp_X7_endsOf  (g : Gh) (M0 : Mem) (a0 : Nat) (a1 : Nat) (p2 : Int32) (p3 : Int32) (post : Int32 → Mem → Prop) : Prop :=
  okc (gB g) M0 a0 7 ∧ ((((mI M0 a0 1) < p3) → post 0 M0) ∧ (¬ ((mI M0 a0 1) < p3) → okc (gB g) M0 a1 3 ∧ (∃ q8, mR M0 a1 1 = some q8 ∧ (okc (gB g) M0 q8 14 ∧ (((p3 < (nI (mN M0 q8))) → ((p2 = 125) → wp_X3_endsInAnyOrder g M0 a1 p3 (fun v15 M16 => post v15 M16)) ∧ (¬ (p2 = 125) → ((p2 = 93) → vp_in p3 (mN M0 q8) ∧ (post ((mI M0 q8 (Int32.toNatClampNeg p3)) ||| (1 <<< (p3 &&& 31))) M0)) ∧ (¬ (p2 = 93) → lb_X7_endsOf_50  g M0 a0 a1 p2 p3 post   M0))) ∧ (¬ (p3 < (nI (mN M0 q8))) → post 0 M0))))))
set_option maxHeartbeats 4000000 in
set_option maxRecDepth 100000 in
theorem lt_X7_endsOf_50 {l : Launch} {g : Gh} {p : Program} {e : Env} {s : State} {m : MethodId} {args : Array Value} {below : List Frame} {meth : Method} {c : Code} {H : Heap} {locs : List Loc} {ls : Array Slot} {M0 M : Mem} {a0 : Nat} {a1 : Nat} {p2 : Int32} {p3 : Int32} {post : Int32 → Mem → Prop}    (C : Cx g p s m args c cX7_endsOf 4 RX7) (hr : meth.sig.returnType = (some .int)) (hlk : meth.locks = false) (hn : meth.name = "endsOf") (h0 : okc (gB g) M0 a0 7)  (hq : lb_X7_endsOf_50  g M0 a0 a1 p2 p3 post   M) (hw : Wd g s M0 M H locs) (hl : lv_has ls 4 [(0, .ref a0), (1, .ref a1), (2, .int p2), (3, .int p3)]) : W p l e (rmo 2 0 0) s m args below meth c H locs 0 0 (MQ below (Cq g M0 (pI post)) args s 0 0 (gA g)) (F0 m 50 ls []) := by
  have hx := C.1.1
  have hb := C.1.2.1
  unfold lb_X7_endsOf_50 at hq
  refine lv_aload_n hx hb dX7_endsOf_50 rfl (lv_at hl 1 rfl) ?_
  obtain ⟨h1, hq⟩ := hq
  obtain ⟨q2, e3, hq⟩ := hq
  refine gfX7_77 C hw hw.2.2.1 h1 e3 dX7_endsOf_51 ?_
  refine lv_iload_n hx hb dX7_endsOf_54 rfl (lv_at hl 3 rfl) ?_
  obtain ⟨h4, hq⟩ := hq
  obtain ⟨h5, hq⟩ := hq
  refine q_iald C hw hw.2.2.1 h4 h5 dX7_endsOf_55 ?_
  exact r_iret C hr hlk hw dX7_endsOf_56 (Nat.le_refl _) (Nat.le_refl _) ⟨_, rfl, hq⟩
set_option maxHeartbeats 4000000 in
set_option maxRecDepth 100000 in
theorem ct_X7_endsOf {l : Launch} {g : Gh} {M0 : Mem} {a0 : Nat} {a1 : Nat} {p2 : Int32} {p3 : Int32} {post : Int32 → Mem → Prop}  (hq : wp_X7_endsOf  g M0 a0 a1 p2 p3 post) : Ct l g yX7_endsOf cX7_endsOf 4 (some .int) 2 0 0 [.ref a0, .ref a1, .int p2, .int p3] M0 (pI post) := by
  unfold wp_X7_endsOf at hq
  obtain ⟨h0, hq⟩ := hq
  refine Ct.of (by decide) (Nat.le_of_ble_eq_true rfl) ?_
  intro p e s m below meth c ls C hr hlk hn hl hw
  have hx := C.1.1
  have hb := C.1.2.1
  have hl : lv_has ls 4 [(0, .ref a0), (1, .ref a1), (2, .int p2), (3, .int p3)] := hl
  refine lv_iload_n hx hb dX7_endsOf_0 rfl (lv_at hl 3 rfl) ?_
  refine lv_aload_n hx hb dX7_endsOf_1 rfl (lv_at hl 0 rfl) ?_
  refine gfX7_13 C hw hw.2.2.1 h0 dX7_endsOf_2 ?_
  refine lv_icmp_gt (tgt := 17) hx hb dX7_endsOf_5 (by decide) (fun c6 => ?_) (fun c6 => ?_)
  · replace hq := hq.1 c6
    refine lv_iconst (v := 0) hx hb dX7_endsOf_17 (by decide) ?_
    exact r_iret C hr hlk hw dX7_endsOf_18 (Nat.le_refl _) (Nat.le_refl _) ⟨_, rfl, hq⟩
  · replace hq := hq.2 c6
    refine lv_iload_n hx hb dX7_endsOf_8 rfl (lv_at hl 3 rfl) ?_
    refine lv_aload_n hx hb dX7_endsOf_9 rfl (lv_at hl 1 rfl) ?_
    obtain ⟨h7, hq⟩ := hq
    obtain ⟨q8, e9, hq⟩ := hq
    refine gfX7_77 C hw hw.2.2.1 h7 e9 dX7_endsOf_10 ?_
    obtain ⟨h10, hq⟩ := hq
    refine q_alen C hw hw.2.2.1 h10 (by decide) (by decide) rfl dX7_endsOf_13 ?_
    refine lv_icmp_lt (tgt := 19) hx hb dX7_endsOf_14 (by decide) (fun c11 => ?_) (fun c11 => ?_)
    · replace hq := hq.1 c11
      refine lv_iload_n hx hb dX7_endsOf_19 rfl (lv_at hl 2 rfl) ?_
      refine lv_bipush (v := 125) hx hb dX7_endsOf_20 (by decide) ?_
      refine lv_icmp_ne (tgt := 31) hx hb dX7_endsOf_22 (by decide) (fun c12 => ?_) (fun c12 => ?_)
      · replace hq := hq.2 c12
        refine lv_iload_n hx hb dX7_endsOf_31 rfl (lv_at hl 2 rfl) ?_
        refine lv_bipush (v := 93) hx hb dX7_endsOf_32 (by decide) ?_
        refine lv_icmp_ne (tgt := 50) hx hb dX7_endsOf_34 (by decide) (fun c13 => ?_) (fun c13 => ?_)
        · replace hq := hq.2 c13
          exact lt_X7_endsOf_50  C hr hlk hn h0  hq hw (lv_sub hl [0, 1, 2, 3] rfl)
        · replace hq := hq.1 c13
          refine lv_aload_n hx hb dX7_endsOf_37 rfl (lv_at hl 1 rfl) ?_
          refine gfX7_77 C hw hw.2.2.1 h7 e9 dX7_endsOf_38 ?_
          refine lv_iload_n hx hb dX7_endsOf_41 rfl (lv_at hl 3 rfl) ?_
          obtain ⟨h14, hq⟩ := hq
          refine q_iald C hw hw.2.2.1 h10 h14 dX7_endsOf_42 ?_
          refine lv_iconst (v := 1) hx hb dX7_endsOf_43 (by decide) ?_
          refine lv_iload_n hx hb dX7_endsOf_44 rfl (lv_at hl 3 rfl) ?_
          refine lv_ishl hx hb dX7_endsOf_45 ?_
          refine lv_ior hx hb dX7_endsOf_46 ?_
          refine lv_goto (tgt := 56) hx hb dX7_endsOf_47 (by decide) ?_
          exact r_iret C hr hlk hw dX7_endsOf_56 (Nat.le_refl _) (Nat.le_refl _) ⟨_, rfl, hq⟩
      · replace hq := hq.1 c12
        refine lv_aload_n hx hb dX7_endsOf_25 rfl (lv_at hl 1 rfl) ?_
        refine lv_iload_n hx hb dX7_endsOf_26 rfl (lv_at hl 3 rfl) ?_
        refine r_callV (T := TX3) (N := 5) (ci := 3) (index := 105) (n := 1) (d2 := 1) (mc := 0) (ms := 0) (As := [.int p3]) (rest := []) C hw (ct_X3_endsInAnyOrder hq) kvX7_105 hq.1 (by decide) rfl ⟨by decide, by decide⟩ ⟨by decide, by decide⟩ rfl hl.1 rfl (Nat.le_of_ble_eq_true rfl) dX7_endsOf_27 (fun r M16 H locs hp hle hw => ?_)
        obtain ⟨v15, rfl, hq⟩ := hp
        refine W.eq (g2 := F0 m 30 ls [.int v15]) rfl ?_
        exact r_iret C hr hlk hw dX7_endsOf_30 (Nat.le_refl _) (Nat.le_refl _) ⟨_, rfl, hq⟩
    · replace hq := hq.2 c11
      refine lv_iconst (v := 0) hx hb dX7_endsOf_17 (by decide) ?_
      exact r_iret C hr hlk hw dX7_endsOf_18 (Nat.le_refl _) (Nat.le_refl _) ⟨_, rfl, hq⟩
