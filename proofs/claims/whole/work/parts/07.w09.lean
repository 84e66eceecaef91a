set_option maxRecDepth 100000 in
def wp_X6_goTo  (g : Gh) (M0 : Mem) (a0 : Nat) (p1 : Int32) (post : Mem → Prop) : Prop :=
  okc (gB g) M0 a0 6 ∧ (∀ M1, M1 = uI M0 a0 5 p1 → (∀ M3, M3 = uI M1 a0 7 0 → (wp_X6_isOver g M3 a0 (fun v5 M6 => ((v5 = 0) → wp_X6_isBuzz g M6 a0 (fun v8 M9 => ((v8 = 0) → ∀ M11, M11 = uI M9 a0 6 (p1 - p1 / 2 * 2) → (post M11)) ∧ (¬ (v8 = 0) → ∀ M13, M13 = uI M9 a0 6 2 → (post M13)))) ∧ (¬ (v5 = 0) → ∀ M15, M15 = uI M6 a0 6 3 → (post M15))))))
set_option maxHeartbeats 4000000 in
set_option maxRecDepth 100000 in
theorem ct_X6_goTo {l : Launch} {g : Gh} {M0 : Mem} {a0 : Nat} {p1 : Int32} {post : Mem → Prop}  (hq : wp_X6_goTo  g M0 a0 p1 post) : Ct l g yX6_goTo cX6_goTo 2 none 2 0 0 [.ref a0, .int p1] M0 (pV post) := by
  unfold wp_X6_goTo at hq
  obtain ⟨h0, hq⟩ := hq
  refine Ct.of (by decide) (Nat.le_of_ble_eq_true rfl) ?_
  intro p e s m below meth c ls C hr hlk hn hl hw
  have hx := C.1.1
  have hb := C.1.2.1
  have hl : lv_has ls 2 [(0, .ref a0), (1, .int p1)] := hl
  refine lv_aload_n hx hb dX6_goTo_0 rfl (lv_at hl 0 rfl) ?_
  refine lv_iload_n hx hb dX6_goTo_1 rfl (lv_at hl 1 rfl) ?_
  refine pfX6_37 C hw hw.2.2.1 h0 dX6_goTo_2 (fun H locs hw => ?_)
  generalize e2 : uI M0 a0 5 p1 = M1 at hw
  replace hq := hq M1 e2.symm
  refine lv_aload_n hx hb dX6_goTo_5 rfl (lv_at hl 0 rfl) ?_
  refine lv_iconst (v := 0) hx hb dX6_goTo_6 (by decide) ?_
  refine pfX6_93 C hw hw.2.2.1 h0 (by decide) dX6_goTo_7 (fun H locs hw => ?_)
  generalize e4 : uI M1 a0 7 0 = M3 at hw
  replace hq := hq M3 e4.symm
  refine lv_aload_n hx hb dX6_goTo_10 rfl (lv_at hl 0 rfl) ?_
  refine r_callV (T := TX6) (N := 9) (ci := 6) (index := 45) (n := 0) (d2 := 0) (mc := 0) (ms := 0) (As := []) (rest := []) C hw (ct_X6_isOver hq) kvX6_45 hq.1 (by decide) rfl ⟨by decide, by decide⟩ ⟨by decide, by decide⟩ rfl hl.1 rfl (Nat.le_of_ble_eq_true rfl) dX6_goTo_11 (fun r M6 H locs hp hle hw => ?_)
  obtain ⟨v5, rfl, hq⟩ := hp
  refine W.eq (g2 := F0 m 14 ls [.int v5]) rfl ?_
  refine lv_if_eq (tgt := 25) hx hb dX6_goTo_14 (by decide) (fun c7 => ?_) (fun c7 => ?_)
  · replace hq := hq.1 c7
    refine lv_aload_n hx hb dX6_goTo_25 rfl (lv_at hl 0 rfl) ?_
    refine lv_aload_n hx hb dX6_goTo_26 rfl (lv_at hl 0 rfl) ?_
    refine r_callV (T := TX6) (N := 9) (ci := 6) (index := 49) (n := 0) (d2 := 1) (mc := 0) (ms := 0) (As := []) (rest := [.ref a0]) C hw (ct_X6_isBuzz hq) kvX6_49 hq.1 (by decide) rfl ⟨by decide, by decide⟩ ⟨by decide, by decide⟩ rfl hl.1 rfl (Nat.le_of_ble_eq_true rfl) dX6_goTo_27 (fun r M9 H locs hp hle hw => ?_)
    obtain ⟨v8, rfl, hq⟩ := hp
    refine W.eq (g2 := F0 m 30 ls [.int v8, .ref a0]) rfl ?_
    refine lv_if_eq (tgt := 37) hx hb dX6_goTo_30 (by decide) (fun c10 => ?_) (fun c10 => ?_)
    · replace hq := hq.1 c10
      refine lv_iload_n hx hb dX6_goTo_37 rfl (lv_at hl 1 rfl) ?_
      refine lv_iconst (v := 2) hx hb dX6_goTo_38 (by decide) ?_
      refine lv_irem hx hb dX6_goTo_39 (by decide) ?_
      refine pfX6_79 C hw hw.2.2.1 h0 dX6_goTo_40 (fun H locs hw => ?_)
      generalize e12 : uI M9 a0 6 (p1 - p1 / 2 * 2) = M11 at hw
      replace hq := hq M11 e12.symm
      exact r_vret C hr hlk hw dX6_goTo_43 (Nat.le_refl _) (Nat.le_refl _) ⟨rfl, hq⟩
    · replace hq := hq.2 c10
      refine lv_iconst (v := 2) hx hb dX6_goTo_33 (by decide) ?_
      refine lv_goto (tgt := 40) hx hb dX6_goTo_34 (by decide) ?_
      refine pfX6_79 C hw hw.2.2.1 h0 dX6_goTo_40 (fun H locs hw => ?_)
      generalize e14 : uI M9 a0 6 2 = M13 at hw
      replace hq := hq M13 e14.symm
      exact r_vret C hr hlk hw dX6_goTo_43 (Nat.le_refl _) (Nat.le_refl _) ⟨rfl, hq⟩
  · replace hq := hq.2 c7
    refine lv_aload_n hx hb dX6_goTo_17 rfl (lv_at hl 0 rfl) ?_
    refine lv_iconst (v := 3) hx hb dX6_goTo_18 (by decide) ?_
    refine pfX6_79 C hw hw.2.2.1 h0 dX6_goTo_19 (fun H locs hw => ?_)
    generalize e16 : uI M6 a0 6 3 = M15 at hw
    replace hq := hq M15 e16.symm
    refine lv_goto (tgt := 43) hx hb dX6_goTo_22 (by decide) ?_
    exact r_vret C hr hlk hw dX6_goTo_43 (Nat.le_refl _) (Nat.le_refl _) ⟨rfl, hq⟩

set_option maxRecDepth 100000 in
def wp_X6_isFor  (g : Gh) (M0 : Mem) (a0 : Nat) (p1 : Int32) (post : Int32 → Mem → Prop) : Prop :=
  okc (gB g) M0 a0 6 ∧ ((((mI M0 a0 6) = 2) → post 1 M0) ∧ (¬ ((mI M0 a0 6) = 2) → (((mI M0 a0 6) = p1) → post 1 M0) ∧ (¬ ((mI M0 a0 6) = p1) → post 0 M0)))
set_option maxHeartbeats 4000000 in
set_option maxRecDepth 100000 in
theorem ct_X6_isFor {l : Launch} {g : Gh} {M0 : Mem} {a0 : Nat} {p1 : Int32} {post : Int32 → Mem → Prop}  (hq : wp_X6_isFor  g M0 a0 p1 post) : Ct l g yX6_isFor cX6_isFor 2 (some .boolean) 0 0 0 [.ref a0, .int p1] M0 (pI post) := by
  unfold wp_X6_isFor at hq
  obtain ⟨h0, hq⟩ := hq
  refine Ct.of (by decide) (Nat.le_of_ble_eq_true rfl) ?_
  intro p e s m below meth c ls C hr hlk hn hl hw
  have hx := C.1.1
  have hb := C.1.2.1
  have hl : lv_has ls 2 [(0, .ref a0), (1, .int p1)] := hl
  refine lv_aload_n hx hb dX6_isFor_0 rfl (lv_at hl 0 rfl) ?_
  refine gfX6_79 C hw hw.2.2.1 h0 dX6_isFor_1 ?_
  refine lv_iconst (v := 2) hx hb dX6_isFor_4 (by decide) ?_
  refine lv_icmp_eq (tgt := 16) hx hb dX6_isFor_5 (by decide) (fun c1 => ?_) (fun c1 => ?_)
  · replace hq := hq.1 c1
    refine lv_iconst (v := 1) hx hb dX6_isFor_16 (by decide) ?_
    refine lv_goto (tgt := 21) hx hb dX6_isFor_17 (by decide) ?_
    exact r_zret C hr hlk hw dX6_isFor_21 (Nat.le_refl _) (Nat.le_refl _) (by decide) ⟨_, rfl, hq⟩
  · replace hq := hq.2 c1
    refine lv_aload_n hx hb dX6_isFor_8 rfl (lv_at hl 0 rfl) ?_
    refine gfX6_79 C hw hw.2.2.1 h0 dX6_isFor_9 ?_
    refine lv_iload_n hx hb dX6_isFor_12 rfl (lv_at hl 1 rfl) ?_
    refine lv_icmp_ne (tgt := 20) hx hb dX6_isFor_13 (by decide) (fun c2 => ?_) (fun c2 => ?_)
    · replace hq := hq.2 c2
      refine lv_iconst (v := 0) hx hb dX6_isFor_20 (by decide) ?_
      exact r_zret C hr hlk hw dX6_isFor_21 (Nat.le_refl _) (Nat.le_refl _) (by decide) ⟨_, rfl, hq⟩
    · replace hq := hq.1 c2
      refine lv_iconst (v := 1) hx hb dX6_isFor_16 (by decide) ?_
      refine lv_goto (tgt := 21) hx hb dX6_isFor_17 (by decide) ?_
      exact r_zret C hr hlk hw dX6_isFor_21 (Nat.le_refl _) (Nat.le_refl _) (by decide) ⟨_, rfl, hq⟩

set_option maxRecDepth 100000 in
def lb_X6_worthOf_50  (g : Gh) (M0 : Mem) (a0 : Nat) (a1 : Nat) (post : Int32 → Mem → Prop)  (x2 : Int32) (s0 : Int32) (M : Mem) : Prop :=
  okc (gB g) M0 a1 0 ∧ ((((mI M a1 3) = 0) → ((s0 = 0) → ∃ q4, mR M a0 1 = some q4 ∧ (okc (gB g) M0 q4 4 ∧ (∃ q7, mR M q4 6 = some q7 ∧ (okc (gB g) M0 q7 14 ∧ (vp_in x2 (mN M0 q7) ∧ (post (-(mI M q7 (Int32.toNatClampNeg x2))) M)))))) ∧ (¬ (s0 = 0) → post 0 M)) ∧ (¬ ((mI M a1 3) = 0) → ((s0 = 0) → ∃ q12, mR M a0 1 = some q12 ∧ (okc (gB g) M0 q12 4 ∧ (∃ q15, mR M q12 4 = some q15 ∧ (okc (gB g) M0 q15 14 ∧ (vp_in x2 (mN M0 q15) ∧ (post (mI M q15 (Int32.toNatClampNeg x2)) M)))))) ∧ (¬ (s0 = 0) → ∃ q19, mR M a0 1 = some q19 ∧ (okc (gB g) M0 q19 4 ∧ (∃ q22, mR M q19 5 = some q22 ∧ (okc (gB g) M0 q22 14 ∧ (vp_in x2 (mN M0 q22) ∧ (post (mI M q22 (Int32.toNatClampNeg x2)) M))))))))
set_option maxRecDepth 100000 in
def wp_X6_worthOf  (g : Gh) (M0 : Mem) (a0 : Nat) (a1 : Nat) (post : Int32 → Mem → Prop) : Prop :=
  okc (gB g) M0 a0 6 ∧ (∃ q26, mR M0 a0 1 = some q26 ∧ (wp_X4_roundOf g M0 q26 (mI M0 a0 5) (fun v28 M29 => okc (gB g) M0 a1 0 ∧ ((((mI M29 a1 1) = 0) → ((v28 < 0) → post 0 M29) ∧ (¬ (v28 < 0) → ((v28 < 6) → (((mI M29 a0 7) = 0) → lb_X6_worthOf_50  g M0 a0 a1 post  v28 0 M29) ∧ (¬ ((mI M29 a0 7) = 0) → wp_X6_isBuzz g M29 a0 (fun v35 M36 => ((v35 = 0) → lb_X6_worthOf_50  g M0 a0 a1 post  v28 1 M36) ∧ (¬ (v35 = 0) → lb_X6_worthOf_50  g M0 a0 a1 post  v28 0 M36)))) ∧ (¬ (v28 < 6) → post 0 M29))) ∧ (¬ ((mI M29 a1 1) = 0) → post 0 M29)))))
set_option maxHeartbeats 4000000 in
set_option maxRecDepth 100000 in
theorem lt_X6_worthOf_50 {l : Launch} {g : Gh} {p : Program} {e : Env} {s : State} {m : MethodId} {args : Array Value} {below : List Frame} {meth : Method} {c : Code} {H : Heap} {locs : List Loc} {ls : Array Slot} {M0 M : Mem} {a0 : Nat} {a1 : Nat} {post : Int32 → Mem → Prop} {x2 : Int32} {s0 : Int32}  (C : Cx g p s m args c cX6_worthOf 4 RX6) (hr : meth.sig.returnType = (some .int)) (hlk : meth.locks = false) (hn : meth.name = "worthOf") (h0 : okc (gB g) M0 a0 6)  (hq : lb_X6_worthOf_50  g M0 a0 a1 post  x2 s0 M) (hw : Wd g s M0 M H locs) (hl : lv_has ls 4 [(0, .ref a0), (1, .ref a1), (2, .int x2)]) : W p l e (rmo 2 0 0) s m args below meth c H locs 0 0 (MQ below (Cq g M0 (pI post)) args s 0 0 (gA g)) (F0 m 50 ls [.int s0]) := by
  have hx := C.1.1
  have hb := C.1.2.1
  unfold lb_X6_worthOf_50 at hq
  refine lv_istore_n (lv' := [(3, .int s0), (0, .ref a0), (1, .ref a1), (2, .int x2)]) hx hb dX6_worthOf_50 rfl hl (by decide) rfl (fun ls hl => ?_)
  refine lv_aload_n hx hb dX6_worthOf_51 rfl (lv_at hl 2 rfl) ?_
  obtain ⟨h1, hq⟩ := hq
  refine gfX6_65 C hw hw.2.2.1 h1 dX6_worthOf_52 ?_
  refine lv_if_eq (tgt := 84) hx hb dX6_worthOf_55 (by decide) (fun c2 => ?_) (fun c2 => ?_)
  · replace hq := hq.1 c2
    refine lv_iload_n hx hb dX6_worthOf_84 rfl (lv_at hl 0 rfl) ?_
    refine lv_if_eq (tgt := 92) hx hb dX6_worthOf_85 (by decide) (fun c3 => ?_) (fun c3 => ?_)
    · replace hq := hq.1 c3
      refine lv_aload_n hx hb dX6_worthOf_92 rfl (lv_at hl 1 rfl) ?_
      obtain ⟨q4, e5, hq⟩ := hq
      refine gfX6_15 C hw hw.2.2.1 h0 e5 dX6_worthOf_93 ?_
      obtain ⟨h6, hq⟩ := hq
      obtain ⟨q7, e8, hq⟩ := hq
      refine gfX6_115 C hw hw.2.2.1 h6 e8 dX6_worthOf_96 ?_
      refine lv_iload_n hx hb dX6_worthOf_99 rfl (lv_at hl 3 rfl) ?_
      obtain ⟨h9, hq⟩ := hq
      obtain ⟨h10, hq⟩ := hq
      refine q_iald C hw hw.2.2.1 h9 h10 dX6_worthOf_100 ?_
      refine lv_ineg hx hb dX6_worthOf_101 ?_
      exact r_iret C hr hlk hw dX6_worthOf_102 (Nat.le_refl _) (Nat.le_refl _) ⟨_, rfl, hq⟩
    · replace hq := hq.2 c3
      refine lv_iconst (v := 0) hx hb dX6_worthOf_88 (by decide) ?_
      refine lv_goto (tgt := 102) hx hb dX6_worthOf_89 (by decide) ?_
      exact r_iret C hr hlk hw dX6_worthOf_102 (Nat.le_refl _) (Nat.le_refl _) ⟨_, rfl, hq⟩
  · replace hq := hq.2 c2
    refine lv_iload_n hx hb dX6_worthOf_58 rfl (lv_at hl 0 rfl) ?_
    refine lv_if_eq (tgt := 74) hx hb dX6_worthOf_59 (by decide) (fun c11 => ?_) (fun c11 => ?_)
    · replace hq := hq.1 c11
      refine lv_aload_n hx hb dX6_worthOf_74 rfl (lv_at hl 1 rfl) ?_
      obtain ⟨q12, e13, hq⟩ := hq
      refine gfX6_15 C hw hw.2.2.1 h0 e13 dX6_worthOf_75 ?_
      obtain ⟨h14, hq⟩ := hq
      obtain ⟨q15, e16, hq⟩ := hq
      refine gfX6_112 C hw hw.2.2.1 h14 e16 dX6_worthOf_78 ?_
      refine lv_iload_n hx hb dX6_worthOf_81 rfl (lv_at hl 3 rfl) ?_
      obtain ⟨h17, hq⟩ := hq
      obtain ⟨h18, hq⟩ := hq
      refine q_iald C hw hw.2.2.1 h17 h18 dX6_worthOf_82 ?_
      exact r_iret C hr hlk hw dX6_worthOf_83 (Nat.le_refl _) (Nat.le_refl _) ⟨_, rfl, hq⟩
    · replace hq := hq.2 c11
      refine lv_aload_n hx hb dX6_worthOf_62 rfl (lv_at hl 1 rfl) ?_
      obtain ⟨q19, e20, hq⟩ := hq
      refine gfX6_15 C hw hw.2.2.1 h0 e20 dX6_worthOf_63 ?_
      obtain ⟨h21, hq⟩ := hq
      obtain ⟨q22, e23, hq⟩ := hq
      refine gfX6_109 C hw hw.2.2.1 h21 e23 dX6_worthOf_66 ?_
      refine lv_iload_n hx hb dX6_worthOf_69 rfl (lv_at hl 3 rfl) ?_
      obtain ⟨h24, hq⟩ := hq
      obtain ⟨h25, hq⟩ := hq
      refine q_iald C hw hw.2.2.1 h24 h25 dX6_worthOf_70 ?_
      refine lv_goto (tgt := 83) hx hb dX6_worthOf_71 (by decide) ?_
      exact r_iret C hr hlk hw dX6_worthOf_83 (Nat.le_refl _) (Nat.le_refl _) ⟨_, rfl, hq⟩
set_option maxHeartbeats 4000000 in
set_option maxRecDepth 100000 in
theorem ct_X6_worthOf {l : Launch} {g : Gh} {M0 : Mem} {a0 : Nat} {a1 : Nat} {post : Int32 → Mem → Prop}  (hq : wp_X6_worthOf  g M0 a0 a1 post) : Ct l g yX6_worthOf cX6_worthOf 4 (some .int) 2 0 0 [.ref a0, .ref a1] M0 (pI post) := by
  unfold wp_X6_worthOf at hq
  obtain ⟨h0, hq⟩ := hq
  refine Ct.of (by decide) (Nat.le_of_ble_eq_true rfl) ?_
  intro p e s m below meth c ls C hr hlk hn hl hw
  have hx := C.1.1
  have hb := C.1.2.1
  have hl : lv_has ls 4 [(0, .ref a0), (1, .ref a1)] := hl
  refine lv_aload_n hx hb dX6_worthOf_0 rfl (lv_at hl 0 rfl) ?_
  obtain ⟨q26, e27, hq⟩ := hq
  refine gfX6_15 C hw hw.2.2.1 h0 e27 dX6_worthOf_1 ?_
  refine lv_aload_n hx hb dX6_worthOf_4 rfl (lv_at hl 0 rfl) ?_
  refine gfX6_37 C hw hw.2.2.1 h0 dX6_worthOf_5 ?_
  refine r_callV (T := TX4) (N := 9) (ci := 4) (index := 106) (n := 1) (d2 := 0) (mc := 0) (ms := 0) (As := [.int (mI M0 a0 5)]) (rest := []) C hw (ct_X4_roundOf hq) kvX6_106 hq.1 (by decide) rfl ⟨by decide, by decide⟩ ⟨by decide, by decide⟩ rfl hl.1 rfl (Nat.le_of_ble_eq_true rfl) dX6_worthOf_8 (fun r M29 H locs hp hle hw => ?_)
  obtain ⟨v28, rfl, hq⟩ := hp
  refine W.eq (g2 := F0 m 11 ls [.int v28]) rfl ?_
  refine lv_istore_n (lv' := [(2, .int v28), (0, .ref a0), (1, .ref a1)]) hx hb dX6_worthOf_11 rfl hl (by decide) rfl (fun ls hl => ?_)
  refine lv_aload_n hx hb dX6_worthOf_12 rfl (lv_at hl 2 rfl) ?_
  obtain ⟨h30, hq⟩ := hq
  refine gfX6_59 C hw hw.2.2.1 h30 dX6_worthOf_13 ?_
  refine lv_if_ne (tgt := 29) hx hb dX6_worthOf_16 (by decide) (fun c31 => ?_) (fun c31 => ?_)
  · replace hq := hq.2 c31
    refine lv_iconst (v := 0) hx hb dX6_worthOf_29 (by decide) ?_
    exact r_iret C hr hlk hw dX6_worthOf_30 (Nat.le_refl _) (Nat.le_refl _) ⟨_, rfl, hq⟩
  · replace hq := hq.1 c31
    refine lv_iload_n hx hb dX6_worthOf_19 rfl (lv_at hl 0 rfl) ?_
    refine lv_if_lt (tgt := 29) hx hb dX6_worthOf_20 (by decide) (fun c32 => ?_) (fun c32 => ?_)
    · replace hq := hq.1 c32
      refine lv_iconst (v := 0) hx hb dX6_worthOf_29 (by decide) ?_
      exact r_iret C hr hlk hw dX6_worthOf_30 (Nat.le_refl _) (Nat.le_refl _) ⟨_, rfl, hq⟩
    · replace hq := hq.2 c32
      refine lv_iload_n hx hb dX6_worthOf_23 rfl (lv_at hl 0 rfl) ?_
      refine lv_bipush (v := 6) hx hb dX6_worthOf_24 (by decide) ?_
      refine lv_icmp_lt (tgt := 31) hx hb dX6_worthOf_26 (by decide) (fun c33 => ?_) (fun c33 => ?_)
      · replace hq := hq.1 c33
        refine lv_aload_n hx hb dX6_worthOf_31 rfl (lv_at hl 1 rfl) ?_
        refine gfX6_93 C hw hw.2.2.1 h0 dX6_worthOf_32 ?_
        refine lv_if_eq (tgt := 49) hx hb dX6_worthOf_35 (by decide) (fun c34 => ?_) (fun c34 => ?_)
        · replace hq := hq.1 c34
          refine lv_iconst (v := 0) hx hb dX6_worthOf_49 (by decide) ?_
          exact lt_X6_worthOf_50  C hr hlk hn h0  hq hw (lv_sub hl [1, 2, 0] rfl)
        · replace hq := hq.2 c34
          refine lv_aload_n hx hb dX6_worthOf_38 rfl (lv_at hl 1 rfl) ?_
          refine r_callV (T := TX6) (N := 9) (ci := 6) (index := 49) (n := 0) (d2 := 1) (mc := 0) (ms := 0) (As := []) (rest := []) C hw (ct_X6_isBuzz hq) kvX6_49 hq.1 (by decide) rfl ⟨by decide, by decide⟩ ⟨by decide, by decide⟩ rfl hl.1 rfl (Nat.le_of_ble_eq_true rfl) dX6_worthOf_39 (fun r M36 H locs hp hle hw => ?_)
          obtain ⟨v35, rfl, hq⟩ := hp
          refine W.eq (g2 := F0 m 42 ls [.int v35]) rfl ?_
          refine lv_if_ne (tgt := 49) hx hb dX6_worthOf_42 (by decide) (fun c37 => ?_) (fun c37 => ?_)
          · replace hq := hq.2 c37
            refine lv_iconst (v := 0) hx hb dX6_worthOf_49 (by decide) ?_
            exact lt_X6_worthOf_50  C hr hlk hn h0  hq hw (lv_sub hl [1, 2, 0] rfl)
          · replace hq := hq.1 c37
            refine lv_iconst (v := 1) hx hb dX6_worthOf_45 (by decide) ?_
            refine lv_goto (tgt := 50) hx hb dX6_worthOf_46 (by decide) ?_
            exact lt_X6_worthOf_50  C hr hlk hn h0  hq hw (lv_sub hl [1, 2, 0] rfl)
      · replace hq := hq.2 c33
        refine lv_iconst (v := 0) hx hb dX6_worthOf_29 (by decide) ?_
        exact r_iret C hr hlk hw dX6_worthOf_30 (Nat.le_refl _) (Nat.le_refl _) ⟨_, rfl, hq⟩

set_option maxRecDepth 100000 in
def wp_X6_hasPass  (g : Gh) (M0 : Mem) (a0 : Nat) (post : Int32 → Mem → Prop) : Prop :=
  okc (gB g) M0 a0 6 ∧ (∃ q1, mR M0 a0 1 = some q1 ∧ (wp_X4_roundOf g M0 q1 (mI M0 a0 5) (fun v3 M4 => ((v3 < 0) → post 0 M4) ∧ (¬ (v3 < 0) → ((6 ≤ v3) → post 0 M4) ∧ (¬ (6 ≤ v3) → ∃ q7, mR M4 a0 1 = some q7 ∧ (okc (gB g) M0 q7 4 ∧ (∃ q10, mR M4 q7 5 = some q10 ∧ (okc (gB g) M0 q10 14 ∧ (vp_in v3 (mN M0 q10) ∧ ((((mI M4 q10 (Int32.toNatClampNeg v3)) = (-1)) → post 0 M4) ∧ (¬ ((mI M4 q10 (Int32.toNatClampNeg v3)) = (-1)) → post 1 M4)))))))))))
set_option maxHeartbeats 4000000 in
set_option maxRecDepth 100000 in
theorem ct_X6_hasPass {l : Launch} {g : Gh} {M0 : Mem} {a0 : Nat} {post : Int32 → Mem → Prop}  (hq : wp_X6_hasPass  g M0 a0 post) : Ct l g yX6_hasPass cX6_hasPass 2 (some .boolean) 1 0 0 [.ref a0] M0 (pI post) := by
  unfold wp_X6_hasPass at hq
  obtain ⟨h0, hq⟩ := hq
  refine Ct.of (by decide) (Nat.le_of_ble_eq_true rfl) ?_
  intro p e s m below meth c ls C hr hlk hn hl hw
  have hx := C.1.1
  have hb := C.1.2.1
  have hl : lv_has ls 2 [(0, .ref a0)] := hl
  refine lv_aload_n hx hb dX6_hasPass_0 rfl (lv_at hl 0 rfl) ?_
  obtain ⟨q1, e2, hq⟩ := hq
  refine gfX6_15 C hw hw.2.2.1 h0 e2 dX6_hasPass_1 ?_
  refine lv_aload_n hx hb dX6_hasPass_4 rfl (lv_at hl 0 rfl) ?_
  refine gfX6_37 C hw hw.2.2.1 h0 dX6_hasPass_5 ?_
  refine r_callV (T := TX4) (N := 9) (ci := 4) (index := 106) (n := 1) (d2 := 0) (mc := 0) (ms := 0) (As := [.int (mI M0 a0 5)]) (rest := []) C hw (ct_X4_roundOf hq) kvX6_106 hq.1 (by decide) rfl ⟨by decide, by decide⟩ ⟨by decide, by decide⟩ rfl hl.1 rfl (Nat.le_of_ble_eq_true rfl) dX6_hasPass_8 (fun r M4 H locs hp hle hw => ?_)
  obtain ⟨v3, rfl, hq⟩ := hp
  refine W.eq (g2 := F0 m 11 ls [.int v3]) rfl ?_
  refine lv_istore_n (lv' := [(1, .int v3), (0, .ref a0)]) hx hb dX6_hasPass_11 rfl hl (by decide) rfl (fun ls hl => ?_)
  refine lv_iload_n hx hb dX6_hasPass_12 rfl (lv_at hl 0 rfl) ?_
  refine lv_if_lt (tgt := 39) hx hb dX6_hasPass_13 (by decide) (fun c5 => ?_) (fun c5 => ?_)
  · replace hq := hq.1 c5
    refine lv_iconst (v := 0) hx hb dX6_hasPass_39 (by decide) ?_
    exact r_zret C hr hlk hw dX6_hasPass_40 (Nat.le_refl _) (Nat.le_refl _) (by decide) ⟨_, rfl, hq⟩
  · replace hq := hq.2 c5
    refine lv_iload_n hx hb dX6_hasPass_16 rfl (lv_at hl 0 rfl) ?_
    refine lv_bipush (v := 6) hx hb dX6_hasPass_17 (by decide) ?_
    refine lv_icmp_ge (tgt := 39) hx hb dX6_hasPass_19 (by decide) (fun c6 => ?_) (fun c6 => ?_)
    · replace hq := hq.1 c6
      refine lv_iconst (v := 0) hx hb dX6_hasPass_39 (by decide) ?_
      exact r_zret C hr hlk hw dX6_hasPass_40 (Nat.le_refl _) (Nat.le_refl _) (by decide) ⟨_, rfl, hq⟩
    · replace hq := hq.2 c6
      refine lv_aload_n hx hb dX6_hasPass_22 rfl (lv_at hl 1 rfl) ?_
      obtain ⟨q7, e8, hq⟩ := hq
      refine gfX6_15 C hw hw.2.2.1 h0 e8 dX6_hasPass_23 ?_
      obtain ⟨h9, hq⟩ := hq
      obtain ⟨q10, e11, hq⟩ := hq
      refine gfX6_109 C hw hw.2.2.1 h9 e11 dX6_hasPass_26 ?_
      refine lv_iload_n hx hb dX6_hasPass_29 rfl (lv_at hl 0 rfl) ?_
      obtain ⟨h12, hq⟩ := hq
      obtain ⟨h13, hq⟩ := hq
      refine q_iald C hw hw.2.2.1 h12 h13 dX6_hasPass_30 ?_
      refine lv_iconst (v := (-1)) hx hb dX6_hasPass_31 (by decide) ?_
      refine lv_icmp_eq (tgt := 39) hx hb dX6_hasPass_32 (by decide) (fun c14 => ?_) (fun c14 => ?_)
      · replace hq := hq.1 c14
        refine lv_iconst (v := 0) hx hb dX6_hasPass_39 (by decide) ?_
        exact r_zret C hr hlk hw dX6_hasPass_40 (Nat.le_refl _) (Nat.le_refl _) (by decide) ⟨_, rfl, hq⟩
      · replace hq := hq.2 c14
        refine lv_iconst (v := 1) hx hb dX6_hasPass_35 (by decide) ?_
        refine lv_goto (tgt := 40) hx hb dX6_hasPass_36 (by decide) ?_
        exact r_zret C hr hlk hw dX6_hasPass_40 (Nat.le_refl _) (Nat.le_refl _) (by decide) ⟨_, rfl, hq⟩

set_option maxRecDepth 100000 in
def lb_X6_goesToOther_27  (g : Gh) (M0 : Mem) (a0 : Nat) (a1 : Nat) (post : Int32 → Mem → Prop)   (s0 : Int32) (M : Mem) : Prop :=
  ((s0 = 0) → post 0 M) ∧ (¬ (s0 = 0) → wp_X6_isBuzz g M a0 (fun v2 M3 => ((v2 = 0) → wp_X6_hasPass g M3 a0 (fun v5 M6 => ((v5 = 0) → post 0 M6) ∧ (¬ (v5 = 0) → post 1 M6))) ∧ (¬ (v2 = 0) → post 1 M3)))
set_option maxRecDepth 100000 in
def wp_X6_goesToOther  (g : Gh) (M0 : Mem) (a0 : Nat) (a1 : Nat) (post : Int32 → Mem → Prop) : Prop :=
  okc (gB g) M0 a0 6 ∧ ((((mI M0 a0 7) = 0) → okc (gB g) M0 a1 0 ∧ ((((mI M0 a1 3) = 0) → (((mI M0 a1 1) = 2) → lb_X6_goesToOther_27  g M0 a0 a1 post  0 M0) ∧ (¬ ((mI M0 a1 1) = 2) → lb_X6_goesToOther_27  g M0 a0 a1 post  1 M0)) ∧ (¬ ((mI M0 a1 3) = 0) → lb_X6_goesToOther_27  g M0 a0 a1 post  0 M0))) ∧ (¬ ((mI M0 a0 7) = 0) → lb_X6_goesToOther_27  g M0 a0 a1 post  0 M0))
set_option maxHeartbeats 4000000 in
set_option maxRecDepth 100000 in
theorem lt_X6_goesToOther_27 {l : Launch} {g : Gh} {p : Program} {e : Env} {s : State} {m : MethodId} {args : Array Value} {below : List Frame} {meth : Method} {c : Code} {H : Heap} {locs : List Loc} {ls : Array Slot} {M0 M : Mem} {a0 : Nat} {a1 : Nat} {post : Int32 → Mem → Prop}  {s0 : Int32}  (C : Cx g p s m args c cX6_goesToOther 3 RX6) (hr : meth.sig.returnType = (some .boolean)) (hlk : meth.locks = false) (hn : meth.name = "goesToOther") (h0 : okc (gB g) M0 a0 6)  (hq : lb_X6_goesToOther_27  g M0 a0 a1 post  s0 M) (hw : Wd g s M0 M H locs) (hl : lv_has ls 3 [(0, .ref a0), (1, .ref a1)]) : W p l e (rmo 2 0 0) s m args below meth c H locs 0 0 (MQ below (Cq g M0 (pI post)) args s 0 0 (gA g)) (F0 m 27 ls [.int s0]) := by
  have hx := C.1.1
  have hb := C.1.2.1
  unfold lb_X6_goesToOther_27 at hq
  refine lv_istore_n (lv' := [(2, .int s0), (0, .ref a0), (1, .ref a1)]) hx hb dX6_goesToOther_27 rfl hl (by decide) rfl (fun ls hl => ?_)
  refine lv_iload_n hx hb dX6_goesToOther_28 rfl (lv_at hl 0 rfl) ?_
  refine lv_if_eq (tgt := 50) hx hb dX6_goesToOther_29 (by decide) (fun c1 => ?_) (fun c1 => ?_)
  · replace hq := hq.1 c1
    refine lv_iconst (v := 0) hx hb dX6_goesToOther_50 (by decide) ?_
    exact r_zret C hr hlk hw dX6_goesToOther_51 (Nat.le_refl _) (Nat.le_refl _) (by decide) ⟨_, rfl, hq⟩
  · replace hq := hq.2 c1
    refine lv_aload_n hx hb dX6_goesToOther_32 rfl (lv_at hl 1 rfl) ?_
    refine r_callV (T := TX6) (N := 9) (ci := 6) (index := 49) (n := 0) (d2 := 1) (mc := 0) (ms := 0) (As := []) (rest := []) C hw (ct_X6_isBuzz hq) kvX6_49 hq.1 (by decide) rfl ⟨by decide, by decide⟩ ⟨by decide, by decide⟩ rfl hl.1 rfl (Nat.le_of_ble_eq_true rfl) dX6_goesToOther_33 (fun r M3 H locs hp hle hw => ?_)
    obtain ⟨v2, rfl, hq⟩ := hp
    refine W.eq (g2 := F0 m 36 ls [.int v2]) rfl ?_
    refine lv_if_ne (tgt := 46) hx hb dX6_goesToOther_36 (by decide) (fun c4 => ?_) (fun c4 => ?_)
    · replace hq := hq.2 c4
      refine lv_iconst (v := 1) hx hb dX6_goesToOther_46 (by decide) ?_
      refine lv_goto (tgt := 51) hx hb dX6_goesToOther_47 (by decide) ?_
      exact r_zret C hr hlk hw dX6_goesToOther_51 (Nat.le_refl _) (Nat.le_refl _) (by decide) ⟨_, rfl, hq⟩
    · replace hq := hq.1 c4
      refine lv_aload_n hx hb dX6_goesToOther_39 rfl (lv_at hl 1 rfl) ?_
      refine r_callV (T := TX6) (N := 9) (ci := 6) (index := 118) (n := 0) (d2 := 1) (mc := 0) (ms := 0) (As := []) (rest := []) C hw (ct_X6_hasPass hq) kvX6_118 hq.1 (by decide) rfl ⟨by decide, by decide⟩ ⟨by decide, by decide⟩ rfl hl.1 rfl (Nat.le_of_ble_eq_true rfl) dX6_goesToOther_40 (fun r M6 H locs hp hle hw => ?_)
      obtain ⟨v5, rfl, hq⟩ := hp
      refine W.eq (g2 := F0 m 43 ls [.int v5]) rfl ?_
      refine lv_if_eq (tgt := 50) hx hb dX6_goesToOther_43 (by decide) (fun c7 => ?_) (fun c7 => ?_)
      · replace hq := hq.1 c7
        refine lv_iconst (v := 0) hx hb dX6_goesToOther_50 (by decide) ?_
        exact r_zret C hr hlk hw dX6_goesToOther_51 (Nat.le_refl _) (Nat.le_refl _) (by decide) ⟨_, rfl, hq⟩
      · replace hq := hq.2 c7
        refine lv_iconst (v := 1) hx hb dX6_goesToOther_46 (by decide) ?_
        refine lv_goto (tgt := 51) hx hb dX6_goesToOther_47 (by decide) ?_
        exact r_zret C hr hlk hw dX6_goesToOther_51 (Nat.le_refl _) (Nat.le_refl _) (by decide) ⟨_, rfl, hq⟩
set_option maxHeartbeats 4000000 in
set_option maxRecDepth 100000 in
theorem ct_X6_goesToOther {l : Launch} {g : Gh} {M0 : Mem} {a0 : Nat} {a1 : Nat} {post : Int32 → Mem → Prop}  (hq : wp_X6_goesToOther  g M0 a0 a1 post) : Ct l g yX6_goesToOther cX6_goesToOther 3 (some .boolean) 2 0 0 [.ref a0, .ref a1] M0 (pI post) := by
  unfold wp_X6_goesToOther at hq
  obtain ⟨h0, hq⟩ := hq
  refine Ct.of (by decide) (Nat.le_of_ble_eq_true rfl) ?_
  intro p e s m below meth c ls C hr hlk hn hl hw
  have hx := C.1.1
  have hb := C.1.2.1
  have hl : lv_has ls 3 [(0, .ref a0), (1, .ref a1)] := hl
  refine lv_aload_n hx hb dX6_goesToOther_0 rfl (lv_at hl 0 rfl) ?_
  refine gfX6_93 C hw hw.2.2.1 h0 dX6_goesToOther_1 ?_
  refine lv_if_ne (tgt := 26) hx hb dX6_goesToOther_4 (by decide) (fun c8 => ?_) (fun c8 => ?_)
  · replace hq := hq.2 c8
    refine lv_iconst (v := 0) hx hb dX6_goesToOther_26 (by decide) ?_
    exact lt_X6_goesToOther_27  C hr hlk hn h0  hq hw (lv_sub hl [0, 1] rfl)
  · replace hq := hq.1 c8
    refine lv_aload_n hx hb dX6_goesToOther_7 rfl (lv_at hl 1 rfl) ?_
    obtain ⟨h9, hq⟩ := hq
    refine gfX6_65 C hw hw.2.2.1 h9 dX6_goesToOther_8 ?_
    refine lv_if_ne (tgt := 26) hx hb dX6_goesToOther_11 (by decide) (fun c10 => ?_) (fun c10 => ?_)
    · replace hq := hq.2 c10
      refine lv_iconst (v := 0) hx hb dX6_goesToOther_26 (by decide) ?_
      exact lt_X6_goesToOther_27  C hr hlk hn h0  hq hw (lv_sub hl [0, 1] rfl)
    · replace hq := hq.1 c10
      refine lv_aload_n hx hb dX6_goesToOther_14 rfl (lv_at hl 1 rfl) ?_
      refine gfX6_59 C hw hw.2.2.1 h9 dX6_goesToOther_15 ?_
      refine lv_iconst (v := 2) hx hb dX6_goesToOther_18 (by decide) ?_
      refine lv_icmp_eq (tgt := 26) hx hb dX6_goesToOther_19 (by decide) (fun c11 => ?_) (fun c11 => ?_)
      · replace hq := hq.1 c11
        refine lv_iconst (v := 0) hx hb dX6_goesToOther_26 (by decide) ?_
        exact lt_X6_goesToOther_27  C hr hlk hn h0  hq hw (lv_sub hl [0, 1] rfl)
      · replace hq := hq.2 c11
        refine lv_iconst (v := 1) hx hb dX6_goesToOther_22 (by decide) ?_
        refine lv_goto (tgt := 27) hx hb dX6_goesToOther_23 (by decide) ?_
        exact lt_X6_goesToOther_27  C hr hlk hn h0  hq hw (lv_sub hl [0, 1] rfl)

set_option maxRecDepth 100000 in
def lb_X6_apply_128  (g : Gh) (M0 : Mem) (a0 : Nat) (a1 : Nat) (post : Mem → Prop)    (M : Mem) : Prop :=
  wp_X6_goesToOther g M a0 a1 (fun v1 M2 => ((v1 = 0) → wp_X6_goTo g M2 a0 ((mI M2 a0 5) + 1) (fun M5 => post M5)) ∧ (¬ (v1 = 0) → ∀ M6, M6 = uI M2 a0 7 1 → (okc (gB g) M0 a1 0 ∧ (∀ M9, M9 = uI M6 a0 6 (1 - (mI M6 a1 2)) → (post M9)))))
set_option maxRecDepth 100000 in
def lb_X6_apply_112  (g : Gh) (M0 : Mem) (a0 : Nat) (a1 : Nat) (post : Mem → Prop)    (M : Mem) : Prop :=
  ∃ q11, mR M a0 8 = some q11 ∧ (okc (gB g) M0 a1 0 ∧ (okc (gB g) M0 q11 14 ∧ (vp_in (mI M a1 2) (mN M0 q11) ∧ (∀ M16, M16 = uI M q11 (Int32.toNatClampNeg (mI M a1 2)) ((mI M q11 (Int32.toNatClampNeg (mI M a1 2))) + (mI M a1 5)) → (lb_X6_apply_128  g M0 a0 a1 post   M16)))))
set_option maxRecDepth 100000 in
def lb_X6_apply_67  (g : Gh) (M0 : Mem) (a0 : Nat) (a1 : Nat) (post : Mem → Prop)   (s0 : Nat) (s1 : Int32) (M : Mem) : Prop :=
  okc (gB g) M0 s0 0 ∧ ((s1 = 0 ∨ s1 = 1) ∧ (∀ M20, M20 = uI M s0 4 s1 → (okc (gB g) M0 a1 0 ∧ ((((mI M20 a1 4) = 0) → wp_X6_worthOf g M20 a0 a1 (fun v24 M25 => ∀ M26, M26 = uI M25 a1 5 v24 → ((((mI M26 a1 2) = 0) → lb_X6_apply_112  g M0 a0 a1 post   M26) ∧ (¬ ((mI M26 a1 2) = 0) → (((mI M26 a1 2) = 1) → lb_X6_apply_112  g M0 a0 a1 post   M26) ∧ (¬ ((mI M26 a1 2) = 1) → lb_X6_apply_128  g M0 a0 a1 post   M26))))) ∧ (¬ ((mI M20 a1 4) = 0) → ∀ M30, M30 = uI M20 a0 4 ((mI M20 a0 4) + 1) → (post M30))))))
set_option maxRecDepth 100000 in
def lb_X6_apply_19  (g : Gh) (M0 : Mem) (a0 : Nat) (a1 : Nat) (post : Mem → Prop)    (M : Mem) : Prop :=
  okc (gB g) M0 a1 0 ∧ (∀ M33, M33 = uI M a1 5 0 → ((((mI M33 a1 0) < (mI M33 a0 5)) → lb_X6_apply_67  g M0 a0 a1 post  a1 1 M33) ∧ (¬ ((mI M33 a1 0) < (mI M33 a0 5)) → wp_X6_isOver g M33 a0 (fun v36 M37 => ((v36 = 0) → (((mI M37 a1 1) = 2) → lb_X6_apply_67  g M0 a0 a1 post  a1 0 M37) ∧ (¬ ((mI M37 a1 1) = 2) → wp_X6_isFor g M37 a0 (mI M37 a1 2) (fun v40 M41 => ((v40 = 0) → lb_X6_apply_67  g M0 a0 a1 post  a1 1 M41) ∧ (¬ (v40 = 0) → lb_X6_apply_67  g M0 a0 a1 post  a1 0 M41)))) ∧ (¬ (v36 = 0) → lb_X6_apply_67  g M0 a0 a1 post  a1 1 M37)))))
set_option maxRecDepth 100000 in
def wp_X6_apply  (g : Gh) (M0 : Mem) (a0 : Nat) (a1 : Nat) (post : Mem → Prop) : Prop :=
  okc (gB g) M0 a0 6 ∧ (okc (gB g) M0 a1 0 ∧ ((((mI M0 a1 0) ≤ (mI M0 a0 5)) → lb_X6_apply_19  g M0 a0 a1 post   M0) ∧ (¬ ((mI M0 a1 0) ≤ (mI M0 a0 5)) → wp_X6_goTo g M0 a0 (mI M0 a1 0) (fun M46 => lb_X6_apply_19  g M0 a0 a1 post   M46))))
set_option maxHeartbeats 4000000 in
set_option maxRecDepth 100000 in
theorem lt_X6_apply_128 {l : Launch} {g : Gh} {p : Program} {e : Env} {s : State} {m : MethodId} {args : Array Value} {below : List Frame} {meth : Method} {c : Code} {H : Heap} {locs : List Loc} {ls : Array Slot} {M0 M : Mem} {a0 : Nat} {a1 : Nat} {post : Mem → Prop}    (C : Cx g p s m args c cX6_apply 2 RX6) (hr : meth.sig.returnType = none) (hlk : meth.locks = false) (hn : meth.name = "apply") (h0 : okc (gB g) M0 a0 6)  (hq : lb_X6_apply_128  g M0 a0 a1 post   M) (hw : Wd g s M0 M H locs) (hl : lv_has ls 2 [(0, .ref a0), (1, .ref a1)]) : W p l e (rmo 3 0 0) s m args below meth c H locs 0 0 (MQ below (Cq g M0 (pV post)) args s 0 0 (gA g)) (F0 m 128 ls []) := by
  have hx := C.1.1
  have hb := C.1.2.1
  unfold lb_X6_apply_128 at hq
  refine lv_aload_n hx hb dX6_apply_128 rfl (lv_at hl 0 rfl) ?_
  refine lv_aload_n hx hb dX6_apply_129 rfl (lv_at hl 1 rfl) ?_
  refine r_callV (T := TX6) (N := 9) (ci := 6) (index := 102) (n := 1) (d2 := 2) (mc := 0) (ms := 0) (As := [.ref a1]) (rest := []) C hw (ct_X6_goesToOther hq) kvX6_102 hq.1 (by decide) rfl ⟨by decide, by decide⟩ ⟨by decide, by decide⟩ rfl hl.1 rfl (Nat.le_of_ble_eq_true rfl) dX6_apply_130 (fun r M2 H locs hp hle hw => ?_)
  obtain ⟨v1, rfl, hq⟩ := hp
  refine W.eq (g2 := F0 m 133 ls [.int v1]) rfl ?_
  refine lv_if_eq (tgt := 154) hx hb dX6_apply_133 (by decide) (fun c3 => ?_) (fun c3 => ?_)
  · replace hq := hq.1 c3
    refine lv_aload_n hx hb dX6_apply_154 rfl (lv_at hl 0 rfl) ?_
    refine lv_aload_n hx hb dX6_apply_155 rfl (lv_at hl 0 rfl) ?_
    refine gfX6_37 C hw hw.2.2.1 h0 dX6_apply_156 ?_
    refine lv_iconst (v := 1) hx hb dX6_apply_159 (by decide) ?_
    refine lv_iadd hx hb dX6_apply_160 ?_
    refine r_callV (T := TX6) (N := 9) (ci := 6) (index := 89) (n := 1) (d2 := 2) (mc := 0) (ms := 0) (As := [.int ((mI M2 a0 5) + 1)]) (rest := []) C hw (ct_X6_goTo hq) kvX6_89 hq.1 (by decide) rfl ⟨by decide, by decide⟩ ⟨by decide, by decide⟩ rfl hl.1 rfl (Nat.le_of_ble_eq_true rfl) dX6_apply_161 (fun r M5 H locs hp hle hw => ?_)
    obtain ⟨rfl, hq⟩ := hp
    refine W.eq (g2 := F0 m 164 ls []) rfl ?_
    exact r_vret C hr hlk hw dX6_apply_164 (Nat.le_refl _) (Nat.le_refl _) ⟨rfl, hq⟩
  · replace hq := hq.2 c3
    refine lv_aload_n hx hb dX6_apply_136 rfl (lv_at hl 0 rfl) ?_
    refine lv_iconst (v := 1) hx hb dX6_apply_137 (by decide) ?_
    refine pfX6_93 C hw hw.2.2.1 h0 (by decide) dX6_apply_138 (fun H locs hw => ?_)
    generalize e7 : uI M2 a0 7 1 = M6 at hw
    replace hq := hq M6 e7.symm
    refine lv_aload_n hx hb dX6_apply_141 rfl (lv_at hl 0 rfl) ?_
    refine lv_iconst (v := 1) hx hb dX6_apply_142 (by decide) ?_
    refine lv_aload_n hx hb dX6_apply_143 rfl (lv_at hl 1 rfl) ?_
    obtain ⟨h8, hq⟩ := hq
    refine gfX6_62 C hw hw.2.2.1 h8 dX6_apply_144 ?_
    refine lv_isub hx hb dX6_apply_147 ?_
    refine pfX6_79 C hw hw.2.2.1 h0 dX6_apply_148 (fun H locs hw => ?_)
    generalize e10 : uI M6 a0 6 (1 - (mI M6 a1 2)) = M9 at hw
    replace hq := hq M9 e10.symm
    refine lv_goto (tgt := 164) hx hb dX6_apply_151 (by decide) ?_
    exact r_vret C hr hlk hw dX6_apply_164 (Nat.le_refl _) (Nat.le_refl _) ⟨rfl, hq⟩
set_option maxHeartbeats 4000000 in
set_option maxRecDepth 100000 in
theorem lt_X6_apply_112 {l : Launch} {g : Gh} {p : Program} {e : Env} {s : State} {m : MethodId} {args : Array Value} {below : List Frame} {meth : Method} {c : Code} {H : Heap} {locs : List Loc} {ls : Array Slot} {M0 M : Mem} {a0 : Nat} {a1 : Nat} {post : Mem → Prop}    (C : Cx g p s m args c cX6_apply 2 RX6) (hr : meth.sig.returnType = none) (hlk : meth.locks = false) (hn : meth.name = "apply") (h0 : okc (gB g) M0 a0 6)  (hq : lb_X6_apply_112  g M0 a0 a1 post   M) (hw : Wd g s M0 M H locs) (hl : lv_has ls 2 [(0, .ref a0), (1, .ref a1)]) : W p l e (rmo 3 0 0) s m args below meth c H locs 0 0 (MQ below (Cq g M0 (pV post)) args s 0 0 (gA g)) (F0 m 112 ls []) := by
  have hx := C.1.1
  have hb := C.1.2.1
  unfold lb_X6_apply_112 at hq
  refine lv_aload_n hx hb dX6_apply_112 rfl (lv_at hl 0 rfl) ?_
  obtain ⟨q11, e12, hq⟩ := hq
  refine gfX6_26 C hw hw.2.2.1 h0 e12 dX6_apply_113 ?_
  refine lv_aload_n hx hb dX6_apply_116 rfl (lv_at hl 1 rfl) ?_
  obtain ⟨h13, hq⟩ := hq
  refine gfX6_62 C hw hw.2.2.1 h13 dX6_apply_117 ?_
  refine lv_dup2_11 hx hb dX6_apply_120 rfl rfl ?_
  obtain ⟨h14, hq⟩ := hq
  obtain ⟨h15, hq⟩ := hq
  refine q_iald C hw hw.2.2.1 h14 h15 dX6_apply_121 ?_
  refine lv_aload_n hx hb dX6_apply_122 rfl (lv_at hl 1 rfl) ?_
  refine gfX6_96 C hw hw.2.2.1 h13 dX6_apply_123 ?_
  refine lv_iadd hx hb dX6_apply_126 ?_
  refine q_iast C hw hw.2.2.1 h14 h15 dX6_apply_127 (fun H locs hw => ?_)
  generalize e17 : uI M q11 (Int32.toNatClampNeg (mI M a1 2)) ((mI M q11 (Int32.toNatClampNeg (mI M a1 2))) + (mI M a1 5)) = M16 at hw
  replace hq := hq M16 e17.symm
  have e12 : mR M16 a0 8 = some q11 := by rw [← e17, mR_uI]; exact e12
  exact lt_X6_apply_128  C hr hlk hn h0  hq hw (lv_sub hl [0, 1] rfl)
set_option maxHeartbeats 4000000 in
set_option maxRecDepth 100000 in
theorem lt_X6_apply_67 {l : Launch} {g : Gh} {p : Program} {e : Env} {s : State} {m : MethodId} {args : Array Value} {below : List Frame} {meth : Method} {c : Code} {H : Heap} {locs : List Loc} {ls : Array Slot} {M0 M : Mem} {a0 : Nat} {a1 : Nat} {post : Mem → Prop}  {s0 : Nat} {s1 : Int32}  (C : Cx g p s m args c cX6_apply 2 RX6) (hr : meth.sig.returnType = none) (hlk : meth.locks = false) (hn : meth.name = "apply") (h0 : okc (gB g) M0 a0 6)  (hq : lb_X6_apply_67  g M0 a0 a1 post  s0 s1 M) (hw : Wd g s M0 M H locs) (hl : lv_has ls 2 [(0, .ref a0), (1, .ref a1)]) : W p l e (rmo 3 0 0) s m args below meth c H locs 0 0 (MQ below (Cq g M0 (pV post)) args s 0 0 (gA g)) (F0 m 67 ls [.int s1, .ref s0]) := by
  have hx := C.1.1
  have hb := C.1.2.1
  unfold lb_X6_apply_67 at hq
  obtain ⟨h18, hq⟩ := hq
  obtain ⟨h19, hq⟩ := hq
  refine pfX6_76 C hw hw.2.2.1 h18 h19 dX6_apply_67 (fun H locs hw => ?_)
  generalize e21 : uI M s0 4 s1 = M20 at hw
  replace hq := hq M20 e21.symm
  refine lv_aload_n hx hb dX6_apply_70 rfl (lv_at hl 1 rfl) ?_
  obtain ⟨h22, hq⟩ := hq
  refine gfX6_76 C hw hw.2.2.1 h22 dX6_apply_71 ?_
  refine lv_if_eq (tgt := 88) hx hb dX6_apply_74 (by decide) (fun c23 => ?_) (fun c23 => ?_)
  · replace hq := hq.1 c23
    refine lv_aload_n hx hb dX6_apply_88 rfl (lv_at hl 1 rfl) ?_
    refine lv_aload_n hx hb dX6_apply_89 rfl (lv_at hl 0 rfl) ?_
    refine lv_aload_n hx hb dX6_apply_90 rfl (lv_at hl 1 rfl) ?_
    refine r_callV (T := TX6) (N := 9) (ci := 6) (index := 98) (n := 1) (d2 := 2) (mc := 0) (ms := 0) (As := [.ref a1]) (rest := [.ref a1]) C hw (ct_X6_worthOf hq) kvX6_98 hq.1 (by decide) rfl ⟨by decide, by decide⟩ ⟨by decide, by decide⟩ rfl hl.1 rfl (Nat.le_of_ble_eq_true rfl) dX6_apply_91 (fun r M25 H locs hp hle hw => ?_)
    obtain ⟨v24, rfl, hq⟩ := hp
    refine W.eq (g2 := F0 m 94 ls [.int v24, .ref a1]) rfl ?_
    refine pfX6_96 C hw hw.2.2.1 h22 dX6_apply_94 (fun H locs hw => ?_)
    generalize e27 : uI M25 a1 5 v24 = M26 at hw
    replace hq := hq M26 e27.symm
    refine lv_aload_n hx hb dX6_apply_97 rfl (lv_at hl 1 rfl) ?_
    refine gfX6_62 C hw hw.2.2.1 h22 dX6_apply_98 ?_
    refine lv_if_eq (tgt := 112) hx hb dX6_apply_101 (by decide) (fun c28 => ?_) (fun c28 => ?_)
    · replace hq := hq.1 c28
      exact lt_X6_apply_112  C hr hlk hn h0  hq hw (lv_sub hl [0, 1] rfl)
    · replace hq := hq.2 c28
      refine lv_aload_n hx hb dX6_apply_104 rfl (lv_at hl 1 rfl) ?_
      refine gfX6_62 C hw hw.2.2.1 h22 dX6_apply_105 ?_
      refine lv_iconst (v := 1) hx hb dX6_apply_108 (by decide) ?_
      refine lv_icmp_ne (tgt := 128) hx hb dX6_apply_109 (by decide) (fun c29 => ?_) (fun c29 => ?_)
      · replace hq := hq.2 c29
        exact lt_X6_apply_128  C hr hlk hn h0  hq hw (lv_sub hl [0, 1] rfl)
      · replace hq := hq.1 c29
        exact lt_X6_apply_112  C hr hlk hn h0  hq hw (lv_sub hl [0, 1] rfl)
  · replace hq := hq.2 c23
    refine lv_aload_n hx hb dX6_apply_77 rfl (lv_at hl 0 rfl) ?_
    refine lv_dup hx hb dX6_apply_78 rfl ?_
    refine gfX6_86 C hw hw.2.2.1 h0 dX6_apply_79 ?_
    refine lv_iconst (v := 1) hx hb dX6_apply_82 (by decide) ?_
    refine lv_iadd hx hb dX6_apply_83 ?_
    refine pfX6_86 C hw hw.2.2.1 h0 dX6_apply_84 (fun H locs hw => ?_)
    generalize e31 : uI M20 a0 4 ((mI M20 a0 4) + 1) = M30 at hw
    replace hq := hq M30 e31.symm
    exact r_vret C hr hlk hw dX6_apply_87 (Nat.le_refl _) (Nat.le_refl _) ⟨rfl, hq⟩
set_option maxHeartbeats 4000000 in
set_option maxRecDepth 100000 in
theorem lt_X6_apply_19 {l : Launch} {g : Gh} {p : Program} {e : Env} {s : State} {m : MethodId} {args : Array Value} {below : List Frame} {meth : Method} {c : Code} {H : Heap} {locs : List Loc} {ls : Array Slot} {M0 M : Mem} {a0 : Nat} {a1 : Nat} {post : Mem → Prop}    (C : Cx g p s m args c cX6_apply 2 RX6) (hr : meth.sig.returnType = none) (hlk : meth.locks = false) (hn : meth.name = "apply") (h0 : okc (gB g) M0 a0 6)  (hq : lb_X6_apply_19  g M0 a0 a1 post   M) (hw : Wd g s M0 M H locs) (hl : lv_has ls 2 [(0, .ref a0), (1, .ref a1)]) : W p l e (rmo 3 0 0) s m args below meth c H locs 0 0 (MQ below (Cq g M0 (pV post)) args s 0 0 (gA g)) (F0 m 19 ls []) := by
  have hx := C.1.1
  have hb := C.1.2.1
  unfold lb_X6_apply_19 at hq
  refine lv_aload_n hx hb dX6_apply_19 rfl (lv_at hl 1 rfl) ?_
  refine lv_iconst (v := 0) hx hb dX6_apply_20 (by decide) ?_
  obtain ⟨h32, hq⟩ := hq
  refine pfX6_96 C hw hw.2.2.1 h32 dX6_apply_21 (fun H locs hw => ?_)
  generalize e34 : uI M a1 5 0 = M33 at hw
  replace hq := hq M33 e34.symm
  refine lv_aload_n hx hb dX6_apply_24 rfl (lv_at hl 1 rfl) ?_
  refine lv_aload_n hx hb dX6_apply_25 rfl (lv_at hl 1 rfl) ?_
  refine gfX6_56 C hw hw.2.2.1 h32 dX6_apply_26 ?_
  refine lv_aload_n hx hb dX6_apply_29 rfl (lv_at hl 0 rfl) ?_
  refine gfX6_37 C hw hw.2.2.1 h0 dX6_apply_30 ?_
  refine lv_icmp_lt (tgt := 62) hx hb dX6_apply_33 (by decide) (fun c35 => ?_) (fun c35 => ?_)
  · replace hq := hq.1 c35
    refine lv_iconst (v := 1) hx hb dX6_apply_62 (by decide) ?_
    refine lv_goto (tgt := 67) hx hb dX6_apply_63 (by decide) ?_
    exact lt_X6_apply_67  C hr hlk hn h0  hq hw (lv_sub hl [0, 1] rfl)
  · replace hq := hq.2 c35
    refine lv_aload_n hx hb dX6_apply_36 rfl (lv_at hl 0 rfl) ?_
    refine r_callV (T := TX6) (N := 9) (ci := 6) (index := 45) (n := 0) (d2 := 0) (mc := 0) (ms := 0) (As := []) (rest := [.ref a1]) C hw (ct_X6_isOver hq) kvX6_45 hq.1 (by decide) rfl ⟨by decide, by decide⟩ ⟨by decide, by decide⟩ rfl hl.1 rfl (Nat.le_of_ble_eq_true rfl) dX6_apply_37 (fun r M37 H locs hp hle hw => ?_)
    obtain ⟨v36, rfl, hq⟩ := hp
    refine W.eq (g2 := F0 m 40 ls [.int v36, .ref a1]) rfl ?_
    refine lv_if_ne (tgt := 62) hx hb dX6_apply_40 (by decide) (fun c38 => ?_) (fun c38 => ?_)
    · replace hq := hq.2 c38
      refine lv_iconst (v := 1) hx hb dX6_apply_62 (by decide) ?_
      refine lv_goto (tgt := 67) hx hb dX6_apply_63 (by decide) ?_
      exact lt_X6_apply_67  C hr hlk hn h0  hq hw (lv_sub hl [0, 1] rfl)
    · replace hq := hq.1 c38
      refine lv_aload_n hx hb dX6_apply_43 rfl (lv_at hl 1 rfl) ?_
      refine gfX6_59 C hw hw.2.2.1 h32 dX6_apply_44 ?_
      refine lv_iconst (v := 2) hx hb dX6_apply_47 (by decide) ?_
      refine lv_icmp_eq (tgt := 66) hx hb dX6_apply_48 (by decide) (fun c39 => ?_) (fun c39 => ?_)
      · replace hq := hq.1 c39
        refine lv_iconst (v := 0) hx hb dX6_apply_66 (by decide) ?_
        exact lt_X6_apply_67  C hr hlk hn h0  hq hw (lv_sub hl [0, 1] rfl)
      · replace hq := hq.2 c39
        refine lv_aload_n hx hb dX6_apply_51 rfl (lv_at hl 0 rfl) ?_
        refine lv_aload_n hx hb dX6_apply_52 rfl (lv_at hl 1 rfl) ?_
        refine gfX6_62 C hw hw.2.2.1 h32 dX6_apply_53 ?_
        refine r_callV (T := TX6) (N := 9) (ci := 6) (index := 52) (n := 1) (d2 := 0) (mc := 0) (ms := 0) (As := [.int (mI M37 a1 2)]) (rest := [.ref a1]) C hw (ct_X6_isFor hq) kvX6_52 hq.1 (by decide) rfl ⟨by decide, by decide⟩ ⟨by decide, by decide⟩ rfl hl.1 rfl (Nat.le_of_ble_eq_true rfl) dX6_apply_56 (fun r M41 H locs hp hle hw => ?_)
        obtain ⟨v40, rfl, hq⟩ := hp
        refine W.eq (g2 := F0 m 59 ls [.int v40, .ref a1]) rfl ?_
        refine lv_if_ne (tgt := 66) hx hb dX6_apply_59 (by decide) (fun c42 => ?_) (fun c42 => ?_)
        · replace hq := hq.2 c42
          refine lv_iconst (v := 0) hx hb dX6_apply_66 (by decide) ?_
          exact lt_X6_apply_67  C hr hlk hn h0  hq hw (lv_sub hl [0, 1] rfl)
        · replace hq := hq.1 c42
          refine lv_iconst (v := 1) hx hb dX6_apply_62 (by decide) ?_
          refine lv_goto (tgt := 67) hx hb dX6_apply_63 (by decide) ?_
          exact lt_X6_apply_67  C hr hlk hn h0  hq hw (lv_sub hl [0, 1] rfl)
set_option maxHeartbeats 4000000 in
set_option maxRecDepth 100000 in
theorem ct_X6_apply {l : Launch} {g : Gh} {M0 : Mem} {a0 : Nat} {a1 : Nat} {post : Mem → Prop}  (hq : wp_X6_apply  g M0 a0 a1 post) : Ct l g yX6_apply cX6_apply 2 none 3 0 0 [.ref a0, .ref a1] M0 (pV post) := by
  unfold wp_X6_apply at hq
  obtain ⟨h0, hq⟩ := hq
  refine Ct.of (by decide) (Nat.le_of_ble_eq_true rfl) ?_
  intro p e s m below meth c ls C hr hlk hn hl hw
  have hx := C.1.1
  have hb := C.1.2.1
  have hl : lv_has ls 2 [(0, .ref a0), (1, .ref a1)] := hl
  refine lv_aload_n hx hb dX6_apply_0 rfl (lv_at hl 1 rfl) ?_
  obtain ⟨h43, hq⟩ := hq
  refine gfX6_56 C hw hw.2.2.1 h43 dX6_apply_1 ?_
  refine lv_aload_n hx hb dX6_apply_4 rfl (lv_at hl 0 rfl) ?_
  refine gfX6_37 C hw hw.2.2.1 h0 dX6_apply_5 ?_
  refine lv_icmp_le (tgt := 19) hx hb dX6_apply_8 (by decide) (fun c44 => ?_) (fun c44 => ?_)
  · replace hq := hq.1 c44
    exact lt_X6_apply_19  C hr hlk hn h0  hq hw (lv_sub hl [0, 1] rfl)
  · replace hq := hq.2 c44
    refine lv_aload_n hx hb dX6_apply_11 rfl (lv_at hl 0 rfl) ?_
    refine lv_aload_n hx hb dX6_apply_12 rfl (lv_at hl 1 rfl) ?_
    refine gfX6_56 C hw hw.2.2.1 h43 dX6_apply_13 ?_
    refine r_callV (T := TX6) (N := 9) (ci := 6) (index := 89) (n := 1) (d2 := 2) (mc := 0) (ms := 0) (As := [.int (mI M0 a1 0)]) (rest := []) C hw (ct_X6_goTo hq) kvX6_89 hq.1 (by decide) rfl ⟨by decide, by decide⟩ ⟨by decide, by decide⟩ rfl hl.1 rfl (Nat.le_of_ble_eq_true rfl) dX6_apply_16 (fun r M46 H locs hp hle hw => ?_)
    obtain ⟨rfl, hq⟩ := hp
    refine W.eq (g2 := F0 m 19 ls []) rfl ?_
    exact lt_X6_apply_19  C hr hlk hn h0  hq hw (lv_sub hl [0, 1] rfl)
