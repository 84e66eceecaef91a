set_option maxRecDepth 100000 in
def wp_X6_isFor  (g : Gh) (M0 : Mem) (a0 : Nat) (p1 : Int32) (post : Int32 → Mem → Prop) : Prop :=
  okc (gB g) M0 a0 6 ∧ ((((mI M0 a0 6) = 2) → post 1 M0) ∧ (¬ ((mI M0 a0 6) = 2) → (((mI M0 a0 6) = p1) → post 1 M0) ∧ (¬ ((mI M0 a0 6) = p1) → post 0 M0)))
set_option maxHeartbeats 4000000 in
set_option maxRecDepth 100000 in
theorem ct_X6_isFor {l : Launch} {g : Gh} {M0 : Mem} {a0 : Nat} {p1 : Int32} {post : Int32 → Mem → Prop}  (hq : wp_X6_isFor  g M0 a0 p1 post) : Ct l g yX6_isFor cX6_isFor 2 (some .boolean) 0 0 0 [.ref a0, .int p1] M0 (pI post) := by
  unfold wp_X6_isFor at hq
  obtain ⟨h0, hq⟩ := hq
  refine Ct.of (by decide) (Nat.le_of_ble_eq_true rfl) ?_
  intro p e s m below meth c ls C hr hlk hn hl hw
  have hx := C.1.1
  have hb := C.1.2.1
  have hl : lv_has ls 2 [(0, .ref a0), (1, .int p1)] := hl
  refine lv_aload_n hx hb dX6_isFor_0 rfl (lv_at hl 0 rfl) ?_
  refine gfX6_79 C hw hw.2.2.1 h0 dX6_isFor_1 ?_
  refine lv_iconst (v := 2) hx hb dX6_isFor_4 (by decide) ?_
  refine lv_icmp_eq (tgt := 16) hx hb dX6_isFor_5 (by decide) (fun c1 => ?_) (fun c1 => ?_)
  · replace hq := hq.1 c1
    refine lv_iconst (v := 1) hx hb dX6_isFor_16 (by decide) ?_
    refine lv_goto (tgt := 21) hx hb dX6_isFor_17 (by decide) ?_
    exact r_zret C hr hlk hw dX6_isFor_21 (Nat.le_refl _) (Nat.le_refl _) (by decide) ⟨_, rfl, hq⟩
  · replace hq := hq.2 c1
    refine lv_aload_n hx hb dX6_isFor_8 rfl (lv_at hl 0 rfl) ?_
    refine gfX6_79 C hw hw.2.2.1 h0 dX6_isFor_9 ?_
    refine lv_iload_n hx hb dX6_isFor_12 rfl (lv_at hl 1 rfl) ?_
    refine lv_icmp_ne (tgt := 20) hx hb dX6_isFor_13 (by decide) (fun c2 => ?_) (fun c2 => ?_)
    · replace hq := hq.2 c2
      refine lv_iconst (v := 0) hx hb dX6_isFor_20 (by decide) ?_
      exact r_zret C hr hlk hw dX6_isFor_21 (Nat.le_refl _) (Nat.le_refl _) (by decide) ⟨_, rfl, hq⟩
    · replace hq := hq.1 c2
      refine lv_iconst (v := 1) hx hb dX6_isFor_16 (by decide) ?_
      refine lv_goto (tgt := 21) hx hb dX6_isFor_17 (by decide) ?_
      exact r_zret C hr hlk hw dX6_isFor_21 (Nat.le_refl _) (Nat.le_refl _) (by decide) ⟨_, rfl, hq⟩

set_option maxRecDepth 100000 in
def lb_X6_worthOf_50  (g : Gh) (M0 : Mem) (a0 : Nat) (a1 : Nat) (post : Int32 → Mem → Prop)  (x2 : Int32) (s0 : Int32) (M : Mem) : Prop :=
  okc (gB g) M0 a1 0 ∧ ((((mI M a1 3) = 0) → ((s0 = 0) → ∃ q4, mR M a0 1 = some q4 ∧ (okc (gB g) M0 q4 4 ∧ (∃ q7, mR M q4 6 = some q7 ∧ (okc (gB g) M0 q7 14 ∧ (vp_in x2 (mN M0 q7) ∧ (post (-(mI M q7 (Int32.toNatClampNeg x2))) M)))))) ∧ (¬ (s0 = 0) → post 0 M)) ∧ (¬ ((mI M a1 3) = 0) → ((s0 = 0) → ∃ q12, mR M a0 1 = some q12 ∧ (okc (gB g) M0 q12 4 ∧ (∃ q15, mR M q12 4 = some q15 ∧ (okc (gB g) M0 q15 14 ∧ (vp_in x2 (mN M0 q15) ∧ (post (mI M q15 (Int32.toNatClampNeg x2)) M)))))) ∧ (¬ (s0 = 0) → ∃ q19, mR M a0 1 = some q19 ∧ (okc (gB g) M0 q19 4 ∧ (∃ q22, mR M q19 5 = some q22 ∧ (okc (gB g) M0 q22 14 ∧ (vp_in x2 (mN M0 q22) ∧ (post (mI M q22 (Int32.toNatClampNeg x2)) M))))))))
set_option maxRecDepth 100000 in
def wp_X6_worthOf  (g : Gh) (M0 : Mem) (a0 : Nat) (a1 : Nat) (post : Int32 → Mem → Prop) : Prop :=
  okc (gB g) M0 a0 6 ∧ (∃ q26, mR M0 a0 1 = some q26 ∧ (wp_X4_roundOf g M0 q26 (mI M0 a0 5) (fun v28 M29 => okc (gB g) M0 a1 0 ∧ ((((mI M29 a1 1) = 0) → ((v28 < 0) → post 0 M29) ∧ (¬ (v28 < 0) → ((v28 < 6) → (((mI M29 a0 7) = 0) → lb_X6_worthOf_50  g M0 a0 a1 post  v28 0 M29) ∧ (¬ ((mI M29 a0 7) = 0) → wp_X6_isBuzz g M29 a0 (fun v35 M36 => ((v35 = 0) → lb_X6_worthOf_50  g M0 a0 a1 post  v28 1 M36) ∧ (¬ (v35 = 0) → lb_X6_worthOf_50  g M0 a0 a1 post  v28 0 M36)))) ∧ (¬ (v28 < 6) → post 0 M29))) ∧ (¬ ((mI M29 a1 1) = 0) → post 0 M29)))))
set_option maxHeartbeats 4000000 in
set_option maxRecDepth 100000 in
theorem lt_X6_worthOf_50 {l : Launch} {g : Gh} {p : Program} {e : Env} {s : State} {m : MethodId} {args : Array Value} {below : List Frame} {meth : Method} {c : Code} {H : Heap} {locs : List Loc} {ls : Array Slot} {M0 M : Mem} {a0 : Nat} {a1 : Nat} {post : Int32 → Mem → Prop} {x2 : Int32} {s0 : Int32}  (C : Cx g p s m args c cX6_worthOf 4 RX6) (hr : meth.sig.returnType = (some .int)) (hlk : meth.locks = false) (hn : meth.name = "worthOf") (h0 : okc (gB g) M0 a0 6)  (hq : lb_X6_worthOf_50  g M0 a0 a1 post  x2 s0 M) (hw : Wd g s M0 M H locs) (hl : lv_has ls 4 [(0, .ref a0), (1, .ref a1), (2, .int x2)]) : W p l e (rmo 2 0 0) s m args below meth c H locs 0 0 (MQ below (Cq g M0 (pI post)) args s 0 0 (gA g)) (F0 m 50 ls [.int s0]) := by
  have hx := C.1.1
  have hb := C.1.2.1
  unfold lb_X6_worthOf_50 at hq
  refine lv_istore_n (lv' := [(3, .int s0), (0, .ref a0), (1, .ref a1), (2, .int x2)]) hx hb dX6_worthOf_50 rfl hl (by decide) rfl (fun ls hl => ?_)
  refine lv_aload_n hx hb dX6_worthOf_51 rfl (lv_at hl 2 rfl) ?_
  obtain ⟨h1, hq⟩ := hq
  refine gfX6_65 C hw hw.2.2.1 h1 dX6_worthOf_52 ?_
  refine lv_if_eq (tgt := 84) hx hb dX6_worthOf_55 (by decide) (fun c2 => ?_) (fun c2 => ?_)
  · replace hq := hq.1 c2
    refine lv_iload_n hx hb dX6_worthOf_84 rfl (lv_at hl 0 rfl) ?_
    refine lv_if_eq (tgt := 92) hx hb dX6_worthOf_85 (by decide) (fun c3 => ?_) (fun c3 => ?_)
    · replace hq := hq.1 c3
      refine lv_aload_n hx hb dX6_worthOf_92 rfl (lv_at hl 1 rfl) ?_
      obtain ⟨q4, e5, hq⟩ := hq
      refine gfX6_15 C hw hw.2.2.1 h0 e5 dX6_worthOf_93 ?_
      obtain ⟨h6, hq⟩ := hq
      obtain ⟨q7, e8, hq⟩ := hq
      refine gfX6_115 C hw hw.2.2.1 h6 e8 dX6_worthOf_96 ?_
      refine lv_iload_n hx hb dX6_worthOf_99 rfl (lv_at hl 3 rfl) ?_
      obtain ⟨h9, hq⟩ := hq
      obtain ⟨h10, hq⟩ := hq
      refine q_iald C hw hw.2.2.1 h9 h10 dX6_worthOf_100 ?_
      refine lv_ineg hx hb dX6_worthOf_101 ?_
      exact r_iret C hr hlk hw dX6_worthOf_102 (Nat.le_refl _) (Nat.le_refl _) ⟨_, rfl, hq⟩
    · replace hq := hq.2 c3
      refine lv_iconst (v := 0) hx hb dX6_worthOf_88 (by decide) ?_
      refine lv_goto (tgt := 102) hx hb dX6_worthOf_89 (by decide) ?_
      exact r_iret C hr hlk hw dX6_worthOf_102 (Nat.le_refl _) (Nat.le_refl _) ⟨_, rfl, hq⟩
  · replace hq := hq.2 c2
    refine lv_iload_n hx hb dX6_worthOf_58 rfl (lv_at hl 0 rfl) ?_
    refine lv_if_eq (tgt := 74) hx hb dX6_worthOf_59 (by decide) (fun c11 => ?_) (fun c11 => ?_)
    · replace hq := hq.1 c11
      refine lv_aload_n hx hb dX6_worthOf_74 rfl (lv_at hl 1 rfl) ?_
      obtain ⟨q12, e13, hq⟩ := hq
      refine gfX6_15 C hw hw.2.2.1 h0 e13 dX6_worthOf_75 ?_
      obtain ⟨h14, hq⟩ := hq
      obtain ⟨q15, e16, hq⟩ := hq
      refine gfX6_112 C hw hw.2.2.1 h14 e16 dX6_worthOf_78 ?_
      refine lv_iload_n hx hb dX6_worthOf_81 rfl (lv_at hl 3 rfl) ?_
      obtain ⟨h17, hq⟩ := hq
      obtain ⟨h18, hq⟩ := hq
      refine q_iald C hw hw.2.2.1 h17 h18 dX6_worthOf_82 ?_
      exact r_iret C hr hlk hw dX6_worthOf_83 (Nat.le_refl _) (Nat.le_refl _) ⟨_, rfl, hq⟩
    · replace hq := hq.2 c11
      refine lv_aload_n hx hb dX6_worthOf_62 rfl (lv_at hl 1 rfl) ?_
      obtain ⟨q19, e20, hq⟩ := hq
      refine gfX6_15 C hw hw.2.2.1 h0 e20 dX6_worthOf_63 ?_
      obtain ⟨h21, hq⟩ := hq
      obtain ⟨q22, e23, hq⟩ := hq
      refine gfX6_109 C hw hw.2.2.1 h21 e23 dX6_worthOf_66 ?_
      refine lv_iload_n hx hb dX6_worthOf_69 rfl (lv_at hl 3 rfl) ?_
      obtain ⟨h24, hq⟩ := hq
      obtain ⟨h25, hq⟩ := hq
      refine q_iald C hw hw.2.2.1 h24 h25 dX6_worthOf_70 ?_
      refine lv_goto (tgt := 83) hx hb dX6_worthOf_71 (by decide) ?_
      exact r_iret C hr hlk hw dX6_worthOf_83 (Nat.le_refl _) (Nat.le_refl _) ⟨_, rfl, hq⟩
set_option maxHeartbeats 4000000 in
set_option maxRecDepth 100000 in
theorem ct_X6_worthOf {l : Launch} {g : Gh} {M0 : Mem} {a0 : Nat} {a1 : Nat} {post : Int32 → Mem → Prop}  (hq : wp_X6_worthOf  g M0 a0 a1 post) : Ct l g yX6_worthOf cX6_worthOf 4 (some .int) 2 0 0 [.ref a0, .ref a1] M0 (pI post) := by
  unfold wp_X6_worthOf at hq
  obtain ⟨h0, hq⟩ := hq
  refine Ct.of (by decide) (Nat.le_of_ble_eq_true rfl) ?_
  intro p e s m below meth c ls C hr hlk hn hl hw
  have hx := C.1.1
  have hb := C.1.2.1
  have hl : lv_has ls 4 [(0, .ref a0), (1, .ref a1)] := hl
  refine lv_aload_n hx hb dX6_worthOf_0 rfl (lv_at hl 0 rfl) ?_
  obtain ⟨q26, e27, hq⟩ := hq
  refine gfX6_15 C hw hw.2.2.1 h0 e27 dX6_worthOf_1 ?_
  refine lv_aload_n hx hb dX6_worthOf_4 rfl (lv_at hl 0 rfl) ?_
  refine gfX6_37 C hw hw.2.2.1 h0 dX6_worthOf_5 ?_
  refine r_callV (T := TX4) (N := 9) (ci := 4) (index := 106) (n := 1) (d2 := 0) (mc := 0) (ms := 0) (As := [.int (mI M0 a0 5)]) (rest := []) C hw (ct_X4_roundOf hq) kvX6_106 hq.1 (by decide) rfl ⟨by decide, by decide⟩ ⟨by decide, by decide⟩ rfl hl.1 rfl (Nat.le_of_ble_eq_true rfl) dX6_worthOf_8 (fun r M29 H locs hp hle hw => ?_)
  obtain ⟨v28, rfl, hq⟩ := hp
  refine W.eq (g2 := F0 m 11 ls [.int v28]) rfl ?_
  refine lv_istore_n (lv' := [(2, .int v28), (0, .ref a0), (1, .ref a1)]) hx hb dX6_worthOf_11 rfl hl (by decide) rfl (fun ls hl => ?_)
  refine lv_aload_n hx hb dX6_worthOf_12 rfl (lv_at hl 2 rfl) ?_
  obtain ⟨h30, hq⟩ := hq
  refine gfX6_59 C hw hw.2.2.1 h30 dX6_worthOf_13 ?_
  refine lv_if_ne (tgt := 29) hx hb dX6_worthOf_16 (by decide) (fun c31 => ?_) (fun c31 => ?_)
  · replace hq := hq.2 c31
    refine lv_iconst (v := 0) hx hb dX6_worthOf_29 (by decide) ?_
    exact r_iret C hr hlk hw dX6_worthOf_30 (Nat.le_refl _) (Nat.le_refl _) ⟨_, rfl, hq⟩
  · replace hq := hq.1 c31
    refine lv_iload_n hx hb dX6_worthOf_19 rfl (lv_at hl 0 rfl) ?_
    refine lv_if_lt (tgt := 29) hx hb dX6_worthOf_20 (by decide) (fun c32 => ?_) (fun c32 => ?_)
    · replace hq := hq.1 c32
      refine lv_iconst (v := 0) hx hb dX6_worthOf_29 (by decide) ?_
      exact r_iret C hr hlk hw dX6_worthOf_30 (Nat.le_refl _) (Nat.le_refl _) ⟨_, rfl, hq⟩
    · replace hq := hq.2 c32
      refine lv_iload_n hx hb dX6_worthOf_23 rfl (lv_at hl 0 rfl) ?_
      refine lv_bipush (v := 6) hx hb dX6_worthOf_24 (by decide) ?_
      refine lv_icmp_lt (tgt := 31) hx hb dX6_worthOf_26 (by decide) (fun c33 => ?_) (fun c33 => ?_)
      · replace hq := hq.1 c33
        refine lv_aload_n hx hb dX6_worthOf_31 rfl (lv_at hl 1 rfl) ?_
        refine gfX6_93 C hw hw.2.2.1 h0 dX6_worthOf_32 ?_
        refine lv_if_eq (tgt := 49) hx hb dX6_worthOf_35 (by decide) (fun c34 => ?_) (fun c34 => ?_)
        · replace hq := hq.1 c34
          refine lv_iconst (v := 0) hx hb dX6_worthOf_49 (by decide) ?_
          exact lt_X6_worthOf_50  C hr hlk hn h0  hq hw (lv_sub hl [1, 2, 0] rfl)
        · replace hq := hq.2 c34
          refine lv_aload_n hx hb dX6_worthOf_38 rfl (lv_at hl 1 rfl) ?_
          refine r_callV (T := TX6) (N := 9) (ci := 6) (index := 49) (n := 0) (d2 := 1) (mc := 0) (ms := 0) (As := []) (rest := []) C hw (ct_X6_isBuzz hq) kvX6_49 hq.1 (by decide) rfl ⟨by decide, by decide⟩ ⟨by decide, by decide⟩ rfl hl.1 rfl (Nat.le_of_ble_eq_true rfl) dX6_worthOf_39 (fun r M36 H locs hp hle hw => ?_)
          obtain ⟨v35, rfl, hq⟩ := hp
          refine W.eq (g2 := F0 m 42 ls [.int v35]) rfl ?_
          refine lv_if_ne (tgt := 49) hx hb dX6_worthOf_42 (by decide) (fun c37 => ?_) (fun c37 => ?_)
          · replace hq := hq.2 c37
            refine lv_iconst (v := 0) hx hb dX6_worthOf_49 (by decide) ?_
            exact lt_X6_worthOf_50  C hr hlk hn h0  hq hw (lv_sub hl [1, 2, 0] rfl)
          · replace hq := hq.1 c37
            refine lv_iconst (v := 1) hx hb dX6_worthOf_45 (by decide) ?_
            refine lv_goto (tgt := 50) hx hb dX6_worthOf_46 (by decide) ?_
            exact lt_X6_worthOf_50  C hr hlk hn h0  hq hw (lv_sub hl [1, 2, 0] rfl)
      · replace hq := hq.2 c33
        refine lv_iconst (v := 0) hx hb dX6_worthOf_29 (by decide) ?_
        exact r_iret C hr hlk hw dX6_worthOf_30 (Nat.le_refl _) (Nat.le_refl _) ⟨_, rfl, hq⟩

set_option maxRecDepth 100000 in
def wp_X6_hasPass  (g : Gh) (M0 : Mem) (a0 : Nat) (post : Int32 → Mem → Prop) : Prop :=
  okc (gB g) M0 a0 6 ∧ (∃ q1, mR M0 a0 1 = some q1 ∧ (wp_X4_roundOf g M0 q1 (mI M0 a0 5) (fun v3 M4 => ((v3 < 0) → post 0 M4) ∧ (¬ (v3 < 0) → ((6 ≤ v3) → post 0 M4) ∧ (¬ (6 ≤ v3) → ∃ q7, mR M4 a0 1 = some q7 ∧ (okc (gB g) M0 q7 4 ∧ (∃ q10, mR M4 q7 5 = some q10 ∧ (okc (gB g) M0 q10 14 ∧ (vp_in v3 (mN M0 q10) ∧ ((((mI M4 q10 (Int32.toNatClampNeg v3)) = (-1)) → post 0 M4) ∧ (¬ ((mI M4 q10 (Int32.toNatClampNeg v3)) = (-1)) → post 1 M4)))))))))))
set_option maxHeartbeats 4000000 in
set_option maxRecDepth 100000 in
theorem ct_X6_hasPass {l : Launch} {g : Gh} {M0 : Mem} {a0 : Nat} {post : Int32 → Mem → Prop}  (hq : wp_X6_hasPass  g M0 a0 post) : Ct l g yX6_hasPass cX6_hasPass 2 (some .boolean) 1 0 0 [.ref a0] M0 (pI post) := by
  unfold wp_X6_hasPass at hq
  obtain ⟨h0, hq⟩ := hq
  refine Ct.of (by decide) (Nat.le_of_ble_eq_true rfl) ?_
  intro p e s m below meth c ls C hr hlk hn hl hw
  have hx := C.1.1
  have hb := C.1.2.1
  have hl : lv_has ls 2 [(0, .ref a0)] := hl
  refine lv_aload_n hx hb dX6_hasPass_0 rfl (lv_at hl 0 rfl) ?_
  obtain ⟨q1, e2, hq⟩ := hq
  refine gfX6_15 C hw hw.2.2.1 h0 e2 dX6_hasPass_1 ?_
  refine lv_aload_n hx hb dX6_hasPass_4 rfl (lv_at hl 0 rfl) ?_
  refine gfX6_37 C hw hw.2.2.1 h0 dX6_hasPass_5 ?_
  refine r_callV (T := TX4) (N := 9) (ci := 4) (index := 106) (n := 1) (d2 := 0) (mc := 0) (ms := 0) (As := [.int (mI M0 a0 5)]) (rest := []) C hw (ct_X4_roundOf hq) kvX6_106 hq.1 (by decide) rfl ⟨by decide, by decide⟩ ⟨by decide, by decide⟩ rfl hl.1 rfl (Nat.le_of_ble_eq_true rfl) dX6_hasPass_8 (fun r M4 H locs hp hle hw => ?_)
  obtain ⟨v3, rfl, hq⟩ := hp
  refine W.eq (g2 := F0 m 11 ls [.int v3]) rfl ?_
  refine lv_istore_n (lv' := [(1, .int v3), (0, .ref a0)]) hx hb dX6_hasPass_11 rfl hl (by decide) rfl (fun ls hl => ?_)
  refine lv_iload_n hx hb dX6_hasPass_12 rfl (lv_at hl 0 rfl) ?_
  refine lv_if_lt (tgt := 39) hx hb dX6_hasPass_13 (by decide) (fun c5 => ?_) (fun c5 => ?_)
  · replace hq := hq.1 c5
    refine lv_iconst (v := 0) hx hb dX6_hasPass_39 (by decide) ?_
    exact r_zret C hr hlk hw dX6_hasPass_40 (Nat.le_refl _) (Nat.le_refl _) (by decide) ⟨_, rfl, hq⟩
  · replace hq := hq.2 c5
    refine lv_iload_n hx hb dX6_hasPass_16 rfl (lv_at hl 0 rfl) ?_
    refine lv_bipush (v := 6) hx hb dX6_hasPass_17 (by decide) ?_
    refine lv_icmp_ge (tgt := 39) hx hb dX6_hasPass_19 (by decide) (fun c6 => ?_) (fun c6 => ?_)
    · replace hq := hq.1 c6
      refine lv_iconst (v := 0) hx hb dX6_hasPass_39 (by decide) ?_
      exact r_zret C hr hlk hw dX6_hasPass_40 (Nat.le_refl _) (Nat.le_refl _) (by decide) ⟨_, rfl, hq⟩
    · replace hq := hq.2 c6
      refine lv_aload_n hx hb dX6_hasPass_22 rfl (lv_at hl 1 rfl) ?_
      obtain ⟨q7, e8, hq⟩ := hq
      refine gfX6_15 C hw hw.2.2.1 h0 e8 dX6_hasPass_23 ?_
      obtain ⟨h9, hq⟩ := hq
      obtain ⟨q10, e11, hq⟩ := hq
      refine gfX6_109 C hw hw.2.2.1 h9 e11 dX6_hasPass_26 ?_
      refine lv_iload_n hx hb dX6_hasPass_29 rfl (lv_at hl 0 rfl) ?_
      obtain ⟨h12, hq⟩ := hq
      obtain ⟨h13, hq⟩ := hq
      refine q_iald C hw hw.2.2.1 h12 h13 dX6_hasPass_30 ?_
      refine lv_iconst (v := (-1)) hx hb dX6_hasPass_31 (by decide) ?_
      refine lv_icmp_eq (tgt := 39) hx hb dX6_hasPass_32 (by decide) (fun c14 => ?_) (fun c14 => ?_)
      · replace hq := hq.1 c14
        refine lv_iconst (v := 0) hx hb dX6_hasPass_39 (by decide) ?_
        exact r_zret C hr hlk hw dX6_hasPass_40 (Nat.le_refl _) (Nat.le_refl _) (by decide) ⟨_, rfl, hq⟩
      · replace hq := hq.2 c14
        refine lv_iconst (v := 1) hx hb dX6_hasPass_35 (by decide) ?_
        refine lv_goto (tgt := 40) hx hb dX6_hasPass_36 (by decide) ?_
        exact r_zret C hr hlk hw dX6_hasPass_40 (Nat.le_refl _) (Nat.le_refl _) (by decide) ⟨_, rfl, hq⟩

set_option maxRecDepth 100000 in
def lb_X6_goesToOther_27  (g : Gh) (M0 : Mem) (a0 : Nat) (a1 : Nat) (post : Int32 → Mem → Prop)   (s0 : Int32) (M : Mem) : Prop :=
  ((s0 = 0) → post 0 M) ∧ (¬ (s0 = 0) → wp_X6_isBuzz g M a0 (fun v2 M3 => ((v2 = 0) → wp_X6_hasPass g M3 a0 (fun v5 M6 => ((v5 = 0) → post 0 M6) ∧ (¬ (v5 = 0) → post 1 M6))) ∧ (¬ (v2 = 0) → post 1 M3)))
set_option maxRecDepth 100000 in
def wp_X6_goesToOther  (g : Gh) (M0 : Mem) (a0 : Nat) (a1 : Nat) (post : Int32 → Mem → Prop) : Prop :=
  okc (gB g) M0 a0 6 ∧ ((((mI M0 a0 7) = 0) → okc (gB g) M0 a1 0 ∧ ((((mI M0 a1 3) = 0) → (((mI M0 a1 1) = 2) → lb_X6_goesToOther_27  g M0 a0 a1 post  0 M0) ∧ (¬ ((mI M0 a1 1) = 2) → lb_X6_goesToOther_27  g M0 a0 a1 post  1 M0)) ∧ (¬ ((mI M0 a1 3) = 0) → lb_X6_goesToOther_27  g M0 a0 a1 post  0 M0))) ∧ (¬ ((mI M0 a0 7) = 0) → lb_X6_goesToOther_27  g M0 a0 a1 post  0 M0))
set_option maxHeartbeats 4000000 in
set_option maxRecDepth 100000 in
theorem lt_X6_goesToOther_27 {l : Launch} {g : Gh} {p : Program} {e : Env} {s : State} {m : MethodId} {args : Array Value} {below : List Frame} {meth : Method} {c : Code} {H : Heap} {locs : List Loc} {ls : Array Slot} {M0 M : Mem} {a0 : Nat} {a1 : Nat} {post : Int32 → Mem → Prop}  {s0 : Int32}  (C : Cx g p s m args c cX6_goesToOther 3 RX6) (hr : meth.sig.returnType = (some .boolean)) (hlk : meth.locks = false) (hn : meth.name = "goesToOther") (h0 : okc (gB g) M0 a0 6)  (hq : lb_X6_goesToOther_27  g M0 a0 a1 post  s0 M) (hw : Wd g s M0 M H locs) (hl : lv_has ls 3 [(0, .ref a0), (1, .ref a1)]) : W p l e (rmo 2 0 0) s m args below meth c H locs 0 0 (MQ below (Cq g M0 (pI post)) args s 0 0 (gA g)) (F0 m 27 ls [.int s0]) := by
  have hx := C.1.1
  have hb := C.1.2.1
  unfold lb_X6_goesToOther_27 at hq
  refine lv_istore_n (lv' := [(2, .int s0), (0, .ref a0), (1, .ref a1)]) hx hb dX6_goesToOther_27 rfl hl (by decide) rfl (fun ls hl => ?_)
  refine lv_iload_n hx hb dX6_goesToOther_28 rfl (lv_at hl 0 rfl) ?_
  refine lv_if_eq (tgt := 50) hx hb dX6_goesToOther_29 (by decide) (fun c1 => ?_) (fun c1 => ?_)
  · replace hq := hq.1 c1
    refine lv_iconst (v := 0) hx hb dX6_goesToOther_50 (by decide) ?_
    exact r_zret C hr hlk hw dX6_goesToOther_51 (Nat.le_refl _) (Nat.le_refl _) (by decide) ⟨_, rfl, hq⟩
  · replace hq := hq.2 c1
    refine lv_aload_n hx hb dX6_goesToOther_32 rfl (lv_at hl 1 rfl) ?_
    refine r_callV (T := TX6) (N := 9) (ci := 6) (index := 49) (n := 0) (d2 := 1) (mc := 0) (ms := 0) (As := []) (rest := []) C hw (ct_X6_isBuzz hq) kvX6_49 hq.1 (by decide) rfl ⟨by decide, by decide⟩ ⟨by decide, by decide⟩ rfl hl.1 rfl (Nat.le_of_ble_eq_true rfl) dX6_goesToOther_33 (fun r M3 H locs hp hle hw => ?_)
    obtain ⟨v2, rfl, hq⟩ := hp
    refine W.eq (g2 := F0 m 36 ls [.int v2]) rfl ?_
    refine lv_if_ne (tgt := 46) hx hb dX6_goesToOther_36 (by decide) (fun c4 => ?_) (fun c4 => ?_)
    · replace hq := hq.2 c4
      refine lv_iconst (v := 1) hx hb dX6_goesToOther_46 (by decide) ?_
      refine lv_goto (tgt := 51) hx hb dX6_goesToOther_47 (by decide) ?_
      exact r_zret C hr hlk hw dX6_goesToOther_51 (Nat.le_refl _) (Nat.le_refl _) (by decide) ⟨_, rfl, hq⟩
    · replace hq := hq.1 c4
      refine lv_aload_n hx hb dX6_goesToOther_39 rfl (lv_at hl 1 rfl) ?_
      refine r_callV (T := TX6) (N := 9) (ci := 6) (index := 118) (n := 0) (d2 := 1) (mc := 0) (ms := 0) (As := []) (rest := []) C hw (ct_X6_hasPass hq) kvX6_118 hq.1 (by decide) rfl ⟨by decide, by decide⟩ ⟨by decide, by decide⟩ rfl hl.1 rfl (Nat.le_of_ble_eq_true rfl) dX6_goesToOther_40 (fun r M6 H locs hp hle hw => ?_)
      obtain ⟨v5, rfl, hq⟩ := hp
      refine W.eq (g2 := F0 m 43 ls [.int v5]) rfl ?_
      refine lv_if_eq (tgt := 50) hx hb dX6_goesToOther_43 (by decide) (fun c7 => ?_) (fun c7 => ?_)
      · replace hq := hq.1 c7
        refine lv_iconst (v := 0) hx hb dX6_goesToOther_50 (by decide) ?_
        exact r_zret C hr hlk hw dX6_goesToOther_51 (Nat.le_refl _) (Nat.le_refl _) (by decide) ⟨_, rfl, hq⟩
      · replace hq := hq.2 c7
        refine lv_iconst (v := 1) hx hb dX6_goesToOther_46 (by decide) ?_
        refine lv_goto (tgt := 51) hx hb dX6_goesToOther_47 (by decide) ?_
        exact r_zret C hr hlk hw dX6_goesToOther_51 (Nat.le_refl _) (Nat.le_refl _) (by decide) ⟨_, rfl, hq⟩
set_option maxHeartbeats 4000000 in
set_option maxRecDepth 100000 in
theorem ct_X6_goesToOther {l : Launch} {g : Gh} {M0 : Mem} {a0 : Nat} {a1 : Nat} {post : Int32 → Mem → Prop}  (hq : wp_X6_goesToOther  g M0 a0 a1 post) : Ct l g yX6_goesToOther cX6_goesToOther 3 (some .boolean) 2 0 0 [.ref a0, .ref a1] M0 (pI post) := by
  unfold wp_X6_goesToOther at hq
  obtain ⟨h0, hq⟩ := hq
  refine Ct.of (by decide) (Nat.le_of_ble_eq_true rfl) ?_
  intro p e s m below meth c ls C hr hlk hn hl hw
  have hx := C.1.1
  have hb := C.1.2.1
  have hl : lv_has ls 3 [(0, .ref a0), (1, .ref a1)] := hl
  refine lv_aload_n hx hb dX6_goesToOther_0 rfl (lv_at hl 0 rfl) ?_
  refine gfX6_93 C hw hw.2.2.1 h0 dX6_goesToOther_1 ?_
  refine lv_if_ne (tgt := 26) hx hb dX6_goesToOther_4 (by decide) (fun c8 => ?_) (fun c8 => ?_)
  · replace hq := hq.2 c8
    refine lv_iconst (v := 0) hx hb dX6_goesToOther_26 (by decide) ?_
    exact lt_X6_goesToOther_27  C hr hlk hn h0  hq hw (lv_sub hl [0, 1] rfl)
  · replace hq := hq.1 c8
    refine lv_aload_n hx hb dX6_goesToOther_7 rfl (lv_at hl 1 rfl) ?_
    obtain ⟨h9, hq⟩ := hq
    refine gfX6_65 C hw hw.2.2.1 h9 dX6_goesToOther_8 ?_
    refine lv_if_ne (tgt := 26) hx hb dX6_goesToOther_11 (by decide) (fun c10 => ?_) (fun c10 => ?_)
    · replace hq := hq.2 c10
      refine lv_iconst (v := 0) hx hb dX6_goesToOther_26 (by decide) ?_
      exact lt_X6_goesToOther_27  C hr hlk hn h0  hq hw (lv_sub hl [0, 1] rfl)
    · replace hq := hq.1 c10
      refine lv_aload_n hx hb dX6_goesToOther_14 rfl (lv_at hl 1 rfl) ?_
      refine gfX6_59 C hw hw.2.2.1 h9 dX6_goesToOther_15 ?_
      refine lv_iconst (v := 2) hx hb dX6_goesToOther_18 (by decide) ?_
      refine lv_icmp_eq (tgt := 26) hx hb dX6_goesToOther_19 (by decide) (fun c11 => ?_) (fun c11 => ?_)
      · replace hq := hq.1 c11
        refine lv_iconst (v := 0) hx hb dX6_goesToOther_26 (by decide) ?_
        exact lt_X6_goesToOther_27  C hr hlk hn h0  hq hw (lv_sub hl [0, 1] rfl)
      · replace hq := hq.2 c11
        refine lv_iconst (v := 1) hx hb dX6_goesToOther_22 (by decide) ?_
        refine lv_goto (tgt := 27) hx hb dX6_goesToOther_23 (by decide) ?_
        exact lt_X6_goesToOther_27  C hr hlk hn h0  hq hw (lv_sub hl [0, 1] rfl)

set_option maxRecDepth 100000 in
def lb_X6_apply_128  (g : Gh) (M0 : Mem) (a0 : Nat) (a1 : Nat) (post : Mem → Prop)    (M : Mem) : Prop :=
  wp_X6_goesToOther g M a0 a1 (fun v1 M2 => ((v1 = 0) → wp_X6_goTo g M2 a0 ((mI M2 a0 5) + 1) (fun M5 => post M5)) ∧ (¬ (v1 = 0) → ∀ M6, M6 = uI M2 a0 7 1 → (okc (gB g) M0 a1 0 ∧ (∀ M9, M9 = uI M6 a0 6 (1 - (mI M6 a1 2)) → (post M9)))))
set_option maxRecDepth 100000 in
def lb_X6_apply_112  (g : Gh) (M0 : Mem) (a0 : Nat) (a1 : Nat) (post : Mem → Prop)    (M : Mem) : Prop :=
  ∃ q11, mR M a0 8 = some q11 ∧ (okc (gB g) M0 a1 0 ∧ (okc (gB g) M0 q11 14 ∧ (vp_in (mI M a1 2) (mN M0 q11) ∧ (∀ M16, M16 = uI M q11 (Int32.toNatClampNeg (mI M a1 2)) ((mI M q11 (Int32.toNatClampNeg (mI M a1 2))) + (mI M a1 5)) → (lb_X6_apply_128  g M0 a0 a1 post   M16)))))
set_option maxRecDepth 100000 in
def lb_X6_apply_67  (g : Gh) (M0 : Mem) (a0 : Nat) (a1 : Nat) (post : Mem → Prop)   (s0 : Nat) (s1 : Int32) (M : Mem) : Prop :=
  okc (gB g) M0 s0 0 ∧ ((s1 = 0 ∨ s1 = 1) ∧ (∀ M20, M20 = uI M s0 4 s1 → (okc (gB g) M0 a1 0 ∧ ((((mI M20 a1 4) = 0) → wp_X6_worthOf g M20 a0 a1 (fun v24 M25 => ∀ M26, M26 = uI M25 a1 5 v24 → ((((mI M26 a1 2) = 0) → lb_X6_apply_112  g M0 a0 a1 post   M26) ∧ (¬ ((mI M26 a1 2) = 0) → (((mI M26 a1 2) = 1) → lb_X6_apply_112  g M0 a0 a1 post   M26) ∧ (¬ ((mI M26 a1 2) = 1) → lb_X6_apply_128  g M0 a0 a1 post   M26))))) ∧ (¬ ((mI M20 a1 4) = 0) → ∀ M30, M30 = uI M20 a0 4 ((mI M20 a0 4) + 1) → (post M30))))))
set_option maxRecDepth 100000 in
def lb_X6_apply_19  (g : Gh) (M0 : Mem) (a0 : Nat) (a1 : Nat) (post : Mem → Prop)    (M : Mem) : Prop :=
  okc (gB g) M0 a1 0 ∧ (∀ M33, M33 = uI M a1 5 0 → ((((mI M33 a1 0) < (mI M33 a0 5)) → lb_X6_apply_67  g M0 a0 a1 post  a1 1 M33) ∧ (¬ ((mI M33 a1 0) < (mI M33 a0 5)) → wp_X6_isOver g M33 a0 (fun v36 M37 => ((v36 = 0) → (((mI M37 a1 1) = 2) → lb_X6_apply_67  g M0 a0 a1 post  a1 0 M37) ∧ (¬ ((mI M37 a1 1) = 2) → wp_X6_isFor g M37 a0 (mI M37 a1 2) (fun v40 M41 => ((v40 = 0) → lb_X6_apply_67  g M0 a0 a1 post  a1 1 M41) ∧ (¬ (v40 = 0) → lb_X6_apply_67  g M0 a0 a1 post  a1 0 M41)))) ∧ (¬ (v36 = 0) → lb_X6_apply_67  g M0 a0 a1 post  a1 1 M37)))))
set_option maxRecDepth 100000 in
def wp_X6_apply  (g : Gh) (M0 : Mem) (a0 : Nat) (a1 : Nat) (post : Mem → Prop) : Prop :=
  okc (gB g) M0 a0 6 ∧ (okc (gB g) M0 a1 0 ∧ ((((mI M0 a1 0) ≤ (mI M0 a0 5)) → lb_X6_apply_19  g M0 a0 a1 post   M0) ∧ (¬ ((mI M0 a1 0) ≤ (mI M0 a0 5)) → wp_X6_goTo g M0 a0 (mI M0 a1 0) (fun M46 => lb_X6_apply_19  g M0 a0 a1 post   M46))))
set_option maxHeartbeats 4000000 in
set_option maxRecDepth 100000 in
theorem lt_X6_apply_128 {l : Launch} {g : Gh} {p : Program} {e : Env} {s : State} {m : MethodId} {args : Array Value} {below : List Frame} {meth : Method} {c : Code} {H : Heap} {locs : List Loc} {ls : Array Slot} {M0 M : Mem} {a0 : Nat} {a1 : Nat} {post : Mem → Prop}    (C : Cx g p s m args c cX6_apply 2 RX6) (hr : meth.sig.returnType = none) (hlk : meth.locks = false) (hn : meth.name = "apply") (h0 : okc (gB g) M0 a0 6)  (hq : lb_X6_apply_128  g M0 a0 a1 post   M) (hw : Wd g s M0 M H locs) (hl : lv_has ls 2 [(0, .ref a0), (1, .ref a1)]) : W p l e (rmo 3 0 0) s m args below meth c H locs 0 0 (MQ below (Cq g M0 (pV post)) args s 0 0 (gA g)) (F0 m 128 ls []) := by
  have hx := C.1.1
  have hb := C.1.2.1
  unfold lb_X6_apply_128 at hq
  refine lv_aload_n hx hb dX6_apply_128 rfl (lv_at hl 0 rfl) ?_
  refine lv_aload_n hx hb dX6_apply_129 rfl (lv_at hl 1 rfl) ?_
  refine r_callV (T := TX6) (N := 9) (ci := 6) (index := 102) (n := 1) (d2 := 2) (mc := 0) (ms := 0) (As := [.ref a1]) (rest := []) C hw (ct_X6_goesToOther hq) kvX6_102 hq.1 (by decide) rfl ⟨by decide, by decide⟩ ⟨by decide, by decide⟩ rfl hl.1 rfl (Nat.le_of_ble_eq_true rfl) dX6_apply_130 (fun r M2 H locs hp hle hw => ?_)
  obtain ⟨v1, rfl, hq⟩ := hp
  refine W.eq (g2 := F0 m 133 ls [.int v1]) rfl ?_
  refine lv_if_eq (tgt := 154) hx hb dX6_apply_133 (by decide) (fun c3 => ?_) (fun c3 => ?_)
  · replace hq := hq.1 c3
    refine lv_aload_n hx hb dX6_apply_154 rfl (lv_at hl 0 rfl) ?_
    refine lv_aload_n hx hb dX6_apply_155 rfl (lv_at hl 0 rfl) ?_
    refine gfX6_37 C hw hw.2.2.1 h0 dX6_apply_156 ?_
    refine lv_iconst (v := 1) hx hb dX6_apply_159 (by decide) ?_
    refine lv_iadd hx hb dX6_apply_160 ?_
    refine r_callV (T := TX6) (N := 9) (ci := 6) (index := 89) (n := 1) (d2 := 2) (mc := 0) (ms := 0) (As := [.int ((mI M2 a0 5) + 1)]) (rest := []) C hw (ct_X6_goTo hq) kvX6_89 hq.1 (by decide) rfl ⟨by decide, by decide⟩ ⟨by decide, by decide⟩ rfl hl.1 rfl (Nat.le_of_ble_eq_true rfl) dX6_apply_161 (fun r M5 H locs hp hle hw => ?_)
    obtain ⟨rfl, hq⟩ := hp
    refine W.eq (g2 := F0 m 164 ls []) rfl ?_
    exact r_vret C hr hlk hw dX6_apply_164 (Nat.le_refl _) (Nat.le_refl _) ⟨rfl, hq⟩
  · replace hq := hq.2 c3
    refine lv_aload_n hx hb dX6_apply_136 rfl (lv_at hl 0 rfl) ?_
    refine lv_iconst (v := 1) hx hb dX6_apply_137 (by decide) ?_
    refine pfX6_93 C hw hw.2.2.1 h0 (by decide) dX6_apply_138 (fun H locs hw => ?_)
    generalize e7 : uI M2 a0 7 1 = M6 at hw
    replace hq := hq M6 e7.symm
    refine lv_aload_n hx hb dX6_apply_141 rfl (lv_at hl 0 rfl) ?_
    refine lv_iconst (v := 1) hx hb dX6_apply_142 (by decide) ?_
    refine lv_aload_n hx hb dX6_apply_143 rfl (lv_at hl 1 rfl) ?_
    obtain ⟨h8, hq⟩ := hq
    refine gfX6_62 C hw hw.2.2.1 h8 dX6_apply_144 ?_
    refine lv_isub hx hb dX6_apply_147 ?_
    refine pfX6_79 C hw hw.2.2.1 h0 dX6_apply_148 (fun H locs hw => ?_)
    generalize e10 : uI M6 a0 6 (1 - (mI M6 a1 2)) = M9 at hw
    replace hq := hq M9 e10.symm
    refine lv_goto (tgt := 164) hx hb dX6_apply_151 (by decide) ?_
    exact r_vret C hr hlk hw dX6_apply_164 (Nat.le_refl _) (Nat.le_refl _) ⟨rfl, hq⟩
set_option maxHeartbeats 4000000 in
set_option maxRecDepth 100000 in
theorem lt_X6_apply_112 {l : Launch} {g : Gh} {p : Program} {e : Env} {s : State} {m : MethodId} {args : Array Value} {below : List Frame} {meth : Method} {c : Code} {H : Heap} {locs : List Loc} {ls : Array Slot} {M0 M : Mem} {a0 : Nat} {a1 : Nat} {post : Mem → Prop}    (C : Cx g p s m args c cX6_apply 2 RX6) (hr : meth.sig.returnType = none) (hlk : meth.locks = false) (hn : meth.name = "apply") (h0 : okc (gB g) M0 a0 6)  (hq : lb_X6_apply_112  g M0 a0 a1 post   M) (hw : Wd g s M0 M H locs) (hl : lv_has ls 2 [(0, .ref a0), (1, .ref a1)]) : W p l e (rmo 3 0 0) s m args below meth c H locs 0 0 (MQ below (Cq g M0 (pV post)) args s 0 0 (gA g)) (F0 m 112 ls []) := by
  have hx := C.1.1
  have hb := C.1.2.1
  unfold lb_X6_apply_112 at hq
  refine lv_aload_n hx hb dX6_apply_112 rfl (lv_at hl 0 rfl) ?_
  obtain ⟨q11, e12, hq⟩ := hq
  refine gfX6_26 C hw hw.2.2.1 h0 e12 dX6_apply_113 ?_
  refine lv_aload_n hx hb dX6_apply_116 rfl (lv_at hl 1 rfl) ?_
  obtain ⟨h13, hq⟩ := hq
  refine gfX6_62 C hw hw.2.2.1 h13 dX6_apply_117 ?_
  refine lv_dup2_11 hx hb dX6_apply_120 rfl rfl ?_
  obtain ⟨h14, hq⟩ := hq
  obtain ⟨h15, hq⟩ := hq
  refine q_iald C hw hw.2.2.1 h14 h15 dX6_apply_121 ?_
  refine lv_aload_n hx hb dX6_apply_122 rfl (lv_at hl 1 rfl) ?_
  refine gfX6_96 C hw hw.2.2.1 h13 dX6_apply_123 ?_
  refine lv_iadd hx hb dX6_apply_126 ?_
  refine q_iast C hw hw.2.2.1 h14 h15 dX6_apply_127 (fun H locs hw => ?_)
  generalize e17 : uI M q11 (Int32.toNatClampNeg (mI M a1 2)) ((mI M q11 (Int32.toNatClampNeg (mI M a1 2))) + (mI M a1 5)) = M16 at hw
  replace hq := hq M16 e17.symm
  have e12 : mR M16 a0 8 = some q11 := by rw [← e17, mR_uI]; exact e12
  exact lt_X6_apply_128  C hr hlk hn h0  hq hw (lv_sub hl [0, 1] rfl)
set_option maxHeartbeats 4000000 in
set_option maxRecDepth 100000 in
theorem lt_X6_apply_67 {l : Launch} {g : Gh} {p : Program} {e : Env} {s : State} {m : MethodId} {args : Array Value} {below : List Frame} {meth : Method} {c : Code} {H : Heap} {locs : List Loc} {ls : Array Slot} {M0 M : Mem} {a0 : Nat} {a1 : Nat} {post : Mem → Prop}  {s0 : Nat} {s1 : Int32}  (C : Cx g p s m args c cX6_apply 2 RX6) (hr : meth.sig.returnType = none) (hlk : meth.locks = false) (hn : meth.name = "apply") (h0 : okc (gB g) M0 a0 6)  (hq : lb_X6_apply_67  g M0 a0 a1 post  s0 s1 M) (hw : Wd g s M0 M H locs) (hl : lv_has ls 2 [(0, .ref a0), (1, .ref a1)]) : W p l e (rmo 3 0 0) s m args below meth c H locs 0 0 (MQ below (Cq g M0 (pV post)) args s 0 0 (gA g)) (F0 m 67 ls [.int s1, .ref s0]) := by
  have hx := C.1.1
  have hb := C.1.2.1
  unfold lb_X6_apply_67 at hq
  obtain ⟨h18, hq⟩ := hq
  obtain ⟨h19, hq⟩ := hq
  refine pfX6_76 C hw hw.2.2.1 h18 h19 dX6_apply_67 (fun H locs hw => ?_)
  generalize e21 : uI M s0 4 s1 = M20 at hw
  replace hq := hq M20 e21.symm
  refine lv_aload_n hx hb dX6_apply_70 rfl (lv_at hl 1 rfl) ?_
  obtain ⟨h22, hq⟩ := hq
  refine gfX6_76 C hw hw.2.2.1 h22 dX6_apply_71 ?_
  refine lv_if_eq (tgt := 88) hx hb dX6_apply_74 (by decide) (fun c23 => ?_) (fun c23 => ?_)
  · replace hq := hq.1 c23
    refine lv_aload_n hx hb dX6_apply_88 rfl (lv_at hl 1 rfl) ?_
    refine lv_aload_n hx hb dX6_apply_89 rfl (lv_at hl 0 rfl) ?_
    refine lv_aload_n hx hb dX6_apply_90 rfl (lv_at hl 1 rfl) ?_
    refine r_callV (T := TX6) (N := 9) (ci := 6) (index := 98) (n := 1) (d2 := 2) (mc := 0) (ms := 0) (As := [.ref a1]) (rest := [.ref a1]) C hw (ct_X6_worthOf hq) kvX6_98 hq.1 (by decide) rfl ⟨by decide, by decide⟩ ⟨by decide, by decide⟩ rfl hl.1 rfl (Nat.le_of_ble_eq_true rfl) dX6_apply_91 (fun r M25 H locs hp hle hw => ?_)
    obtain ⟨v24, rfl, hq⟩ := hp
    refine W.eq (g2 := F0 m 94 ls [.int v24, .ref a1]) rfl ?_
    refine pfX6_96 C hw hw.2.2.1 h22 dX6_apply_94 (fun H locs hw => ?_)
    generalize e27 : uI M25 a1 5 v24 = M26 at hw
    replace hq := hq M26 e27.symm
    refine lv_aload_n hx hb dX6_apply_97 rfl (lv_at hl 1 rfl) ?_
    refine gfX6_62 C hw hw.2.2.1 h22 dX6_apply_98 ?_
    refine lv_if_eq (tgt := 112) hx hb dX6_apply_101 (by decide) (fun c28 => ?_) (fun c28 => ?_)
    · replace hq := hq.1 c28
      exact lt_X6_apply_112  C hr hlk hn h0  hq hw (lv_sub hl [0, 1] rfl)
    · replace hq := hq.2 c28
      refine lv_aload_n hx hb dX6_apply_104 rfl (lv_at hl 1 rfl) ?_
      refine gfX6_62 C hw hw.2.2.1 h22 dX6_apply_105 ?_
      refine lv_iconst (v := 1) hx hb dX6_apply_108 (by decide) ?_
      refine lv_icmp_ne (tgt := 128) hx hb dX6_apply_109 (by decide) (fun c29 => ?_) (fun c29 => ?_)
      · replace hq := hq.2 c29
        exact lt_X6_apply_128  C hr hlk hn h0  hq hw (lv_sub hl [0, 1] rfl)
      · replace hq := hq.1 c29
        exact lt_X6_apply_112  C hr hlk hn h0  hq hw (lv_sub hl [0, 1] rfl)
  · replace hq := hq.2 c23
    refine lv_aload_n hx hb dX6_apply_77 rfl (lv_at hl 0 rfl) ?_
    refine lv_dup hx hb dX6_apply_78 rfl ?_
    refine gfX6_86 C hw hw.2.2.1 h0 dX6_apply_79 ?_
    refine lv_iconst (v := 1) hx hb dX6_apply_82 (by decide) ?_
    refine lv_iadd hx hb dX6_apply_83 ?_
    refine pfX6_86 C hw hw.2.2.1 h0 dX6_apply_84 (fun H locs hw => ?_)
    generalize e31 : uI M20 a0 4 ((mI M20 a0 4) + 1) = M30 at hw
    replace hq := hq M30 e31.symm
    exact r_vret C hr hlk hw dX6_apply_87 (Nat.le_refl _) (Nat.le_refl _) ⟨rfl, hq⟩
set_option maxHeartbeats 4000000 in
set_option maxRecDepth 100000 in
theorem lt_X6_apply_19 {l : Launch} {g : Gh} {p : Program} {e : Env} {s : State} {m : MethodId} {args : Array Value} {below : List Frame} {meth : Method} {c : Code} {H : Heap} {locs : List Loc} {ls : Array Slot} {M0 M : Mem} {a0 : Nat} {a1 : Nat} {post : Mem → Prop}    (C : Cx g p s m args c cX6_apply 2 RX6) (hr : meth.sig.returnType = none) (hlk : meth.locks = false) (hn : meth.name = "apply") (h0 : okc (gB g) M0 a0 6)  (hq : lb_X6_apply_19  g M0 a0 a1 post   M) (hw : Wd g s M0 M H locs) (hl : lv_has ls 2 [(0, .ref a0), (1, .ref a1)]) : W p l e (rmo 3 0 0) s m args below meth c H locs 0 0 (MQ below (Cq g M0 (pV post)) args s 0 0 (gA g)) (F0 m 19 ls []) := by
  have hx := C.1.1
  have hb := C.1.2.1
  unfold lb_X6_apply_19 at hq
  refine lv_aload_n hx hb dX6_apply_19 rfl (lv_at hl 1 rfl) ?_
  refine lv_iconst (v := 0) hx hb dX6_apply_20 (by decide) ?_
  obtain ⟨h32, hq⟩ := hq
  refine pfX6_96 C hw hw.2.2.1 h32 dX6_apply_21 (fun H locs hw => ?_)
  generalize e34 : uI M a1 5 0 = M33 at hw
  replace hq := hq M33 e34.symm
  refine lv_aload_n hx hb dX6_apply_24 rfl (lv_at hl 1 rfl) ?_
  refine lv_aload_n hx hb dX6_apply_25 rfl (lv_at hl 1 rfl) ?_
  refine gfX6_56 C hw hw.2.2.1 h32 dX6_apply_26 ?_
  refine lv_aload_n hx hb dX6_apply_29 rfl (lv_at hl 0 rfl) ?_
  refine gfX6_37 C hw hw.2.2.1 h0 dX6_apply_30 ?_
  refine lv_icmp_lt (tgt := 62) hx hb dX6_apply_33 (by decide) (fun c35 => ?_) (fun c35 => ?_)
  · replace hq := hq.1 c35
    refine lv_iconst (v := 1) hx hb dX6_apply_62 (by decide) ?_
    refine lv_goto (tgt := 67) hx hb dX6_apply_63 (by decide) ?_
    exact lt_X6_apply_67  C hr hlk hn h0  hq hw (lv_sub hl [0, 1] rfl)
  · replace hq := hq.2 c35
    refine lv_aload_n hx hb dX6_apply_36 rfl (lv_at hl 0 rfl) ?_
    refine r_callV (T := TX6) (N := 9) (ci := 6) (index := 45) (n := 0) (d2 := 0) (mc := 0) (ms := 0) (As := []) (rest := [.ref a1]) C hw (ct_X6_isOver hq) kvX6_45 hq.1 (by decide) rfl ⟨by decide, by decide⟩ ⟨by decide, by decide⟩ rfl hl.1 rfl (Nat.le_of_ble_eq_true rfl) dX6_apply_37 (fun r M37 H locs hp hle hw => ?_)
    obtain ⟨v36, rfl, hq⟩ := hp
    refine W.eq (g2 := F0 m 40 ls [.int v36, .ref a1]) rfl ?_
    refine lv_if_ne (tgt := 62) hx hb dX6_apply_40 (by decide) (fun c38 => ?_) (fun c38 => ?_)
    · replace hq := hq.2 c38
      refine lv_iconst (v := 1) hx hb dX6_apply_62 (by decide) ?_
      refine lv_goto (tgt := 67) hx hb dX6_apply_63 (by decide) ?_
      exact lt_X6_apply_67  C hr hlk hn h0  hq hw (lv_sub hl [0, 1] rfl)
    · replace hq := hq.1 c38
      refine lv_aload_n hx hb dX6_apply_43 rfl (lv_at hl 1 rfl) ?_
      refine gfX6_59 C hw hw.2.2.1 h32 dX6_apply_44 ?_
      refine lv_iconst (v := 2) hx hb dX6_apply_47 (by decide) ?_
      refine lv_icmp_eq (tgt := 66) hx hb dX6_apply_48 (by decide) (fun c39 => ?_) (fun c39 => ?_)
      · replace hq := hq.1 c39
        refine lv_iconst (v := 0) hx hb dX6_apply_66 (by decide) ?_
        exact lt_X6_apply_67  C hr hlk hn h0  hq hw (lv_sub hl [0, 1] rfl)
      · replace hq := hq.2 c39
        refine lv_aload_n hx hb dX6_apply_51 rfl (lv_at hl 0 rfl) ?_
        refine lv_aload_n hx hb dX6_apply_52 rfl (lv_at hl 1 rfl) ?_
        refine gfX6_62 C hw hw.2.2.1 h32 dX6_apply_53 ?_
        refine r_callV (T := TX6) (N := 9) (ci := 6) (index := 52) (n := 1) (d2 := 0) (mc := 0) (ms := 0) (As := [.int (mI M37 a1 2)]) (rest := [.ref a1]) C hw (ct_X6_isFor hq) kvX6_52 hq.1 (by decide) rfl ⟨by decide, by decide⟩ ⟨by decide, by decide⟩ rfl hl.1 rfl (Nat.le_of_ble_eq_true rfl) dX6_apply_56 (fun r M41 H locs hp hle hw => ?_)
        obtain ⟨v40, rfl, hq⟩ := hp
        refine W.eq (g2 := F0 m 59 ls [.int v40, .ref a1]) rfl ?_
        refine lv_if_ne (tgt := 66) hx hb dX6_apply_59 (by decide) (fun c42 => ?_) (fun c42 => ?_)
        · replace hq := hq.2 c42
          refine lv_iconst (v := 0) hx hb dX6_apply_66 (by decide) ?_
          exact lt_X6_apply_67  C hr hlk hn h0  hq hw (lv_sub hl [0, 1] rfl)
        · replace hq := hq.1 c42
          refine lv_iconst (v := 1) hx hb dX6_apply_62 (by decide) ?_
          refine lv_goto (tgt := 67) hx hb dX6_apply_63 (by decide) ?_
          exact lt_X6_apply_67  C hr hlk hn h0  hq hw (lv_sub hl [0, 1] rfl)
set_option maxHeartbeats 4000000 in
set_option maxRecDepth 100000 in
theorem ct_X6_apply {l : Launch} {g : Gh} {M0 : Mem} {a0 : Nat} {a1 : Nat} {post : Mem → Prop}  (hq : wp_X6_apply  g M0 a0 a1 post) : Ct l g yX6_apply cX6_apply 2 none 3 0 0 [.ref a0, .ref a1] M0 (pV post) := by
  unfold wp_X6_apply at hq
  obtain ⟨h0, hq⟩ := hq
  refine Ct.of (by decide) (Nat.le_of_ble_eq_true rfl) ?_
  intro p e s m below meth c ls C hr hlk hn hl hw
  have hx := C.1.1
  have hb := C.1.2.1
  have hl : lv_has ls 2 [(0, .ref a0), (1, .ref a1)] := hl
  refine lv_aload_n hx hb dX6_apply_0 rfl (lv_at hl 1 rfl) ?_
  obtain ⟨h43, hq⟩ := hq
  refine gfX6_56 C hw hw.2.2.1 h43 dX6_apply_1 ?_
  refine lv_aload_n hx hb dX6_apply_4 rfl (lv_at hl 0 rfl) ?_
  refine gfX6_37 C hw hw.2.2.1 h0 dX6_apply_5 ?_
  refine lv_icmp_le (tgt := 19) hx hb dX6_apply_8 (by decide) (fun c44 => ?_) (fun c44 => ?_)
  · replace hq := hq.1 c44
    exact lt_X6_apply_19  C hr hlk hn h0  hq hw (lv_sub hl [0, 1] rfl)
  · replace hq := hq.2 c44
    refine lv_aload_n hx hb dX6_apply_11 rfl (lv_at hl 0 rfl) ?_
    refine lv_aload_n hx hb dX6_apply_12 rfl (lv_at hl 1 rfl) ?_
    refine gfX6_56 C hw hw.2.2.1 h43 dX6_apply_13 ?_
    refine r_callV (T := TX6) (N := 9) (ci := 6) (index := 89) (n := 1) (d2 := 2) (mc := 0) (ms := 0) (As := [.int (mI M0 a1 0)]) (rest := []) C hw (ct_X6_goTo hq) kvX6_89 hq.1 (by decide) rfl ⟨by decide, by decide⟩ ⟨by decide, by decide⟩ rfl hl.1 rfl (Nat.le_of_ble_eq_true rfl) dX6_apply_16 (fun r M46 H locs hp hle hw => ?_)
    obtain ⟨rfl, hq⟩ := hp
    refine W.eq (g2 := F0 m 19 ls []) rfl ?_
    exact lt_X6_apply_19  C hr hlk hn h0  hq hw (lv_sub hl [0, 1] rfl)

set_option maxRecDepth 100000 in
def bd_X6_replay_26  (g : Gh) (M0 : Mem) (a0 : Nat) (post : Mem → Prop)  (bk26 : Int32 × Mem → Prop) (x1 : Int32)  (M : Mem) : Prop :=
  (((mI M a0 3) ≤ x1) → post M) ∧ (¬ ((mI M a0 3) ≤ x1) → ((120 ≤ x1) → post M) ∧ (¬ (120 ≤ x1) → ∃ q3, mR M a0 2 = some q3 ∧ (okc (gB g) M0 q3 18 ∧ (vp_in x1 (mN M0 q3) ∧ (∃ q7, mR M q3 (Int32.toNatClampNeg x1) = some q7 ∧ (wp_X6_apply g M a0 q7 (fun M10 => bk26 ((x1 + 1), M10))))))))
set_option maxRecDepth 100000 in
def wp_X6_replay  (g : Gh) (M0 : Mem) (a0 : Nat) (post : Mem → Prop) : Prop :=
  okc (gB g) M0 a0 6 ∧ (∀ M11, M11 = uI M0 a0 4 0 → (∃ q13, mR M11 a0 8 = some q13 ∧ (okc (gB g) M0 q13 14 ∧ (vp_in 0 (mN M0 q13) ∧ (∀ M17, M17 = uI M11 q13 (Int32.toNatClampNeg 0) 0 → (vp_in 1 (mN M0 q13) ∧ (∀ M20, M20 = uI M17 q13 (Int32.toNatClampNeg 1) 0 → (wp_X6_goTo g M20 a0 0 (fun M23 => (∃ n : Nat, lfp (fun bk z => bd_X6_replay_26  g M0 a0 post  bk z.1 z.2) n (0, M23)))))))))))
set_option maxHeartbeats 4000000 in
set_option maxRecDepth 100000 in
theorem lp_X6_replay_26 {l : Launch} {g : Gh} {p : Program} {e : Env} {s : State} {m : MethodId} {args : Array Value} {below : List Frame} {meth : Method} {c : Code} {M0 : Mem} {a0 : Nat} {post : Mem → Prop}  (C : Cx g p s m args c cX6_replay 2 RX6) (hr : meth.sig.returnType = none) (hlk : meth.locks = false) (hn : meth.name = "replay") (h0 : okc (gB g) M0 a0 6)  : ∀ (nf : Nat) (x1 : Int32)  (M : Mem) (H : Heap) (locs : List Loc) (ls : Array Slot), lfp (fun bk z => bd_X6_replay_26  g M0 a0 post  bk z.1 z.2) nf (x1, M) → Wd g s M0 M H locs → lv_has ls 2 [(0, .ref a0), (1, .int x1)] → W p l e (rmo 4 0 0) s m args below meth c H locs 0 0 (MQ below (Cq g M0 (pV post)) args s 0 0 (gA g)) (F0 m 26 ls []) := by
  have hx := C.1.1
  have hb := C.1.2.1
  intro nf
  induction nf with
  | zero => intro _ _ H locs ls hq; exact hq.elim
  | succ nf hk26 =>
    intro x1 M H locs ls hq hw hl
    replace hq : bd_X6_replay_26  g M0 a0 post  (lfp (fun bk z => bd_X6_replay_26  g M0 a0 post  bk z.1 z.2) nf) x1 M := hq
    unfold bd_X6_replay_26 at hq
    refine lv_iload_n hx hb dX6_replay_26 rfl (lv_at hl 1 rfl) ?_
    refine lv_aload_n hx hb dX6_replay_27 rfl (lv_at hl 0 rfl) ?_
    refine gfX6_30 C hw hw.2.2.1 h0 dX6_replay_28 ?_
    refine lv_icmp_ge (tgt := 56) hx hb dX6_replay_31 (by decide) (fun c1 => ?_) (fun c1 => ?_)
    · replace hq := hq.1 c1
      exact r_vret C hr hlk hw dX6_replay_56 (Nat.le_refl _) (Nat.le_refl _) ⟨rfl, hq⟩
    · replace hq := hq.2 c1
      refine lv_iload_n hx hb dX6_replay_34 rfl (lv_at hl 1 rfl) ?_
      refine lv_bipush (v := 120) hx hb dX6_replay_35 (by decide) ?_
      refine lv_icmp_ge (tgt := 56) hx hb dX6_replay_37 (by decide) (fun c2 => ?_) (fun c2 => ?_)
      · replace hq := hq.1 c2
        exact r_vret C hr hlk hw dX6_replay_56 (Nat.le_refl _) (Nat.le_refl _) ⟨rfl, hq⟩
      · replace hq := hq.2 c2
        refine lv_aload_n hx hb dX6_replay_40 rfl (lv_at hl 0 rfl) ?_
        refine lv_aload_n hx hb dX6_replay_41 rfl (lv_at hl 0 rfl) ?_
        obtain ⟨q3, e4, hq⟩ := hq
        refine gfX6_21 C hw hw.2.2.1 h0 e4 dX6_replay_42 ?_
        refine lv_iload_n hx hb dX6_replay_45 rfl (lv_at hl 1 rfl) ?_
        obtain ⟨h5, hq⟩ := hq
        obtain ⟨h6, hq⟩ := hq
        obtain ⟨q7, e8, hq⟩ := hq
        refine q_aald C hw hw.2.2.1 h5 (by decide) (by decide) rfl h6 e8 dX6_replay_46 ?_
        refine r_callV (T := TX6) (N := 9) (ci := 6) (index := 68) (n := 1) (d2 := 3) (mc := 0) (ms := 0) (As := [.ref q7]) (rest := []) C hw (ct_X6_apply hq) kvX6_68 hq.1 (by decide) rfl ⟨by decide, by decide⟩ ⟨by decide, by decide⟩ rfl hl.1 rfl (Nat.le_of_ble_eq_true rfl) dX6_replay_47 (fun r M10 H locs hp hle hw => ?_)
        obtain ⟨rfl, hq⟩ := hp
        refine W.eq (g2 := F0 m 50 ls []) rfl ?_
        refine lv_iinc (v := (x1 + 1)) (lv' := [(1, .int (x1 + 1)), (0, .ref a0)]) hx hb dX6_replay_50 hl (k := 1) rfl rfl (by decide) rfl (fun ls hl => ?_)
        refine lv_goto (tgt := 26) hx hb dX6_replay_53 (by decide) ?_
        exact hk26 _ _ _ _ _ hq hw (lv_sub hl [1, 0] rfl)
set_option maxHeartbeats 4000000 in
set_option maxRecDepth 100000 in
theorem ct_X6_replay {l : Launch} {g : Gh} {M0 : Mem} {a0 : Nat} {post : Mem → Prop}  (hq : wp_X6_replay  g M0 a0 post) : Ct l g yX6_replay cX6_replay 2 none 4 0 0 [.ref a0] M0 (pV post) := by
  unfold wp_X6_replay at hq
  obtain ⟨h0, hq⟩ := hq
  refine Ct.of (by decide) (Nat.le_of_ble_eq_true rfl) ?_
  intro p e s m below meth c ls C hr hlk hn hl hw
  have hx := C.1.1
  have hb := C.1.2.1
  have hl : lv_has ls 2 [(0, .ref a0)] := hl
  refine lv_aload_n hx hb dX6_replay_0 rfl (lv_at hl 0 rfl) ?_
  refine lv_iconst (v := 0) hx hb dX6_replay_1 (by decide) ?_
  refine pfX6_86 C hw hw.2.2.1 h0 dX6_replay_2 (fun H locs hw => ?_)
  generalize e12 : uI M0 a0 4 0 = M11 at hw
  replace hq := hq M11 e12.symm
  refine lv_aload_n hx hb dX6_replay_5 rfl (lv_at hl 0 rfl) ?_
  obtain ⟨q13, e14, hq⟩ := hq
  refine gfX6_26 C hw hw.2.2.1 h0 e14 dX6_replay_6 ?_
  refine lv_iconst (v := 0) hx hb dX6_replay_9 (by decide) ?_
  refine lv_iconst (v := 0) hx hb dX6_replay_10 (by decide) ?_
  obtain ⟨h15, hq⟩ := hq
  obtain ⟨h16, hq⟩ := hq
  refine q_iast C hw hw.2.2.1 h15 h16 dX6_replay_11 (fun H locs hw => ?_)
  generalize e18 : uI M11 q13 (Int32.toNatClampNeg 0) 0 = M17 at hw
  replace hq := hq M17 e18.symm
  have e14 : mR M17 a0 8 = some q13 := by rw [← e18, mR_uI]; exact e14
  refine lv_aload_n hx hb dX6_replay_12 rfl (lv_at hl 0 rfl) ?_
  refine gfX6_26 C hw hw.2.2.1 h0 e14 dX6_replay_13 ?_
  refine lv_iconst (v := 1) hx hb dX6_replay_16 (by decide) ?_
  refine lv_iconst (v := 0) hx hb dX6_replay_17 (by decide) ?_
  obtain ⟨h19, hq⟩ := hq
  refine q_iast C hw hw.2.2.1 h15 h19 dX6_replay_18 (fun H locs hw => ?_)
  generalize e21 : uI M17 q13 (Int32.toNatClampNeg 1) 0 = M20 at hw
  replace hq := hq M20 e21.symm
  have e14 : mR M20 a0 8 = some q13 := by rw [← e21, mR_uI]; exact e14
  refine lv_aload_n hx hb dX6_replay_19 rfl (lv_at hl 0 rfl) ?_
  refine lv_iconst (v := 0) hx hb dX6_replay_20 (by decide) ?_
  refine r_callV (T := TX6) (N := 9) (ci := 6) (index := 89) (n := 1) (d2 := 2) (mc := 0) (ms := 0) (As := [.int 0]) (rest := []) C hw (ct_X6_goTo hq) kvX6_89 hq.1 (by decide) rfl ⟨by decide, by decide⟩ ⟨by decide, by decide⟩ rfl hl.1 rfl (Nat.le_of_ble_eq_true rfl) dX6_replay_21 (fun r M23 H locs hp hle hw => ?_)
  obtain ⟨rfl, hq⟩ := hp
  refine W.eq (g2 := F0 m 24 ls []) rfl ?_
  refine lv_iconst (v := 0) hx hb dX6_replay_24 (by decide) ?_
  refine lv_istore_n (lv' := [(1, .int 0), (0, .ref a0)]) hx hb dX6_replay_25 rfl hl (by decide) rfl (fun ls hl => ?_)
  obtain ⟨nf, hq⟩ := hq
  exact lp_X6_replay_26  C hr hlk hn h0  nf _ _ _ _ _ hq hw (lv_sub hl [1, 0] rfl)

set_option maxRecDepth 100000 in
def wp_X6_start  (g : Gh) (M0 : Mem) (a0 : Nat) (a1 : Nat) (post : Mem → Prop) : Prop :=
  okc (gB g) M0 a0 6 ∧ (∀ M1, M1 = uR M0 a0 1 (some a1) → (∀ M3, M3 = uI M1 a0 0 1 → (∀ M5, M5 = uI M3 a0 3 0 → (wp_X6_replay g M5 a0 (fun M8 => post M8)))))
set_option maxHeartbeats 4000000 in
set_option maxRecDepth 100000 in
theorem ct_X6_start {l : Launch} {g : Gh} {M0 : Mem} {a0 : Nat} {a1 : Nat} {post : Mem → Prop}  (hq : wp_X6_start  g M0 a0 a1 post) : Ct l g yX6_start cX6_start 2 none 5 0 0 [.ref a0, .ref a1] M0 (pV post) := by
  unfold wp_X6_start at hq
  obtain ⟨h0, hq⟩ := hq
  refine Ct.of (by decide) (Nat.le_of_ble_eq_true rfl) ?_
  intro p e s m below meth c ls C hr hlk hn hl hw
  have hx := C.1.1
  have hb := C.1.2.1
  have hl : lv_has ls 2 [(0, .ref a0), (1, .ref a1)] := hl
  refine lv_aload_n hx hb dX6_start_0 rfl (lv_at hl 0 rfl) ?_
  refine lv_aload_n hx hb dX6_start_1 rfl (lv_at hl 1 rfl) ?_
  refine pfX6_15 (v := (some a1)) C hw hw.2.2.1 h0 dX6_start_2 (fun H locs hw => ?_)
  generalize e2 : uR M0 a0 1 (some a1) = M1 at hw
  replace hq := hq M1 e2.symm
  refine lv_aload_n hx hb dX6_start_5 rfl (lv_at hl 0 rfl) ?_
  refine lv_iconst (v := 1) hx hb dX6_start_6 (by decide) ?_
  refine pfX6_9 C hw hw.2.2.1 h0 (by decide) dX6_start_7 (fun H locs hw => ?_)
  generalize e4 : uI M1 a0 0 1 = M3 at hw
  replace hq := hq M3 e4.symm
  refine lv_aload_n hx hb dX6_start_10 rfl (lv_at hl 0 rfl) ?_
  refine lv_iconst (v := 0) hx hb dX6_start_11 (by decide) ?_
  refine pfX6_30 C hw hw.2.2.1 h0 dX6_start_12 (fun H locs hw => ?_)
  generalize e6 : uI M3 a0 3 0 = M5 at hw
  replace hq := hq M5 e6.symm
  refine lv_aload_n hx hb dX6_start_15 rfl (lv_at hl 0 rfl) ?_
  refine r_callV (T := TX6) (N := 9) (ci := 6) (index := 34) (n := 0) (d2 := 4) (mc := 0) (ms := 0) (As := []) (rest := []) C hw (ct_X6_replay hq) kvX6_34 hq.1 (by decide) rfl ⟨by decide, by decide⟩ ⟨by decide, by decide⟩ rfl hl.1 rfl (Nat.le_of_ble_eq_true rfl) dX6_start_16 (fun r M8 H locs hp hle hw => ?_)
  obtain ⟨rfl, hq⟩ := hp
  refine W.eq (g2 := F0 m 19 ls []) rfl ?_
  exact r_vret C hr hlk hw dX6_start_19 (Nat.le_refl _) (Nat.le_refl _) ⟨rfl, hq⟩

set_option maxRecDepth 100000 in
def wp_X6_drop  (g : Gh) (M0 : Mem) (a0 : Nat) (post : Mem → Prop) : Prop :=
  okc (gB g) M0 a0 6 ∧ (∀ M1, M1 = uI M0 a0 0 0 → (∀ M3, M3 = uI M1 a0 3 0 → (post M3)))
set_option maxHeartbeats 4000000 in
set_option maxRecDepth 100000 in
theorem ct_X6_drop {l : Launch} {g : Gh} {M0 : Mem} {a0 : Nat} {post : Mem → Prop}  (hq : wp_X6_drop  g M0 a0 post) : Ct l g yX6_drop cX6_drop 1 none 0 0 0 [.ref a0] M0 (pV post) := by
  unfold wp_X6_drop at hq
  obtain ⟨h0, hq⟩ := hq
  refine Ct.of (by decide) (Nat.le_of_ble_eq_true rfl) ?_
  intro p e s m below meth c ls C hr hlk hn hl hw
  have hx := C.1.1
  have hb := C.1.2.1
  have hl : lv_has ls 1 [(0, .ref a0)] := hl
  refine lv_aload_n hx hb dX6_drop_0 rfl (lv_at hl 0 rfl) ?_
  refine lv_iconst (v := 0) hx hb dX6_drop_1 (by decide) ?_
  refine pfX6_9 C hw hw.2.2.1 h0 (by decide) dX6_drop_2 (fun H locs hw => ?_)
  generalize e2 : uI M0 a0 0 0 = M1 at hw
  replace hq := hq M1 e2.symm
  refine lv_aload_n hx hb dX6_drop_5 rfl (lv_at hl 0 rfl) ?_
  refine lv_iconst (v := 0) hx hb dX6_drop_6 (by decide) ?_
  refine pfX6_30 C hw hw.2.2.1 h0 dX6_drop_7 (fun H locs hw => ?_)
  generalize e4 : uI M1 a0 3 0 = M3 at hw
  replace hq := hq M3 e4.symm
  exact r_vret C hr hlk hw dX6_drop_10 (Nat.le_refl _) (Nat.le_refl _) ⟨rfl, hq⟩

set_option maxRecDepth 100000 in
def lb_X6_mayCome_65  (g : Gh) (M0 : Mem) (a0 : Nat) (p1 : Int32) (p2 : Int32) (post : Int32 → Mem → Prop)    (M : Mem) : Prop :=
  wp_X6_isFor g M a0 p2 (fun v1 M2 => ((v1 = 0) → post 0 M2) ∧ (¬ (v1 = 0) → post 1 M2))
set_option maxRecDepth 100000 in
def lb_X6_mayCome_51  (g : Gh) (M0 : Mem) (a0 : Nat) (p1 : Int32) (p2 : Int32) (post : Int32 → Mem → Prop)   (s0 : Int32) (M : Mem) : Prop :=
  ((s0 = 0) → post 0 M) ∧ (¬ (s0 = 0) → ((p2 = 0) → lb_X6_mayCome_65  g M0 a0 p1 p2 post   M) ∧ (¬ (p2 = 0) → ((p2 = 1) → lb_X6_mayCome_65  g M0 a0 p1 p2 post   M) ∧ (¬ (p2 = 1) → post 0 M)))
set_option maxRecDepth 100000 in
def wp_X6_mayCome  (g : Gh) (M0 : Mem) (a0 : Nat) (p1 : Int32) (p2 : Int32) (post : Int32 → Mem → Prop) : Prop :=
  okc (gB g) M0 a0 6 ∧ ((((mI M0 a0 0) = 0) → post 0 M0) ∧ (¬ ((mI M0 a0 0) = 0) → wp_X6_isOver g M0 a0 (fun v8 M9 => ((v8 = 0) → (((mI M9 a0 3) < 120) → ((p1 = 2) → wp_X6_isBuzz g M9 a0 (fun v17 M18 => (v17 = 0 ∨ v17 = 1) ∧ (post v17 M18))) ∧ (¬ (p1 = 2) → ((p1 = 0) → lb_X6_mayCome_51  g M0 a0 p1 p2 post  1 M9) ∧ (¬ (p1 = 0) → wp_X6_isBuzz g M9 a0 (fun v14 M15 => ((v14 = 0) → lb_X6_mayCome_51  g M0 a0 p1 p2 post  1 M15) ∧ (¬ (v14 = 0) → lb_X6_mayCome_51  g M0 a0 p1 p2 post  0 M15))))) ∧ (¬ ((mI M9 a0 3) < 120) → post 0 M9)) ∧ (¬ (v8 = 0) → post 0 M9))))
set_option maxHeartbeats 4000000 in
set_option maxRecDepth 100000 in
theorem lt_X6_mayCome_65 {l : Launch} {g : Gh} {p : Program} {e : Env} {s : State} {m : MethodId} {args : Array Value} {below : List Frame} {meth : Method} {c : Code} {H : Heap} {locs : List Loc} {ls : Array Slot} {M0 M : Mem} {a0 : Nat} {p1 : Int32} {p2 : Int32} {post : Int32 → Mem → Prop}    (C : Cx g p s m args c cX6_mayCome 4 RX6) (hr : meth.sig.returnType = (some .boolean)) (hlk : meth.locks = false) (hn : meth.name = "mayCome") (h0 : okc (gB g) M0 a0 6)  (hq : lb_X6_mayCome_65  g M0 a0 p1 p2 post   M) (hw : Wd g s M0 M H locs) (hl : lv_has ls 4 [(0, .ref a0), (1, .int p1), (2, .int p2)]) : W p l e (rmo 2 0 0) s m args below meth c H locs 0 0 (MQ below (Cq g M0 (pI post)) args s 0 0 (gA g)) (F0 m 65 ls []) := by
  have hx := C.1.1
  have hb := C.1.2.1
  unfold lb_X6_mayCome_65 at hq
  refine lv_aload_n hx hb dX6_mayCome_65 rfl (lv_at hl 0 rfl) ?_
  refine lv_iload_n hx hb dX6_mayCome_66 rfl (lv_at hl 2 rfl) ?_
  refine r_callV (T := TX6) (N := 9) (ci := 6) (index := 52) (n := 1) (d2 := 0) (mc := 0) (ms := 0) (As := [.int p2]) (rest := []) C hw (ct_X6_isFor hq) kvX6_52 hq.1 (by decide) rfl ⟨by decide, by decide⟩ ⟨by decide, by decide⟩ rfl hl.1 rfl (Nat.le_of_ble_eq_true rfl) dX6_mayCome_67 (fun r M2 H locs hp hle hw => ?_)
  obtain ⟨v1, rfl, hq⟩ := hp
  refine W.eq (g2 := F0 m 70 ls [.int v1]) rfl ?_
  refine lv_if_eq (tgt := 77) hx hb dX6_mayCome_70 (by decide) (fun c3 => ?_) (fun c3 => ?_)
  · replace hq := hq.1 c3
    refine lv_iconst (v := 0) hx hb dX6_mayCome_77 (by decide) ?_
    exact r_zret C hr hlk hw dX6_mayCome_78 (Nat.le_refl _) (Nat.le_refl _) (by decide) ⟨_, rfl, hq⟩
  · replace hq := hq.2 c3
    refine lv_iconst (v := 1) hx hb dX6_mayCome_73 (by decide) ?_
    refine lv_goto (tgt := 78) hx hb dX6_mayCome_74 (by decide) ?_
    exact r_zret C hr hlk hw dX6_mayCome_78 (Nat.le_refl _) (Nat.le_refl _) (by decide) ⟨_, rfl, hq⟩
set_option maxHeartbeats 4000000 in
set_option maxRecDepth 100000 in
theorem lt_X6_mayCome_51 {l : Launch} {g : Gh} {p : Program} {e : Env} {s : State} {m : MethodId} {args : Array Value} {below : List Frame} {meth : Method} {c : Code} {H : Heap} {locs : List Loc} {ls : Array Slot} {M0 M : Mem} {a0 : Nat} {p1 : Int32} {p2 : Int32} {post : Int32 → Mem → Prop}  {s0 : Int32}  (C : Cx g p s m args c cX6_mayCome 4 RX6) (hr : meth.sig.returnType = (some .boolean)) (hlk : meth.locks = false) (hn : meth.name = "mayCome") (h0 : okc (gB g) M0 a0 6)  (hq : lb_X6_mayCome_51  g M0 a0 p1 p2 post  s0 M) (hw : Wd g s M0 M H locs) (hl : lv_has ls 4 [(0, .ref a0), (1, .int p1), (2, .int p2)]) : W p l e (rmo 2 0 0) s m args below meth c H locs 0 0 (MQ below (Cq g M0 (pI post)) args s 0 0 (gA g)) (F0 m 51 ls [.int s0]) := by
  have hx := C.1.1
  have hb := C.1.2.1
  unfold lb_X6_mayCome_51 at hq
  refine lv_istore_n (lv' := [(3, .int s0), (0, .ref a0), (1, .int p1), (2, .int p2)]) hx hb dX6_mayCome_51 rfl hl (by decide) rfl (fun ls hl => ?_)
  refine lv_iload_n hx hb dX6_mayCome_52 rfl (lv_at hl 0 rfl) ?_
  refine lv_if_eq (tgt := 77) hx hb dX6_mayCome_53 (by decide) (fun c4 => ?_) (fun c4 => ?_)
  · replace hq := hq.1 c4
    refine lv_iconst (v := 0) hx hb dX6_mayCome_77 (by decide) ?_
    exact r_zret C hr hlk hw dX6_mayCome_78 (Nat.le_refl _) (Nat.le_refl _) (by decide) ⟨_, rfl, hq⟩
  · replace hq := hq.2 c4
    refine lv_iload_n hx hb dX6_mayCome_56 rfl (lv_at hl 3 rfl) ?_
    refine lv_if_eq (tgt := 65) hx hb dX6_mayCome_57 (by decide) (fun c5 => ?_) (fun c5 => ?_)
    · replace hq := hq.1 c5
      exact lt_X6_mayCome_65  C hr hlk hn h0  hq hw (lv_sub hl [1, 2, 3] rfl)
    · replace hq := hq.2 c5
      refine lv_iload_n hx hb dX6_mayCome_60 rfl (lv_at hl 3 rfl) ?_
      refine lv_iconst (v := 1) hx hb dX6_mayCome_61 (by decide) ?_
      refine lv_icmp_ne (tgt := 77) hx hb dX6_mayCome_62 (by decide) (fun c6 => ?_) (fun c6 => ?_)
      · replace hq := hq.2 c6
        refine lv_iconst (v := 0) hx hb dX6_mayCome_77 (by decide) ?_
        exact r_zret C hr hlk hw dX6_mayCome_78 (Nat.le_refl _) (Nat.le_refl _) (by decide) ⟨_, rfl, hq⟩
      · replace hq := hq.1 c6
        exact lt_X6_mayCome_65  C hr hlk hn h0  hq hw (lv_sub hl [1, 2, 3] rfl)
set_option maxHeartbeats 4000000 in
set_option maxRecDepth 100000 in
theorem ct_X6_mayCome {l : Launch} {g : Gh} {M0 : Mem} {a0 : Nat} {p1 : Int32} {p2 : Int32} {post : Int32 → Mem → Prop}  (hq : wp_X6_mayCome  g M0 a0 p1 p2 post) : Ct l g yX6_mayCome cX6_mayCome 4 (some .boolean) 2 0 0 [.ref a0, .int p1, .int p2] M0 (pI post) := by
  unfold wp_X6_mayCome at hq
  obtain ⟨h0, hq⟩ := hq
  refine Ct.of (by decide) (Nat.le_of_ble_eq_true rfl) ?_
  intro p e s m below meth c ls C hr hlk hn hl hw
  have hx := C.1.1
  have hb := C.1.2.1
  have hl : lv_has ls 4 [(0, .ref a0), (1, .int p1), (2, .int p2)] := hl
  refine lv_aload_n hx hb dX6_mayCome_0 rfl (lv_at hl 0 rfl) ?_
  refine gfX6_9 C hw hw.2.2.1 h0 dX6_mayCome_1 ?_
  refine lv_if_eq (tgt := 23) hx hb dX6_mayCome_4 (by decide) (fun c7 => ?_) (fun c7 => ?_)
  · replace hq := hq.1 c7
    refine lv_iconst (v := 0) hx hb dX6_mayCome_23 (by decide) ?_
    exact r_zret C hr hlk hw dX6_mayCome_24 (Nat.le_refl _) (Nat.le_refl _) (by decide) ⟨_, rfl, hq⟩
  · replace hq := hq.2 c7
    refine lv_aload_n hx hb dX6_mayCome_7 rfl (lv_at hl 0 rfl) ?_
    refine r_callV (T := TX6) (N := 9) (ci := 6) (index := 45) (n := 0) (d2 := 0) (mc := 0) (ms := 0) (As := []) (rest := []) C hw (ct_X6_isOver hq) kvX6_45 hq.1 (by decide) rfl ⟨by decide, by decide⟩ ⟨by decide, by decide⟩ rfl hl.1 rfl (Nat.le_of_ble_eq_true rfl) dX6_mayCome_8 (fun r M9 H locs hp hle hw => ?_)
    obtain ⟨v8, rfl, hq⟩ := hp
    refine W.eq (g2 := F0 m 11 ls [.int v8]) rfl ?_
    refine lv_if_ne (tgt := 23) hx hb dX6_mayCome_11 (by decide) (fun c10 => ?_) (fun c10 => ?_)
    · replace hq := hq.2 c10
      refine lv_iconst (v := 0) hx hb dX6_mayCome_23 (by decide) ?_
      exact r_zret C hr hlk hw dX6_mayCome_24 (Nat.le_refl _) (Nat.le_refl _) (by decide) ⟨_, rfl, hq⟩
    · replace hq := hq.1 c10
      refine lv_aload_n hx hb dX6_mayCome_14 rfl (lv_at hl 0 rfl) ?_
      refine gfX6_30 C hw hw.2.2.1 h0 dX6_mayCome_15 ?_
      refine lv_bipush (v := 120) hx hb dX6_mayCome_18 (by decide) ?_
      refine lv_icmp_lt (tgt := 25) hx hb dX6_mayCome_20 (by decide) (fun c11 => ?_) (fun c11 => ?_)
      · replace hq := hq.1 c11
        refine lv_iload_n hx hb dX6_mayCome_25 rfl (lv_at hl 1 rfl) ?_
        refine lv_iconst (v := 2) hx hb dX6_mayCome_26 (by decide) ?_
        refine lv_icmp_ne (tgt := 35) hx hb dX6_mayCome_27 (by decide) (fun c12 => ?_) (fun c12 => ?_)
        · replace hq := hq.2 c12
          refine lv_iload_n hx hb dX6_mayCome_35 rfl (lv_at hl 1 rfl) ?_
          refine lv_if_eq (tgt := 46) hx hb dX6_mayCome_36 (by decide) (fun c13 => ?_) (fun c13 => ?_)
          · replace hq := hq.1 c13
            refine lv_iconst (v := 1) hx hb dX6_mayCome_46 (by decide) ?_
            refine lv_goto (tgt := 51) hx hb dX6_mayCome_47 (by decide) ?_
            exact lt_X6_mayCome_51  C hr hlk hn h0  hq hw (lv_sub hl [0, 1, 2] rfl)
          · replace hq := hq.2 c13
            refine lv_aload_n hx hb dX6_mayCome_39 rfl (lv_at hl 0 rfl) ?_
            refine r_callV (T := TX6) (N := 9) (ci := 6) (index := 49) (n := 0) (d2 := 1) (mc := 0) (ms := 0) (As := []) (rest := []) C hw (ct_X6_isBuzz hq) kvX6_49 hq.1 (by decide) rfl ⟨by decide, by decide⟩ ⟨by decide, by decide⟩ rfl hl.1 rfl (Nat.le_of_ble_eq_true rfl) dX6_mayCome_40 (fun r M15 H locs hp hle hw => ?_)
            obtain ⟨v14, rfl, hq⟩ := hp
            refine W.eq (g2 := F0 m 43 ls [.int v14]) rfl ?_
            refine lv_if_ne (tgt := 50) hx hb dX6_mayCome_43 (by decide) (fun c16 => ?_) (fun c16 => ?_)
            · replace hq := hq.2 c16
              refine lv_iconst (v := 0) hx hb dX6_mayCome_50 (by decide) ?_
              exact lt_X6_mayCome_51  C hr hlk hn h0  hq hw (lv_sub hl [0, 1, 2] rfl)
            · replace hq := hq.1 c16
              refine lv_iconst (v := 1) hx hb dX6_mayCome_46 (by decide) ?_
              refine lv_goto (tgt := 51) hx hb dX6_mayCome_47 (by decide) ?_
              exact lt_X6_mayCome_51  C hr hlk hn h0  hq hw (lv_sub hl [0, 1, 2] rfl)
        · replace hq := hq.1 c12
          refine lv_aload_n hx hb dX6_mayCome_30 rfl (lv_at hl 0 rfl) ?_
          refine r_callV (T := TX6) (N := 9) (ci := 6) (index := 49) (n := 0) (d2 := 1) (mc := 0) (ms := 0) (As := []) (rest := []) C hw (ct_X6_isBuzz hq) kvX6_49 hq.1 (by decide) rfl ⟨by decide, by decide⟩ ⟨by decide, by decide⟩ rfl hl.1 rfl (Nat.le_of_ble_eq_true rfl) dX6_mayCome_31 (fun r M18 H locs hp hle hw => ?_)
          obtain ⟨v17, rfl, hq⟩ := hp
          refine W.eq (g2 := F0 m 34 ls [.int v17]) rfl ?_
          obtain ⟨h19, hq⟩ := hq
          exact r_zret C hr hlk hw dX6_mayCome_34 (Nat.le_refl _) (Nat.le_refl _) h19 ⟨_, rfl, hq⟩
      · replace hq := hq.2 c11
        refine lv_iconst (v := 0) hx hb dX6_mayCome_23 (by decide) ?_
        exact r_zret C hr hlk hw dX6_mayCome_24 (Nat.le_refl _) (Nat.le_refl _) (by decide) ⟨_, rfl, hq⟩

set_option maxRecDepth 100000 in
def wp_X6_add  (g : Gh) (M0 : Mem) (a0 : Nat) (p1 : Int32) (p2 : Int32) (p3 : Int32) (post : Mem → Prop) : Prop :=
  okc (gB g) M0 a0 6 ∧ ((((mI M0 a0 3) < 120) → ∃ q2, mR M0 a0 2 = some q2 ∧ (okc (gB g) M0 q2 18 ∧ (vp_in (mI M0 a0 3) (mN M0 q2) ∧ (∃ q6, mR M0 q2 (Int32.toNatClampNeg (mI M0 a0 3)) = some q6 ∧ (okc (gB g) M0 q6 0 ∧ (∀ M9, M9 = uI M0 q6 0 (mI M0 a0 5) → (∀ M11, M11 = uI M9 q6 1 p1 → (∀ M13, M13 = uI M11 q6 2 p2 → ((p3 = 0 ∨ p3 = 1) ∧ (∀ M16, M16 = uI M13 q6 3 p3 → (∀ M18, M18 = uI M16 a0 3 ((mI M16 a0 3) + 1) → (wp_X6_apply g M18 a0 q6 (fun M21 => post M21))))))))))))) ∧ (¬ ((mI M0 a0 3) < 120) → post M0))
set_option maxHeartbeats 4000000 in
set_option maxRecDepth 100000 in
theorem ct_X6_add {l : Launch} {g : Gh} {M0 : Mem} {a0 : Nat} {p1 : Int32} {p2 : Int32} {p3 : Int32} {post : Mem → Prop}  (hq : wp_X6_add  g M0 a0 p1 p2 p3 post) : Ct l g yX6_add cX6_add 5 none 4 0 0 [.ref a0, .int p1, .int p2, .int p3] M0 (pV post) := by
  unfold wp_X6_add at hq
  obtain ⟨h0, hq⟩ := hq
  refine Ct.of (by decide) (Nat.le_of_ble_eq_true rfl) ?_
  intro p e s m below meth c ls C hr hlk hn hl hw
  have hx := C.1.1
  have hb := C.1.2.1
  have hl : lv_has ls 5 [(0, .ref a0), (1, .int p1), (2, .int p2), (3, .int p3)] := hl
  refine lv_aload_n hx hb dX6_add_0 rfl (lv_at hl 0 rfl) ?_
  refine gfX6_30 C hw hw.2.2.1 h0 dX6_add_1 ?_
  refine lv_bipush (v := 120) hx hb dX6_add_4 (by decide) ?_
  refine lv_icmp_lt (tgt := 10) hx hb dX6_add_6 (by decide) (fun c1 => ?_) (fun c1 => ?_)
  · replace hq := hq.1 c1
    refine lv_aload_n hx hb dX6_add_10 rfl (lv_at hl 0 rfl) ?_
    obtain ⟨q2, e3, hq⟩ := hq
    refine gfX6_21 C hw hw.2.2.1 h0 e3 dX6_add_11 ?_
    refine lv_aload_n hx hb dX6_add_14 rfl (lv_at hl 0 rfl) ?_
    refine gfX6_30 C hw hw.2.2.1 h0 dX6_add_15 ?_
    obtain ⟨h4, hq⟩ := hq
    obtain ⟨h5, hq⟩ := hq
    obtain ⟨q6, e7, hq⟩ := hq
    refine q_aald C hw hw.2.2.1 h4 (by decide) (by decide) rfl h5 e7 dX6_add_18 ?_
    refine lv_astore (lv' := [(4, .ref q6), (0, .ref a0), (1, .int p1), (2, .int p2), (3, .int p3)]) hx hb dX6_add_19 hl (by decide) rfl (fun ls hl => ?_)
    refine lv_aload hx hb dX6_add_21 (lv_at hl 0 rfl) ?_
    refine lv_aload_n hx hb dX6_add_23 rfl (lv_at hl 1 rfl) ?_
    refine gfX6_37 C hw hw.2.2.1 h0 dX6_add_24 ?_
    obtain ⟨h8, hq⟩ := hq
    refine pfX6_56 C hw hw.2.2.1 h8 dX6_add_27 (fun H locs hw => ?_)
    generalize e10 : uI M0 q6 0 (mI M0 a0 5) = M9 at hw
    replace hq := hq M9 e10.symm
    have e3 : mR M9 a0 2 = some q2 := by rw [← e10, mR_uI]; exact e3
    have e7 : mR M9 q2 (Int32.toNatClampNeg (mI M0 a0 3)) = some q6 := by rw [← e10, mR_uI]; exact e7
    refine lv_aload hx hb dX6_add_30 (lv_at hl 0 rfl) ?_
    refine lv_iload_n hx hb dX6_add_32 rfl (lv_at hl 2 rfl) ?_
    refine pfX6_59 C hw hw.2.2.1 h8 dX6_add_33 (fun H locs hw => ?_)
    generalize e12 : uI M9 q6 1 p1 = M11 at hw
    replace hq := hq M11 e12.symm
    have e3 : mR M11 a0 2 = some q2 := by rw [← e12, mR_uI]; exact e3
    have e7 : mR M11 q2 (Int32.toNatClampNeg (mI M0 a0 3)) = some q6 := by rw [← e12, mR_uI]; exact e7
    refine lv_aload hx hb dX6_add_36 (lv_at hl 0 rfl) ?_
    refine lv_iload_n hx hb dX6_add_38 rfl (lv_at hl 3 rfl) ?_
    refine pfX6_62 C hw hw.2.2.1 h8 dX6_add_39 (fun H locs hw => ?_)
    generalize e14 : uI M11 q6 2 p2 = M13 at hw
    replace hq := hq M13 e14.symm
    have e3 : mR M13 a0 2 = some q2 := by rw [← e14, mR_uI]; exact e3
    have e7 : mR M13 q2 (Int32.toNatClampNeg (mI M0 a0 3)) = some q6 := by rw [← e14, mR_uI]; exact e7
    refine lv_aload hx hb dX6_add_42 (lv_at hl 0 rfl) ?_
    refine lv_iload_n hx hb dX6_add_44 rfl (lv_at hl 4 rfl) ?_
    obtain ⟨h15, hq⟩ := hq
    refine pfX6_65 C hw hw.2.2.1 h8 h15 dX6_add_45 (fun H locs hw => ?_)
    generalize e17 : uI M13 q6 3 p3 = M16 at hw
    replace hq := hq M16 e17.symm
    have e3 : mR M16 a0 2 = some q2 := by rw [← e17, mR_uI]; exact e3
    have e7 : mR M16 q2 (Int32.toNatClampNeg (mI M0 a0 3)) = some q6 := by rw [← e17, mR_uI]; exact e7
    refine lv_aload_n hx hb dX6_add_48 rfl (lv_at hl 1 rfl) ?_
    refine lv_dup hx hb dX6_add_49 rfl ?_
    refine gfX6_30 C hw hw.2.2.1 h0 dX6_add_50 ?_
    refine lv_iconst (v := 1) hx hb dX6_add_53 (by decide) ?_
    refine lv_iadd hx hb dX6_add_54 ?_
    refine pfX6_30 C hw hw.2.2.1 h0 dX6_add_55 (fun H locs hw => ?_)
    generalize e19 : uI M16 a0 3 ((mI M16 a0 3) + 1) = M18 at hw
    replace hq := hq M18 e19.symm
    have e3 : mR M18 a0 2 = some q2 := by rw [← e19, mR_uI]; exact e3
    have e7 : mR M18 q2 (Int32.toNatClampNeg (mI M0 a0 3)) = some q6 := by rw [← e19, mR_uI]; exact e7
    refine lv_aload_n hx hb dX6_add_58 rfl (lv_at hl 1 rfl) ?_
    refine lv_aload hx hb dX6_add_59 (lv_at hl 0 rfl) ?_
    refine r_callV (T := TX6) (N := 9) (ci := 6) (index := 68) (n := 1) (d2 := 3) (mc := 0) (ms := 0) (As := [.ref q6]) (rest := []) C hw (ct_X6_apply hq) kvX6_68 hq.1 (by decide) rfl ⟨by decide, by decide⟩ ⟨by decide, by decide⟩ rfl hl.1 rfl (Nat.le_of_ble_eq_true rfl) dX6_add_61 (fun r M21 H locs hp hle hw => ?_)
    obtain ⟨rfl, hq⟩ := hp
    refine W.eq (g2 := F0 m 64 ls []) rfl ?_
    exact r_vret C hr hlk hw dX6_add_64 (Nat.le_refl _) (Nat.le_refl _) ⟨rfl, hq⟩
  · replace hq := hq.2 c1
    exact r_vret C hr hlk hw dX6_add_9 (Nat.le_refl _) (Nat.le_refl _) ⟨rfl, hq⟩

set_option maxRecDepth 100000 in
def wp_X6_eventAt  (g : Gh) (M0 : Mem) (a0 : Nat) (p1 : Int32) (post : Option Nat → Mem → Prop) : Prop :=
  okc (gB g) M0 a0 6 ∧ (((p1 < 0) → post none M0) ∧ (¬ (p1 < 0) → (((mI M0 a0 3) ≤ p1) → post none M0) ∧ (¬ ((mI M0 a0 3) ≤ p1) → ((120 ≤ p1) → post none M0) ∧ (¬ (120 ≤ p1) → ∃ q4, mR M0 a0 2 = some q4 ∧ (okc (gB g) M0 q4 18 ∧ (vp_in p1 (mN M0 q4) ∧ (∃ q8, mR M0 q4 (Int32.toNatClampNeg p1) = some q8 ∧ (post (some q8) M0))))))))
set_option maxHeartbeats 4000000 in
set_option maxRecDepth 100000 in
theorem ct_X6_eventAt {l : Launch} {g : Gh} {M0 : Mem} {a0 : Nat} {p1 : Int32} {post : Option Nat → Mem → Prop}  (hq : wp_X6_eventAt  g M0 a0 p1 post) : Ct l g yX6_eventAt cX6_eventAt 2 (some (.object "QuizLeague$Event")) 0 0 0 [.ref a0, .int p1] M0 (pR post) := by
  unfold wp_X6_eventAt at hq
  obtain ⟨h0, hq⟩ := hq
  refine Ct.of (by decide) (Nat.le_of_ble_eq_true rfl) ?_
  intro p e s m below meth c ls C hr hlk hn hl hw
  have hx := C.1.1
  have hb := C.1.2.1
  have hl : lv_has ls 2 [(0, .ref a0), (1, .int p1)] := hl
  refine lv_iload_n hx hb dX6_eventAt_0 rfl (lv_at hl 1 rfl) ?_
  refine lv_if_lt (tgt := 27) hx hb dX6_eventAt_1 (by decide) (fun c1 => ?_) (fun c1 => ?_)
  · replace hq := hq.1 c1
    refine lv_null hx hb dX6_eventAt_27 ?_
    exact r_aret (v := none) C hr (Or.inl ⟨_, rfl⟩) hlk hw dX6_eventAt_28 (Nat.le_refl _) (Nat.le_refl _) ⟨_, rfl, hq⟩
  · replace hq := hq.2 c1
    refine lv_iload_n hx hb dX6_eventAt_4 rfl (lv_at hl 1 rfl) ?_
    refine lv_aload_n hx hb dX6_eventAt_5 rfl (lv_at hl 0 rfl) ?_
    refine gfX6_30 C hw hw.2.2.1 h0 dX6_eventAt_6 ?_
    refine lv_icmp_ge (tgt := 27) hx hb dX6_eventAt_9 (by decide) (fun c2 => ?_) (fun c2 => ?_)
    · replace hq := hq.1 c2
      refine lv_null hx hb dX6_eventAt_27 ?_
      exact r_aret (v := none) C hr (Or.inl ⟨_, rfl⟩) hlk hw dX6_eventAt_28 (Nat.le_refl _) (Nat.le_refl _) ⟨_, rfl, hq⟩
    · replace hq := hq.2 c2
      refine lv_iload_n hx hb dX6_eventAt_12 rfl (lv_at hl 1 rfl) ?_
      refine lv_bipush (v := 120) hx hb dX6_eventAt_13 (by decide) ?_
      refine lv_icmp_ge (tgt := 27) hx hb dX6_eventAt_15 (by decide) (fun c3 => ?_) (fun c3 => ?_)
      · replace hq := hq.1 c3
        refine lv_null hx hb dX6_eventAt_27 ?_
        exact r_aret (v := none) C hr (Or.inl ⟨_, rfl⟩) hlk hw dX6_eventAt_28 (Nat.le_refl _) (Nat.le_refl _) ⟨_, rfl, hq⟩
      · replace hq := hq.2 c3
        refine lv_aload_n hx hb dX6_eventAt_18 rfl (lv_at hl 0 rfl) ?_
        obtain ⟨q4, e5, hq⟩ := hq
        refine gfX6_21 C hw hw.2.2.1 h0 e5 dX6_eventAt_19 ?_
        refine lv_iload_n hx hb dX6_eventAt_22 rfl (lv_at hl 1 rfl) ?_
        obtain ⟨h6, hq⟩ := hq
        obtain ⟨h7, hq⟩ := hq
        obtain ⟨q8, e9, hq⟩ := hq
        refine q_aald C hw hw.2.2.1 h6 (by decide) (by decide) rfl h7 e9 dX6_eventAt_23 ?_
        refine lv_goto (tgt := 28) hx hb dX6_eventAt_24 (by decide) ?_
        exact r_aret (v := (some q8)) C hr (Or.inl ⟨_, rfl⟩) hlk hw dX6_eventAt_28 (Nat.le_refl _) (Nat.le_refl _) ⟨_, rfl, hq⟩

set_option maxRecDepth 100000 in
def wp_X6_overrule  (g : Gh) (M0 : Mem) (a0 : Nat) (p1 : Int32) (p2 : Int32) (post : Int32 → Mem → Prop) : Prop :=
  okc (gB g) M0 a0 6 ∧ (wp_X6_eventAt g M0 a0 p1 (fun v1 M2 => (v1 = none → post 0 M2) ∧ (∀ q4, v1 = some q4 → okc (gB g) M0 q4 0 ∧ ((((mI M2 q4 1) = 0) → (((mI M2 q4 3) = p2) → post 0 M2) ∧ (¬ ((mI M2 q4 3) = p2) → (p2 = 0 ∨ p2 = 1) ∧ (∀ M9, M9 = uI M2 q4 3 p2 → (wp_X6_replay g M9 a0 (fun M12 => post 1 M12))))) ∧ (¬ ((mI M2 q4 1) = 0) → post 0 M2)))))
set_option maxHeartbeats 4000000 in
set_option maxRecDepth 100000 in
theorem ct_X6_overrule {l : Launch} {g : Gh} {M0 : Mem} {a0 : Nat} {p1 : Int32} {p2 : Int32} {post : Int32 → Mem → Prop}  (hq : wp_X6_overrule  g M0 a0 p1 p2 post) : Ct l g yX6_overrule cX6_overrule 4 (some .boolean) 5 0 0 [.ref a0, .int p1, .int p2] M0 (pI post) := by
  unfold wp_X6_overrule at hq
  obtain ⟨h0, hq⟩ := hq
  refine Ct.of (by decide) (Nat.le_of_ble_eq_true rfl) ?_
  intro p e s m below meth c ls C hr hlk hn hl hw
  have hx := C.1.1
  have hb := C.1.2.1
  have hl : lv_has ls 4 [(0, .ref a0), (1, .int p1), (2, .int p2)] := hl
  refine lv_aload_n hx hb dX6_overrule_0 rfl (lv_at hl 0 rfl) ?_
  refine lv_iload_n hx hb dX6_overrule_1 rfl (lv_at hl 1 rfl) ?_
  refine r_callV (T := TX6) (N := 9) (ci := 6) (index := 72) (n := 1) (d2 := 0) (mc := 0) (ms := 0) (As := [.int p1]) (rest := []) C hw (ct_X6_eventAt hq) kvX6_72 hq.1 (by decide) rfl ⟨by decide, by decide⟩ ⟨by decide, by decide⟩ rfl hl.1 rfl (Nat.le_of_ble_eq_true rfl) dX6_overrule_2 (fun r M2 H locs hp hle hw => ?_)
  obtain ⟨v1, rfl, hq⟩ := hp
  refine W.eq (g2 := F0 m 5 ls [va_rf v1]) rfl ?_
  refine r_astore_n (lv' := [(3, va_rf v1), (0, .ref a0), (1, .int p1), (2, .int p2)]) hx hb dX6_overrule_5 rfl hl (by decide) (by first | rfl | simp [va_cat]) (fun ls hl => ?_)
  refine r_aload_n hx hb dX6_overrule_6 rfl (lv_at hl 0 rfl) ?_
  rcases v1 with _ | q4
  · refine lv_ifnullN (tgt := 25) hx hb dX6_overrule_7 (by decide) ?_
    have hl : lv_has ls 4 [(3, .null), (0, .ref a0), (1, .int p1), (2, .int p2)] := hl
    replace hq := hq.1 rfl
    refine lv_iconst (v := 0) hx hb dX6_overrule_25 (by decide) ?_
    exact r_zret C hr hlk hw dX6_overrule_26 (Nat.le_refl _) (Nat.le_refl _) (by decide) ⟨_, rfl, hq⟩
  · refine lv_ifnull hx hb dX6_overrule_7 ?_
    have hl : lv_has ls 4 [(3, .ref q4), (0, .ref a0), (1, .int p1), (2, .int p2)] := hl
    replace hq := hq.2 q4 rfl
    refine lv_aload_n hx hb dX6_overrule_10 rfl (lv_at hl 0 rfl) ?_
    obtain ⟨h5, hq⟩ := hq
    refine gfX6_59 C hw hw.2.2.1 h5 dX6_overrule_11 ?_
    refine lv_if_ne (tgt := 25) hx hb dX6_overrule_14 (by decide) (fun c6 => ?_) (fun c6 => ?_)
    · replace hq := hq.2 c6
      refine lv_iconst (v := 0) hx hb dX6_overrule_25 (by decide) ?_
      exact r_zret C hr hlk hw dX6_overrule_26 (Nat.le_refl _) (Nat.le_refl _) (by decide) ⟨_, rfl, hq⟩
    · replace hq := hq.1 c6
      refine lv_aload_n hx hb dX6_overrule_17 rfl (lv_at hl 0 rfl) ?_
      refine gfX6_65 C hw hw.2.2.1 h5 dX6_overrule_18 ?_
      refine lv_iload_n hx hb dX6_overrule_21 rfl (lv_at hl 3 rfl) ?_
      refine lv_icmp_ne (tgt := 27) hx hb dX6_overrule_22 (by decide) (fun c7 => ?_) (fun c7 => ?_)
      · replace hq := hq.2 c7
        refine lv_aload_n hx hb dX6_overrule_27 rfl (lv_at hl 0 rfl) ?_
        refine lv_iload_n hx hb dX6_overrule_28 rfl (lv_at hl 3 rfl) ?_
        obtain ⟨h8, hq⟩ := hq
        refine pfX6_65 C hw hw.2.2.1 h5 h8 dX6_overrule_29 (fun H locs hw => ?_)
        generalize e10 : uI M2 q4 3 p2 = M9 at hw
        replace hq := hq M9 e10.symm
        refine lv_aload_n hx hb dX6_overrule_32 rfl (lv_at hl 1 rfl) ?_
        refine r_callV (T := TX6) (N := 9) (ci := 6) (index := 34) (n := 0) (d2 := 4) (mc := 0) (ms := 0) (As := []) (rest := []) C hw (ct_X6_replay hq) kvX6_34 hq.1 (by decide) rfl ⟨by decide, by decide⟩ ⟨by decide, by decide⟩ rfl hl.1 rfl (Nat.le_of_ble_eq_true rfl) dX6_overrule_33 (fun r M12 H locs hp hle hw => ?_)
        obtain ⟨rfl, hq⟩ := hp
        refine W.eq (g2 := F0 m 36 ls []) rfl ?_
        refine lv_iconst (v := 1) hx hb dX6_overrule_36 (by decide) ?_
        exact r_zret C hr hlk hw dX6_overrule_37 (Nat.le_refl _) (Nat.le_refl _) (by decide) ⟨_, rfl, hq⟩
      · replace hq := hq.1 c7
        refine lv_iconst (v := 0) hx hb dX6_overrule_25 (by decide) ?_
        exact r_zret C hr hlk hw dX6_overrule_26 (Nat.le_refl _) (Nat.le_refl _) (by decide) ⟨_, rfl, hq⟩

set_option maxRecDepth 100000 in
def wp_X6_takeBack  (g : Gh) (M0 : Mem) (a0 : Nat) (post : Int32 → Mem → Prop) : Prop :=
  okc (gB g) M0 a0 6 ∧ (((1 ≤ (mI M0 a0 3)) → ∀ M2, M2 = uI M0 a0 3 ((mI M0 a0 3) - 1) → (wp_X6_replay g M2 a0 (fun M5 => post 1 M5))) ∧ (¬ (1 ≤ (mI M0 a0 3)) → post 0 M0))
set_option maxHeartbeats 4000000 in
set_option maxRecDepth 100000 in
theorem ct_X6_takeBack {l : Launch} {g : Gh} {M0 : Mem} {a0 : Nat} {post : Int32 → Mem → Prop}  (hq : wp_X6_takeBack  g M0 a0 post) : Ct l g yX6_takeBack cX6_takeBack 1 (some .boolean) 5 0 0 [.ref a0] M0 (pI post) := by
  unfold wp_X6_takeBack at hq
  obtain ⟨h0, hq⟩ := hq
  refine Ct.of (by decide) (Nat.le_of_ble_eq_true rfl) ?_
  intro p e s m below meth c ls C hr hlk hn hl hw
  have hx := C.1.1
  have hb := C.1.2.1
  have hl : lv_has ls 1 [(0, .ref a0)] := hl
  refine lv_aload_n hx hb dX6_takeBack_0 rfl (lv_at hl 0 rfl) ?_
  refine gfX6_30 C hw hw.2.2.1 h0 dX6_takeBack_1 ?_
  refine lv_iconst (v := 1) hx hb dX6_takeBack_4 (by decide) ?_
  refine lv_icmp_ge (tgt := 10) hx hb dX6_takeBack_5 (by decide) (fun c1 => ?_) (fun c1 => ?_)
  · replace hq := hq.1 c1
    refine lv_aload_n hx hb dX6_takeBack_10 rfl (lv_at hl 0 rfl) ?_
    refine lv_dup hx hb dX6_takeBack_11 rfl ?_
    refine gfX6_30 C hw hw.2.2.1 h0 dX6_takeBack_12 ?_
    refine lv_iconst (v := 1) hx hb dX6_takeBack_15 (by decide) ?_
    refine lv_isub hx hb dX6_takeBack_16 ?_
    refine pfX6_30 C hw hw.2.2.1 h0 dX6_takeBack_17 (fun H locs hw => ?_)
    generalize e3 : uI M0 a0 3 ((mI M0 a0 3) - 1) = M2 at hw
    replace hq := hq M2 e3.symm
    refine lv_aload_n hx hb dX6_takeBack_20 rfl (lv_at hl 0 rfl) ?_
    refine r_callV (T := TX6) (N := 9) (ci := 6) (index := 34) (n := 0) (d2 := 4) (mc := 0) (ms := 0) (As := []) (rest := []) C hw (ct_X6_replay hq) kvX6_34 hq.1 (by decide) rfl ⟨by decide, by decide⟩ ⟨by decide, by decide⟩ rfl hl.1 rfl (Nat.le_of_ble_eq_true rfl) dX6_takeBack_21 (fun r M5 H locs hp hle hw => ?_)
    obtain ⟨rfl, hq⟩ := hp
    refine W.eq (g2 := F0 m 24 ls []) rfl ?_
    refine lv_iconst (v := 1) hx hb dX6_takeBack_24 (by decide) ?_
    exact r_zret C hr hlk hw dX6_takeBack_25 (Nat.le_refl _) (Nat.le_refl _) (by decide) ⟨_, rfl, hq⟩
  · replace hq := hq.2 c1
    refine lv_iconst (v := 0) hx hb dX6_takeBack_8 (by decide) ?_
    exact r_zret C hr hlk hw dX6_takeBack_9 (Nat.le_refl _) (Nat.le_refl _) (by decide) ⟨_, rfl, hq⟩

set_option maxRecDepth 100000 in
def wp_X6_pointsOf  (g : Gh) (M0 : Mem) (a0 : Nat) (p1 : Int32) (post : Int32 → Mem → Prop) : Prop :=
  okc (gB g) M0 a0 6 ∧ (((p1 = 0) → ∃ q2, mR M0 a0 8 = some q2 ∧ (okc (gB g) M0 q2 14 ∧ (vp_in p1 (mN M0 q2) ∧ (post (mI M0 q2 (Int32.toNatClampNeg p1)) M0)))) ∧ (¬ (p1 = 0) → ((p1 = 1) → ∃ q7, mR M0 a0 8 = some q7 ∧ (okc (gB g) M0 q7 14 ∧ (vp_in p1 (mN M0 q7) ∧ (post (mI M0 q7 (Int32.toNatClampNeg p1)) M0)))) ∧ (¬ (p1 = 1) → post 0 M0)))
set_option maxHeartbeats 4000000 in
set_option maxRecDepth 100000 in
theorem ct_X6_pointsOf {l : Launch} {g : Gh} {M0 : Mem} {a0 : Nat} {p1 : Int32} {post : Int32 → Mem → Prop}  (hq : wp_X6_pointsOf  g M0 a0 p1 post) : Ct l g yX6_pointsOf cX6_pointsOf 2 (some .int) 0 0 0 [.ref a0, .int p1] M0 (pI post) := by
  unfold wp_X6_pointsOf at hq
  obtain ⟨h0, hq⟩ := hq
  refine Ct.of (by decide) (Nat.le_of_ble_eq_true rfl) ?_
  intro p e s m below meth c ls C hr hlk hn hl hw
  have hx := C.1.1
  have hb := C.1.2.1
  have hl : lv_has ls 2 [(0, .ref a0), (1, .int p1)] := hl
  refine lv_iload_n hx hb dX6_pointsOf_0 rfl (lv_at hl 1 rfl) ?_
  refine lv_if_eq (tgt := 9) hx hb dX6_pointsOf_1 (by decide) (fun c1 => ?_) (fun c1 => ?_)
  · replace hq := hq.1 c1
    refine lv_aload_n hx hb dX6_pointsOf_9 rfl (lv_at hl 0 rfl) ?_
    obtain ⟨q2, e3, hq⟩ := hq
    refine gfX6_26 C hw hw.2.2.1 h0 e3 dX6_pointsOf_10 ?_
    refine lv_iload_n hx hb dX6_pointsOf_13 rfl (lv_at hl 1 rfl) ?_
    obtain ⟨h4, hq⟩ := hq
    obtain ⟨h5, hq⟩ := hq
    refine q_iald C hw hw.2.2.1 h4 h5 dX6_pointsOf_14 ?_
    refine lv_goto (tgt := 19) hx hb dX6_pointsOf_15 (by decide) ?_
    exact r_iret C hr hlk hw dX6_pointsOf_19 (Nat.le_refl _) (Nat.le_refl _) ⟨_, rfl, hq⟩
  · replace hq := hq.2 c1
    refine lv_iload_n hx hb dX6_pointsOf_4 rfl (lv_at hl 1 rfl) ?_
    refine lv_iconst (v := 1) hx hb dX6_pointsOf_5 (by decide) ?_
    refine lv_icmp_ne (tgt := 18) hx hb dX6_pointsOf_6 (by decide) (fun c6 => ?_) (fun c6 => ?_)
    · replace hq := hq.2 c6
      refine lv_iconst (v := 0) hx hb dX6_pointsOf_18 (by decide) ?_
      exact r_iret C hr hlk hw dX6_pointsOf_19 (Nat.le_refl _) (Nat.le_refl _) ⟨_, rfl, hq⟩
    · replace hq := hq.1 c6
      refine lv_aload_n hx hb dX6_pointsOf_9 rfl (lv_at hl 0 rfl) ?_
      obtain ⟨q7, e8, hq⟩ := hq
      refine gfX6_26 C hw hw.2.2.1 h0 e8 dX6_pointsOf_10 ?_
      refine lv_iload_n hx hb dX6_pointsOf_13 rfl (lv_at hl 1 rfl) ?_
      obtain ⟨h9, hq⟩ := hq
      obtain ⟨h10, hq⟩ := hq
      refine q_iald C hw hw.2.2.1 h9 h10 dX6_pointsOf_14 ?_
      refine lv_goto (tgt := 19) hx hb dX6_pointsOf_15 (by decide) ?_
      exact r_iret C hr hlk hw dX6_pointsOf_19 (Nat.le_refl _) (Nat.le_refl _) ⟨_, rfl, hq⟩

set_option maxRecDepth 100000 in
def bd_X6_isKnown_2  (g : Gh) (M0 : Mem) (a0 : Nat) (p1 : Int32) (post : Int32 → Mem → Prop)  (bk2 : Int32 × Mem → Prop) (x2 : Int32)  (M : Mem) : Prop :=
  (((mI M a0 3) ≤ x2) → post 0 M) ∧ (¬ ((mI M a0 3) ≤ x2) → ((120 ≤ x2) → post 0 M) ∧ (¬ (120 ≤ x2) → ∃ q3, mR M a0 2 = some q3 ∧ (okc (gB g) M0 q3 18 ∧ (vp_in x2 (mN M0 q3) ∧ (∃ q7, mR M q3 (Int32.toNatClampNeg x2) = some q7 ∧ (okc (gB g) M0 q7 0 ∧ ((((mI M q7 0) = p1) → (((mI M q7 3) = 0) → bk2 ((x2 + 1), M)) ∧ (¬ ((mI M q7 3) = 0) → (((mI M q7 4) = 0) → post 1 M) ∧ (¬ ((mI M q7 4) = 0) → bk2 ((x2 + 1), M)))) ∧ (¬ ((mI M q7 0) = p1) → bk2 ((x2 + 1), M)))))))))
set_option maxRecDepth 100000 in
def wp_X6_isKnown  (g : Gh) (M0 : Mem) (a0 : Nat) (p1 : Int32) (post : Int32 → Mem → Prop) : Prop :=
  okc (gB g) M0 a0 6 ∧ ((∃ n : Nat, lfp (fun bk z => bd_X6_isKnown_2  g M0 a0 p1 post  bk z.1 z.2) n (0, M0)))
set_option maxHeartbeats 4000000 in
set_option maxRecDepth 100000 in
theorem lp_X6_isKnown_2 {l : Launch} {g : Gh} {p : Program} {e : Env} {s : State} {m : MethodId} {args : Array Value} {below : List Frame} {meth : Method} {c : Code} {M0 : Mem} {a0 : Nat} {p1 : Int32} {post : Int32 → Mem → Prop}  (C : Cx g p s m args c cX6_isKnown 3 RX6) (hr : meth.sig.returnType = (some .boolean)) (hlk : meth.locks = false) (hn : meth.name = "isKnown") (h0 : okc (gB g) M0 a0 6)  : ∀ (nf : Nat) (x2 : Int32)  (M : Mem) (H : Heap) (locs : List Loc) (ls : Array Slot), lfp (fun bk z => bd_X6_isKnown_2  g M0 a0 p1 post  bk z.1 z.2) nf (x2, M) → Wd g s M0 M H locs → lv_has ls 3 [(0, .ref a0), (1, .int p1), (2, .int x2)] → W p l e (rmo 0 0 0) s m args below meth c H locs 0 0 (MQ below (Cq g M0 (pI post)) args s 0 0 (gA g)) (F0 m 2 ls []) := by
  have hx := C.1.1
  have hb := C.1.2.1
  intro nf
  induction nf with
  | zero => intro _ _ H locs ls hq; exact hq.elim
  | succ nf hk2 =>
    intro x2 M H locs ls hq hw hl
    replace hq : bd_X6_isKnown_2  g M0 a0 p1 post  (lfp (fun bk z => bd_X6_isKnown_2  g M0 a0 p1 post  bk z.1 z.2) nf) x2 M := hq
    unfold bd_X6_isKnown_2 at hq
    refine lv_iload_n hx hb dX6_isKnown_2 rfl (lv_at hl 2 rfl) ?_
    refine lv_aload_n hx hb dX6_isKnown_3 rfl (lv_at hl 0 rfl) ?_
    refine gfX6_30 C hw hw.2.2.1 h0 dX6_isKnown_4 ?_
    refine lv_icmp_ge (tgt := 61) hx hb dX6_isKnown_7 (by decide) (fun c1 => ?_) (fun c1 => ?_)
    · replace hq := hq.1 c1
      refine lv_iconst (v := 0) hx hb dX6_isKnown_61 (by decide) ?_
      exact r_zret C hr hlk hw dX6_isKnown_62 (Nat.le_refl _) (Nat.le_refl _) (by decide) ⟨_, rfl, hq⟩
    · replace hq := hq.2 c1
      refine lv_iload_n hx hb dX6_isKnown_10 rfl (lv_at hl 2 rfl) ?_
      refine lv_bipush (v := 120) hx hb dX6_isKnown_11 (by decide) ?_
      refine lv_icmp_ge (tgt := 61) hx hb dX6_isKnown_13 (by decide) (fun c2 => ?_) (fun c2 => ?_)
      · replace hq := hq.1 c2
        refine lv_iconst (v := 0) hx hb dX6_isKnown_61 (by decide) ?_
        exact r_zret C hr hlk hw dX6_isKnown_62 (Nat.le_refl _) (Nat.le_refl _) (by decide) ⟨_, rfl, hq⟩
      · replace hq := hq.2 c2
        refine lv_aload_n hx hb dX6_isKnown_16 rfl (lv_at hl 0 rfl) ?_
        obtain ⟨q3, e4, hq⟩ := hq
        refine gfX6_21 C hw hw.2.2.1 h0 e4 dX6_isKnown_17 ?_
        refine lv_iload_n hx hb dX6_isKnown_20 rfl (lv_at hl 2 rfl) ?_
        obtain ⟨h5, hq⟩ := hq
        obtain ⟨h6, hq⟩ := hq
        obtain ⟨q7, e8, hq⟩ := hq
        refine q_aald C hw hw.2.2.1 h5 (by decide) (by decide) rfl h6 e8 dX6_isKnown_21 ?_
        obtain ⟨h9, hq⟩ := hq
        refine gfX6_56 C hw hw.2.2.1 h9 dX6_isKnown_22 ?_
        refine lv_iload_n hx hb dX6_isKnown_25 rfl (lv_at hl 1 rfl) ?_
        refine lv_icmp_ne (tgt := 55) hx hb dX6_isKnown_26 (by decide) (fun c10 => ?_) (fun c10 => ?_)
        · replace hq := hq.2 c10
          refine lv_iinc (v := (x2 + 1)) (lv' := [(2, .int (x2 + 1)), (0, .ref a0), (1, .int p1)]) hx hb dX6_isKnown_55 hl (k := 2) rfl rfl (by decide) rfl (fun ls hl => ?_)
          refine lv_goto (tgt := 2) hx hb dX6_isKnown_58 (by decide) ?_
          exact hk2 _ _ _ _ _ hq hw (lv_sub hl [1, 2, 0] rfl)
        · replace hq := hq.1 c10
          refine lv_aload_n hx hb dX6_isKnown_29 rfl (lv_at hl 0 rfl) ?_
          refine gfX6_21 C hw hw.2.2.1 h0 e4 dX6_isKnown_30 ?_
          refine lv_iload_n hx hb dX6_isKnown_33 rfl (lv_at hl 2 rfl) ?_
          refine q_aald C hw hw.2.2.1 h5 (by decide) (by decide) rfl h6 e8 dX6_isKnown_34 ?_
          refine gfX6_65 C hw hw.2.2.1 h9 dX6_isKnown_35 ?_
          refine lv_if_eq (tgt := 55) hx hb dX6_isKnown_38 (by decide) (fun c11 => ?_) (fun c11 => ?_)
          · replace hq := hq.1 c11
            refine lv_iinc (v := (x2 + 1)) (lv' := [(2, .int (x2 + 1)), (0, .ref a0), (1, .int p1)]) hx hb dX6_isKnown_55 hl (k := 2) rfl rfl (by decide) rfl (fun ls hl => ?_)
            refine lv_goto (tgt := 2) hx hb dX6_isKnown_58 (by decide) ?_
            exact hk2 _ _ _ _ _ hq hw (lv_sub hl [1, 2, 0] rfl)
          · replace hq := hq.2 c11
            refine lv_aload_n hx hb dX6_isKnown_41 rfl (lv_at hl 0 rfl) ?_
            refine gfX6_21 C hw hw.2.2.1 h0 e4 dX6_isKnown_42 ?_
            refine lv_iload_n hx hb dX6_isKnown_45 rfl (lv_at hl 2 rfl) ?_
            refine q_aald C hw hw.2.2.1 h5 (by decide) (by decide) rfl h6 e8 dX6_isKnown_46 ?_
            refine gfX6_76 C hw hw.2.2.1 h9 dX6_isKnown_47 ?_
            refine lv_if_ne (tgt := 55) hx hb dX6_isKnown_50 (by decide) (fun c12 => ?_) (fun c12 => ?_)
            · replace hq := hq.2 c12
              refine lv_iinc (v := (x2 + 1)) (lv' := [(2, .int (x2 + 1)), (0, .ref a0), (1, .int p1)]) hx hb dX6_isKnown_55 hl (k := 2) rfl rfl (by decide) rfl (fun ls hl => ?_)
              refine lv_goto (tgt := 2) hx hb dX6_isKnown_58 (by decide) ?_
              exact hk2 _ _ _ _ _ hq hw (lv_sub hl [1, 2, 0] rfl)
            · replace hq := hq.1 c12
              refine lv_iconst (v := 1) hx hb dX6_isKnown_53 (by decide) ?_
              exact r_zret C hr hlk hw dX6_isKnown_54 (Nat.le_refl _) (Nat.le_refl _) (by decide) ⟨_, rfl, hq⟩
set_option maxHeartbeats 4000000 in
set_option maxRecDepth 100000 in
theorem ct_X6_isKnown {l : Launch} {g : Gh} {M0 : Mem} {a0 : Nat} {p1 : Int32} {post : Int32 → Mem → Prop}  (hq : wp_X6_isKnown  g M0 a0 p1 post) : Ct l g yX6_isKnown cX6_isKnown 3 (some .boolean) 0 0 0 [.ref a0, .int p1] M0 (pI post) := by
  unfold wp_X6_isKnown at hq
  obtain ⟨h0, hq⟩ := hq
  refine Ct.of (by decide) (Nat.le_of_ble_eq_true rfl) ?_
  intro p e s m below meth c ls C hr hlk hn hl hw
  have hx := C.1.1
  have hb := C.1.2.1
  have hl : lv_has ls 3 [(0, .ref a0), (1, .int p1)] := hl
  refine lv_iconst (v := 0) hx hb dX6_isKnown_0 (by decide) ?_
  refine lv_istore_n (lv' := [(2, .int 0), (0, .ref a0), (1, .int p1)]) hx hb dX6_isKnown_1 rfl hl (by decide) rfl (fun ls hl => ?_)
  obtain ⟨nf, hq⟩ := hq
  exact lp_X6_isKnown_2  C hr hlk hn h0  nf _ _ _ _ _ hq hw (lv_sub hl [1, 2, 0] rfl)

set_option maxRecDepth 100000 in
def wp_X6_tell  (g : Gh) (M0 : Mem) (a0 : Nat) (p1 : Int32) (post : Int32 → Mem → Prop) : Prop :=
  okc (gB g) M0 a0 6 ∧ (((p1 = 0) → post (mI M0 a0 5) M0) ∧ ((p1 = 1) → post (mI M0 a0 6) M0) ∧ ((p1 = 2) → wp_X6_pointsOf g M0 a0 0 (fun v2 M3 => post v2 M3)) ∧ ((p1 = 3) → wp_X6_pointsOf g M0 a0 1 (fun v4 M5 => post v4 M5)) ∧ ((p1 = 4) → post (mI M0 a0 3) M0) ∧ ((p1 = 5) → post (mI M0 a0 4) M0) ∧ ((¬ (p1 = 0) ∧ ¬ (p1 = 1) ∧ ¬ (p1 = 2) ∧ ¬ (p1 = 3) ∧ ¬ (p1 = 4) ∧ ¬ (p1 = 5)) → post (-1) M0))
set_option maxHeartbeats 4000000 in
set_option maxRecDepth 100000 in
theorem ct_X6_tell {l : Launch} {g : Gh} {M0 : Mem} {a0 : Nat} {p1 : Int32} {post : Int32 → Mem → Prop}  (hq : wp_X6_tell  g M0 a0 p1 post) : Ct l g yX6_tell cX6_tell 2 (some .int) 1 0 0 [.ref a0, .int p1] M0 (pI post) := by
  unfold wp_X6_tell at hq
  obtain ⟨h0, hq⟩ := hq
  refine Ct.of (by decide) (Nat.le_of_ble_eq_true rfl) ?_
  intro p e s m below meth c ls C hr hlk hn hl hw
  have hx := C.1.1
  have hb := C.1.2.1
  have hl : lv_has ls 2 [(0, .ref a0), (1, .int p1)] := hl
  refine lv_iload_n hx hb dX6_tell_0 rfl (lv_at hl 1 rfl) ?_
  by_cases c6 : p1 = 0
  · refine r_table (v := 0) (off := 39) (tgt := 40) hx hb dX6_tell_1 c6 (by decide) (by decide) rfl (by decide) ?_
    replace hq := hq.1 c6
    refine lv_aload_n hx hb dX6_tell_40 rfl (lv_at hl 0 rfl) ?_
    refine gfX6_37 C hw hw.2.2.1 h0 dX6_tell_41 ?_
    exact r_iret C hr hlk hw dX6_tell_44 (Nat.le_refl _) (Nat.le_refl _) ⟨_, rfl, hq⟩
  by_cases c7 : p1 = 1
  · refine r_table (v := 1) (off := 44) (tgt := 45) hx hb dX6_tell_1 c7 (by decide) (by decide) rfl (by decide) ?_
    replace hq := hq.2.1 c7
    refine lv_aload_n hx hb dX6_tell_45 rfl (lv_at hl 0 rfl) ?_
    refine gfX6_79 C hw hw.2.2.1 h0 dX6_tell_46 ?_
    exact r_iret C hr hlk hw dX6_tell_49 (Nat.le_refl _) (Nat.le_refl _) ⟨_, rfl, hq⟩
  by_cases c8 : p1 = 2
  · refine r_table (v := 2) (off := 49) (tgt := 50) hx hb dX6_tell_1 c8 (by decide) (by decide) rfl (by decide) ?_
    replace hq := hq.2.2.1 c8
    refine lv_aload_n hx hb dX6_tell_50 rfl (lv_at hl 0 rfl) ?_
    refine lv_iconst (v := 0) hx hb dX6_tell_51 (by decide) ?_
    refine r_callV (T := TX6) (N := 9) (ci := 6) (index := 82) (n := 1) (d2 := 0) (mc := 0) (ms := 0) (As := [.int 0]) (rest := []) C hw (ct_X6_pointsOf hq) kvX6_82 hq.1 (by decide) rfl ⟨by decide, by decide⟩ ⟨by decide, by decide⟩ rfl hl.1 rfl (Nat.le_of_ble_eq_true rfl) dX6_tell_52 (fun r M3 H locs hp hle hw => ?_)
    obtain ⟨v2, rfl, hq⟩ := hp
    refine W.eq (g2 := F0 m 55 ls [.int v2]) rfl ?_
    exact r_iret C hr hlk hw dX6_tell_55 (Nat.le_refl _) (Nat.le_refl _) ⟨_, rfl, hq⟩
  by_cases c9 : p1 = 3
  · refine r_table (v := 3) (off := 55) (tgt := 56) hx hb dX6_tell_1 c9 (by decide) (by decide) rfl (by decide) ?_
    replace hq := hq.2.2.2.1 c9
    refine lv_aload_n hx hb dX6_tell_56 rfl (lv_at hl 0 rfl) ?_
    refine lv_iconst (v := 1) hx hb dX6_tell_57 (by decide) ?_
    refine r_callV (T := TX6) (N := 9) (ci := 6) (index := 82) (n := 1) (d2 := 0) (mc := 0) (ms := 0) (As := [.int 1]) (rest := []) C hw (ct_X6_pointsOf hq) kvX6_82 hq.1 (by decide) rfl ⟨by decide, by decide⟩ ⟨by decide, by decide⟩ rfl hl.1 rfl (Nat.le_of_ble_eq_true rfl) dX6_tell_58 (fun r M5 H locs hp hle hw => ?_)
    obtain ⟨v4, rfl, hq⟩ := hp
    refine W.eq (g2 := F0 m 61 ls [.int v4]) rfl ?_
    exact r_iret C hr hlk hw dX6_tell_61 (Nat.le_refl _) (Nat.le_refl _) ⟨_, rfl, hq⟩
  by_cases c10 : p1 = 4
  · refine r_table (v := 4) (off := 61) (tgt := 62) hx hb dX6_tell_1 c10 (by decide) (by decide) rfl (by decide) ?_
    replace hq := hq.2.2.2.2.1 c10
    refine lv_aload_n hx hb dX6_tell_62 rfl (lv_at hl 0 rfl) ?_
    refine gfX6_30 C hw hw.2.2.1 h0 dX6_tell_63 ?_
    exact r_iret C hr hlk hw dX6_tell_66 (Nat.le_refl _) (Nat.le_refl _) ⟨_, rfl, hq⟩
  by_cases c11 : p1 = 5
  · refine r_table (v := 5) (off := 66) (tgt := 67) hx hb dX6_tell_1 c11 (by decide) (by decide) rfl (by decide) ?_
    replace hq := hq.2.2.2.2.2.1 c11
    refine lv_aload_n hx hb dX6_tell_67 rfl (lv_at hl 0 rfl) ?_
    refine gfX6_86 C hw hw.2.2.1 h0 dX6_tell_68 ?_
    exact r_iret C hr hlk hw dX6_tell_71 (Nat.le_refl _) (Nat.le_refl _) ⟨_, rfl, hq⟩
  refine r_tableOut (tgt := 72) (k := 5) hx hb dX6_tell_1 (by decide) (fun j hj => by rcases (show j = 0 ∨ j = 1 ∨ j = 2 ∨ j = 3 ∨ j = 4 ∨ j = 5 by omega) with rfl | rfl | rfl | rfl | rfl | rfl <;> assumption) (by decide) ?_
  replace hq := hq.2.2.2.2.2.2 ⟨c6, c7, c8, c9, c10, c11⟩
  refine lv_iconst (v := (-1)) hx hb dX6_tell_72 (by decide) ?_
  exact r_iret C hr hlk hw dX6_tell_73 (Nat.le_refl _) (Nat.le_refl _) ⟨_, rfl, hq⟩

set_option maxRecDepth 100000 in
def lb_X7_init_56  (g : Gh) (M0 : Mem) (a0 : Nat) (post : Mem → Prop)    (M : Mem) (ck sk : Nat) : Prop :=
  ∀ M1, M1 = uI M a0 3 0 → ((ck + 1 ≤ 38 ∧ sk + 21 ≤ 1336) ∧ (∀ q4 M5, q4 = mT M1 → M5 = nw M1 14 21 → (∀ M9, M9 = uR M5 a0 4 (some q4) → (((ck + 1) ≤ 38 ∧ (sk + 21) ≤ 1336) ∧ (post M9)))))
set_option maxRecDepth 100000 in
def bd_X7_init_28  (g : Gh) (M0 : Mem) (a0 : Nat) (post : Mem → Prop)  (bk28 : Int32 × Mem × Nat × Nat → Prop) (x1 : Int32)  (M : Mem) (ck sk : Nat) : Prop :=
  ∃ q12, mR M a0 2 = some q12 ∧ (okc (gB g) M q12 19 ∧ ((((nI (mN M q12)) ≤ x1) → lb_X7_init_56  g M0 a0 post   M ck sk) ∧ (¬ ((nI (mN M q12)) ≤ x1) → (ck + 1 ≤ 38 ∧ sk + 5 ≤ 1336) ∧ (∀ q17 M18, q17 = mT M → M18 = nw M 3 0 → (((ck + 1) + 4 ≤ 38 ∧ (sk + 5) + 179 ≤ 1336) ∧ (wp_X3_init g M18 q17 (fun M23 => vp_in x1 (mN M23 q12) ∧ (∀ M26, M26 = uR M23 q12 (Int32.toNatClampNeg x1) (some q17) → (bk28 ((x1 + 1), M26, ((ck + 1) + 4), ((sk + 5) + 179)))))))))))
set_option maxRecDepth 100000 in
def wp_X7_init  (g : Gh) (M0 : Mem) (a0 : Nat) (post : Mem → Prop) : Prop :=
  okc (gB g) M0 a0 7 ∧ ((0 + 1 ≤ 38 ∧ 0 + 20 ≤ 1336) ∧ (∀ q29 M30, q29 = mT M0 → M30 = nw M0 15 20 → (∀ M34, M34 = uR M30 a0 0 (some q29) → (∀ M36, M36 = uI M34 a0 1 0 → (((0 + 1) + 1 ≤ 38 ∧ (0 + 20) + 7 ≤ 1336) ∧ (∀ q39 M40, q39 = mT M36 → M40 = nw M36 19 7 → (∀ M44, M44 = uR M40 a0 2 (some q39) → ((∃ n : Nat, lfp (fun bk z => bd_X7_init_28  g M0 a0 post  bk z.1 z.2.1 z.2.2.1 z.2.2.2) n (0, M44, ((0 + 1) + 1), ((0 + 20) + 7)))))))))))
set_option maxHeartbeats 4000000 in
set_option maxRecDepth 100000 in
theorem lt_X7_init_56 {l : Launch} {g : Gh} {p : Program} {e : Env} {s : State} {m : MethodId} {args : Array Value} {below : List Frame} {meth : Method} {c : Code} {H : Heap} {locs : List Loc} {ls : Array Slot} {M0 M : Mem} {a0 : Nat} {post : Mem → Prop}   {ck sk : Nat}  (C : Cx g p s m args c cX7_init 2 RX7) (hr : meth.sig.returnType = none) (hlk : meth.locks = false) (hn : meth.name = "<init>") (h0 : okc (gB g) M0 a0 7)  (hq : lb_X7_init_56  g M0 a0 post   M ck sk) (hw : Wd g s M0 M H locs) (hl : lv_has ls 2 [(0, .ref a0)]) : W p l e (rmo 2 38 1336) s m args below meth c H locs ck sk (MQ below (Cq g M0 (pV post)) args s 38 1336 (gA g)) (F0 m 56 ls []) := by
  have hx := C.1.1
  have hb := C.1.2.1
  unfold lb_X7_init_56 at hq
  have h00 := h0
  replace h0 := h0.up hw.2.2.1
  refine lv_aload_n hx hb dX7_init_56 rfl (lv_at hl 0 rfl) ?_
  refine lv_iconst (v := 0) hx hb dX7_init_57 (by decide) ?_
  refine pfX7_26 C hw (mle_rf _) h0 dX7_init_58 (fun H locs hw => ?_)
  generalize e2 : uI M a0 3 0 = M1 at hw
  replace hq := hq M1 e2.symm
  have h0 : okc (gB g) M1 a0 7 := by rw [← e2]; exact okc_uI h0
  refine lv_aload_n hx hb dX7_init_61 rfl (lv_at hl 0 rfl) ?_
  refine lv_bipush (v := 21) hx hb dX7_init_62 (by decide) ?_
  have hB := hw.B C.2.2.2.2.2
  obtain ⟨h3, hq⟩ := hq
  refine q_newa_14 (N' := 21) C hw (by decide) (by decide) (by decide) h3.1 h3.2 dX7_init_64 (fun H hw => ?_)
  have h8 := okc_nw (gB g) M1 14 21 hB
  have h0 := h0.up (mle_nw M1 14 21)
  generalize e6 : nw M1 14 21 = M5 at hw h8 h0
  generalize e7 : mT M1 = q4 at h8 ⊢
  replace hq := hq q4 M5 e7.symm e6.symm
  refine pfX7_29 (v := (some q4)) C hw (mle_rf _) h0 hn dX7_init_66 (fun H locs hw => ?_)
  generalize e10 : uR M5 a0 4 (some q4) = M9 at hw
  replace hq := hq M9 e10.symm
  have h0 : okc (gB g) M9 a0 7 := by rw [← e10]; exact okc_uR h0
  obtain ⟨h11, hq⟩ := hq
  exact r_vret C hr hlk hw dX7_init_69 h11.1 h11.2 ⟨rfl, hq⟩
set_option maxHeartbeats 4000000 in
set_option maxRecDepth 100000 in
theorem lp_X7_init_28 {l : Launch} {g : Gh} {p : Program} {e : Env} {s : State} {m : MethodId} {args : Array Value} {below : List Frame} {meth : Method} {c : Code} {M0 : Mem} {a0 : Nat} {post : Mem → Prop}  (C : Cx g p s m args c cX7_init 2 RX7) (hr : meth.sig.returnType = none) (hlk : meth.locks = false) (hn : meth.name = "<init>") (h0 : okc (gB g) M0 a0 7)  : ∀ (nf : Nat) (x1 : Int32)  (M : Mem) (ck sk : Nat) (H : Heap) (locs : List Loc) (ls : Array Slot), lfp (fun bk z => bd_X7_init_28  g M0 a0 post  bk z.1 z.2.1 z.2.2.1 z.2.2.2) nf (x1, M, ck, sk) → Wd g s M0 M H locs → lv_has ls 2 [(0, .ref a0), (1, .int x1)] → W p l e (rmo 2 38 1336) s m args below meth c H locs ck sk (MQ below (Cq g M0 (pV post)) args s 38 1336 (gA g)) (F0 m 28 ls []) := by
  have hx := C.1.1
  have hb := C.1.2.1
  intro nf
  induction nf with
  | zero => intro _ _ _ _ H locs ls hq; exact hq.elim
  | succ nf hk28 =>
    intro x1 M ck sk H locs ls hq hw hl
    replace hq : bd_X7_init_28  g M0 a0 post  (lfp (fun bk z => bd_X7_init_28  g M0 a0 post  bk z.1 z.2.1 z.2.2.1 z.2.2.2) nf) x1 M ck sk := hq
    unfold bd_X7_init_28 at hq
    have h00 := h0
    replace h0 := h0.up hw.2.2.1
    refine lv_iload_n hx hb dX7_init_28 rfl (lv_at hl 1 rfl) ?_
    refine lv_aload_n hx hb dX7_init_29 rfl (lv_at hl 0 rfl) ?_
    obtain ⟨q12, e13, hq⟩ := hq
    refine gfX7_21 C hw (mle_rf _) h0 e13 dX7_init_30 ?_
    obtain ⟨h14, hq⟩ := hq
    refine q_alen C hw (mle_rf _) h14 (by decide) (by decide) rfl dX7_init_33 ?_
    refine lv_icmp_ge (tgt := 56) hx hb dX7_init_34 (by decide) (fun c15 => ?_) (fun c15 => ?_)
    · replace hq := hq.1 c15
      exact lt_X7_init_56  C hr hlk hn h00  hq hw (lv_sub hl [0] rfl)
    · replace hq := hq.2 c15
      refine lv_aload_n hx hb dX7_init_37 rfl (lv_at hl 0 rfl) ?_
      refine gfX7_21 C hw (mle_rf _) h0 e13 dX7_init_38 ?_
      refine lv_iload_n hx hb dX7_init_41 rfl (lv_at hl 1 rfl) ?_
      have hB := hw.B C.2.2.2.2.2
      obtain ⟨h16, hq⟩ := hq
      refine r_new tyX3 (T := TX3) (N := 5) (ci := 3) C hw rfl (by decide) inX3 tyX3_ok w_120 w_122 w_5 df_3 h16.1 h16.2 dX7_init_42 (fun H hw => ?_)
      have h21 := okc_nw (gB g) M 3 0 hB
      have h0 := h0.up (mle_nw M 3 0)
      have h14 := h14.up (mle_nw M 3 0)
      generalize e19 : nw M 3 0 = M18 at hw h21 h0 h14
      generalize e20 : mT M = q17 at h21 ⊢
      replace hq := hq q17 M18 e20.symm e19.symm
      refine lv_dup hx hb dX7_init_45 rfl ?_
      obtain ⟨h24, hq⟩ := hq
      refine r_callI (index := 25) (n := 0) (d2 := 1) (mc := 4) (ms := 179) (As := []) (rest := [.ref q17, .int x1, .ref q12]) C hw (ct_X3_init hq) kiX7_25 ⟨by decide, by decide⟩ ⟨h24.1, h24.2⟩ rfl hl.1 rfl (Nat.le_of_ble_eq_true rfl) dX7_init_46 (fun r M23 H locs hp hle hw => ?_)
      obtain ⟨rfl, hq⟩ := hp
      have h0 := h0.up hle
      have h14 := h14.up hle
      have h21 := h21.up hle
      refine W.eq (g2 := F0 m 49 ls [.ref q17, .int x1, .ref q12]) rfl ?_
      obtain ⟨h25, hq⟩ := hq
      refine q_aast (ci := 3) C hw (mle_rf _) h14 (by decide) (by decide) rfl h21 (by decide) rfl h25 dX7_init_49 (fun H locs hw => ?_)
      generalize e27 : uR M23 q12 (Int32.toNatClampNeg x1) (some q17) = M26 at hw
      replace hq := hq M26 e27.symm
      have h0 : okc (gB g) M26 a0 7 := by rw [← e27]; exact okc_uR h0
      refine lv_iinc (v := (x1 + 1)) (lv' := [(1, .int (x1 + 1)), (0, .ref a0)]) hx hb dX7_init_50 hl (k := 1) rfl rfl (by decide) rfl (fun ls hl => ?_)
      refine lv_goto (tgt := 28) hx hb dX7_init_53 (by decide) ?_
      exact hk28 _ _ _ _ _ _ _ hq hw (lv_sub hl [1, 0] rfl)
set_option maxHeartbeats 4000000 in
set_option maxRecDepth 100000 in
theorem ct_X7_init {l : Launch} {g : Gh} {M0 : Mem} {a0 : Nat} {post : Mem → Prop}  (hq : wp_X7_init  g M0 a0 post) : Ct l g yX7_init cX7_init 2 none 2 38 1336 [.ref a0] M0 (pV post) := by
  unfold wp_X7_init at hq
  obtain ⟨h0, hq⟩ := hq
  have h00 := h0
  refine Ct.of (by decide) (Nat.le_of_ble_eq_true rfl) ?_
  intro p e s m below meth c ls C hr hlk hn hl hw
  have hx := C.1.1
  have hb := C.1.2.1
  have hl : lv_has ls 2 [(0, .ref a0)] := hl
  refine lv_aload_n hx hb dX7_init_0 rfl (lv_at hl 0 rfl) ?_
  refine W.objInit hx hb C.1.2.2.2.1 (C.1.2.2.2.2 _ w_119) (C.1.2.2.2.2 _ w_35) (C.1.2.2.2.2 _ w_objInit) rfl (by rw [C.1.2.2.1]; exact hl.1) rfl dX7_init_1 (Nat.le_of_ble_eq_true rfl) (Nat.le_of_ble_eq_true rfl) ?_
  refine W.eq (g2 := F0 m 4 ls []) rfl ?_
  refine lv_aload_n hx hb dX7_init_4 rfl (lv_at hl 0 rfl) ?_
  refine lv_bipush (v := 20) hx hb dX7_init_5 (by decide) ?_
  have hB := hw.B C.2.2.2.2.2
  obtain ⟨h28, hq⟩ := hq
  refine q_newa_15 (N' := 20) C hw (by decide) (by decide) (by decide) h28.1 h28.2 dX7_init_7 (fun H hw => ?_)
  have h33 := okc_nw (gB g) M0 15 20 hB
  have h0 := h0.up (mle_nw M0 15 20)
  generalize e31 : nw M0 15 20 = M30 at hw h33 h0
  generalize e32 : mT M0 = q29 at h33 ⊢
  replace hq := hq q29 M30 e32.symm e31.symm
  refine pfX7_9 (v := (some q29)) C hw (mle_rf _) h0 hn dX7_init_9 (fun H locs hw => ?_)
  generalize e35 : uR M30 a0 0 (some q29) = M34 at hw
  replace hq := hq M34 e35.symm
  have h0 : okc (gB g) M34 a0 7 := by rw [← e35]; exact okc_uR h0
  refine lv_aload_n hx hb dX7_init_12 rfl (lv_at hl 0 rfl) ?_
  refine lv_iconst (v := 0) hx hb dX7_init_13 (by decide) ?_
  refine pfX7_13 C hw (mle_rf _) h0 dX7_init_14 (fun H locs hw => ?_)
  generalize e37 : uI M34 a0 1 0 = M36 at hw
  replace hq := hq M36 e37.symm
  have h0 : okc (gB g) M36 a0 7 := by rw [← e37]; exact okc_uI h0
  refine lv_aload_n hx hb dX7_init_17 rfl (lv_at hl 0 rfl) ?_
  refine lv_bipush (v := 7) hx hb dX7_init_18 (by decide) ?_
  have hB := hw.B C.2.2.2.2.2
  obtain ⟨h38, hq⟩ := hq
  refine r_newq (kd := 19) (N' := 7) C hw w_120 C.2.2.2.1.2.1 rfl (by decide) (by decide) (by decide) (by decide) (by decide) h38.1 h38.2 dX7_init_20 (fun H hw => ?_)
  have h43 := okc_nw (gB g) M36 19 7 hB
  have h0 := h0.up (mle_nw M36 19 7)
  generalize e41 : nw M36 19 7 = M40 at hw h43 h0
  generalize e42 : mT M36 = q39 at h43 ⊢
  replace hq := hq q39 M40 e42.symm e41.symm
  refine pfX7_21 (v := (some q39)) C hw (mle_rf _) h0 hn dX7_init_23 (fun H locs hw => ?_)
  generalize e45 : uR M40 a0 2 (some q39) = M44 at hw
  replace hq := hq M44 e45.symm
  have h0 : okc (gB g) M44 a0 7 := by rw [← e45]; exact okc_uR h0
  refine lv_iconst (v := 0) hx hb dX7_init_26 (by decide) ?_
  refine lv_istore_n (lv' := [(1, .int 0), (0, .ref a0)]) hx hb dX7_init_27 rfl hl (by decide) rfl (fun ls hl => ?_)
  obtain ⟨nf, hq⟩ := hq
  exact lp_X7_init_28  C hr hlk hn h00  nf _ _ _ _ _ _ _ hq hw (lv_sub hl [1, 0] rfl)

set_option maxRecDepth 100000 in
def lb_X7_readFrom_64  (g : Gh) (M0 : Mem) (a0 : Nat) (a1 : Nat) (post : Int32 → Mem → Prop) (bk11 : Int32 × Mem → Prop) (x2 : Int32) (s0 : Int32) (M : Mem) : Prop :=
  ((s0 = 0) → post 0 M) ∧ (¬ (s0 = 0) → (((mI M a0 1) < 20) → ∃ q3, mR M a0 0 = some q3 ∧ (okc (gB g) M0 a1 10 ∧ (okc (gB g) M0 q3 15 ∧ (vp_in (mI M a0 1) (mN M0 q3) ∧ (∀ M8, M8 = uJ M q3 (Int32.toNatClampNeg (mI M a0 1)) (mJ M a1 4) → (∀ M10, M10 = uI M8 a0 1 ((mI M8 a0 1) + 1) → (bk11 ((x2 + 1), M10)))))))) ∧ (¬ ((mI M a0 1) < 20) → post 0 M))
set_option maxRecDepth 100000 in
def lb_X7_readFrom_30  (g : Gh) (M0 : Mem) (a0 : Nat) (a1 : Nat) (post : Int32 → Mem → Prop)    (M : Mem) : Prop :=
  (((mI M a0 1) ≤ 0) → post 0 M) ∧ (¬ ((mI M a0 1) ≤ 0) → post 1 M)
set_option maxRecDepth 100000 in
def bd_X7_readFrom_11  (g : Gh) (M0 : Mem) (a0 : Nat) (a1 : Nat) (post : Int32 → Mem → Prop)  (bk11 : Int32 × Mem → Prop) (x2 : Int32)  (M : Mem) : Prop :=
  ((20 < x2) → post 0 M) ∧ (¬ (20 < x2) → wp_X10_readNext g M a1 (gK g 1) (fun M15 => okc (gB g) M0 a1 10 ∧ ((((mI M15 a1 2) = 0) → lb_X7_readFrom_30  g M0 a0 a1 post   M15) ∧ (¬ ((mI M15 a1 2) = 0) → (((mI M15 a1 2) = 1) → lb_X7_readFrom_64  g M0 a0 a1 post bk11 x2 1 M15) ∧ (¬ ((mI M15 a1 2) = 1) → (((mI M15 a1 2) = 2) → lb_X7_readFrom_64  g M0 a0 a1 post bk11 x2 1 M15) ∧ (¬ ((mI M15 a1 2) = 2) → lb_X7_readFrom_64  g M0 a0 a1 post bk11 x2 0 M15))))))
set_option maxRecDepth 100000 in
def wp_X7_readFrom  (g : Gh) (M0 : Mem) (a0 : Nat) (a1 : Nat) (post : Int32 → Mem → Prop) : Prop :=
  okc (gB g) M0 a0 7 ∧ (∀ M20, M20 = uI M0 a0 1 0 → (wp_X10_rewind g M20 a1 (fun M23 => (∃ n : Nat, lfp (fun bk z => bd_X7_readFrom_11  g M0 a0 a1 post  bk z.1 z.2) n (0, M23)))))
set_option maxHeartbeats 4000000 in
set_option maxRecDepth 100000 in
theorem lt_X7_readFrom_64 {l : Launch} {g : Gh} {p : Program} {e : Env} {s : State} {m : MethodId} {args : Array Value} {below : List Frame} {meth : Method} {c : Code} {H : Heap} {locs : List Loc} {ls : Array Slot} {M0 M : Mem} {a0 : Nat} {a1 : Nat} {post : Int32 → Mem → Prop} {x2 : Int32} {s0 : Int32}  (C : Cx g p s m args c cX7_readFrom 4 RX7) (hr : meth.sig.returnType = (some .boolean)) (hlk : meth.locks = false) (hn : meth.name = "readFrom") (h0 : okc (gB g) M0 a0 7) {bk11 : Int32 × Mem → Prop} (hk11 : ∀ (x2 : Int32) (M : Mem) (H : Heap) (locs : List Loc) (ls : Array Slot), bk11 (x2, M) → Wd g s M0 M H locs → lv_has ls 4 [(0, .ref a0), (1, .ref a1), (2, .int x2)] → W p l e (rmo 9 0 0) s m args below meth c H locs 0 0 (MQ below (Cq g M0 (pI post)) args s 0 0 (gA g)) (F0 m 11 ls [])) (hq : lb_X7_readFrom_64  g M0 a0 a1 post bk11 x2 s0 M) (hw : Wd g s M0 M H locs) (hl : lv_has ls 4 [(0, .ref a0), (1, .ref a1), (2, .int x2)]) : W p l e (rmo 9 0 0) s m args below meth c H locs 0 0 (MQ below (Cq g M0 (pI post)) args s 0 0 (gA g)) (F0 m 64 ls [.int s0]) := by
  have hx := C.1.1
  have hb := C.1.2.1
  unfold lb_X7_readFrom_64 at hq
  refine lv_istore_n (lv' := [(3, .int s0), (0, .ref a0), (1, .ref a1), (2, .int x2)]) hx hb dX7_readFrom_64 rfl hl (by decide) rfl (fun ls hl => ?_)
  refine lv_iload_n hx hb dX7_readFrom_65 rfl (lv_at hl 0 rfl) ?_
  refine lv_if_eq (tgt := 78) hx hb dX7_readFrom_66 (by decide) (fun c1 => ?_) (fun c1 => ?_)
  · replace hq := hq.1 c1
    refine lv_iconst (v := 0) hx hb dX7_readFrom_78 (by decide) ?_
    exact r_zret C hr hlk hw dX7_readFrom_79 (Nat.le_refl _) (Nat.le_refl _) (by decide) ⟨_, rfl, hq⟩
  · replace hq := hq.2 c1
    refine lv_aload_n hx hb dX7_readFrom_69 rfl (lv_at hl 1 rfl) ?_
    refine gfX7_13 C hw hw.2.2.1 h0 dX7_readFrom_70 ?_
    refine lv_bipush (v := 20) hx hb dX7_readFrom_73 (by decide) ?_
    refine lv_icmp_lt (tgt := 80) hx hb dX7_readFrom_75 (by decide) (fun c2 => ?_) (fun c2 => ?_)
    · replace hq := hq.1 c2
      refine lv_aload_n hx hb dX7_readFrom_80 rfl (lv_at hl 1 rfl) ?_
      obtain ⟨q3, e4, hq⟩ := hq
      refine gfX7_9 C hw hw.2.2.1 h0 e4 dX7_readFrom_81 ?_
      refine lv_aload_n hx hb dX7_readFrom_84 rfl (lv_at hl 1 rfl) ?_
      refine gfX7_13 C hw hw.2.2.1 h0 dX7_readFrom_85 ?_
      refine lv_aload_n hx hb dX7_readFrom_88 rfl (lv_at hl 2 rfl) ?_
      obtain ⟨h5, hq⟩ := hq
      refine gfX7_47 C hw hw.2.2.1 h5 dX7_readFrom_89 ?_
      obtain ⟨h6, hq⟩ := hq
      obtain ⟨h7, hq⟩ := hq
      refine q_last C hw hw.2.2.1 h6 h7 dX7_readFrom_92 (fun H locs hw => ?_)
      generalize e9 : uJ M q3 (Int32.toNatClampNeg (mI M a0 1)) (mJ M a1 4) = M8 at hw
      replace hq := hq M8 e9.symm
      have e4 : mR M8 a0 0 = some q3 := by rw [← e9, mR_uJ]; exact e4
      refine lv_aload_n hx hb dX7_readFrom_93 rfl (lv_at hl 1 rfl) ?_
      refine lv_dup hx hb dX7_readFrom_94 rfl ?_
      refine gfX7_13 C hw hw.2.2.1 h0 dX7_readFrom_95 ?_
      refine lv_iconst (v := 1) hx hb dX7_readFrom_98 (by decide) ?_
      refine lv_iadd hx hb dX7_readFrom_99 ?_
      refine pfX7_13 C hw hw.2.2.1 h0 dX7_readFrom_100 (fun H locs hw => ?_)
      generalize e11 : uI M8 a0 1 ((mI M8 a0 1) + 1) = M10 at hw
      replace hq := hq M10 e11.symm
      have e4 : mR M10 a0 0 = some q3 := by rw [← e11, mR_uI]; exact e4
      refine lv_iinc (v := (x2 + 1)) (lv' := [(2, .int (x2 + 1)), (3, .int s0), (0, .ref a0), (1, .ref a1)]) hx hb dX7_readFrom_103 hl (k := 3) rfl rfl (by decide) rfl (fun ls hl => ?_)
      refine lv_goto (tgt := 11) hx hb dX7_readFrom_106 (by decide) ?_
      exact hk11 _ _ _ _ _ hq hw (lv_sub hl [2, 3, 0] rfl)
    · replace hq := hq.2 c2
      refine lv_iconst (v := 0) hx hb dX7_readFrom_78 (by decide) ?_
      exact r_zret C hr hlk hw dX7_readFrom_79 (Nat.le_refl _) (Nat.le_refl _) (by decide) ⟨_, rfl, hq⟩
set_option maxHeartbeats 4000000 in
set_option maxRecDepth 100000 in
theorem lt_X7_readFrom_30 {l : Launch} {g : Gh} {p : Program} {e : Env} {s : State} {m : MethodId} {args : Array Value} {below : List Frame} {meth : Method} {c : Code} {H : Heap} {locs : List Loc} {ls : Array Slot} {M0 M : Mem} {a0 : Nat} {a1 : Nat} {post : Int32 → Mem → Prop}    (C : Cx g p s m args c cX7_readFrom 4 RX7) (hr : meth.sig.returnType = (some .boolean)) (hlk : meth.locks = false) (hn : meth.name = "readFrom") (h0 : okc (gB g) M0 a0 7)  (hq : lb_X7_readFrom_30  g M0 a0 a1 post   M) (hw : Wd g s M0 M H locs) (hl : lv_has ls 4 [(0, .ref a0), (1, .ref a1)]) : W p l e (rmo 9 0 0) s m args below meth c H locs 0 0 (MQ below (Cq g M0 (pI post)) args s 0 0 (gA g)) (F0 m 30 ls []) := by
  have hx := C.1.1
  have hb := C.1.2.1
  unfold lb_X7_readFrom_30 at hq
  refine lv_aload_n hx hb dX7_readFrom_30 rfl (lv_at hl 0 rfl) ?_
  refine gfX7_13 C hw hw.2.2.1 h0 dX7_readFrom_31 ?_
  refine lv_if_le (tgt := 41) hx hb dX7_readFrom_34 (by decide) (fun c12 => ?_) (fun c12 => ?_)
  · replace hq := hq.1 c12
    refine lv_iconst (v := 0) hx hb dX7_readFrom_41 (by decide) ?_
    exact r_zret C hr hlk hw dX7_readFrom_42 (Nat.le_refl _) (Nat.le_refl _) (by decide) ⟨_, rfl, hq⟩
  · replace hq := hq.2 c12
    refine lv_iconst (v := 1) hx hb dX7_readFrom_37 (by decide) ?_
    refine lv_goto (tgt := 42) hx hb dX7_readFrom_38 (by decide) ?_
    exact r_zret C hr hlk hw dX7_readFrom_42 (Nat.le_refl _) (Nat.le_refl _) (by decide) ⟨_, rfl, hq⟩
set_option maxHeartbeats 4000000 in
set_option maxRecDepth 100000 in
theorem lp_X7_readFrom_11 {l : Launch} {g : Gh} {p : Program} {e : Env} {s : State} {m : MethodId} {args : Array Value} {below : List Frame} {meth : Method} {c : Code} {M0 : Mem} {a0 : Nat} {a1 : Nat} {post : Int32 → Mem → Prop}  (C : Cx g p s m args c cX7_readFrom 4 RX7) (hr : meth.sig.returnType = (some .boolean)) (hlk : meth.locks = false) (hn : meth.name = "readFrom") (h0 : okc (gB g) M0 a0 7)  : ∀ (nf : Nat) (x2 : Int32)  (M : Mem) (H : Heap) (locs : List Loc) (ls : Array Slot), lfp (fun bk z => bd_X7_readFrom_11  g M0 a0 a1 post  bk z.1 z.2) nf (x2, M) → Wd g s M0 M H locs → lv_has ls 4 [(0, .ref a0), (1, .ref a1), (2, .int x2)] → W p l e (rmo 9 0 0) s m args below meth c H locs 0 0 (MQ below (Cq g M0 (pI post)) args s 0 0 (gA g)) (F0 m 11 ls []) := by
  have hx := C.1.1
  have hb := C.1.2.1
  intro nf
  induction nf with
  | zero => intro _ _ H locs ls hq; exact hq.elim
  | succ nf hk11 =>
    intro x2 M H locs ls hq hw hl
    replace hq : bd_X7_readFrom_11  g M0 a0 a1 post  (lfp (fun bk z => bd_X7_readFrom_11  g M0 a0 a1 post  bk z.1 z.2) nf) x2 M := hq
    unfold bd_X7_readFrom_11 at hq
    refine lv_iload_n hx hb dX7_readFrom_11 rfl (lv_at hl 2 rfl) ?_
    refine lv_bipush (v := 20) hx hb dX7_readFrom_12 (by decide) ?_
    refine lv_icmp_gt (tgt := 109) hx hb dX7_readFrom_14 (by decide) (fun c13 => ?_) (fun c13 => ?_)
    · replace hq := hq.1 c13
      refine lv_iconst (v := 0) hx hb dX7_readFrom_109 (by decide) ?_
      exact r_zret C hr hlk hw dX7_readFrom_110 (Nat.le_refl _) (Nat.le_refl _) (by decide) ⟨_, rfl, hq⟩
    · replace hq := hq.2 c13
      refine lv_aload_n hx hb dX7_readFrom_17 rfl (lv_at hl 1 rfl) ?_
      refine va_ldcS hx hb C.1.2.2.2.1 (C.2.2.2.2.1.2.1 1 _ rfl) dX7_readFrom_18 ?_
      refine r_callV (T := TX10) (N := 6) (ci := 10) (index := 40) (n := 1) (d2 := 8) (mc := 0) (ms := 0) (As := [.ref (gK g 1)]) (rest := []) C hw (ct_X10_readNext hq) kvX7_40 hq.1 (by decide) rfl ⟨by decide, by decide⟩ ⟨by decide, by decide⟩ rfl hl.1 rfl (Nat.le_of_ble_eq_true rfl) dX7_readFrom_20 (fun r M15 H locs hp hle hw => ?_)
      obtain ⟨rfl, hq⟩ := hp
      refine W.eq (g2 := F0 m 23 ls []) rfl ?_
      refine lv_aload_n hx hb dX7_readFrom_23 rfl (lv_at hl 1 rfl) ?_
      obtain ⟨h16, hq⟩ := hq
      refine gfX7_44 C hw hw.2.2.1 h16 dX7_readFrom_24 ?_
      refine lv_if_ne (tgt := 43) hx hb dX7_readFrom_27 (by decide) (fun c17 => ?_) (fun c17 => ?_)
      · replace hq := hq.2 c17
        refine lv_aload_n hx hb dX7_readFrom_43 rfl (lv_at hl 1 rfl) ?_
        refine gfX7_44 C hw hw.2.2.1 h16 dX7_readFrom_44 ?_
        refine lv_iconst (v := 1) hx hb dX7_readFrom_47 (by decide) ?_
        refine lv_icmp_eq (tgt := 59) hx hb dX7_readFrom_48 (by decide) (fun c18 => ?_) (fun c18 => ?_)
        · replace hq := hq.1 c18
          refine lv_iconst (v := 1) hx hb dX7_readFrom_59 (by decide) ?_
          refine lv_goto (tgt := 64) hx hb dX7_readFrom_60 (by decide) ?_
          exact lt_X7_readFrom_64  C hr hlk hn h0 hk11 hq hw (lv_sub hl [0, 1, 2] rfl)
        · replace hq := hq.2 c18
          refine lv_aload_n hx hb dX7_readFrom_51 rfl (lv_at hl 1 rfl) ?_
          refine gfX7_44 C hw hw.2.2.1 h16 dX7_readFrom_52 ?_
          refine lv_iconst (v := 2) hx hb dX7_readFrom_55 (by decide) ?_
          refine lv_icmp_ne (tgt := 63) hx hb dX7_readFrom_56 (by decide) (fun c19 => ?_) (fun c19 => ?_)
          · replace hq := hq.2 c19
            refine lv_iconst (v := 0) hx hb dX7_readFrom_63 (by decide) ?_
            exact lt_X7_readFrom_64  C hr hlk hn h0 hk11 hq hw (lv_sub hl [0, 1, 2] rfl)
          · replace hq := hq.1 c19
            refine lv_iconst (v := 1) hx hb dX7_readFrom_59 (by decide) ?_
            refine lv_goto (tgt := 64) hx hb dX7_readFrom_60 (by decide) ?_
            exact lt_X7_readFrom_64  C hr hlk hn h0 hk11 hq hw (lv_sub hl [0, 1, 2] rfl)
      · replace hq := hq.1 c17
        exact lt_X7_readFrom_30  C hr hlk hn h0  hq hw (lv_sub hl [0, 1] rfl)
set_option maxHeartbeats 4000000 in
set_option maxRecDepth 100000 in
theorem ct_X7_readFrom {l : Launch} {g : Gh} {M0 : Mem} {a0 : Nat} {a1 : Nat} {post : Int32 → Mem → Prop}  (hq : wp_X7_readFrom  g M0 a0 a1 post) : Ct l g yX7_readFrom cX7_readFrom 4 (some .boolean) 9 0 0 [.ref a0, .ref a1] M0 (pI post) := by
  unfold wp_X7_readFrom at hq
  obtain ⟨h0, hq⟩ := hq
  refine Ct.of (by decide) (Nat.le_of_ble_eq_true rfl) ?_
  intro p e s m below meth c ls C hr hlk hn hl hw
  have hx := C.1.1
  have hb := C.1.2.1
  have hl : lv_has ls 4 [(0, .ref a0), (1, .ref a1)] := hl
  refine lv_aload_n hx hb dX7_readFrom_0 rfl (lv_at hl 0 rfl) ?_
  refine lv_iconst (v := 0) hx hb dX7_readFrom_1 (by decide) ?_
  refine pfX7_13 C hw hw.2.2.1 h0 dX7_readFrom_2 (fun H locs hw => ?_)
  generalize e21 : uI M0 a0 1 0 = M20 at hw
  replace hq := hq M20 e21.symm
  refine lv_aload_n hx hb dX7_readFrom_5 rfl (lv_at hl 1 rfl) ?_
  refine r_callV (T := TX10) (N := 6) (ci := 10) (index := 33) (n := 0) (d2 := 0) (mc := 0) (ms := 0) (As := []) (rest := []) C hw (ct_X10_rewind hq) kvX7_33 hq.1 (by decide) rfl ⟨by decide, by decide⟩ ⟨by decide, by decide⟩ rfl hl.1 rfl (Nat.le_of_ble_eq_true rfl) dX7_readFrom_6 (fun r M23 H locs hp hle hw => ?_)
  obtain ⟨rfl, hq⟩ := hp
  refine W.eq (g2 := F0 m 9 ls []) rfl ?_
  refine lv_iconst (v := 0) hx hb dX7_readFrom_9 (by decide) ?_
  refine lv_istore_n (lv' := [(2, .int 0), (0, .ref a0), (1, .ref a1)]) hx hb dX7_readFrom_10 rfl hl (by decide) rfl (fun ls hl => ?_)
  obtain ⟨nf, hq⟩ := hq
  exact lp_X7_readFrom_11  C hr hlk hn h0  nf _ _ _ _ _ hq hw (lv_sub hl [1, 2, 0] rfl)

set_option maxRecDepth 100000 in
def wp_X7_openFrame  (g : Gh) (M0 : Mem) (a0 : Nat) (post : Mem → Prop) : Prop :=
  okc (gB g) M0 a0 7 ∧ (∃ q1, mR M0 a0 2 = some q1 ∧ (okc (gB g) M0 q1 19 ∧ ((((nI (mN M0 q1)) ≤ ((mI M0 a0 3) + 1)) → post M0) ∧ (¬ ((nI (mN M0 q1)) ≤ ((mI M0 a0 3) + 1)) → ∀ M5, M5 = uI M0 a0 3 ((mI M0 a0 3) + 1) → (vp_in (mI M5 a0 3) (mN M0 q1) ∧ (∃ q8, mR M5 q1 (Int32.toNatClampNeg (mI M5 a0 3)) = some q8 ∧ (wp_X3_restart g M5 q8 (fun M11 => post M11))))))))
set_option maxHeartbeats 4000000 in
set_option maxRecDepth 100000 in
theorem ct_X7_openFrame {l : Launch} {g : Gh} {M0 : Mem} {a0 : Nat} {post : Mem → Prop}  (hq : wp_X7_openFrame  g M0 a0 post) : Ct l g yX7_openFrame cX7_openFrame 1 none 2 0 0 [.ref a0] M0 (pV post) := by
  unfold wp_X7_openFrame at hq
  obtain ⟨h0, hq⟩ := hq
  refine Ct.of (by decide) (Nat.le_of_ble_eq_true rfl) ?_
  intro p e s m below meth c ls C hr hlk hn hl hw
  have hx := C.1.1
  have hb := C.1.2.1
  have hl : lv_has ls 1 [(0, .ref a0)] := hl
  refine lv_aload_n hx hb dX7_openFrame_0 rfl (lv_at hl 0 rfl) ?_
  refine gfX7_26 C hw hw.2.2.1 h0 dX7_openFrame_1 ?_
  refine lv_iconst (v := 1) hx hb dX7_openFrame_4 (by decide) ?_
  refine lv_iadd hx hb dX7_openFrame_5 ?_
  refine lv_aload_n hx hb dX7_openFrame_6 rfl (lv_at hl 0 rfl) ?_
  obtain ⟨q1, e2, hq⟩ := hq
  refine gfX7_21 C hw hw.2.2.1 h0 e2 dX7_openFrame_7 ?_
  obtain ⟨h3, hq⟩ := hq
  refine q_alen C hw hw.2.2.1 h3 (by decide) (by decide) rfl dX7_openFrame_10 ?_
  refine lv_icmp_ge (tgt := 36) hx hb dX7_openFrame_11 (by decide) (fun c4 => ?_) (fun c4 => ?_)
  · replace hq := hq.1 c4
    exact r_vret C hr hlk hw dX7_openFrame_36 (Nat.le_refl _) (Nat.le_refl _) ⟨rfl, hq⟩
  · replace hq := hq.2 c4
    refine lv_aload_n hx hb dX7_openFrame_14 rfl (lv_at hl 0 rfl) ?_
    refine lv_dup hx hb dX7_openFrame_15 rfl ?_
    refine gfX7_26 C hw hw.2.2.1 h0 dX7_openFrame_16 ?_
    refine lv_iconst (v := 1) hx hb dX7_openFrame_19 (by decide) ?_
    refine lv_iadd hx hb dX7_openFrame_20 ?_
    refine pfX7_26 C hw hw.2.2.1 h0 dX7_openFrame_21 (fun H locs hw => ?_)
    generalize e6 : uI M0 a0 3 ((mI M0 a0 3) + 1) = M5 at hw
    replace hq := hq M5 e6.symm
    have e2 : mR M5 a0 2 = some q1 := by rw [← e6, mR_uI]; exact e2
    refine lv_aload_n hx hb dX7_openFrame_24 rfl (lv_at hl 0 rfl) ?_
    refine gfX7_21 C hw hw.2.2.1 h0 e2 dX7_openFrame_25 ?_
    refine lv_aload_n hx hb dX7_openFrame_28 rfl (lv_at hl 0 rfl) ?_
    refine gfX7_26 C hw hw.2.2.1 h0 dX7_openFrame_29 ?_
    obtain ⟨h7, hq⟩ := hq
    obtain ⟨q8, e9, hq⟩ := hq
    refine q_aald C hw hw.2.2.1 h3 (by decide) (by decide) rfl h7 e9 dX7_openFrame_32 ?_
    refine r_callV (T := TX3) (N := 5) (ci := 3) (index := 51) (n := 0) (d2 := 1) (mc := 0) (ms := 0) (As := []) (rest := []) C hw (ct_X3_restart hq) kvX7_51 hq.1 (by decide) rfl ⟨by decide, by decide⟩ ⟨by decide, by decide⟩ rfl hl.1 rfl (Nat.le_of_ble_eq_true rfl) dX7_openFrame_33 (fun r M11 H locs hp hle hw => ?_)
    obtain ⟨rfl, hq⟩ := hp
    refine W.eq (g2 := F0 m 36 ls []) rfl ?_
    exact r_vret C hr hlk hw dX7_openFrame_36 (Nat.le_refl _) (Nat.le_refl _) ⟨rfl, hq⟩

set_option maxRecDepth 100000 in
def wp_X7_endsOf  (g : Gh) (M0 : Mem) (a0 : Nat) (a1 : Nat) (p2 : Int32) (p3 : Int32) (post : Int32 → Mem → Prop) : Prop :=
  okc (gB g) M0 a0 7 ∧ ((((mI M0 a0 1) < p3) → post 0 M0) ∧ (¬ ((mI M0 a0 1) < p3) → okc (gB g) M0 a1 3 ∧ (∃ q3, mR M0 a1 1 = some q3 ∧ (okc (gB g) M0 q3 14 ∧ (((p3 < (nI (mN M0 q3))) → ((p2 = 125) → wp_X3_endsInAnyOrder g M0 a1 p3 (fun v11 M12 => post v11 M12)) ∧ (¬ (p2 = 125) → ((p2 = 93) → vp_in p3 (mN M0 q3) ∧ (post ((mI M0 q3 (Int32.toNatClampNeg p3)) ||| (1 <<< (p3 &&& 31))) M0)) ∧ (¬ (p2 = 93) → vp_in p3 (mN M0 q3) ∧ (post (mI M0 q3 (Int32.toNatClampNeg p3)) M0)))) ∧ (¬ (p3 < (nI (mN M0 q3))) → post 0 M0))))))
set_option maxHeartbeats 4000000 in
set_option maxRecDepth 100000 in
theorem ct_X7_endsOf {l : Launch} {g : Gh} {M0 : Mem} {a0 : Nat} {a1 : Nat} {p2 : Int32} {p3 : Int32} {post : Int32 → Mem → Prop}  (hq : wp_X7_endsOf  g M0 a0 a1 p2 p3 post) : Ct l g yX7_endsOf cX7_endsOf 4 (some .int) 2 0 0 [.ref a0, .ref a1, .int p2, .int p3] M0 (pI post) := by
  unfold wp_X7_endsOf at hq
  obtain ⟨h0, hq⟩ := hq
  refine Ct.of (by decide) (Nat.le_of_ble_eq_true rfl) ?_
  intro p e s m below meth c ls C hr hlk hn hl hw
  have hx := C.1.1
  have hb := C.1.2.1
  have hl : lv_has ls 4 [(0, .ref a0), (1, .ref a1), (2, .int p2), (3, .int p3)] := hl
  refine lv_iload_n hx hb dX7_endsOf_0 rfl (lv_at hl 3 rfl) ?_
  refine lv_aload_n hx hb dX7_endsOf_1 rfl (lv_at hl 0 rfl) ?_
  refine gfX7_13 C hw hw.2.2.1 h0 dX7_endsOf_2 ?_
  refine lv_icmp_gt (tgt := 17) hx hb dX7_endsOf_5 (by decide) (fun c1 => ?_) (fun c1 => ?_)
  · replace hq := hq.1 c1
    refine lv_iconst (v := 0) hx hb dX7_endsOf_17 (by decide) ?_
    exact r_iret C hr hlk hw dX7_endsOf_18 (Nat.le_refl _) (Nat.le_refl _) ⟨_, rfl, hq⟩
  · replace hq := hq.2 c1
    refine lv_iload_n hx hb dX7_endsOf_8 rfl (lv_at hl 3 rfl) ?_
    refine lv_aload_n hx hb dX7_endsOf_9 rfl (lv_at hl 1 rfl) ?_
    obtain ⟨h2, hq⟩ := hq
    obtain ⟨q3, e4, hq⟩ := hq
    refine gfX7_77 C hw hw.2.2.1 h2 e4 dX7_endsOf_10 ?_
    obtain ⟨h5, hq⟩ := hq
    refine q_alen C hw hw.2.2.1 h5 (by decide) (by decide) rfl dX7_endsOf_13 ?_
    refine lv_icmp_lt (tgt := 19) hx hb dX7_endsOf_14 (by decide) (fun c6 => ?_) (fun c6 => ?_)
    · replace hq := hq.1 c6
      refine lv_iload_n hx hb dX7_endsOf_19 rfl (lv_at hl 2 rfl) ?_
      refine lv_bipush (v := 125) hx hb dX7_endsOf_20 (by decide) ?_
      refine lv_icmp_ne (tgt := 31) hx hb dX7_endsOf_22 (by decide) (fun c7 => ?_) (fun c7 => ?_)
      · replace hq := hq.2 c7
        refine lv_iload_n hx hb dX7_endsOf_31 rfl (lv_at hl 2 rfl) ?_
        refine lv_bipush (v := 93) hx hb dX7_endsOf_32 (by decide) ?_
        refine lv_icmp_ne (tgt := 50) hx hb dX7_endsOf_34 (by decide) (fun c8 => ?_) (fun c8 => ?_)
        · replace hq := hq.2 c8
          refine lv_aload_n hx hb dX7_endsOf_50 rfl (lv_at hl 1 rfl) ?_
          refine gfX7_77 C hw hw.2.2.1 h2 e4 dX7_endsOf_51 ?_
          refine lv_iload_n hx hb dX7_endsOf_54 rfl (lv_at hl 3 rfl) ?_
          obtain ⟨h9, hq⟩ := hq
          refine q_iald C hw hw.2.2.1 h5 h9 dX7_endsOf_55 ?_
          exact r_iret C hr hlk hw dX7_endsOf_56 (Nat.le_refl _) (Nat.le_refl _) ⟨_, rfl, hq⟩
        · replace hq := hq.1 c8
          refine lv_aload_n hx hb dX7_endsOf_37 rfl (lv_at hl 1 rfl) ?_
          refine gfX7_77 C hw hw.2.2.1 h2 e4 dX7_endsOf_38 ?_
          refine lv_iload_n hx hb dX7_endsOf_41 rfl (lv_at hl 3 rfl) ?_
          obtain ⟨h10, hq⟩ := hq
          refine q_iald C hw hw.2.2.1 h5 h10 dX7_endsOf_42 ?_
          refine lv_iconst (v := 1) hx hb dX7_endsOf_43 (by decide) ?_
          refine lv_iload_n hx hb dX7_endsOf_44 rfl (lv_at hl 3 rfl) ?_
          refine lv_ishl hx hb dX7_endsOf_45 ?_
          refine lv_ior hx hb dX7_endsOf_46 ?_
          refine lv_goto (tgt := 56) hx hb dX7_endsOf_47 (by decide) ?_
          exact r_iret C hr hlk hw dX7_endsOf_56 (Nat.le_refl _) (Nat.le_refl _) ⟨_, rfl, hq⟩
      · replace hq := hq.1 c7
        refine lv_aload_n hx hb dX7_endsOf_25 rfl (lv_at hl 1 rfl) ?_
        refine lv_iload_n hx hb dX7_endsOf_26 rfl (lv_at hl 3 rfl) ?_
        refine r_callV (T := TX3) (N := 5) (ci := 3) (index := 105) (n := 1) (d2 := 1) (mc := 0) (ms := 0) (As := [.int p3]) (rest := []) C hw (ct_X3_endsInAnyOrder hq) kvX7_105 hq.1 (by decide) rfl ⟨by decide, by decide⟩ ⟨by decide, by decide⟩ rfl hl.1 rfl (Nat.le_of_ble_eq_true rfl) dX7_endsOf_27 (fun r M12 H locs hp hle hw => ?_)
        obtain ⟨v11, rfl, hq⟩ := hp
        refine W.eq (g2 := F0 m 30 ls [.int v11]) rfl ?_
        exact r_iret C hr hlk hw dX7_endsOf_30 (Nat.le_refl _) (Nat.le_refl _) ⟨_, rfl, hq⟩
    · replace hq := hq.2 c6
      refine lv_iconst (v := 0) hx hb dX7_endsOf_17 (by decide) ?_
      exact r_iret C hr hlk hw dX7_endsOf_18 (Nat.le_refl _) (Nat.le_refl _) ⟨_, rfl, hq⟩
