set_option maxRecDepth 100000 in
def wp_X12_feed  (g : Gh) (M0 : Mem) (a0 : Nat) (p1 : Int32) (p2 : Int32) (p3 : Int32) (p4 : Int32) (p5 : Int32) (post : Int32 → Mem → Prop) : Prop :=
  okc (gB g) M0 a0 12 ∧ (∀ M1, M1 = uI M0 a0 0 0 → (((((mI M1 a0 2) + 20) ≤ 260) → wp_X12_come g M1 a0 p1 (fun M5 => wp_X12_come g M5 a0 p2 (fun M7 => wp_X12_come g M7 a0 p3 (fun M9 => wp_X12_come g M9 a0 p4 (fun M11 => wp_X12_come g M11 a0 p5 (fun M13 => post (mI M13 a0 2) M13)))))) ∧ (¬ (((mI M1 a0 2) + 20) ≤ 260) → post (-1) M1)))
set_option maxHeartbeats 4000000 in
set_option maxRecDepth 100000 in
theorem ct_X12_feed {l : Launch} {g : Gh} {M0 : Mem} {a0 : Nat} {p1 : Int32} {p2 : Int32} {p3 : Int32} {p4 : Int32} {p5 : Int32} {post : Int32 → Mem → Prop}  (hq : wp_X12_feed  g M0 a0 p1 p2 p3 p4 p5 post) : Ct l g yX12_feed cX12_feed 6 (some .int) 1 0 0 [.ref a0, .int p1, .int p2, .int p3, .int p4, .int p5] M0 (pI post) := by
  unfold wp_X12_feed at hq
  obtain ⟨h0, hq⟩ := hq
  refine Ct.of (by decide) (Nat.le_of_ble_eq_true rfl) ?_
  intro p e s m below meth c ls C hr hlk hn hl hw
  have hx := C.1.1
  have hb := C.1.2.1
  have hl : lv_has ls 6 [(0, .ref a0), (1, .int p1), (2, .int p2), (3, .int p3), (4, .int p4), (5, .int p5)] := hl
  refine lv_aload_n hx hb dX12_feed_0 rfl (lv_at hl 0 rfl) ?_
  refine lv_iconst (v := 0) hx hb dX12_feed_1 (by decide) ?_
  refine pfX12_123 C hw hw.2.2.1 h0 dX12_feed_2 (fun H locs hw => ?_)
  generalize e2 : uI M0 a0 0 0 = M1 at hw
  replace hq := hq M1 e2.symm
  refine lv_aload_n hx hb dX12_feed_5 rfl (lv_at hl 0 rfl) ?_
  refine gfX12_127 C hw hw.2.2.1 h0 dX12_feed_6 ?_
  refine lv_bipush (v := 20) hx hb dX12_feed_9 (by decide) ?_
  refine lv_iadd hx hb dX12_feed_11 ?_
  refine lv_sipush (v := 260) hx hb dX12_feed_12 (by decide) ?_
  refine lv_icmp_le (tgt := 20) hx hb dX12_feed_15 (by decide) (fun c3 => ?_) (fun c3 => ?_)
  · replace hq := hq.1 c3
    refine lv_aload_n hx hb dX12_feed_20 rfl (lv_at hl 0 rfl) ?_
    refine lv_iload_n hx hb dX12_feed_21 rfl (lv_at hl 1 rfl) ?_
    refine r_callV (T := TX12) (N := 67) (ci := 12) (index := 130) (n := 1) (d2 := 0) (mc := 0) (ms := 0) (As := [.int p1]) (rest := []) C hw (ct_X12_come hq) kvX12_130 hq.1 (by decide) rfl ⟨by decide, by decide⟩ ⟨by decide, by decide⟩ rfl hl.1 rfl (Nat.le_of_ble_eq_true rfl) dX12_feed_22 (fun r M5 H locs hp hle hw => ?_)
    obtain ⟨rfl, hq⟩ := hp
    refine W.eq (g2 := F0 m 25 ls []) rfl ?_
    refine lv_aload_n hx hb dX12_feed_25 rfl (lv_at hl 0 rfl) ?_
    refine lv_iload_n hx hb dX12_feed_26 rfl (lv_at hl 2 rfl) ?_
    refine r_callV (T := TX12) (N := 67) (ci := 12) (index := 130) (n := 1) (d2 := 0) (mc := 0) (ms := 0) (As := [.int p2]) (rest := []) C hw (ct_X12_come hq) kvX12_130 hq.1 (by decide) rfl ⟨by decide, by decide⟩ ⟨by decide, by decide⟩ rfl hl.1 rfl (Nat.le_of_ble_eq_true rfl) dX12_feed_27 (fun r M7 H locs hp hle hw => ?_)
    obtain ⟨rfl, hq⟩ := hp
    refine W.eq (g2 := F0 m 30 ls []) rfl ?_
    refine lv_aload_n hx hb dX12_feed_30 rfl (lv_at hl 0 rfl) ?_
    refine lv_iload_n hx hb dX12_feed_31 rfl (lv_at hl 3 rfl) ?_
    refine r_callV (T := TX12) (N := 67) (ci := 12) (index := 130) (n := 1) (d2 := 0) (mc := 0) (ms := 0) (As := [.int p3]) (rest := []) C hw (ct_X12_come hq) kvX12_130 hq.1 (by decide) rfl ⟨by decide, by decide⟩ ⟨by decide, by decide⟩ rfl hl.1 rfl (Nat.le_of_ble_eq_true rfl) dX12_feed_32 (fun r M9 H locs hp hle hw => ?_)
    obtain ⟨rfl, hq⟩ := hp
    refine W.eq (g2 := F0 m 35 ls []) rfl ?_
    refine lv_aload_n hx hb dX12_feed_35 rfl (lv_at hl 0 rfl) ?_
    refine lv_iload hx hb dX12_feed_36 (lv_at hl 4 rfl) ?_
    refine r_callV (T := TX12) (N := 67) (ci := 12) (index := 130) (n := 1) (d2 := 0) (mc := 0) (ms := 0) (As := [.int p4]) (rest := []) C hw (ct_X12_come hq) kvX12_130 hq.1 (by decide) rfl ⟨by decide, by decide⟩ ⟨by decide, by decide⟩ rfl hl.1 rfl (Nat.le_of_ble_eq_true rfl) dX12_feed_38 (fun r M11 H locs hp hle hw => ?_)
    obtain ⟨rfl, hq⟩ := hp
    refine W.eq (g2 := F0 m 41 ls []) rfl ?_
    refine lv_aload_n hx hb dX12_feed_41 rfl (lv_at hl 0 rfl) ?_
    refine lv_iload hx hb dX12_feed_42 (lv_at hl 5 rfl) ?_
    refine r_callV (T := TX12) (N := 67) (ci := 12) (index := 130) (n := 1) (d2 := 0) (mc := 0) (ms := 0) (As := [.int p5]) (rest := []) C hw (ct_X12_come hq) kvX12_130 hq.1 (by decide) rfl ⟨by decide, by decide⟩ ⟨by decide, by decide⟩ rfl hl.1 rfl (Nat.le_of_ble_eq_true rfl) dX12_feed_44 (fun r M13 H locs hp hle hw => ?_)
    obtain ⟨rfl, hq⟩ := hp
    refine W.eq (g2 := F0 m 47 ls []) rfl ?_
    refine lv_aload_n hx hb dX12_feed_47 rfl (lv_at hl 0 rfl) ?_
    refine gfX12_127 C hw hw.2.2.1 h0 dX12_feed_48 ?_
    exact r_iret C hr hlk hw dX12_feed_51 (Nat.le_refl _) (Nat.le_refl _) ⟨_, rfl, hq⟩
  · replace hq := hq.2 c3
    refine lv_iconst (v := (-1)) hx hb dX12_feed_18 (by decide) ?_
    exact r_iret C hr hlk hw dX12_feed_19 (Nat.le_refl _) (Nat.le_refl _) ⟨_, rfl, hq⟩

set_option maxRecDepth 100000 in
def wp_X12_end  (g : Gh) (M0 : Mem) (a0 : Nat) (p1 : Int32) (post : Int32 → Mem → Prop) : Prop :=
  okc (gB g) M0 a0 12 ∧ (∀ M1, M1 = uI M0 a0 0 0 → (((p1 < 0) → post 0 M1) ∧ (¬ (p1 < 0) → ((p1 ≤ (mI M1 a0 2)) → ∀ M5, M5 = uI M1 a0 2 p1 → (post 1 M5)) ∧ (¬ (p1 ≤ (mI M1 a0 2)) → post 0 M1))))
set_option maxHeartbeats 4000000 in
set_option maxRecDepth 100000 in
theorem ct_X12_end {l : Launch} {g : Gh} {M0 : Mem} {a0 : Nat} {p1 : Int32} {post : Int32 → Mem → Prop}  (hq : wp_X12_end  g M0 a0 p1 post) : Ct l g yX12_end cX12_end 2 (some .boolean) 0 0 0 [.ref a0, .int p1] M0 (pI post) := by
  unfold wp_X12_end at hq
  obtain ⟨h0, hq⟩ := hq
  refine Ct.of (by decide) (Nat.le_of_ble_eq_true rfl) ?_
  intro p e s m below meth c ls C hr hlk hn hl hw
  have hx := C.1.1
  have hb := C.1.2.1
  have hl : lv_has ls 2 [(0, .ref a0), (1, .int p1)] := hl
  refine lv_aload_n hx hb dX12_end_0 rfl (lv_at hl 0 rfl) ?_
  refine lv_iconst (v := 0) hx hb dX12_end_1 (by decide) ?_
  refine pfX12_123 C hw hw.2.2.1 h0 dX12_end_2 (fun H locs hw => ?_)
  generalize e2 : uI M0 a0 0 0 = M1 at hw
  replace hq := hq M1 e2.symm
  refine lv_iload_n hx hb dX12_end_5 rfl (lv_at hl 1 rfl) ?_
  refine lv_if_lt (tgt := 17) hx hb dX12_end_6 (by decide) (fun c3 => ?_) (fun c3 => ?_)
  · replace hq := hq.1 c3
    refine lv_iconst (v := 0) hx hb dX12_end_17 (by decide) ?_
    exact r_zret C hr hlk hw dX12_end_18 (Nat.le_refl _) (Nat.le_refl _) (by decide) ⟨_, rfl, hq⟩
  · replace hq := hq.2 c3
    refine lv_iload_n hx hb dX12_end_9 rfl (lv_at hl 1 rfl) ?_
    refine lv_aload_n hx hb dX12_end_10 rfl (lv_at hl 0 rfl) ?_
    refine gfX12_127 C hw hw.2.2.1 h0 dX12_end_11 ?_
    refine lv_icmp_le (tgt := 19) hx hb dX12_end_14 (by decide) (fun c4 => ?_) (fun c4 => ?_)
    · replace hq := hq.1 c4
      refine lv_aload_n hx hb dX12_end_19 rfl (lv_at hl 0 rfl) ?_
      refine lv_iload_n hx hb dX12_end_20 rfl (lv_at hl 1 rfl) ?_
      refine pfX12_127 C hw hw.2.2.1 h0 dX12_end_21 (fun H locs hw => ?_)
      generalize e6 : uI M1 a0 2 p1 = M5 at hw
      replace hq := hq M5 e6.symm
      refine lv_iconst (v := 1) hx hb dX12_end_24 (by decide) ?_
      exact r_zret C hr hlk hw dX12_end_25 (Nat.le_refl _) (Nat.le_refl _) (by decide) ⟨_, rfl, hq⟩
    · replace hq := hq.2 c4
      refine lv_iconst (v := 0) hx hb dX12_end_17 (by decide) ?_
      exact r_zret C hr hlk hw dX12_end_18 (Nat.le_refl _) (Nat.le_refl _) (by decide) ⟨_, rfl, hq⟩

set_option maxRecDepth 100000 in
def wp_X12_at  (g : Gh) (M0 : Mem) (a0 : Nat) (p1 : Int32) (post : Int32 → Mem → Prop) : Prop :=
  okc (gB g) M0 a0 12 ∧ ((((mI M0 a0 3) ≤ p1) → post 0 M0) ∧ (¬ ((mI M0 a0 3) ≤ p1) → ∃ q2, mR M0 a0 1 = some q2 ∧ (okc (gB g) M0 q2 14 ∧ (vp_in p1 (mN M0 q2) ∧ (post (mI M0 q2 (Int32.toNatClampNeg p1)) M0)))))
set_option maxHeartbeats 4000000 in
set_option maxRecDepth 100000 in
theorem ct_X12_at {l : Launch} {g : Gh} {M0 : Mem} {a0 : Nat} {p1 : Int32} {post : Int32 → Mem → Prop}  (hq : wp_X12_at  g M0 a0 p1 post) : Ct l g yX12_at cX12_at 2 (some .int) 0 0 0 [.ref a0, .int p1] M0 (pI post) := by
  unfold wp_X12_at at hq
  obtain ⟨h0, hq⟩ := hq
  refine Ct.of (by decide) (Nat.le_of_ble_eq_true rfl) ?_
  intro p e s m below meth c ls C hr hlk hn hl hw
  have hx := C.1.1
  have hb := C.1.2.1
  have hl : lv_has ls 2 [(0, .ref a0), (1, .int p1)] := hl
  refine lv_iload_n hx hb dX12_at_0 rfl (lv_at hl 1 rfl) ?_
  refine lv_aload_n hx hb dX12_at_1 rfl (lv_at hl 0 rfl) ?_
  refine gfX12_134 C hw hw.2.2.1 h0 dX12_at_2 ?_
  refine lv_icmp_ge (tgt := 17) hx hb dX12_at_5 (by decide) (fun c1 => ?_) (fun c1 => ?_)
  · replace hq := hq.1 c1
    refine lv_iconst (v := 0) hx hb dX12_at_17 (by decide) ?_
    exact r_iret C hr hlk hw dX12_at_18 (Nat.le_refl _) (Nat.le_refl _) ⟨_, rfl, hq⟩
  · replace hq := hq.2 c1
    refine lv_aload_n hx hb dX12_at_8 rfl (lv_at hl 0 rfl) ?_
    obtain ⟨q2, e3, hq⟩ := hq
    refine gfX12_7 C hw hw.2.2.1 h0 e3 dX12_at_9 ?_
    refine lv_iload_n hx hb dX12_at_12 rfl (lv_at hl 1 rfl) ?_
    obtain ⟨h4, hq⟩ := hq
    obtain ⟨h5, hq⟩ := hq
    refine q_iald C hw hw.2.2.1 h4 h5 dX12_at_13 ?_
    refine lv_goto (tgt := 18) hx hb dX12_at_14 (by decide) ?_
    exact r_iret C hr hlk hw dX12_at_18 (Nat.le_refl _) (Nat.le_refl _) ⟨_, rfl, hq⟩

set_option maxRecDepth 100000 in
def wp_X12_isDigit  (g : Gh) (M0 : Mem) (p0 : Int32) (post : Int32 → Mem → Prop) : Prop :=
  ((p0 < 48) → post 0 M0) ∧ (¬ (p0 < 48) → ((57 < p0) → post 0 M0) ∧ (¬ (57 < p0) → post 1 M0))
set_option maxHeartbeats 4000000 in
set_option maxRecDepth 100000 in
theorem ct_X12_isDigit {l : Launch} {g : Gh} {M0 : Mem} {p0 : Int32} {post : Int32 → Mem → Prop}  (hq : wp_X12_isDigit  g M0 p0 post) : Ct l g yX12_isDigit cX12_isDigit 1 (some .boolean) 0 0 0 [.int p0] M0 (pI post) := by
  unfold wp_X12_isDigit at hq
  refine Ct.of (by decide) (Nat.le_of_ble_eq_true rfl) ?_
  intro p e s m below meth c ls C hr hlk hn hl hw
  have hx := C.1.1
  have hb := C.1.2.1
  have hl : lv_has ls 1 [(0, .int p0)] := hl
  refine lv_iload_n hx hb dX12_isDigit_0 rfl (lv_at hl 0 rfl) ?_
  refine lv_bipush (v := 48) hx hb dX12_isDigit_1 (by decide) ?_
  refine lv_icmp_lt (tgt := 16) hx hb dX12_isDigit_3 (by decide) (fun c1 => ?_) (fun c1 => ?_)
  · replace hq := hq.1 c1
    refine lv_iconst (v := 0) hx hb dX12_isDigit_16 (by decide) ?_
    exact r_zret C hr hlk hw dX12_isDigit_17 (Nat.le_refl _) (Nat.le_refl _) (by decide) ⟨_, rfl, hq⟩
  · replace hq := hq.2 c1
    refine lv_iload_n hx hb dX12_isDigit_6 rfl (lv_at hl 0 rfl) ?_
    refine lv_bipush (v := 57) hx hb dX12_isDigit_7 (by decide) ?_
    refine lv_icmp_gt (tgt := 16) hx hb dX12_isDigit_9 (by decide) (fun c2 => ?_) (fun c2 => ?_)
    · replace hq := hq.1 c2
      refine lv_iconst (v := 0) hx hb dX12_isDigit_16 (by decide) ?_
      exact r_zret C hr hlk hw dX12_isDigit_17 (Nat.le_refl _) (Nat.le_refl _) (by decide) ⟨_, rfl, hq⟩
    · replace hq := hq.2 c2
      refine lv_iconst (v := 1) hx hb dX12_isDigit_12 (by decide) ?_
      refine lv_goto (tgt := 17) hx hb dX12_isDigit_13 (by decide) ?_
      exact r_zret C hr hlk hw dX12_isDigit_17 (Nat.le_refl _) (Nat.le_refl _) (by decide) ⟨_, rfl, hq⟩

set_option maxRecDepth 100000 in
def wp_X12_isLetter  (g : Gh) (M0 : Mem) (p0 : Int32) (post : Int32 → Mem → Prop) : Prop :=
  ((p0 < 97) → post 0 M0) ∧ (¬ (p0 < 97) → ((122 < p0) → post 0 M0) ∧ (¬ (122 < p0) → post 1 M0))
set_option maxHeartbeats 4000000 in
set_option maxRecDepth 100000 in
theorem ct_X12_isLetter {l : Launch} {g : Gh} {M0 : Mem} {p0 : Int32} {post : Int32 → Mem → Prop}  (hq : wp_X12_isLetter  g M0 p0 post) : Ct l g yX12_isLetter cX12_isLetter 1 (some .boolean) 0 0 0 [.int p0] M0 (pI post) := by
  unfold wp_X12_isLetter at hq
  refine Ct.of (by decide) (Nat.le_of_ble_eq_true rfl) ?_
  intro p e s m below meth c ls C hr hlk hn hl hw
  have hx := C.1.1
  have hb := C.1.2.1
  have hl : lv_has ls 1 [(0, .int p0)] := hl
  refine lv_iload_n hx hb dX12_isLetter_0 rfl (lv_at hl 0 rfl) ?_
  refine lv_bipush (v := 97) hx hb dX12_isLetter_1 (by decide) ?_
  refine lv_icmp_lt (tgt := 16) hx hb dX12_isLetter_3 (by decide) (fun c1 => ?_) (fun c1 => ?_)
  · replace hq := hq.1 c1
    refine lv_iconst (v := 0) hx hb dX12_isLetter_16 (by decide) ?_
    exact r_zret C hr hlk hw dX12_isLetter_17 (Nat.le_refl _) (Nat.le_refl _) (by decide) ⟨_, rfl, hq⟩
  · replace hq := hq.2 c1
    refine lv_iload_n hx hb dX12_isLetter_6 rfl (lv_at hl 0 rfl) ?_
    refine lv_bipush (v := 122) hx hb dX12_isLetter_7 (by decide) ?_
    refine lv_icmp_gt (tgt := 16) hx hb dX12_isLetter_9 (by decide) (fun c2 => ?_) (fun c2 => ?_)
    · replace hq := hq.1 c2
      refine lv_iconst (v := 0) hx hb dX12_isLetter_16 (by decide) ?_
      exact r_zret C hr hlk hw dX12_isLetter_17 (Nat.le_refl _) (Nat.le_refl _) (by decide) ⟨_, rfl, hq⟩
    · replace hq := hq.2 c2
      refine lv_iconst (v := 1) hx hb dX12_isLetter_12 (by decide) ?_
      refine lv_goto (tgt := 17) hx hb dX12_isLetter_13 (by decide) ?_
      exact r_zret C hr hlk hw dX12_isLetter_17 (Nat.le_refl _) (Nat.le_refl _) (by decide) ⟨_, rfl, hq⟩

set_option maxRecDepth 100000 in
def lb_X12_readWord_169  (g : Gh) (M0 : Mem) (a0 : Nat) (post : Mem → Prop)  (x1 : Int32) (s0 : Nat) (s1 : Int32) (s2 : Int32) (M : Mem) : Prop :=
  ((s1 ≤ s2) → ((x1 = 0) → okc (gB g) M0 s0 12 ∧ (∀ M4, M4 = uI M s0 6 3 → (post M4))) ∧ (¬ (x1 = 0) → okc (gB g) M0 s0 12 ∧ (∀ M7, M7 = uI M s0 6 2 → (post M7)))) ∧ (¬ (s1 ≤ s2) → okc (gB g) M0 s0 12 ∧ (∀ M10, M10 = uI M s0 6 1 → (post M10)))
set_option maxRecDepth 100000 in
def lb_X12_readWord_144  (g : Gh) (M0 : Mem) (a0 : Nat) (post : Mem → Prop)  (x1 : Int32) (x2 : Int32)  (M : Mem) : Prop :=
  ((x2 = 0) → ∀ M13, M13 = uI M a0 6 1 → (post M13)) ∧ (¬ (x2 = 0) → ((x1 = 0) → lb_X12_readWord_169  g M0 a0 post  x1 a0 ((mI M a0 4) - (mI M a0 5)) 6 M) ∧ (¬ (x1 = 0) → lb_X12_readWord_169  g M0 a0 post  x1 a0 ((mI M a0 4) - (mI M a0 5)) 12 M))
set_option maxRecDepth 100000 in
def lb_X12_readWord_128  (g : Gh) (M0 : Mem) (a0 : Nat) (post : Mem → Prop) (bk20 : Int32 × Int32 × Mem → Prop) (x1 : Int32) (x2 : Int32) (s0 : Nat) (s1 : Int64) (M : Mem) : Prop :=
  okc (gB g) M0 s0 12 ∧ (∀ M17, M17 = uJ M s0 8 s1 → (∀ M19, M19 = uI M17 a0 4 ((mI M17 a0 4) + 1) → (bk20 (x1, x2, M19))))
set_option maxRecDepth 100000 in
def lb_X12_readWord_75  (g : Gh) (M0 : Mem) (a0 : Nat) (post : Mem → Prop) (bk20 : Int32 × Int32 × Mem → Prop) (x1 : Int32) (x3 : Int32) (s0 : Int32) (M : Mem) : Prop :=
  ((12 ≤ ((mI M a0 4) - (mI M a0 5))) → ∀ M22, M22 = uI M a0 4 ((mI M a0 4) + 1) → (bk20 (x1, s0, M22))) ∧ (¬ (12 ≤ ((mI M a0 4) - (mI M a0 5))) → ((x1 = 0) → lb_X12_readWord_128  g M0 a0 post bk20 x1 s0 a0 (((10 * (mJ M a0 8)) + (Int32.toInt64 x3)) - 48) M) ∧ (¬ (x1 = 0) → lb_X12_readWord_128  g M0 a0 post bk20 x1 s0 a0 (((27 * (mJ M a0 8)) + (Int32.toInt64 x3)) - 96) M))
set_option maxRecDepth 100000 in
def lb_X12_readWord_48  (g : Gh) (M0 : Mem) (a0 : Nat) (post : Mem → Prop) (bk20 : Int32 × Int32 × Mem → Prop) (x1 : Int32) (x2 : Int32)  (M : Mem) : Prop :=
  ∃ q25, mR M a0 1 = some q25 ∧ (okc (gB g) M0 q25 14 ∧ (vp_in (mI M a0 4) (mN M0 q25) ∧ (((x2 = 0) → lb_X12_readWord_75  g M0 a0 post bk20 x1 (mI M q25 (Int32.toNatClampNeg (mI M a0 4))) 0 M) ∧ (¬ (x2 = 0) → wp_X12_isLetter g M (mI M q25 (Int32.toNatClampNeg (mI M a0 4))) (fun v30 M31 => ((v30 = x1) → lb_X12_readWord_75  g M0 a0 post bk20 x1 (mI M q25 (Int32.toNatClampNeg (mI M a0 4))) 1 M31) ∧ (¬ (v30 = x1) → lb_X12_readWord_75  g M0 a0 post bk20 x1 (mI M q25 (Int32.toNatClampNeg (mI M a0 4))) 0 M31))))))
set_option maxRecDepth 100000 in
def bd_X12_readWord_20  (g : Gh) (M0 : Mem) (a0 : Nat) (post : Mem → Prop)  (bk20 : Int32 × Int32 × Mem → Prop) (x1 : Int32) (x2 : Int32)  (M : Mem) : Prop :=
  wp_X12_at g M a0 (mI M a0 4) (fun v33 M34 => wp_X12_isLetter g M34 v33 (fun v35 M36 => ((v35 = 0) → wp_X12_at g M36 a0 (mI M36 a0 4) (fun v38 M39 => wp_X12_isDigit g M39 v38 (fun v40 M41 => ((v40 = 0) → lb_X12_readWord_144  g M0 a0 post  x1 x2 M41) ∧ (¬ (v40 = 0) → lb_X12_readWord_48  g M0 a0 post bk20 x1 x2 M41)))) ∧ (¬ (v35 = 0) → lb_X12_readWord_48  g M0 a0 post bk20 x1 x2 M36)))
set_option maxRecDepth 100000 in
def wp_X12_readWord  (g : Gh) (M0 : Mem) (a0 : Nat) (post : Mem → Prop) : Prop :=
  okc (gB g) M0 a0 12 ∧ (∃ q43, mR M0 a0 1 = some q43 ∧ (okc (gB g) M0 q43 14 ∧ (vp_in (mI M0 a0 4) (mN M0 q43) ∧ (wp_X12_isLetter g M0 (mI M0 q43 (Int32.toNatClampNeg (mI M0 a0 4))) (fun v47 M48 => ∀ M49, M49 = uJ M48 a0 8 0 → ((∃ n : Nat, lfp (fun bk z => bd_X12_readWord_20  g M0 a0 post  bk z.1 z.2.1 z.2.2) n (v47, 1, M49))))))))
set_option maxHeartbeats 4000000 in
set_option maxRecDepth 100000 in
theorem lt_X12_readWord_169 {l : Launch} {g : Gh} {p : Program} {e : Env} {s : State} {m : MethodId} {args : Array Value} {below : List Frame} {meth : Method} {c : Code} {H : Heap} {locs : List Loc} {ls : Array Slot} {M0 M : Mem} {a0 : Nat} {post : Mem → Prop} {x1 : Int32} {s0 : Nat} {s1 : Int32} {s2 : Int32}  (C : Cx g p s m args c cX12_readWord 4 RX12) (hr : meth.sig.returnType = none) (hlk : meth.locks = false) (hn : meth.name = "readWord") (h0 : okc (gB g) M0 a0 12)  (hq : lb_X12_readWord_169  g M0 a0 post  x1 s0 s1 s2 M) (hw : Wd g s M0 M H locs) (hl : lv_has ls 4 [(0, .ref a0), (1, .int x1)]) : W p l e (rmo 1 0 0) s m args below meth c H locs 0 0 (MQ below (Cq g M0 (pV post)) args s 0 0 (gA g)) (F0 m 169 ls [.int s2, .int s1, .ref s0]) := by
  have hx := C.1.1
  have hb := C.1.2.1
  unfold lb_X12_readWord_169 at hq
  refine lv_icmp_le (tgt := 176) hx hb dX12_readWord_169 (by decide) (fun c1 => ?_) (fun c1 => ?_)
  · replace hq := hq.1 c1
    refine lv_iload_n hx hb dX12_readWord_176 rfl (lv_at hl 1 rfl) ?_
    refine lv_if_eq (tgt := 184) hx hb dX12_readWord_177 (by decide) (fun c2 => ?_) (fun c2 => ?_)
    · replace hq := hq.1 c2
      refine lv_iconst (v := 3) hx hb dX12_readWord_184 (by decide) ?_
      obtain ⟨h3, hq⟩ := hq
      refine pfX12_143 C hw hw.2.2.1 h3 dX12_readWord_185 (fun H locs hw => ?_)
      generalize e5 : uI M s0 6 3 = M4 at hw
      replace hq := hq M4 e5.symm
      exact r_vret C hr hlk hw dX12_readWord_188 (Nat.le_refl _) (Nat.le_refl _) ⟨rfl, hq⟩
    · replace hq := hq.2 c2
      refine lv_iconst (v := 2) hx hb dX12_readWord_180 (by decide) ?_
      refine lv_goto (tgt := 185) hx hb dX12_readWord_181 (by decide) ?_
      obtain ⟨h6, hq⟩ := hq
      refine pfX12_143 C hw hw.2.2.1 h6 dX12_readWord_185 (fun H locs hw => ?_)
      generalize e8 : uI M s0 6 2 = M7 at hw
      replace hq := hq M7 e8.symm
      exact r_vret C hr hlk hw dX12_readWord_188 (Nat.le_refl _) (Nat.le_refl _) ⟨rfl, hq⟩
  · replace hq := hq.2 c1
    refine lv_iconst (v := 1) hx hb dX12_readWord_172 (by decide) ?_
    refine lv_goto (tgt := 185) hx hb dX12_readWord_173 (by decide) ?_
    obtain ⟨h9, hq⟩ := hq
    refine pfX12_143 C hw hw.2.2.1 h9 dX12_readWord_185 (fun H locs hw => ?_)
    generalize e11 : uI M s0 6 1 = M10 at hw
    replace hq := hq M10 e11.symm
    exact r_vret C hr hlk hw dX12_readWord_188 (Nat.le_refl _) (Nat.le_refl _) ⟨rfl, hq⟩
set_option maxHeartbeats 4000000 in
set_option maxRecDepth 100000 in
theorem lt_X12_readWord_144 {l : Launch} {g : Gh} {p : Program} {e : Env} {s : State} {m : MethodId} {args : Array Value} {below : List Frame} {meth : Method} {c : Code} {H : Heap} {locs : List Loc} {ls : Array Slot} {M0 M : Mem} {a0 : Nat} {post : Mem → Prop} {x1 : Int32} {x2 : Int32}   (C : Cx g p s m args c cX12_readWord 4 RX12) (hr : meth.sig.returnType = none) (hlk : meth.locks = false) (hn : meth.name = "readWord") (h0 : okc (gB g) M0 a0 12)  (hq : lb_X12_readWord_144  g M0 a0 post  x1 x2 M) (hw : Wd g s M0 M H locs) (hl : lv_has ls 4 [(0, .ref a0), (1, .int x1), (2, .int x2)]) : W p l e (rmo 1 0 0) s m args below meth c H locs 0 0 (MQ below (Cq g M0 (pV post)) args s 0 0 (gA g)) (F0 m 144 ls []) := by
  have hx := C.1.1
  have hb := C.1.2.1
  unfold lb_X12_readWord_144 at hq
  refine lv_aload_n hx hb dX12_readWord_144 rfl (lv_at hl 0 rfl) ?_
  refine lv_iload_n hx hb dX12_readWord_145 rfl (lv_at hl 2 rfl) ?_
  refine lv_if_eq (tgt := 172) hx hb dX12_readWord_146 (by decide) (fun c12 => ?_) (fun c12 => ?_)
  · replace hq := hq.1 c12
    refine lv_iconst (v := 1) hx hb dX12_readWord_172 (by decide) ?_
    refine lv_goto (tgt := 185) hx hb dX12_readWord_173 (by decide) ?_
    refine pfX12_143 C hw hw.2.2.1 h0 dX12_readWord_185 (fun H locs hw => ?_)
    generalize e14 : uI M a0 6 1 = M13 at hw
    replace hq := hq M13 e14.symm
    exact r_vret C hr hlk hw dX12_readWord_188 (Nat.le_refl _) (Nat.le_refl _) ⟨rfl, hq⟩
  · replace hq := hq.2 c12
    refine lv_aload_n hx hb dX12_readWord_149 rfl (lv_at hl 0 rfl) ?_
    refine gfX12_137 C hw hw.2.2.1 h0 dX12_readWord_150 ?_
    refine lv_aload_n hx hb dX12_readWord_153 rfl (lv_at hl 0 rfl) ?_
    refine gfX12_140 C hw hw.2.2.1 h0 dX12_readWord_154 ?_
    refine lv_isub hx hb dX12_readWord_157 ?_
    refine lv_iload_n hx hb dX12_readWord_158 rfl (lv_at hl 1 rfl) ?_
    refine lv_if_eq (tgt := 167) hx hb dX12_readWord_159 (by decide) (fun c15 => ?_) (fun c15 => ?_)
    · replace hq := hq.1 c15
      refine lv_bipush (v := 6) hx hb dX12_readWord_167 (by decide) ?_
      exact lt_X12_readWord_169  C hr hlk hn h0  hq hw (lv_sub hl [0, 1] rfl)
    · replace hq := hq.2 c15
      refine lv_bipush (v := 12) hx hb dX12_readWord_162 (by decide) ?_
      refine lv_goto (tgt := 169) hx hb dX12_readWord_164 (by decide) ?_
      exact lt_X12_readWord_169  C hr hlk hn h0  hq hw (lv_sub hl [0, 1] rfl)
set_option maxHeartbeats 4000000 in
set_option maxRecDepth 100000 in
theorem lt_X12_readWord_128 {l : Launch} {g : Gh} {p : Program} {e : Env} {s : State} {m : MethodId} {args : Array Value} {below : List Frame} {meth : Method} {c : Code} {H : Heap} {locs : List Loc} {ls : Array Slot} {M0 M : Mem} {a0 : Nat} {post : Mem → Prop} {x1 : Int32} {x2 : Int32} {s0 : Nat} {s1 : Int64}  (C : Cx g p s m args c cX12_readWord 4 RX12) (hr : meth.sig.returnType = none) (hlk : meth.locks = false) (hn : meth.name = "readWord") (h0 : okc (gB g) M0 a0 12) {bk20 : Int32 × Int32 × Mem → Prop} (hk20 : ∀ (x1 : Int32) (x2 : Int32) (M : Mem) (H : Heap) (locs : List Loc) (ls : Array Slot), bk20 (x1, x2, M) → Wd g s M0 M H locs → lv_has ls 4 [(0, .ref a0), (1, .int x1), (2, .int x2)] → W p l e (rmo 1 0 0) s m args below meth c H locs 0 0 (MQ below (Cq g M0 (pV post)) args s 0 0 (gA g)) (F0 m 20 ls [])) (hq : lb_X12_readWord_128  g M0 a0 post bk20 x1 x2 s0 s1 M) (hw : Wd g s M0 M H locs) (hl : lv_has ls 4 [(0, .ref a0), (1, .int x1), (2, .int x2)]) : W p l e (rmo 1 0 0) s m args below meth c H locs 0 0 (MQ below (Cq g M0 (pV post)) args s 0 0 (gA g)) (F0 m 128 ls [.long s1, .ref s0]) := by
  have hx := C.1.1
  have hb := C.1.2.1
  unfold lb_X12_readWord_128 at hq
  obtain ⟨h16, hq⟩ := hq
  refine pfX12_163 C hw hw.2.2.1 h16 dX12_readWord_128 (fun H locs hw => ?_)
  generalize e18 : uJ M s0 8 s1 = M17 at hw
  replace hq := hq M17 e18.symm
  refine lv_aload_n hx hb dX12_readWord_131 rfl (lv_at hl 0 rfl) ?_
  refine lv_dup hx hb dX12_readWord_132 rfl ?_
  refine gfX12_137 C hw hw.2.2.1 h0 dX12_readWord_133 ?_
  refine lv_iconst (v := 1) hx hb dX12_readWord_136 (by decide) ?_
  refine lv_iadd hx hb dX12_readWord_137 ?_
  refine pfX12_137 C hw hw.2.2.1 h0 dX12_readWord_138 (fun H locs hw => ?_)
  generalize e20 : uI M17 a0 4 ((mI M17 a0 4) + 1) = M19 at hw
  replace hq := hq M19 e20.symm
  refine lv_goto (tgt := 20) hx hb dX12_readWord_141 (by decide) ?_
  exact hk20 _ _ _ _ _ _ hq hw (lv_sub hl [0, 1, 2] rfl)
set_option maxHeartbeats 4000000 in
set_option maxRecDepth 100000 in
theorem lt_X12_readWord_75 {l : Launch} {g : Gh} {p : Program} {e : Env} {s : State} {m : MethodId} {args : Array Value} {below : List Frame} {meth : Method} {c : Code} {H : Heap} {locs : List Loc} {ls : Array Slot} {M0 M : Mem} {a0 : Nat} {post : Mem → Prop} {x1 : Int32} {x3 : Int32} {s0 : Int32}  (C : Cx g p s m args c cX12_readWord 4 RX12) (hr : meth.sig.returnType = none) (hlk : meth.locks = false) (hn : meth.name = "readWord") (h0 : okc (gB g) M0 a0 12) {bk20 : Int32 × Int32 × Mem → Prop} (hk20 : ∀ (x1 : Int32) (x2 : Int32) (M : Mem) (H : Heap) (locs : List Loc) (ls : Array Slot), bk20 (x1, x2, M) → Wd g s M0 M H locs → lv_has ls 4 [(0, .ref a0), (1, .int x1), (2, .int x2)] → W p l e (rmo 1 0 0) s m args below meth c H locs 0 0 (MQ below (Cq g M0 (pV post)) args s 0 0 (gA g)) (F0 m 20 ls [])) (hq : lb_X12_readWord_75  g M0 a0 post bk20 x1 x3 s0 M) (hw : Wd g s M0 M H locs) (hl : lv_has ls 4 [(0, .ref a0), (1, .int x1), (3, .int x3)]) : W p l e (rmo 1 0 0) s m args below meth c H locs 0 0 (MQ below (Cq g M0 (pV post)) args s 0 0 (gA g)) (F0 m 75 ls [.int s0]) := by
  have hx := C.1.1
  have hb := C.1.2.1
  unfold lb_X12_readWord_75 at hq
  refine lv_istore_n (lv' := [(2, .int s0), (0, .ref a0), (1, .int x1), (3, .int x3)]) hx hb dX12_readWord_75 rfl hl (by decide) rfl (fun ls hl => ?_)
  refine lv_aload_n hx hb dX12_readWord_76 rfl (lv_at hl 1 rfl) ?_
  refine gfX12_137 C hw hw.2.2.1 h0 dX12_readWord_77 ?_
  refine lv_aload_n hx hb dX12_readWord_80 rfl (lv_at hl 1 rfl) ?_
  refine gfX12_140 C hw hw.2.2.1 h0 dX12_readWord_81 ?_
  refine lv_isub hx hb dX12_readWord_84 ?_
  refine lv_bipush (v := 12) hx hb dX12_readWord_85 (by decide) ?_
  refine lv_icmp_ge (tgt := 131) hx hb dX12_readWord_87 (by decide) (fun c21 => ?_) (fun c21 => ?_)
  · replace hq := hq.1 c21
    refine lv_aload_n hx hb dX12_readWord_131 rfl (lv_at hl 1 rfl) ?_
    refine lv_dup hx hb dX12_readWord_132 rfl ?_
    refine gfX12_137 C hw hw.2.2.1 h0 dX12_readWord_133 ?_
    refine lv_iconst (v := 1) hx hb dX12_readWord_136 (by decide) ?_
    refine lv_iadd hx hb dX12_readWord_137 ?_
    refine pfX12_137 C hw hw.2.2.1 h0 dX12_readWord_138 (fun H locs hw => ?_)
    generalize e23 : uI M a0 4 ((mI M a0 4) + 1) = M22 at hw
    replace hq := hq M22 e23.symm
    refine lv_goto (tgt := 20) hx hb dX12_readWord_141 (by decide) ?_
    exact hk20 _ _ _ _ _ _ hq hw (lv_sub hl [1, 2, 0] rfl)
  · replace hq := hq.2 c21
    refine lv_aload_n hx hb dX12_readWord_90 rfl (lv_at hl 1 rfl) ?_
    refine lv_iload_n hx hb dX12_readWord_91 rfl (lv_at hl 2 rfl) ?_
    refine lv_if_eq (tgt := 113) hx hb dX12_readWord_92 (by decide) (fun c24 => ?_) (fun c24 => ?_)
    · replace hq := hq.1 c24
      refine lv_ldc2 (v := 10) hx hb C.1.2.2.2.1 (C.1.2.2.2.2 _ w_1395) dX12_readWord_113 ?_
      refine lv_aload_n hx hb dX12_readWord_116 rfl (lv_at hl 1 rfl) ?_
      refine gfX12_163 C hw hw.2.2.1 h0 dX12_readWord_117 ?_
      refine lv_lmul hx hb dX12_readWord_120 ?_
      refine lv_iload_n hx hb dX12_readWord_121 rfl (lv_at hl 3 rfl) ?_
      refine lv_i2l (v := (Int32.toInt64 x3)) hx hb dX12_readWord_122 rfl ?_
      refine lv_ladd hx hb dX12_readWord_123 ?_
      refine lv_ldc2 (v := 48) hx hb C.1.2.2.2.1 (C.1.2.2.2.2 _ w_1396) dX12_readWord_124 ?_
      refine lv_lsub hx hb dX12_readWord_127 ?_
      exact lt_X12_readWord_128  C hr hlk hn h0 hk20 hq hw (lv_sub hl [1, 2, 0] rfl)
    · replace hq := hq.2 c24
      refine lv_ldc2 (v := 27) hx hb C.1.2.2.2.1 (C.1.2.2.2.2 _ w_1393) dX12_readWord_95 ?_
      refine lv_aload_n hx hb dX12_readWord_98 rfl (lv_at hl 1 rfl) ?_
      refine gfX12_163 C hw hw.2.2.1 h0 dX12_readWord_99 ?_
      refine lv_lmul hx hb dX12_readWord_102 ?_
      refine lv_iload_n hx hb dX12_readWord_103 rfl (lv_at hl 3 rfl) ?_
      refine lv_i2l (v := (Int32.toInt64 x3)) hx hb dX12_readWord_104 rfl ?_
      refine lv_ladd hx hb dX12_readWord_105 ?_
      refine lv_ldc2 (v := 96) hx hb C.1.2.2.2.1 (C.1.2.2.2.2 _ w_1394) dX12_readWord_106 ?_
      refine lv_lsub hx hb dX12_readWord_109 ?_
      refine lv_goto (tgt := 128) hx hb dX12_readWord_110 (by decide) ?_
      exact lt_X12_readWord_128  C hr hlk hn h0 hk20 hq hw (lv_sub hl [1, 2, 0] rfl)
set_option maxHeartbeats 4000000 in
set_option maxRecDepth 100000 in
theorem lt_X12_readWord_48 {l : Launch} {g : Gh} {p : Program} {e : Env} {s : State} {m : MethodId} {args : Array Value} {below : List Frame} {meth : Method} {c : Code} {H : Heap} {locs : List Loc} {ls : Array Slot} {M0 M : Mem} {a0 : Nat} {post : Mem → Prop} {x1 : Int32} {x2 : Int32}   (C : Cx g p s m args c cX12_readWord 4 RX12) (hr : meth.sig.returnType = none) (hlk : meth.locks = false) (hn : meth.name = "readWord") (h0 : okc (gB g) M0 a0 12) {bk20 : Int32 × Int32 × Mem → Prop} (hk20 : ∀ (x1 : Int32) (x2 : Int32) (M : Mem) (H : Heap) (locs : List Loc) (ls : Array Slot), bk20 (x1, x2, M) → Wd g s M0 M H locs → lv_has ls 4 [(0, .ref a0), (1, .int x1), (2, .int x2)] → W p l e (rmo 1 0 0) s m args below meth c H locs 0 0 (MQ below (Cq g M0 (pV post)) args s 0 0 (gA g)) (F0 m 20 ls [])) (hq : lb_X12_readWord_48  g M0 a0 post bk20 x1 x2 M) (hw : Wd g s M0 M H locs) (hl : lv_has ls 4 [(0, .ref a0), (1, .int x1), (2, .int x2)]) : W p l e (rmo 1 0 0) s m args below meth c H locs 0 0 (MQ below (Cq g M0 (pV post)) args s 0 0 (gA g)) (F0 m 48 ls []) := by
  have hx := C.1.1
  have hb := C.1.2.1
  unfold lb_X12_readWord_48 at hq
  refine lv_aload_n hx hb dX12_readWord_48 rfl (lv_at hl 0 rfl) ?_
  obtain ⟨q25, e26, hq⟩ := hq
  refine gfX12_7 C hw hw.2.2.1 h0 e26 dX12_readWord_49 ?_
  refine lv_aload_n hx hb dX12_readWord_52 rfl (lv_at hl 0 rfl) ?_
  refine gfX12_137 C hw hw.2.2.1 h0 dX12_readWord_53 ?_
  obtain ⟨h27, hq⟩ := hq
  obtain ⟨h28, hq⟩ := hq
  refine q_iald C hw hw.2.2.1 h27 h28 dX12_readWord_56 ?_
  refine lv_istore_n (lv' := [(3, .int (mI M q25 (Int32.toNatClampNeg (mI M a0 4)))), (0, .ref a0), (1, .int x1), (2, .int x2)]) hx hb dX12_readWord_57 rfl hl (by decide) rfl (fun ls hl => ?_)
  refine lv_iload_n hx hb dX12_readWord_58 rfl (lv_at hl 3 rfl) ?_
  refine lv_if_eq (tgt := 74) hx hb dX12_readWord_59 (by decide) (fun c29 => ?_) (fun c29 => ?_)
  · replace hq := hq.1 c29
    refine lv_iconst (v := 0) hx hb dX12_readWord_74 (by decide) ?_
    exact lt_X12_readWord_75  C hr hlk hn h0 hk20 hq hw (lv_sub hl [1, 2, 0] rfl)
  · replace hq := hq.2 c29
    refine lv_iload_n hx hb dX12_readWord_62 rfl (lv_at hl 0 rfl) ?_
    refine r_callS (index := 146) (n := 1) (d2 := 0) (mc := 0) (ms := 0) (As := [.int (mI M q25 (Int32.toNatClampNeg (mI M a0 4)))]) (rest := []) C hw (ct_X12_isLetter hq) ksX12_146 ⟨by decide, by decide⟩ ⟨by decide, by decide⟩ rfl hl.1 rfl (Nat.le_of_ble_eq_true rfl) dX12_readWord_63 (fun r M31 H locs hp hle hw => ?_)
    obtain ⟨v30, rfl, hq⟩ := hp
    refine W.eq (g2 := F0 m 66 ls [.int v30]) rfl ?_
    refine lv_iload_n hx hb dX12_readWord_66 rfl (lv_at hl 2 rfl) ?_
    refine lv_icmp_ne (tgt := 74) hx hb dX12_readWord_67 (by decide) (fun c32 => ?_) (fun c32 => ?_)
    · replace hq := hq.2 c32
      refine lv_iconst (v := 0) hx hb dX12_readWord_74 (by decide) ?_
      exact lt_X12_readWord_75  C hr hlk hn h0 hk20 hq hw (lv_sub hl [1, 2, 0] rfl)
    · replace hq := hq.1 c32
      refine lv_iconst (v := 1) hx hb dX12_readWord_70 (by decide) ?_
      refine lv_goto (tgt := 75) hx hb dX12_readWord_71 (by decide) ?_
      exact lt_X12_readWord_75  C hr hlk hn h0 hk20 hq hw (lv_sub hl [1, 2, 0] rfl)
set_option maxHeartbeats 4000000 in
set_option maxRecDepth 100000 in
theorem lp_X12_readWord_20 {l : Launch} {g : Gh} {p : Program} {e : Env} {s : State} {m : MethodId} {args : Array Value} {below : List Frame} {meth : Method} {c : Code} {M0 : Mem} {a0 : Nat} {post : Mem → Prop}  (C : Cx g p s m args c cX12_readWord 4 RX12) (hr : meth.sig.returnType = none) (hlk : meth.locks = false) (hn : meth.name = "readWord") (h0 : okc (gB g) M0 a0 12)  : ∀ (nf : Nat) (x1 : Int32) (x2 : Int32)  (M : Mem) (H : Heap) (locs : List Loc) (ls : Array Slot), lfp (fun bk z => bd_X12_readWord_20  g M0 a0 post  bk z.1 z.2.1 z.2.2) nf (x1, x2, M) → Wd g s M0 M H locs → lv_has ls 4 [(0, .ref a0), (1, .int x1), (2, .int x2)] → W p l e (rmo 1 0 0) s m args below meth c H locs 0 0 (MQ below (Cq g M0 (pV post)) args s 0 0 (gA g)) (F0 m 20 ls []) := by
  have hx := C.1.1
  have hb := C.1.2.1
  intro nf
  induction nf with
  | zero => intro _ _ _ H locs ls hq; exact hq.elim
  | succ nf hk20 =>
    intro x1 x2 M H locs ls hq hw hl
    replace hq : bd_X12_readWord_20  g M0 a0 post  (lfp (fun bk z => bd_X12_readWord_20  g M0 a0 post  bk z.1 z.2.1 z.2.2) nf) x1 x2 M := hq
    unfold bd_X12_readWord_20 at hq
    refine lv_aload_n hx hb dX12_readWord_20 rfl (lv_at hl 0 rfl) ?_
    refine lv_aload_n hx hb dX12_readWord_21 rfl (lv_at hl 0 rfl) ?_
    refine gfX12_137 C hw hw.2.2.1 h0 dX12_readWord_22 ?_
    refine r_callV (T := TX12) (N := 67) (ci := 12) (index := 159) (n := 1) (d2 := 0) (mc := 0) (ms := 0) (As := [.int (mI M a0 4)]) (rest := []) C hw (ct_X12_at hq) kvX12_159 hq.1 (by decide) rfl ⟨by decide, by decide⟩ ⟨by decide, by decide⟩ rfl hl.1 rfl (Nat.le_of_ble_eq_true rfl) dX12_readWord_25 (fun r M34 H locs hp hle hw => ?_)
    obtain ⟨v33, rfl, hq⟩ := hp
    refine W.eq (g2 := F0 m 28 ls [.int v33]) rfl ?_
    refine r_callS (index := 146) (n := 1) (d2 := 0) (mc := 0) (ms := 0) (As := [.int v33]) (rest := []) C hw (ct_X12_isLetter hq) ksX12_146 ⟨by decide, by decide⟩ ⟨by decide, by decide⟩ rfl hl.1 rfl (Nat.le_of_ble_eq_true rfl) dX12_readWord_28 (fun r M36 H locs hp hle hw => ?_)
    obtain ⟨v35, rfl, hq⟩ := hp
    refine W.eq (g2 := F0 m 31 ls [.int v35]) rfl ?_
    refine lv_if_ne (tgt := 48) hx hb dX12_readWord_31 (by decide) (fun c37 => ?_) (fun c37 => ?_)
    · replace hq := hq.2 c37
      exact lt_X12_readWord_48  C hr hlk hn h0 hk20 hq hw (lv_sub hl [0, 1, 2] rfl)
    · replace hq := hq.1 c37
      refine lv_aload_n hx hb dX12_readWord_34 rfl (lv_at hl 0 rfl) ?_
      refine lv_aload_n hx hb dX12_readWord_35 rfl (lv_at hl 0 rfl) ?_
      refine gfX12_137 C hw hw.2.2.1 h0 dX12_readWord_36 ?_
      refine r_callV (T := TX12) (N := 67) (ci := 12) (index := 159) (n := 1) (d2 := 0) (mc := 0) (ms := 0) (As := [.int (mI M36 a0 4)]) (rest := []) C hw (ct_X12_at hq) kvX12_159 hq.1 (by decide) rfl ⟨by decide, by decide⟩ ⟨by decide, by decide⟩ rfl hl.1 rfl (Nat.le_of_ble_eq_true rfl) dX12_readWord_39 (fun r M39 H locs hp hle hw => ?_)
      obtain ⟨v38, rfl, hq⟩ := hp
      refine W.eq (g2 := F0 m 42 ls [.int v38]) rfl ?_
      refine r_callS (index := 150) (n := 1) (d2 := 0) (mc := 0) (ms := 0) (As := [.int v38]) (rest := []) C hw (ct_X12_isDigit hq) ksX12_150 ⟨by decide, by decide⟩ ⟨by decide, by decide⟩ rfl hl.1 rfl (Nat.le_of_ble_eq_true rfl) dX12_readWord_42 (fun r M41 H locs hp hle hw => ?_)
      obtain ⟨v40, rfl, hq⟩ := hp
      refine W.eq (g2 := F0 m 45 ls [.int v40]) rfl ?_
      refine lv_if_eq (tgt := 144) hx hb dX12_readWord_45 (by decide) (fun c42 => ?_) (fun c42 => ?_)
      · replace hq := hq.1 c42
        exact lt_X12_readWord_144  C hr hlk hn h0  hq hw (lv_sub hl [0, 1, 2] rfl)
      · replace hq := hq.2 c42
        exact lt_X12_readWord_48  C hr hlk hn h0 hk20 hq hw (lv_sub hl [0, 1, 2] rfl)
set_option maxHeartbeats 4000000 in
set_option maxRecDepth 100000 in
theorem ct_X12_readWord {l : Launch} {g : Gh} {M0 : Mem} {a0 : Nat} {post : Mem → Prop}  (hq : wp_X12_readWord  g M0 a0 post) : Ct l g yX12_readWord cX12_readWord 4 none 1 0 0 [.ref a0] M0 (pV post) := by
  unfold wp_X12_readWord at hq
  obtain ⟨h0, hq⟩ := hq
  refine Ct.of (by decide) (Nat.le_of_ble_eq_true rfl) ?_
  intro p e s m below meth c ls C hr hlk hn hl hw
  have hx := C.1.1
  have hb := C.1.2.1
  have hl : lv_has ls 4 [(0, .ref a0)] := hl
  refine lv_aload_n hx hb dX12_readWord_0 rfl (lv_at hl 0 rfl) ?_
  obtain ⟨q43, e44, hq⟩ := hq
  refine gfX12_7 C hw hw.2.2.1 h0 e44 dX12_readWord_1 ?_
  refine lv_aload_n hx hb dX12_readWord_4 rfl (lv_at hl 0 rfl) ?_
  refine gfX12_137 C hw hw.2.2.1 h0 dX12_readWord_5 ?_
  obtain ⟨h45, hq⟩ := hq
  obtain ⟨h46, hq⟩ := hq
  refine q_iald C hw hw.2.2.1 h45 h46 dX12_readWord_8 ?_
  refine r_callS (index := 146) (n := 1) (d2 := 0) (mc := 0) (ms := 0) (As := [.int (mI M0 q43 (Int32.toNatClampNeg (mI M0 a0 4)))]) (rest := []) C hw (ct_X12_isLetter hq) ksX12_146 ⟨by decide, by decide⟩ ⟨by decide, by decide⟩ rfl hl.1 rfl (Nat.le_of_ble_eq_true rfl) dX12_readWord_9 (fun r M48 H locs hp hle hw => ?_)
  obtain ⟨v47, rfl, hq⟩ := hp
  refine W.eq (g2 := F0 m 12 ls [.int v47]) rfl ?_
  refine lv_istore_n (lv' := [(1, .int v47), (0, .ref a0)]) hx hb dX12_readWord_12 rfl hl (by decide) rfl (fun ls hl => ?_)
  refine lv_iconst (v := 1) hx hb dX12_readWord_13 (by decide) ?_
  refine lv_istore_n (lv' := [(2, .int 1), (1, .int v47), (0, .ref a0)]) hx hb dX12_readWord_14 rfl hl (by decide) rfl (fun ls hl => ?_)
  refine lv_aload_n hx hb dX12_readWord_15 rfl (lv_at hl 2 rfl) ?_
  refine lv_lconst (v := 0) hx hb dX12_readWord_16 (by decide) ?_
  refine pfX12_163 C hw hw.2.2.1 h0 dX12_readWord_17 (fun H locs hw => ?_)
  generalize e50 : uJ M48 a0 8 0 = M49 at hw
  replace hq := hq M49 e50.symm
  obtain ⟨nf, hq⟩ := hq
  exact lp_X12_readWord_20  C hr hlk hn h0  nf _ _ _ _ _ _ hq hw (lv_sub hl [2, 1, 0] rfl)
