set_option maxRecDepth 100000 in
def wp_X11_table  (g : Gh) (M0 : Mem) (a0 : Nat) (p1 : Int32) (p2 : Int32) (post : Int32 → Mem → Prop) : Prop :=
  okc (gB g) M0 a0 11 ∧ (∃ q1, mR M0 a0 10 = some q1 ∧ (wp_X5_teamAt g M0 q1 p1 (fun v3 M4 => wp_X11_isTeam g M4 v3 (fun v5 M6 => ((v5 = 0) → post (-1) M6) ∧ (¬ (v5 = 0) → ∃ q8, mR M6 a0 10 = some q8 ∧ (wp_X5_tell g M6 q8 v3 p2 (fun v10 M11 => post v10 M11)))))))
set_option maxHeartbeats 4000000 in
set_option maxRecDepth 100000 in
theorem ct_X11_table {l : Launch} {g : Gh} {M0 : Mem} {a0 : Nat} {p1 : Int32} {p2 : Int32} {post : Int32 → Mem → Prop}  (hq : wp_X11_table  g M0 a0 p1 p2 post) : Ct l g yX11_table cX11_table 4 (some .int) 4 0 0 [.ref a0, .int p1, .int p2] M0 (pI post) := by
  unfold wp_X11_table at hq
  obtain ⟨h0, hq⟩ := hq
  refine Ct.of (by decide) (Nat.le_of_ble_eq_true rfl) ?_
  intro p e s m below meth c ls C hr hlk hn hl hw
  have hx := C.1.1
  have hb := C.1.2.1
  have hl : lv_has ls 4 [(0, .ref a0), (1, .int p1), (2, .int p2)] := hl
  refine lv_aload_n hx hb dX11_table_0 rfl (lv_at hl 0 rfl) ?_
  obtain ⟨q1, e2, hq⟩ := hq
  refine gfX11_72 C hw hw.2.2.1 h0 e2 dX11_table_1 ?_
  refine lv_iload_n hx hb dX11_table_4 rfl (lv_at hl 1 rfl) ?_
  refine r_callV (T := TX5) (N := 5) (ci := 5) (index := 245) (n := 1) (d2 := 3) (mc := 0) (ms := 0) (As := [.int p1]) (rest := []) C hw (ct_X5_teamAt hq) kvX11_245 hq.1 (by decide) rfl ⟨by decide, by decide⟩ ⟨by decide, by decide⟩ rfl hl.1 rfl (Nat.le_of_ble_eq_true rfl) dX11_table_5 (fun r M4 H locs hp hle hw => ?_)
  obtain ⟨v3, rfl, hq⟩ := hp
  refine W.eq (g2 := F0 m 8 ls [.int v3]) rfl ?_
  refine lv_istore_n (lv' := [(3, .int v3), (0, .ref a0), (1, .int p1), (2, .int p2)]) hx hb dX11_table_8 rfl hl (by decide) rfl (fun ls hl => ?_)
  refine lv_iload_n hx hb dX11_table_9 rfl (lv_at hl 0 rfl) ?_
  refine r_callS (index := 143) (n := 1) (d2 := 0) (mc := 0) (ms := 0) (As := [.int v3]) (rest := []) C hw (ct_X11_isTeam hq) ksX11_143 ⟨by decide, by decide⟩ ⟨by decide, by decide⟩ rfl hl.1 rfl (Nat.le_of_ble_eq_true rfl) dX11_table_10 (fun r M6 H locs hp hle hw => ?_)
  obtain ⟨v5, rfl, hq⟩ := hp
  refine W.eq (g2 := F0 m 13 ls [.int v5]) rfl ?_
  refine lv_if_eq (tgt := 28) hx hb dX11_table_13 (by decide) (fun c7 => ?_) (fun c7 => ?_)
  · replace hq := hq.1 c7
    refine lv_iconst (v := (-1)) hx hb dX11_table_28 (by decide) ?_
    exact r_iret C hr hlk hw dX11_table_29 (Nat.le_refl _) (Nat.le_refl _) ⟨_, rfl, hq⟩
  · replace hq := hq.2 c7
    refine lv_aload_n hx hb dX11_table_16 rfl (lv_at hl 1 rfl) ?_
    obtain ⟨q8, e9, hq⟩ := hq
    refine gfX11_72 C hw hw.2.2.1 h0 e9 dX11_table_17 ?_
    refine lv_iload_n hx hb dX11_table_20 rfl (lv_at hl 0 rfl) ?_
    refine lv_iload_n hx hb dX11_table_21 rfl (lv_at hl 3 rfl) ?_
    refine r_callV (T := TX5) (N := 5) (ci := 5) (index := 248) (n := 2) (d2 := 1) (mc := 0) (ms := 0) (As := [.int v3, .int p2]) (rest := []) C hw (ct_X5_tell hq) kvX11_248 hq.1 (by decide) rfl ⟨by decide, by decide⟩ ⟨by decide, by decide⟩ rfl hl.1 rfl (Nat.le_of_ble_eq_true rfl) dX11_table_22 (fun r M11 H locs hp hle hw => ?_)
    obtain ⟨v10, rfl, hq⟩ := hp
    refine W.eq (g2 := F0 m 25 ls [.int v10]) rfl ?_
    refine lv_goto (tgt := 29) hx hb dX11_table_25 (by decide) ?_
    exact r_iret C hr hlk hw dX11_table_29 (Nat.le_refl _) (Nat.le_refl _) ⟨_, rfl, hq⟩

set_option maxRecDepth 100000 in
def wp_X11_count  (g : Gh) (M0 : Mem) (a0 : Nat) (p1 : Int32) (post : Int32 → Mem → Prop) : Prop :=
  okc (gB g) M0 a0 11 ∧ (((p1 = 0) → post (mI M0 a0 4) M0) ∧ ((p1 = 1) → ∃ q2, mR M0 a0 5 = some q2 ∧ (okc (gB g) M0 q2 4 ∧ (post (mI M0 q2 1) M0))) ∧ ((p1 = 2) → ∃ q5, mR M0 a0 5 = some q5 ∧ (okc (gB g) M0 q5 4 ∧ (post (mI M0 q5 0) M0))) ∧ ((p1 = 3) → ∃ q8, mR M0 a0 8 = some q8 ∧ (okc (gB g) M0 q8 8 ∧ (post (mI M0 q8 2) M0))) ∧ ((p1 = 4) → ∃ q11, mR M0 a0 8 = some q11 ∧ (okc (gB g) M0 q11 8 ∧ (post (mI M0 q11 3) M0))) ∧ ((p1 = 5) → ∃ q14, mR M0 a0 10 = some q14 ∧ (okc (gB g) M0 q14 5 ∧ (post (mI M0 q14 4) M0))) ∧ ((p1 = 6) → ∃ q17, mR M0 a0 0 = some q17 ∧ (okc (gB g) M0 q17 10 ∧ (post (mI M0 q17 1) M0))) ∧ ((¬ (p1 = 0) ∧ ¬ (p1 = 1) ∧ ¬ (p1 = 2) ∧ ¬ (p1 = 3) ∧ ¬ (p1 = 4) ∧ ¬ (p1 = 5) ∧ ¬ (p1 = 6)) → post (-1) M0))
set_option maxHeartbeats 4000000 in
set_option maxRecDepth 100000 in
theorem ct_X11_count {l : Launch} {g : Gh} {M0 : Mem} {a0 : Nat} {p1 : Int32} {post : Int32 → Mem → Prop}  (hq : wp_X11_count  g M0 a0 p1 post) : Ct l g yX11_count cX11_count 2 (some .int) 0 0 0 [.ref a0, .int p1] M0 (pI post) := by
  unfold wp_X11_count at hq
  obtain ⟨h0, hq⟩ := hq
  refine Ct.of (by decide) (Nat.le_of_ble_eq_true rfl) ?_
  intro p e s m below meth c ls C hr hlk hn hl hw
  have hx := C.1.1
  have hb := C.1.2.1
  have hl : lv_has ls 2 [(0, .ref a0), (1, .int p1)] := hl
  refine lv_iload_n hx hb dX11_count_0 rfl (lv_at hl 1 rfl) ?_
  by_cases c20 : p1 = 0
  · refine r_table (v := 0) (off := 43) (tgt := 44) hx hb dX11_count_1 c20 (by decide) (by decide) rfl (by decide) ?_
    replace hq := hq.1 c20
    refine lv_aload_n hx hb dX11_count_44 rfl (lv_at hl 0 rfl) ?_
    refine gfX11_36 C hw hw.2.2.1 h0 dX11_count_45 ?_
    exact r_iret C hr hlk hw dX11_count_48 (Nat.le_refl _) (Nat.le_refl _) ⟨_, rfl, hq⟩
  by_cases c21 : p1 = 1
  · refine r_table (v := 1) (off := 48) (tgt := 49) hx hb dX11_count_1 c21 (by decide) (by decide) rfl (by decide) ?_
    replace hq := hq.2.1 c21
    refine lv_aload_n hx hb dX11_count_49 rfl (lv_at hl 0 rfl) ?_
    obtain ⟨q2, e3, hq⟩ := hq
    refine gfX11_43 C hw hw.2.2.1 h0 e3 dX11_count_50 ?_
    obtain ⟨h4, hq⟩ := hq
    refine gfX11_152 C hw hw.2.2.1 h4 dX11_count_53 ?_
    exact r_iret C hr hlk hw dX11_count_56 (Nat.le_refl _) (Nat.le_refl _) ⟨_, rfl, hq⟩
  by_cases c22 : p1 = 2
  · refine r_table (v := 2) (off := 56) (tgt := 57) hx hb dX11_count_1 c22 (by decide) (by decide) rfl (by decide) ?_
    replace hq := hq.2.2.1 c22
    refine lv_aload_n hx hb dX11_count_57 rfl (lv_at hl 0 rfl) ?_
    obtain ⟨q5, e6, hq⟩ := hq
    refine gfX11_43 C hw hw.2.2.1 h0 e6 dX11_count_58 ?_
    obtain ⟨h7, hq⟩ := hq
    refine gfX11_250 C hw hw.2.2.1 h7 dX11_count_61 ?_
    exact r_iret C hr hlk hw dX11_count_64 (Nat.le_refl _) (Nat.le_refl _) ⟨_, rfl, hq⟩
  by_cases c23 : p1 = 3
  · refine r_table (v := 3) (off := 64) (tgt := 65) hx hb dX11_count_1 c23 (by decide) (by decide) rfl (by decide) ?_
    replace hq := hq.2.2.2.1 c23
    refine lv_aload_n hx hb dX11_count_65 rfl (lv_at hl 0 rfl) ?_
    obtain ⟨q8, e9, hq⟩ := hq
    refine gfX11_56 C hw hw.2.2.1 h0 e9 dX11_count_66 ?_
    obtain ⟨h10, hq⟩ := hq
    refine gfX11_183 C hw hw.2.2.1 h10 dX11_count_69 ?_
    exact r_iret C hr hlk hw dX11_count_72 (Nat.le_refl _) (Nat.le_refl _) ⟨_, rfl, hq⟩
  by_cases c24 : p1 = 4
  · refine r_table (v := 4) (off := 72) (tgt := 73) hx hb dX11_count_1 c24 (by decide) (by decide) rfl (by decide) ?_
    replace hq := hq.2.2.2.2.1 c24
    refine lv_aload_n hx hb dX11_count_73 rfl (lv_at hl 0 rfl) ?_
    obtain ⟨q11, e12, hq⟩ := hq
    refine gfX11_56 C hw hw.2.2.1 h0 e12 dX11_count_74 ?_
    obtain ⟨h13, hq⟩ := hq
    refine gfX11_253 C hw hw.2.2.1 h13 dX11_count_77 ?_
    exact r_iret C hr hlk hw dX11_count_80 (Nat.le_refl _) (Nat.le_refl _) ⟨_, rfl, hq⟩
  by_cases c25 : p1 = 5
  · refine r_table (v := 5) (off := 80) (tgt := 81) hx hb dX11_count_1 c25 (by decide) (by decide) rfl (by decide) ?_
    replace hq := hq.2.2.2.2.2.1 c25
    refine lv_aload_n hx hb dX11_count_81 rfl (lv_at hl 0 rfl) ?_
    obtain ⟨q14, e15, hq⟩ := hq
    refine gfX11_72 C hw hw.2.2.1 h0 e15 dX11_count_82 ?_
    obtain ⟨h16, hq⟩ := hq
    refine gfX11_256 C hw hw.2.2.1 h16 dX11_count_85 ?_
    exact r_iret C hr hlk hw dX11_count_88 (Nat.le_refl _) (Nat.le_refl _) ⟨_, rfl, hq⟩
  by_cases c26 : p1 = 6
  · refine r_table (v := 6) (off := 88) (tgt := 89) hx hb dX11_count_1 c26 (by decide) (by decide) rfl (by decide) ?_
    replace hq := hq.2.2.2.2.2.2.1 c26
    refine lv_aload_n hx hb dX11_count_89 rfl (lv_at hl 0 rfl) ?_
    obtain ⟨q17, e18, hq⟩ := hq
    refine gfX11_10 C hw hw.2.2.1 h0 e18 dX11_count_90 ?_
    obtain ⟨h19, hq⟩ := hq
    refine gfX11_84 C hw hw.2.2.1 h19 dX11_count_93 ?_
    exact r_iret C hr hlk hw dX11_count_96 (Nat.le_refl _) (Nat.le_refl _) ⟨_, rfl, hq⟩
  refine r_tableOut (tgt := 97) (k := 6) hx hb dX11_count_1 (by decide) (fun j hj => by rcases (show j = 0 ∨ j = 1 ∨ j = 2 ∨ j = 3 ∨ j = 4 ∨ j = 5 ∨ j = 6 by omega) with rfl | rfl | rfl | rfl | rfl | rfl | rfl <;> assumption) (by decide) ?_
  replace hq := hq.2.2.2.2.2.2.2 ⟨c20, c21, c22, c23, c24, c25, c26⟩
  refine lv_iconst (v := (-1)) hx hb dX11_count_97 (by decide) ?_
  exact r_iret C hr hlk hw dX11_count_98 (Nat.le_refl _) (Nat.le_refl _) ⟨_, rfl, hq⟩
