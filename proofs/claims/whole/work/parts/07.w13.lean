set_option maxRecDepth 100000 in
def wp_X7_step  (g : Gh) (M0 : Mem) (a0 : Nat) (p1 : Int32) (p2 : Int64) (p4 : Int64) (post : Mem → Prop) : Prop :=
  okc (gB g) M0 a0 7 ∧ (((p1 = 40) → wp_X7_openFrame g M0 a0 (fun M3 => post M3)) ∧ ((p1 = 41) → wp_X7_closeFrame g M0 a0 p1 (fun M5 => post M5)) ∧ ((p1 = 44) → ∃ q6, mR M0 a0 2 = some q6 ∧ (okc (gB g) M0 q6 19 ∧ (vp_in (mI M0 a0 3) (mN M0 q6) ∧ (∃ q10, mR M0 q6 (Int32.toNatClampNeg (mI M0 a0 3)) = some q10 ∧ (wp_X3_closeRow g M0 q10 (fun M13 => ∃ q14, mR M13 a0 2 = some q14 ∧ (okc (gB g) M0 q14 19 ∧ (vp_in (mI M13 a0 3) (mN M0 q14) ∧ (∃ q18, mR M13 q14 (Int32.toNatClampNeg (mI M13 a0 3)) = some q18 ∧ (wp_X3_keepForm g M13 q18 (fun M21 => post M21))))))))))) ∧ ((p1 = 91) → wp_X7_openFrame g M0 a0 (fun M23 => post M23)) ∧ ((p1 = 93) → wp_X7_closeFrame g M0 a0 p1 (fun M25 => post M25)) ∧ ((p1 = 123) → wp_X7_openFrame g M0 a0 (fun M27 => post M27)) ∧ ((p1 = 124) → ∃ q28, mR M0 a0 2 = some q28 ∧ (okc (gB g) M0 q28 19 ∧ (vp_in (mI M0 a0 3) (mN M0 q28) ∧ (∃ q32, mR M0 q28 (Int32.toNatClampNeg (mI M0 a0 3)) = some q32 ∧ (wp_X3_closeRow g M0 q32 (fun M35 => post M35)))))) ∧ ((p1 = 125) → wp_X7_closeFrame g M0 a0 p1 (fun M37 => post M37)) ∧ ((¬ (p1 = 40) ∧ ¬ (p1 = 41) ∧ ¬ (p1 = 44) ∧ ¬ (p1 = 91) ∧ ¬ (p1 = 93) ∧ ¬ (p1 = 123) ∧ ¬ (p1 = 124) ∧ ¬ (p1 = 125)) → ∃ q38, mR M0 a0 2 = some q38 ∧ (okc (gB g) M0 q38 19 ∧ (vp_in (mI M0 a0 3) (mN M0 q38) ∧ (∃ q42, mR M0 q38 (Int32.toNatClampNeg (mI M0 a0 3)) = some q42 ∧ (wp_X7_placesFrom g M0 a0 p2 p4 (fun v44 M45 => wp_X3_stepToken g M45 q42 v44 (fun M47 => post M47))))))))
set_option maxHeartbeats 4000000 in
set_option maxRecDepth 100000 in
theorem ct_X7_step {l : Launch} {g : Gh} {M0 : Mem} {a0 : Nat} {p1 : Int32} {p2 : Int64} {p4 : Int64} {post : Mem → Prop}  (hq : wp_X7_step  g M0 a0 p1 p2 p4 post) : Ct l g yX7_step cX7_step 6 none 4 0 0 [.ref a0, .int p1, .long p2, .long p4] M0 (pV post) := by
  unfold wp_X7_step at hq
  obtain ⟨h0, hq⟩ := hq
  refine Ct.of (by decide) (Nat.le_of_ble_eq_true rfl) ?_
  intro p e s m below meth c ls C hr hlk hn hl hw
  have hx := C.1.1
  have hb := C.1.2.1
  have hl : lv_has ls 6 [(0, .ref a0), (1, .int p1), (2, .long p2), (4, .long p4)] := hl
  refine lv_iload_n hx hb dX7_step_0 rfl (lv_at hl 1 rfl) ?_
  by_cases c48 : p1 = 40
  · refine r_lookup (v := 40) (off := 75) (tgt := 76) hx hb dX7_step_1 (by decide) c48 (by decide +kernel) (by decide) ?_
    replace hq := hq.1 c48
    refine lv_aload_n hx hb dX7_step_76 rfl (lv_at hl 0 rfl) ?_
    refine r_callV (T := TX7) (N := 5) (ci := 7) (index := 80) (n := 0) (d2 := 2) (mc := 0) (ms := 0) (As := []) (rest := []) C hw (ct_X7_openFrame hq) kvX7_80 hq.1 (by decide) rfl ⟨by decide, by decide⟩ ⟨by decide, by decide⟩ rfl hl.1 rfl (Nat.le_of_ble_eq_true rfl) dX7_step_77 (fun r M3 H locs hp hle hw => ?_)
    obtain ⟨rfl, hq⟩ := hp
    refine W.eq (g2 := F0 m 80 ls []) rfl ?_
    refine lv_goto (tgt := 152) hx hb dX7_step_80 (by decide) ?_
    exact r_vret C hr hlk hw dX7_step_152 (Nat.le_refl _) (Nat.le_refl _) ⟨rfl, hq⟩
  by_cases c49 : p1 = 41
  · refine r_lookup (v := 41) (off := 124) (tgt := 125) hx hb dX7_step_1 (by decide) c49 (by decide +kernel) (by decide) ?_
    replace hq := hq.2.1 c49
    refine lv_aload_n hx hb dX7_step_125 rfl (lv_at hl 0 rfl) ?_
    refine lv_iload_n hx hb dX7_step_126 rfl (lv_at hl 1 rfl) ?_
    refine r_callV (T := TX7) (N := 5) (ci := 7) (index := 86) (n := 1) (d2 := 3) (mc := 0) (ms := 0) (As := [.int p1]) (rest := []) C hw (ct_X7_closeFrame hq) kvX7_86 hq.1 (by decide) rfl ⟨by decide, by decide⟩ ⟨by decide, by decide⟩ rfl hl.1 rfl (Nat.le_of_ble_eq_true rfl) dX7_step_127 (fun r M5 H locs hp hle hw => ?_)
    obtain ⟨rfl, hq⟩ := hp
    refine W.eq (g2 := F0 m 130 ls []) rfl ?_
    refine lv_goto (tgt := 152) hx hb dX7_step_130 (by decide) ?_
    exact r_vret C hr hlk hw dX7_step_152 (Nat.le_refl _) (Nat.le_refl _) ⟨rfl, hq⟩
  by_cases c50 : p1 = 44
  · refine r_lookup (v := 44) (off := 97) (tgt := 98) hx hb dX7_step_1 (by decide) c50 (by decide +kernel) (by decide) ?_
    replace hq := hq.2.2.1 c50
    refine lv_aload_n hx hb dX7_step_98 rfl (lv_at hl 0 rfl) ?_
    obtain ⟨q6, e7, hq⟩ := hq
    refine gfX7_21 C hw hw.2.2.1 h0 e7 dX7_step_99 ?_
    refine lv_aload_n hx hb dX7_step_102 rfl (lv_at hl 0 rfl) ?_
    refine gfX7_26 C hw hw.2.2.1 h0 dX7_step_103 ?_
    obtain ⟨h8, hq⟩ := hq
    obtain ⟨h9, hq⟩ := hq
    obtain ⟨q10, e11, hq⟩ := hq
    refine q_aald C hw hw.2.2.1 h8 (by decide) (by decide) rfl h9 e11 dX7_step_106 ?_
    refine r_callV (T := TX3) (N := 5) (ci := 3) (index := 74) (n := 0) (d2 := 0) (mc := 0) (ms := 0) (As := []) (rest := []) C hw (ct_X3_closeRow hq) kvX7_74 hq.1 (by decide) rfl ⟨by decide, by decide⟩ ⟨by decide, by decide⟩ rfl hl.1 rfl (Nat.le_of_ble_eq_true rfl) dX7_step_107 (fun r M13 H locs hp hle hw => ?_)
    obtain ⟨rfl, hq⟩ := hp
    refine W.eq (g2 := F0 m 110 ls []) rfl ?_
    refine lv_aload_n hx hb dX7_step_110 rfl (lv_at hl 0 rfl) ?_
    obtain ⟨q14, e15, hq⟩ := hq
    refine gfX7_21 C hw hw.2.2.1 h0 e15 dX7_step_111 ?_
    refine lv_aload_n hx hb dX7_step_114 rfl (lv_at hl 0 rfl) ?_
    refine gfX7_26 C hw hw.2.2.1 h0 dX7_step_115 ?_
    obtain ⟨h16, hq⟩ := hq
    obtain ⟨h17, hq⟩ := hq
    obtain ⟨q18, e19, hq⟩ := hq
    refine q_aald C hw hw.2.2.1 h16 (by decide) (by decide) rfl h17 e19 dX7_step_118 ?_
    refine r_callV (T := TX3) (N := 5) (ci := 3) (index := 83) (n := 0) (d2 := 1) (mc := 0) (ms := 0) (As := []) (rest := []) C hw (ct_X3_keepForm hq) kvX7_83 hq.1 (by decide) rfl ⟨by decide, by decide⟩ ⟨by decide, by decide⟩ rfl hl.1 rfl (Nat.le_of_ble_eq_true rfl) dX7_step_119 (fun r M21 H locs hp hle hw => ?_)
    obtain ⟨rfl, hq⟩ := hp
    refine W.eq (g2 := F0 m 122 ls []) rfl ?_
    refine lv_goto (tgt := 152) hx hb dX7_step_122 (by decide) ?_
    exact r_vret C hr hlk hw dX7_step_152 (Nat.le_refl _) (Nat.le_refl _) ⟨rfl, hq⟩
  by_cases c51 : p1 = 91
  · refine r_lookup (v := 91) (off := 75) (tgt := 76) hx hb dX7_step_1 (by decide) c51 (by decide +kernel) (by decide) ?_
    replace hq := hq.2.2.2.1 c51
    refine lv_aload_n hx hb dX7_step_76 rfl (lv_at hl 0 rfl) ?_
    refine r_callV (T := TX7) (N := 5) (ci := 7) (index := 80) (n := 0) (d2 := 2) (mc := 0) (ms := 0) (As := []) (rest := []) C hw (ct_X7_openFrame hq) kvX7_80 hq.1 (by decide) rfl ⟨by decide, by decide⟩ ⟨by decide, by decide⟩ rfl hl.1 rfl (Nat.le_of_ble_eq_true rfl) dX7_step_77 (fun r M23 H locs hp hle hw => ?_)
    obtain ⟨rfl, hq⟩ := hp
    refine W.eq (g2 := F0 m 80 ls []) rfl ?_
    refine lv_goto (tgt := 152) hx hb dX7_step_80 (by decide) ?_
    exact r_vret C hr hlk hw dX7_step_152 (Nat.le_refl _) (Nat.le_refl _) ⟨rfl, hq⟩
  by_cases c52 : p1 = 93
  · refine r_lookup (v := 93) (off := 124) (tgt := 125) hx hb dX7_step_1 (by decide) c52 (by decide +kernel) (by decide) ?_
    replace hq := hq.2.2.2.2.1 c52
    refine lv_aload_n hx hb dX7_step_125 rfl (lv_at hl 0 rfl) ?_
    refine lv_iload_n hx hb dX7_step_126 rfl (lv_at hl 1 rfl) ?_
    refine r_callV (T := TX7) (N := 5) (ci := 7) (index := 86) (n := 1) (d2 := 3) (mc := 0) (ms := 0) (As := [.int p1]) (rest := []) C hw (ct_X7_closeFrame hq) kvX7_86 hq.1 (by decide) rfl ⟨by decide, by decide⟩ ⟨by decide, by decide⟩ rfl hl.1 rfl (Nat.le_of_ble_eq_true rfl) dX7_step_127 (fun r M25 H locs hp hle hw => ?_)
    obtain ⟨rfl, hq⟩ := hp
    refine W.eq (g2 := F0 m 130 ls []) rfl ?_
    refine lv_goto (tgt := 152) hx hb dX7_step_130 (by decide) ?_
    exact r_vret C hr hlk hw dX7_step_152 (Nat.le_refl _) (Nat.le_refl _) ⟨rfl, hq⟩
  by_cases c53 : p1 = 123
  · refine r_lookup (v := 123) (off := 75) (tgt := 76) hx hb dX7_step_1 (by decide) c53 (by decide +kernel) (by decide) ?_
    replace hq := hq.2.2.2.2.2.1 c53
    refine lv_aload_n hx hb dX7_step_76 rfl (lv_at hl 0 rfl) ?_
    refine r_callV (T := TX7) (N := 5) (ci := 7) (index := 80) (n := 0) (d2 := 2) (mc := 0) (ms := 0) (As := []) (rest := []) C hw (ct_X7_openFrame hq) kvX7_80 hq.1 (by decide) rfl ⟨by decide, by decide⟩ ⟨by decide, by decide⟩ rfl hl.1 rfl (Nat.le_of_ble_eq_true rfl) dX7_step_77 (fun r M27 H locs hp hle hw => ?_)
    obtain ⟨rfl, hq⟩ := hp
    refine W.eq (g2 := F0 m 80 ls []) rfl ?_
    refine lv_goto (tgt := 152) hx hb dX7_step_80 (by decide) ?_
    exact r_vret C hr hlk hw dX7_step_152 (Nat.le_refl _) (Nat.le_refl _) ⟨rfl, hq⟩
  by_cases c54 : p1 = 124
  · refine r_lookup (v := 124) (off := 82) (tgt := 83) hx hb dX7_step_1 (by decide) c54 (by decide +kernel) (by decide) ?_
    replace hq := hq.2.2.2.2.2.2.1 c54
    refine lv_aload_n hx hb dX7_step_83 rfl (lv_at hl 0 rfl) ?_
    obtain ⟨q28, e29, hq⟩ := hq
    refine gfX7_21 C hw hw.2.2.1 h0 e29 dX7_step_84 ?_
    refine lv_aload_n hx hb dX7_step_87 rfl (lv_at hl 0 rfl) ?_
    refine gfX7_26 C hw hw.2.2.1 h0 dX7_step_88 ?_
    obtain ⟨h30, hq⟩ := hq
    obtain ⟨h31, hq⟩ := hq
    obtain ⟨q32, e33, hq⟩ := hq
    refine q_aald C hw hw.2.2.1 h30 (by decide) (by decide) rfl h31 e33 dX7_step_91 ?_
    refine r_callV (T := TX3) (N := 5) (ci := 3) (index := 74) (n := 0) (d2 := 0) (mc := 0) (ms := 0) (As := []) (rest := []) C hw (ct_X3_closeRow hq) kvX7_74 hq.1 (by decide) rfl ⟨by decide, by decide⟩ ⟨by decide, by decide⟩ rfl hl.1 rfl (Nat.le_of_ble_eq_true rfl) dX7_step_92 (fun r M35 H locs hp hle hw => ?_)
    obtain ⟨rfl, hq⟩ := hp
    refine W.eq (g2 := F0 m 95 ls []) rfl ?_
    refine lv_goto (tgt := 152) hx hb dX7_step_95 (by decide) ?_
    exact r_vret C hr hlk hw dX7_step_152 (Nat.le_refl _) (Nat.le_refl _) ⟨rfl, hq⟩
  by_cases c55 : p1 = 125
  · refine r_lookup (v := 125) (off := 124) (tgt := 125) hx hb dX7_step_1 (by decide) c55 (by decide +kernel) (by decide) ?_
    replace hq := hq.2.2.2.2.2.2.2.1 c55
    refine lv_aload_n hx hb dX7_step_125 rfl (lv_at hl 0 rfl) ?_
    refine lv_iload_n hx hb dX7_step_126 rfl (lv_at hl 1 rfl) ?_
    refine r_callV (T := TX7) (N := 5) (ci := 7) (index := 86) (n := 1) (d2 := 3) (mc := 0) (ms := 0) (As := [.int p1]) (rest := []) C hw (ct_X7_closeFrame hq) kvX7_86 hq.1 (by decide) rfl ⟨by decide, by decide⟩ ⟨by decide, by decide⟩ rfl hl.1 rfl (Nat.le_of_ble_eq_true rfl) dX7_step_127 (fun r M37 H locs hp hle hw => ?_)
    obtain ⟨rfl, hq⟩ := hp
    refine W.eq (g2 := F0 m 130 ls []) rfl ?_
    refine lv_goto (tgt := 152) hx hb dX7_step_130 (by decide) ?_
    exact r_vret C hr hlk hw dX7_step_152 (Nat.le_refl _) (Nat.le_refl _) ⟨rfl, hq⟩
  refine r_lookupOut (tgt := 133) hx hb dX7_step_1 (by decide) (List.forall_mem_cons.mpr ⟨fun h => c48 (Int32.toInt_inj.mp (h.trans (show (40 : Int) = (40 : Int32).toInt by decide))), List.forall_mem_cons.mpr ⟨fun h => c49 (Int32.toInt_inj.mp (h.trans (show (41 : Int) = (41 : Int32).toInt by decide))), List.forall_mem_cons.mpr ⟨fun h => c50 (Int32.toInt_inj.mp (h.trans (show (44 : Int) = (44 : Int32).toInt by decide))), List.forall_mem_cons.mpr ⟨fun h => c51 (Int32.toInt_inj.mp (h.trans (show (91 : Int) = (91 : Int32).toInt by decide))), List.forall_mem_cons.mpr ⟨fun h => c52 (Int32.toInt_inj.mp (h.trans (show (93 : Int) = (93 : Int32).toInt by decide))), List.forall_mem_cons.mpr ⟨fun h => c53 (Int32.toInt_inj.mp (h.trans (show (123 : Int) = (123 : Int32).toInt by decide))), List.forall_mem_cons.mpr ⟨fun h => c54 (Int32.toInt_inj.mp (h.trans (show (124 : Int) = (124 : Int32).toInt by decide))), List.forall_mem_cons.mpr ⟨fun h => c55 (Int32.toInt_inj.mp (h.trans (show (125 : Int) = (125 : Int32).toInt by decide))), List.forall_mem_nil _⟩⟩⟩⟩⟩⟩⟩⟩) (by decide) ?_
  replace hq := hq.2.2.2.2.2.2.2.2 ⟨c48, c49, c50, c51, c52, c53, c54, c55⟩
  refine lv_aload_n hx hb dX7_step_133 rfl (lv_at hl 0 rfl) ?_
  obtain ⟨q38, e39, hq⟩ := hq
  refine gfX7_21 C hw hw.2.2.1 h0 e39 dX7_step_134 ?_
  refine lv_aload_n hx hb dX7_step_137 rfl (lv_at hl 0 rfl) ?_
  refine gfX7_26 C hw hw.2.2.1 h0 dX7_step_138 ?_
  obtain ⟨h40, hq⟩ := hq
  obtain ⟨h41, hq⟩ := hq
  obtain ⟨q42, e43, hq⟩ := hq
  refine q_aald C hw hw.2.2.1 h40 (by decide) (by decide) rfl h41 e43 dX7_step_141 ?_
  refine lv_aload_n hx hb dX7_step_142 rfl (lv_at hl 0 rfl) ?_
  refine lv_lload_n hx hb dX7_step_143 rfl (lv_at hl 2 rfl) ?_
  refine lv_lload hx hb dX7_step_144 (lv_at hl 3 rfl) ?_
  refine r_callV (T := TX7) (N := 5) (ci := 7) (index := 90) (n := 2) (d2 := 0) (mc := 0) (ms := 0) (As := [.long p2, .long p4]) (rest := [.ref q42]) C hw (ct_X7_placesFrom hq) kvX7_90 hq.1 (by decide) rfl ⟨by decide, by decide⟩ ⟨by decide, by decide⟩ rfl hl.1 rfl (Nat.le_of_ble_eq_true rfl) dX7_step_146 (fun r M45 H locs hp hle hw => ?_)
  obtain ⟨v44, rfl, hq⟩ := hp
  refine W.eq (g2 := F0 m 149 ls [.int v44, .ref q42]) rfl ?_
  refine r_callV (T := TX3) (N := 5) (ci := 3) (index := 94) (n := 1) (d2 := 0) (mc := 0) (ms := 0) (As := [.int v44]) (rest := []) C hw (ct_X3_stepToken hq) kvX7_94 hq.1 (by decide) rfl ⟨by decide, by decide⟩ ⟨by decide, by decide⟩ rfl hl.1 rfl (Nat.le_of_ble_eq_true rfl) dX7_step_149 (fun r M47 H locs hp hle hw => ?_)
  obtain ⟨rfl, hq⟩ := hp
  refine W.eq (g2 := F0 m 152 ls []) rfl ?_
  exact r_vret C hr hlk hw dX7_step_152 (Nat.le_refl _) (Nat.le_refl _) ⟨rfl, hq⟩

set_option maxRecDepth 100000 in
def lb_X7_accepts_52  (g : Gh) (M0 : Mem) (a0 : Nat) (a1 : Nat) (post : Int32 → Mem → Prop)    (M : Mem) : Prop :=
  ∃ q1, mR M a0 2 = some q1 ∧ (okc (gB g) M0 q1 19 ∧ (vp_in 0 (mN M0 q1) ∧ (∃ q5, mR M q1 (Int32.toNatClampNeg 0) = some q5 ∧ (wp_X3_closeRow g M q5 (fun M8 => ∃ q9, mR M8 a0 2 = some q9 ∧ (okc (gB g) M0 q9 19 ∧ (vp_in 0 (mN M0 q9) ∧ (∃ q13, mR M8 q9 (Int32.toNatClampNeg 0) = some q13 ∧ (okc (gB g) M0 q13 3 ∧ (∃ q16, mR M8 q13 1 = some q16 ∧ (okc (gB g) M0 q16 14 ∧ (vp_in 0 (mN M0 q16) ∧ ((((((mI M8 q16 (Int32.toNatClampNeg 0)) >>> ((mI M8 a0 1) &&& 31)) &&& 1) = 1) → post 1 M8) ∧ (¬ ((((mI M8 q16 (Int32.toNatClampNeg 0)) >>> ((mI M8 a0 1) &&& 31)) &&& 1) = 1) → post 0 M8))))))))))))))
set_option maxRecDepth 100000 in
def bd_X7_accepts_16  (g : Gh) (M0 : Mem) (a0 : Nat) (a1 : Nat) (post : Int32 → Mem → Prop)  (bk16 : Int32 × Mem → Prop) (x2 : Int32)  (M : Mem) : Prop :=
  wp_X1_size g M a1 (fun v21 M22 => ((v21 ≤ x2) → lb_X7_accepts_52  g M0 a0 a1 post   M22) ∧ (¬ (v21 ≤ x2) → okc (gB g) M0 a1 1 ∧ (∃ q25, mR M22 a1 0 = some q25 ∧ (okc (gB g) M0 q25 13 ∧ (vp_in x2 (mN M0 q25) ∧ (∃ q29, mR M22 a1 1 = some q29 ∧ (okc (gB g) M0 q29 15 ∧ (vp_in x2 (mN M0 q29) ∧ (∃ q33, mR M22 a1 2 = some q33 ∧ (okc (gB g) M0 q33 15 ∧ (vp_in x2 (mN M0 q33) ∧ (wp_X7_step g M22 a0 (mI M22 q25 (Int32.toNatClampNeg x2)) (mJ M22 q29 (Int32.toNatClampNeg x2)) (mJ M22 q33 (Int32.toNatClampNeg x2)) (fun M38 => bk16 ((x2 + 1), M38))))))))))))))
set_option maxRecDepth 100000 in
def wp_X7_accepts  (g : Gh) (M0 : Mem) (a0 : Nat) (a1 : Nat) (post : Int32 → Mem → Prop) : Prop :=
  okc (gB g) M0 a0 7 ∧ (∀ M39, M39 = uI M0 a0 3 0 → (∃ q41, mR M39 a0 2 = some q41 ∧ (okc (gB g) M0 q41 19 ∧ (vp_in 0 (mN M0 q41) ∧ (∃ q45, mR M39 q41 (Int32.toNatClampNeg 0) = some q45 ∧ (wp_X3_restart g M39 q45 (fun M48 => (∃ n : Nat, lfp (fun bk z => bd_X7_accepts_16  g M0 a0 a1 post  bk z.1 z.2) n (0, M48)))))))))
set_option maxHeartbeats 4000000 in
set_option maxRecDepth 100000 in
theorem lt_X7_accepts_52 {l : Launch} {g : Gh} {p : Program} {e : Env} {s : State} {m : MethodId} {args : Array Value} {below : List Frame} {meth : Method} {c : Code} {H : Heap} {locs : List Loc} {ls : Array Slot} {M0 M : Mem} {a0 : Nat} {a1 : Nat} {post : Int32 → Mem → Prop}    (C : Cx g p s m args c cX7_accepts 3 RX7) (hr : meth.sig.returnType = (some .boolean)) (hlk : meth.locks = false) (hn : meth.name = "accepts") (h0 : okc (gB g) M0 a0 7)  (hq : lb_X7_accepts_52  g M0 a0 a1 post   M) (hw : Wd g s M0 M H locs) (hl : lv_has ls 3 [(0, .ref a0), (1, .ref a1)]) : W p l e (rmo 5 0 0) s m args below meth c H locs 0 0 (MQ below (Cq g M0 (pI post)) args s 0 0 (gA g)) (F0 m 52 ls []) := by
  have hx := C.1.1
  have hb := C.1.2.1
  unfold lb_X7_accepts_52 at hq
  refine lv_aload_n hx hb dX7_accepts_52 rfl (lv_at hl 0 rfl) ?_
  obtain ⟨q1, e2, hq⟩ := hq
  refine gfX7_21 C hw hw.2.2.1 h0 e2 dX7_accepts_53 ?_
  refine lv_iconst (v := 0) hx hb dX7_accepts_56 (by decide) ?_
  obtain ⟨h3, hq⟩ := hq
  obtain ⟨h4, hq⟩ := hq
  obtain ⟨q5, e6, hq⟩ := hq
  refine q_aald C hw hw.2.2.1 h3 (by decide) (by decide) rfl h4 e6 dX7_accepts_57 ?_
  refine r_callV (T := TX3) (N := 5) (ci := 3) (index := 74) (n := 0) (d2 := 0) (mc := 0) (ms := 0) (As := []) (rest := []) C hw (ct_X3_closeRow hq) kvX7_74 hq.1 (by decide) rfl ⟨by decide, by decide⟩ ⟨by decide, by decide⟩ rfl hl.1 rfl (Nat.le_of_ble_eq_true rfl) dX7_accepts_58 (fun r M8 H locs hp hle hw => ?_)
  obtain ⟨rfl, hq⟩ := hp
  refine W.eq (g2 := F0 m 61 ls []) rfl ?_
  refine lv_aload_n hx hb dX7_accepts_61 rfl (lv_at hl 0 rfl) ?_
  obtain ⟨q9, e10, hq⟩ := hq
  refine gfX7_21 C hw hw.2.2.1 h0 e10 dX7_accepts_62 ?_
  refine lv_iconst (v := 0) hx hb dX7_accepts_65 (by decide) ?_
  obtain ⟨h11, hq⟩ := hq
  obtain ⟨h12, hq⟩ := hq
  obtain ⟨q13, e14, hq⟩ := hq
  refine q_aald C hw hw.2.2.1 h11 (by decide) (by decide) rfl h12 e14 dX7_accepts_66 ?_
  obtain ⟨h15, hq⟩ := hq
  obtain ⟨q16, e17, hq⟩ := hq
  refine gfX7_77 C hw hw.2.2.1 h15 e17 dX7_accepts_67 ?_
  refine lv_iconst (v := 0) hx hb dX7_accepts_70 (by decide) ?_
  obtain ⟨h18, hq⟩ := hq
  obtain ⟨h19, hq⟩ := hq
  refine q_iald C hw hw.2.2.1 h18 h19 dX7_accepts_71 ?_
  refine lv_aload_n hx hb dX7_accepts_72 rfl (lv_at hl 0 rfl) ?_
  refine gfX7_13 C hw hw.2.2.1 h0 dX7_accepts_73 ?_
  refine lv_ishr hx hb dX7_accepts_76 ?_
  refine lv_iconst (v := 1) hx hb dX7_accepts_77 (by decide) ?_
  refine lv_iand hx hb dX7_accepts_78 ?_
  refine lv_iconst (v := 1) hx hb dX7_accepts_79 (by decide) ?_
  refine lv_icmp_ne (tgt := 87) hx hb dX7_accepts_80 (by decide) (fun c20 => ?_) (fun c20 => ?_)
  · replace hq := hq.2 c20
    refine lv_iconst (v := 0) hx hb dX7_accepts_87 (by decide) ?_
    exact r_zret C hr hlk hw dX7_accepts_88 (Nat.le_refl _) (Nat.le_refl _) (by decide) ⟨_, rfl, hq⟩
  · replace hq := hq.1 c20
    refine lv_iconst (v := 1) hx hb dX7_accepts_83 (by decide) ?_
    refine lv_goto (tgt := 88) hx hb dX7_accepts_84 (by decide) ?_
    exact r_zret C hr hlk hw dX7_accepts_88 (Nat.le_refl _) (Nat.le_refl _) (by decide) ⟨_, rfl, hq⟩
set_option maxHeartbeats 4000000 in
set_option maxRecDepth 100000 in
theorem lp_X7_accepts_16 {l : Launch} {g : Gh} {p : Program} {e : Env} {s : State} {m : MethodId} {args : Array Value} {below : List Frame} {meth : Method} {c : Code} {M0 : Mem} {a0 : Nat} {a1 : Nat} {post : Int32 → Mem → Prop}  (C : Cx g p s m args c cX7_accepts 3 RX7) (hr : meth.sig.returnType = (some .boolean)) (hlk : meth.locks = false) (hn : meth.name = "accepts") (h0 : okc (gB g) M0 a0 7)  : ∀ (nf : Nat) (x2 : Int32)  (M : Mem) (H : Heap) (locs : List Loc) (ls : Array Slot), lfp (fun bk z => bd_X7_accepts_16  g M0 a0 a1 post  bk z.1 z.2) nf (x2, M) → Wd g s M0 M H locs → lv_has ls 3 [(0, .ref a0), (1, .ref a1), (2, .int x2)] → W p l e (rmo 5 0 0) s m args below meth c H locs 0 0 (MQ below (Cq g M0 (pI post)) args s 0 0 (gA g)) (F0 m 16 ls []) := by
  have hx := C.1.1
  have hb := C.1.2.1
  intro nf
  induction nf with
  | zero => intro _ _ H locs ls hq; exact hq.elim
  | succ nf hk16 =>
    intro x2 M H locs ls hq hw hl
    replace hq : bd_X7_accepts_16  g M0 a0 a1 post  (lfp (fun bk z => bd_X7_accepts_16  g M0 a0 a1 post  bk z.1 z.2) nf) x2 M := hq
    unfold bd_X7_accepts_16 at hq
    refine lv_iload_n hx hb dX7_accepts_16 rfl (lv_at hl 2 rfl) ?_
    refine lv_aload_n hx hb dX7_accepts_17 rfl (lv_at hl 1 rfl) ?_
    refine r_callV (T := TX1) (N := 3) (ci := 1) (index := 54) (n := 0) (d2 := 1) (mc := 0) (ms := 0) (As := []) (rest := [.int x2]) C hw (ct_X1_size hq) kvX7_54 hq.1 (by decide) rfl ⟨by decide, by decide⟩ ⟨by decide, by decide⟩ rfl hl.1 rfl (Nat.le_of_ble_eq_true rfl) dX7_accepts_18 (fun r M22 H locs hp hle hw => ?_)
    obtain ⟨v21, rfl, hq⟩ := hp
    refine W.eq (g2 := F0 m 21 ls [.int v21, .int x2]) rfl ?_
    refine lv_icmp_ge (tgt := 52) hx hb dX7_accepts_21 (by decide) (fun c23 => ?_) (fun c23 => ?_)
    · replace hq := hq.1 c23
      exact lt_X7_accepts_52  C hr hlk hn h0  hq hw (lv_sub hl [0, 1] rfl)
    · replace hq := hq.2 c23
      refine lv_aload_n hx hb dX7_accepts_24 rfl (lv_at hl 0 rfl) ?_
      refine lv_aload_n hx hb dX7_accepts_25 rfl (lv_at hl 1 rfl) ?_
      obtain ⟨h24, hq⟩ := hq
      obtain ⟨q25, e26, hq⟩ := hq
      refine gfX7_60 C hw hw.2.2.1 h24 e26 dX7_accepts_26 ?_
      refine lv_iload_n hx hb dX7_accepts_29 rfl (lv_at hl 2 rfl) ?_
      obtain ⟨h27, hq⟩ := hq
      obtain ⟨h28, hq⟩ := hq
      refine q_bald C hw hw.2.2.1 h27 h28 dX7_accepts_30 ?_
      refine lv_aload_n hx hb dX7_accepts_31 rfl (lv_at hl 1 rfl) ?_
      obtain ⟨q29, e30, hq⟩ := hq
      refine gfX7_64 C hw hw.2.2.1 h24 e30 dX7_accepts_32 ?_
      refine lv_iload_n hx hb dX7_accepts_35 rfl (lv_at hl 2 rfl) ?_
      obtain ⟨h31, hq⟩ := hq
      obtain ⟨h32, hq⟩ := hq
      refine q_lald C hw hw.2.2.1 h31 h32 dX7_accepts_36 ?_
      refine lv_aload_n hx hb dX7_accepts_37 rfl (lv_at hl 1 rfl) ?_
      obtain ⟨q33, e34, hq⟩ := hq
      refine gfX7_67 C hw hw.2.2.1 h24 e34 dX7_accepts_38 ?_
      refine lv_iload_n hx hb dX7_accepts_41 rfl (lv_at hl 2 rfl) ?_
      obtain ⟨h35, hq⟩ := hq
      obtain ⟨h36, hq⟩ := hq
      refine q_lald C hw hw.2.2.1 h35 h36 dX7_accepts_42 ?_
      refine r_callV (T := TX7) (N := 5) (ci := 7) (index := 70) (n := 3) (d2 := 4) (mc := 0) (ms := 0) (As := [.int (mI M22 q25 (Int32.toNatClampNeg x2)), .long (mJ M22 q29 (Int32.toNatClampNeg x2)), .long (mJ M22 q33 (Int32.toNatClampNeg x2))]) (rest := []) C hw (ct_X7_step hq) kvX7_70 hq.1 (by decide) rfl ⟨by decide, by decide⟩ ⟨by decide, by decide⟩ rfl hl.1 rfl (Nat.le_of_ble_eq_true rfl) dX7_accepts_43 (fun r M38 H locs hp hle hw => ?_)
      obtain ⟨rfl, hq⟩ := hp
      refine W.eq (g2 := F0 m 46 ls []) rfl ?_
      refine lv_iinc (v := (x2 + 1)) (lv' := [(2, .int (x2 + 1)), (0, .ref a0), (1, .ref a1)]) hx hb dX7_accepts_46 hl (k := 2) rfl rfl (by decide) rfl (fun ls hl => ?_)
      refine lv_goto (tgt := 16) hx hb dX7_accepts_49 (by decide) ?_
      exact hk16 _ _ _ _ _ hq hw (lv_sub hl [1, 2, 0] rfl)
set_option maxHeartbeats 4000000 in
set_option maxRecDepth 100000 in
theorem ct_X7_accepts {l : Launch} {g : Gh} {M0 : Mem} {a0 : Nat} {a1 : Nat} {post : Int32 → Mem → Prop}  (hq : wp_X7_accepts  g M0 a0 a1 post) : Ct l g yX7_accepts cX7_accepts 3 (some .boolean) 5 0 0 [.ref a0, .ref a1] M0 (pI post) := by
  unfold wp_X7_accepts at hq
  obtain ⟨h0, hq⟩ := hq
  refine Ct.of (by decide) (Nat.le_of_ble_eq_true rfl) ?_
  intro p e s m below meth c ls C hr hlk hn hl hw
  have hx := C.1.1
  have hb := C.1.2.1
  have hl : lv_has ls 3 [(0, .ref a0), (1, .ref a1)] := hl
  refine lv_aload_n hx hb dX7_accepts_0 rfl (lv_at hl 0 rfl) ?_
  refine lv_iconst (v := 0) hx hb dX7_accepts_1 (by decide) ?_
  refine pfX7_26 C hw hw.2.2.1 h0 dX7_accepts_2 (fun H locs hw => ?_)
  generalize e40 : uI M0 a0 3 0 = M39 at hw
  replace hq := hq M39 e40.symm
  refine lv_aload_n hx hb dX7_accepts_5 rfl (lv_at hl 0 rfl) ?_
  obtain ⟨q41, e42, hq⟩ := hq
  refine gfX7_21 C hw hw.2.2.1 h0 e42 dX7_accepts_6 ?_
  refine lv_iconst (v := 0) hx hb dX7_accepts_9 (by decide) ?_
  obtain ⟨h43, hq⟩ := hq
  obtain ⟨h44, hq⟩ := hq
  obtain ⟨q45, e46, hq⟩ := hq
  refine q_aald C hw hw.2.2.1 h43 (by decide) (by decide) rfl h44 e46 dX7_accepts_10 ?_
  refine r_callV (T := TX3) (N := 5) (ci := 3) (index := 51) (n := 0) (d2 := 1) (mc := 0) (ms := 0) (As := []) (rest := []) C hw (ct_X3_restart hq) kvX7_51 hq.1 (by decide) rfl ⟨by decide, by decide⟩ ⟨by decide, by decide⟩ rfl hl.1 rfl (Nat.le_of_ble_eq_true rfl) dX7_accepts_11 (fun r M48 H locs hp hle hw => ?_)
  obtain ⟨rfl, hq⟩ := hp
  refine W.eq (g2 := F0 m 14 ls []) rfl ?_
  refine lv_iconst (v := 0) hx hb dX7_accepts_14 (by decide) ?_
  refine lv_istore_n (lv' := [(2, .int 0), (0, .ref a0), (1, .ref a1)]) hx hb dX7_accepts_15 rfl hl (by decide) rfl (fun ls hl => ?_)
  obtain ⟨nf, hq⟩ := hq
  exact lp_X7_accepts_16  C hr hlk hn h0  nf _ _ _ _ _ hq hw (lv_sub hl [1, 2, 0] rfl)

set_option maxRecDepth 100000 in
def wp_X8_init  (g : Gh) (M0 : Mem) (a0 : Nat) (post : Mem → Prop) : Prop :=
  okc (gB g) M0 a0 8 ∧ (∀ q2 M3, q2 = mT M0 → M3 = nw M0 14 60 → (∀ M7, M7 = uR M3 a0 4 (some q2) → (∀ q10 M11, q10 = mT M7 → M11 = nw M7 14 60 → (∀ M15, M15 = uR M11 a0 5 (some q10) → (∀ q18 M19, q18 = mT M15 → M19 = nw M15 14 60 → (∀ M23, M23 = uR M19 a0 6 (some q18) → (∀ q26 M27, q26 = mT M23 → M27 = nw M23 14 48 → (∀ M31, M31 = uR M27 a0 8 (some q26) → (∀ q34 M35, q34 = mT M31 → M35 = nw M31 14 8 → (∀ M39, M39 = uR M35 a0 10 (some q34) → (post M39)))))))))))
set_option maxHeartbeats 4000000 in
set_option maxRecDepth 100000 in
theorem ct_X8_init {l : Launch} {g : Gh} {M0 : Mem} {a0 : Nat} {post : Mem → Prop}  (hq : wp_X8_init  g M0 a0 post) : Ct l g yX8_init cX8_init 1 none 1 5 236 [.ref a0] M0 (pV post) := by
  unfold wp_X8_init at hq
  obtain ⟨h0, hq⟩ := hq
  have h00 := h0
  refine Ct.of (by decide) (Nat.le_of_ble_eq_true rfl) ?_
  intro p e s m below meth c ls C hr hlk hn hl hw
  have hx := C.1.1
  have hb := C.1.2.1
  have hl : lv_has ls 1 [(0, .ref a0)] := hl
  refine lv_aload_n hx hb dX8_init_0 rfl (lv_at hl 0 rfl) ?_
  refine W.objInit hx hb C.1.2.2.2.1 (C.1.2.2.2.2 _ w_211) (C.1.2.2.2.2 _ w_35) (C.1.2.2.2.2 _ w_objInit) rfl (by rw [C.1.2.2.1]; exact hl.1) rfl dX8_init_1 (Nat.le_of_ble_eq_true rfl) (Nat.le_of_ble_eq_true rfl) ?_
  refine W.eq (g2 := F0 m 4 ls []) rfl ?_
  refine lv_aload_n hx hb dX8_init_4 rfl (lv_at hl 0 rfl) ?_
  refine lv_bipush (v := 60) hx hb dX8_init_5 (by decide) ?_
  have hB := hw.B C.2.2.2.2.2
  have h1 : 0 + 1 ≤ 5 ∧ 0 + 60 ≤ 236 := by decide
  refine q_newa_14 (N' := 60) C hw (by decide) (by decide) (by decide) h1.1 h1.2 dX8_init_7 (fun H hw => ?_)
  have h6 := okc_nw (gB g) M0 14 60 hB
  have h0 := h0.up (mle_nw M0 14 60)
  generalize e4 : nw M0 14 60 = M3 at hw h6 h0
  generalize e5 : mT M0 = q2 at h6 ⊢
  replace hq := hq q2 M3 e5.symm e4.symm
  refine pfX8_9 (v := (some q2)) C hw (mle_rf _) h0 hn dX8_init_9 (fun H locs hw => ?_)
  generalize e8 : uR M3 a0 4 (some q2) = M7 at hw
  replace hq := hq M7 e8.symm
  have h0 : okc (gB g) M7 a0 8 := by rw [← e8]; exact okc_uR h0
  refine lv_aload_n hx hb dX8_init_12 rfl (lv_at hl 0 rfl) ?_
  refine lv_bipush (v := 60) hx hb dX8_init_13 (by decide) ?_
  have hB := hw.B C.2.2.2.2.2
  have h9 : 1 + 1 ≤ 5 ∧ 60 + 60 ≤ 236 := by decide
  refine q_newa_14 (N' := 60) C hw (by decide) (by decide) (by decide) h9.1 h9.2 dX8_init_15 (fun H hw => ?_)
  have h14 := okc_nw (gB g) M7 14 60 hB
  have h0 := h0.up (mle_nw M7 14 60)
  generalize e12 : nw M7 14 60 = M11 at hw h14 h0
  generalize e13 : mT M7 = q10 at h14 ⊢
  replace hq := hq q10 M11 e13.symm e12.symm
  refine pfX8_15 (v := (some q10)) C hw (mle_rf _) h0 hn dX8_init_17 (fun H locs hw => ?_)
  generalize e16 : uR M11 a0 5 (some q10) = M15 at hw
  replace hq := hq M15 e16.symm
  have h0 : okc (gB g) M15 a0 8 := by rw [← e16]; exact okc_uR h0
  refine lv_aload_n hx hb dX8_init_20 rfl (lv_at hl 0 rfl) ?_
  refine lv_bipush (v := 60) hx hb dX8_init_21 (by decide) ?_
  have hB := hw.B C.2.2.2.2.2
  have h17 : 2 + 1 ≤ 5 ∧ 120 + 60 ≤ 236 := by decide
  refine q_newa_14 (N' := 60) C hw (by decide) (by decide) (by decide) h17.1 h17.2 dX8_init_23 (fun H hw => ?_)
  have h22 := okc_nw (gB g) M15 14 60 hB
  have h0 := h0.up (mle_nw M15 14 60)
  generalize e20 : nw M15 14 60 = M19 at hw h22 h0
  generalize e21 : mT M15 = q18 at h22 ⊢
  replace hq := hq q18 M19 e21.symm e20.symm
  refine pfX8_18 (v := (some q18)) C hw (mle_rf _) h0 hn dX8_init_25 (fun H locs hw => ?_)
  generalize e24 : uR M19 a0 6 (some q18) = M23 at hw
  replace hq := hq M23 e24.symm
  have h0 : okc (gB g) M23 a0 8 := by rw [← e24]; exact okc_uR h0
  refine lv_aload_n hx hb dX8_init_28 rfl (lv_at hl 0 rfl) ?_
  refine lv_bipush (v := 48) hx hb dX8_init_29 (by decide) ?_
  have hB := hw.B C.2.2.2.2.2
  have h25 : 3 + 1 ≤ 5 ∧ 180 + 48 ≤ 236 := by decide
  refine q_newa_14 (N' := 48) C hw (by decide) (by decide) (by decide) h25.1 h25.2 dX8_init_31 (fun H hw => ?_)
  have h30 := okc_nw (gB g) M23 14 48 hB
  have h0 := h0.up (mle_nw M23 14 48)
  generalize e28 : nw M23 14 48 = M27 at hw h30 h0
  generalize e29 : mT M23 = q26 at h30 ⊢
  replace hq := hq q26 M27 e29.symm e28.symm
  refine pfX8_21 (v := (some q26)) C hw (mle_rf _) h0 hn dX8_init_33 (fun H locs hw => ?_)
  generalize e32 : uR M27 a0 8 (some q26) = M31 at hw
  replace hq := hq M31 e32.symm
  have h0 : okc (gB g) M31 a0 8 := by rw [← e32]; exact okc_uR h0
  refine lv_aload_n hx hb dX8_init_36 rfl (lv_at hl 0 rfl) ?_
  refine lv_bipush (v := 8) hx hb dX8_init_37 (by decide) ?_
  have hB := hw.B C.2.2.2.2.2
  have h33 : 4 + 1 ≤ 5 ∧ 228 + 8 ≤ 236 := by decide
  refine q_newa_14 (N' := 8) C hw (by decide) (by decide) (by decide) h33.1 h33.2 dX8_init_39 (fun H hw => ?_)
  have h38 := okc_nw (gB g) M31 14 8 hB
  have h0 := h0.up (mle_nw M31 14 8)
  generalize e36 : nw M31 14 8 = M35 at hw h38 h0
  generalize e37 : mT M31 = q34 at h38 ⊢
  replace hq := hq q34 M35 e37.symm e36.symm
  refine pfX8_24 (v := (some q34)) C hw (mle_rf _) h0 hn dX8_init_41 (fun H locs hw => ?_)
  generalize e40 : uR M35 a0 10 (some q34) = M39 at hw
  replace hq := hq M39 e40.symm
  have h0 : okc (gB g) M39 a0 8 := by rw [← e40]; exact okc_uR h0
  have h41 : 5 ≤ 5 ∧ 236 ≤ 236 := by decide
  exact r_vret C hr hlk hw dX8_init_44 h41.1 h41.2 ⟨rfl, hq⟩

set_option maxRecDepth 100000 in
def wp_X9_isSeenBy  (g : Gh) (M0 : Mem) (a0 : Nat) (p1 : Int32) (post : Int32 → Mem → Prop) : Prop :=
  okc (gB g) M0 a0 9 ∧ ((((((mI M0 a0 5) >>> (p1 &&& 31)) &&& 1) = 1) → post 1 M0) ∧ (¬ ((((mI M0 a0 5) >>> (p1 &&& 31)) &&& 1) = 1) → post 0 M0))
set_option maxHeartbeats 4000000 in
set_option maxRecDepth 100000 in
theorem ct_X9_isSeenBy {l : Launch} {g : Gh} {M0 : Mem} {a0 : Nat} {p1 : Int32} {post : Int32 → Mem → Prop}  (hq : wp_X9_isSeenBy  g M0 a0 p1 post) : Ct l g yX9_isSeenBy cX9_isSeenBy 2 (some .boolean) 0 0 0 [.ref a0, .int p1] M0 (pI post) := by
  unfold wp_X9_isSeenBy at hq
  obtain ⟨h0, hq⟩ := hq
  refine Ct.of (by decide) (Nat.le_of_ble_eq_true rfl) ?_
  intro p e s m below meth c ls C hr hlk hn hl hw
  have hx := C.1.1
  have hb := C.1.2.1
  have hl : lv_has ls 2 [(0, .ref a0), (1, .int p1)] := hl
  refine lv_aload_n hx hb dX9_isSeenBy_0 rfl (lv_at hl 0 rfl) ?_
  refine gfX9_25 C hw hw.2.2.1 h0 dX9_isSeenBy_1 ?_
  refine lv_iload_n hx hb dX9_isSeenBy_4 rfl (lv_at hl 1 rfl) ?_
  refine lv_ishr hx hb dX9_isSeenBy_5 ?_
  refine lv_iconst (v := 1) hx hb dX9_isSeenBy_6 (by decide) ?_
  refine lv_iand hx hb dX9_isSeenBy_7 ?_
  refine lv_iconst (v := 1) hx hb dX9_isSeenBy_8 (by decide) ?_
  refine lv_icmp_ne (tgt := 16) hx hb dX9_isSeenBy_9 (by decide) (fun c1 => ?_) (fun c1 => ?_)
  · replace hq := hq.2 c1
    refine lv_iconst (v := 0) hx hb dX9_isSeenBy_16 (by decide) ?_
    exact r_zret C hr hlk hw dX9_isSeenBy_17 (Nat.le_refl _) (Nat.le_refl _) (by decide) ⟨_, rfl, hq⟩
  · replace hq := hq.1 c1
    refine lv_iconst (v := 1) hx hb dX9_isSeenBy_12 (by decide) ?_
    refine lv_goto (tgt := 17) hx hb dX9_isSeenBy_13 (by decide) ?_
    exact r_zret C hr hlk hw dX9_isSeenBy_17 (Nat.le_refl _) (Nat.le_refl _) (by decide) ⟨_, rfl, hq⟩

set_option maxRecDepth 100000 in
def wp_X9_isFreeFor  (g : Gh) (M0 : Mem) (a0 : Nat) (p1 : Int32) (p2 : Int32) (post : Int32 → Mem → Prop) : Prop :=
  okc (gB g) M0 a0 9 ∧ ((((mI M0 a0 4) = 0) → wp_X9_isSeenBy g M0 a0 p1 (fun v2 M3 => ((v2 = 0) → wp_X9_isSeenBy g M3 a0 p2 (fun v5 M6 => ((v5 = 0) → post 1 M6) ∧ (¬ (v5 = 0) → post 0 M6))) ∧ (¬ (v2 = 0) → post 0 M3))) ∧ (¬ ((mI M0 a0 4) = 0) → post 0 M0))
set_option maxHeartbeats 4000000 in
set_option maxRecDepth 100000 in
theorem ct_X9_isFreeFor {l : Launch} {g : Gh} {M0 : Mem} {a0 : Nat} {p1 : Int32} {p2 : Int32} {post : Int32 → Mem → Prop}  (hq : wp_X9_isFreeFor  g M0 a0 p1 p2 post) : Ct l g yX9_isFreeFor cX9_isFreeFor 3 (some .boolean) 1 0 0 [.ref a0, .int p1, .int p2] M0 (pI post) := by
  unfold wp_X9_isFreeFor at hq
  obtain ⟨h0, hq⟩ := hq
  refine Ct.of (by decide) (Nat.le_of_ble_eq_true rfl) ?_
  intro p e s m below meth c ls C hr hlk hn hl hw
  have hx := C.1.1
  have hb := C.1.2.1
  have hl : lv_has ls 3 [(0, .ref a0), (1, .int p1), (2, .int p2)] := hl
  refine lv_aload_n hx hb dX9_isFreeFor_0 rfl (lv_at hl 0 rfl) ?_
  refine gfX9_28 C hw hw.2.2.1 h0 dX9_isFreeFor_1 ?_
  refine lv_if_ne (tgt := 27) hx hb dX9_isFreeFor_4 (by decide) (fun c1 => ?_) (fun c1 => ?_)
  · replace hq := hq.2 c1
    refine lv_iconst (v := 0) hx hb dX9_isFreeFor_27 (by decide) ?_
    exact r_zret C hr hlk hw dX9_isFreeFor_28 (Nat.le_refl _) (Nat.le_refl _) (by decide) ⟨_, rfl, hq⟩
  · replace hq := hq.1 c1
    refine lv_aload_n hx hb dX9_isFreeFor_7 rfl (lv_at hl 0 rfl) ?_
    refine lv_iload_n hx hb dX9_isFreeFor_8 rfl (lv_at hl 1 rfl) ?_
    refine r_callV (T := TX9) (N := 6) (ci := 9) (index := 32) (n := 1) (d2 := 0) (mc := 0) (ms := 0) (As := [.int p1]) (rest := []) C hw (ct_X9_isSeenBy hq) kvX9_32 hq.1 (by decide) rfl ⟨by decide, by decide⟩ ⟨by decide, by decide⟩ rfl hl.1 rfl (Nat.le_of_ble_eq_true rfl) dX9_isFreeFor_9 (fun r M3 H locs hp hle hw => ?_)
    obtain ⟨v2, rfl, hq⟩ := hp
    refine W.eq (g2 := F0 m 12 ls [.int v2]) rfl ?_
    refine lv_if_ne (tgt := 27) hx hb dX9_isFreeFor_12 (by decide) (fun c4 => ?_) (fun c4 => ?_)
    · replace hq := hq.2 c4
      refine lv_iconst (v := 0) hx hb dX9_isFreeFor_27 (by decide) ?_
      exact r_zret C hr hlk hw dX9_isFreeFor_28 (Nat.le_refl _) (Nat.le_refl _) (by decide) ⟨_, rfl, hq⟩
    · replace hq := hq.1 c4
      refine lv_aload_n hx hb dX9_isFreeFor_15 rfl (lv_at hl 0 rfl) ?_
      refine lv_iload_n hx hb dX9_isFreeFor_16 rfl (lv_at hl 2 rfl) ?_
      refine r_callV (T := TX9) (N := 6) (ci := 9) (index := 32) (n := 1) (d2 := 0) (mc := 0) (ms := 0) (As := [.int p2]) (rest := []) C hw (ct_X9_isSeenBy hq) kvX9_32 hq.1 (by decide) rfl ⟨by decide, by decide⟩ ⟨by decide, by decide⟩ rfl hl.1 rfl (Nat.le_of_ble_eq_true rfl) dX9_isFreeFor_17 (fun r M6 H locs hp hle hw => ?_)
      obtain ⟨v5, rfl, hq⟩ := hp
      refine W.eq (g2 := F0 m 20 ls [.int v5]) rfl ?_
      refine lv_if_ne (tgt := 27) hx hb dX9_isFreeFor_20 (by decide) (fun c7 => ?_) (fun c7 => ?_)
      · replace hq := hq.2 c7
        refine lv_iconst (v := 0) hx hb dX9_isFreeFor_27 (by decide) ?_
        exact r_zret C hr hlk hw dX9_isFreeFor_28 (Nat.le_refl _) (Nat.le_refl _) (by decide) ⟨_, rfl, hq⟩
      · replace hq := hq.1 c7
        refine lv_iconst (v := 1) hx hb dX9_isFreeFor_23 (by decide) ?_
        refine lv_goto (tgt := 28) hx hb dX9_isFreeFor_24 (by decide) ?_
        exact r_zret C hr hlk hw dX9_isFreeFor_28 (Nat.le_refl _) (Nat.le_refl _) (by decide) ⟨_, rfl, hq⟩

set_option maxRecDepth 100000 in
def wp_X9_hard  (g : Gh) (M0 : Mem) (a0 : Nat) (post : Int32 → Mem → Prop) : Prop :=
  okc (gB g) M0 a0 9 ∧ ((((mI M0 a0 2) ≤ 0) → post 50 M0) ∧ (¬ ((mI M0 a0 2) ≤ 0) → (¬ (mI M0 a0 2) = 0) ∧ (post (((mI M0 a0 3) * 100) / (mI M0 a0 2)) M0)))
set_option maxHeartbeats 4000000 in
set_option maxRecDepth 100000 in
theorem ct_X9_hard {l : Launch} {g : Gh} {M0 : Mem} {a0 : Nat} {post : Int32 → Mem → Prop}  (hq : wp_X9_hard  g M0 a0 post) : Ct l g yX9_hard cX9_hard 1 (some .int) 0 0 0 [.ref a0] M0 (pI post) := by
  unfold wp_X9_hard at hq
  obtain ⟨h0, hq⟩ := hq
  refine Ct.of (by decide) (Nat.le_of_ble_eq_true rfl) ?_
  intro p e s m below meth c ls C hr hlk hn hl hw
  have hx := C.1.1
  have hb := C.1.2.1
  have hl : lv_has ls 1 [(0, .ref a0)] := hl
  refine lv_aload_n hx hb dX9_hard_0 rfl (lv_at hl 0 rfl) ?_
  refine gfX9_19 C hw hw.2.2.1 h0 dX9_hard_1 ?_
  refine lv_if_le (tgt := 22) hx hb dX9_hard_4 (by decide) (fun c1 => ?_) (fun c1 => ?_)
  · replace hq := hq.1 c1
    refine lv_bipush (v := 50) hx hb dX9_hard_22 (by decide) ?_
    exact r_iret C hr hlk hw dX9_hard_24 (Nat.le_refl _) (Nat.le_refl _) ⟨_, rfl, hq⟩
  · replace hq := hq.2 c1
    refine lv_aload_n hx hb dX9_hard_7 rfl (lv_at hl 0 rfl) ?_
    refine gfX9_22 C hw hw.2.2.1 h0 dX9_hard_8 ?_
    refine lv_bipush (v := 100) hx hb dX9_hard_11 (by decide) ?_
    refine lv_imul hx hb dX9_hard_13 ?_
    refine lv_aload_n hx hb dX9_hard_14 rfl (lv_at hl 0 rfl) ?_
    refine gfX9_19 C hw hw.2.2.1 h0 dX9_hard_15 ?_
    obtain ⟨h2, hq⟩ := hq
    refine lv_idiv hx hb dX9_hard_18 h2 ?_
    refine lv_goto (tgt := 24) hx hb dX9_hard_19 (by decide) ?_
    exact r_iret C hr hlk hw dX9_hard_24 (Nat.le_refl _) (Nat.le_refl _) ⟨_, rfl, hq⟩
