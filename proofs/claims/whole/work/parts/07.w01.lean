set_option maxRecDepth 100000 in
def wp_X2_closeBracket  (g : Gh) (M0 : Mem) (a0 : Nat) (p1 : Int32) (post : Int32 → Mem → Prop) : Prop :=
  okc (gB g) M0 a0 2 ∧ (wp_X2_isInnermost g M0 a0 p1 (fun v1 M2 => ((v1 = 0) → post 1 M2) ∧ (¬ (v1 = 0) → ∀ M4, M4 = uI M2 a0 6 ((mI M2 a0 6) - 1) → (wp_X2_addItem g M4 a0 p1 0 (fun M7 => ∀ M8, M8 = uI M7 a0 7 1 → (post 0 M8))))))
set_option maxHeartbeats 4000000 in
set_option maxRecDepth 100000 in
theorem ct_X2_closeBracket {l : Launch} {g : Gh} {M0 : Mem} {a0 : Nat} {p1 : Int32} {post : Int32 → Mem → Prop}  (hq : wp_X2_closeBracket  g M0 a0 p1 post) : Ct l g yX2_closeBracket cX2_closeBracket 2 (some .int) 1 0 0 [.ref a0, .int p1] M0 (pI post) := by
  unfold wp_X2_closeBracket at hq
  obtain ⟨h0, hq⟩ := hq
  refine Ct.of (by decide) (Nat.le_of_ble_eq_true rfl) ?_
  intro p e s m below meth c ls C hr hlk hn hl hw
  have hx := C.1.1
  have hb := C.1.2.1
  have hl : lv_has ls 2 [(0, .ref a0), (1, .int p1)] := hl
  refine lv_aload_n hx hb dX2_closeBracket_0 rfl (lv_at hl 0 rfl) ?_
  refine lv_iload_n hx hb dX2_closeBracket_1 rfl (lv_at hl 1 rfl) ?_
  refine r_callV (T := TX2) (N := 10) (ci := 2) (index := 103) (n := 1) (d2 := 0) (mc := 0) (ms := 0) (As := [.int p1]) (rest := []) C hw (ct_X2_isInnermost hq) kvX2_103 hq.1 (by decide) rfl ⟨by decide, by decide⟩ ⟨by decide, by decide⟩ rfl hl.1 rfl (Nat.le_of_ble_eq_true rfl) dX2_closeBracket_2 (fun r M2 H locs hp hle hw => ?_)
  obtain ⟨v1, rfl, hq⟩ := hp
  refine W.eq (g2 := F0 m 5 ls [.int v1]) rfl ?_
  refine lv_if_ne (tgt := 10) hx hb dX2_closeBracket_5 (by decide) (fun c3 => ?_) (fun c3 => ?_)
  · replace hq := hq.2 c3
    refine lv_aload_n hx hb dX2_closeBracket_10 rfl (lv_at hl 0 rfl) ?_
    refine lv_dup hx hb dX2_closeBracket_11 rfl ?_
    refine gfX2_35 C hw hw.2.2.1 h0 dX2_closeBracket_12 ?_
    refine lv_iconst (v := 1) hx hb dX2_closeBracket_15 (by decide) ?_
    refine lv_isub hx hb dX2_closeBracket_16 ?_
    refine pfX2_35 C hw hw.2.2.1 h0 dX2_closeBracket_17 (fun H locs hw => ?_)
    generalize e5 : uI M2 a0 6 ((mI M2 a0 6) - 1) = M4 at hw
    replace hq := hq M4 e5.symm
    refine lv_aload_n hx hb dX2_closeBracket_20 rfl (lv_at hl 0 rfl) ?_
    refine lv_iload_n hx hb dX2_closeBracket_21 rfl (lv_at hl 1 rfl) ?_
    refine lv_lconst (v := 0) hx hb dX2_closeBracket_22 (by decide) ?_
    refine r_callV (T := TX2) (N := 10) (ci := 2) (index := 85) (n := 2) (d2 := 0) (mc := 0) (ms := 0) (As := [.int p1, .long 0]) (rest := []) C hw (ct_X2_addItem hq) kvX2_85 hq.1 (by decide) rfl ⟨by decide, by decide⟩ ⟨by decide, by decide⟩ rfl hl.1 rfl (Nat.le_of_ble_eq_true rfl) dX2_closeBracket_23 (fun r M7 H locs hp hle hw => ?_)
    obtain ⟨rfl, hq⟩ := hp
    refine W.eq (g2 := F0 m 26 ls []) rfl ?_
    refine lv_aload_n hx hb dX2_closeBracket_26 rfl (lv_at hl 0 rfl) ?_
    refine lv_iconst (v := 1) hx hb dX2_closeBracket_27 (by decide) ?_
    refine pfX2_38 C hw hw.2.2.1 h0 dX2_closeBracket_28 (fun H locs hw => ?_)
    generalize e9 : uI M7 a0 7 1 = M8 at hw
    replace hq := hq M8 e9.symm
    refine lv_iconst (v := 0) hx hb dX2_closeBracket_31 (by decide) ?_
    exact r_iret C hr hlk hw dX2_closeBracket_32 (Nat.le_refl _) (Nat.le_refl _) ⟨_, rfl, hq⟩
  · replace hq := hq.1 c3
    refine lv_iconst (v := 1) hx hb dX2_closeBracket_8 (by decide) ?_
    exact r_iret C hr hlk hw dX2_closeBracket_9 (Nat.le_refl _) (Nat.le_refl _) ⟨_, rfl, hq⟩

set_option maxRecDepth 100000 in
def wp_X2_faultBehindPart  (g : Gh) (M0 : Mem) (a0 : Nat) (p1 : Int32) (post : Int32 → Mem → Prop) : Prop :=
  okc (gB g) M0 a0 2 ∧ (((p1 = 0) → (((mI M0 a0 6) = 0) → post 0 M0) ∧ (¬ ((mI M0 a0 6) = 0) → post 1 M0)) ∧ ((p1 = 41) → wp_X2_closeBracket g M0 a0 p1 (fun v3 M4 => post v3 M4)) ∧ ((p1 = 44) → wp_X2_nextOfSet g M0 a0 p1 (fun v5 M6 => post v5 M6)) ∧ ((p1 = 46) → (((mI M0 a0 7) = 2) → ∀ M8, M8 = uI M0 a0 7 3 → (post 0 M8)) ∧ (¬ ((mI M0 a0 7) = 2) → post 1 M0)) ∧ ((p1 = 93) → wp_X2_closeBracket g M0 a0 p1 (fun v10 M11 => post v10 M11)) ∧ ((p1 = 124) → wp_X2_addItem g M0 a0 p1 0 (fun M13 => ∀ M14, M14 = uI M13 a0 7 0 → (post 0 M14))) ∧ ((p1 = 125) → wp_X2_closeBracket g M0 a0 p1 (fun v16 M17 => post v16 M17)) ∧ ((¬ (p1 = 0) ∧ ¬ (p1 = 41) ∧ ¬ (p1 = 44) ∧ ¬ (p1 = 46) ∧ ¬ (p1 = 93) ∧ ¬ (p1 = 124) ∧ ¬ (p1 = 125)) → post 1 M0))
set_option maxHeartbeats 4000000 in
set_option maxRecDepth 100000 in
theorem ct_X2_faultBehindPart {l : Launch} {g : Gh} {M0 : Mem} {a0 : Nat} {p1 : Int32} {post : Int32 → Mem → Prop}  (hq : wp_X2_faultBehindPart  g M0 a0 p1 post) : Ct l g yX2_faultBehindPart cX2_faultBehindPart 2 (some .int) 2 0 0 [.ref a0, .int p1] M0 (pI post) := by
  unfold wp_X2_faultBehindPart at hq
  obtain ⟨h0, hq⟩ := hq
  refine Ct.of (by decide) (Nat.le_of_ble_eq_true rfl) ?_
  intro p e s m below meth c ls C hr hlk hn hl hw
  have hx := C.1.1
  have hb := C.1.2.1
  have hl : lv_has ls 2 [(0, .ref a0), (1, .int p1)] := hl
  refine lv_iload_n hx hb dX2_faultBehindPart_0 rfl (lv_at hl 1 rfl) ?_
  by_cases c18 : p1 = 0
  · refine r_lookup (v := 0) (off := 67) (tgt := 68) hx hb dX2_faultBehindPart_1 (by decide) c18 (by decide +kernel) (by decide) ?_
    replace hq := hq.1 c18
    refine lv_aload_n hx hb dX2_faultBehindPart_68 rfl (lv_at hl 0 rfl) ?_
    refine gfX2_35 C hw hw.2.2.1 h0 dX2_faultBehindPart_69 ?_
    refine lv_if_ne (tgt := 79) hx hb dX2_faultBehindPart_72 (by decide) (fun c2 => ?_) (fun c2 => ?_)
    · replace hq := hq.2 c2
      refine lv_iconst (v := 1) hx hb dX2_faultBehindPart_79 (by decide) ?_
      exact r_iret C hr hlk hw dX2_faultBehindPart_80 (Nat.le_refl _) (Nat.le_refl _) ⟨_, rfl, hq⟩
    · replace hq := hq.1 c2
      refine lv_iconst (v := 0) hx hb dX2_faultBehindPart_75 (by decide) ?_
      refine lv_goto (tgt := 80) hx hb dX2_faultBehindPart_76 (by decide) ?_
      exact r_iret C hr hlk hw dX2_faultBehindPart_80 (Nat.le_refl _) (Nat.le_refl _) ⟨_, rfl, hq⟩
  by_cases c19 : p1 = 41
  · refine r_lookup (v := 41) (off := 116) (tgt := 117) hx hb dX2_faultBehindPart_1 (by decide) c19 (by decide +kernel) (by decide) ?_
    replace hq := hq.2.1 c19
    refine lv_aload_n hx hb dX2_faultBehindPart_117 rfl (lv_at hl 0 rfl) ?_
    refine lv_iload_n hx hb dX2_faultBehindPart_118 rfl (lv_at hl 1 rfl) ?_
    refine r_callV (T := TX2) (N := 10) (ci := 2) (index := 100) (n := 1) (d2 := 1) (mc := 0) (ms := 0) (As := [.int p1]) (rest := []) C hw (ct_X2_closeBracket hq) kvX2_100 hq.1 (by decide) rfl ⟨by decide, by decide⟩ ⟨by decide, by decide⟩ rfl hl.1 rfl (Nat.le_of_ble_eq_true rfl) dX2_faultBehindPart_119 (fun r M4 H locs hp hle hw => ?_)
    obtain ⟨v3, rfl, hq⟩ := hp
    refine W.eq (g2 := F0 m 122 ls [.int v3]) rfl ?_
    exact r_iret C hr hlk hw dX2_faultBehindPart_122 (Nat.le_refl _) (Nat.le_refl _) ⟨_, rfl, hq⟩
  by_cases c20 : p1 = 44
  · refine r_lookup (v := 44) (off := 110) (tgt := 111) hx hb dX2_faultBehindPart_1 (by decide) c20 (by decide +kernel) (by decide) ?_
    replace hq := hq.2.2.1 c20
    refine lv_aload_n hx hb dX2_faultBehindPart_111 rfl (lv_at hl 0 rfl) ?_
    refine lv_iload_n hx hb dX2_faultBehindPart_112 rfl (lv_at hl 1 rfl) ?_
    refine r_callV (T := TX2) (N := 10) (ci := 2) (index := 97) (n := 1) (d2 := 1) (mc := 0) (ms := 0) (As := [.int p1]) (rest := []) C hw (ct_X2_nextOfSet hq) kvX2_97 hq.1 (by decide) rfl ⟨by decide, by decide⟩ ⟨by decide, by decide⟩ rfl hl.1 rfl (Nat.le_of_ble_eq_true rfl) dX2_faultBehindPart_113 (fun r M6 H locs hp hle hw => ?_)
    obtain ⟨v5, rfl, hq⟩ := hp
    refine W.eq (g2 := F0 m 116 ls [.int v5]) rfl ?_
    exact r_iret C hr hlk hw dX2_faultBehindPart_116 (Nat.le_refl _) (Nat.le_refl _) ⟨_, rfl, hq⟩
  by_cases c21 : p1 = 46
  · refine r_lookup (v := 46) (off := 80) (tgt := 81) hx hb dX2_faultBehindPart_1 (by decide) c21 (by decide +kernel) (by decide) ?_
    replace hq := hq.2.2.2.1 c21
    refine lv_aload_n hx hb dX2_faultBehindPart_81 rfl (lv_at hl 0 rfl) ?_
    refine gfX2_38 C hw hw.2.2.1 h0 dX2_faultBehindPart_82 ?_
    refine lv_iconst (v := 2) hx hb dX2_faultBehindPart_85 (by decide) ?_
    refine lv_icmp_eq (tgt := 91) hx hb dX2_faultBehindPart_86 (by decide) (fun c7 => ?_) (fun c7 => ?_)
    · replace hq := hq.1 c7
      refine lv_aload_n hx hb dX2_faultBehindPart_91 rfl (lv_at hl 0 rfl) ?_
      refine lv_iconst (v := 3) hx hb dX2_faultBehindPart_92 (by decide) ?_
      refine pfX2_38 C hw hw.2.2.1 h0 dX2_faultBehindPart_93 (fun H locs hw => ?_)
      generalize e9 : uI M0 a0 7 3 = M8 at hw
      replace hq := hq M8 e9.symm
      refine lv_iconst (v := 0) hx hb dX2_faultBehindPart_96 (by decide) ?_
      exact r_iret C hr hlk hw dX2_faultBehindPart_97 (Nat.le_refl _) (Nat.le_refl _) ⟨_, rfl, hq⟩
    · replace hq := hq.2 c7
      refine lv_iconst (v := 1) hx hb dX2_faultBehindPart_89 (by decide) ?_
      exact r_iret C hr hlk hw dX2_faultBehindPart_90 (Nat.le_refl _) (Nat.le_refl _) ⟨_, rfl, hq⟩
  by_cases c22 : p1 = 93
  · refine r_lookup (v := 93) (off := 116) (tgt := 117) hx hb dX2_faultBehindPart_1 (by decide) c22 (by decide +kernel) (by decide) ?_
    replace hq := hq.2.2.2.2.1 c22
    refine lv_aload_n hx hb dX2_faultBehindPart_117 rfl (lv_at hl 0 rfl) ?_
    refine lv_iload_n hx hb dX2_faultBehindPart_118 rfl (lv_at hl 1 rfl) ?_
    refine r_callV (T := TX2) (N := 10) (ci := 2) (index := 100) (n := 1) (d2 := 1) (mc := 0) (ms := 0) (As := [.int p1]) (rest := []) C hw (ct_X2_closeBracket hq) kvX2_100 hq.1 (by decide) rfl ⟨by decide, by decide⟩ ⟨by decide, by decide⟩ rfl hl.1 rfl (Nat.le_of_ble_eq_true rfl) dX2_faultBehindPart_119 (fun r M11 H locs hp hle hw => ?_)
    obtain ⟨v10, rfl, hq⟩ := hp
    refine W.eq (g2 := F0 m 122 ls [.int v10]) rfl ?_
    exact r_iret C hr hlk hw dX2_faultBehindPart_122 (Nat.le_refl _) (Nat.le_refl _) ⟨_, rfl, hq⟩
  by_cases c23 : p1 = 124
  · refine r_lookup (v := 124) (off := 97) (tgt := 98) hx hb dX2_faultBehindPart_1 (by decide) c23 (by decide +kernel) (by decide) ?_
    replace hq := hq.2.2.2.2.2.1 c23
    refine lv_aload_n hx hb dX2_faultBehindPart_98 rfl (lv_at hl 0 rfl) ?_
    refine lv_iload_n hx hb dX2_faultBehindPart_99 rfl (lv_at hl 1 rfl) ?_
    refine lv_lconst (v := 0) hx hb dX2_faultBehindPart_100 (by decide) ?_
    refine r_callV (T := TX2) (N := 10) (ci := 2) (index := 85) (n := 2) (d2 := 0) (mc := 0) (ms := 0) (As := [.int p1, .long 0]) (rest := []) C hw (ct_X2_addItem hq) kvX2_85 hq.1 (by decide) rfl ⟨by decide, by decide⟩ ⟨by decide, by decide⟩ rfl hl.1 rfl (Nat.le_of_ble_eq_true rfl) dX2_faultBehindPart_101 (fun r M13 H locs hp hle hw => ?_)
    obtain ⟨rfl, hq⟩ := hp
    refine W.eq (g2 := F0 m 104 ls []) rfl ?_
    refine lv_aload_n hx hb dX2_faultBehindPart_104 rfl (lv_at hl 0 rfl) ?_
    refine lv_iconst (v := 0) hx hb dX2_faultBehindPart_105 (by decide) ?_
    refine pfX2_38 C hw hw.2.2.1 h0 dX2_faultBehindPart_106 (fun H locs hw => ?_)
    generalize e15 : uI M13 a0 7 0 = M14 at hw
    replace hq := hq M14 e15.symm
    refine lv_iconst (v := 0) hx hb dX2_faultBehindPart_109 (by decide) ?_
    exact r_iret C hr hlk hw dX2_faultBehindPart_110 (Nat.le_refl _) (Nat.le_refl _) ⟨_, rfl, hq⟩
  by_cases c24 : p1 = 125
  · refine r_lookup (v := 125) (off := 116) (tgt := 117) hx hb dX2_faultBehindPart_1 (by decide) c24 (by decide +kernel) (by decide) ?_
    replace hq := hq.2.2.2.2.2.2.1 c24
    refine lv_aload_n hx hb dX2_faultBehindPart_117 rfl (lv_at hl 0 rfl) ?_
    refine lv_iload_n hx hb dX2_faultBehindPart_118 rfl (lv_at hl 1 rfl) ?_
    refine r_callV (T := TX2) (N := 10) (ci := 2) (index := 100) (n := 1) (d2 := 1) (mc := 0) (ms := 0) (As := [.int p1]) (rest := []) C hw (ct_X2_closeBracket hq) kvX2_100 hq.1 (by decide) rfl ⟨by decide, by decide⟩ ⟨by decide, by decide⟩ rfl hl.1 rfl (Nat.le_of_ble_eq_true rfl) dX2_faultBehindPart_119 (fun r M17 H locs hp hle hw => ?_)
    obtain ⟨v16, rfl, hq⟩ := hp
    refine W.eq (g2 := F0 m 122 ls [.int v16]) rfl ?_
    exact r_iret C hr hlk hw dX2_faultBehindPart_122 (Nat.le_refl _) (Nat.le_refl _) ⟨_, rfl, hq⟩
  refine r_lookupOut (tgt := 123) hx hb dX2_faultBehindPart_1 (by decide) (List.forall_mem_cons.mpr ⟨fun h => c18 (Int32.toInt_inj.mp (h.trans (show (0 : Int) = (0 : Int32).toInt by decide))), List.forall_mem_cons.mpr ⟨fun h => c19 (Int32.toInt_inj.mp (h.trans (show (41 : Int) = (41 : Int32).toInt by decide))), List.forall_mem_cons.mpr ⟨fun h => c20 (Int32.toInt_inj.mp (h.trans (show (44 : Int) = (44 : Int32).toInt by decide))), List.forall_mem_cons.mpr ⟨fun h => c21 (Int32.toInt_inj.mp (h.trans (show (46 : Int) = (46 : Int32).toInt by decide))), List.forall_mem_cons.mpr ⟨fun h => c22 (Int32.toInt_inj.mp (h.trans (show (93 : Int) = (93 : Int32).toInt by decide))), List.forall_mem_cons.mpr ⟨fun h => c23 (Int32.toInt_inj.mp (h.trans (show (124 : Int) = (124 : Int32).toInt by decide))), List.forall_mem_cons.mpr ⟨fun h => c24 (Int32.toInt_inj.mp (h.trans (show (125 : Int) = (125 : Int32).toInt by decide))), List.forall_mem_nil _⟩⟩⟩⟩⟩⟩⟩) (by decide) ?_
  replace hq := hq.2.2.2.2.2.2.2 ⟨c18, c19, c20, c21, c22, c23, c24⟩
  refine lv_iconst (v := 1) hx hb dX2_faultBehindPart_123 (by decide) ?_
  exact r_iret C hr hlk hw dX2_faultBehindPart_124 (Nat.le_refl _) (Nat.le_refl _) ⟨_, rfl, hq⟩

set_option maxRecDepth 100000 in
def wp_X2_faultOf  (g : Gh) (M0 : Mem) (a0 : Nat) (p1 : Int32) (p2 : Int64) (post : Int32 → Mem → Prop) : Prop :=
  okc (gB g) M0 a0 2 ∧ ((((mI M0 a0 7) = 3) → wp_X2_closeRange g M0 a0 p1 p2 (fun v25 M26 => post v25 M26)) ∧ (¬ ((mI M0 a0 7) = 3) → ((p1 = 1) → wp_X2_addItem g M0 a0 p1 p2 (fun M4 => ∀ M5, M5 = uI M4 a0 7 1 → (post 0 M5))) ∧ ((p1 = 2) → wp_X2_addItem g M0 a0 p1 p2 (fun M8 => ∀ M9, M9 = uI M8 a0 7 2 → (post 0 M9))) ∧ ((p1 = 40) → wp_X2_openBracket g M0 a0 p1 41 (fun v11 M12 => post v11 M12)) ∧ ((p1 = 91) → wp_X2_openBracket g M0 a0 p1 93 (fun v13 M14 => post v13 M14)) ∧ ((p1 = 123) → wp_X2_openBracket g M0 a0 p1 125 (fun v15 M16 => post v15 M16)) ∧ ((¬ (p1 = 1) ∧ ¬ (p1 = 2) ∧ ¬ (p1 = 40) ∧ ¬ (p1 = 91) ∧ ¬ (p1 = 123)) → (((mI M0 a0 7) = 0) → post 1 M0) ∧ (¬ ((mI M0 a0 7) = 0) → wp_X2_faultBehindPart g M0 a0 p1 (fun v18 M19 => post v18 M19)))))
set_option maxHeartbeats 4000000 in
set_option maxRecDepth 100000 in
theorem ct_X2_faultOf {l : Launch} {g : Gh} {M0 : Mem} {a0 : Nat} {p1 : Int32} {p2 : Int64} {post : Int32 → Mem → Prop}  (hq : wp_X2_faultOf  g M0 a0 p1 p2 post) : Ct l g yX2_faultOf cX2_faultOf 4 (some .int) 3 0 0 [.ref a0, .int p1, .long p2] M0 (pI post) := by
  unfold wp_X2_faultOf at hq
  obtain ⟨h0, hq⟩ := hq
  refine Ct.of (by decide) (Nat.le_of_ble_eq_true rfl) ?_
  intro p e s m below meth c ls C hr hlk hn hl hw
  have hx := C.1.1
  have hb := C.1.2.1
  have hl : lv_has ls 4 [(0, .ref a0), (1, .int p1), (2, .long p2)] := hl
  refine lv_aload_n hx hb dX2_faultOf_0 rfl (lv_at hl 0 rfl) ?_
  refine gfX2_38 C hw hw.2.2.1 h0 dX2_faultOf_1 ?_
  refine lv_iconst (v := 3) hx hb dX2_faultOf_4 (by decide) ?_
  refine lv_icmp_ne (tgt := 15) hx hb dX2_faultOf_5 (by decide) (fun c1 => ?_) (fun c1 => ?_)
  · replace hq := hq.2 c1
    refine lv_iload_n hx hb dX2_faultOf_15 rfl (lv_at hl 1 rfl) ?_
    by_cases c20 : p1 = 1
    · refine r_lookup (v := 1) (off := 52) (tgt := 68) hx hb dX2_faultOf_16 (by decide) c20 (by decide +kernel) (by decide) ?_
      replace hq := hq.1 c20
      refine lv_aload_n hx hb dX2_faultOf_68 rfl (lv_at hl 0 rfl) ?_
      refine lv_iload_n hx hb dX2_faultOf_69 rfl (lv_at hl 1 rfl) ?_
      refine lv_lload_n hx hb dX2_faultOf_70 rfl (lv_at hl 2 rfl) ?_
      refine r_callV (T := TX2) (N := 10) (ci := 2) (index := 85) (n := 2) (d2 := 0) (mc := 0) (ms := 0) (As := [.int p1, .long p2]) (rest := []) C hw (ct_X2_addItem hq) kvX2_85 hq.1 (by decide) rfl ⟨by decide, by decide⟩ ⟨by decide, by decide⟩ rfl hl.1 rfl (Nat.le_of_ble_eq_true rfl) dX2_faultOf_71 (fun r M4 H locs hp hle hw => ?_)
      obtain ⟨rfl, hq⟩ := hp
      refine W.eq (g2 := F0 m 74 ls []) rfl ?_
      refine lv_aload_n hx hb dX2_faultOf_74 rfl (lv_at hl 0 rfl) ?_
      refine lv_iconst (v := 1) hx hb dX2_faultOf_75 (by decide) ?_
      refine pfX2_38 C hw hw.2.2.1 h0 dX2_faultOf_76 (fun H locs hw => ?_)
      generalize e6 : uI M4 a0 7 1 = M5 at hw
      replace hq := hq M5 e6.symm
      refine lv_iconst (v := 0) hx hb dX2_faultOf_79 (by decide) ?_
      exact r_iret C hr hlk hw dX2_faultOf_80 (Nat.le_refl _) (Nat.le_refl _) ⟨_, rfl, hq⟩
    by_cases c21 : p1 = 2
    · refine r_lookup (v := 2) (off := 65) (tgt := 81) hx hb dX2_faultOf_16 (by decide) c21 (by decide +kernel) (by decide) ?_
      replace hq := hq.2.1 c21
      refine lv_aload_n hx hb dX2_faultOf_81 rfl (lv_at hl 0 rfl) ?_
      refine lv_iload_n hx hb dX2_faultOf_82 rfl (lv_at hl 1 rfl) ?_
      refine lv_lload_n hx hb dX2_faultOf_83 rfl (lv_at hl 2 rfl) ?_
      refine r_callV (T := TX2) (N := 10) (ci := 2) (index := 85) (n := 2) (d2 := 0) (mc := 0) (ms := 0) (As := [.int p1, .long p2]) (rest := []) C hw (ct_X2_addItem hq) kvX2_85 hq.1 (by decide) rfl ⟨by decide, by decide⟩ ⟨by decide, by decide⟩ rfl hl.1 rfl (Nat.le_of_ble_eq_true rfl) dX2_faultOf_84 (fun r M8 H locs hp hle hw => ?_)
      obtain ⟨rfl, hq⟩ := hp
      refine W.eq (g2 := F0 m 87 ls []) rfl ?_
      refine lv_aload_n hx hb dX2_faultOf_87 rfl (lv_at hl 0 rfl) ?_
      refine lv_iconst (v := 2) hx hb dX2_faultOf_88 (by decide) ?_
      refine pfX2_38 C hw hw.2.2.1 h0 dX2_faultOf_89 (fun H locs hw => ?_)
      generalize e10 : uI M8 a0 7 2 = M9 at hw
      replace hq := hq M9 e10.symm
      refine lv_iconst (v := 0) hx hb dX2_faultOf_92 (by decide) ?_
      exact r_iret C hr hlk hw dX2_faultOf_93 (Nat.le_refl _) (Nat.le_refl _) ⟨_, rfl, hq⟩
    by_cases c22 : p1 = 40
    · refine r_lookup (v := 40) (off := 86) (tgt := 102) hx hb dX2_faultOf_16 (by decide) c22 (by decide +kernel) (by decide) ?_
      replace hq := hq.2.2.1 c22
      refine lv_aload_n hx hb dX2_faultOf_102 rfl (lv_at hl 0 rfl) ?_
      refine lv_iload_n hx hb dX2_faultOf_103 rfl (lv_at hl 1 rfl) ?_
      refine lv_bipush (v := 41) hx hb dX2_faultOf_104 (by decide) ?_
      refine r_callV (T := TX2) (N := 10) (ci := 2) (index := 89) (n := 2) (d2 := 1) (mc := 0) (ms := 0) (As := [.int p1, .int 41]) (rest := []) C hw (ct_X2_openBracket hq) kvX2_89 hq.1 (by decide) rfl ⟨by decide, by decide⟩ ⟨by decide, by decide⟩ rfl hl.1 rfl (Nat.le_of_ble_eq_true rfl) dX2_faultOf_106 (fun r M12 H locs hp hle hw => ?_)
      obtain ⟨v11, rfl, hq⟩ := hp
      refine W.eq (g2 := F0 m 109 ls [.int v11]) rfl ?_
      exact r_iret C hr hlk hw dX2_faultOf_109 (Nat.le_refl _) (Nat.le_refl _) ⟨_, rfl, hq⟩
    by_cases c23 : p1 = 91
    · refine r_lookup (v := 91) (off := 78) (tgt := 94) hx hb dX2_faultOf_16 (by decide) c23 (by decide +kernel) (by decide) ?_
      replace hq := hq.2.2.2.1 c23
      refine lv_aload_n hx hb dX2_faultOf_94 rfl (lv_at hl 0 rfl) ?_
      refine lv_iload_n hx hb dX2_faultOf_95 rfl (lv_at hl 1 rfl) ?_
      refine lv_bipush (v := 93) hx hb dX2_faultOf_96 (by decide) ?_
      refine r_callV (T := TX2) (N := 10) (ci := 2) (index := 89) (n := 2) (d2 := 1) (mc := 0) (ms := 0) (As := [.int p1, .int 93]) (rest := []) C hw (ct_X2_openBracket hq) kvX2_89 hq.1 (by decide) rfl ⟨by decide, by decide⟩ ⟨by decide, by decide⟩ rfl hl.1 rfl (Nat.le_of_ble_eq_true rfl) dX2_faultOf_98 (fun r M14 H locs hp hle hw => ?_)
      obtain ⟨v13, rfl, hq⟩ := hp
      refine W.eq (g2 := F0 m 101 ls [.int v13]) rfl ?_
      exact r_iret C hr hlk hw dX2_faultOf_101 (Nat.le_refl _) (Nat.le_refl _) ⟨_, rfl, hq⟩
    by_cases c24 : p1 = 123
    · refine r_lookup (v := 123) (off := 94) (tgt := 110) hx hb dX2_faultOf_16 (by decide) c24 (by decide +kernel) (by decide) ?_
      replace hq := hq.2.2.2.2.1 c24
      refine lv_aload_n hx hb dX2_faultOf_110 rfl (lv_at hl 0 rfl) ?_
      refine lv_iload_n hx hb dX2_faultOf_111 rfl (lv_at hl 1 rfl) ?_
      refine lv_bipush (v := 125) hx hb dX2_faultOf_112 (by decide) ?_
      refine r_callV (T := TX2) (N := 10) (ci := 2) (index := 89) (n := 2) (d2 := 1) (mc := 0) (ms := 0) (As := [.int p1, .int 125]) (rest := []) C hw (ct_X2_openBracket hq) kvX2_89 hq.1 (by decide) rfl ⟨by decide, by decide⟩ ⟨by decide, by decide⟩ rfl hl.1 rfl (Nat.le_of_ble_eq_true rfl) dX2_faultOf_114 (fun r M16 H locs hp hle hw => ?_)
      obtain ⟨v15, rfl, hq⟩ := hp
      refine W.eq (g2 := F0 m 117 ls [.int v15]) rfl ?_
      exact r_iret C hr hlk hw dX2_faultOf_117 (Nat.le_refl _) (Nat.le_refl _) ⟨_, rfl, hq⟩
    refine r_lookupOut (tgt := 118) hx hb dX2_faultOf_16 (by decide) (List.forall_mem_cons.mpr ⟨fun h => c20 (Int32.toInt_inj.mp (h.trans (show (1 : Int) = (1 : Int32).toInt by decide))), List.forall_mem_cons.mpr ⟨fun h => c21 (Int32.toInt_inj.mp (h.trans (show (2 : Int) = (2 : Int32).toInt by decide))), List.forall_mem_cons.mpr ⟨fun h => c22 (Int32.toInt_inj.mp (h.trans (show (40 : Int) = (40 : Int32).toInt by decide))), List.forall_mem_cons.mpr ⟨fun h => c23 (Int32.toInt_inj.mp (h.trans (show (91 : Int) = (91 : Int32).toInt by decide))), List.forall_mem_cons.mpr ⟨fun h => c24 (Int32.toInt_inj.mp (h.trans (show (123 : Int) = (123 : Int32).toInt by decide))), List.forall_mem_nil _⟩⟩⟩⟩⟩) (by decide) ?_
    replace hq := hq.2.2.2.2.2 ⟨c20, c21, c22, c23, c24⟩
    refine lv_aload_n hx hb dX2_faultOf_118 rfl (lv_at hl 0 rfl) ?_
    refine gfX2_38 C hw hw.2.2.1 h0 dX2_faultOf_119 ?_
    refine lv_if_ne (tgt := 129) hx hb dX2_faultOf_122 (by decide) (fun c17 => ?_) (fun c17 => ?_)
    · replace hq := hq.2 c17
      refine lv_aload_n hx hb dX2_faultOf_129 rfl (lv_at hl 0 rfl) ?_
      refine lv_iload_n hx hb dX2_faultOf_130 rfl (lv_at hl 1 rfl) ?_
      refine r_callV (T := TX2) (N := 10) (ci := 2) (index := 93) (n := 1) (d2 := 2) (mc := 0) (ms := 0) (As := [.int p1]) (rest := []) C hw (ct_X2_faultBehindPart hq) kvX2_93 hq.1 (by decide) rfl ⟨by decide, by decide⟩ ⟨by decide, by decide⟩ rfl hl.1 rfl (Nat.le_of_ble_eq_true rfl) dX2_faultOf_131 (fun r M19 H locs hp hle hw => ?_)
      obtain ⟨v18, rfl, hq⟩ := hp
      refine W.eq (g2 := F0 m 134 ls [.int v18]) rfl ?_
      exact r_iret C hr hlk hw dX2_faultOf_134 (Nat.le_refl _) (Nat.le_refl _) ⟨_, rfl, hq⟩
    · replace hq := hq.1 c17
      refine lv_iconst (v := 1) hx hb dX2_faultOf_125 (by decide) ?_
      refine lv_goto (tgt := 134) hx hb dX2_faultOf_126 (by decide) ?_
      exact r_iret C hr hlk hw dX2_faultOf_134 (Nat.le_refl _) (Nat.le_refl _) ⟨_, rfl, hq⟩
  · replace hq := hq.1 c1
    refine lv_aload_n hx hb dX2_faultOf_8 rfl (lv_at hl 0 rfl) ?_
    refine lv_iload_n hx hb dX2_faultOf_9 rfl (lv_at hl 1 rfl) ?_
    refine lv_lload_n hx hb dX2_faultOf_10 rfl (lv_at hl 2 rfl) ?_
    refine r_callV (T := TX2) (N := 10) (ci := 2) (index := 82) (n := 2) (d2 := 0) (mc := 0) (ms := 0) (As := [.int p1, .long p2]) (rest := []) C hw (ct_X2_closeRange hq) kvX2_82 hq.1 (by decide) rfl ⟨by decide, by decide⟩ ⟨by decide, by decide⟩ rfl hl.1 rfl (Nat.le_of_ble_eq_true rfl) dX2_faultOf_11 (fun r M26 H locs hp hle hw => ?_)
    obtain ⟨v25, rfl, hq⟩ := hp
    refine W.eq (g2 := F0 m 14 ls [.int v25]) rfl ?_
    exact r_iret C hr hlk hw dX2_faultOf_14 (Nat.le_refl _) (Nat.le_refl _) ⟨_, rfl, hq⟩

set_option maxRecDepth 100000 in
def lb_X2_readFrom_67  (g : Gh) (M0 : Mem) (a0 : Nat) (a1 : Nat) (post : Mem → Prop)    (M : Mem) : Prop :=
  okc (gB g) M0 a1 10 ∧ (∀ M2, M2 = uI M a0 9 (mI M a1 3) → (post M2))
set_option maxRecDepth 100000 in
def bd_X2_readFrom_31  (g : Gh) (M0 : Mem) (a0 : Nat) (a1 : Nat) (post : Mem → Prop)  (bk31 : Int32 × Mem → Prop) (x2 : Int32)  (M : Mem) : Prop :=
  ((200 < x2) → post M) ∧ (¬ (200 < x2) → wp_X10_readNext g M a1 (gK g 0) (fun M6 => okc (gB g) M0 a1 10 ∧ (wp_X2_faultOf g M6 a0 (mI M6 a1 2) (mJ M6 a1 4) (fun v8 M9 => ∀ M10, M10 = uI M9 a0 8 v8 → ((((mI M10 a0 8) = 0) → (((mI M10 a1 2) = 0) → post M10) ∧ (¬ ((mI M10 a1 2) = 0) → bk31 ((x2 + 1), M10))) ∧ (¬ ((mI M10 a0 8) = 0) → lb_X2_readFrom_67  g M0 a0 a1 post   M10))))))
set_option maxRecDepth 100000 in
def wp_X2_readFrom  (g : Gh) (M0 : Mem) (a0 : Nat) (a1 : Nat) (post : Mem → Prop) : Prop :=
  okc (gB g) M0 a0 2 ∧ (∀ M14, M14 = uI M0 a0 3 0 → (∀ M16, M16 = uI M14 a0 6 0 → (∀ M18, M18 = uI M16 a0 7 0 → (∀ M20, M20 = uI M18 a0 8 0 → (∀ M22, M22 = uI M20 a0 9 0 → (wp_X10_rewind g M22 a1 (fun M25 => (∃ n : Nat, lfp (fun bk z => bd_X2_readFrom_31  g M0 a0 a1 post  bk z.1 z.2) n (0, M25)))))))))
set_option maxHeartbeats 4000000 in
set_option maxRecDepth 100000 in
theorem lt_X2_readFrom_67 {l : Launch} {g : Gh} {p : Program} {e : Env} {s : State} {m : MethodId} {args : Array Value} {below : List Frame} {meth : Method} {c : Code} {H : Heap} {locs : List Loc} {ls : Array Slot} {M0 M : Mem} {a0 : Nat} {a1 : Nat} {post : Mem → Prop}    (C : Cx g p s m args c cX2_readFrom 3 RX2) (hr : meth.sig.returnType = none) (hlk : meth.locks = false) (hn : meth.name = "readFrom") (h0 : okc (gB g) M0 a0 2)  (hq : lb_X2_readFrom_67  g M0 a0 a1 post   M) (hw : Wd g s M0 M H locs) (hl : lv_has ls 3 [(0, .ref a0), (1, .ref a1)]) : W p l e (rmo 9 0 0) s m args below meth c H locs 0 0 (MQ below (Cq g M0 (pV post)) args s 0 0 (gA g)) (F0 m 67 ls []) := by
  have hx := C.1.1
  have hb := C.1.2.1
  unfold lb_X2_readFrom_67 at hq
  refine lv_aload_n hx hb dX2_readFrom_67 rfl (lv_at hl 0 rfl) ?_
  refine lv_aload_n hx hb dX2_readFrom_68 rfl (lv_at hl 1 rfl) ?_
  obtain ⟨h1, hq⟩ := hq
  refine gfX2_67 C hw hw.2.2.1 h1 dX2_readFrom_69 ?_
  refine pfX2_44 C hw hw.2.2.1 h0 dX2_readFrom_72 (fun H locs hw => ?_)
  generalize e3 : uI M a0 9 (mI M a1 3) = M2 at hw
  replace hq := hq M2 e3.symm
  exact r_vret C hr hlk hw dX2_readFrom_75 (Nat.le_refl _) (Nat.le_refl _) ⟨rfl, hq⟩
set_option maxHeartbeats 4000000 in
set_option maxRecDepth 100000 in
theorem lp_X2_readFrom_31 {l : Launch} {g : Gh} {p : Program} {e : Env} {s : State} {m : MethodId} {args : Array Value} {below : List Frame} {meth : Method} {c : Code} {M0 : Mem} {a0 : Nat} {a1 : Nat} {post : Mem → Prop}  (C : Cx g p s m args c cX2_readFrom 3 RX2) (hr : meth.sig.returnType = none) (hlk : meth.locks = false) (hn : meth.name = "readFrom") (h0 : okc (gB g) M0 a0 2)  : ∀ (nf : Nat) (x2 : Int32)  (M : Mem) (H : Heap) (locs : List Loc) (ls : Array Slot), lfp (fun bk z => bd_X2_readFrom_31  g M0 a0 a1 post  bk z.1 z.2) nf (x2, M) → Wd g s M0 M H locs → lv_has ls 3 [(0, .ref a0), (1, .ref a1), (2, .int x2)] → W p l e (rmo 9 0 0) s m args below meth c H locs 0 0 (MQ below (Cq g M0 (pV post)) args s 0 0 (gA g)) (F0 m 31 ls []) := by
  have hx := C.1.1
  have hb := C.1.2.1
  intro nf
  induction nf with
  | zero => intro _ _ H locs ls hq; exact hq.elim
  | succ nf hk31 =>
    intro x2 M H locs ls hq hw hl
    replace hq : bd_X2_readFrom_31  g M0 a0 a1 post  (lfp (fun bk z => bd_X2_readFrom_31  g M0 a0 a1 post  bk z.1 z.2) nf) x2 M := hq
    unfold bd_X2_readFrom_31 at hq
    refine lv_iload_n hx hb dX2_readFrom_31 rfl (lv_at hl 2 rfl) ?_
    refine lv_sipush (v := 200) hx hb dX2_readFrom_32 (by decide) ?_
    refine lv_icmp_gt (tgt := 90) hx hb dX2_readFrom_35 (by decide) (fun c4 => ?_) (fun c4 => ?_)
    · replace hq := hq.1 c4
      exact r_vret C hr hlk hw dX2_readFrom_90 (Nat.le_refl _) (Nat.le_refl _) ⟨rfl, hq⟩
    · replace hq := hq.2 c4
      refine lv_aload_n hx hb dX2_readFrom_38 rfl (lv_at hl 1 rfl) ?_
      refine va_ldcS hx hb C.1.2.2.2.1 (C.2.2.2.2.1.2.1 0 _ rfl) dX2_readFrom_39 ?_
      refine r_callV (T := TX10) (N := 6) (ci := 10) (index := 52) (n := 1) (d2 := 8) (mc := 0) (ms := 0) (As := [.ref (gK g 0)]) (rest := []) C hw (ct_X10_readNext hq) kvX2_52 hq.1 (by decide) rfl ⟨by decide, by decide⟩ ⟨by decide, by decide⟩ rfl hl.1 rfl (Nat.le_of_ble_eq_true rfl) dX2_readFrom_41 (fun r M6 H locs hp hle hw => ?_)
      obtain ⟨rfl, hq⟩ := hp
      refine W.eq (g2 := F0 m 44 ls []) rfl ?_
      refine lv_aload_n hx hb dX2_readFrom_44 rfl (lv_at hl 0 rfl) ?_
      refine lv_aload_n hx hb dX2_readFrom_45 rfl (lv_at hl 0 rfl) ?_
      refine lv_aload_n hx hb dX2_readFrom_46 rfl (lv_at hl 1 rfl) ?_
      obtain ⟨h7, hq⟩ := hq
      refine gfX2_56 C hw hw.2.2.1 h7 dX2_readFrom_47 ?_
      refine lv_aload_n hx hb dX2_readFrom_50 rfl (lv_at hl 1 rfl) ?_
      refine gfX2_59 C hw hw.2.2.1 h7 dX2_readFrom_51 ?_
      refine r_callV (T := TX2) (N := 10) (ci := 2) (index := 63) (n := 2) (d2 := 3) (mc := 0) (ms := 0) (As := [.int (mI M6 a1 2), .long (mJ M6 a1 4)]) (rest := [.ref a0]) C hw (ct_X2_faultOf hq) kvX2_63 hq.1 (by decide) rfl ⟨by decide, by decide⟩ ⟨by decide, by decide⟩ rfl hl.1 rfl (Nat.le_of_ble_eq_true rfl) dX2_readFrom_54 (fun r M9 H locs hp hle hw => ?_)
      obtain ⟨v8, rfl, hq⟩ := hp
      refine W.eq (g2 := F0 m 57 ls [.int v8, .ref a0]) rfl ?_
      refine pfX2_41 C hw hw.2.2.1 h0 dX2_readFrom_57 (fun H locs hw => ?_)
      generalize e11 : uI M9 a0 8 v8 = M10 at hw
      replace hq := hq M10 e11.symm
      refine lv_aload_n hx hb dX2_readFrom_60 rfl (lv_at hl 0 rfl) ?_
      refine gfX2_41 C hw hw.2.2.1 h0 dX2_readFrom_61 ?_
      refine lv_if_eq (tgt := 76) hx hb dX2_readFrom_64 (by decide) (fun c12 => ?_) (fun c12 => ?_)
      · replace hq := hq.1 c12
        refine lv_aload_n hx hb dX2_readFrom_76 rfl (lv_at hl 1 rfl) ?_
        refine gfX2_56 C hw hw.2.2.1 h7 dX2_readFrom_77 ?_
        refine lv_if_ne (tgt := 84) hx hb dX2_readFrom_80 (by decide) (fun c13 => ?_) (fun c13 => ?_)
        · replace hq := hq.2 c13
          refine lv_iinc (v := (x2 + 1)) (lv' := [(2, .int (x2 + 1)), (0, .ref a0), (1, .ref a1)]) hx hb dX2_readFrom_84 hl (k := 2) rfl rfl (by decide) rfl (fun ls hl => ?_)
          refine lv_goto (tgt := 31) hx hb dX2_readFrom_87 (by decide) ?_
          exact hk31 _ _ _ _ _ hq hw (lv_sub hl [1, 2, 0] rfl)
        · replace hq := hq.1 c13
          exact r_vret C hr hlk hw dX2_readFrom_83 (Nat.le_refl _) (Nat.le_refl _) ⟨rfl, hq⟩
      · replace hq := hq.2 c12
        exact lt_X2_readFrom_67  C hr hlk hn h0  hq hw (lv_sub hl [0, 1] rfl)
set_option maxHeartbeats 4000000 in
set_option maxRecDepth 100000 in
theorem ct_X2_readFrom {l : Launch} {g : Gh} {M0 : Mem} {a0 : Nat} {a1 : Nat} {post : Mem → Prop}  (hq : wp_X2_readFrom  g M0 a0 a1 post) : Ct l g yX2_readFrom cX2_readFrom 3 none 9 0 0 [.ref a0, .ref a1] M0 (pV post) := by
  unfold wp_X2_readFrom at hq
  obtain ⟨h0, hq⟩ := hq
  refine Ct.of (by decide) (Nat.le_of_ble_eq_true rfl) ?_
  intro p e s m below meth c ls C hr hlk hn hl hw
  have hx := C.1.1
  have hb := C.1.2.1
  have hl : lv_has ls 3 [(0, .ref a0), (1, .ref a1)] := hl
  refine lv_aload_n hx hb dX2_readFrom_0 rfl (lv_at hl 0 rfl) ?_
  refine lv_iconst (v := 0) hx hb dX2_readFrom_1 (by decide) ?_
  refine pfX2_31 C hw hw.2.2.1 h0 dX2_readFrom_2 (fun H locs hw => ?_)
  generalize e15 : uI M0 a0 3 0 = M14 at hw
  replace hq := hq M14 e15.symm
  refine lv_aload_n hx hb dX2_readFrom_5 rfl (lv_at hl 0 rfl) ?_
  refine lv_iconst (v := 0) hx hb dX2_readFrom_6 (by decide) ?_
  refine pfX2_35 C hw hw.2.2.1 h0 dX2_readFrom_7 (fun H locs hw => ?_)
  generalize e17 : uI M14 a0 6 0 = M16 at hw
  replace hq := hq M16 e17.symm
  refine lv_aload_n hx hb dX2_readFrom_10 rfl (lv_at hl 0 rfl) ?_
  refine lv_iconst (v := 0) hx hb dX2_readFrom_11 (by decide) ?_
  refine pfX2_38 C hw hw.2.2.1 h0 dX2_readFrom_12 (fun H locs hw => ?_)
  generalize e19 : uI M16 a0 7 0 = M18 at hw
  replace hq := hq M18 e19.symm
  refine lv_aload_n hx hb dX2_readFrom_15 rfl (lv_at hl 0 rfl) ?_
  refine lv_iconst (v := 0) hx hb dX2_readFrom_16 (by decide) ?_
  refine pfX2_41 C hw hw.2.2.1 h0 dX2_readFrom_17 (fun H locs hw => ?_)
  generalize e21 : uI M18 a0 8 0 = M20 at hw
  replace hq := hq M20 e21.symm
  refine lv_aload_n hx hb dX2_readFrom_20 rfl (lv_at hl 0 rfl) ?_
  refine lv_iconst (v := 0) hx hb dX2_readFrom_21 (by decide) ?_
  refine pfX2_44 C hw hw.2.2.1 h0 dX2_readFrom_22 (fun H locs hw => ?_)
  generalize e23 : uI M20 a0 9 0 = M22 at hw
  replace hq := hq M22 e23.symm
  refine lv_aload_n hx hb dX2_readFrom_25 rfl (lv_at hl 1 rfl) ?_
  refine r_callV (T := TX10) (N := 6) (ci := 10) (index := 47) (n := 0) (d2 := 0) (mc := 0) (ms := 0) (As := []) (rest := []) C hw (ct_X10_rewind hq) kvX2_47 hq.1 (by decide) rfl ⟨by decide, by decide⟩ ⟨by decide, by decide⟩ rfl hl.1 rfl (Nat.le_of_ble_eq_true rfl) dX2_readFrom_26 (fun r M25 H locs hp hle hw => ?_)
  obtain ⟨rfl, hq⟩ := hp
  refine W.eq (g2 := F0 m 29 ls []) rfl ?_
  refine lv_iconst (v := 0) hx hb dX2_readFrom_29 (by decide) ?_
  refine lv_istore_n (lv' := [(2, .int 0), (0, .ref a0), (1, .ref a1)]) hx hb dX2_readFrom_30 rfl hl (by decide) rfl (fun ls hl => ?_)
  obtain ⟨nf, hq⟩ := hq
  exact lp_X2_readFrom_31  C hr hlk hn h0  nf _ _ _ _ _ hq hw (lv_sub hl [1, 2, 0] rfl)

set_option maxRecDepth 100000 in
def wp_X3_init  (g : Gh) (M0 : Mem) (a0 : Nat) (post : Mem → Prop) : Prop :=
  okc (gB g) M0 a0 3 ∧ ((0 + 1 ≤ 4 ∧ 0 + 21 ≤ 179) ∧ (∀ q2 M3, q2 = mT M0 → M3 = nw M0 14 21 → (∀ M7, M7 = uR M3 a0 0 (some q2) → (((0 + 1) + 1 ≤ 4 ∧ (0 + 21) + 21 ≤ 179) ∧ (∀ q10 M11, q10 = mT M7 → M11 = nw M7 14 21 → (∀ M15, M15 = uR M11 a0 1 (some q10) → ((((0 + 1) + 1) + 1 ≤ 4 ∧ ((0 + 21) + 21) + 105 ≤ 179) ∧ (∀ q18 M19, q18 = mT M15 → M19 = nw M15 14 105 → (∀ M23, M23 = uR M19 a0 2 (some q18) → (∀ M25, M25 = uI M23 a0 3 0 → (((((0 + 1) + 1) + 1) + 1 ≤ 4 ∧ (((0 + 21) + 21) + 105) + 32 ≤ 179) ∧ (∀ q28 M29, q28 = mT M25 → M29 = nw M25 14 32 → (∀ M33, M33 = uR M29 a0 4 (some q28) → ((((((0 + 1) + 1) + 1) + 1) ≤ 4 ∧ ((((0 + 21) + 21) + 105) + 32) ≤ 179) ∧ (post M33)))))))))))))))
set_option maxHeartbeats 4000000 in
set_option maxRecDepth 100000 in
theorem ct_X3_init {l : Launch} {g : Gh} {M0 : Mem} {a0 : Nat} {post : Mem → Prop}  (hq : wp_X3_init  g M0 a0 post) : Ct l g yX3_init cX3_init 1 none 1 4 179 [.ref a0] M0 (pV post) := by
  unfold wp_X3_init at hq
  obtain ⟨h0, hq⟩ := hq
  have h00 := h0
  refine Ct.of (by decide) (Nat.le_of_ble_eq_true rfl) ?_
  intro p e s m below meth c ls C hr hlk hn hl hw
  have hx := C.1.1
  have hb := C.1.2.1
  have hl : lv_has ls 1 [(0, .ref a0)] := hl
  refine lv_aload_n hx hb dX3_init_0 rfl (lv_at hl 0 rfl) ?_
  refine W.objInit hx hb C.1.2.2.2.1 (C.1.2.2.2.2 _ w_126) (C.1.2.2.2.2 _ w_35) (C.1.2.2.2.2 _ w_objInit) rfl (by rw [C.1.2.2.1]; exact hl.1) rfl dX3_init_1 (Nat.le_of_ble_eq_true rfl) (Nat.le_of_ble_eq_true rfl) ?_
  refine W.eq (g2 := F0 m 4 ls []) rfl ?_
  refine lv_aload_n hx hb dX3_init_4 rfl (lv_at hl 0 rfl) ?_
  refine lv_bipush (v := 21) hx hb dX3_init_5 (by decide) ?_
  have hB := hw.B C.2.2.2.2.2
  obtain ⟨h1, hq⟩ := hq
  refine q_newa_14 (N' := 21) C hw (by decide) (by decide) (by decide) h1.1 h1.2 dX3_init_7 (fun H hw => ?_)
  have h6 := okc_nw (gB g) M0 14 21 hB
  have h0 := h0.up (mle_nw M0 14 21)
  generalize e4 : nw M0 14 21 = M3 at hw h6 h0
  generalize e5 : mT M0 = q2 at h6 ⊢
  replace hq := hq q2 M3 e5.symm e4.symm
  refine pfX3_11 (v := (some q2)) C hw (mle_rf _) h0 hn dX3_init_9 (fun H locs hw => ?_)
  generalize e8 : uR M3 a0 0 (some q2) = M7 at hw
  replace hq := hq M7 e8.symm
  have h0 : okc (gB g) M7 a0 3 := by rw [← e8]; exact okc_uR h0
  refine lv_aload_n hx hb dX3_init_12 rfl (lv_at hl 0 rfl) ?_
  refine lv_bipush (v := 21) hx hb dX3_init_13 (by decide) ?_
  have hB := hw.B C.2.2.2.2.2
  obtain ⟨h9, hq⟩ := hq
  refine q_newa_14 (N' := 21) C hw (by decide) (by decide) (by decide) h9.1 h9.2 dX3_init_15 (fun H hw => ?_)
  have h14 := okc_nw (gB g) M7 14 21 hB
  have h0 := h0.up (mle_nw M7 14 21)
  generalize e12 : nw M7 14 21 = M11 at hw h14 h0
  generalize e13 : mT M7 = q10 at h14 ⊢
  replace hq := hq q10 M11 e13.symm e12.symm
  refine pfX3_15 (v := (some q10)) C hw (mle_rf _) h0 hn dX3_init_17 (fun H locs hw => ?_)
  generalize e16 : uR M11 a0 1 (some q10) = M15 at hw
  replace hq := hq M15 e16.symm
  have h0 : okc (gB g) M15 a0 3 := by rw [← e16]; exact okc_uR h0
  refine lv_aload_n hx hb dX3_init_20 rfl (lv_at hl 0 rfl) ?_
  refine lv_bipush (v := 105) hx hb dX3_init_21 (by decide) ?_
  have hB := hw.B C.2.2.2.2.2
  obtain ⟨h17, hq⟩ := hq
  refine q_newa_14 (N' := 105) C hw (by decide) (by decide) (by decide) h17.1 h17.2 dX3_init_23 (fun H hw => ?_)
  have h22 := okc_nw (gB g) M15 14 105 hB
  have h0 := h0.up (mle_nw M15 14 105)
  generalize e20 : nw M15 14 105 = M19 at hw h22 h0
  generalize e21 : mT M15 = q18 at h22 ⊢
  replace hq := hq q18 M19 e21.symm e20.symm
  refine pfX3_20 (v := (some q18)) C hw (mle_rf _) h0 hn dX3_init_25 (fun H locs hw => ?_)
  generalize e24 : uR M19 a0 2 (some q18) = M23 at hw
  replace hq := hq M23 e24.symm
  have h0 : okc (gB g) M23 a0 3 := by rw [← e24]; exact okc_uR h0
  refine lv_aload_n hx hb dX3_init_28 rfl (lv_at hl 0 rfl) ?_
  refine lv_iconst (v := 0) hx hb dX3_init_29 (by decide) ?_
  refine pfX3_23 C hw (mle_rf _) h0 dX3_init_30 (fun H locs hw => ?_)
  generalize e26 : uI M23 a0 3 0 = M25 at hw
  replace hq := hq M25 e26.symm
  have h0 : okc (gB g) M25 a0 3 := by rw [← e26]; exact okc_uI h0
  refine lv_aload_n hx hb dX3_init_33 rfl (lv_at hl 0 rfl) ?_
  refine lv_bipush (v := 32) hx hb dX3_init_34 (by decide) ?_
  have hB := hw.B C.2.2.2.2.2
  obtain ⟨h27, hq⟩ := hq
  refine q_newa_14 (N' := 32) C hw (by decide) (by decide) (by decide) h27.1 h27.2 dX3_init_36 (fun H hw => ?_)
  have h32 := okc_nw (gB g) M25 14 32 hB
  have h0 := h0.up (mle_nw M25 14 32)
  generalize e30 : nw M25 14 32 = M29 at hw h32 h0
  generalize e31 : mT M25 = q28 at h32 ⊢
  replace hq := hq q28 M29 e31.symm e30.symm
  refine pfX3_27 (v := (some q28)) C hw (mle_rf _) h0 hn dX3_init_38 (fun H locs hw => ?_)
  generalize e34 : uR M29 a0 4 (some q28) = M33 at hw
  replace hq := hq M33 e34.symm
  have h0 : okc (gB g) M33 a0 3 := by rw [← e34]; exact okc_uR h0
  obtain ⟨h35, hq⟩ := hq
  exact r_vret C hr hlk hw dX3_init_41 h35.1 h35.2 ⟨rfl, hq⟩

set_option maxRecDepth 100000 in
def bd_X3_restartForm_2  (g : Gh) (M0 : Mem) (a0 : Nat) (post : Mem → Prop)  (bk2 : Int32 × Mem → Prop) (x1 : Int32)  (M : Mem) : Prop :=
  ((21 ≤ x1) → post M) ∧ (¬ (21 ≤ x1) → ∃ q2, mR M a0 1 = some q2 ∧ (okc (gB g) M0 q2 14 ∧ (vp_in x1 (mN M0 q2) ∧ (∀ M6, M6 = uI M q2 (Int32.toNatClampNeg x1) 0 → (∃ q8, mR M6 a0 0 = some q8 ∧ (okc (gB g) M0 q8 14 ∧ (vp_in x1 (mN M0 q8) ∧ (∀ M12, M12 = uI M6 q8 (Int32.toNatClampNeg x1) (1 <<< (x1 &&& 31)) → (bk2 ((x1 + 1), M12))))))))))
set_option maxRecDepth 100000 in
def wp_X3_restartForm  (g : Gh) (M0 : Mem) (a0 : Nat) (post : Mem → Prop) : Prop :=
  okc (gB g) M0 a0 3 ∧ ((∃ n : Nat, lfp (fun bk z => bd_X3_restartForm_2  g M0 a0 post  bk z.1 z.2) n (0, M0)))
set_option maxHeartbeats 4000000 in
set_option maxRecDepth 100000 in
theorem lp_X3_restartForm_2 {l : Launch} {g : Gh} {p : Program} {e : Env} {s : State} {m : MethodId} {args : Array Value} {below : List Frame} {meth : Method} {c : Code} {M0 : Mem} {a0 : Nat} {post : Mem → Prop}  (C : Cx g p s m args c cX3_restartForm 2 RX3) (hr : meth.sig.returnType = none) (hlk : meth.locks = false) (hn : meth.name = "restartForm") (h0 : okc (gB g) M0 a0 3)  : ∀ (nf : Nat) (x1 : Int32)  (M : Mem) (H : Heap) (locs : List Loc) (ls : Array Slot), lfp (fun bk z => bd_X3_restartForm_2  g M0 a0 post  bk z.1 z.2) nf (x1, M) → Wd g s M0 M H locs → lv_has ls 2 [(0, .ref a0), (1, .int x1)] → W p l e (rmo 0 0 0) s m args below meth c H locs 0 0 (MQ below (Cq g M0 (pV post)) args s 0 0 (gA g)) (F0 m 2 ls []) := by
  have hx := C.1.1
  have hb := C.1.2.1
  intro nf
  induction nf with
  | zero => intro _ _ H locs ls hq; exact hq.elim
  | succ nf hk2 =>
    intro x1 M H locs ls hq hw hl
    replace hq : bd_X3_restartForm_2  g M0 a0 post  (lfp (fun bk z => bd_X3_restartForm_2  g M0 a0 post  bk z.1 z.2) nf) x1 M := hq
    unfold bd_X3_restartForm_2 at hq
    refine lv_iload_n hx hb dX3_restartForm_2 rfl (lv_at hl 1 rfl) ?_
    refine lv_bipush (v := 21) hx hb dX3_restartForm_3 (by decide) ?_
    refine lv_icmp_ge (tgt := 30) hx hb dX3_restartForm_5 (by decide) (fun c1 => ?_) (fun c1 => ?_)
    · replace hq := hq.1 c1
      exact r_vret C hr hlk hw dX3_restartForm_30 (Nat.le_refl _) (Nat.le_refl _) ⟨rfl, hq⟩
    · replace hq := hq.2 c1
      refine lv_aload_n hx hb dX3_restartForm_8 rfl (lv_at hl 0 rfl) ?_
      obtain ⟨q2, e3, hq⟩ := hq
      refine gfX3_15 C hw hw.2.2.1 h0 e3 dX3_restartForm_9 ?_
      refine lv_iload_n hx hb dX3_restartForm_12 rfl (lv_at hl 1 rfl) ?_
      refine lv_iconst (v := 0) hx hb dX3_restartForm_13 (by decide) ?_
      obtain ⟨h4, hq⟩ := hq
      obtain ⟨h5, hq⟩ := hq
      refine q_iast C hw hw.2.2.1 h4 h5 dX3_restartForm_14 (fun H locs hw => ?_)
      generalize e7 : uI M q2 (Int32.toNatClampNeg x1) 0 = M6 at hw
      replace hq := hq M6 e7.symm
      have e3 : mR M6 a0 1 = some q2 := by rw [← e7, mR_uI]; exact e3
      refine lv_aload_n hx hb dX3_restartForm_15 rfl (lv_at hl 0 rfl) ?_
      obtain ⟨q8, e9, hq⟩ := hq
      refine gfX3_11 C hw hw.2.2.1 h0 e9 dX3_restartForm_16 ?_
      refine lv_iload_n hx hb dX3_restartForm_19 rfl (lv_at hl 1 rfl) ?_
      refine lv_iconst (v := 1) hx hb dX3_restartForm_20 (by decide) ?_
      refine lv_iload_n hx hb dX3_restartForm_21 rfl (lv_at hl 1 rfl) ?_
      refine lv_ishl hx hb dX3_restartForm_22 ?_
      obtain ⟨h10, hq⟩ := hq
      obtain ⟨h11, hq⟩ := hq
      refine q_iast C hw hw.2.2.1 h10 h11 dX3_restartForm_23 (fun H locs hw => ?_)
      generalize e13 : uI M6 q8 (Int32.toNatClampNeg x1) (1 <<< (x1 &&& 31)) = M12 at hw
      replace hq := hq M12 e13.symm
      have e3 : mR M12 a0 1 = some q2 := by rw [← e13, mR_uI]; exact e3
      have e9 : mR M12 a0 0 = some q8 := by rw [← e13, mR_uI]; exact e9
      refine lv_iinc (v := (x1 + 1)) (lv' := [(1, .int (x1 + 1)), (0, .ref a0)]) hx hb dX3_restartForm_24 hl (k := 1) rfl rfl (by decide) rfl (fun ls hl => ?_)
      refine lv_goto (tgt := 2) hx hb dX3_restartForm_27 (by decide) ?_
      exact hk2 _ _ _ _ _ hq hw (lv_sub hl [1, 0] rfl)
set_option maxHeartbeats 4000000 in
set_option maxRecDepth 100000 in
theorem ct_X3_restartForm {l : Launch} {g : Gh} {M0 : Mem} {a0 : Nat} {post : Mem → Prop}  (hq : wp_X3_restartForm  g M0 a0 post) : Ct l g yX3_restartForm cX3_restartForm 2 none 0 0 0 [.ref a0] M0 (pV post) := by
  unfold wp_X3_restartForm at hq
  obtain ⟨h0, hq⟩ := hq
  refine Ct.of (by decide) (Nat.le_of_ble_eq_true rfl) ?_
  intro p e s m below meth c ls C hr hlk hn hl hw
  have hx := C.1.1
  have hb := C.1.2.1
  have hl : lv_has ls 2 [(0, .ref a0)] := hl
  refine lv_iconst (v := 0) hx hb dX3_restartForm_0 (by decide) ?_
  refine lv_istore_n (lv' := [(1, .int 0), (0, .ref a0)]) hx hb dX3_restartForm_1 rfl hl (by decide) rfl (fun ls hl => ?_)
  obtain ⟨nf, hq⟩ := hq
  exact lp_X3_restartForm_2  C hr hlk hn h0  nf _ _ _ _ _ hq hw (lv_sub hl [1, 0] rfl)

set_option maxRecDepth 100000 in
def wp_X3_restart  (g : Gh) (M0 : Mem) (a0 : Nat) (post : Mem → Prop) : Prop :=
  okc (gB g) M0 a0 3 ∧ (∀ M1, M1 = uI M0 a0 3 0 → (wp_X3_restartForm g M1 a0 (fun M4 => post M4)))
set_option maxHeartbeats 4000000 in
set_option maxRecDepth 100000 in
theorem ct_X3_restart {l : Launch} {g : Gh} {M0 : Mem} {a0 : Nat} {post : Mem → Prop}  (hq : wp_X3_restart  g M0 a0 post) : Ct l g yX3_restart cX3_restart 1 none 1 0 0 [.ref a0] M0 (pV post) := by
  unfold wp_X3_restart at hq
  obtain ⟨h0, hq⟩ := hq
  refine Ct.of (by decide) (Nat.le_of_ble_eq_true rfl) ?_
  intro p e s m below meth c ls C hr hlk hn hl hw
  have hx := C.1.1
  have hb := C.1.2.1
  have hl : lv_has ls 1 [(0, .ref a0)] := hl
  refine lv_aload_n hx hb dX3_restart_0 rfl (lv_at hl 0 rfl) ?_
  refine lv_iconst (v := 0) hx hb dX3_restart_1 (by decide) ?_
  refine pfX3_23 C hw hw.2.2.1 h0 dX3_restart_2 (fun H locs hw => ?_)
  generalize e2 : uI M0 a0 3 0 = M1 at hw
  replace hq := hq M1 e2.symm
  refine lv_aload_n hx hb dX3_restart_5 rfl (lv_at hl 0 rfl) ?_
  refine r_callV (T := TX3) (N := 5) (ci := 3) (index := 30) (n := 0) (d2 := 0) (mc := 0) (ms := 0) (As := []) (rest := []) C hw (ct_X3_restartForm hq) kvX3_30 hq.1 (by decide) rfl ⟨by decide, by decide⟩ ⟨by decide, by decide⟩ rfl hl.1 rfl (Nat.le_of_ble_eq_true rfl) dX3_restart_6 (fun r M4 H locs hp hle hw => ?_)
  obtain ⟨rfl, hq⟩ := hp
  refine W.eq (g2 := F0 m 9 ls []) rfl ?_
  exact r_vret C hr hlk hw dX3_restart_9 (Nat.le_refl _) (Nat.le_refl _) ⟨rfl, hq⟩

set_option maxRecDepth 100000 in
def bd_X3_stepToken_2  (g : Gh) (M0 : Mem) (a0 : Nat) (p1 : Int32) (post : Mem → Prop)  (bk2 : Int32 × Mem → Prop) (x2 : Int32)  (M : Mem) : Prop :=
  ((21 ≤ x2) → post M) ∧ (¬ (21 ≤ x2) → ∃ q2, mR M a0 0 = some q2 ∧ (okc (gB g) M0 q2 14 ∧ (vp_in x2 (mN M0 q2) ∧ (∀ M6, M6 = uI M q2 (Int32.toNatClampNeg x2) (((mI M q2 (Int32.toNatClampNeg x2)) &&& p1) <<< (1 &&& 31)) → (bk2 ((x2 + 1), M6))))))
set_option maxRecDepth 100000 in
def wp_X3_stepToken  (g : Gh) (M0 : Mem) (a0 : Nat) (p1 : Int32) (post : Mem → Prop) : Prop :=
  okc (gB g) M0 a0 3 ∧ ((∃ n : Nat, lfp (fun bk z => bd_X3_stepToken_2  g M0 a0 p1 post  bk z.1 z.2) n (0, M0)))
set_option maxHeartbeats 4000000 in
set_option maxRecDepth 100000 in
theorem lp_X3_stepToken_2 {l : Launch} {g : Gh} {p : Program} {e : Env} {s : State} {m : MethodId} {args : Array Value} {below : List Frame} {meth : Method} {c : Code} {M0 : Mem} {a0 : Nat} {p1 : Int32} {post : Mem → Prop}  (C : Cx g p s m args c cX3_stepToken 3 RX3) (hr : meth.sig.returnType = none) (hlk : meth.locks = false) (hn : meth.name = "stepToken") (h0 : okc (gB g) M0 a0 3)  : ∀ (nf : Nat) (x2 : Int32)  (M : Mem) (H : Heap) (locs : List Loc) (ls : Array Slot), lfp (fun bk z => bd_X3_stepToken_2  g M0 a0 p1 post  bk z.1 z.2) nf (x2, M) → Wd g s M0 M H locs → lv_has ls 3 [(0, .ref a0), (1, .int p1), (2, .int x2)] → W p l e (rmo 0 0 0) s m args below meth c H locs 0 0 (MQ below (Cq g M0 (pV post)) args s 0 0 (gA g)) (F0 m 2 ls []) := by
  have hx := C.1.1
  have hb := C.1.2.1
  intro nf
  induction nf with
  | zero => intro _ _ H locs ls hq; exact hq.elim
  | succ nf hk2 =>
    intro x2 M H locs ls hq hw hl
    replace hq : bd_X3_stepToken_2  g M0 a0 p1 post  (lfp (fun bk z => bd_X3_stepToken_2  g M0 a0 p1 post  bk z.1 z.2) nf) x2 M := hq
    unfold bd_X3_stepToken_2 at hq
    refine lv_iload_n hx hb dX3_stepToken_2 rfl (lv_at hl 2 rfl) ?_
    refine lv_bipush (v := 21) hx hb dX3_stepToken_3 (by decide) ?_
    refine lv_icmp_ge (tgt := 30) hx hb dX3_stepToken_5 (by decide) (fun c1 => ?_) (fun c1 => ?_)
    · replace hq := hq.1 c1
      exact r_vret C hr hlk hw dX3_stepToken_30 (Nat.le_refl _) (Nat.le_refl _) ⟨rfl, hq⟩
    · replace hq := hq.2 c1
      refine lv_aload_n hx hb dX3_stepToken_8 rfl (lv_at hl 0 rfl) ?_
      obtain ⟨q2, e3, hq⟩ := hq
      refine gfX3_11 C hw hw.2.2.1 h0 e3 dX3_stepToken_9 ?_
      refine lv_iload_n hx hb dX3_stepToken_12 rfl (lv_at hl 2 rfl) ?_
      refine lv_aload_n hx hb dX3_stepToken_13 rfl (lv_at hl 0 rfl) ?_
      refine gfX3_11 C hw hw.2.2.1 h0 e3 dX3_stepToken_14 ?_
      refine lv_iload_n hx hb dX3_stepToken_17 rfl (lv_at hl 2 rfl) ?_
      obtain ⟨h4, hq⟩ := hq
      obtain ⟨h5, hq⟩ := hq
      refine q_iald C hw hw.2.2.1 h4 h5 dX3_stepToken_18 ?_
      refine lv_iload_n hx hb dX3_stepToken_19 rfl (lv_at hl 1 rfl) ?_
      refine lv_iand hx hb dX3_stepToken_20 ?_
      refine lv_iconst (v := 1) hx hb dX3_stepToken_21 (by decide) ?_
      refine lv_ishl hx hb dX3_stepToken_22 ?_
      refine q_iast C hw hw.2.2.1 h4 h5 dX3_stepToken_23 (fun H locs hw => ?_)
      generalize e7 : uI M q2 (Int32.toNatClampNeg x2) (((mI M q2 (Int32.toNatClampNeg x2)) &&& p1) <<< (1 &&& 31)) = M6 at hw
      replace hq := hq M6 e7.symm
      have e3 : mR M6 a0 0 = some q2 := by rw [← e7, mR_uI]; exact e3
      refine lv_iinc (v := (x2 + 1)) (lv' := [(2, .int (x2 + 1)), (0, .ref a0), (1, .int p1)]) hx hb dX3_stepToken_24 hl (k := 2) rfl rfl (by decide) rfl (fun ls hl => ?_)
      refine lv_goto (tgt := 2) hx hb dX3_stepToken_27 (by decide) ?_
      exact hk2 _ _ _ _ _ hq hw (lv_sub hl [1, 2, 0] rfl)
set_option maxHeartbeats 4000000 in
set_option maxRecDepth 100000 in
theorem ct_X3_stepToken {l : Launch} {g : Gh} {M0 : Mem} {a0 : Nat} {p1 : Int32} {post : Mem → Prop}  (hq : wp_X3_stepToken  g M0 a0 p1 post) : Ct l g yX3_stepToken cX3_stepToken 3 none 0 0 0 [.ref a0, .int p1] M0 (pV post) := by
  unfold wp_X3_stepToken at hq
  obtain ⟨h0, hq⟩ := hq
  refine Ct.of (by decide) (Nat.le_of_ble_eq_true rfl) ?_
  intro p e s m below meth c ls C hr hlk hn hl hw
  have hx := C.1.1
  have hb := C.1.2.1
  have hl : lv_has ls 3 [(0, .ref a0), (1, .int p1)] := hl
  refine lv_iconst (v := 0) hx hb dX3_stepToken_0 (by decide) ?_
  refine lv_istore_n (lv' := [(2, .int 0), (0, .ref a0), (1, .int p1)]) hx hb dX3_stepToken_1 rfl hl (by decide) rfl (fun ls hl => ?_)
  obtain ⟨nf, hq⟩ := hq
  exact lp_X3_stepToken_2  C hr hlk hn h0  nf _ _ _ _ _ hq hw (lv_sub hl [1, 2, 0] rfl)

set_option maxRecDepth 100000 in
def bd_X3_endsBehind_5  (g : Gh) (M0 : Mem) (p0 : Int32) (a1 : Nat) (p2 : Int32) (post : Int32 → Mem → Prop)  (bk5 : Int32 × Int32 × Mem → Prop) (x3 : Int32) (x4 : Int32)  (M : Mem) : Prop :=
  ((21 ≤ x4) → post x3 M) ∧ (¬ (21 ≤ x4) → (((p0 >>> (x4 &&& 31)) = 0) → post x3 M) ∧ (¬ ((p0 >>> (x4 &&& 31)) = 0) → ((((p0 >>> (x4 &&& 31)) &&& 1) = 1) → (((p2 + x4) < 0) → bk5 (x3, (x4 + 1), M)) ∧ (¬ ((p2 + x4) < 0) → okc (gB g) M0 a1 14 ∧ ((((nI (mN M0 a1)) ≤ (p2 + x4)) → bk5 (x3, (x4 + 1), M)) ∧ (¬ ((nI (mN M0 a1)) ≤ (p2 + x4)) → vp_in (p2 + x4) (mN M0 a1) ∧ (bk5 ((x3 ||| (mI M a1 (Int32.toNatClampNeg (p2 + x4)))), (x4 + 1), M)))))) ∧ (¬ (((p0 >>> (x4 &&& 31)) &&& 1) = 1) → bk5 (x3, (x4 + 1), M))))
set_option maxRecDepth 100000 in
def wp_X3_endsBehind  (g : Gh) (M0 : Mem) (p0 : Int32) (a1 : Nat) (p2 : Int32) (post : Int32 → Mem → Prop) : Prop :=
  (∃ n : Nat, lfp (fun bk z => bd_X3_endsBehind_5  g M0 p0 a1 p2 post  bk z.1 z.2.1 z.2.2) n (0, 0, M0))
set_option maxHeartbeats 4000000 in
set_option maxRecDepth 100000 in
theorem lp_X3_endsBehind_5 {l : Launch} {g : Gh} {p : Program} {e : Env} {s : State} {m : MethodId} {args : Array Value} {below : List Frame} {meth : Method} {c : Code} {M0 : Mem} {p0 : Int32} {a1 : Nat} {p2 : Int32} {post : Int32 → Mem → Prop}  (C : Cx g p s m args c cX3_endsBehind 6 RX3) (hr : meth.sig.returnType = (some .int)) (hlk : meth.locks = false) (hn : meth.name = "endsBehind")   : ∀ (nf : Nat) (x3 : Int32) (x4 : Int32)  (M : Mem) (H : Heap) (locs : List Loc) (ls : Array Slot), lfp (fun bk z => bd_X3_endsBehind_5  g M0 p0 a1 p2 post  bk z.1 z.2.1 z.2.2) nf (x3, x4, M) → Wd g s M0 M H locs → lv_has ls 6 [(0, .int p0), (1, .ref a1), (2, .int p2), (3, .int x3), (4, .int x4)] → W p l e (rmo 0 0 0) s m args below meth c H locs 0 0 (MQ below (Cq g M0 (pI post)) args s 0 0 (gA g)) (F0 m 5 ls []) := by
  have hx := C.1.1
  have hb := C.1.2.1
  intro nf
  induction nf with
  | zero => intro _ _ _ H locs ls hq; exact hq.elim
  | succ nf hk5 =>
    intro x3 x4 M H locs ls hq hw hl
    replace hq : bd_X3_endsBehind_5  g M0 p0 a1 p2 post  (lfp (fun bk z => bd_X3_endsBehind_5  g M0 p0 a1 p2 post  bk z.1 z.2.1 z.2.2) nf) x3 x4 M := hq
    unfold bd_X3_endsBehind_5 at hq
    refine lv_iload hx hb dX3_endsBehind_5 (lv_at hl 4 rfl) ?_
    refine lv_bipush (v := 21) hx hb dX3_endsBehind_7 (by decide) ?_
    refine lv_icmp_ge (tgt := 60) hx hb dX3_endsBehind_9 (by decide) (fun c1 => ?_) (fun c1 => ?_)
    · replace hq := hq.1 c1
      refine lv_iload_n hx hb dX3_endsBehind_60 rfl (lv_at hl 3 rfl) ?_
      exact r_iret C hr hlk hw dX3_endsBehind_61 (Nat.le_refl _) (Nat.le_refl _) ⟨_, rfl, hq⟩
    · replace hq := hq.2 c1
      refine lv_iload_n hx hb dX3_endsBehind_12 rfl (lv_at hl 0 rfl) ?_
      refine lv_iload hx hb dX3_endsBehind_13 (lv_at hl 4 rfl) ?_
      refine lv_ishr hx hb dX3_endsBehind_15 ?_
      refine lv_if_eq (tgt := 60) hx hb dX3_endsBehind_16 (by decide) (fun c2 => ?_) (fun c2 => ?_)
      · replace hq := hq.1 c2
        refine lv_iload_n hx hb dX3_endsBehind_60 rfl (lv_at hl 3 rfl) ?_
        exact r_iret C hr hlk hw dX3_endsBehind_61 (Nat.le_refl _) (Nat.le_refl _) ⟨_, rfl, hq⟩
      · replace hq := hq.2 c2
        refine lv_iload_n hx hb dX3_endsBehind_19 rfl (lv_at hl 2 rfl) ?_
        refine lv_iload hx hb dX3_endsBehind_20 (lv_at hl 4 rfl) ?_
        refine lv_iadd hx hb dX3_endsBehind_22 ?_
        refine lv_istore (lv' := [(5, .int (p2 + x4)), (0, .int p0), (1, .ref a1), (2, .int p2), (3, .int x3), (4, .int x4)]) hx hb dX3_endsBehind_23 hl (by decide) rfl (fun ls hl => ?_)
        refine lv_iload_n hx hb dX3_endsBehind_25 rfl (lv_at hl 1 rfl) ?_
        refine lv_iload hx hb dX3_endsBehind_26 (lv_at hl 5 rfl) ?_
        refine lv_ishr hx hb dX3_endsBehind_28 ?_
        refine lv_iconst (v := 1) hx hb dX3_endsBehind_29 (by decide) ?_
        refine lv_iand hx hb dX3_endsBehind_30 ?_
        refine lv_iconst (v := 1) hx hb dX3_endsBehind_31 (by decide) ?_
        refine lv_icmp_ne (tgt := 54) hx hb dX3_endsBehind_32 (by decide) (fun c3 => ?_) (fun c3 => ?_)
        · replace hq := hq.2 c3
          refine lv_iinc (v := (x4 + 1)) (lv' := [(4, .int (x4 + 1)), (5, .int (p2 + x4)), (0, .int p0), (1, .ref a1), (2, .int p2), (3, .int x3)]) hx hb dX3_endsBehind_54 hl (k := 5) rfl rfl (by decide) rfl (fun ls hl => ?_)
          refine lv_goto (tgt := 5) hx hb dX3_endsBehind_57 (by decide) ?_
          exact hk5 _ _ _ _ _ _ hq hw (lv_sub hl [2, 3, 4, 5, 0] rfl)
        · replace hq := hq.1 c3
          refine lv_iload hx hb dX3_endsBehind_35 (lv_at hl 0 rfl) ?_
          refine lv_if_lt (tgt := 54) hx hb dX3_endsBehind_37 (by decide) (fun c4 => ?_) (fun c4 => ?_)
          · replace hq := hq.1 c4
            refine lv_iinc (v := (x4 + 1)) (lv' := [(4, .int (x4 + 1)), (5, .int (p2 + x4)), (0, .int p0), (1, .ref a1), (2, .int p2), (3, .int x3)]) hx hb dX3_endsBehind_54 hl (k := 5) rfl rfl (by decide) rfl (fun ls hl => ?_)
            refine lv_goto (tgt := 5) hx hb dX3_endsBehind_57 (by decide) ?_
            exact hk5 _ _ _ _ _ _ hq hw (lv_sub hl [2, 3, 4, 5, 0] rfl)
          · replace hq := hq.2 c4
            refine lv_iload hx hb dX3_endsBehind_40 (lv_at hl 0 rfl) ?_
            refine lv_aload_n hx hb dX3_endsBehind_42 rfl (lv_at hl 2 rfl) ?_
            obtain ⟨h5, hq⟩ := hq
            refine q_alen C hw hw.2.2.1 h5 (by decide) (by decide) rfl dX3_endsBehind_43 ?_
            refine lv_icmp_ge (tgt := 54) hx hb dX3_endsBehind_44 (by decide) (fun c6 => ?_) (fun c6 => ?_)
            · replace hq := hq.1 c6
              refine lv_iinc (v := (x4 + 1)) (lv' := [(4, .int (x4 + 1)), (5, .int (p2 + x4)), (0, .int p0), (1, .ref a1), (2, .int p2), (3, .int x3)]) hx hb dX3_endsBehind_54 hl (k := 5) rfl rfl (by decide) rfl (fun ls hl => ?_)
              refine lv_goto (tgt := 5) hx hb dX3_endsBehind_57 (by decide) ?_
              exact hk5 _ _ _ _ _ _ hq hw (lv_sub hl [2, 3, 4, 5, 0] rfl)
            · replace hq := hq.2 c6
              refine lv_iload_n hx hb dX3_endsBehind_47 rfl (lv_at hl 4 rfl) ?_
              refine lv_aload_n hx hb dX3_endsBehind_48 rfl (lv_at hl 2 rfl) ?_
              refine lv_iload hx hb dX3_endsBehind_49 (lv_at hl 0 rfl) ?_
              obtain ⟨h7, hq⟩ := hq
              refine q_iald C hw hw.2.2.1 h5 h7 dX3_endsBehind_51 ?_
              refine lv_ior hx hb dX3_endsBehind_52 ?_
              refine lv_istore_n (lv' := [(3, .int (x3 ||| (mI M a1 (Int32.toNatClampNeg (p2 + x4))))), (5, .int (p2 + x4)), (0, .int p0), (1, .ref a1), (2, .int p2), (4, .int x4)]) hx hb dX3_endsBehind_53 rfl hl (by decide) rfl (fun ls hl => ?_)
              refine lv_iinc (v := (x4 + 1)) (lv' := [(4, .int (x4 + 1)), (3, .int (x3 ||| (mI M a1 (Int32.toNatClampNeg (p2 + x4))))), (5, .int (p2 + x4)), (0, .int p0), (1, .ref a1), (2, .int p2)]) hx hb dX3_endsBehind_54 hl (k := 5) rfl rfl (by decide) rfl (fun ls hl => ?_)
              refine lv_goto (tgt := 5) hx hb dX3_endsBehind_57 (by decide) ?_
              exact hk5 _ _ _ _ _ _ hq hw (lv_sub hl [3, 4, 5, 1, 0] rfl)
set_option maxHeartbeats 4000000 in
set_option maxRecDepth 100000 in
theorem ct_X3_endsBehind {l : Launch} {g : Gh} {M0 : Mem} {p0 : Int32} {a1 : Nat} {p2 : Int32} {post : Int32 → Mem → Prop}  (hq : wp_X3_endsBehind  g M0 p0 a1 p2 post) : Ct l g yX3_endsBehind cX3_endsBehind 6 (some .int) 0 0 0 [.int p0, .ref a1, .int p2] M0 (pI post) := by
  unfold wp_X3_endsBehind at hq
  refine Ct.of (by decide) (Nat.le_of_ble_eq_true rfl) ?_
  intro p e s m below meth c ls C hr hlk hn hl hw
  have hx := C.1.1
  have hb := C.1.2.1
  have hl : lv_has ls 6 [(0, .int p0), (1, .ref a1), (2, .int p2)] := hl
  refine lv_iconst (v := 0) hx hb dX3_endsBehind_0 (by decide) ?_
  refine lv_istore_n (lv' := [(3, .int 0), (0, .int p0), (1, .ref a1), (2, .int p2)]) hx hb dX3_endsBehind_1 rfl hl (by decide) rfl (fun ls hl => ?_)
  refine lv_iconst (v := 0) hx hb dX3_endsBehind_2 (by decide) ?_
  refine lv_istore (lv' := [(4, .int 0), (3, .int 0), (0, .int p0), (1, .ref a1), (2, .int p2)]) hx hb dX3_endsBehind_3 hl (by decide) rfl (fun ls hl => ?_)
  obtain ⟨nf, hq⟩ := hq
  exact lp_X3_endsBehind_5  C hr hlk hn  nf _ _ _ _ _ _ hq hw (lv_sub hl [2, 3, 4, 1, 0] rfl)

set_option maxRecDepth 100000 in
def bd_X3_stepPart_2  (g : Gh) (M0 : Mem) (a0 : Nat) (a1 : Nat) (post : Mem → Prop)  (bk2 : Int32 × Mem → Prop) (x2 : Int32)  (M : Mem) : Prop :=
  ((21 ≤ x2) → post M) ∧ (¬ (21 ≤ x2) → ∃ q2, mR M a0 0 = some q2 ∧ (okc (gB g) M0 q2 14 ∧ (vp_in x2 (mN M0 q2) ∧ (wp_X3_endsBehind g M (mI M q2 (Int32.toNatClampNeg x2)) a1 0 (fun v6 M7 => ∀ M8, M8 = uI M7 q2 (Int32.toNatClampNeg x2) v6 → (bk2 ((x2 + 1), M8)))))))
set_option maxRecDepth 100000 in
def wp_X3_stepPart  (g : Gh) (M0 : Mem) (a0 : Nat) (a1 : Nat) (post : Mem → Prop) : Prop :=
  okc (gB g) M0 a0 3 ∧ ((∃ n : Nat, lfp (fun bk z => bd_X3_stepPart_2  g M0 a0 a1 post  bk z.1 z.2) n (0, M0)))
set_option maxHeartbeats 4000000 in
set_option maxRecDepth 100000 in
theorem lp_X3_stepPart_2 {l : Launch} {g : Gh} {p : Program} {e : Env} {s : State} {m : MethodId} {args : Array Value} {below : List Frame} {meth : Method} {c : Code} {M0 : Mem} {a0 : Nat} {a1 : Nat} {post : Mem → Prop}  (C : Cx g p s m args c cX3_stepPart 3 RX3) (hr : meth.sig.returnType = none) (hlk : meth.locks = false) (hn : meth.name = "stepPart") (h0 : okc (gB g) M0 a0 3)  : ∀ (nf : Nat) (x2 : Int32)  (M : Mem) (H : Heap) (locs : List Loc) (ls : Array Slot), lfp (fun bk z => bd_X3_stepPart_2  g M0 a0 a1 post  bk z.1 z.2) nf (x2, M) → Wd g s M0 M H locs → lv_has ls 3 [(0, .ref a0), (1, .ref a1), (2, .int x2)] → W p l e (rmo 1 0 0) s m args below meth c H locs 0 0 (MQ below (Cq g M0 (pV post)) args s 0 0 (gA g)) (F0 m 2 ls []) := by
  have hx := C.1.1
  have hb := C.1.2.1
  intro nf
  induction nf with
  | zero => intro _ _ H locs ls hq; exact hq.elim
  | succ nf hk2 =>
    intro x2 M H locs ls hq hw hl
    replace hq : bd_X3_stepPart_2  g M0 a0 a1 post  (lfp (fun bk z => bd_X3_stepPart_2  g M0 a0 a1 post  bk z.1 z.2) nf) x2 M := hq
    unfold bd_X3_stepPart_2 at hq
    refine lv_iload_n hx hb dX3_stepPart_2 rfl (lv_at hl 2 rfl) ?_
    refine lv_bipush (v := 21) hx hb dX3_stepPart_3 (by decide) ?_
    refine lv_icmp_ge (tgt := 31) hx hb dX3_stepPart_5 (by decide) (fun c1 => ?_) (fun c1 => ?_)
    · replace hq := hq.1 c1
      exact r_vret C hr hlk hw dX3_stepPart_31 (Nat.le_refl _) (Nat.le_refl _) ⟨rfl, hq⟩
    · replace hq := hq.2 c1
      refine lv_aload_n hx hb dX3_stepPart_8 rfl (lv_at hl 0 rfl) ?_
      obtain ⟨q2, e3, hq⟩ := hq
      refine gfX3_11 C hw hw.2.2.1 h0 e3 dX3_stepPart_9 ?_
      refine lv_iload_n hx hb dX3_stepPart_12 rfl (lv_at hl 2 rfl) ?_
      refine lv_aload_n hx hb dX3_stepPart_13 rfl (lv_at hl 0 rfl) ?_
      refine gfX3_11 C hw hw.2.2.1 h0 e3 dX3_stepPart_14 ?_
      refine lv_iload_n hx hb dX3_stepPart_17 rfl (lv_at hl 2 rfl) ?_
      obtain ⟨h4, hq⟩ := hq
      obtain ⟨h5, hq⟩ := hq
      refine q_iald C hw hw.2.2.1 h4 h5 dX3_stepPart_18 ?_
      refine lv_aload_n hx hb dX3_stepPart_19 rfl (lv_at hl 1 rfl) ?_
      refine lv_iconst (v := 0) hx hb dX3_stepPart_20 (by decide) ?_
      refine r_callS (index := 33) (n := 3) (d2 := 0) (mc := 0) (ms := 0) (As := [.int (mI M q2 (Int32.toNatClampNeg x2)), .ref a1, .int 0]) (rest := [.int x2, .ref q2]) C hw (ct_X3_endsBehind hq) ksX3_33 ⟨by decide, by decide⟩ ⟨by decide, by decide⟩ rfl hl.1 rfl (Nat.le_of_ble_eq_true rfl) dX3_stepPart_21 (fun r M7 H locs hp hle hw => ?_)
      obtain ⟨v6, rfl, hq⟩ := hp
      refine W.eq (g2 := F0 m 24 ls [.int v6, .int x2, .ref q2]) rfl ?_
      refine q_iast C hw hw.2.2.1 h4 h5 dX3_stepPart_24 (fun H locs hw => ?_)
      generalize e9 : uI M7 q2 (Int32.toNatClampNeg x2) v6 = M8 at hw
      replace hq := hq M8 e9.symm
      refine lv_iinc (v := (x2 + 1)) (lv' := [(2, .int (x2 + 1)), (0, .ref a0), (1, .ref a1)]) hx hb dX3_stepPart_25 hl (k := 2) rfl rfl (by decide) rfl (fun ls hl => ?_)
      refine lv_goto (tgt := 2) hx hb dX3_stepPart_28 (by decide) ?_
      exact hk2 _ _ _ _ _ hq hw (lv_sub hl [1, 2, 0] rfl)
set_option maxHeartbeats 4000000 in
set_option maxRecDepth 100000 in
theorem ct_X3_stepPart {l : Launch} {g : Gh} {M0 : Mem} {a0 : Nat} {a1 : Nat} {post : Mem → Prop}  (hq : wp_X3_stepPart  g M0 a0 a1 post) : Ct l g yX3_stepPart cX3_stepPart 3 none 1 0 0 [.ref a0, .ref a1] M0 (pV post) := by
  unfold wp_X3_stepPart at hq
  obtain ⟨h0, hq⟩ := hq
  refine Ct.of (by decide) (Nat.le_of_ble_eq_true rfl) ?_
  intro p e s m below meth c ls C hr hlk hn hl hw
  have hx := C.1.1
  have hb := C.1.2.1
  have hl : lv_has ls 3 [(0, .ref a0), (1, .ref a1)] := hl
  refine lv_iconst (v := 0) hx hb dX3_stepPart_0 (by decide) ?_
  refine lv_istore_n (lv' := [(2, .int 0), (0, .ref a0), (1, .ref a1)]) hx hb dX3_stepPart_1 rfl hl (by decide) rfl (fun ls hl => ?_)
  obtain ⟨nf, hq⟩ := hq
  exact lp_X3_stepPart_2  C hr hlk hn h0  nf _ _ _ _ _ hq hw (lv_sub hl [1, 2, 0] rfl)

set_option maxRecDepth 100000 in
def bd_X3_closeRow_2  (g : Gh) (M0 : Mem) (a0 : Nat) (post : Mem → Prop)  (bk2 : Int32 × Mem → Prop) (x1 : Int32)  (M : Mem) : Prop :=
  ((21 ≤ x1) → post M) ∧ (¬ (21 ≤ x1) → ∃ q2, mR M a0 1 = some q2 ∧ (okc (gB g) M0 q2 14 ∧ (vp_in x1 (mN M0 q2) ∧ (∃ q6, mR M a0 0 = some q6 ∧ (okc (gB g) M0 q6 14 ∧ (vp_in x1 (mN M0 q6) ∧ (∀ M10, M10 = uI M q2 (Int32.toNatClampNeg x1) ((mI M q2 (Int32.toNatClampNeg x1)) ||| (mI M q6 (Int32.toNatClampNeg x1))) → (∀ M12, M12 = uI M10 q6 (Int32.toNatClampNeg x1) (1 <<< (x1 &&& 31)) → (bk2 ((x1 + 1), M12))))))))))
set_option maxRecDepth 100000 in
def wp_X3_closeRow  (g : Gh) (M0 : Mem) (a0 : Nat) (post : Mem → Prop) : Prop :=
  okc (gB g) M0 a0 3 ∧ ((∃ n : Nat, lfp (fun bk z => bd_X3_closeRow_2  g M0 a0 post  bk z.1 z.2) n (0, M0)))
set_option maxHeartbeats 4000000 in
set_option maxRecDepth 100000 in
theorem lp_X3_closeRow_2 {l : Launch} {g : Gh} {p : Program} {e : Env} {s : State} {m : MethodId} {args : Array Value} {below : List Frame} {meth : Method} {c : Code} {M0 : Mem} {a0 : Nat} {post : Mem → Prop}  (C : Cx g p s m args c cX3_closeRow 2 RX3) (hr : meth.sig.returnType = none) (hlk : meth.locks = false) (hn : meth.name = "closeRow") (h0 : okc (gB g) M0 a0 3)  : ∀ (nf : Nat) (x1 : Int32)  (M : Mem) (H : Heap) (locs : List Loc) (ls : Array Slot), lfp (fun bk z => bd_X3_closeRow_2  g M0 a0 post  bk z.1 z.2) nf (x1, M) → Wd g s M0 M H locs → lv_has ls 2 [(0, .ref a0), (1, .int x1)] → W p l e (rmo 0 0 0) s m args below meth c H locs 0 0 (MQ below (Cq g M0 (pV post)) args s 0 0 (gA g)) (F0 m 2 ls []) := by
  have hx := C.1.1
  have hb := C.1.2.1
  intro nf
  induction nf with
  | zero => intro _ _ H locs ls hq; exact hq.elim
  | succ nf hk2 =>
    intro x1 M H locs ls hq hw hl
    replace hq : bd_X3_closeRow_2  g M0 a0 post  (lfp (fun bk z => bd_X3_closeRow_2  g M0 a0 post  bk z.1 z.2) nf) x1 M := hq
    unfold bd_X3_closeRow_2 at hq
    refine lv_iload_n hx hb dX3_closeRow_2 rfl (lv_at hl 1 rfl) ?_
    refine lv_bipush (v := 21) hx hb dX3_closeRow_3 (by decide) ?_
    refine lv_icmp_ge (tgt := 38) hx hb dX3_closeRow_5 (by decide) (fun c1 => ?_) (fun c1 => ?_)
    · replace hq := hq.1 c1
      exact r_vret C hr hlk hw dX3_closeRow_38 (Nat.le_refl _) (Nat.le_refl _) ⟨rfl, hq⟩
    · replace hq := hq.2 c1
      refine lv_aload_n hx hb dX3_closeRow_8 rfl (lv_at hl 0 rfl) ?_
      obtain ⟨q2, e3, hq⟩ := hq
      refine gfX3_15 C hw hw.2.2.1 h0 e3 dX3_closeRow_9 ?_
      refine lv_iload_n hx hb dX3_closeRow_12 rfl (lv_at hl 1 rfl) ?_
      refine lv_dup2_11 hx hb dX3_closeRow_13 rfl rfl ?_
      obtain ⟨h4, hq⟩ := hq
      obtain ⟨h5, hq⟩ := hq
      refine q_iald C hw hw.2.2.1 h4 h5 dX3_closeRow_14 ?_
      refine lv_aload_n hx hb dX3_closeRow_15 rfl (lv_at hl 0 rfl) ?_
      obtain ⟨q6, e7, hq⟩ := hq
      refine gfX3_11 C hw hw.2.2.1 h0 e7 dX3_closeRow_16 ?_
      refine lv_iload_n hx hb dX3_closeRow_19 rfl (lv_at hl 1 rfl) ?_
      obtain ⟨h8, hq⟩ := hq
      obtain ⟨h9, hq⟩ := hq
      refine q_iald C hw hw.2.2.1 h8 h9 dX3_closeRow_20 ?_
      refine lv_ior hx hb dX3_closeRow_21 ?_
      refine q_iast C hw hw.2.2.1 h4 h5 dX3_closeRow_22 (fun H locs hw => ?_)
      generalize e11 : uI M q2 (Int32.toNatClampNeg x1) ((mI M q2 (Int32.toNatClampNeg x1)) ||| (mI M q6 (Int32.toNatClampNeg x1))) = M10 at hw
      replace hq := hq M10 e11.symm
      have e3 : mR M10 a0 1 = some q2 := by rw [← e11, mR_uI]; exact e3
      have e7 : mR M10 a0 0 = some q6 := by rw [← e11, mR_uI]; exact e7
      refine lv_aload_n hx hb dX3_closeRow_23 rfl (lv_at hl 0 rfl) ?_
      refine gfX3_11 C hw hw.2.2.1 h0 e7 dX3_closeRow_24 ?_
      refine lv_iload_n hx hb dX3_closeRow_27 rfl (lv_at hl 1 rfl) ?_
      refine lv_iconst (v := 1) hx hb dX3_closeRow_28 (by decide) ?_
      refine lv_iload_n hx hb dX3_closeRow_29 rfl (lv_at hl 1 rfl) ?_
      refine lv_ishl hx hb dX3_closeRow_30 ?_
      refine q_iast C hw hw.2.2.1 h8 h9 dX3_closeRow_31 (fun H locs hw => ?_)
      generalize e13 : uI M10 q6 (Int32.toNatClampNeg x1) (1 <<< (x1 &&& 31)) = M12 at hw
      replace hq := hq M12 e13.symm
      have e3 : mR M12 a0 1 = some q2 := by rw [← e13, mR_uI]; exact e3
      have e7 : mR M12 a0 0 = some q6 := by rw [← e13, mR_uI]; exact e7
      refine lv_iinc (v := (x1 + 1)) (lv' := [(1, .int (x1 + 1)), (0, .ref a0)]) hx hb dX3_closeRow_32 hl (k := 1) rfl rfl (by decide) rfl (fun ls hl => ?_)
      refine lv_goto (tgt := 2) hx hb dX3_closeRow_35 (by decide) ?_
      exact hk2 _ _ _ _ _ hq hw (lv_sub hl [1, 0] rfl)
set_option maxHeartbeats 4000000 in
set_option maxRecDepth 100000 in
theorem ct_X3_closeRow {l : Launch} {g : Gh} {M0 : Mem} {a0 : Nat} {post : Mem → Prop}  (hq : wp_X3_closeRow  g M0 a0 post) : Ct l g yX3_closeRow cX3_closeRow 2 none 0 0 0 [.ref a0] M0 (pV post) := by
  unfold wp_X3_closeRow at hq
  obtain ⟨h0, hq⟩ := hq
  refine Ct.of (by decide) (Nat.le_of_ble_eq_true rfl) ?_
  intro p e s m below meth c ls C hr hlk hn hl hw
  have hx := C.1.1
  have hb := C.1.2.1
  have hl : lv_has ls 2 [(0, .ref a0)] := hl
  refine lv_iconst (v := 0) hx hb dX3_closeRow_0 (by decide) ?_
  refine lv_istore_n (lv' := [(1, .int 0), (0, .ref a0)]) hx hb dX3_closeRow_1 rfl hl (by decide) rfl (fun ls hl => ?_)
  obtain ⟨nf, hq⟩ := hq
  exact lp_X3_closeRow_2  C hr hlk hn h0  nf _ _ _ _ _ hq hw (lv_sub hl [1, 0] rfl)

set_option maxRecDepth 100000 in
def bd_J7_fill_53178_5  (g : Gh) (M0 : Mem) (a0 : Nat) (p1 : Int32) (post : Mem → Prop)  (bk5 : Int32 × Int32 × Mem → Prop) (x2 : Int32) (x3 : Int32)  (M : Mem) : Prop :=
  ((x3 ≤ x2) → post M) ∧ (¬ (x3 ≤ x2) → okc (gB g) M0 a0 14 ∧ (vp_in x2 (mN M0 a0) ∧ (∀ M4, M4 = uI M a0 (Int32.toNatClampNeg x2) p1 → (bk5 ((x2 + 1), x3, M4)))))
set_option maxRecDepth 100000 in
def wp_J7_fill_53178  (g : Gh) (M0 : Mem) (a0 : Nat) (p1 : Int32) (post : Mem → Prop) : Prop :=
  okc (gB g) M0 a0 14 ∧ ((∃ n : Nat, lfp (fun bk z => bd_J7_fill_53178_5  g M0 a0 p1 post  bk z.1 z.2.1 z.2.2) n (0, (nI (mN M0 a0)), M0)))
set_option maxHeartbeats 4000000 in
set_option maxRecDepth 100000 in
theorem lp_J7_fill_53178_5 {l : Launch} {g : Gh} {p : Program} {e : Env} {s : State} {m : MethodId} {args : Array Value} {below : List Frame} {meth : Method} {c : Code} {M0 : Mem} {a0 : Nat} {p1 : Int32} {post : Mem → Prop}  (C : Cx g p s m args c cJ7_fill_53178 4 RJ7) (hr : meth.sig.returnType = none) (hlk : meth.locks = false) (hn : meth.name = "fill")   : ∀ (nf : Nat) (x2 : Int32) (x3 : Int32)  (M : Mem) (H : Heap) (locs : List Loc) (ls : Array Slot), lfp (fun bk z => bd_J7_fill_53178_5  g M0 a0 p1 post  bk z.1 z.2.1 z.2.2) nf (x2, x3, M) → Wd g s M0 M H locs → lv_has ls 4 [(0, .ref a0), (1, .int p1), (2, .int x2), (3, .int x3)] → W p l e (rmo 0 0 0) s m args below meth c H locs 0 0 (MQ below (Cq g M0 (pV post)) args s 0 0 (gA g)) (F0 m 5 ls []) := by
  have hx := C.1.1
  have hb := C.1.2.1
  intro nf
  induction nf with
  | zero => intro _ _ _ H locs ls hq; exact hq.elim
  | succ nf hk5 =>
    intro x2 x3 M H locs ls hq hw hl
    replace hq : bd_J7_fill_53178_5  g M0 a0 p1 post  (lfp (fun bk z => bd_J7_fill_53178_5  g M0 a0 p1 post  bk z.1 z.2.1 z.2.2) nf) x2 x3 M := hq
    unfold bd_J7_fill_53178_5 at hq
    refine lv_iload_n hx hb dJ7_fill_53178_5 rfl (lv_at hl 2 rfl) ?_
    refine lv_iload_n hx hb dJ7_fill_53178_6 rfl (lv_at hl 3 rfl) ?_
    refine lv_icmp_ge (tgt := 20) hx hb dJ7_fill_53178_7 (by decide) (fun c1 => ?_) (fun c1 => ?_)
    · replace hq := hq.1 c1
      exact r_vret C hr hlk hw dJ7_fill_53178_20 (Nat.le_refl _) (Nat.le_refl _) ⟨rfl, hq⟩
    · replace hq := hq.2 c1
      refine lv_aload_n hx hb dJ7_fill_53178_10 rfl (lv_at hl 0 rfl) ?_
      refine lv_iload_n hx hb dJ7_fill_53178_11 rfl (lv_at hl 2 rfl) ?_
      refine lv_iload_n hx hb dJ7_fill_53178_12 rfl (lv_at hl 1 rfl) ?_
      obtain ⟨h2, hq⟩ := hq
      obtain ⟨h3, hq⟩ := hq
      refine q_iast C hw hw.2.2.1 h2 h3 dJ7_fill_53178_13 (fun H locs hw => ?_)
      generalize e5 : uI M a0 (Int32.toNatClampNeg x2) p1 = M4 at hw
      replace hq := hq M4 e5.symm
      refine lv_iinc (v := (x2 + 1)) (lv' := [(2, .int (x2 + 1)), (0, .ref a0), (1, .int p1), (3, .int x3)]) hx hb dJ7_fill_53178_14 hl (k := 2) rfl rfl (by decide) rfl (fun ls hl => ?_)
      refine lv_goto (tgt := 5) hx hb dJ7_fill_53178_17 (by decide) ?_
      exact hk5 _ _ _ _ _ _ hq hw (lv_sub hl [1, 2, 0, 3] rfl)
set_option maxHeartbeats 4000000 in
set_option maxRecDepth 100000 in
theorem ct_J7_fill_53178 {l : Launch} {g : Gh} {M0 : Mem} {a0 : Nat} {p1 : Int32} {post : Mem → Prop}  (hq : wp_J7_fill_53178  g M0 a0 p1 post) : Ct l g yJ7_fill_53178 cJ7_fill_53178 4 none 0 0 0 [.ref a0, .int p1] M0 (pV post) := by
  unfold wp_J7_fill_53178 at hq
  refine Ct.of (by decide) (Nat.le_of_ble_eq_true rfl) ?_
  intro p e s m below meth c ls C hr hlk hn hl hw
  have hx := C.1.1
  have hb := C.1.2.1
  have hl : lv_has ls 4 [(0, .ref a0), (1, .int p1)] := hl
  refine lv_iconst (v := 0) hx hb dJ7_fill_53178_0 (by decide) ?_
  refine lv_istore_n (lv' := [(2, .int 0), (0, .ref a0), (1, .int p1)]) hx hb dJ7_fill_53178_1 rfl hl (by decide) rfl (fun ls hl => ?_)
  refine lv_aload_n hx hb dJ7_fill_53178_2 rfl (lv_at hl 1 rfl) ?_
  obtain ⟨h6, hq⟩ := hq
  refine q_alen C hw hw.2.2.1 h6 (by decide) (by decide) rfl dJ7_fill_53178_3 ?_
  refine lv_istore_n (lv' := [(3, .int (nI (mN M0 a0))), (2, .int 0), (0, .ref a0), (1, .int p1)]) hx hb dJ7_fill_53178_4 rfl hl (by decide) rfl (fun ls hl => ?_)
  obtain ⟨nf, hq⟩ := hq
  exact lp_J7_fill_53178_5  C hr hlk hn  nf _ _ _ _ _ _ hq hw (lv_sub hl [2, 3, 1, 0] rfl)

set_option maxRecDepth 100000 in
def lb_X3_endsInAnyOrder_107  (g : Gh) (M0 : Mem) (a0 : Nat) (p1 : Int32) (post : Int32 → Mem → Prop)  (x2 : Int32)  (M : Mem) : Prop :=
  ∃ q1, mR M a0 4 = some q1 ∧ (okc (gB g) M0 q1 14 ∧ (vp_in x2 (mN M0 q1) ∧ (post (mI M q1 (Int32.toNatClampNeg x2)) M)))
set_option maxRecDepth 100000 in
def bd_X3_endsInAnyOrder_36  (g : Gh) (M0 : Mem) (a0 : Nat) (p1 : Int32) (post : Int32 → Mem → Prop) (bk28 : Int32 × Int32 × Mem → Prop) (bk36 : Int32 × Int32 × Int32 × Mem → Prop) (x2 : Int32) (x3 : Int32) (x4 : Int32)  (M : Mem) : Prop :=
  (((mI M a0 3) ≤ x4) → bk28 (x2, (x3 + 1), M)) ∧ (¬ ((mI M a0 3) ≤ x4) → ∃ q6, mR M a0 4 = some q6 ∧ (okc (gB g) M0 q6 14 ∧ (vp_in x3 (mN M0 q6) ∧ ((((mI M q6 (Int32.toNatClampNeg x3)) = 0) → bk28 (x2, (x3 + 1), M)) ∧ (¬ ((mI M q6 (Int32.toNatClampNeg x3)) = 0) → ((((x3 >>> (x4 &&& 31)) &&& 1) = 0) → vp_in (x3 ||| (1 <<< (x4 &&& 31))) (mN M0 q6) ∧ (∃ q13, mR M a0 2 = some q13 ∧ (wp_X3_endsBehind g M (mI M q6 (Int32.toNatClampNeg x3)) q13 (x4 * 21) (fun v15 M16 => ∀ M17, M17 = uI M16 q6 (Int32.toNatClampNeg (x3 ||| (1 <<< (x4 &&& 31)))) ((mI M q6 (Int32.toNatClampNeg (x3 ||| (1 <<< (x4 &&& 31))))) ||| v15) → (bk36 (x2, x3, (x4 + 1), M17)))))) ∧ (¬ (((x3 >>> (x4 &&& 31)) &&& 1) = 0) → bk36 (x2, x3, (x4 + 1), M)))))))
set_option maxRecDepth 100000 in
def bd_X3_endsInAnyOrder_28  (g : Gh) (M0 : Mem) (a0 : Nat) (p1 : Int32) (post : Int32 → Mem → Prop)  (bk28 : Int32 × Int32 × Mem → Prop) (x2 : Int32) (x3 : Int32)  (M : Mem) : Prop :=
  ((x2 ≤ x3) → lb_X3_endsInAnyOrder_107  g M0 a0 p1 post  x2 M) ∧ (¬ (x2 ≤ x3) → (∃ n : Nat, lfp (fun bk z => bd_X3_endsInAnyOrder_36  g M0 a0 p1 post bk28 bk z.1 z.2.1 z.2.2.1 z.2.2.2) n (x2, x3, 0, M)))
set_option maxRecDepth 100000 in
def wp_X3_endsInAnyOrder  (g : Gh) (M0 : Mem) (a0 : Nat) (p1 : Int32) (post : Int32 → Mem → Prop) : Prop :=
  okc (gB g) M0 a0 3 ∧ (∃ q20, mR M0 a0 4 = some q20 ∧ (wp_J7_fill_53178 g M0 q20 0 (fun M23 => ∃ q24, mR M23 a0 4 = some q24 ∧ (okc (gB g) M0 q24 14 ∧ (vp_in 0 (mN M0 q24) ∧ (∀ M28, M28 = uI M23 q24 (Int32.toNatClampNeg 0) (1 <<< (p1 &&& 31)) → ((∃ n : Nat, lfp (fun bk z => bd_X3_endsInAnyOrder_28  g M0 a0 p1 post  bk z.1 z.2.1 z.2.2) n (((1 <<< ((mI M0 a0 3) &&& 31)) - 1), 0, M28)))))))))
set_option maxHeartbeats 4000000 in
set_option maxRecDepth 100000 in
theorem lt_X3_endsInAnyOrder_107 {l : Launch} {g : Gh} {p : Program} {e : Env} {s : State} {m : MethodId} {args : Array Value} {below : List Frame} {meth : Method} {c : Code} {H : Heap} {locs : List Loc} {ls : Array Slot} {M0 M : Mem} {a0 : Nat} {p1 : Int32} {post : Int32 → Mem → Prop} {x2 : Int32}   (C : Cx g p s m args c cX3_endsInAnyOrder 5 RX3) (hr : meth.sig.returnType = (some .int)) (hlk : meth.locks = false) (hn : meth.name = "endsInAnyOrder") (h0 : okc (gB g) M0 a0 3)  (hq : lb_X3_endsInAnyOrder_107  g M0 a0 p1 post  x2 M) (hw : Wd g s M0 M H locs) (hl : lv_has ls 5 [(0, .ref a0), (1, .int p1), (2, .int x2)]) : W p l e (rmo 1 0 0) s m args below meth c H locs 0 0 (MQ below (Cq g M0 (pI post)) args s 0 0 (gA g)) (F0 m 107 ls []) := by
  have hx := C.1.1
  have hb := C.1.2.1
  unfold lb_X3_endsInAnyOrder_107 at hq
  refine lv_aload_n hx hb dX3_endsInAnyOrder_107 rfl (lv_at hl 0 rfl) ?_
  obtain ⟨q1, e2, hq⟩ := hq
  refine gfX3_27 C hw hw.2.2.1 h0 e2 dX3_endsInAnyOrder_108 ?_
  refine lv_iload_n hx hb dX3_endsInAnyOrder_111 rfl (lv_at hl 2 rfl) ?_
  obtain ⟨h3, hq⟩ := hq
  obtain ⟨h4, hq⟩ := hq
  refine q_iald C hw hw.2.2.1 h3 h4 dX3_endsInAnyOrder_112 ?_
  exact r_iret C hr hlk hw dX3_endsInAnyOrder_113 (Nat.le_refl _) (Nat.le_refl _) ⟨_, rfl, hq⟩
set_option maxHeartbeats 4000000 in
set_option maxRecDepth 100000 in
theorem lp_X3_endsInAnyOrder_36 {l : Launch} {g : Gh} {p : Program} {e : Env} {s : State} {m : MethodId} {args : Array Value} {below : List Frame} {meth : Method} {c : Code} {M0 : Mem} {a0 : Nat} {p1 : Int32} {post : Int32 → Mem → Prop}  (C : Cx g p s m args c cX3_endsInAnyOrder 5 RX3) (hr : meth.sig.returnType = (some .int)) (hlk : meth.locks = false) (hn : meth.name = "endsInAnyOrder") (h0 : okc (gB g) M0 a0 3) {bk28 : Int32 × Int32 × Mem → Prop} (hk28 : ∀ (x2 : Int32) (x3 : Int32) (M : Mem) (H : Heap) (locs : List Loc) (ls : Array Slot), bk28 (x2, x3, M) → Wd g s M0 M H locs → lv_has ls 5 [(0, .ref a0), (1, .int p1), (2, .int x2), (3, .int x3)] → W p l e (rmo 1 0 0) s m args below meth c H locs 0 0 (MQ below (Cq g M0 (pI post)) args s 0 0 (gA g)) (F0 m 28 ls [])) : ∀ (nf : Nat) (x2 : Int32) (x3 : Int32) (x4 : Int32)  (M : Mem) (H : Heap) (locs : List Loc) (ls : Array Slot), lfp (fun bk z => bd_X3_endsInAnyOrder_36  g M0 a0 p1 post bk28 bk z.1 z.2.1 z.2.2.1 z.2.2.2) nf (x2, x3, x4, M) → Wd g s M0 M H locs → lv_has ls 5 [(0, .ref a0), (1, .int p1), (2, .int x2), (3, .int x3), (4, .int x4)] → W p l e (rmo 1 0 0) s m args below meth c H locs 0 0 (MQ below (Cq g M0 (pI post)) args s 0 0 (gA g)) (F0 m 36 ls []) := by
  have hx := C.1.1
  have hb := C.1.2.1
  intro nf
  induction nf with
  | zero => intro _ _ _ _ H locs ls hq; exact hq.elim
  | succ nf hk36 =>
    intro x2 x3 x4 M H locs ls hq hw hl
    replace hq : bd_X3_endsInAnyOrder_36  g M0 a0 p1 post bk28 (lfp (fun bk z => bd_X3_endsInAnyOrder_36  g M0 a0 p1 post bk28 bk z.1 z.2.1 z.2.2.1 z.2.2.2) nf) x2 x3 x4 M := hq
    unfold bd_X3_endsInAnyOrder_36 at hq
    refine lv_iload hx hb dX3_endsInAnyOrder_36 (lv_at hl 4 rfl) ?_
    refine lv_aload_n hx hb dX3_endsInAnyOrder_38 rfl (lv_at hl 0 rfl) ?_
    refine gfX3_23 C hw hw.2.2.1 h0 dX3_endsInAnyOrder_39 ?_
    refine lv_icmp_ge (tgt := 101) hx hb dX3_endsInAnyOrder_42 (by decide) (fun c5 => ?_) (fun c5 => ?_)
    · replace hq := hq.1 c5
      refine lv_iinc (v := (x3 + 1)) (lv' := [(3, .int (x3 + 1)), (0, .ref a0), (1, .int p1), (2, .int x2), (4, .int x4)]) hx hb dX3_endsInAnyOrder_101 hl (k := 3) rfl rfl (by decide) rfl (fun ls hl => ?_)
      refine lv_goto (tgt := 28) hx hb dX3_endsInAnyOrder_104 (by decide) ?_
      exact hk28 _ _ _ _ _ _ hq hw (lv_sub hl [1, 2, 3, 0] rfl)
    · replace hq := hq.2 c5
      refine lv_aload_n hx hb dX3_endsInAnyOrder_45 rfl (lv_at hl 0 rfl) ?_
      obtain ⟨q6, e7, hq⟩ := hq
      refine gfX3_27 C hw hw.2.2.1 h0 e7 dX3_endsInAnyOrder_46 ?_
      refine lv_iload_n hx hb dX3_endsInAnyOrder_49 rfl (lv_at hl 3 rfl) ?_
      obtain ⟨h8, hq⟩ := hq
      obtain ⟨h9, hq⟩ := hq
      refine q_iald C hw hw.2.2.1 h8 h9 dX3_endsInAnyOrder_50 ?_
      refine lv_if_eq (tgt := 101) hx hb dX3_endsInAnyOrder_51 (by decide) (fun c10 => ?_) (fun c10 => ?_)
      · replace hq := hq.1 c10
        refine lv_iinc (v := (x3 + 1)) (lv' := [(3, .int (x3 + 1)), (0, .ref a0), (1, .int p1), (2, .int x2), (4, .int x4)]) hx hb dX3_endsInAnyOrder_101 hl (k := 3) rfl rfl (by decide) rfl (fun ls hl => ?_)
        refine lv_goto (tgt := 28) hx hb dX3_endsInAnyOrder_104 (by decide) ?_
        exact hk28 _ _ _ _ _ _ hq hw (lv_sub hl [1, 2, 3, 0] rfl)
      · replace hq := hq.2 c10
        refine lv_iload_n hx hb dX3_endsInAnyOrder_54 rfl (lv_at hl 3 rfl) ?_
        refine lv_iload hx hb dX3_endsInAnyOrder_55 (lv_at hl 4 rfl) ?_
        refine lv_ishr hx hb dX3_endsInAnyOrder_57 ?_
        refine lv_iconst (v := 1) hx hb dX3_endsInAnyOrder_58 (by decide) ?_
        refine lv_iand hx hb dX3_endsInAnyOrder_59 ?_
        refine lv_if_ne (tgt := 95) hx hb dX3_endsInAnyOrder_60 (by decide) (fun c11 => ?_) (fun c11 => ?_)
        · replace hq := hq.2 c11
          refine lv_iinc (v := (x4 + 1)) (lv' := [(4, .int (x4 + 1)), (0, .ref a0), (1, .int p1), (2, .int x2), (3, .int x3)]) hx hb dX3_endsInAnyOrder_95 hl (k := 4) rfl rfl (by decide) rfl (fun ls hl => ?_)
          refine lv_goto (tgt := 36) hx hb dX3_endsInAnyOrder_98 (by decide) ?_
          exact hk36 _ _ _ _ _ _ _ hq hw (lv_sub hl [1, 2, 3, 4, 0] rfl)
        · replace hq := hq.1 c11
          refine lv_aload_n hx hb dX3_endsInAnyOrder_63 rfl (lv_at hl 0 rfl) ?_
          refine gfX3_27 C hw hw.2.2.1 h0 e7 dX3_endsInAnyOrder_64 ?_
          refine lv_iload_n hx hb dX3_endsInAnyOrder_67 rfl (lv_at hl 3 rfl) ?_
          refine lv_iconst (v := 1) hx hb dX3_endsInAnyOrder_68 (by decide) ?_
          refine lv_iload hx hb dX3_endsInAnyOrder_69 (lv_at hl 4 rfl) ?_
          refine lv_ishl hx hb dX3_endsInAnyOrder_71 ?_
          refine lv_ior hx hb dX3_endsInAnyOrder_72 ?_
          refine lv_dup2_11 hx hb dX3_endsInAnyOrder_73 rfl rfl ?_
          obtain ⟨h12, hq⟩ := hq
          refine q_iald C hw hw.2.2.1 h8 h12 dX3_endsInAnyOrder_74 ?_
          refine lv_aload_n hx hb dX3_endsInAnyOrder_75 rfl (lv_at hl 0 rfl) ?_
          refine gfX3_27 C hw hw.2.2.1 h0 e7 dX3_endsInAnyOrder_76 ?_
          refine lv_iload_n hx hb dX3_endsInAnyOrder_79 rfl (lv_at hl 3 rfl) ?_
          refine q_iald C hw hw.2.2.1 h8 h9 dX3_endsInAnyOrder_80 ?_
          refine lv_aload_n hx hb dX3_endsInAnyOrder_81 rfl (lv_at hl 0 rfl) ?_
          obtain ⟨q13, e14, hq⟩ := hq
          refine gfX3_20 C hw hw.2.2.1 h0 e14 dX3_endsInAnyOrder_82 ?_
          refine lv_iload hx hb dX3_endsInAnyOrder_85 (lv_at hl 4 rfl) ?_
          refine lv_bipush (v := 21) hx hb dX3_endsInAnyOrder_87 (by decide) ?_
          refine lv_imul hx hb dX3_endsInAnyOrder_89 ?_
          refine r_callS (index := 33) (n := 3) (d2 := 0) (mc := 0) (ms := 0) (As := [.int (mI M q6 (Int32.toNatClampNeg x3)), .ref q13, .int (x4 * 21)]) (rest := [.int (mI M q6 (Int32.toNatClampNeg (x3 ||| (1 <<< (x4 &&& 31))))), .int (x3 ||| (1 <<< (x4 &&& 31))), .ref q6]) C hw (ct_X3_endsBehind hq) ksX3_33 ⟨by decide, by decide⟩ ⟨by decide, by decide⟩ rfl hl.1 rfl (Nat.le_of_ble_eq_true rfl) dX3_endsInAnyOrder_90 (fun r M16 H locs hp hle hw => ?_)
          obtain ⟨v15, rfl, hq⟩ := hp
          refine W.eq (g2 := F0 m 93 ls [.int v15, .int (mI M q6 (Int32.toNatClampNeg (x3 ||| (1 <<< (x4 &&& 31))))), .int (x3 ||| (1 <<< (x4 &&& 31))), .ref q6]) rfl ?_
          refine lv_ior hx hb dX3_endsInAnyOrder_93 ?_
          refine q_iast C hw hw.2.2.1 h8 h12 dX3_endsInAnyOrder_94 (fun H locs hw => ?_)
          generalize e18 : uI M16 q6 (Int32.toNatClampNeg (x3 ||| (1 <<< (x4 &&& 31)))) ((mI M q6 (Int32.toNatClampNeg (x3 ||| (1 <<< (x4 &&& 31))))) ||| v15) = M17 at hw
          replace hq := hq M17 e18.symm
          refine lv_iinc (v := (x4 + 1)) (lv' := [(4, .int (x4 + 1)), (0, .ref a0), (1, .int p1), (2, .int x2), (3, .int x3)]) hx hb dX3_endsInAnyOrder_95 hl (k := 4) rfl rfl (by decide) rfl (fun ls hl => ?_)
          refine lv_goto (tgt := 36) hx hb dX3_endsInAnyOrder_98 (by decide) ?_
          exact hk36 _ _ _ _ _ _ _ hq hw (lv_sub hl [1, 2, 3, 4, 0] rfl)
set_option maxHeartbeats 4000000 in
set_option maxRecDepth 100000 in
theorem lp_X3_endsInAnyOrder_28 {l : Launch} {g : Gh} {p : Program} {e : Env} {s : State} {m : MethodId} {args : Array Value} {below : List Frame} {meth : Method} {c : Code} {M0 : Mem} {a0 : Nat} {p1 : Int32} {post : Int32 → Mem → Prop}  (C : Cx g p s m args c cX3_endsInAnyOrder 5 RX3) (hr : meth.sig.returnType = (some .int)) (hlk : meth.locks = false) (hn : meth.name = "endsInAnyOrder") (h0 : okc (gB g) M0 a0 3)  : ∀ (nf : Nat) (x2 : Int32) (x3 : Int32)  (M : Mem) (H : Heap) (locs : List Loc) (ls : Array Slot), lfp (fun bk z => bd_X3_endsInAnyOrder_28  g M0 a0 p1 post  bk z.1 z.2.1 z.2.2) nf (x2, x3, M) → Wd g s M0 M H locs → lv_has ls 5 [(0, .ref a0), (1, .int p1), (2, .int x2), (3, .int x3)] → W p l e (rmo 1 0 0) s m args below meth c H locs 0 0 (MQ below (Cq g M0 (pI post)) args s 0 0 (gA g)) (F0 m 28 ls []) := by
  have hx := C.1.1
  have hb := C.1.2.1
  intro nf
  induction nf with
  | zero => intro _ _ _ H locs ls hq; exact hq.elim
  | succ nf hk28 =>
    intro x2 x3 M H locs ls hq hw hl
    replace hq : bd_X3_endsInAnyOrder_28  g M0 a0 p1 post  (lfp (fun bk z => bd_X3_endsInAnyOrder_28  g M0 a0 p1 post  bk z.1 z.2.1 z.2.2) nf) x2 x3 M := hq
    unfold bd_X3_endsInAnyOrder_28 at hq
    refine lv_iload_n hx hb dX3_endsInAnyOrder_28 rfl (lv_at hl 3 rfl) ?_
    refine lv_iload_n hx hb dX3_endsInAnyOrder_29 rfl (lv_at hl 2 rfl) ?_
    refine lv_icmp_ge (tgt := 107) hx hb dX3_endsInAnyOrder_30 (by decide) (fun c19 => ?_) (fun c19 => ?_)
    · replace hq := hq.1 c19
      exact lt_X3_endsInAnyOrder_107  C hr hlk hn h0  hq hw (lv_sub hl [0, 1, 2] rfl)
    · replace hq := hq.2 c19
      refine lv_iconst (v := 0) hx hb dX3_endsInAnyOrder_33 (by decide) ?_
      refine lv_istore (lv' := [(4, .int 0), (0, .ref a0), (1, .int p1), (2, .int x2), (3, .int x3)]) hx hb dX3_endsInAnyOrder_34 hl (by decide) rfl (fun ls hl => ?_)
      obtain ⟨nf, hq⟩ := hq
      exact lp_X3_endsInAnyOrder_36  C hr hlk hn h0 hk28 nf _ _ _ _ _ _ _ hq hw (lv_sub hl [1, 2, 3, 4, 0] rfl)
set_option maxHeartbeats 4000000 in
set_option maxRecDepth 100000 in
theorem ct_X3_endsInAnyOrder {l : Launch} {g : Gh} {M0 : Mem} {a0 : Nat} {p1 : Int32} {post : Int32 → Mem → Prop}  (hq : wp_X3_endsInAnyOrder  g M0 a0 p1 post) : Ct l g yX3_endsInAnyOrder cX3_endsInAnyOrder 5 (some .int) 1 0 0 [.ref a0, .int p1] M0 (pI post) := by
  unfold wp_X3_endsInAnyOrder at hq
  obtain ⟨h0, hq⟩ := hq
  refine Ct.of (by decide) (Nat.le_of_ble_eq_true rfl) ?_
  intro p e s m below meth c ls C hr hlk hn hl hw
  have hx := C.1.1
  have hb := C.1.2.1
  have hl : lv_has ls 5 [(0, .ref a0), (1, .int p1)] := hl
  refine lv_iconst (v := 1) hx hb dX3_endsInAnyOrder_0 (by decide) ?_
  refine lv_aload_n hx hb dX3_endsInAnyOrder_1 rfl (lv_at hl 0 rfl) ?_
  refine gfX3_23 C hw hw.2.2.1 h0 dX3_endsInAnyOrder_2 ?_
  refine lv_ishl hx hb dX3_endsInAnyOrder_5 ?_
  refine lv_iconst (v := 1) hx hb dX3_endsInAnyOrder_6 (by decide) ?_
  refine lv_isub hx hb dX3_endsInAnyOrder_7 ?_
  refine lv_istore_n (lv' := [(2, .int ((1 <<< ((mI M0 a0 3) &&& 31)) - 1)), (0, .ref a0), (1, .int p1)]) hx hb dX3_endsInAnyOrder_8 rfl hl (by decide) rfl (fun ls hl => ?_)
  refine lv_aload_n hx hb dX3_endsInAnyOrder_9 rfl (lv_at hl 1 rfl) ?_
  obtain ⟨q20, e21, hq⟩ := hq
  refine gfX3_27 C hw hw.2.2.1 h0 e21 dX3_endsInAnyOrder_10 ?_
  refine lv_iconst (v := 0) hx hb dX3_endsInAnyOrder_13 (by decide) ?_
  refine r_callS (index := 43) (n := 2) (d2 := 0) (mc := 0) (ms := 0) (As := [.ref q20, .int 0]) (rest := []) C hw (ct_J7_fill_53178 hq) ksX3_43 ⟨by decide, by decide⟩ ⟨by decide, by decide⟩ rfl hl.1 rfl (Nat.le_of_ble_eq_true rfl) dX3_endsInAnyOrder_14 (fun r M23 H locs hp hle hw => ?_)
  obtain ⟨rfl, hq⟩ := hp
  refine W.eq (g2 := F0 m 17 ls []) rfl ?_
  refine lv_aload_n hx hb dX3_endsInAnyOrder_17 rfl (lv_at hl 1 rfl) ?_
  obtain ⟨q24, e25, hq⟩ := hq
  refine gfX3_27 C hw hw.2.2.1 h0 e25 dX3_endsInAnyOrder_18 ?_
  refine lv_iconst (v := 0) hx hb dX3_endsInAnyOrder_21 (by decide) ?_
  refine lv_iconst (v := 1) hx hb dX3_endsInAnyOrder_22 (by decide) ?_
  refine lv_iload_n hx hb dX3_endsInAnyOrder_23 rfl (lv_at hl 2 rfl) ?_
  refine lv_ishl hx hb dX3_endsInAnyOrder_24 ?_
  obtain ⟨h26, hq⟩ := hq
  obtain ⟨h27, hq⟩ := hq
  refine q_iast C hw hw.2.2.1 h26 h27 dX3_endsInAnyOrder_25 (fun H locs hw => ?_)
  generalize e29 : uI M23 q24 (Int32.toNatClampNeg 0) (1 <<< (p1 &&& 31)) = M28 at hw
  replace hq := hq M28 e29.symm
  have e25 : mR M28 a0 4 = some q24 := by rw [← e29, mR_uI]; exact e25
  refine lv_iconst (v := 0) hx hb dX3_endsInAnyOrder_26 (by decide) ?_
  refine lv_istore_n (lv' := [(3, .int 0), (2, .int ((1 <<< ((mI M0 a0 3) &&& 31)) - 1)), (0, .ref a0), (1, .int p1)]) hx hb dX3_endsInAnyOrder_27 rfl hl (by decide) rfl (fun ls hl => ?_)
  obtain ⟨nf, hq⟩ := hq
  exact lp_X3_endsInAnyOrder_28  C hr hlk hn h0  nf _ _ _ _ _ _ hq hw (lv_sub hl [2, 3, 1, 0] rfl)

set_option maxRecDepth 100000 in
def wp_X4_init  (g : Gh) (M0 : Mem) (a0 : Nat) (post : Mem → Prop) : Prop :=
  okc (gB g) M0 a0 4 ∧ ((0 + 1 ≤ 5 ∧ 0 + 6 ≤ 30) ∧ (∀ q2 M3, q2 = mT M0 → M3 = nw M0 14 6 → (∀ M7, M7 = uR M3 a0 2 (some q2) → (((0 + 1) + 1 ≤ 5 ∧ (0 + 6) + 6 ≤ 30) ∧ (∀ q10 M11, q10 = mT M7 → M11 = nw M7 17 6 → (∀ M15, M15 = uR M11 a0 3 (some q10) → ((((0 + 1) + 1) + 1 ≤ 5 ∧ ((0 + 6) + 6) + 6 ≤ 30) ∧ (∀ q18 M19, q18 = mT M15 → M19 = nw M15 14 6 → (∀ M23, M23 = uR M19 a0 4 (some q18) → (((((0 + 1) + 1) + 1) + 1 ≤ 5 ∧ (((0 + 6) + 6) + 6) + 6 ≤ 30) ∧ (∀ q26 M27, q26 = mT M23 → M27 = nw M23 14 6 → (∀ M31, M31 = uR M27 a0 5 (some q26) → ((((((0 + 1) + 1) + 1) + 1) + 1 ≤ 5 ∧ ((((0 + 6) + 6) + 6) + 6) + 6 ≤ 30) ∧ (∀ q34 M35, q34 = mT M31 → M35 = nw M31 14 6 → (∀ M39, M39 = uR M35 a0 6 (some q34) → (((((((0 + 1) + 1) + 1) + 1) + 1) ≤ 5 ∧ (((((0 + 6) + 6) + 6) + 6) + 6) ≤ 30) ∧ (post M39)))))))))))))))))
set_option maxHeartbeats 4000000 in
set_option maxRecDepth 100000 in
theorem ct_X4_init {l : Launch} {g : Gh} {M0 : Mem} {a0 : Nat} {post : Mem → Prop}  (hq : wp_X4_init  g M0 a0 post) : Ct l g yX4_init cX4_init 1 none 1 5 30 [.ref a0] M0 (pV post) := by
  unfold wp_X4_init at hq
  obtain ⟨h0, hq⟩ := hq
  have h00 := h0
  refine Ct.of (by decide) (Nat.le_of_ble_eq_true rfl) ?_
  intro p e s m below meth c ls C hr hlk hn hl hw
  have hx := C.1.1
  have hb := C.1.2.1
  have hl : lv_has ls 1 [(0, .ref a0)] := hl
  refine lv_aload_n hx hb dX4_init_0 rfl (lv_at hl 0 rfl) ?_
  refine W.objInit hx hb C.1.2.2.2.1 (C.1.2.2.2.2 _ w_167) (C.1.2.2.2.2 _ w_35) (C.1.2.2.2.2 _ w_objInit) rfl (by rw [C.1.2.2.1]; exact hl.1) rfl dX4_init_1 (Nat.le_of_ble_eq_true rfl) (Nat.le_of_ble_eq_true rfl) ?_
  refine W.eq (g2 := F0 m 4 ls []) rfl ?_
  refine lv_aload_n hx hb dX4_init_4 rfl (lv_at hl 0 rfl) ?_
  refine lv_bipush (v := 6) hx hb dX4_init_5 (by decide) ?_
  have hB := hw.B C.2.2.2.2.2
  obtain ⟨h1, hq⟩ := hq
  refine q_newa_14 (N' := 6) C hw (by decide) (by decide) (by decide) h1.1 h1.2 dX4_init_7 (fun H hw => ?_)
  have h6 := okc_nw (gB g) M0 14 6 hB
  have h0 := h0.up (mle_nw M0 14 6)
  generalize e4 : nw M0 14 6 = M3 at hw h6 h0
  generalize e5 : mT M0 = q2 at h6 ⊢
  replace hq := hq q2 M3 e5.symm e4.symm
  refine pfX4_11 (v := (some q2)) C hw (mle_rf _) h0 hn dX4_init_9 (fun H locs hw => ?_)
  generalize e8 : uR M3 a0 2 (some q2) = M7 at hw
  replace hq := hq M7 e8.symm
  have h0 : okc (gB g) M7 a0 4 := by rw [← e8]; exact okc_uR h0
  refine lv_aload_n hx hb dX4_init_12 rfl (lv_at hl 0 rfl) ?_
  refine lv_bipush (v := 6) hx hb dX4_init_13 (by decide) ?_
  have hB := hw.B C.2.2.2.2.2
  obtain ⟨h9, hq⟩ := hq
  refine q_newa_17 (N' := 6) C hw (by decide) (by decide) (by decide) h9.1 h9.2 dX4_init_15 (fun H hw => ?_)
  have h14 := okc_nw (gB g) M7 17 6 hB
  have h0 := h0.up (mle_nw M7 17 6)
  generalize e12 : nw M7 17 6 = M11 at hw h14 h0
  generalize e13 : mT M7 = q10 at h14 ⊢
  replace hq := hq q10 M11 e13.symm e12.symm
  refine pfX4_15 (v := (some q10)) C hw (mle_rf _) h0 hn dX4_init_17 (fun H locs hw => ?_)
  generalize e16 : uR M11 a0 3 (some q10) = M15 at hw
  replace hq := hq M15 e16.symm
  have h0 : okc (gB g) M15 a0 4 := by rw [← e16]; exact okc_uR h0
  refine lv_aload_n hx hb dX4_init_20 rfl (lv_at hl 0 rfl) ?_
  refine lv_bipush (v := 6) hx hb dX4_init_21 (by decide) ?_
  have hB := hw.B C.2.2.2.2.2
  obtain ⟨h17, hq⟩ := hq
  refine q_newa_14 (N' := 6) C hw (by decide) (by decide) (by decide) h17.1 h17.2 dX4_init_23 (fun H hw => ?_)
  have h22 := okc_nw (gB g) M15 14 6 hB
  have h0 := h0.up (mle_nw M15 14 6)
  generalize e20 : nw M15 14 6 = M19 at hw h22 h0
  generalize e21 : mT M15 = q18 at h22 ⊢
  replace hq := hq q18 M19 e21.symm e20.symm
  refine pfX4_19 (v := (some q18)) C hw (mle_rf _) h0 hn dX4_init_25 (fun H locs hw => ?_)
  generalize e24 : uR M19 a0 4 (some q18) = M23 at hw
  replace hq := hq M23 e24.symm
  have h0 : okc (gB g) M23 a0 4 := by rw [← e24]; exact okc_uR h0
  refine lv_aload_n hx hb dX4_init_28 rfl (lv_at hl 0 rfl) ?_
  refine lv_bipush (v := 6) hx hb dX4_init_29 (by decide) ?_
  have hB := hw.B C.2.2.2.2.2
  obtain ⟨h25, hq⟩ := hq
  refine q_newa_14 (N' := 6) C hw (by decide) (by decide) (by decide) h25.1 h25.2 dX4_init_31 (fun H hw => ?_)
  have h30 := okc_nw (gB g) M23 14 6 hB
  have h0 := h0.up (mle_nw M23 14 6)
  generalize e28 : nw M23 14 6 = M27 at hw h30 h0
  generalize e29 : mT M23 = q26 at h30 ⊢
  replace hq := hq q26 M27 e29.symm e28.symm
  refine pfX4_22 (v := (some q26)) C hw (mle_rf _) h0 hn dX4_init_33 (fun H locs hw => ?_)
  generalize e32 : uR M27 a0 5 (some q26) = M31 at hw
  replace hq := hq M31 e32.symm
  have h0 : okc (gB g) M31 a0 4 := by rw [← e32]; exact okc_uR h0
  refine lv_aload_n hx hb dX4_init_36 rfl (lv_at hl 0 rfl) ?_
  refine lv_bipush (v := 6) hx hb dX4_init_37 (by decide) ?_
  have hB := hw.B C.2.2.2.2.2
  obtain ⟨h33, hq⟩ := hq
  refine q_newa_14 (N' := 6) C hw (by decide) (by decide) (by decide) h33.1 h33.2 dX4_init_39 (fun H hw => ?_)
  have h38 := okc_nw (gB g) M31 14 6 hB
  have h0 := h0.up (mle_nw M31 14 6)
  generalize e36 : nw M31 14 6 = M35 at hw h38 h0
  generalize e37 : mT M31 = q34 at h38 ⊢
  replace hq := hq q34 M35 e37.symm e36.symm
  refine pfX4_25 (v := (some q34)) C hw (mle_rf _) h0 hn dX4_init_41 (fun H locs hw => ?_)
  generalize e40 : uR M35 a0 6 (some q34) = M39 at hw
  replace hq := hq M39 e40.symm
  have h0 : okc (gB g) M39 a0 4 := by rw [← e40]; exact okc_uR h0
  obtain ⟨h41, hq⟩ := hq
  exact r_vret C hr hlk hw dX4_init_44 h41.1 h41.2 ⟨rfl, hq⟩

set_option maxRecDepth 100000 in
def wp_J3_checkIndex_8e157  (g : Gh) (M0 : Mem) (p0 : Int32) (p1 : Int32) (r2 : Option Nat) (post : Int32 → Mem → Prop) : Prop :=
  ((p0 < 0) → False) ∧ (¬ (p0 < 0) → ((p0 < p1) → post p0 M0) ∧ (¬ (p0 < p1) → False))
set_option maxHeartbeats 4000000 in
set_option maxRecDepth 100000 in
theorem ct_J3_checkIndex_8e157 {l : Launch} {g : Gh} {M0 : Mem} {p0 : Int32} {p1 : Int32} {r2 : Option Nat} {post : Int32 → Mem → Prop}  (hq : wp_J3_checkIndex_8e157  g M0 p0 p1 r2 post) : Ct l g yJ3_checkIndex_8e157 cJ3_checkIndex_8e157 3 (some .int) 0 0 0 [.int p0, .int p1, va_rf r2] M0 (pI post) := by
  unfold wp_J3_checkIndex_8e157 at hq
  refine Ct.of (by decide) (by cases r2 <;> exact Nat.le_of_ble_eq_true rfl) ?_
  intro p e s m below meth c ls C hr hlk hn hl hw
  have hx := C.1.1
  have hb := C.1.2.1
  have hl : lv_has ls 3 [(0, .int p0), (1, .int p1), (2, va_rf r2)] := hl
  refine lv_iload_n hx hb dJ3_checkIndex_8e157_0 rfl (lv_at hl 0 rfl) ?_
  refine lv_if_lt (tgt := 9) hx hb dJ3_checkIndex_8e157_1 (by decide) (fun c1 => ?_) (fun c1 => ?_)
  · replace hq := hq.1 c1
    refine r_aload_n hx hb dJ3_checkIndex_8e157_9 rfl (lv_at hl 2 rfl) ?_
    refine lv_iload_n hx hb dJ3_checkIndex_8e157_10 rfl (lv_at hl 0 rfl) ?_
    refine lv_iload_n hx hb dJ3_checkIndex_8e157_11 rfl (lv_at hl 1 rfl) ?_
    exact hq.elim
  · replace hq := hq.2 c1
    refine lv_iload_n hx hb dJ3_checkIndex_8e157_4 rfl (lv_at hl 0 rfl) ?_
    refine lv_iload_n hx hb dJ3_checkIndex_8e157_5 rfl (lv_at hl 1 rfl) ?_
    refine lv_icmp_lt (tgt := 16) hx hb dJ3_checkIndex_8e157_6 (by decide) (fun c2 => ?_) (fun c2 => ?_)
    · replace hq := hq.1 c2
      refine lv_iload_n hx hb dJ3_checkIndex_8e157_16 rfl (lv_at hl 0 rfl) ?_
      exact r_iret C hr hlk hw dJ3_checkIndex_8e157_17 (Nat.le_refl _) (Nat.le_refl _) ⟨_, rfl, hq⟩
    · replace hq := hq.2 c2
      refine r_aload_n hx hb dJ3_checkIndex_8e157_9 rfl (lv_at hl 2 rfl) ?_
      refine lv_iload_n hx hb dJ3_checkIndex_8e157_10 rfl (lv_at hl 0 rfl) ?_
      refine lv_iload_n hx hb dJ3_checkIndex_8e157_11 rfl (lv_at hl 1 rfl) ?_
      exact hq.elim

set_option maxRecDepth 100000 in
def wp_J0_checkIndex_df160  (g : Gh) (M0 : Mem) (p0 : Int32) (p1 : Int32) (post : Mem → Prop) : Prop :=
  ∀ r1 : Option Nat, (wp_J3_checkIndex_8e157 g M0 p0 p1 r1 (fun v2 M3 => post M3))
set_option maxHeartbeats 4000000 in
set_option maxRecDepth 100000 in
theorem ct_J0_checkIndex_df160 {l : Launch} {g : Gh} {M0 : Mem} {p0 : Int32} {p1 : Int32} {post : Mem → Prop}  (hq : wp_J0_checkIndex_df160  g M0 p0 p1 post) : Ct l g yJ0_checkIndex_df160 cJ0_checkIndex_df160 2 none 1 0 0 [.int p0, .int p1] M0 (pV post) := by
  unfold wp_J0_checkIndex_df160 at hq
  refine Ct.of (by decide) (Nat.le_of_ble_eq_true rfl) ?_
  intro p e s m below meth c ls C hr hlk hn hl hw
  have hx := C.1.1
  have hb := C.1.2.1
  have hl : lv_has ls 2 [(0, .int p0), (1, .int p1)] := hl
  refine lv_iload_n hx hb dJ0_checkIndex_df160_0 rfl (lv_at hl 0 rfl) ?_
  refine lv_iload_n hx hb dJ0_checkIndex_df160_1 rfl (lv_at hl 1 rfl) ?_
  refine r_sfmt C hw w_510 dJ0_checkIndex_df160_2 (fun r1 => ?_)
  replace hq := hq r1
  refine r_callS (index := 1059) (n := 3) (d2 := 0) (mc := 0) (ms := 0) (As := [.int p0, .int p1, va_rf r1]) (rest := []) C hw (ct_J3_checkIndex_8e157 hq) ksJ0_1059 ⟨by decide, by decide⟩ ⟨by decide, by decide⟩ rfl hl.1 rfl (Nat.le_of_ble_eq_true rfl) dJ0_checkIndex_df160_5 (fun r M3 H locs hp hle hw => ?_)
  obtain ⟨v2, rfl, hq⟩ := hp
  refine W.eq (g2 := F0 m 8 ls [.int v2]) rfl ?_
  refine lv_pop hx hb dJ0_checkIndex_df160_8 rfl ?_
  exact r_vret C hr hlk hw dJ0_checkIndex_df160_9 (Nat.le_refl _) (Nat.le_refl _) ⟨rfl, hq⟩

set_option maxRecDepth 100000 in
def wp_J1_charAt_3b067  (g : Gh) (M0 : Mem) (i : Nat) (p1 : Int32) (post : Int32 → Mem → Prop) : Prop :=
  i < 14 ∧ (wp_J0_checkIndex_df160 g M0 p1 (nI (stl.getD i 0)) (fun M2 => vp_in p1 (stl.getD i 0) ∧ (post ((Int32.toUInt32 (((stb.getD i []).getD (Int32.toNatClampNeg p1) 0) &&& 255) % 65536).toInt32) M2)))
set_option maxHeartbeats 4000000 in
set_option maxRecDepth 100000 in
theorem ct_J1_charAt_3b067 {l : Launch} {g : Gh} {M0 : Mem} {i : Nat} {p1 : Int32} {post : Int32 → Mem → Prop}  (hq : wp_J1_charAt_3b067  g M0 i p1 post) : Ct l g yJ1_charAt_3b067 cJ1_charAt_3b067 2 (some .char) 2 0 0 [.ref (gV g i), .int p1] M0 (pI post) := by
  unfold wp_J1_charAt_3b067 at hq
  obtain ⟨h0, hq⟩ := hq
  refine Ct.of (by decide) (Nat.le_of_ble_eq_true rfl) ?_
  intro p e s m below meth c ls C hr hlk hn hl hw
  have hx := C.1.1
  have hb := C.1.2.1
  have hl : lv_has ls 2 [(0, .ref (gV g i)), (1, .int p1)] := hl
  refine lv_iload_n hx hb dJ1_charAt_3b067_0 rfl (lv_at hl 1 rfl) ?_
  refine lv_aload_n hx hb dJ1_charAt_3b067_1 rfl (lv_at hl 0 rfl) ?_
  refine r_slen C hw h0 dJ1_charAt_3b067_2 ?_
  refine r_callS (index := 9) (n := 2) (d2 := 1) (mc := 0) (ms := 0) (As := [.int p1, .int (nI (stl.getD i 0))]) (rest := []) C hw (ct_J0_checkIndex_df160 hq) ksJ1_9 ⟨by decide, by decide⟩ ⟨by decide, by decide⟩ rfl hl.1 rfl (Nat.le_of_ble_eq_true rfl) dJ1_charAt_3b067_3 (fun r M2 H locs hp hle hw => ?_)
  obtain ⟨rfl, hq⟩ := hp
  refine W.eq (g2 := F0 m 6 ls []) rfl ?_
  refine lv_aload_n hx hb dJ1_charAt_3b067_6 rfl (lv_at hl 0 rfl) ?_
  refine lv_iload_n hx hb dJ1_charAt_3b067_7 rfl (lv_at hl 1 rfl) ?_
  obtain ⟨h3, hq⟩ := hq
  refine r_sbal C hw h0 h3 dJ1_charAt_3b067_8 ?_
  refine lv_sipush (v := 255) hx hb dJ1_charAt_3b067_9 (by decide) ?_
  refine lv_iand hx hb dJ1_charAt_3b067_12 ?_
  refine lv_i2c (v := ((Int32.toUInt32 (((stb.getD i []).getD (Int32.toNatClampNeg p1) 0) &&& 255) % 65536).toInt32)) hx hb dJ1_charAt_3b067_13 rfl ?_
  exact r_nret C hr hlk hw dJ1_charAt_3b067_14 (Nat.le_refl _) (Nat.le_refl _) (pk_nc _) ⟨_, rfl, hq⟩

set_option maxRecDepth 100000 in
def wp_J0_charAt_5068e  (g : Gh) (M0 : Mem) (i : Nat) (p1 : Int32) (post : Int32 → Mem → Prop) : Prop :=
  i < 14 ∧ (wp_J0_isLatin1_aae02 g M0 i (fun v1 M2 => ((v1 = 0) → False) ∧ (¬ (v1 = 0) → wp_J1_charAt_3b067 g M2 i p1 (fun v4 M5 => (narrow .char (.int v4) = .int v4) ∧ (post v4 M5)))))
set_option maxHeartbeats 4000000 in
set_option maxRecDepth 100000 in
theorem ct_J0_charAt_5068e {l : Launch} {g : Gh} {M0 : Mem} {i : Nat} {p1 : Int32} {post : Int32 → Mem → Prop}  (hq : wp_J0_charAt_5068e  g M0 i p1 post) : Ct l g yJ0_charAt_5068e cJ0_charAt_5068e 2 (some .char) 4 0 0 [.ref (gK g i), .int p1] M0 (pI post) := by
  unfold wp_J0_charAt_5068e at hq
  obtain ⟨h0, hq⟩ := hq
  refine Ct.of (by decide) (Nat.le_of_ble_eq_true rfl) ?_
  intro p e s m below meth c ls C hr hlk hn hl hw
  have hx := C.1.1
  have hb := C.1.2.1
  have hl : lv_has ls 2 [(0, .ref (gK g i)), (1, .int p1)] := hl
  refine lv_aload_n hx hb dJ0_charAt_5068e_0 rfl (lv_at hl 0 rfl) ?_
  refine r_callT (index := 492) (n := 0) (d2 := 0) (mc := 0) (ms := 0) (As := []) (rest := []) C hw (ct_J0_isLatin1_aae02 hq) kvJ0_492 hq.1 ⟨by decide, by decide⟩ ⟨by decide, by decide⟩ rfl hl.1 rfl (Nat.le_of_ble_eq_true rfl) dJ0_charAt_5068e_1 (fun r M2 H locs hp hle hw => ?_)
  obtain ⟨v1, rfl, hq⟩ := hp
  refine W.eq (g2 := F0 m 4 ls [.int v1]) rfl ?_
  refine lv_if_eq (tgt := 16) hx hb dJ0_charAt_5068e_4 (by decide) (fun c3 => ?_) (fun c3 => ?_)
  · replace hq := hq.1 c3
    refine lv_aload_n hx hb dJ0_charAt_5068e_16 rfl (lv_at hl 0 rfl) ?_
    refine r_sval C hw h0 w_1609 dJ0_charAt_5068e_17 ?_
    refine lv_iload_n hx hb dJ0_charAt_5068e_20 rfl (lv_at hl 1 rfl) ?_
    exact hq.elim
  · replace hq := hq.2 c3
    refine lv_aload_n hx hb dJ0_charAt_5068e_7 rfl (lv_at hl 0 rfl) ?_
    refine r_sval C hw h0 w_1609 dJ0_charAt_5068e_8 ?_
    refine lv_iload_n hx hb dJ0_charAt_5068e_11 rfl (lv_at hl 1 rfl) ?_
    refine r_callS (index := 495) (n := 2) (d2 := 2) (mc := 0) (ms := 0) (As := [.ref (gV g i), .int p1]) (rest := []) C hw (ct_J1_charAt_3b067 hq) ksJ0_495 ⟨by decide, by decide⟩ ⟨by decide, by decide⟩ rfl hl.1 rfl (Nat.le_of_ble_eq_true rfl) dJ0_charAt_5068e_12 (fun r M5 H locs hp hle hw => ?_)
    obtain ⟨v4, rfl, hq⟩ := hp
    refine W.eq (g2 := F0 m 15 ls [.int v4]) rfl ?_
    obtain ⟨h6, hq⟩ := hq
    exact r_nret C hr hlk hw dJ0_charAt_5068e_15 (Nat.le_refl _) (Nat.le_refl _) h6 ⟨_, rfl, hq⟩

set_option maxRecDepth 100000 in
def bd_X10_isWord_28  (g : Gh) (M0 : Mem) (a0 : Nat) (a1 : Nat) (post : Int32 → Mem → Prop)  (bk28 : Int32 × Mem → Prop) (x2 : Int32)  (M : Mem) : Prop :=
  ∃ i1, a1 = gK g i1 ∧ (wp_J0_length_8abf5 g M i1 (fun v3 M4 => ((v3 ≤ x2) → post 1 M4) ∧ (¬ (v3 ≤ x2) → wp_X10_byteAt g M4 a0 ((mI M4 a0 3) + x2) (fun v6 M7 => ∃ i8, a1 = gK g i8 ∧ (wp_J0_charAt_5068e g M7 i8 x2 (fun v10 M11 => ((v6 = v10) → bk28 ((x2 + 1), M11)) ∧ (¬ (v6 = v10) → post 0 M11)))))))
set_option maxRecDepth 100000 in
def wp_X10_isWord  (g : Gh) (M0 : Mem) (a0 : Nat) (a1 : Nat) (post : Int32 → Mem → Prop) : Prop :=
  okc (gB g) M0 a0 10 ∧ ((((mI M0 a0 2) = 1) → ∃ i14, a1 = gK g i14 ∧ (wp_J0_length_8abf5 g M0 i14 (fun v16 M17 => ((((mI M0 a0 5) - (mI M0 a0 3)) = v16) → (∃ n : Nat, lfp (fun bk z => bd_X10_isWord_28  g M0 a0 a1 post  bk z.1 z.2) n (0, M17))) ∧ (¬ (((mI M0 a0 5) - (mI M0 a0 3)) = v16) → post 0 M17)))) ∧ (¬ ((mI M0 a0 2) = 1) → post 0 M0))
set_option maxHeartbeats 4000000 in
set_option maxRecDepth 100000 in
theorem lp_X10_isWord_28 {l : Launch} {g : Gh} {p : Program} {e : Env} {s : State} {m : MethodId} {args : Array Value} {below : List Frame} {meth : Method} {c : Code} {M0 : Mem} {a0 : Nat} {a1 : Nat} {post : Int32 → Mem → Prop}  (C : Cx g p s m args c cX10_isWord 3 RX10) (hr : meth.sig.returnType = (some .boolean)) (hlk : meth.locks = false) (hn : meth.name = "isWord") (h0 : okc (gB g) M0 a0 10)  : ∀ (nf : Nat) (x2 : Int32)  (M : Mem) (H : Heap) (locs : List Loc) (ls : Array Slot), lfp (fun bk z => bd_X10_isWord_28  g M0 a0 a1 post  bk z.1 z.2) nf (x2, M) → Wd g s M0 M H locs → lv_has ls 3 [(0, .ref a0), (1, .ref a1), (2, .int x2)] → W p l e (rmo 5 0 0) s m args below meth c H locs 0 0 (MQ below (Cq g M0 (pI post)) args s 0 0 (gA g)) (F0 m 28 ls []) := by
  have hx := C.1.1
  have hb := C.1.2.1
  intro nf
  induction nf with
  | zero => intro _ _ H locs ls hq; exact hq.elim
  | succ nf hk28 =>
    intro x2 M H locs ls hq hw hl
    replace hq : bd_X10_isWord_28  g M0 a0 a1 post  (lfp (fun bk z => bd_X10_isWord_28  g M0 a0 a1 post  bk z.1 z.2) nf) x2 M := hq
    unfold bd_X10_isWord_28 at hq
    refine lv_iload_n hx hb dX10_isWord_28 rfl (lv_at hl 2 rfl) ?_
    refine lv_aload_n hx hb dX10_isWord_29 rfl (lv_at hl 1 rfl) ?_
    obtain ⟨i1, e2, hq⟩ := hq
    refine W.eq (g2 := F0 m 30 ls [.ref (gK g i1), .int x2]) (by rw [e2]) ?_
    refine r_callT (index := 53) (n := 0) (d2 := 1) (mc := 0) (ms := 0) (As := []) (rest := [.int x2]) C hw (ct_J0_length_8abf5 hq) kvX10_53 hq.1 ⟨by decide, by decide⟩ ⟨by decide, by decide⟩ rfl hl.1 rfl (Nat.le_of_ble_eq_true rfl) dX10_isWord_30 (fun r M4 H locs hp hle hw => ?_)
    obtain ⟨v3, rfl, hq⟩ := hp
    refine W.eq (g2 := F0 m 33 ls [.int v3, .int x2]) rfl ?_
    refine lv_icmp_ge (tgt := 62) hx hb dX10_isWord_33 (by decide) (fun c5 => ?_) (fun c5 => ?_)
    · replace hq := hq.1 c5
      refine lv_iconst (v := 1) hx hb dX10_isWord_62 (by decide) ?_
      exact r_zret C hr hlk hw dX10_isWord_63 (Nat.le_refl _) (Nat.le_refl _) (by decide) ⟨_, rfl, hq⟩
    · replace hq := hq.2 c5
      refine lv_aload_n hx hb dX10_isWord_36 rfl (lv_at hl 0 rfl) ?_
      refine lv_aload_n hx hb dX10_isWord_37 rfl (lv_at hl 0 rfl) ?_
      refine gfX10_22 C hw hw.2.2.1 h0 dX10_isWord_38 ?_
      refine lv_iload_n hx hb dX10_isWord_41 rfl (lv_at hl 2 rfl) ?_
      refine lv_iadd hx hb dX10_isWord_42 ?_
      refine r_callV (T := TX10) (N := 6) (ci := 10) (index := 35) (n := 1) (d2 := 0) (mc := 0) (ms := 0) (As := [.int ((mI M4 a0 3) + x2)]) (rest := []) C hw (ct_X10_byteAt hq) kvX10_35 hq.1 (by decide) rfl ⟨by decide, by decide⟩ ⟨by decide, by decide⟩ rfl hl.1 rfl (Nat.le_of_ble_eq_true rfl) dX10_isWord_43 (fun r M7 H locs hp hle hw => ?_)
      obtain ⟨v6, rfl, hq⟩ := hp
      refine W.eq (g2 := F0 m 46 ls [.int v6]) rfl ?_
      refine lv_aload_n hx hb dX10_isWord_46 rfl (lv_at hl 1 rfl) ?_
      refine lv_iload_n hx hb dX10_isWord_47 rfl (lv_at hl 2 rfl) ?_
      obtain ⟨i8, e9, hq⟩ := hq
      refine W.eq (g2 := F0 m 48 ls [.int x2, .ref (gK g i8), .int v6]) (by rw [e9]) ?_
      refine r_callT (index := 59) (n := 1) (d2 := 4) (mc := 0) (ms := 0) (As := [.int x2]) (rest := [.int v6]) C hw (ct_J0_charAt_5068e hq) kvX10_59 hq.1 ⟨by decide, by decide⟩ ⟨by decide, by decide⟩ rfl hl.1 rfl (Nat.le_of_ble_eq_true rfl) dX10_isWord_48 (fun r M11 H locs hp hle hw => ?_)
      obtain ⟨v10, rfl, hq⟩ := hp
      refine W.eq (g2 := F0 m 51 ls [.int v10, .int v6]) rfl ?_
      refine lv_icmp_eq (tgt := 56) hx hb dX10_isWord_51 (by decide) (fun c12 => ?_) (fun c12 => ?_)
      · replace hq := hq.1 c12
        refine lv_iinc (v := (x2 + 1)) (lv' := [(2, .int (x2 + 1)), (0, .ref a0), (1, .ref a1)]) hx hb dX10_isWord_56 hl (k := 2) rfl rfl (by decide) rfl (fun ls hl => ?_)
        refine lv_goto (tgt := 28) hx hb dX10_isWord_59 (by decide) ?_
        exact hk28 _ _ _ _ _ hq hw (lv_sub hl [1, 2, 0] rfl)
      · replace hq := hq.2 c12
        refine lv_iconst (v := 0) hx hb dX10_isWord_54 (by decide) ?_
        exact r_zret C hr hlk hw dX10_isWord_55 (Nat.le_refl _) (Nat.le_refl _) (by decide) ⟨_, rfl, hq⟩
set_option maxHeartbeats 4000000 in
set_option maxRecDepth 100000 in
theorem ct_X10_isWord {l : Launch} {g : Gh} {M0 : Mem} {a0 : Nat} {a1 : Nat} {post : Int32 → Mem → Prop}  (hq : wp_X10_isWord  g M0 a0 a1 post) : Ct l g yX10_isWord cX10_isWord 3 (some .boolean) 5 0 0 [.ref a0, .ref a1] M0 (pI post) := by
  unfold wp_X10_isWord at hq
  obtain ⟨h0, hq⟩ := hq
  refine Ct.of (by decide) (Nat.le_of_ble_eq_true rfl) ?_
  intro p e s m below meth c ls C hr hlk hn hl hw
  have hx := C.1.1
  have hb := C.1.2.1
  have hl : lv_has ls 3 [(0, .ref a0), (1, .ref a1)] := hl
  refine lv_aload_n hx hb dX10_isWord_0 rfl (lv_at hl 0 rfl) ?_
  refine gfX10_19 C hw hw.2.2.1 h0 dX10_isWord_1 ?_
  refine lv_iconst (v := 1) hx hb dX10_isWord_4 (by decide) ?_
  refine lv_icmp_ne (tgt := 24) hx hb dX10_isWord_5 (by decide) (fun c13 => ?_) (fun c13 => ?_)
  · replace hq := hq.2 c13
    refine lv_iconst (v := 0) hx hb dX10_isWord_24 (by decide) ?_
    exact r_zret C hr hlk hw dX10_isWord_25 (Nat.le_refl _) (Nat.le_refl _) (by decide) ⟨_, rfl, hq⟩
  · replace hq := hq.1 c13
    refine lv_aload_n hx hb dX10_isWord_8 rfl (lv_at hl 0 rfl) ?_
    refine gfX10_29 C hw hw.2.2.1 h0 dX10_isWord_9 ?_
    refine lv_aload_n hx hb dX10_isWord_12 rfl (lv_at hl 0 rfl) ?_
    refine gfX10_22 C hw hw.2.2.1 h0 dX10_isWord_13 ?_
    refine lv_isub hx hb dX10_isWord_16 ?_
    refine lv_aload_n hx hb dX10_isWord_17 rfl (lv_at hl 1 rfl) ?_
    obtain ⟨i14, e15, hq⟩ := hq
    refine W.eq (g2 := F0 m 18 ls [.ref (gK g i14), .int ((mI M0 a0 5) - (mI M0 a0 3))]) (by rw [e15]) ?_
    refine r_callT (index := 53) (n := 0) (d2 := 1) (mc := 0) (ms := 0) (As := []) (rest := [.int ((mI M0 a0 5) - (mI M0 a0 3))]) C hw (ct_J0_length_8abf5 hq) kvX10_53 hq.1 ⟨by decide, by decide⟩ ⟨by decide, by decide⟩ rfl hl.1 rfl (Nat.le_of_ble_eq_true rfl) dX10_isWord_18 (fun r M17 H locs hp hle hw => ?_)
    obtain ⟨v16, rfl, hq⟩ := hp
    refine W.eq (g2 := F0 m 21 ls [.int v16, .int ((mI M0 a0 5) - (mI M0 a0 3))]) rfl ?_
    refine lv_icmp_eq (tgt := 26) hx hb dX10_isWord_21 (by decide) (fun c18 => ?_) (fun c18 => ?_)
    · replace hq := hq.1 c18
      refine lv_iconst (v := 0) hx hb dX10_isWord_26 (by decide) ?_
      refine lv_istore_n (lv' := [(2, .int 0), (0, .ref a0), (1, .ref a1)]) hx hb dX10_isWord_27 rfl hl (by decide) rfl (fun ls hl => ?_)
      obtain ⟨nf, hq⟩ := hq
      exact lp_X10_isWord_28  C hr hlk hn h0  nf _ _ _ _ _ hq hw (lv_sub hl [1, 2, 0] rfl)
    · replace hq := hq.2 c18
      refine lv_iconst (v := 0) hx hb dX10_isWord_24 (by decide) ?_
      exact r_zret C hr hlk hw dX10_isWord_25 (Nat.le_refl _) (Nat.le_refl _) (by decide) ⟨_, rfl, hq⟩

set_option maxRecDepth 100000 in
def wp_X4_faultOfNumber  (g : Gh) (M0 : Mem) (a0 : Nat) (p1 : Int32) (p2 : Int32) (post : Int32 → Mem → Prop) : Prop :=
  okc (gB g) M0 a0 10 ∧ ((((mI M0 a0 2) = 2) → (((lg_cmp (mJ M0 a0 4) (Int32.toInt64 p1)) < 0) → post 2 M0) ∧ (¬ ((lg_cmp (mJ M0 a0 4) (Int32.toInt64 p1)) < 0) → (((lg_cmp (mJ M0 a0 4) (Int32.toInt64 p2)) ≤ 0) → post 0 M0) ∧ (¬ ((lg_cmp (mJ M0 a0 4) (Int32.toInt64 p2)) ≤ 0) → post 2 M0))) ∧ (¬ ((mI M0 a0 2) = 2) → post 1 M0))
set_option maxHeartbeats 4000000 in
set_option maxRecDepth 100000 in
theorem ct_X4_faultOfNumber {l : Launch} {g : Gh} {M0 : Mem} {a0 : Nat} {p1 : Int32} {p2 : Int32} {post : Int32 → Mem → Prop}  (hq : wp_X4_faultOfNumber  g M0 a0 p1 p2 post) : Ct l g yX4_faultOfNumber cX4_faultOfNumber 3 (some .int) 0 0 0 [.ref a0, .int p1, .int p2] M0 (pI post) := by
  unfold wp_X4_faultOfNumber at hq
  refine Ct.of (by decide) (Nat.le_of_ble_eq_true rfl) ?_
  intro p e s m below meth c ls C hr hlk hn hl hw
  have hx := C.1.1
  have hb := C.1.2.1
  have hl : lv_has ls 3 [(0, .ref a0), (1, .int p1), (2, .int p2)] := hl
  refine lv_aload_n hx hb dX4_faultOfNumber_0 rfl (lv_at hl 0 rfl) ?_
  obtain ⟨h1, hq⟩ := hq
  refine gfX4_52 C hw hw.2.2.1 h1 dX4_faultOfNumber_1 ?_
  refine lv_iconst (v := 2) hx hb dX4_faultOfNumber_4 (by decide) ?_
  refine lv_icmp_eq (tgt := 10) hx hb dX4_faultOfNumber_5 (by decide) (fun c2 => ?_) (fun c2 => ?_)
  · replace hq := hq.1 c2
    refine lv_aload_n hx hb dX4_faultOfNumber_10 rfl (lv_at hl 0 rfl) ?_
    refine gfX4_74 C hw hw.2.2.1 h1 dX4_faultOfNumber_11 ?_
    refine lv_iload_n hx hb dX4_faultOfNumber_14 rfl (lv_at hl 1 rfl) ?_
    refine lv_i2l (v := (Int32.toInt64 p1)) hx hb dX4_faultOfNumber_15 rfl ?_
    refine W.lcmp hx hb dX4_faultOfNumber_16 ?_
    refine lv_if_lt (tgt := 30) hx hb dX4_faultOfNumber_17 (by decide) (fun c3 => ?_) (fun c3 => ?_)
    · replace hq := hq.1 c3
      refine lv_iconst (v := 2) hx hb dX4_faultOfNumber_30 (by decide) ?_
      refine lv_goto (tgt := 35) hx hb dX4_faultOfNumber_31 (by decide) ?_
      exact r_iret C hr hlk hw dX4_faultOfNumber_35 (Nat.le_refl _) (Nat.le_refl _) ⟨_, rfl, hq⟩
    · replace hq := hq.2 c3
      refine lv_aload_n hx hb dX4_faultOfNumber_20 rfl (lv_at hl 0 rfl) ?_
      refine gfX4_74 C hw hw.2.2.1 h1 dX4_faultOfNumber_21 ?_
      refine lv_iload_n hx hb dX4_faultOfNumber_24 rfl (lv_at hl 2 rfl) ?_
      refine lv_i2l (v := (Int32.toInt64 p2)) hx hb dX4_faultOfNumber_25 rfl ?_
      refine W.lcmp hx hb dX4_faultOfNumber_26 ?_
      refine lv_if_le (tgt := 34) hx hb dX4_faultOfNumber_27 (by decide) (fun c4 => ?_) (fun c4 => ?_)
      · replace hq := hq.1 c4
        refine lv_iconst (v := 0) hx hb dX4_faultOfNumber_34 (by decide) ?_
        exact r_iret C hr hlk hw dX4_faultOfNumber_35 (Nat.le_refl _) (Nat.le_refl _) ⟨_, rfl, hq⟩
      · replace hq := hq.2 c4
        refine lv_iconst (v := 2) hx hb dX4_faultOfNumber_30 (by decide) ?_
        refine lv_goto (tgt := 35) hx hb dX4_faultOfNumber_31 (by decide) ?_
        exact r_iret C hr hlk hw dX4_faultOfNumber_35 (Nat.le_refl _) (Nat.le_refl _) ⟨_, rfl, hq⟩
  · replace hq := hq.2 c2
    refine lv_iconst (v := 1) hx hb dX4_faultOfNumber_8 (by decide) ?_
    exact r_iret C hr hlk hw dX4_faultOfNumber_9 (Nat.le_refl _) (Nat.le_refl _) ⟨_, rfl, hq⟩
