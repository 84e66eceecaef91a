set_option maxRecDepth 100000 in
def lb_X11_pack_80  (g : Gh) (M0 : Mem) (a0 : Nat) (p1 : Int32) (p2 : Int32) (p3 : Int32) (p4 : Int32) (p5 : Int32) (p6 : Int32) (post : Int32 ⊕ String → Mem → Prop)    (M : Mem) : Prop :=
  ∃ q1, mR M a0 9 = some q1 ∧ (okc (gB g) M0 q1 6 ∧ ((((mI M q1 0) = 0) → ∃ q5, mR M a0 8 = some q5 ∧ (∃ q7, mR M a0 3 = some q7 ∧ (wp_X8_gather g M q5 q7 (mI M a0 4) p1 p2 (fun M10 => ∃ q11, mR M10 a0 8 = some q11 ∧ (wp_X8_setBounds g M10 q11 p3 p4 p5 (fun M14 => ∃ q15, mR M14 a0 8 = some q15 ∧ (∃ q17, mR M14 a0 5 = some q17 ∧ (okc (gB g) M0 q17 4 ∧ (wp_X8_search g M14 q15 (mI M14 q17 1) p6 (fun v20 M21 => post (.inl v20) M21)))))))))) ∧ (¬ ((mI M q1 0) = 0) → (∀ T22 : Nat, mT M ≤ T22 → post (.inr "java/lang/IllegalStateException") (pad M T22)))))
set_option maxRecDepth 100000 in
def wp_X11_pack  (g : Gh) (M0 : Mem) (a0 : Nat) (p1 : Int32) (p2 : Int32) (p3 : Int32) (p4 : Int32) (p5 : Int32) (p6 : Int32) (post : Int32 ⊕ String → Mem → Prop) : Prop :=
  okc (gB g) M0 a0 11 ∧ (wp_X11_isTeam g M0 p1 (fun v23 M24 => ((v23 = 0) → (∀ T26 : Nat, mT M24 ≤ T26 → post (.inr "java/lang/IllegalArgumentException") (pad M24 T26))) ∧ (¬ (v23 = 0) → wp_X11_isTeam g M24 p2 (fun v27 M28 => ((v27 = 0) → (∀ T30 : Nat, mT M28 ≤ T30 → post (.inr "java/lang/IllegalArgumentException") (pad M28 T30))) ∧ (¬ (v27 = 0) → ((p1 = p2) → (∀ T47 : Nat, mT M28 ≤ T47 → post (.inr "java/lang/IllegalArgumentException") (pad M28 T47))) ∧ (¬ (p1 = p2) → ((p3 < 1) → (∀ T33 : Nat, mT M28 ≤ T33 → post (.inr "java/lang/IllegalArgumentException") (pad M28 T33))) ∧ (¬ (p3 < 1) → ((48 < p3) → (∀ T35 : Nat, mT M28 ≤ T35 → post (.inr "java/lang/IllegalArgumentException") (pad M28 T35))) ∧ (¬ (48 < p3) → ((p5 < p4) → (∀ T37 : Nat, mT M28 ≤ T37 → post (.inr "java/lang/IllegalArgumentException") (pad M28 T37))) ∧ (¬ (p5 < p4) → ((p6 < 1) → (∀ T39 : Nat, mT M28 ≤ T39 → post (.inr "java/lang/IllegalArgumentException") (pad M28 T39))) ∧ (¬ (p6 < 1) → ((p6 ≤ 100000) → ∃ q41, mR M28 a0 5 = some q41 ∧ (okc (gB g) M0 q41 4 ∧ ((((mI M28 q41 1) = 0) → (∀ T45 : Nat, mT M28 ≤ T45 → post (.inr "java/lang/IllegalStateException") (pad M28 T45))) ∧ (¬ ((mI M28 q41 1) = 0) → lb_X11_pack_80  g M0 a0 p1 p2 p3 p4 p5 p6 post   M28)))) ∧ (¬ (p6 ≤ 100000) → (∀ T46 : Nat, mT M28 ≤ T46 → post (.inr "java/lang/IllegalArgumentException") (pad M28 T46)))))))))))))
set_option maxHeartbeats 4000000 in
set_option maxRecDepth 100000 in
theorem lt_X11_pack_80 {l : Launch} {g : Gh} {p : Program} {e : Env} {s : State} {m : MethodId} {args : Array Value} {below : List Frame} {meth : Method} {c : Code} {H : Heap} {locs : List Loc} {ls : Array Slot} {M0 M : Mem} {a0 : Nat} {p1 : Int32} {p2 : Int32} {p3 : Int32} {p4 : Int32} {p5 : Int32} {p6 : Int32} {post : Int32 ⊕ String → Mem → Prop}    (C : Cx g p s m args c cX11_pack 7 RX11) (hr : meth.sig.returnType = (some .int)) (hlk : meth.locks = false) (hn : meth.name = "pack") (hZ : ZX g s s.heap ∧ ∀ x ∈ c.exceptionTable.toList, False) (hst : l.stackTraces = false) (h0 : okc (gB g) M0 a0 11)  (hq : lb_X11_pack_80  g M0 a0 p1 p2 p3 p4 p5 p6 post   M) (hw : Wd g s M0 M H locs) (hl : lv_has ls 7 [(0, .ref a0), (1, .int p1), (2, .int p2), (3, .int p3), (4, .int p4), (5, .int p5), (6, .int p6)]) : W p l e (rmo 8 1 6) s m args below meth c H locs 0 0 (vx_MQ below (Cq g M0 (pI (fun v M => post (.inl v) M))) (CqX g M0 (fun E M => post (.inr E) M)) args s 1 6 (gA g)) (F0 m 80 ls []) := by
  have hx := C.1.1
  have hb := C.1.2.1
  unfold lb_X11_pack_80 at hq
  refine lv_aload_n hx hb dX11_pack_80 rfl (lv_at hl 0 rfl) ?_
  obtain ⟨q1, e2, hq⟩ := hq
  refine gfX11_65 C hw hw.2.2.1 h0 e2 dX11_pack_81 ?_
  obtain ⟨h3, hq⟩ := hq
  refine gfX11_125 C hw hw.2.2.1 h3 dX11_pack_84 ?_
  refine lv_if_eq (tgt := 100) hx hb dX11_pack_87 (by decide) (fun c4 => ?_) (fun c4 => ?_)
  · replace hq := hq.1 c4
    refine lv_aload_n hx hb dX11_pack_100 rfl (lv_at hl 0 rfl) ?_
    obtain ⟨q5, e6, hq⟩ := hq
    refine gfX11_56 C hw hw.2.2.1 h0 e6 dX11_pack_101 ?_
    refine lv_aload_n hx hb dX11_pack_104 rfl (lv_at hl 0 rfl) ?_
    obtain ⟨q7, e8, hq⟩ := hq
    refine gfX11_32 C hw hw.2.2.1 h0 e8 dX11_pack_105 ?_
    refine lv_aload_n hx hb dX11_pack_108 rfl (lv_at hl 0 rfl) ?_
    refine gfX11_36 C hw hw.2.2.1 h0 dX11_pack_109 ?_
    refine lv_iload_n hx hb dX11_pack_112 rfl (lv_at hl 1 rfl) ?_
    refine lv_iload_n hx hb dX11_pack_113 rfl (lv_at hl 2 rfl) ?_
    refine r_callV (T := TX8) (N := 15) (ci := 8) (index := 168) (n := 4) (d2 := 2) (mc := 0) (ms := 0) (As := [.ref q7, .int (mI M a0 4), .int p1, .int p2]) (rest := []) C hw (ct_X8_gather hq) kvX11_168 hq.1 (by decide) rfl ⟨by decide, by decide⟩ ⟨by decide, by decide⟩ rfl hl.1 rfl (Nat.le_of_ble_eq_true rfl) dX11_pack_114 (fun r M10 H locs hp hle hw => ?_)
    obtain ⟨rfl, hq⟩ := hp
    refine W.eq (g2 := F0 m 117 ls []) rfl ?_
    refine lv_aload_n hx hb dX11_pack_117 rfl (lv_at hl 0 rfl) ?_
    obtain ⟨q11, e12, hq⟩ := hq
    refine gfX11_56 C hw hw.2.2.1 h0 e12 dX11_pack_118 ?_
    refine lv_iload_n hx hb dX11_pack_121 rfl (lv_at hl 3 rfl) ?_
    refine lv_iload hx hb dX11_pack_122 (lv_at hl 4 rfl) ?_
    refine lv_iload hx hb dX11_pack_124 (lv_at hl 5 rfl) ?_
    refine r_callV (T := TX8) (N := 15) (ci := 8) (index := 172) (n := 3) (d2 := 0) (mc := 0) (ms := 0) (As := [.int p3, .int p4, .int p5]) (rest := []) C hw (ct_X8_setBounds hq) kvX11_172 hq.1 (by decide) rfl ⟨by decide, by decide⟩ ⟨by decide, by decide⟩ rfl hl.1 rfl (Nat.le_of_ble_eq_true rfl) dX11_pack_126 (fun r M14 H locs hp hle hw => ?_)
    obtain ⟨rfl, hq⟩ := hp
    refine W.eq (g2 := F0 m 129 ls []) rfl ?_
    refine lv_aload_n hx hb dX11_pack_129 rfl (lv_at hl 0 rfl) ?_
    obtain ⟨q15, e16, hq⟩ := hq
    refine gfX11_56 C hw hw.2.2.1 h0 e16 dX11_pack_130 ?_
    refine lv_aload_n hx hb dX11_pack_133 rfl (lv_at hl 0 rfl) ?_
    obtain ⟨q17, e18, hq⟩ := hq
    refine gfX11_43 C hw hw.2.2.1 h0 e18 dX11_pack_134 ?_
    obtain ⟨h19, hq⟩ := hq
    refine gfX11_152 C hw hw.2.2.1 h19 dX11_pack_137 ?_
    refine lv_iload hx hb dX11_pack_140 (lv_at hl 6 rfl) ?_
    refine r_callV (T := TX8) (N := 15) (ci := 8) (index := 176) (n := 2) (d2 := 2) (mc := 0) (ms := 0) (As := [.int (mI M14 q17 1), .int p6]) (rest := []) C hw (ct_X8_search hq) kvX11_176 hq.1 (by decide) rfl ⟨by decide, by decide⟩ ⟨by decide, by decide⟩ rfl hl.1 rfl (Nat.le_of_ble_eq_true rfl) dX11_pack_142 (fun r M21 H locs hp hle hw => ?_)
    obtain ⟨v20, rfl, hq⟩ := hp
    refine W.eq (g2 := F0 m 145 ls [.int v20]) rfl ?_
    exact vx_ret (r_iret C hr hlk hw dX11_pack_145 (by decide) (by decide) ⟨_, rfl, hq⟩)
  · replace hq := hq.2 c4
    exact r_throw C hZ hst hlk hw hl.1 (by decide) w_1087 w_28 (st_12 C.2.2.2.2.1) hat1_167 hat2_167 (by decide +kernel) dX11_pack_90 dX11_pack_93 dX11_pack_94 dX11_pack_96 dX11_pack_99 (by decide) (Nat.le_of_ble_eq_true rfl) (by decide) (by decide) (by decide) (by decide) hq
set_option maxHeartbeats 4000000 in
set_option maxRecDepth 100000 in
theorem ct_X11_pack {l : Launch} (hst : l.stackTraces = false) {g : Gh} {M0 : Mem} {a0 : Nat} {p1 : Int32} {p2 : Int32} {p3 : Int32} {p4 : Int32} {p5 : Int32} {p6 : Int32} {post : Int32 ⊕ String → Mem → Prop} (hq : wp_X11_pack g M0 a0 p1 p2 p3 p4 p5 p6 post) : CtX l g yX11_pack cX11_pack 7 (some .int) 8 1 6 [.ref a0, .int p1, .int p2, .int p3, .int p4, .int p5, .int p6] M0 (pI (fun v M => post (.inl v) M)) (fun E M => post (.inr E) M) := by
  unfold wp_X11_pack at hq
  obtain ⟨h0, hq⟩ := hq
  refine CtX.of (by decide) (Nat.le_of_ble_eq_true rfl) ?_
  intro p e s m below meth c ls C hZ hr hlk hn hl hw
  have hx := C.1.1
  have hb := C.1.2.1
  have hl : lv_has ls 7 [(0, .ref a0), (1, .int p1), (2, .int p2), (3, .int p3), (4, .int p4), (5, .int p5), (6, .int p6)] := hl
  refine lv_iload_n hx hb dX11_pack_0 rfl (lv_at hl 1 rfl) ?_
  refine r_callS (index := 143) (n := 1) (d2 := 0) (mc := 0) (ms := 0) (As := [.int p1]) (rest := []) C hw (ct_X11_isTeam hq) ksX11_143 ⟨by decide, by decide⟩ ⟨by decide, by decide⟩ rfl hl.1 rfl (Nat.le_of_ble_eq_true rfl) dX11_pack_1 (fun r M24 H locs hp hle hw => ?_)
  obtain ⟨v23, rfl, hq⟩ := hp
  refine W.eq (g2 := F0 m 4 ls [.int v23]) rfl ?_
  refine lv_if_eq (tgt := 19) hx hb dX11_pack_4 (by decide) (fun c25 => ?_) (fun c25 => ?_)
  · replace hq := hq.1 c25
    exact r_throw C hZ hst hlk hw hl.1 (by decide) w_1069 w_27 (st_10 C.2.2.2.2.1) hat1_159 hat2_159 (by decide +kernel) dX11_pack_19 dX11_pack_22 dX11_pack_23 dX11_pack_25 dX11_pack_28 (by decide) (Nat.le_of_ble_eq_true rfl) (by decide) (by decide) (by decide) (by decide) hq
  · replace hq := hq.2 c25
    refine lv_iload_n hx hb dX11_pack_7 rfl (lv_at hl 2 rfl) ?_
    refine r_callS (index := 143) (n := 1) (d2 := 0) (mc := 0) (ms := 0) (As := [.int p2]) (rest := []) C hw (ct_X11_isTeam hq) ksX11_143 ⟨by decide, by decide⟩ ⟨by decide, by decide⟩ rfl hl.1 rfl (Nat.le_of_ble_eq_true rfl) dX11_pack_8 (fun r M28 H locs hp hle hw => ?_)
    obtain ⟨v27, rfl, hq⟩ := hp
    refine W.eq (g2 := F0 m 11 ls [.int v27]) rfl ?_
    refine lv_if_eq (tgt := 19) hx hb dX11_pack_11 (by decide) (fun c29 => ?_) (fun c29 => ?_)
    · replace hq := hq.1 c29
      exact r_throw C hZ hst hlk hw hl.1 (by decide) w_1069 w_27 (st_10 C.2.2.2.2.1) hat1_159 hat2_159 (by decide +kernel) dX11_pack_19 dX11_pack_22 dX11_pack_23 dX11_pack_25 dX11_pack_28 (by decide) (Nat.le_of_ble_eq_true rfl) (by decide) (by decide) (by decide) (by decide) hq
    · replace hq := hq.2 c29
      refine lv_iload_n hx hb dX11_pack_14 rfl (lv_at hl 1 rfl) ?_
      refine lv_iload_n hx hb dX11_pack_15 rfl (lv_at hl 2 rfl) ?_
      refine lv_icmp_ne (tgt := 29) hx hb dX11_pack_16 (by decide) (fun c31 => ?_) (fun c31 => ?_)
      · replace hq := hq.2 c31
        refine lv_iload_n hx hb dX11_pack_29 rfl (lv_at hl 3 rfl) ?_
        refine lv_iconst (v := 1) hx hb dX11_pack_30 (by decide) ?_
        refine lv_icmp_lt (tgt := 60) hx hb dX11_pack_31 (by decide) (fun c32 => ?_) (fun c32 => ?_)
        · replace hq := hq.1 c32
          exact r_throw C hZ hst hlk hw hl.1 (by decide) w_1069 w_27 (st_11 C.2.2.2.2.1) hat1_159 hat2_159 (by decide +kernel) dX11_pack_60 dX11_pack_63 dX11_pack_64 dX11_pack_66 dX11_pack_69 (by decide) (Nat.le_of_ble_eq_true rfl) (by decide) (by decide) (by decide) (by decide) hq
        · replace hq := hq.2 c32
          refine lv_iload_n hx hb dX11_pack_34 rfl (lv_at hl 3 rfl) ?_
          refine lv_bipush (v := 48) hx hb dX11_pack_35 (by decide) ?_
          refine lv_icmp_gt (tgt := 60) hx hb dX11_pack_37 (by decide) (fun c34 => ?_) (fun c34 => ?_)
          · replace hq := hq.1 c34
            exact r_throw C hZ hst hlk hw hl.1 (by decide) w_1069 w_27 (st_11 C.2.2.2.2.1) hat1_159 hat2_159 (by decide +kernel) dX11_pack_60 dX11_pack_63 dX11_pack_64 dX11_pack_66 dX11_pack_69 (by decide) (Nat.le_of_ble_eq_true rfl) (by decide) (by decide) (by decide) (by decide) hq
          · replace hq := hq.2 c34
            refine lv_iload hx hb dX11_pack_40 (lv_at hl 4 rfl) ?_
            refine lv_iload hx hb dX11_pack_42 (lv_at hl 5 rfl) ?_
            refine lv_icmp_gt (tgt := 60) hx hb dX11_pack_44 (by decide) (fun c36 => ?_) (fun c36 => ?_)
            · replace hq := hq.1 c36
              exact r_throw C hZ hst hlk hw hl.1 (by decide) w_1069 w_27 (st_11 C.2.2.2.2.1) hat1_159 hat2_159 (by decide +kernel) dX11_pack_60 dX11_pack_63 dX11_pack_64 dX11_pack_66 dX11_pack_69 (by decide) (Nat.le_of_ble_eq_true rfl) (by decide) (by decide) (by decide) (by decide) hq
            · replace hq := hq.2 c36
              refine lv_iload hx hb dX11_pack_47 (lv_at hl 6 rfl) ?_
              refine lv_iconst (v := 1) hx hb dX11_pack_49 (by decide) ?_
              refine lv_icmp_lt (tgt := 60) hx hb dX11_pack_50 (by decide) (fun c38 => ?_) (fun c38 => ?_)
              · replace hq := hq.1 c38
                exact r_throw C hZ hst hlk hw hl.1 (by decide) w_1069 w_27 (st_11 C.2.2.2.2.1) hat1_159 hat2_159 (by decide +kernel) dX11_pack_60 dX11_pack_63 dX11_pack_64 dX11_pack_66 dX11_pack_69 (by decide) (Nat.le_of_ble_eq_true rfl) (by decide) (by decide) (by decide) (by decide) hq
              · replace hq := hq.2 c38
                refine lv_iload hx hb dX11_pack_53 (lv_at hl 6 rfl) ?_
                refine lv_ldc (v := 100000) hx hb C.1.2.2.2.1 (C.1.2.2.2.2 _ w_1085) dX11_pack_55 ?_
                refine lv_icmp_le (tgt := 70) hx hb dX11_pack_57 (by decide) (fun c40 => ?_) (fun c40 => ?_)
                · replace hq := hq.1 c40
                  refine lv_aload_n hx hb dX11_pack_70 rfl (lv_at hl 0 rfl) ?_
                  obtain ⟨q41, e42, hq⟩ := hq
                  refine gfX11_43 C hw hw.2.2.1 h0 e42 dX11_pack_71 ?_
                  obtain ⟨h43, hq⟩ := hq
                  refine gfX11_152 C hw hw.2.2.1 h43 dX11_pack_74 ?_
                  refine lv_if_eq (tgt := 90) hx hb dX11_pack_77 (by decide) (fun c44 => ?_) (fun c44 => ?_)
                  · replace hq := hq.1 c44
                    exact r_throw C hZ hst hlk hw hl.1 (by decide) w_1087 w_28 (st_12 C.2.2.2.2.1) hat1_167 hat2_167 (by decide +kernel) dX11_pack_90 dX11_pack_93 dX11_pack_94 dX11_pack_96 dX11_pack_99 (by decide) (Nat.le_of_ble_eq_true rfl) (by decide) (by decide) (by decide) (by decide) hq
                  · replace hq := hq.2 c44
                    exact lt_X11_pack_80  C hr hlk hn hZ hst h0  hq hw (lv_sub hl [0, 1, 2, 3, 4, 5, 6] rfl)
                · replace hq := hq.2 c40
                  exact r_throw C hZ hst hlk hw hl.1 (by decide) w_1069 w_27 (st_11 C.2.2.2.2.1) hat1_159 hat2_159 (by decide +kernel) dX11_pack_60 dX11_pack_63 dX11_pack_64 dX11_pack_66 dX11_pack_69 (by decide) (Nat.le_of_ble_eq_true rfl) (by decide) (by decide) (by decide) (by decide) hq
      · replace hq := hq.1 c31
        exact r_throw C hZ hst hlk hw hl.1 (by decide) w_1069 w_27 (st_10 C.2.2.2.2.1) hat1_159 hat2_159 (by decide +kernel) dX11_pack_19 dX11_pack_22 dX11_pack_23 dX11_pack_25 dX11_pack_28 (by decide) (Nat.le_of_ble_eq_true rfl) (by decide) (by decide) (by decide) (by decide) hq
