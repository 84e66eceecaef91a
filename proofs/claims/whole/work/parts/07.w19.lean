set_option maxRecDepth 100000 in
def lb_X11_finish_121  (g : Gh) (M0 : Mem) (a0 : Nat) (post : Int32 → Mem → Prop)    (M : Mem) : Prop :=
  ∃ q1, mR M a0 9 = some q1 ∧ (wp_X6_drop g M q1 (fun M4 => post 1 M4))
set_option maxRecDepth 100000 in
def bd_X11_finish_61  (g : Gh) (M0 : Mem) (a0 : Nat) (post : Int32 → Mem → Prop)  (bk61 : Int32 × Mem → Prop) (x1 : Int32)  (M : Mem) : Prop :=
  ∃ q5, mR M a0 8 = some q5 ∧ (okc (gB g) M0 q5 8 ∧ ((((mI M q5 2) ≤ x1) → lb_X11_finish_121  g M0 a0 post   M) ∧ (¬ ((mI M q5 2) ≤ x1) → wp_X8_numberAt g M q5 x1 (fun v9 M10 => wp_X11_questionAt g M10 a0 v9 (fun v11 M12 => (v11 = none → bk61 ((x1 + 1), M12)) ∧ (∀ q14, v11 = some q14 → ∃ q15, mR M12 a0 9 = some q15 ∧ (wp_X6_isKnown g M12 q15 x1 (fun v17 M18 => ∃ q19, mR M18 a0 8 = some q19 ∧ (okc (gB g) M0 q19 8 ∧ (wp_X9_addPlay g M18 q14 v17 (mI M18 q19 0) (mI M18 q19 1) (fun M23 => bk61 ((x1 + 1), M23))))))))))))
set_option maxRecDepth 100000 in
def wp_X11_finish  (g : Gh) (M0 : Mem) (a0 : Nat) (post : Int32 → Mem → Prop) : Prop :=
  okc (gB g) M0 a0 11 ∧ (∃ q24, mR M0 a0 9 = some q24 ∧ (okc (gB g) M0 q24 6 ∧ ((((mI M0 q24 0) = 0) → post 0 M0) ∧ (¬ ((mI M0 q24 0) = 0) → wp_X6_isOver g M0 q24 (fun v28 M29 => ((v28 = 0) → post 0 M29) ∧ (¬ (v28 = 0) → ∃ q31, mR M29 a0 10 = some q31 ∧ (∃ q33, mR M29 a0 8 = some q33 ∧ (okc (gB g) M0 q33 8 ∧ (∃ q36, mR M29 a0 9 = some q36 ∧ (wp_X6_pointsOf g M29 q36 0 (fun v38 M39 => ∃ q40, mR M39 a0 9 = some q40 ∧ (wp_X6_pointsOf g M39 q40 1 (fun v42 M43 => wp_X5_addMatch g M43 q31 (mI M29 q33 0) (mI M29 q33 1) v38 v42 (fun M45 => (∃ n : Nat, lfp (fun bk z => bd_X11_finish_61  g M0 a0 post  bk z.1 z.2) n (0, M45))))))))))))))))
set_option maxHeartbeats 4000000 in
set_option maxRecDepth 100000 in
theorem lt_X11_finish_121 {l : Launch} {g : Gh} {p : Program} {e : Env} {s : State} {m : MethodId} {args : Array Value} {below : List Frame} {meth : Method} {c : Code} {H : Heap} {locs : List Loc} {ls : Array Slot} {M0 M : Mem} {a0 : Nat} {post : Int32 → Mem → Prop}    (C : Cx g p s m args c cX11_finish 3 RX11) (hr : meth.sig.returnType = (some .boolean)) (hlk : meth.locks = false) (hn : meth.name = "finish") (h0 : okc (gB g) M0 a0 11)  (hq : lb_X11_finish_121  g M0 a0 post   M) (hw : Wd g s M0 M H locs) (hl : lv_has ls 3 [(0, .ref a0)]) : W p l e (rmo 3 0 0) s m args below meth c H locs 0 0 (MQ below (Cq g M0 (pI post)) args s 0 0 (gA g)) (F0 m 121 ls []) := by
  have hx := C.1.1
  have hb := C.1.2.1
  unfold lb_X11_finish_121 at hq
  refine lv_aload_n hx hb dX11_finish_121 rfl (lv_at hl 0 rfl) ?_
  obtain ⟨q1, e2, hq⟩ := hq
  refine gfX11_65 C hw hw.2.2.1 h0 e2 dX11_finish_122 ?_
  refine r_callV (T := TX6) (N := 9) (ci := 6) (index := 242) (n := 0) (d2 := 0) (mc := 0) (ms := 0) (As := []) (rest := []) C hw (ct_X6_drop hq) kvX11_242 hq.1 (by decide) rfl ⟨by decide, by decide⟩ ⟨by decide, by decide⟩ rfl hl.1 rfl (Nat.le_of_ble_eq_true rfl) dX11_finish_125 (fun r M4 H locs hp hle hw => ?_)
  obtain ⟨rfl, hq⟩ := hp
  refine W.eq (g2 := F0 m 128 ls []) rfl ?_
  refine lv_iconst (v := 1) hx hb dX11_finish_128 (by decide) ?_
  exact r_zret C hr hlk hw dX11_finish_129 (Nat.le_refl _) (Nat.le_refl _) (by decide) ⟨_, rfl, hq⟩
set_option maxHeartbeats 4000000 in
set_option maxRecDepth 100000 in
theorem lp_X11_finish_61 {l : Launch} {g : Gh} {p : Program} {e : Env} {s : State} {m : MethodId} {args : Array Value} {below : List Frame} {meth : Method} {c : Code} {M0 : Mem} {a0 : Nat} {post : Int32 → Mem → Prop}  (C : Cx g p s m args c cX11_finish 3 RX11) (hr : meth.sig.returnType = (some .boolean)) (hlk : meth.locks = false) (hn : meth.name = "finish") (h0 : okc (gB g) M0 a0 11)  : ∀ (nf : Nat) (x1 : Int32)  (M : Mem) (H : Heap) (locs : List Loc) (ls : Array Slot), lfp (fun bk z => bd_X11_finish_61  g M0 a0 post  bk z.1 z.2) nf (x1, M) → Wd g s M0 M H locs → lv_has ls 3 [(0, .ref a0), (1, .int x1)] → W p l e (rmo 3 0 0) s m args below meth c H locs 0 0 (MQ below (Cq g M0 (pI post)) args s 0 0 (gA g)) (F0 m 61 ls []) := by
  have hx := C.1.1
  have hb := C.1.2.1
  intro nf
  induction nf with
  | zero => intro _ _ H locs ls hq; exact hq.elim
  | succ nf hk61 =>
    intro x1 M H locs ls hq hw hl
    replace hq : bd_X11_finish_61  g M0 a0 post  (lfp (fun bk z => bd_X11_finish_61  g M0 a0 post  bk z.1 z.2) nf) x1 M := hq
    unfold bd_X11_finish_61 at hq
    refine lv_iload_n hx hb dX11_finish_61 rfl (lv_at hl 1 rfl) ?_
    refine lv_aload_n hx hb dX11_finish_62 rfl (lv_at hl 0 rfl) ?_
    obtain ⟨q5, e6, hq⟩ := hq
    refine gfX11_56 C hw hw.2.2.1 h0 e6 dX11_finish_63 ?_
    obtain ⟨h7, hq⟩ := hq
    refine gfX11_183 C hw hw.2.2.1 h7 dX11_finish_66 ?_
    refine lv_icmp_ge (tgt := 121) hx hb dX11_finish_69 (by decide) (fun c8 => ?_) (fun c8 => ?_)
    · replace hq := hq.1 c8
      exact lt_X11_finish_121  C hr hlk hn h0  hq hw (lv_sub hl [0] rfl)
    · replace hq := hq.2 c8
      refine lv_aload_n hx hb dX11_finish_72 rfl (lv_at hl 0 rfl) ?_
      refine lv_aload_n hx hb dX11_finish_73 rfl (lv_at hl 0 rfl) ?_
      refine gfX11_56 C hw hw.2.2.1 h0 e6 dX11_finish_74 ?_
      refine lv_iload_n hx hb dX11_finish_77 rfl (lv_at hl 1 rfl) ?_
      refine r_callV (T := TX8) (N := 15) (ci := 8) (index := 180) (n := 1) (d2 := 0) (mc := 0) (ms := 0) (As := [.int x1]) (rest := [.ref a0]) C hw (ct_X8_numberAt hq) kvX11_180 hq.1 (by decide) rfl ⟨by decide, by decide⟩ ⟨by decide, by decide⟩ rfl hl.1 rfl (Nat.le_of_ble_eq_true rfl) dX11_finish_78 (fun r M10 H locs hp hle hw => ?_)
      obtain ⟨v9, rfl, hq⟩ := hp
      refine W.eq (g2 := F0 m 81 ls [.int v9, .ref a0]) rfl ?_
      refine r_callV (T := TX11) (N := 11) (ci := 11) (index := 113) (n := 1) (d2 := 0) (mc := 0) (ms := 0) (As := [.int v9]) (rest := []) C hw (ct_X11_questionAt hq) kvX11_113 hq.1 (by decide) rfl ⟨by decide, by decide⟩ ⟨by decide, by decide⟩ rfl hl.1 rfl (Nat.le_of_ble_eq_true rfl) dX11_finish_81 (fun r M12 H locs hp hle hw => ?_)
      obtain ⟨v11, rfl, hq⟩ := hp
      refine W.eq (g2 := F0 m 84 ls [va_rf v11]) rfl ?_
      refine r_astore_n (lv' := [(2, va_rf v11), (0, .ref a0), (1, .int x1)]) hx hb dX11_finish_84 rfl hl (by decide) (by first | rfl | simp [va_cat]) (fun ls hl => ?_)
      refine r_aload_n hx hb dX11_finish_85 rfl (lv_at hl 0 rfl) ?_
      rcases v11 with _ | q14
      · refine lv_ifnullN (tgt := 115) hx hb dX11_finish_86 (by decide) ?_
        have hl : lv_has ls 3 [(2, .null), (0, .ref a0), (1, .int x1)] := hl
        replace hq := hq.1 rfl
        refine lv_iinc (v := (x1 + 1)) (lv' := [(1, .int (x1 + 1)), (2, .null), (0, .ref a0)]) hx hb dX11_finish_115 hl (k := 2) rfl rfl (by decide) rfl (fun ls hl => ?_)
        refine lv_goto (tgt := 61) hx hb dX11_finish_118 (by decide) ?_
        exact hk61 _ _ _ _ _ hq hw (lv_sub hl [2, 0] rfl)
      · refine lv_ifnull hx hb dX11_finish_86 ?_
        have hl : lv_has ls 3 [(2, .ref q14), (0, .ref a0), (1, .int x1)] := hl
        replace hq := hq.2 q14 rfl
        refine lv_aload_n hx hb dX11_finish_89 rfl (lv_at hl 0 rfl) ?_
        refine lv_aload_n hx hb dX11_finish_90 rfl (lv_at hl 1 rfl) ?_
        obtain ⟨q15, e16, hq⟩ := hq
        refine gfX11_65 C hw hw.2.2.1 h0 e16 dX11_finish_91 ?_
        refine lv_iload_n hx hb dX11_finish_94 rfl (lv_at hl 2 rfl) ?_
        refine r_callV (T := TX6) (N := 9) (ci := 6) (index := 235) (n := 1) (d2 := 0) (mc := 0) (ms := 0) (As := [.int x1]) (rest := [.ref q14]) C hw (ct_X6_isKnown hq) kvX11_235 hq.1 (by decide) rfl ⟨by decide, by decide⟩ ⟨by decide, by decide⟩ rfl hl.1 rfl (Nat.le_of_ble_eq_true rfl) dX11_finish_95 (fun r M18 H locs hp hle hw => ?_)
        obtain ⟨v17, rfl, hq⟩ := hp
        refine W.eq (g2 := F0 m 98 ls [.int v17, .ref q14]) rfl ?_
        refine lv_aload_n hx hb dX11_finish_98 rfl (lv_at hl 1 rfl) ?_
        obtain ⟨q19, e20, hq⟩ := hq
        refine gfX11_56 C hw hw.2.2.1 h0 e20 dX11_finish_99 ?_
        obtain ⟨h21, hq⟩ := hq
        refine gfX11_222 C hw hw.2.2.1 h21 dX11_finish_102 ?_
        refine lv_aload_n hx hb dX11_finish_105 rfl (lv_at hl 1 rfl) ?_
        refine gfX11_56 C hw hw.2.2.1 h0 e20 dX11_finish_106 ?_
        refine gfX11_225 C hw hw.2.2.1 h21 dX11_finish_109 ?_
        refine r_callV (T := TX9) (N := 6) (ci := 9) (index := 238) (n := 3) (d2 := 0) (mc := 0) (ms := 0) (As := [.int v17, .int (mI M18 q19 0), .int (mI M18 q19 1)]) (rest := []) C hw (ct_X9_addPlay hq) kvX11_238 hq.1 (by decide) rfl ⟨by decide, by decide⟩ ⟨by decide, by decide⟩ rfl hl.1 rfl (Nat.le_of_ble_eq_true rfl) dX11_finish_112 (fun r M23 H locs hp hle hw => ?_)
        obtain ⟨rfl, hq⟩ := hp
        refine W.eq (g2 := F0 m 115 ls []) rfl ?_
        refine lv_iinc (v := (x1 + 1)) (lv' := [(1, .int (x1 + 1)), (2, .ref q14), (0, .ref a0)]) hx hb dX11_finish_115 hl (k := 2) rfl rfl (by decide) rfl (fun ls hl => ?_)
        refine lv_goto (tgt := 61) hx hb dX11_finish_118 (by decide) ?_
        exact hk61 _ _ _ _ _ hq hw (lv_sub hl [2, 0] rfl)
set_option maxHeartbeats 4000000 in
set_option maxRecDepth 100000 in
theorem ct_X11_finish {l : Launch} {g : Gh} {M0 : Mem} {a0 : Nat} {post : Int32 → Mem → Prop}  (hq : wp_X11_finish  g M0 a0 post) : Ct l g yX11_finish cX11_finish 3 (some .boolean) 3 0 0 [.ref a0] M0 (pI post) := by
  unfold wp_X11_finish at hq
  obtain ⟨h0, hq⟩ := hq
  refine Ct.of (by decide) (Nat.le_of_ble_eq_true rfl) ?_
  intro p e s m below meth c ls C hr hlk hn hl hw
  have hx := C.1.1
  have hb := C.1.2.1
  have hl : lv_has ls 3 [(0, .ref a0)] := hl
  refine lv_aload_n hx hb dX11_finish_0 rfl (lv_at hl 0 rfl) ?_
  obtain ⟨q24, e25, hq⟩ := hq
  refine gfX11_65 C hw hw.2.2.1 h0 e25 dX11_finish_1 ?_
  obtain ⟨h26, hq⟩ := hq
  refine gfX11_125 C hw hw.2.2.1 h26 dX11_finish_4 ?_
  refine lv_if_eq (tgt := 20) hx hb dX11_finish_7 (by decide) (fun c27 => ?_) (fun c27 => ?_)
  · replace hq := hq.1 c27
    refine lv_iconst (v := 0) hx hb dX11_finish_20 (by decide) ?_
    exact r_zret C hr hlk hw dX11_finish_21 (Nat.le_refl _) (Nat.le_refl _) (by decide) ⟨_, rfl, hq⟩
  · replace hq := hq.2 c27
    refine lv_aload_n hx hb dX11_finish_10 rfl (lv_at hl 0 rfl) ?_
    refine gfX11_65 C hw hw.2.2.1 h0 e25 dX11_finish_11 ?_
    refine r_callV (T := TX6) (N := 9) (ci := 6) (index := 219) (n := 0) (d2 := 0) (mc := 0) (ms := 0) (As := []) (rest := []) C hw (ct_X6_isOver hq) kvX11_219 hq.1 (by decide) rfl ⟨by decide, by decide⟩ ⟨by decide, by decide⟩ rfl hl.1 rfl (Nat.le_of_ble_eq_true rfl) dX11_finish_14 (fun r M29 H locs hp hle hw => ?_)
    obtain ⟨v28, rfl, hq⟩ := hp
    refine W.eq (g2 := F0 m 17 ls [.int v28]) rfl ?_
    refine lv_if_ne (tgt := 22) hx hb dX11_finish_17 (by decide) (fun c30 => ?_) (fun c30 => ?_)
    · replace hq := hq.2 c30
      refine lv_aload_n hx hb dX11_finish_22 rfl (lv_at hl 0 rfl) ?_
      obtain ⟨q31, e32, hq⟩ := hq
      refine gfX11_72 C hw hw.2.2.1 h0 e32 dX11_finish_23 ?_
      refine lv_aload_n hx hb dX11_finish_26 rfl (lv_at hl 0 rfl) ?_
      obtain ⟨q33, e34, hq⟩ := hq
      refine gfX11_56 C hw hw.2.2.1 h0 e34 dX11_finish_27 ?_
      obtain ⟨h35, hq⟩ := hq
      refine gfX11_222 C hw hw.2.2.1 h35 dX11_finish_30 ?_
      refine lv_aload_n hx hb dX11_finish_33 rfl (lv_at hl 0 rfl) ?_
      refine gfX11_56 C hw hw.2.2.1 h0 e34 dX11_finish_34 ?_
      refine gfX11_225 C hw hw.2.2.1 h35 dX11_finish_37 ?_
      refine lv_aload_n hx hb dX11_finish_40 rfl (lv_at hl 0 rfl) ?_
      obtain ⟨q36, e37, hq⟩ := hq
      refine gfX11_65 C hw hw.2.2.1 h0 e37 dX11_finish_41 ?_
      refine lv_iconst (v := 0) hx hb dX11_finish_44 (by decide) ?_
      refine r_callV (T := TX6) (N := 9) (ci := 6) (index := 228) (n := 1) (d2 := 0) (mc := 0) (ms := 0) (As := [.int 0]) (rest := [.int (mI M29 q33 1), .int (mI M29 q33 0), .ref q31]) C hw (ct_X6_pointsOf hq) kvX11_228 hq.1 (by decide) rfl ⟨by decide, by decide⟩ ⟨by decide, by decide⟩ rfl hl.1 rfl (Nat.le_of_ble_eq_true rfl) dX11_finish_45 (fun r M39 H locs hp hle hw => ?_)
      obtain ⟨v38, rfl, hq⟩ := hp
      refine W.eq (g2 := F0 m 48 ls [.int v38, .int (mI M29 q33 1), .int (mI M29 q33 0), .ref q31]) rfl ?_
      refine lv_aload_n hx hb dX11_finish_48 rfl (lv_at hl 0 rfl) ?_
      obtain ⟨q40, e41, hq⟩ := hq
      refine gfX11_65 C hw hw.2.2.1 h0 e41 dX11_finish_49 ?_
      refine lv_iconst (v := 1) hx hb dX11_finish_52 (by decide) ?_
      refine r_callV (T := TX6) (N := 9) (ci := 6) (index := 228) (n := 1) (d2 := 0) (mc := 0) (ms := 0) (As := [.int 1]) (rest := [.int v38, .int (mI M29 q33 1), .int (mI M29 q33 0), .ref q31]) C hw (ct_X6_pointsOf hq) kvX11_228 hq.1 (by decide) rfl ⟨by decide, by decide⟩ ⟨by decide, by decide⟩ rfl hl.1 rfl (Nat.le_of_ble_eq_true rfl) dX11_finish_53 (fun r M43 H locs hp hle hw => ?_)
      obtain ⟨v42, rfl, hq⟩ := hp
      refine W.eq (g2 := F0 m 56 ls [.int v42, .int v38, .int (mI M29 q33 1), .int (mI M29 q33 0), .ref q31]) rfl ?_
      refine r_callV (T := TX5) (N := 5) (ci := 5) (index := 231) (n := 4) (d2 := 2) (mc := 0) (ms := 0) (As := [.int (mI M29 q33 0), .int (mI M29 q33 1), .int v38, .int v42]) (rest := []) C hw (ct_X5_addMatch hq) kvX11_231 hq.1 (by decide) rfl ⟨by decide, by decide⟩ ⟨by decide, by decide⟩ rfl hl.1 rfl (Nat.le_of_ble_eq_true rfl) dX11_finish_56 (fun r M45 H locs hp hle hw => ?_)
      obtain ⟨rfl, hq⟩ := hp
      refine W.eq (g2 := F0 m 59 ls []) rfl ?_
      refine lv_iconst (v := 0) hx hb dX11_finish_59 (by decide) ?_
      refine lv_istore_n (lv' := [(1, .int 0), (0, .ref a0)]) hx hb dX11_finish_60 rfl hl (by decide) rfl (fun ls hl => ?_)
      obtain ⟨nf, hq⟩ := hq
      exact lp_X11_finish_61  C hr hlk hn h0  nf _ _ _ _ _ hq hw (lv_sub hl [1, 0] rfl)
    · replace hq := hq.1 c30
      refine lv_iconst (v := 0) hx hb dX11_finish_20 (by decide) ?_
      exact r_zret C hr hlk hw dX11_finish_21 (Nat.le_refl _) (Nat.le_refl _) (by decide) ⟨_, rfl, hq⟩

set_option maxRecDepth 100000 in
def wp_X11_call  (g : Gh) (M0 : Mem) (a0 : Nat) (post : Int32 → Mem → Prop) : Prop :=
  okc (gB g) M0 a0 11 ∧ (∃ q1, mR M0 a0 9 = some q1 ∧ (okc (gB g) M0 q1 6 ∧ (wp_X6_drop g M0 q1 (fun M5 => ((mI M0 q1 0) = 0 ∨ (mI M0 q1 0) = 1) ∧ (post (mI M0 q1 0) M5)))))
set_option maxHeartbeats 4000000 in
set_option maxRecDepth 100000 in
theorem ct_X11_call {l : Launch} {g : Gh} {M0 : Mem} {a0 : Nat} {post : Int32 → Mem → Prop}  (hq : wp_X11_call  g M0 a0 post) : Ct l g yX11_call cX11_call 2 (some .boolean) 1 0 0 [.ref a0] M0 (pI post) := by
  unfold wp_X11_call at hq
  obtain ⟨h0, hq⟩ := hq
  refine Ct.of (by decide) (Nat.le_of_ble_eq_true rfl) ?_
  intro p e s m below meth c ls C hr hlk hn hl hw
  have hx := C.1.1
  have hb := C.1.2.1
  have hl : lv_has ls 2 [(0, .ref a0)] := hl
  refine lv_aload_n hx hb dX11_call_0 rfl (lv_at hl 0 rfl) ?_
  obtain ⟨q1, e2, hq⟩ := hq
  refine gfX11_65 C hw hw.2.2.1 h0 e2 dX11_call_1 ?_
  obtain ⟨h3, hq⟩ := hq
  refine gfX11_125 C hw hw.2.2.1 h3 dX11_call_4 ?_
  refine lv_istore_n (lv' := [(1, .int (mI M0 q1 0)), (0, .ref a0)]) hx hb dX11_call_7 rfl hl (by decide) rfl (fun ls hl => ?_)
  refine lv_aload_n hx hb dX11_call_8 rfl (lv_at hl 1 rfl) ?_
  refine gfX11_65 C hw hw.2.2.1 h0 e2 dX11_call_9 ?_
  refine r_callV (T := TX6) (N := 9) (ci := 6) (index := 242) (n := 0) (d2 := 0) (mc := 0) (ms := 0) (As := []) (rest := []) C hw (ct_X6_drop hq) kvX11_242 hq.1 (by decide) rfl ⟨by decide, by decide⟩ ⟨by decide, by decide⟩ rfl hl.1 rfl (Nat.le_of_ble_eq_true rfl) dX11_call_12 (fun r M5 H locs hp hle hw => ?_)
  obtain ⟨rfl, hq⟩ := hp
  refine W.eq (g2 := F0 m 15 ls []) rfl ?_
  refine lv_iload_n hx hb dX11_call_15 rfl (lv_at hl 0 rfl) ?_
  obtain ⟨h6, hq⟩ := hq
  exact r_zret C hr hlk hw dX11_call_16 (Nat.le_refl _) (Nat.le_refl _) h6 ⟨_, rfl, hq⟩

set_option maxRecDepth 100000 in
def wp_X11_table  (g : Gh) (M0 : Mem) (a0 : Nat) (p1 : Int32) (p2 : Int32) (post : Int32 → Mem → Prop) : Prop :=
  okc (gB g) M0 a0 11 ∧ (∃ q1, mR M0 a0 10 = some q1 ∧ (wp_X5_teamAt g M0 q1 p1 (fun v3 M4 => wp_X11_isTeam g M4 v3 (fun v5 M6 => ((v5 = 0) → post (-1) M6) ∧ (¬ (v5 = 0) → ∃ q8, mR M6 a0 10 = some q8 ∧ (wp_X5_tell g M6 q8 v3 p2 (fun v10 M11 => post v10 M11)))))))
set_option maxHeartbeats 4000000 in
set_option maxRecDepth 100000 in
theorem ct_X11_table {l : Launch} {g : Gh} {M0 : Mem} {a0 : Nat} {p1 : Int32} {p2 : Int32} {post : Int32 → Mem → Prop}  (hq : wp_X11_table  g M0 a0 p1 p2 post) : Ct l g yX11_table cX11_table 4 (some .int) 4 0 0 [.ref a0, .int p1, .int p2] M0 (pI post) := by
  unfold wp_X11_table at hq
  obtain ⟨h0, hq⟩ := hq
  refine Ct.of (by decide) (Nat.le_of_ble_eq_true rfl) ?_
  intro p e s m below meth c ls C hr hlk hn hl hw
  have hx := C.1.1
  have hb := C.1.2.1
  have hl : lv_has ls 4 [(0, .ref a0), (1, .int p1), (2, .int p2)] := hl
  refine lv_aload_n hx hb dX11_table_0 rfl (lv_at hl 0 rfl) ?_
  obtain ⟨q1, e2, hq⟩ := hq
  refine gfX11_72 C hw hw.2.2.1 h0 e2 dX11_table_1 ?_
  refine lv_iload_n hx hb dX11_table_4 rfl (lv_at hl 1 rfl) ?_
  refine r_callV (T := TX5) (N := 5) (ci := 5) (index := 245) (n := 1) (d2 := 3) (mc := 0) (ms := 0) (As := [.int p1]) (rest := []) C hw (ct_X5_teamAt hq) kvX11_245 hq.1 (by decide) rfl ⟨by decide, by decide⟩ ⟨by decide, by decide⟩ rfl hl.1 rfl (Nat.le_of_ble_eq_true rfl) dX11_table_5 (fun r M4 H locs hp hle hw => ?_)
  obtain ⟨v3, rfl, hq⟩ := hp
  refine W.eq (g2 := F0 m 8 ls [.int v3]) rfl ?_
  refine lv_istore_n (lv' := [(3, .int v3), (0, .ref a0), (1, .int p1), (2, .int p2)]) hx hb dX11_table_8 rfl hl (by decide) rfl (fun ls hl => ?_)
  refine lv_iload_n hx hb dX11_table_9 rfl (lv_at hl 0 rfl) ?_
  refine r_callS (index := 143) (n := 1) (d2 := 0) (mc := 0) (ms := 0) (As := [.int v3]) (rest := []) C hw (ct_X11_isTeam hq) ksX11_143 ⟨by decide, by decide⟩ ⟨by decide, by decide⟩ rfl hl.1 rfl (Nat.le_of_ble_eq_true rfl) dX11_table_10 (fun r M6 H locs hp hle hw => ?_)
  obtain ⟨v5, rfl, hq⟩ := hp
  refine W.eq (g2 := F0 m 13 ls [.int v5]) rfl ?_
  refine lv_if_eq (tgt := 28) hx hb dX11_table_13 (by decide) (fun c7 => ?_) (fun c7 => ?_)
  · replace hq := hq.1 c7
    refine lv_iconst (v := (-1)) hx hb dX11_table_28 (by decide) ?_
    exact r_iret C hr hlk hw dX11_table_29 (Nat.le_refl _) (Nat.le_refl _) ⟨_, rfl, hq⟩
  · replace hq := hq.2 c7
    refine lv_aload_n hx hb dX11_table_16 rfl (lv_at hl 1 rfl) ?_
    obtain ⟨q8, e9, hq⟩ := hq
    refine gfX11_72 C hw hw.2.2.1 h0 e9 dX11_table_17 ?_
    refine lv_iload_n hx hb dX11_table_20 rfl (lv_at hl 0 rfl) ?_
    refine lv_iload_n hx hb dX11_table_21 rfl (lv_at hl 3 rfl) ?_
    refine r_callV (T := TX5) (N := 5) (ci := 5) (index := 248) (n := 2) (d2 := 1) (mc := 0) (ms := 0) (As := [.int v3, .int p2]) (rest := []) C hw (ct_X5_tell hq) kvX11_248 hq.1 (by decide) rfl ⟨by decide, by decide⟩ ⟨by decide, by decide⟩ rfl hl.1 rfl (Nat.le_of_ble_eq_true rfl) dX11_table_22 (fun r M11 H locs hp hle hw => ?_)
    obtain ⟨v10, rfl, hq⟩ := hp
    refine W.eq (g2 := F0 m 25 ls [.int v10]) rfl ?_
    refine lv_goto (tgt := 29) hx hb dX11_table_25 (by decide) ?_
    exact r_iret C hr hlk hw dX11_table_29 (Nat.le_refl _) (Nat.le_refl _) ⟨_, rfl, hq⟩

set_option maxRecDepth 100000 in
def wp_X11_count  (g : Gh) (M0 : Mem) (a0 : Nat) (p1 : Int32) (post : Int32 → Mem → Prop) : Prop :=
  okc (gB g) M0 a0 11 ∧ (((p1 = 0) → post (mI M0 a0 4) M0) ∧ ((p1 = 1) → ∃ q2, mR M0 a0 5 = some q2 ∧ (okc (gB g) M0 q2 4 ∧ (post (mI M0 q2 1) M0))) ∧ ((p1 = 2) → ∃ q5, mR M0 a0 5 = some q5 ∧ (okc (gB g) M0 q5 4 ∧ (post (mI M0 q5 0) M0))) ∧ ((p1 = 3) → ∃ q8, mR M0 a0 8 = some q8 ∧ (okc (gB g) M0 q8 8 ∧ (post (mI M0 q8 2) M0))) ∧ ((p1 = 4) → ∃ q11, mR M0 a0 8 = some q11 ∧ (okc (gB g) M0 q11 8 ∧ (post (mI M0 q11 3) M0))) ∧ ((p1 = 5) → ∃ q14, mR M0 a0 10 = some q14 ∧ (okc (gB g) M0 q14 5 ∧ (post (mI M0 q14 4) M0))) ∧ ((p1 = 6) → ∃ q17, mR M0 a0 0 = some q17 ∧ (okc (gB g) M0 q17 10 ∧ (post (mI M0 q17 1) M0))) ∧ ((¬ (p1 = 0) ∧ ¬ (p1 = 1) ∧ ¬ (p1 = 2) ∧ ¬ (p1 = 3) ∧ ¬ (p1 = 4) ∧ ¬ (p1 = 5) ∧ ¬ (p1 = 6)) → post (-1) M0))
set_option maxHeartbeats 4000000 in
set_option maxRecDepth 100000 in
theorem ct_X11_count {l : Launch} {g : Gh} {M0 : Mem} {a0 : Nat} {p1 : Int32} {post : Int32 → Mem → Prop}  (hq : wp_X11_count  g M0 a0 p1 post) : Ct l g yX11_count cX11_count 2 (some .int) 0 0 0 [.ref a0, .int p1] M0 (pI post) := by
  unfold wp_X11_count at hq
  obtain ⟨h0, hq⟩ := hq
  refine Ct.of (by decide) (Nat.le_of_ble_eq_true rfl) ?_
  intro p e s m below meth c ls C hr hlk hn hl hw
  have hx := C.1.1
  have hb := C.1.2.1
  have hl : lv_has ls 2 [(0, .ref a0), (1, .int p1)] := hl
  refine lv_iload_n hx hb dX11_count_0 rfl (lv_at hl 1 rfl) ?_
  by_cases c20 : p1 = 0
  · refine r_table (v := 0) (off := 43) (tgt := 44) hx hb dX11_count_1 c20 (by decide) (by decide) rfl (by decide) ?_
    replace hq := hq.1 c20
    refine lv_aload_n hx hb dX11_count_44 rfl (lv_at hl 0 rfl) ?_
    refine gfX11_36 C hw hw.2.2.1 h0 dX11_count_45 ?_
    exact r_iret C hr hlk hw dX11_count_48 (Nat.le_refl _) (Nat.le_refl _) ⟨_, rfl, hq⟩
  by_cases c21 : p1 = 1
  · refine r_table (v := 1) (off := 48) (tgt := 49) hx hb dX11_count_1 c21 (by decide) (by decide) rfl (by decide) ?_
    replace hq := hq.2.1 c21
    refine lv_aload_n hx hb dX11_count_49 rfl (lv_at hl 0 rfl) ?_
    obtain ⟨q2, e3, hq⟩ := hq
    refine gfX11_43 C hw hw.2.2.1 h0 e3 dX11_count_50 ?_
    obtain ⟨h4, hq⟩ := hq
    refine gfX11_152 C hw hw.2.2.1 h4 dX11_count_53 ?_
    exact r_iret C hr hlk hw dX11_count_56 (Nat.le_refl _) (Nat.le_refl _) ⟨_, rfl, hq⟩
  by_cases c22 : p1 = 2
  · refine r_table (v := 2) (off := 56) (tgt := 57) hx hb dX11_count_1 c22 (by decide) (by decide) rfl (by decide) ?_
    replace hq := hq.2.2.1 c22
    refine lv_aload_n hx hb dX11_count_57 rfl (lv_at hl 0 rfl) ?_
    obtain ⟨q5, e6, hq⟩ := hq
    refine gfX11_43 C hw hw.2.2.1 h0 e6 dX11_count_58 ?_
    obtain ⟨h7, hq⟩ := hq
    refine gfX11_250 C hw hw.2.2.1 h7 dX11_count_61 ?_
    exact r_iret C hr hlk hw dX11_count_64 (Nat.le_refl _) (Nat.le_refl _) ⟨_, rfl, hq⟩
  by_cases c23 : p1 = 3
  · refine r_table (v := 3) (off := 64) (tgt := 65) hx hb dX11_count_1 c23 (by decide) (by decide) rfl (by decide) ?_
    replace hq := hq.2.2.2.1 c23
    refine lv_aload_n hx hb dX11_count_65 rfl (lv_at hl 0 rfl) ?_
    obtain ⟨q8, e9, hq⟩ := hq
    refine gfX11_56 C hw hw.2.2.1 h0 e9 dX11_count_66 ?_
    obtain ⟨h10, hq⟩ := hq
    refine gfX11_183 C hw hw.2.2.1 h10 dX11_count_69 ?_
    exact r_iret C hr hlk hw dX11_count_72 (Nat.le_refl _) (Nat.le_refl _) ⟨_, rfl, hq⟩
  by_cases c24 : p1 = 4
  · refine r_table (v := 4) (off := 72) (tgt := 73) hx hb dX11_count_1 c24 (by decide) (by decide) rfl (by decide) ?_
    replace hq := hq.2.2.2.2.1 c24
    refine lv_aload_n hx hb dX11_count_73 rfl (lv_at hl 0 rfl) ?_
    obtain ⟨q11, e12, hq⟩ := hq
    refine gfX11_56 C hw hw.2.2.1 h0 e12 dX11_count_74 ?_
    obtain ⟨h13, hq⟩ := hq
    refine gfX11_253 C hw hw.2.2.1 h13 dX11_count_77 ?_
    exact r_iret C hr hlk hw dX11_count_80 (Nat.le_refl _) (Nat.le_refl _) ⟨_, rfl, hq⟩
  by_cases c25 : p1 = 5
  · refine r_table (v := 5) (off := 80) (tgt := 81) hx hb dX11_count_1 c25 (by decide) (by decide) rfl (by decide) ?_
    replace hq := hq.2.2.2.2.2.1 c25
    refine lv_aload_n hx hb dX11_count_81 rfl (lv_at hl 0 rfl) ?_
    obtain ⟨q14, e15, hq⟩ := hq
    refine gfX11_72 C hw hw.2.2.1 h0 e15 dX11_count_82 ?_
    obtain ⟨h16, hq⟩ := hq
    refine gfX11_256 C hw hw.2.2.1 h16 dX11_count_85 ?_
    exact r_iret C hr hlk hw dX11_count_88 (Nat.le_refl _) (Nat.le_refl _) ⟨_, rfl, hq⟩
  by_cases c26 : p1 = 6
  · refine r_table (v := 6) (off := 88) (tgt := 89) hx hb dX11_count_1 c26 (by decide) (by decide) rfl (by decide) ?_
    replace hq := hq.2.2.2.2.2.2.1 c26
    refine lv_aload_n hx hb dX11_count_89 rfl (lv_at hl 0 rfl) ?_
    obtain ⟨q17, e18, hq⟩ := hq
    refine gfX11_10 C hw hw.2.2.1 h0 e18 dX11_count_90 ?_
    obtain ⟨h19, hq⟩ := hq
    refine gfX11_84 C hw hw.2.2.1 h19 dX11_count_93 ?_
    exact r_iret C hr hlk hw dX11_count_96 (Nat.le_refl _) (Nat.le_refl _) ⟨_, rfl, hq⟩
  refine r_tableOut (tgt := 97) (k := 6) hx hb dX11_count_1 (by decide) (fun j hj => by rcases (show j = 0 ∨ j = 1 ∨ j = 2 ∨ j = 3 ∨ j = 4 ∨ j = 5 ∨ j = 6 by omega) with rfl | rfl | rfl | rfl | rfl | rfl | rfl <;> assumption) (by decide) ?_
  replace hq := hq.2.2.2.2.2.2.2 ⟨c20, c21, c22, c23, c24, c25, c26⟩
  refine lv_iconst (v := (-1)) hx hb dX11_count_97 (by decide) ?_
  exact r_iret C hr hlk hw dX11_count_98 (Nat.le_refl _) (Nat.le_refl _) ⟨_, rfl, hq⟩
