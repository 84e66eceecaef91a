set_option maxRecDepth 100000 in
def bd_X11_isPackSpoilt_2  (g : Gh) (M0 : Mem) (a0 : Nat) (post : Int32 → Mem → Prop)  (bk2 : Int32 × Mem → Prop) (x1 : Int32)  (M : Mem) : Prop :=
  ∃ q1, mR M a0 8 = some q1 ∧ (okc (gB g) M0 q1 8 ∧ ((((mI M q1 2) ≤ x1) → post 0 M) ∧ (¬ ((mI M q1 2) ≤ x1) → wp_X8_numberAt g M q1 x1 (fun v5 M6 => wp_X11_questionAt g M6 a0 v5 (fun v7 M8 => (v7 = none → post 1 M8) ∧ (∀ q10, v7 = some q10 → ∃ q11, mR M8 a0 8 = some q11 ∧ (okc (gB g) M0 q11 8 ∧ (wp_X9_isFreeFor g M8 q10 (mI M8 q11 0) (mI M8 q11 1) (fun v14 M15 => ((v14 = 0) → post 1 M15) ∧ (¬ (v14 = 0) → bk2 ((x1 + 1), M15)))))))))))
set_option maxRecDepth 100000 in
def wp_X11_isPackSpoilt  (g : Gh) (M0 : Mem) (a0 : Nat) (post : Int32 → Mem → Prop) : Prop :=
  okc (gB g) M0 a0 11 ∧ ((∃ n : Nat, lfp (fun bk z => bd_X11_isPackSpoilt_2  g M0 a0 post  bk z.1 z.2) n (0, M0)))
set_option maxHeartbeats 4000000 in
set_option maxRecDepth 100000 in
theorem lp_X11_isPackSpoilt_2 {l : Launch} {g : Gh} {p : Program} {e : Env} {s : State} {m : MethodId} {args : Array Value} {below : List Frame} {meth : Method} {c : Code} {M0 : Mem} {a0 : Nat} {post : Int32 → Mem → Prop}  (C : Cx g p s m args c cX11_isPackSpoilt 3 RX11) (hr : meth.sig.returnType = (some .boolean)) (hlk : meth.locks = false) (hn : meth.name = "isPackSpoilt") (h0 : okc (gB g) M0 a0 11)  : ∀ (nf : Nat) (x1 : Int32)  (M : Mem) (H : Heap) (locs : List Loc) (ls : Array Slot), lfp (fun bk z => bd_X11_isPackSpoilt_2  g M0 a0 post  bk z.1 z.2) nf (x1, M) → Wd g s M0 M H locs → lv_has ls 3 [(0, .ref a0), (1, .int x1)] → W p l e (rmo 2 0 0) s m args below meth c H locs 0 0 (MQ below (Cq g M0 (pI post)) args s 0 0 (gA g)) (F0 m 2 ls []) := by
  have hx := C.1.1
  have hb := C.1.2.1
  intro nf
  induction nf with
  | zero => intro _ _ H locs ls hq; exact hq.elim
  | succ nf hk2 =>
    intro x1 M H locs ls hq hw hl
    replace hq : bd_X11_isPackSpoilt_2  g M0 a0 post  (lfp (fun bk z => bd_X11_isPackSpoilt_2  g M0 a0 post  bk z.1 z.2) nf) x1 M := hq
    unfold bd_X11_isPackSpoilt_2 at hq
    refine lv_iload_n hx hb dX11_isPackSpoilt_2 rfl (lv_at hl 1 rfl) ?_
    refine lv_aload_n hx hb dX11_isPackSpoilt_3 rfl (lv_at hl 0 rfl) ?_
    obtain ⟨q1, e2, hq⟩ := hq
    refine gfX11_56 C hw hw.2.2.1 h0 e2 dX11_isPackSpoilt_4 ?_
    obtain ⟨h3, hq⟩ := hq
    refine gfX11_183 C hw hw.2.2.1 h3 dX11_isPackSpoilt_7 ?_
    refine lv_icmp_ge (tgt := 59) hx hb dX11_isPackSpoilt_10 (by decide) (fun c4 => ?_) (fun c4 => ?_)
    · replace hq := hq.1 c4
      refine lv_iconst (v := 0) hx hb dX11_isPackSpoilt_59 (by decide) ?_
      exact r_zret C hr hlk hw dX11_isPackSpoilt_60 (Nat.le_refl _) (Nat.le_refl _) (by decide) ⟨_, rfl, hq⟩
    · replace hq := hq.2 c4
      refine lv_aload_n hx hb dX11_isPackSpoilt_13 rfl (lv_at hl 0 rfl) ?_
      refine lv_aload_n hx hb dX11_isPackSpoilt_14 rfl (lv_at hl 0 rfl) ?_
      refine gfX11_56 C hw hw.2.2.1 h0 e2 dX11_isPackSpoilt_15 ?_
      refine lv_iload_n hx hb dX11_isPackSpoilt_18 rfl (lv_at hl 1 rfl) ?_
      refine r_callV (T := TX8) (N := 15) (ci := 8) (index := 180) (n := 1) (d2 := 0) (mc := 0) (ms := 0) (As := [.int x1]) (rest := [.ref a0]) C hw (ct_X8_numberAt hq) kvX11_180 hq.1 (by decide) rfl ⟨by decide, by decide⟩ ⟨by decide, by decide⟩ rfl hl.1 rfl (Nat.le_of_ble_eq_true rfl) dX11_isPackSpoilt_19 (fun r M6 H locs hp hle hw => ?_)
      obtain ⟨v5, rfl, hq⟩ := hp
      refine W.eq (g2 := F0 m 22 ls [.int v5, .ref a0]) rfl ?_
      refine r_callV (T := TX11) (N := 11) (ci := 11) (index := 113) (n := 1) (d2 := 0) (mc := 0) (ms := 0) (As := [.int v5]) (rest := []) C hw (ct_X11_questionAt hq) kvX11_113 hq.1 (by decide) rfl ⟨by decide, by decide⟩ ⟨by decide, by decide⟩ rfl hl.1 rfl (Nat.le_of_ble_eq_true rfl) dX11_isPackSpoilt_22 (fun r M8 H locs hp hle hw => ?_)
      obtain ⟨v7, rfl, hq⟩ := hp
      refine W.eq (g2 := F0 m 25 ls [va_rf v7]) rfl ?_
      refine r_astore_n (lv' := [(2, va_rf v7), (0, .ref a0), (1, .int x1)]) hx hb dX11_isPackSpoilt_25 rfl hl (by decide) (by first | rfl | simp [va_cat]) (fun ls hl => ?_)
      refine r_aload_n hx hb dX11_isPackSpoilt_26 rfl (lv_at hl 0 rfl) ?_
      rcases v7 with _ | q10
      · refine lv_ifnullN (tgt := 51) hx hb dX11_isPackSpoilt_27 (by decide) ?_
        have hl : lv_has ls 3 [(2, .null), (0, .ref a0), (1, .int x1)] := hl
        replace hq := hq.1 rfl
        refine lv_iconst (v := 1) hx hb dX11_isPackSpoilt_51 (by decide) ?_
        exact r_zret C hr hlk hw dX11_isPackSpoilt_52 (Nat.le_refl _) (Nat.le_refl _) (by decide) ⟨_, rfl, hq⟩
      · refine lv_ifnull hx hb dX11_isPackSpoilt_27 ?_
        have hl : lv_has ls 3 [(2, .ref q10), (0, .ref a0), (1, .int x1)] := hl
        replace hq := hq.2 q10 rfl
        refine lv_aload_n hx hb dX11_isPackSpoilt_30 rfl (lv_at hl 0 rfl) ?_
        refine lv_aload_n hx hb dX11_isPackSpoilt_31 rfl (lv_at hl 1 rfl) ?_
        obtain ⟨q11, e12, hq⟩ := hq
        refine gfX11_56 C hw hw.2.2.1 h0 e12 dX11_isPackSpoilt_32 ?_
        obtain ⟨h13, hq⟩ := hq
        refine gfX11_222 C hw hw.2.2.1 h13 dX11_isPackSpoilt_35 ?_
        refine lv_aload_n hx hb dX11_isPackSpoilt_38 rfl (lv_at hl 1 rfl) ?_
        refine gfX11_56 C hw hw.2.2.1 h0 e12 dX11_isPackSpoilt_39 ?_
        refine gfX11_225 C hw hw.2.2.1 h13 dX11_isPackSpoilt_42 ?_
        refine r_callV (T := TX9) (N := 6) (ci := 9) (index := 259) (n := 2) (d2 := 1) (mc := 0) (ms := 0) (As := [.int (mI M8 q11 0), .int (mI M8 q11 1)]) (rest := []) C hw (ct_X9_isFreeFor hq) kvX11_259 hq.1 (by decide) rfl ⟨by decide, by decide⟩ ⟨by decide, by decide⟩ rfl hl.1 rfl (Nat.le_of_ble_eq_true rfl) dX11_isPackSpoilt_45 (fun r M15 H locs hp hle hw => ?_)
        obtain ⟨v14, rfl, hq⟩ := hp
        refine W.eq (g2 := F0 m 48 ls [.int v14]) rfl ?_
        refine lv_if_ne (tgt := 53) hx hb dX11_isPackSpoilt_48 (by decide) (fun c16 => ?_) (fun c16 => ?_)
        · replace hq := hq.2 c16
          refine lv_iinc (v := (x1 + 1)) (lv' := [(1, .int (x1 + 1)), (2, .ref q10), (0, .ref a0)]) hx hb dX11_isPackSpoilt_53 hl (k := 2) rfl rfl (by decide) rfl (fun ls hl => ?_)
          refine lv_goto (tgt := 2) hx hb dX11_isPackSpoilt_56 (by decide) ?_
          exact hk2 _ _ _ _ _ hq hw (lv_sub hl [2, 0] rfl)
        · replace hq := hq.1 c16
          refine lv_iconst (v := 1) hx hb dX11_isPackSpoilt_51 (by decide) ?_
          exact r_zret C hr hlk hw dX11_isPackSpoilt_52 (Nat.le_refl _) (Nat.le_refl _) (by decide) ⟨_, rfl, hq⟩
set_option maxHeartbeats 4000000 in
set_option maxRecDepth 100000 in
theorem ct_X11_isPackSpoilt {l : Launch} {g : Gh} {M0 : Mem} {a0 : Nat} {post : Int32 → Mem → Prop}  (hq : wp_X11_isPackSpoilt  g M0 a0 post) : Ct l g yX11_isPackSpoilt cX11_isPackSpoilt 3 (some .boolean) 2 0 0 [.ref a0] M0 (pI post) := by
  unfold wp_X11_isPackSpoilt at hq
  obtain ⟨h0, hq⟩ := hq
  refine Ct.of (by decide) (Nat.le_of_ble_eq_true rfl) ?_
  intro p e s m below meth c ls C hr hlk hn hl hw
  have hx := C.1.1
  have hb := C.1.2.1
  have hl : lv_has ls 3 [(0, .ref a0)] := hl
  refine lv_iconst (v := 0) hx hb dX11_isPackSpoilt_0 (by decide) ?_
  refine lv_istore_n (lv' := [(1, .int 0), (0, .ref a0)]) hx hb dX11_isPackSpoilt_1 rfl hl (by decide) rfl (fun ls hl => ?_)
  obtain ⟨nf, hq⟩ := hq
  exact lp_X11_isPackSpoilt_2  C hr hlk hn h0  nf _ _ _ _ _ hq hw (lv_sub hl [1, 0] rfl)

set_option maxRecDepth 100000 in
def wp_X11_begin  (g : Gh) (M0 : Mem) (a0 : Nat) (post : Int32 → Mem → Prop) : Prop :=
  okc (gB g) M0 a0 11 ∧ (∃ q1, mR M0 a0 9 = some q1 ∧ (okc (gB g) M0 q1 6 ∧ ((((mI M0 q1 0) = 0) → ∃ q5, mR M0 a0 8 = some q5 ∧ (okc (gB g) M0 q5 8 ∧ ((((mI M0 q5 2) = 0) → post 0 M0) ∧ (¬ ((mI M0 q5 2) = 0) → ∃ q9, mR M0 a0 5 = some q9 ∧ (okc (gB g) M0 q9 4 ∧ ((((mI M0 q5 2) = (mI M0 q9 1)) → wp_X11_isPackSpoilt g M0 a0 (fun v13 M14 => ((v13 = 0) → ∃ q16, mR M14 a0 9 = some q16 ∧ (∃ q18, mR M14 a0 5 = some q18 ∧ (wp_X6_start g M14 q16 q18 (fun M21 => post 1 M21)))) ∧ (¬ (v13 = 0) → post 0 M14))) ∧ (¬ ((mI M0 q5 2) = (mI M0 q9 1)) → post 0 M0))))))) ∧ (¬ ((mI M0 q1 0) = 0) → post 0 M0))))
set_option maxHeartbeats 4000000 in
set_option maxRecDepth 100000 in
theorem ct_X11_begin {l : Launch} {g : Gh} {M0 : Mem} {a0 : Nat} {post : Int32 → Mem → Prop}  (hq : wp_X11_begin  g M0 a0 post) : Ct l g yX11_begin cX11_begin 1 (some .boolean) 6 0 0 [.ref a0] M0 (pI post) := by
  unfold wp_X11_begin at hq
  obtain ⟨h0, hq⟩ := hq
  refine Ct.of (by decide) (Nat.le_of_ble_eq_true rfl) ?_
  intro p e s m below meth c ls C hr hlk hn hl hw
  have hx := C.1.1
  have hb := C.1.2.1
  have hl : lv_has ls 1 [(0, .ref a0)] := hl
  refine lv_aload_n hx hb dX11_begin_0 rfl (lv_at hl 0 rfl) ?_
  obtain ⟨q1, e2, hq⟩ := hq
  refine gfX11_65 C hw hw.2.2.1 h0 e2 dX11_begin_1 ?_
  obtain ⟨h3, hq⟩ := hq
  refine gfX11_125 C hw hw.2.2.1 h3 dX11_begin_4 ?_
  refine lv_if_ne (tgt := 44) hx hb dX11_begin_7 (by decide) (fun c4 => ?_) (fun c4 => ?_)
  · replace hq := hq.2 c4
    refine lv_iconst (v := 0) hx hb dX11_begin_44 (by decide) ?_
    exact r_zret C hr hlk hw dX11_begin_45 (Nat.le_refl _) (Nat.le_refl _) (by decide) ⟨_, rfl, hq⟩
  · replace hq := hq.1 c4
    refine lv_aload_n hx hb dX11_begin_10 rfl (lv_at hl 0 rfl) ?_
    obtain ⟨q5, e6, hq⟩ := hq
    refine gfX11_56 C hw hw.2.2.1 h0 e6 dX11_begin_11 ?_
    obtain ⟨h7, hq⟩ := hq
    refine gfX11_183 C hw hw.2.2.1 h7 dX11_begin_14 ?_
    refine lv_if_eq (tgt := 44) hx hb dX11_begin_17 (by decide) (fun c8 => ?_) (fun c8 => ?_)
    · replace hq := hq.1 c8
      refine lv_iconst (v := 0) hx hb dX11_begin_44 (by decide) ?_
      exact r_zret C hr hlk hw dX11_begin_45 (Nat.le_refl _) (Nat.le_refl _) (by decide) ⟨_, rfl, hq⟩
    · replace hq := hq.2 c8
      refine lv_aload_n hx hb dX11_begin_20 rfl (lv_at hl 0 rfl) ?_
      refine gfX11_56 C hw hw.2.2.1 h0 e6 dX11_begin_21 ?_
      refine gfX11_183 C hw hw.2.2.1 h7 dX11_begin_24 ?_
      refine lv_aload_n hx hb dX11_begin_27 rfl (lv_at hl 0 rfl) ?_
      obtain ⟨q9, e10, hq⟩ := hq
      refine gfX11_43 C hw hw.2.2.1 h0 e10 dX11_begin_28 ?_
      obtain ⟨h11, hq⟩ := hq
      refine gfX11_152 C hw hw.2.2.1 h11 dX11_begin_31 ?_
      refine lv_icmp_ne (tgt := 44) hx hb dX11_begin_34 (by decide) (fun c12 => ?_) (fun c12 => ?_)
      · replace hq := hq.2 c12
        refine lv_iconst (v := 0) hx hb dX11_begin_44 (by decide) ?_
        exact r_zret C hr hlk hw dX11_begin_45 (Nat.le_refl _) (Nat.le_refl _) (by decide) ⟨_, rfl, hq⟩
      · replace hq := hq.1 c12
        refine lv_aload_n hx hb dX11_begin_37 rfl (lv_at hl 0 rfl) ?_
        refine r_callV (T := TX11) (N := 11) (ci := 11) (index := 184) (n := 0) (d2 := 2) (mc := 0) (ms := 0) (As := []) (rest := []) C hw (ct_X11_isPackSpoilt hq) kvX11_184 hq.1 (by decide) rfl ⟨by decide, by decide⟩ ⟨by decide, by decide⟩ rfl hl.1 rfl (Nat.le_of_ble_eq_true rfl) dX11_begin_38 (fun r M14 H locs hp hle hw => ?_)
        obtain ⟨v13, rfl, hq⟩ := hp
        refine W.eq (g2 := F0 m 41 ls [.int v13]) rfl ?_
        refine lv_if_eq (tgt := 46) hx hb dX11_begin_41 (by decide) (fun c15 => ?_) (fun c15 => ?_)
        · replace hq := hq.1 c15
          refine lv_aload_n hx hb dX11_begin_46 rfl (lv_at hl 0 rfl) ?_
          obtain ⟨q16, e17, hq⟩ := hq
          refine gfX11_65 C hw hw.2.2.1 h0 e17 dX11_begin_47 ?_
          refine lv_aload_n hx hb dX11_begin_50 rfl (lv_at hl 0 rfl) ?_
          obtain ⟨q18, e19, hq⟩ := hq
          refine gfX11_43 C hw hw.2.2.1 h0 e19 dX11_begin_51 ?_
          refine r_callV (T := TX6) (N := 9) (ci := 6) (index := 188) (n := 1) (d2 := 5) (mc := 0) (ms := 0) (As := [.ref q18]) (rest := []) C hw (ct_X6_start hq) kvX11_188 hq.1 (by decide) rfl ⟨by decide, by decide⟩ ⟨by decide, by decide⟩ rfl hl.1 rfl (Nat.le_of_ble_eq_true rfl) dX11_begin_54 (fun r M21 H locs hp hle hw => ?_)
          obtain ⟨rfl, hq⟩ := hp
          refine W.eq (g2 := F0 m 57 ls []) rfl ?_
          refine lv_iconst (v := 1) hx hb dX11_begin_57 (by decide) ?_
          exact r_zret C hr hlk hw dX11_begin_58 (Nat.le_refl _) (Nat.le_refl _) (by decide) ⟨_, rfl, hq⟩
        · replace hq := hq.2 c15
          refine lv_iconst (v := 0) hx hb dX11_begin_44 (by decide) ?_
          exact r_zret C hr hlk hw dX11_begin_45 (Nat.le_refl _) (Nat.le_refl _) (by decide) ⟨_, rfl, hq⟩

set_option maxRecDepth 100000 in
def lb_X11_answer_79  (g : Gh) (M0 : Mem) (a0 : Nat) (p1 : Int32) (post : Int32 → Mem → Prop)   (s0 : Int32) (M : Mem) : Prop :=
  ∃ q1, mR M a0 9 = some q1 ∧ (wp_X6_add g M q1 0 p1 s0 (fun M4 => ((s0 = 0) → post 0 M4) ∧ (¬ (s0 = 0) → post 1 M4)))
set_option maxRecDepth 100000 in
def lb_X11_answer_60  (g : Gh) (M0 : Mem) (a0 : Nat) (p1 : Int32) (post : Int32 → Mem → Prop)  (r3 : Option Nat)  (M : Mem) : Prop :=
  ∃ q6, mR M a0 2 = some q6 ∧ (∃ q8, r3 = some q8 ∧ (okc (gB g) M0 q8 9 ∧ (∃ q10, mR M q8 1 = some q10 ∧ (wp_X7_accepts g M q6 q10 (fun v12 M13 => ((v12 = 0) → lb_X11_answer_79  g M0 a0 p1 post  0 M13) ∧ (¬ (v12 = 0) → lb_X11_answer_79  g M0 a0 p1 post  1 M13))))))
set_option maxRecDepth 100000 in
def wp_X11_answer  (g : Gh) (M0 : Mem) (a0 : Nat) (p1 : Int32) (post : Int32 → Mem → Prop) : Prop :=
  okc (gB g) M0 a0 11 ∧ (∃ q15, mR M0 a0 2 = some q15 ∧ (∃ q17, mR M0 a0 0 = some q17 ∧ (wp_X7_readFrom g M0 q15 q17 (fun v19 M20 => ∃ q21, mR M20 a0 0 = some q21 ∧ (wp_X10_wipe g M20 q21 (fun M24 => ∃ q25, mR M24 a0 9 = some q25 ∧ (wp_X6_mayCome g M24 q25 0 p1 (fun v27 M28 => ((v27 = 0) → post (-1) M28) ∧ (¬ (v27 = 0) → ∃ q30, mR M28 a0 8 = some q30 ∧ (∃ q32, mR M28 a0 9 = some q32 ∧ (okc (gB g) M0 q32 6 ∧ (wp_X8_numberAt g M28 q30 (mI M28 q32 5) (fun v35 M36 => wp_X11_questionAt g M36 a0 v35 (fun v37 M38 => ((v19 = 0) → lb_X11_answer_79  g M0 a0 p1 post  0 M38) ∧ (¬ (v19 = 0) → (v37 = none → lb_X11_answer_79  g M0 a0 p1 post  0 M38) ∧ (∀ q41, v37 = some q41 → lb_X11_answer_60  g M0 a0 p1 post  (some q41) M38))))))))))))))))
set_option maxHeartbeats 4000000 in
set_option maxRecDepth 100000 in
theorem lt_X11_answer_79 {l : Launch} {g : Gh} {p : Program} {e : Env} {s : State} {m : MethodId} {args : Array Value} {below : List Frame} {meth : Method} {c : Code} {H : Heap} {locs : List Loc} {ls : Array Slot} {M0 M : Mem} {a0 : Nat} {p1 : Int32} {post : Int32 → Mem → Prop}  {s0 : Int32}  (C : Cx g p s m args c cX11_answer 5 RX11) (hr : meth.sig.returnType = (some .int)) (hlk : meth.locks = false) (hn : meth.name = "answer") (h0 : okc (gB g) M0 a0 11)  (hq : lb_X11_answer_79  g M0 a0 p1 post  s0 M) (hw : Wd g s M0 M H locs) (hl : lv_has ls 5 [(0, .ref a0), (1, .int p1)]) : W p l e (rmo 10 0 0) s m args below meth c H locs 0 0 (MQ below (Cq g M0 (pI post)) args s 0 0 (gA g)) (F0 m 79 ls [.int s0]) := by
  have hx := C.1.1
  have hb := C.1.2.1
  unfold lb_X11_answer_79 at hq
  refine lv_istore (lv' := [(4, .int s0), (0, .ref a0), (1, .int p1)]) hx hb dX11_answer_79 hl (by decide) rfl (fun ls hl => ?_)
  refine lv_aload_n hx hb dX11_answer_81 rfl (lv_at hl 1 rfl) ?_
  obtain ⟨q1, e2, hq⟩ := hq
  refine gfX11_65 C hw hw.2.2.1 h0 e2 dX11_answer_82 ?_
  refine lv_iconst (v := 0) hx hb dX11_answer_85 (by decide) ?_
  refine lv_iload_n hx hb dX11_answer_86 rfl (lv_at hl 2 rfl) ?_
  refine lv_iload hx hb dX11_answer_87 (lv_at hl 0 rfl) ?_
  refine r_callV (T := TX6) (N := 9) (ci := 6) (index := 198) (n := 3) (d2 := 4) (mc := 0) (ms := 0) (As := [.int 0, .int p1, .int s0]) (rest := []) C hw (ct_X6_add hq) kvX11_198 hq.1 (by decide) rfl ⟨by decide, by decide⟩ ⟨by decide, by decide⟩ rfl hl.1 rfl (Nat.le_of_ble_eq_true rfl) dX11_answer_89 (fun r M4 H locs hp hle hw => ?_)
  obtain ⟨rfl, hq⟩ := hp
  refine W.eq (g2 := F0 m 92 ls []) rfl ?_
  refine lv_iload hx hb dX11_answer_92 (lv_at hl 0 rfl) ?_
  refine lv_if_eq (tgt := 101) hx hb dX11_answer_94 (by decide) (fun c5 => ?_) (fun c5 => ?_)
  · replace hq := hq.1 c5
    refine lv_iconst (v := 0) hx hb dX11_answer_101 (by decide) ?_
    exact r_iret C hr hlk hw dX11_answer_102 (Nat.le_refl _) (Nat.le_refl _) ⟨_, rfl, hq⟩
  · replace hq := hq.2 c5
    refine lv_iconst (v := 1) hx hb dX11_answer_97 (by decide) ?_
    refine lv_goto (tgt := 102) hx hb dX11_answer_98 (by decide) ?_
    exact r_iret C hr hlk hw dX11_answer_102 (Nat.le_refl _) (Nat.le_refl _) ⟨_, rfl, hq⟩
set_option maxHeartbeats 4000000 in
set_option maxRecDepth 100000 in
theorem lt_X11_answer_60 {l : Launch} {g : Gh} {p : Program} {e : Env} {s : State} {m : MethodId} {args : Array Value} {below : List Frame} {meth : Method} {c : Code} {H : Heap} {locs : List Loc} {ls : Array Slot} {M0 M : Mem} {a0 : Nat} {p1 : Int32} {post : Int32 → Mem → Prop} {r3 : Option Nat}   (C : Cx g p s m args c cX11_answer 5 RX11) (hr : meth.sig.returnType = (some .int)) (hlk : meth.locks = false) (hn : meth.name = "answer") (h0 : okc (gB g) M0 a0 11)  (hq : lb_X11_answer_60  g M0 a0 p1 post  r3 M) (hw : Wd g s M0 M H locs) (hl : lv_has ls 5 [(0, .ref a0), (1, .int p1), (3, va_rf r3)]) : W p l e (rmo 10 0 0) s m args below meth c H locs 0 0 (MQ below (Cq g M0 (pI post)) args s 0 0 (gA g)) (F0 m 60 ls []) := by
  have hx := C.1.1
  have hb := C.1.2.1
  unfold lb_X11_answer_60 at hq
  refine lv_aload_n hx hb dX11_answer_60 rfl (lv_at hl 0 rfl) ?_
  obtain ⟨q6, e7, hq⟩ := hq
  refine gfX11_26 C hw hw.2.2.1 h0 e7 dX11_answer_61 ?_
  refine r_aload_n hx hb dX11_answer_64 rfl (lv_at hl 2 rfl) ?_
  obtain ⟨q8, rfl, hq⟩ := hq
  have hl : lv_has ls 5 [(0, .ref a0), (1, .int p1), (3, .ref q8)] := hl
  refine W.eq (g2 := F0 m 65 ls [.ref q8, .ref q6]) rfl ?_
  obtain ⟨h9, hq⟩ := hq
  obtain ⟨q10, e11, hq⟩ := hq
  refine gfX11_117 C hw hw.2.2.1 h9 e11 dX11_answer_65 ?_
  refine r_callV (T := TX7) (N := 5) (ci := 7) (index := 121) (n := 1) (d2 := 5) (mc := 0) (ms := 0) (As := [.ref q10]) (rest := []) C hw (ct_X7_accepts hq) kvX11_121 hq.1 (by decide) rfl ⟨by decide, by decide⟩ ⟨by decide, by decide⟩ rfl hl.1 rfl (Nat.le_of_ble_eq_true rfl) dX11_answer_68 (fun r M13 H locs hp hle hw => ?_)
  obtain ⟨v12, rfl, hq⟩ := hp
  refine W.eq (g2 := F0 m 71 ls [.int v12]) rfl ?_
  refine lv_if_eq (tgt := 78) hx hb dX11_answer_71 (by decide) (fun c14 => ?_) (fun c14 => ?_)
  · replace hq := hq.1 c14
    refine lv_iconst (v := 0) hx hb dX11_answer_78 (by decide) ?_
    exact lt_X11_answer_79  C hr hlk hn h0  hq hw (lv_sub hl [0, 1] rfl)
  · replace hq := hq.2 c14
    refine lv_iconst (v := 1) hx hb dX11_answer_74 (by decide) ?_
    refine lv_goto (tgt := 79) hx hb dX11_answer_75 (by decide) ?_
    exact lt_X11_answer_79  C hr hlk hn h0  hq hw (lv_sub hl [0, 1] rfl)
set_option maxHeartbeats 4000000 in
set_option maxRecDepth 100000 in
theorem ct_X11_answer {l : Launch} {g : Gh} {M0 : Mem} {a0 : Nat} {p1 : Int32} {post : Int32 → Mem → Prop}  (hq : wp_X11_answer  g M0 a0 p1 post) : Ct l g yX11_answer cX11_answer 5 (some .int) 10 0 0 [.ref a0, .int p1] M0 (pI post) := by
  unfold wp_X11_answer at hq
  obtain ⟨h0, hq⟩ := hq
  refine Ct.of (by decide) (Nat.le_of_ble_eq_true rfl) ?_
  intro p e s m below meth c ls C hr hlk hn hl hw
  have hx := C.1.1
  have hb := C.1.2.1
  have hl : lv_has ls 5 [(0, .ref a0), (1, .int p1)] := hl
  refine lv_aload_n hx hb dX11_answer_0 rfl (lv_at hl 0 rfl) ?_
  obtain ⟨q15, e16, hq⟩ := hq
  refine gfX11_26 C hw hw.2.2.1 h0 e16 dX11_answer_1 ?_
  refine lv_aload_n hx hb dX11_answer_4 rfl (lv_at hl 0 rfl) ?_
  obtain ⟨q17, e18, hq⟩ := hq
  refine gfX11_10 C hw hw.2.2.1 h0 e18 dX11_answer_5 ?_
  refine r_callV (T := TX7) (N := 5) (ci := 7) (index := 110) (n := 1) (d2 := 9) (mc := 0) (ms := 0) (As := [.ref q17]) (rest := []) C hw (ct_X7_readFrom hq) kvX11_110 hq.1 (by decide) rfl ⟨by decide, by decide⟩ ⟨by decide, by decide⟩ rfl hl.1 rfl (Nat.le_of_ble_eq_true rfl) dX11_answer_8 (fun r M20 H locs hp hle hw => ?_)
  obtain ⟨v19, rfl, hq⟩ := hp
  refine W.eq (g2 := F0 m 11 ls [.int v19]) rfl ?_
  refine lv_istore_n (lv' := [(2, .int v19), (0, .ref a0), (1, .int p1)]) hx hb dX11_answer_11 rfl hl (by decide) rfl (fun ls hl => ?_)
  refine lv_aload_n hx hb dX11_answer_12 rfl (lv_at hl 1 rfl) ?_
  obtain ⟨q21, e22, hq⟩ := hq
  refine gfX11_10 C hw hw.2.2.1 h0 e22 dX11_answer_13 ?_
  refine r_callV (T := TX10) (N := 6) (ci := 10) (index := 90) (n := 0) (d2 := 0) (mc := 0) (ms := 0) (As := []) (rest := []) C hw (ct_X10_wipe hq) kvX11_90 hq.1 (by decide) rfl ⟨by decide, by decide⟩ ⟨by decide, by decide⟩ rfl hl.1 rfl (Nat.le_of_ble_eq_true rfl) dX11_answer_16 (fun r M24 H locs hp hle hw => ?_)
  obtain ⟨rfl, hq⟩ := hp
  refine W.eq (g2 := F0 m 19 ls []) rfl ?_
  refine lv_aload_n hx hb dX11_answer_19 rfl (lv_at hl 1 rfl) ?_
  obtain ⟨q25, e26, hq⟩ := hq
  refine gfX11_65 C hw hw.2.2.1 h0 e26 dX11_answer_20 ?_
  refine lv_iconst (v := 0) hx hb dX11_answer_23 (by decide) ?_
  refine lv_iload_n hx hb dX11_answer_24 rfl (lv_at hl 2 rfl) ?_
  refine r_callV (T := TX6) (N := 9) (ci := 6) (index := 191) (n := 2) (d2 := 2) (mc := 0) (ms := 0) (As := [.int 0, .int p1]) (rest := []) C hw (ct_X6_mayCome hq) kvX11_191 hq.1 (by decide) rfl ⟨by decide, by decide⟩ ⟨by decide, by decide⟩ rfl hl.1 rfl (Nat.le_of_ble_eq_true rfl) dX11_answer_25 (fun r M28 H locs hp hle hw => ?_)
  obtain ⟨v27, rfl, hq⟩ := hp
  refine W.eq (g2 := F0 m 28 ls [.int v27]) rfl ?_
  refine lv_if_ne (tgt := 33) hx hb dX11_answer_28 (by decide) (fun c29 => ?_) (fun c29 => ?_)
  · replace hq := hq.2 c29
    refine lv_aload_n hx hb dX11_answer_33 rfl (lv_at hl 1 rfl) ?_
    refine lv_aload_n hx hb dX11_answer_34 rfl (lv_at hl 1 rfl) ?_
    obtain ⟨q30, e31, hq⟩ := hq
    refine gfX11_56 C hw hw.2.2.1 h0 e31 dX11_answer_35 ?_
    refine lv_aload_n hx hb dX11_answer_38 rfl (lv_at hl 1 rfl) ?_
    obtain ⟨q32, e33, hq⟩ := hq
    refine gfX11_65 C hw hw.2.2.1 h0 e33 dX11_answer_39 ?_
    obtain ⟨h34, hq⟩ := hq
    refine gfX11_195 C hw hw.2.2.1 h34 dX11_answer_42 ?_
    refine r_callV (T := TX8) (N := 15) (ci := 8) (index := 180) (n := 1) (d2 := 0) (mc := 0) (ms := 0) (As := [.int (mI M28 q32 5)]) (rest := [.ref a0]) C hw (ct_X8_numberAt hq) kvX11_180 hq.1 (by decide) rfl ⟨by decide, by decide⟩ ⟨by decide, by decide⟩ rfl hl.1 rfl (Nat.le_of_ble_eq_true rfl) dX11_answer_45 (fun r M36 H locs hp hle hw => ?_)
    obtain ⟨v35, rfl, hq⟩ := hp
    refine W.eq (g2 := F0 m 48 ls [.int v35, .ref a0]) rfl ?_
    refine r_callV (T := TX11) (N := 11) (ci := 11) (index := 113) (n := 1) (d2 := 0) (mc := 0) (ms := 0) (As := [.int v35]) (rest := []) C hw (ct_X11_questionAt hq) kvX11_113 hq.1 (by decide) rfl ⟨by decide, by decide⟩ ⟨by decide, by decide⟩ rfl hl.1 rfl (Nat.le_of_ble_eq_true rfl) dX11_answer_48 (fun r M38 H locs hp hle hw => ?_)
    obtain ⟨v37, rfl, hq⟩ := hp
    refine W.eq (g2 := F0 m 51 ls [va_rf v37]) rfl ?_
    refine r_astore_n (lv' := [(3, va_rf v37), (2, .int v19), (0, .ref a0), (1, .int p1)]) hx hb dX11_answer_51 rfl hl (by decide) (by first | rfl | simp [va_cat]) (fun ls hl => ?_)
    refine lv_iload_n hx hb dX11_answer_52 rfl (lv_at hl 1 rfl) ?_
    refine lv_if_eq (tgt := 78) hx hb dX11_answer_53 (by decide) (fun c39 => ?_) (fun c39 => ?_)
    · replace hq := hq.1 c39
      refine lv_iconst (v := 0) hx hb dX11_answer_78 (by decide) ?_
      exact lt_X11_answer_79  C hr hlk hn h0  hq hw (lv_sub hl [2, 3] rfl)
    · replace hq := hq.2 c39
      refine r_aload_n hx hb dX11_answer_56 rfl (lv_at hl 0 rfl) ?_
      rcases v37 with _ | q41
      · refine lv_ifnullN (tgt := 78) hx hb dX11_answer_57 (by decide) ?_
        have hl : lv_has ls 5 [(3, .null), (2, .int v19), (0, .ref a0), (1, .int p1)] := hl
        replace hq := hq.1 rfl
        refine lv_iconst (v := 0) hx hb dX11_answer_78 (by decide) ?_
        exact lt_X11_answer_79  C hr hlk hn h0  hq hw (lv_sub hl [2, 3] rfl)
      · refine lv_ifnull hx hb dX11_answer_57 ?_
        have hl : lv_has ls 5 [(3, .ref q41), (2, .int v19), (0, .ref a0), (1, .int p1)] := hl
        replace hq := hq.2 q41 rfl
        exact lt_X11_answer_60  C hr hlk hn h0  hq hw (lv_sub hl [2, 3, 0] rfl)
  · replace hq := hq.1 c29
    refine lv_iconst (v := (-1)) hx hb dX11_answer_31 (by decide) ?_
    exact r_iret C hr hlk hw dX11_answer_32 (Nat.le_refl _) (Nat.le_refl _) ⟨_, rfl, hq⟩

set_option maxRecDepth 100000 in
def wp_X11_nothing  (g : Gh) (M0 : Mem) (a0 : Nat) (p1 : Int32) (post : Int32 → Mem → Prop) : Prop :=
  okc (gB g) M0 a0 11 ∧ (∃ q1, mR M0 a0 9 = some q1 ∧ (wp_X6_mayCome g M0 q1 1 p1 (fun v3 M4 => ((v3 = 0) → post 0 M4) ∧ (¬ (v3 = 0) → ∃ q6, mR M4 a0 9 = some q6 ∧ (wp_X6_add g M4 q6 1 p1 0 (fun M9 => post 1 M9))))))
set_option maxHeartbeats 4000000 in
set_option maxRecDepth 100000 in
theorem ct_X11_nothing {l : Launch} {g : Gh} {M0 : Mem} {a0 : Nat} {p1 : Int32} {post : Int32 → Mem → Prop}  (hq : wp_X11_nothing  g M0 a0 p1 post) : Ct l g yX11_nothing cX11_nothing 2 (some .boolean) 5 0 0 [.ref a0, .int p1] M0 (pI post) := by
  unfold wp_X11_nothing at hq
  obtain ⟨h0, hq⟩ := hq
  refine Ct.of (by decide) (Nat.le_of_ble_eq_true rfl) ?_
  intro p e s m below meth c ls C hr hlk hn hl hw
  have hx := C.1.1
  have hb := C.1.2.1
  have hl : lv_has ls 2 [(0, .ref a0), (1, .int p1)] := hl
  refine lv_aload_n hx hb dX11_nothing_0 rfl (lv_at hl 0 rfl) ?_
  obtain ⟨q1, e2, hq⟩ := hq
  refine gfX11_65 C hw hw.2.2.1 h0 e2 dX11_nothing_1 ?_
  refine lv_iconst (v := 1) hx hb dX11_nothing_4 (by decide) ?_
  refine lv_iload_n hx hb dX11_nothing_5 rfl (lv_at hl 1 rfl) ?_
  refine r_callV (T := TX6) (N := 9) (ci := 6) (index := 191) (n := 2) (d2 := 2) (mc := 0) (ms := 0) (As := [.int 1, .int p1]) (rest := []) C hw (ct_X6_mayCome hq) kvX11_191 hq.1 (by decide) rfl ⟨by decide, by decide⟩ ⟨by decide, by decide⟩ rfl hl.1 rfl (Nat.le_of_ble_eq_true rfl) dX11_nothing_6 (fun r M4 H locs hp hle hw => ?_)
  obtain ⟨v3, rfl, hq⟩ := hp
  refine W.eq (g2 := F0 m 9 ls [.int v3]) rfl ?_
  refine lv_if_ne (tgt := 14) hx hb dX11_nothing_9 (by decide) (fun c5 => ?_) (fun c5 => ?_)
  · replace hq := hq.2 c5
    refine lv_aload_n hx hb dX11_nothing_14 rfl (lv_at hl 0 rfl) ?_
    obtain ⟨q6, e7, hq⟩ := hq
    refine gfX11_65 C hw hw.2.2.1 h0 e7 dX11_nothing_15 ?_
    refine lv_iconst (v := 1) hx hb dX11_nothing_18 (by decide) ?_
    refine lv_iload_n hx hb dX11_nothing_19 rfl (lv_at hl 1 rfl) ?_
    refine lv_iconst (v := 0) hx hb dX11_nothing_20 (by decide) ?_
    refine r_callV (T := TX6) (N := 9) (ci := 6) (index := 198) (n := 3) (d2 := 4) (mc := 0) (ms := 0) (As := [.int 1, .int p1, .int 0]) (rest := []) C hw (ct_X6_add hq) kvX11_198 hq.1 (by decide) rfl ⟨by decide, by decide⟩ ⟨by decide, by decide⟩ rfl hl.1 rfl (Nat.le_of_ble_eq_true rfl) dX11_nothing_21 (fun r M9 H locs hp hle hw => ?_)
    obtain ⟨rfl, hq⟩ := hp
    refine W.eq (g2 := F0 m 24 ls []) rfl ?_
    refine lv_iconst (v := 1) hx hb dX11_nothing_24 (by decide) ?_
    exact r_zret C hr hlk hw dX11_nothing_25 (Nat.le_refl _) (Nat.le_refl _) (by decide) ⟨_, rfl, hq⟩
  · replace hq := hq.1 c5
    refine lv_iconst (v := 0) hx hb dX11_nothing_12 (by decide) ?_
    exact r_zret C hr hlk hw dX11_nothing_13 (Nat.le_refl _) (Nat.le_refl _) (by decide) ⟨_, rfl, hq⟩

set_option maxRecDepth 100000 in
def wp_X11_dead  (g : Gh) (M0 : Mem) (a0 : Nat) (post : Int32 → Mem → Prop) : Prop :=
  okc (gB g) M0 a0 11 ∧ (∃ q1, mR M0 a0 9 = some q1 ∧ (wp_X6_mayCome g M0 q1 2 (-1) (fun v3 M4 => ((v3 = 0) → post 0 M4) ∧ (¬ (v3 = 0) → ∃ q6, mR M4 a0 9 = some q6 ∧ (wp_X6_add g M4 q6 2 (-1) 0 (fun M9 => post 1 M9))))))
set_option maxHeartbeats 4000000 in
set_option maxRecDepth 100000 in
theorem ct_X11_dead {l : Launch} {g : Gh} {M0 : Mem} {a0 : Nat} {post : Int32 → Mem → Prop}  (hq : wp_X11_dead  g M0 a0 post) : Ct l g yX11_dead cX11_dead 1 (some .boolean) 5 0 0 [.ref a0] M0 (pI post) := by
  unfold wp_X11_dead at hq
  obtain ⟨h0, hq⟩ := hq
  refine Ct.of (by decide) (Nat.le_of_ble_eq_true rfl) ?_
  intro p e s m below meth c ls C hr hlk hn hl hw
  have hx := C.1.1
  have hb := C.1.2.1
  have hl : lv_has ls 1 [(0, .ref a0)] := hl
  refine lv_aload_n hx hb dX11_dead_0 rfl (lv_at hl 0 rfl) ?_
  obtain ⟨q1, e2, hq⟩ := hq
  refine gfX11_65 C hw hw.2.2.1 h0 e2 dX11_dead_1 ?_
  refine lv_iconst (v := 2) hx hb dX11_dead_4 (by decide) ?_
  refine lv_iconst (v := (-1)) hx hb dX11_dead_5 (by decide) ?_
  refine r_callV (T := TX6) (N := 9) (ci := 6) (index := 191) (n := 2) (d2 := 2) (mc := 0) (ms := 0) (As := [.int 2, .int (-1)]) (rest := []) C hw (ct_X6_mayCome hq) kvX11_191 hq.1 (by decide) rfl ⟨by decide, by decide⟩ ⟨by decide, by decide⟩ rfl hl.1 rfl (Nat.le_of_ble_eq_true rfl) dX11_dead_6 (fun r M4 H locs hp hle hw => ?_)
  obtain ⟨v3, rfl, hq⟩ := hp
  refine W.eq (g2 := F0 m 9 ls [.int v3]) rfl ?_
  refine lv_if_ne (tgt := 14) hx hb dX11_dead_9 (by decide) (fun c5 => ?_) (fun c5 => ?_)
  · replace hq := hq.2 c5
    refine lv_aload_n hx hb dX11_dead_14 rfl (lv_at hl 0 rfl) ?_
    obtain ⟨q6, e7, hq⟩ := hq
    refine gfX11_65 C hw hw.2.2.1 h0 e7 dX11_dead_15 ?_
    refine lv_iconst (v := 2) hx hb dX11_dead_18 (by decide) ?_
    refine lv_iconst (v := (-1)) hx hb dX11_dead_19 (by decide) ?_
    refine lv_iconst (v := 0) hx hb dX11_dead_20 (by decide) ?_
    refine r_callV (T := TX6) (N := 9) (ci := 6) (index := 198) (n := 3) (d2 := 4) (mc := 0) (ms := 0) (As := [.int 2, .int (-1), .int 0]) (rest := []) C hw (ct_X6_add hq) kvX11_198 hq.1 (by decide) rfl ⟨by decide, by decide⟩ ⟨by decide, by decide⟩ rfl hl.1 rfl (Nat.le_of_ble_eq_true rfl) dX11_dead_21 (fun r M9 H locs hp hle hw => ?_)
    obtain ⟨rfl, hq⟩ := hp
    refine W.eq (g2 := F0 m 24 ls []) rfl ?_
    refine lv_iconst (v := 1) hx hb dX11_dead_24 (by decide) ?_
    exact r_zret C hr hlk hw dX11_dead_25 (Nat.le_refl _) (Nat.le_refl _) (by decide) ⟨_, rfl, hq⟩
  · replace hq := hq.1 c5
    refine lv_iconst (v := 0) hx hb dX11_dead_12 (by decide) ?_
    exact r_zret C hr hlk hw dX11_dead_13 (Nat.le_refl _) (Nat.le_refl _) (by decide) ⟨_, rfl, hq⟩

set_option maxRecDepth 100000 in
def wp_X11_appeal  (g : Gh) (M0 : Mem) (a0 : Nat) (p1 : Int32) (p2 : Int32) (post : Int32 → Mem → Prop) : Prop :=
  okc (gB g) M0 a0 11 ∧ (∃ q1, mR M0 a0 9 = some q1 ∧ (wp_X6_overrule g M0 q1 p1 p2 (fun v3 M4 => (v3 = 0 ∨ v3 = 1) ∧ (post v3 M4))))
set_option maxHeartbeats 4000000 in
set_option maxRecDepth 100000 in
theorem ct_X11_appeal {l : Launch} {g : Gh} {M0 : Mem} {a0 : Nat} {p1 : Int32} {p2 : Int32} {post : Int32 → Mem → Prop}  (hq : wp_X11_appeal  g M0 a0 p1 p2 post) : Ct l g yX11_appeal cX11_appeal 3 (some .boolean) 6 0 0 [.ref a0, .int p1, .int p2] M0 (pI post) := by
  unfold wp_X11_appeal at hq
  obtain ⟨h0, hq⟩ := hq
  refine Ct.of (by decide) (Nat.le_of_ble_eq_true rfl) ?_
  intro p e s m below meth c ls C hr hlk hn hl hw
  have hx := C.1.1
  have hb := C.1.2.1
  have hl : lv_has ls 3 [(0, .ref a0), (1, .int p1), (2, .int p2)] := hl
  refine lv_aload_n hx hb dX11_appeal_0 rfl (lv_at hl 0 rfl) ?_
  obtain ⟨q1, e2, hq⟩ := hq
  refine gfX11_65 C hw hw.2.2.1 h0 e2 dX11_appeal_1 ?_
  refine lv_iload_n hx hb dX11_appeal_4 rfl (lv_at hl 1 rfl) ?_
  refine lv_iload_n hx hb dX11_appeal_5 rfl (lv_at hl 2 rfl) ?_
  refine r_callV (T := TX6) (N := 9) (ci := 6) (index := 202) (n := 2) (d2 := 5) (mc := 0) (ms := 0) (As := [.int p1, .int p2]) (rest := []) C hw (ct_X6_overrule hq) kvX11_202 hq.1 (by decide) rfl ⟨by decide, by decide⟩ ⟨by decide, by decide⟩ rfl hl.1 rfl (Nat.le_of_ble_eq_true rfl) dX11_appeal_6 (fun r M4 H locs hp hle hw => ?_)
  obtain ⟨v3, rfl, hq⟩ := hp
  refine W.eq (g2 := F0 m 9 ls [.int v3]) rfl ?_
  obtain ⟨h5, hq⟩ := hq
  exact r_zret C hr hlk hw dX11_appeal_9 (Nat.le_refl _) (Nat.le_refl _) h5 ⟨_, rfl, hq⟩

set_option maxRecDepth 100000 in
def wp_X11_undo  (g : Gh) (M0 : Mem) (a0 : Nat) (post : Int32 → Mem → Prop) : Prop :=
  okc (gB g) M0 a0 11 ∧ (∃ q1, mR M0 a0 9 = some q1 ∧ (wp_X6_takeBack g M0 q1 (fun v3 M4 => (v3 = 0 ∨ v3 = 1) ∧ (post v3 M4))))
set_option maxHeartbeats 4000000 in
set_option maxRecDepth 100000 in
theorem ct_X11_undo {l : Launch} {g : Gh} {M0 : Mem} {a0 : Nat} {post : Int32 → Mem → Prop}  (hq : wp_X11_undo  g M0 a0 post) : Ct l g yX11_undo cX11_undo 1 (some .boolean) 6 0 0 [.ref a0] M0 (pI post) := by
  unfold wp_X11_undo at hq
  obtain ⟨h0, hq⟩ := hq
  refine Ct.of (by decide) (Nat.le_of_ble_eq_true rfl) ?_
  intro p e s m below meth c ls C hr hlk hn hl hw
  have hx := C.1.1
  have hb := C.1.2.1
  have hl : lv_has ls 1 [(0, .ref a0)] := hl
  refine lv_aload_n hx hb dX11_undo_0 rfl (lv_at hl 0 rfl) ?_
  obtain ⟨q1, e2, hq⟩ := hq
  refine gfX11_65 C hw hw.2.2.1 h0 e2 dX11_undo_1 ?_
  refine r_callV (T := TX6) (N := 9) (ci := 6) (index := 206) (n := 0) (d2 := 5) (mc := 0) (ms := 0) (As := []) (rest := []) C hw (ct_X6_takeBack hq) kvX11_206 hq.1 (by decide) rfl ⟨by decide, by decide⟩ ⟨by decide, by decide⟩ rfl hl.1 rfl (Nat.le_of_ble_eq_true rfl) dX11_undo_4 (fun r M4 H locs hp hle hw => ?_)
  obtain ⟨v3, rfl, hq⟩ := hp
  refine W.eq (g2 := F0 m 7 ls [.int v3]) rfl ?_
  obtain ⟨h5, hq⟩ := hq
  exact r_zret C hr hlk hw dX11_undo_7 (Nat.le_refl _) (Nat.le_refl _) h5 ⟨_, rfl, hq⟩

set_option maxRecDepth 100000 in
def wp_X11_now  (g : Gh) (M0 : Mem) (a0 : Nat) (p1 : Int32) (post : Int32 → Mem → Prop) : Prop :=
  okc (gB g) M0 a0 11 ∧ (∃ q1, mR M0 a0 9 = some q1 ∧ (okc (gB g) M0 q1 6 ∧ ((((mI M0 q1 0) = 0) → post (-1) M0) ∧ (¬ ((mI M0 q1 0) = 0) → wp_X6_tell g M0 q1 p1 (fun v5 M6 => post v5 M6)))))
set_option maxHeartbeats 4000000 in
set_option maxRecDepth 100000 in
theorem ct_X11_now {l : Launch} {g : Gh} {M0 : Mem} {a0 : Nat} {p1 : Int32} {post : Int32 → Mem → Prop}  (hq : wp_X11_now  g M0 a0 p1 post) : Ct l g yX11_now cX11_now 2 (some .int) 2 0 0 [.ref a0, .int p1] M0 (pI post) := by
  unfold wp_X11_now at hq
  obtain ⟨h0, hq⟩ := hq
  refine Ct.of (by decide) (Nat.le_of_ble_eq_true rfl) ?_
  intro p e s m below meth c ls C hr hlk hn hl hw
  have hx := C.1.1
  have hb := C.1.2.1
  have hl : lv_has ls 2 [(0, .ref a0), (1, .int p1)] := hl
  refine lv_aload_n hx hb dX11_now_0 rfl (lv_at hl 0 rfl) ?_
  obtain ⟨q1, e2, hq⟩ := hq
  refine gfX11_65 C hw hw.2.2.1 h0 e2 dX11_now_1 ?_
  obtain ⟨h3, hq⟩ := hq
  refine gfX11_125 C hw hw.2.2.1 h3 dX11_now_4 ?_
  refine lv_if_eq (tgt := 21) hx hb dX11_now_7 (by decide) (fun c4 => ?_) (fun c4 => ?_)
  · replace hq := hq.1 c4
    refine lv_iconst (v := (-1)) hx hb dX11_now_21 (by decide) ?_
    exact r_iret C hr hlk hw dX11_now_22 (Nat.le_refl _) (Nat.le_refl _) ⟨_, rfl, hq⟩
  · replace hq := hq.2 c4
    refine lv_aload_n hx hb dX11_now_10 rfl (lv_at hl 0 rfl) ?_
    refine gfX11_65 C hw hw.2.2.1 h0 e2 dX11_now_11 ?_
    refine lv_iload_n hx hb dX11_now_14 rfl (lv_at hl 1 rfl) ?_
    refine r_callV (T := TX6) (N := 9) (ci := 6) (index := 209) (n := 1) (d2 := 1) (mc := 0) (ms := 0) (As := [.int p1]) (rest := []) C hw (ct_X6_tell hq) kvX11_209 hq.1 (by decide) rfl ⟨by decide, by decide⟩ ⟨by decide, by decide⟩ rfl hl.1 rfl (Nat.le_of_ble_eq_true rfl) dX11_now_15 (fun r M6 H locs hp hle hw => ?_)
    obtain ⟨v5, rfl, hq⟩ := hp
    refine W.eq (g2 := F0 m 18 ls [.int v5]) rfl ?_
    refine lv_goto (tgt := 22) hx hb dX11_now_18 (by decide) ?_
    exact r_iret C hr hlk hw dX11_now_22 (Nat.le_refl _) (Nat.le_refl _) ⟨_, rfl, hq⟩
