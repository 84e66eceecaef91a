def wp_X6_start (g : Gh) (M0 : Mem) (a0 : Nat) (a1 : Nat) (post : Mem → Prop) : Prop :=
  okc (gB g) M0 a0 6 ∧ (∀ M1, M1 = uR M0 a0 1 (some a1) → (∀ M3, M3 = uI M1 a0 0 1 → (∀ M5, M5 = uI M3 a0 3 0 → (wp_X6_replay g M5 a0 (fun M8 => post M8)))))
set_option maxHeartbeats 4000000 in
set_option maxRecDepth 100000 in
theorem ct_X6_start {l : Launch} {g : Gh} {M0 : Mem} {a0 : Nat} {a1 : Nat} {post : Mem → Prop} (hq : wp_X6_start g M0 a0 a1 post) : Ct l g yX6_start cX6_start 2 none 5 0 0 [.ref a0, .ref a1] M0 (pV post) := by
  unfold wp_X6_start at hq
  obtain ⟨h0, hq⟩ := hq
  refine Ct.of (by decide) (Nat.le_of_ble_eq_true rfl) ?_
  intro p e s m below meth c ls C hr hlk hn hl hw
  have hx := C.1.1
  have hb := C.1.2.1
  have hl : lv_has ls 2 [(0, .ref a0), (1, .ref a1)] := hl
  refine lv_aload_n hx hb dX6_start_0 rfl (lv_at hl 0 rfl) ?_
  refine lv_aload_n hx hb dX6_start_1 rfl (lv_at hl 1 rfl) ?_
  refine pfX6_15 (v := (some a1)) C hw hw.2.2.1 h0 dX6_start_2 (fun H locs hw => ?_)
  generalize e2 : uR M0 a0 1 (some a1) = M1 at hw
  replace hq := hq M1 e2.symm
  refine lv_aload_n hx hb dX6_start_5 rfl (lv_at hl 0 rfl) ?_
  refine lv_iconst (v := 1) hx hb dX6_start_6 (by decide) ?_
  refine pfX6_9 C hw hw.2.2.1 h0 (by decide) dX6_start_7 (fun H locs hw => ?_)
  generalize e4 : uI M1 a0 0 1 = M3 at hw
  replace hq := hq M3 e4.symm
  refine lv_aload_n hx hb dX6_start_10 rfl (lv_at hl 0 rfl) ?_
  refine lv_iconst (v := 0) hx hb dX6_start_11 (by decide) ?_
  refine pfX6_30 C hw hw.2.2.1 h0 dX6_start_12 (fun H locs hw => ?_)
  generalize e6 : uI M3 a0 3 0 = M5 at hw
  replace hq := hq M5 e6.symm
  refine lv_aload_n hx hb dX6_start_15 rfl (lv_at hl 0 rfl) ?_
  refine r_callV (T := TX6) (N := 9) (ci := 6) (index := 34) (n := 0) (d2 := 4) (mc := 0) (ms := 0) (As := []) (rest := []) C hw (ct_X6_replay hq) kvX6_34 hq.1 (by decide) rfl ⟨by decide, by decide⟩ ⟨by decide, by decide⟩ rfl hl.1 rfl (Nat.le_of_ble_eq_true rfl) dX6_start_16 (fun r M8 H locs hp hle hw => ?_)
  obtain ⟨rfl, hq⟩ := hp
  refine W.eq (g2 := F0 m 19 ls []) rfl ?_
  exact r_vret C hr hlk hw dX6_start_19 (by decide) (by decide) ⟨rfl, hq⟩

def wp_X6_drop (g : Gh) (M0 : Mem) (a0 : Nat) (post : Mem → Prop) : Prop :=
  okc (gB g) M0 a0 6 ∧ (∀ M1, M1 = uI M0 a0 0 0 → (∀ M3, M3 = uI M1 a0 3 0 → (post M3)))
set_option maxHeartbeats 4000000 in
set_option maxRecDepth 100000 in
theorem ct_X6_drop {l : Launch} {g : Gh} {M0 : Mem} {a0 : Nat} {post : Mem → Prop} (hq : wp_X6_drop g M0 a0 post) : Ct l g yX6_drop cX6_drop 1 none 0 0 0 [.ref a0] M0 (pV post) := by
  unfold wp_X6_drop at hq
  obtain ⟨h0, hq⟩ := hq
  refine Ct.of (by decide) (Nat.le_of_ble_eq_true rfl) ?_
  intro p e s m below meth c ls C hr hlk hn hl hw
  have hx := C.1.1
  have hb := C.1.2.1
  have hl : lv_has ls 1 [(0, .ref a0)] := hl
  refine lv_aload_n hx hb dX6_drop_0 rfl (lv_at hl 0 rfl) ?_
  refine lv_iconst (v := 0) hx hb dX6_drop_1 (by decide) ?_
  refine pfX6_9 C hw hw.2.2.1 h0 (by decide) dX6_drop_2 (fun H locs hw => ?_)
  generalize e2 : uI M0 a0 0 0 = M1 at hw
  replace hq := hq M1 e2.symm
  refine lv_aload_n hx hb dX6_drop_5 rfl (lv_at hl 0 rfl) ?_
  refine lv_iconst (v := 0) hx hb dX6_drop_6 (by decide) ?_
  refine pfX6_30 C hw hw.2.2.1 h0 dX6_drop_7 (fun H locs hw => ?_)
  generalize e4 : uI M1 a0 3 0 = M3 at hw
  replace hq := hq M3 e4.symm
  exact r_vret C hr hlk hw dX6_drop_10 (by decide) (by decide) ⟨rfl, hq⟩

def lb_X6_mayCome_65 (g : Gh) (M0 : Mem) (a0 : Nat) (p1 : Int32) (p2 : Int32) (post : Int32 → Mem → Prop)    (M : Mem) : Prop :=
  wp_X6_isFor g M a0 p2 (fun v1 M2 => ((v1 = 0) → post 0 M2) ∧ (¬ (v1 = 0) → post 1 M2))
def lb_X6_mayCome_51 (g : Gh) (M0 : Mem) (a0 : Nat) (p1 : Int32) (p2 : Int32) (post : Int32 → Mem → Prop)   (s0 : Int32) (M : Mem) : Prop :=
  ((s0 = 0) → post 0 M) ∧ (¬ (s0 = 0) → ((p2 = 0) → lb_X6_mayCome_65 g M0 a0 p1 p2 post   M) ∧ (¬ (p2 = 0) → ((p2 = 1) → lb_X6_mayCome_65 g M0 a0 p1 p2 post   M) ∧ (¬ (p2 = 1) → post 0 M)))
def wp_X6_mayCome (g : Gh) (M0 : Mem) (a0 : Nat) (p1 : Int32) (p2 : Int32) (post : Int32 → Mem → Prop) : Prop :=
  okc (gB g) M0 a0 6 ∧ ((((mI M0 a0 0) = 0) → post 0 M0) ∧ (¬ ((mI M0 a0 0) = 0) → wp_X6_isOver g M0 a0 (fun v8 M9 => ((v8 = 0) → (((mI M9 a0 3) < 120) → ((p1 = 2) → wp_X6_isBuzz g M9 a0 (fun v17 M18 => (v17 = 0 ∨ v17 = 1) ∧ (post v17 M18))) ∧ (¬ (p1 = 2) → ((p1 = 0) → lb_X6_mayCome_51 g M0 a0 p1 p2 post  1 M9) ∧ (¬ (p1 = 0) → wp_X6_isBuzz g M9 a0 (fun v14 M15 => ((v14 = 0) → lb_X6_mayCome_51 g M0 a0 p1 p2 post  1 M15) ∧ (¬ (v14 = 0) → lb_X6_mayCome_51 g M0 a0 p1 p2 post  0 M15))))) ∧ (¬ ((mI M9 a0 3) < 120) → post 0 M9)) ∧ (¬ (v8 = 0) → post 0 M9))))
set_option maxHeartbeats 4000000 in
set_option maxRecDepth 100000 in
theorem lt_X6_mayCome_65 {l : Launch} {g : Gh} {p : Program} {e : Env} {s : State} {m : MethodId} {args : Array Value} {below : List Frame} {meth : Method} {c : Code} {H : Heap} {locs : List Loc} {ls : Array Slot} {M0 M : Mem} {a0 : Nat} {p1 : Int32} {p2 : Int32} {post : Int32 → Mem → Prop}   (C : Cx g p s m args c cX6_mayCome 4 RX6) (hr : meth.sig.returnType = (some .boolean)) (hlk : meth.locks = false) (hn : meth.name = "mayCome") (h0 : okc (gB g) M0 a0 6)  (hq : lb_X6_mayCome_65 g M0 a0 p1 p2 post   M) (hw : Wd g s M0 M H locs) (hl : lv_has ls 4 [(0, .ref a0), (1, .int p1), (2, .int p2)]) : W p l e (rmo 2 0 0) s m args below meth c H locs 0 0 (MQ below (Cq g M0 (pI post)) args s 0 0 (gA g)) (F0 m 65 ls []) := by
  have hx := C.1.1
  have hb := C.1.2.1
  unfold lb_X6_mayCome_65 at hq
  refine lv_aload_n hx hb dX6_mayCome_65 rfl (lv_at hl 0 rfl) ?_
  refine lv_iload_n hx hb dX6_mayCome_66 rfl (lv_at hl 2 rfl) ?_
  refine r_callV (T := TX6) (N := 9) (ci := 6) (index := 52) (n := 1) (d2 := 0) (mc := 0) (ms := 0) (As := [.int p2]) (rest := []) C hw (ct_X6_isFor hq) kvX6_52 hq.1 (by decide) rfl ⟨by decide, by decide⟩ ⟨by decide, by decide⟩ rfl hl.1 rfl (Nat.le_of_ble_eq_true rfl) dX6_mayCome_67 (fun r M2 H locs hp hle hw => ?_)
  obtain ⟨v1, rfl, hq⟩ := hp
  refine W.eq (g2 := F0 m 70 ls [.int v1]) rfl ?_
  refine lv_if_eq (tgt := 77) hx hb dX6_mayCome_70 (by decide) (fun c3 => ?_) (fun c3 => ?_)
  · replace hq := hq.1 c3
    refine lv_iconst (v := 0) hx hb dX6_mayCome_77 (by decide) ?_
    exact r_zret C hr hlk hw dX6_mayCome_78 (by decide) (by decide) (by decide) ⟨_, rfl, hq⟩
  · replace hq := hq.2 c3
    refine lv_iconst (v := 1) hx hb dX6_mayCome_73 (by decide) ?_
    refine lv_goto (tgt := 78) hx hb dX6_mayCome_74 (by decide) ?_
    exact r_zret C hr hlk hw dX6_mayCome_78 (by decide) (by decide) (by decide) ⟨_, rfl, hq⟩
set_option maxHeartbeats 4000000 in
set_option maxRecDepth 100000 in
theorem lt_X6_mayCome_51 {l : Launch} {g : Gh} {p : Program} {e : Env} {s : State} {m : MethodId} {args : Array Value} {below : List Frame} {meth : Method} {c : Code} {H : Heap} {locs : List Loc} {ls : Array Slot} {M0 M : Mem} {a0 : Nat} {p1 : Int32} {p2 : Int32} {post : Int32 → Mem → Prop}  {s0 : Int32} (C : Cx g p s m args c cX6_mayCome 4 RX6) (hr : meth.sig.returnType = (some .boolean)) (hlk : meth.locks = false) (hn : meth.name = "mayCome") (h0 : okc (gB g) M0 a0 6)  (hq : lb_X6_mayCome_51 g M0 a0 p1 p2 post  s0 M) (hw : Wd g s M0 M H locs) (hl : lv_has ls 4 [(0, .ref a0), (1, .int p1), (2, .int p2)]) : W p l e (rmo 2 0 0) s m args below meth c H locs 0 0 (MQ below (Cq g M0 (pI post)) args s 0 0 (gA g)) (F0 m 51 ls [.int s0]) := by
  have hx := C.1.1
  have hb := C.1.2.1
  unfold lb_X6_mayCome_51 at hq
  refine lv_istore_n (lv' := [(3, .int s0), (0, .ref a0), (1, .int p1), (2, .int p2)]) hx hb dX6_mayCome_51 rfl hl (by decide) rfl (fun ls hl => ?_)
  refine lv_iload_n hx hb dX6_mayCome_52 rfl (lv_at hl 0 rfl) ?_
  refine lv_if_eq (tgt := 77) hx hb dX6_mayCome_53 (by decide) (fun c4 => ?_) (fun c4 => ?_)
  · replace hq := hq.1 c4
    refine lv_iconst (v := 0) hx hb dX6_mayCome_77 (by decide) ?_
    exact r_zret C hr hlk hw dX6_mayCome_78 (by decide) (by decide) (by decide) ⟨_, rfl, hq⟩
  · replace hq := hq.2 c4
    refine lv_iload_n hx hb dX6_mayCome_56 rfl (lv_at hl 3 rfl) ?_
    refine lv_if_eq (tgt := 65) hx hb dX6_mayCome_57 (by decide) (fun c5 => ?_) (fun c5 => ?_)
    · replace hq := hq.1 c5
      exact lt_X6_mayCome_65 C hr hlk hn h0  hq hw (lv_sub hl [1, 2, 3] rfl)
    · replace hq := hq.2 c5
      refine lv_iload_n hx hb dX6_mayCome_60 rfl (lv_at hl 3 rfl) ?_
      refine lv_iconst (v := 1) hx hb dX6_mayCome_61 (by decide) ?_
      refine lv_icmp_ne (tgt := 77) hx hb dX6_mayCome_62 (by decide) (fun c6 => ?_) (fun c6 => ?_)
      · replace hq := hq.2 c6
        refine lv_iconst (v := 0) hx hb dX6_mayCome_77 (by decide) ?_
        exact r_zret C hr hlk hw dX6_mayCome_78 (by decide) (by decide) (by decide) ⟨_, rfl, hq⟩
      · replace hq := hq.1 c6
        exact lt_X6_mayCome_65 C hr hlk hn h0  hq hw (lv_sub hl [1, 2, 3] rfl)
set_option maxHeartbeats 4000000 in
set_option maxRecDepth 100000 in
theorem ct_X6_mayCome {l : Launch} {g : Gh} {M0 : Mem} {a0 : Nat} {p1 : Int32} {p2 : Int32} {post : Int32 → Mem → Prop} (hq : wp_X6_mayCome g M0 a0 p1 p2 post) : Ct l g yX6_mayCome cX6_mayCome 4 (some .boolean) 2 0 0 [.ref a0, .int p1, .int p2] M0 (pI post) := by
  unfold wp_X6_mayCome at hq
  obtain ⟨h0, hq⟩ := hq
  refine Ct.of (by decide) (Nat.le_of_ble_eq_true rfl) ?_
  intro p e s m below meth c ls C hr hlk hn hl hw
  have hx := C.1.1
  have hb := C.1.2.1
  have hl : lv_has ls 4 [(0, .ref a0), (1, .int p1), (2, .int p2)] := hl
  refine lv_aload_n hx hb dX6_mayCome_0 rfl (lv_at hl 0 rfl) ?_
  refine gfX6_9 C hw hw.2.2.1 h0 dX6_mayCome_1 ?_
  refine lv_if_eq (tgt := 23) hx hb dX6_mayCome_4 (by decide) (fun c7 => ?_) (fun c7 => ?_)
  · replace hq := hq.1 c7
    refine lv_iconst (v := 0) hx hb dX6_mayCome_23 (by decide) ?_
    exact r_zret C hr hlk hw dX6_mayCome_24 (by decide) (by decide) (by decide) ⟨_, rfl, hq⟩
  · replace hq := hq.2 c7
    refine lv_aload_n hx hb dX6_mayCome_7 rfl (lv_at hl 0 rfl) ?_
    refine r_callV (T := TX6) (N := 9) (ci := 6) (index := 45) (n := 0) (d2 := 0) (mc := 0) (ms := 0) (As := []) (rest := []) C hw (ct_X6_isOver hq) kvX6_45 hq.1 (by decide) rfl ⟨by decide, by decide⟩ ⟨by decide, by decide⟩ rfl hl.1 rfl (Nat.le_of_ble_eq_true rfl) dX6_mayCome_8 (fun r M9 H locs hp hle hw => ?_)
    obtain ⟨v8, rfl, hq⟩ := hp
    refine W.eq (g2 := F0 m 11 ls [.int v8]) rfl ?_
    refine lv_if_ne (tgt := 23) hx hb dX6_mayCome_11 (by decide) (fun c10 => ?_) (fun c10 => ?_)
    · replace hq := hq.2 c10
      refine lv_iconst (v := 0) hx hb dX6_mayCome_23 (by decide) ?_
      exact r_zret C hr hlk hw dX6_mayCome_24 (by decide) (by decide) (by decide) ⟨_, rfl, hq⟩
    · replace hq := hq.1 c10
      refine lv_aload_n hx hb dX6_mayCome_14 rfl (lv_at hl 0 rfl) ?_
      refine gfX6_30 C hw hw.2.2.1 h0 dX6_mayCome_15 ?_
      refine lv_bipush (v := 120) hx hb dX6_mayCome_18 (by decide) ?_
      refine lv_icmp_lt (tgt := 25) hx hb dX6_mayCome_20 (by decide) (fun c11 => ?_) (fun c11 => ?_)
      · replace hq := hq.1 c11
        refine lv_iload_n hx hb dX6_mayCome_25 rfl (lv_at hl 1 rfl) ?_
        refine lv_iconst (v := 2) hx hb dX6_mayCome_26 (by decide) ?_
        refine lv_icmp_ne (tgt := 35) hx hb dX6_mayCome_27 (by decide) (fun c12 => ?_) (fun c12 => ?_)
        · replace hq := hq.2 c12
          refine lv_iload_n hx hb dX6_mayCome_35 rfl (lv_at hl 1 rfl) ?_
          refine lv_if_eq (tgt := 46) hx hb dX6_mayCome_36 (by decide) (fun c13 => ?_) (fun c13 => ?_)
          · replace hq := hq.1 c13
            refine lv_iconst (v := 1) hx hb dX6_mayCome_46 (by decide) ?_
            refine lv_goto (tgt := 51) hx hb dX6_mayCome_47 (by decide) ?_
            exact lt_X6_mayCome_51 C hr hlk hn h0  hq hw (lv_sub hl [0, 1, 2] rfl)
          · replace hq := hq.2 c13
            refine lv_aload_n hx hb dX6_mayCome_39 rfl (lv_at hl 0 rfl) ?_
            refine r_callV (T := TX6) (N := 9) (ci := 6) (index := 49) (n := 0) (d2 := 1) (mc := 0) (ms := 0) (As := []) (rest := []) C hw (ct_X6_isBuzz hq) kvX6_49 hq.1 (by decide) rfl ⟨by decide, by decide⟩ ⟨by decide, by decide⟩ rfl hl.1 rfl (Nat.le_of_ble_eq_true rfl) dX6_mayCome_40 (fun r M15 H locs hp hle hw => ?_)
            obtain ⟨v14, rfl, hq⟩ := hp
            refine W.eq (g2 := F0 m 43 ls [.int v14]) rfl ?_
            refine lv_if_ne (tgt := 50) hx hb dX6_mayCome_43 (by decide) (fun c16 => ?_) (fun c16 => ?_)
            · replace hq := hq.2 c16
              refine lv_iconst (v := 0) hx hb dX6_mayCome_50 (by decide) ?_
              exact lt_X6_mayCome_51 C hr hlk hn h0  hq hw (lv_sub hl [0, 1, 2] rfl)
            · replace hq := hq.1 c16
              refine lv_iconst (v := 1) hx hb dX6_mayCome_46 (by decide) ?_
              refine lv_goto (tgt := 51) hx hb dX6_mayCome_47 (by decide) ?_
              exact lt_X6_mayCome_51 C hr hlk hn h0  hq hw (lv_sub hl [0, 1, 2] rfl)
        · replace hq := hq.1 c12
          refine lv_aload_n hx hb dX6_mayCome_30 rfl (lv_at hl 0 rfl) ?_
          refine r_callV (T := TX6) (N := 9) (ci := 6) (index := 49) (n := 0) (d2 := 1) (mc := 0) (ms := 0) (As := []) (rest := []) C hw (ct_X6_isBuzz hq) kvX6_49 hq.1 (by decide) rfl ⟨by decide, by decide⟩ ⟨by decide, by decide⟩ rfl hl.1 rfl (Nat.le_of_ble_eq_true rfl) dX6_mayCome_31 (fun r M18 H locs hp hle hw => ?_)
          obtain ⟨v17, rfl, hq⟩ := hp
          refine W.eq (g2 := F0 m 34 ls [.int v17]) rfl ?_
          obtain ⟨h19, hq⟩ := hq
          exact r_zret C hr hlk hw dX6_mayCome_34 (by decide) (by decide) h19 ⟨_, rfl, hq⟩
      · replace hq := hq.2 c11
        refine lv_iconst (v := 0) hx hb dX6_mayCome_23 (by decide) ?_
        exact r_zret C hr hlk hw dX6_mayCome_24 (by decide) (by decide) (by decide) ⟨_, rfl, hq⟩

def wp_X6_add (g : Gh) (M0 : Mem) (a0 : Nat) (p1 : Int32) (p2 : Int32) (p3 : Int32) (post : Mem → Prop) : Prop :=
  okc (gB g) M0 a0 6 ∧ ((((mI M0 a0 3) < 120) → ∃ q2, mR M0 a0 2 = some q2 ∧ (okc (gB g) M0 q2 18 ∧ (vp_in (mI M0 a0 3) (mN M0 q2) ∧ (∃ q6, mR M0 q2 (Int32.toNatClampNeg (mI M0 a0 3)) = some q6 ∧ (okc (gB g) M0 q6 0 ∧ (∀ M9, M9 = uI M0 q6 0 (mI M0 a0 5) → (∀ M11, M11 = uI M9 q6 1 p1 → (∀ M13, M13 = uI M11 q6 2 p2 → ((p3 = 0 ∨ p3 = 1) ∧ (∀ M16, M16 = uI M13 q6 3 p3 → (∀ M18, M18 = uI M16 a0 3 ((mI M16 a0 3) + 1) → (wp_X6_apply g M18 a0 q6 (fun M21 => post M21))))))))))))) ∧ (¬ ((mI M0 a0 3) < 120) → post M0))
set_option maxHeartbeats 4000000 in
set_option maxRecDepth 100000 in
theorem ct_X6_add {l : Launch} {g : Gh} {M0 : Mem} {a0 : Nat} {p1 : Int32} {p2 : Int32} {p3 : Int32} {post : Mem → Prop} (hq : wp_X6_add g M0 a0 p1 p2 p3 post) : Ct l g yX6_add cX6_add 5 none 4 0 0 [.ref a0, .int p1, .int p2, .int p3] M0 (pV post) := by
  unfold wp_X6_add at hq
  obtain ⟨h0, hq⟩ := hq
  refine Ct.of (by decide) (Nat.le_of_ble_eq_true rfl) ?_
  intro p e s m below meth c ls C hr hlk hn hl hw
  have hx := C.1.1
  have hb := C.1.2.1
  have hl : lv_has ls 5 [(0, .ref a0), (1, .int p1), (2, .int p2), (3, .int p3)] := hl
  refine lv_aload_n hx hb dX6_add_0 rfl (lv_at hl 0 rfl) ?_
  refine gfX6_30 C hw hw.2.2.1 h0 dX6_add_1 ?_
  refine lv_bipush (v := 120) hx hb dX6_add_4 (by decide) ?_
  refine lv_icmp_lt (tgt := 10) hx hb dX6_add_6 (by decide) (fun c1 => ?_) (fun c1 => ?_)
  · replace hq := hq.1 c1
    refine lv_aload_n hx hb dX6_add_10 rfl (lv_at hl 0 rfl) ?_
    obtain ⟨q2, e3, hq⟩ := hq
    refine gfX6_21 C hw hw.2.2.1 h0 e3 dX6_add_11 ?_
    refine lv_aload_n hx hb dX6_add_14 rfl (lv_at hl 0 rfl) ?_
    refine gfX6_30 C hw hw.2.2.1 h0 dX6_add_15 ?_
    obtain ⟨h4, hq⟩ := hq
    obtain ⟨h5, hq⟩ := hq
    obtain ⟨q6, e7, hq⟩ := hq
    refine q_aald C hw hw.2.2.1 h4 (by decide) (by decide) rfl h5 e7 dX6_add_18 ?_
    refine lv_astore (lv' := [(4, .ref q6), (0, .ref a0), (1, .int p1), (2, .int p2), (3, .int p3)]) hx hb dX6_add_19 hl (by decide) rfl (fun ls hl => ?_)
    refine lv_aload hx hb dX6_add_21 (lv_at hl 0 rfl) ?_
    refine lv_aload_n hx hb dX6_add_23 rfl (lv_at hl 1 rfl) ?_
    refine gfX6_37 C hw hw.2.2.1 h0 dX6_add_24 ?_
    obtain ⟨h8, hq⟩ := hq
    refine pfX6_56 C hw hw.2.2.1 h8 dX6_add_27 (fun H locs hw => ?_)
    generalize e10 : uI M0 q6 0 (mI M0 a0 5) = M9 at hw
    replace hq := hq M9 e10.symm
    have e3 : mR M9 a0 2 = some q2 := by rw [← e10, mR_uI]; exact e3
    have e7 : mR M9 q2 (Int32.toNatClampNeg (mI M0 a0 3)) = some q6 := by rw [← e10, mR_uI]; exact e7
    refine lv_aload hx hb dX6_add_30 (lv_at hl 0 rfl) ?_
    refine lv_iload_n hx hb dX6_add_32 rfl (lv_at hl 2 rfl) ?_
    refine pfX6_59 C hw hw.2.2.1 h8 dX6_add_33 (fun H locs hw => ?_)
    generalize e12 : uI M9 q6 1 p1 = M11 at hw
    replace hq := hq M11 e12.symm
    have e3 : mR M11 a0 2 = some q2 := by rw [← e12, mR_uI]; exact e3
    have e7 : mR M11 q2 (Int32.toNatClampNeg (mI M0 a0 3)) = some q6 := by rw [← e12, mR_uI]; exact e7
    refine lv_aload hx hb dX6_add_36 (lv_at hl 0 rfl) ?_
    refine lv_iload_n hx hb dX6_add_38 rfl (lv_at hl 3 rfl) ?_
    refine pfX6_62 C hw hw.2.2.1 h8 dX6_add_39 (fun H locs hw => ?_)
    generalize e14 : uI M11 q6 2 p2 = M13 at hw
    replace hq := hq M13 e14.symm
    have e3 : mR M13 a0 2 = some q2 := by rw [← e14, mR_uI]; exact e3
    have e7 : mR M13 q2 (Int32.toNatClampNeg (mI M0 a0 3)) = some q6 := by rw [← e14, mR_uI]; exact e7
    refine lv_aload hx hb dX6_add_42 (lv_at hl 0 rfl) ?_
    refine lv_iload_n hx hb dX6_add_44 rfl (lv_at hl 4 rfl) ?_
    obtain ⟨h15, hq⟩ := hq
    refine pfX6_65 C hw hw.2.2.1 h8 h15 dX6_add_45 (fun H locs hw => ?_)
    generalize e17 : uI M13 q6 3 p3 = M16 at hw
    replace hq := hq M16 e17.symm
    have e3 : mR M16 a0 2 = some q2 := by rw [← e17, mR_uI]; exact e3
    have e7 : mR M16 q2 (Int32.toNatClampNeg (mI M0 a0 3)) = some q6 := by rw [← e17, mR_uI]; exact e7
    refine lv_aload_n hx hb dX6_add_48 rfl (lv_at hl 1 rfl) ?_
    refine lv_dup hx hb dX6_add_49 rfl ?_
    refine gfX6_30 C hw hw.2.2.1 h0 dX6_add_50 ?_
    refine lv_iconst (v := 1) hx hb dX6_add_53 (by decide) ?_
    refine lv_iadd hx hb dX6_add_54 ?_
    refine pfX6_30 C hw hw.2.2.1 h0 dX6_add_55 (fun H locs hw => ?_)
    generalize e19 : uI M16 a0 3 ((mI M16 a0 3) + 1) = M18 at hw
    replace hq := hq M18 e19.symm
    have e3 : mR M18 a0 2 = some q2 := by rw [← e19, mR_uI]; exact e3
    have e7 : mR M18 q2 (Int32.toNatClampNeg (mI M0 a0 3)) = some q6 := by rw [← e19, mR_uI]; exact e7
    refine lv_aload_n hx hb dX6_add_58 rfl (lv_at hl 1 rfl) ?_
    refine lv_aload hx hb dX6_add_59 (lv_at hl 0 rfl) ?_
    refine r_callV (T := TX6) (N := 9) (ci := 6) (index := 68) (n := 1) (d2 := 3) (mc := 0) (ms := 0) (As := [.ref q6]) (rest := []) C hw (ct_X6_apply hq) kvX6_68 hq.1 (by decide) rfl ⟨by decide, by decide⟩ ⟨by decide, by decide⟩ rfl hl.1 rfl (Nat.le_of_ble_eq_true rfl) dX6_add_61 (fun r M21 H locs hp hle hw => ?_)
    obtain ⟨rfl, hq⟩ := hp
    refine W.eq (g2 := F0 m 64 ls []) rfl ?_
    exact r_vret C hr hlk hw dX6_add_64 (by decide) (by decide) ⟨rfl, hq⟩
  · replace hq := hq.2 c1
    exact r_vret C hr hlk hw dX6_add_9 (by decide) (by decide) ⟨rfl, hq⟩

def wp_X6_eventAt (g : Gh) (M0 : Mem) (a0 : Nat) (p1 : Int32) (post : Option Nat → Mem → Prop) : Prop :=
  okc (gB g) M0 a0 6 ∧ (((p1 < 0) → post none M0) ∧ (¬ (p1 < 0) → (((mI M0 a0 3) ≤ p1) → post none M0) ∧ (¬ ((mI M0 a0 3) ≤ p1) → ((120 ≤ p1) → post none M0) ∧ (¬ (120 ≤ p1) → ∃ q4, mR M0 a0 2 = some q4 ∧ (okc (gB g) M0 q4 18 ∧ (vp_in p1 (mN M0 q4) ∧ (∃ q8, mR M0 q4 (Int32.toNatClampNeg p1) = some q8 ∧ (post (some q8) M0))))))))
set_option maxHeartbeats 4000000 in
set_option maxRecDepth 100000 in
theorem ct_X6_eventAt {l : Launch} {g : Gh} {M0 : Mem} {a0 : Nat} {p1 : Int32} {post : Option Nat → Mem → Prop} (hq : wp_X6_eventAt g M0 a0 p1 post) : Ct l g yX6_eventAt cX6_eventAt 2 (some (.object "QuizLeague$Event")) 0 0 0 [.ref a0, .int p1] M0 (pR post) := by
  unfold wp_X6_eventAt at hq
  obtain ⟨h0, hq⟩ := hq
  refine Ct.of (by decide) (Nat.le_of_ble_eq_true rfl) ?_
  intro p e s m below meth c ls C hr hlk hn hl hw
  have hx := C.1.1
  have hb := C.1.2.1
  have hl : lv_has ls 2 [(0, .ref a0), (1, .int p1)] := hl
  refine lv_iload_n hx hb dX6_eventAt_0 rfl (lv_at hl 1 rfl) ?_
  refine lv_if_lt (tgt := 27) hx hb dX6_eventAt_1 (by decide) (fun c1 => ?_) (fun c1 => ?_)
  · replace hq := hq.1 c1
    refine lv_null hx hb dX6_eventAt_27 ?_
    exact r_aret (v := none) C hr (Or.inl ⟨_, rfl⟩) hlk hw dX6_eventAt_28 (by decide) (by decide) ⟨_, rfl, hq⟩
  · replace hq := hq.2 c1
    refine lv_iload_n hx hb dX6_eventAt_4 rfl (lv_at hl 1 rfl) ?_
    refine lv_aload_n hx hb dX6_eventAt_5 rfl (lv_at hl 0 rfl) ?_
    refine gfX6_30 C hw hw.2.2.1 h0 dX6_eventAt_6 ?_
    refine lv_icmp_ge (tgt := 27) hx hb dX6_eventAt_9 (by decide) (fun c2 => ?_) (fun c2 => ?_)
    · replace hq := hq.1 c2
      refine lv_null hx hb dX6_eventAt_27 ?_
      exact r_aret (v := none) C hr (Or.inl ⟨_, rfl⟩) hlk hw dX6_eventAt_28 (by decide) (by decide) ⟨_, rfl, hq⟩
    · replace hq := hq.2 c2
      refine lv_iload_n hx hb dX6_eventAt_12 rfl (lv_at hl 1 rfl) ?_
      refine lv_bipush (v := 120) hx hb dX6_eventAt_13 (by decide) ?_
      refine lv_icmp_ge (tgt := 27) hx hb dX6_eventAt_15 (by decide) (fun c3 => ?_) (fun c3 => ?_)
      · replace hq := hq.1 c3
        refine lv_null hx hb dX6_eventAt_27 ?_
        exact r_aret (v := none) C hr (Or.inl ⟨_, rfl⟩) hlk hw dX6_eventAt_28 (by decide) (by decide) ⟨_, rfl, hq⟩
      · replace hq := hq.2 c3
        refine lv_aload_n hx hb dX6_eventAt_18 rfl (lv_at hl 0 rfl) ?_
        obtain ⟨q4, e5, hq⟩ := hq
        refine gfX6_21 C hw hw.2.2.1 h0 e5 dX6_eventAt_19 ?_
        refine lv_iload_n hx hb dX6_eventAt_22 rfl (lv_at hl 1 rfl) ?_
        obtain ⟨h6, hq⟩ := hq
        obtain ⟨h7, hq⟩ := hq
        obtain ⟨q8, e9, hq⟩ := hq
        refine q_aald C hw hw.2.2.1 h6 (by decide) (by decide) rfl h7 e9 dX6_eventAt_23 ?_
        refine lv_goto (tgt := 28) hx hb dX6_eventAt_24 (by decide) ?_
        exact r_aret (v := (some q8)) C hr (Or.inl ⟨_, rfl⟩) hlk hw dX6_eventAt_28 (by decide) (by decide) ⟨_, rfl, hq⟩

def wp_X6_overrule (g : Gh) (M0 : Mem) (a0 : Nat) (p1 : Int32) (p2 : Int32) (post : Int32 → Mem → Prop) : Prop :=
  okc (gB g) M0 a0 6 ∧ (wp_X6_eventAt g M0 a0 p1 (fun v1 M2 => (v1 = none → post 0 M2) ∧ (∀ q4, v1 = some q4 → okc (gB g) M0 q4 0 ∧ ((((mI M2 q4 1) = 0) → (((mI M2 q4 3) = p2) → post 0 M2) ∧ (¬ ((mI M2 q4 3) = p2) → (p2 = 0 ∨ p2 = 1) ∧ (∀ M9, M9 = uI M2 q4 3 p2 → (wp_X6_replay g M9 a0 (fun M12 => post 1 M12))))) ∧ (¬ ((mI M2 q4 1) = 0) → post 0 M2)))))
set_option maxHeartbeats 4000000 in
set_option maxRecDepth 100000 in
theorem ct_X6_overrule {l : Launch} {g : Gh} {M0 : Mem} {a0 : Nat} {p1 : Int32} {p2 : Int32} {post : Int32 → Mem → Prop} (hq : wp_X6_overrule g M0 a0 p1 p2 post) : Ct l g yX6_overrule cX6_overrule 4 (some .boolean) 5 0 0 [.ref a0, .int p1, .int p2] M0 (pI post) := by
  unfold wp_X6_overrule at hq
  obtain ⟨h0, hq⟩ := hq
  refine Ct.of (by decide) (Nat.le_of_ble_eq_true rfl) ?_
  intro p e s m below meth c ls C hr hlk hn hl hw
  have hx := C.1.1
  have hb := C.1.2.1
  have hl : lv_has ls 4 [(0, .ref a0), (1, .int p1), (2, .int p2)] := hl
  refine lv_aload_n hx hb dX6_overrule_0 rfl (lv_at hl 0 rfl) ?_
  refine lv_iload_n hx hb dX6_overrule_1 rfl (lv_at hl 1 rfl) ?_
  refine r_callV (T := TX6) (N := 9) (ci := 6) (index := 72) (n := 1) (d2 := 0) (mc := 0) (ms := 0) (As := [.int p1]) (rest := []) C hw (ct_X6_eventAt hq) kvX6_72 hq.1 (by decide) rfl ⟨by decide, by decide⟩ ⟨by decide, by decide⟩ rfl hl.1 rfl (Nat.le_of_ble_eq_true rfl) dX6_overrule_2 (fun r M2 H locs hp hle hw => ?_)
  obtain ⟨v1, rfl, hq⟩ := hp
  refine W.eq (g2 := F0 m 5 ls [va_rf v1]) rfl ?_
  refine r_astore_n (lv' := [(3, va_rf v1), (0, .ref a0), (1, .int p1), (2, .int p2)]) hx hb dX6_overrule_5 rfl hl (by decide) (by first | rfl | simp [va_cat]) (fun ls hl => ?_)
  refine r_aload_n hx hb dX6_overrule_6 rfl (lv_at hl 0 rfl) ?_
  rcases v1 with _ | q4
  · refine lv_ifnullN (tgt := 25) hx hb dX6_overrule_7 (by decide) ?_
    have hl : lv_has ls 4 [(3, .null), (0, .ref a0), (1, .int p1), (2, .int p2)] := hl
    replace hq := hq.1 rfl
    refine lv_iconst (v := 0) hx hb dX6_overrule_25 (by decide) ?_
    exact r_zret C hr hlk hw dX6_overrule_26 (by decide) (by decide) (by decide) ⟨_, rfl, hq⟩
  · refine lv_ifnull hx hb dX6_overrule_7 ?_
    have hl : lv_has ls 4 [(3, .ref q4), (0, .ref a0), (1, .int p1), (2, .int p2)] := hl
    replace hq := hq.2 q4 rfl
    refine lv_aload_n hx hb dX6_overrule_10 rfl (lv_at hl 0 rfl) ?_
    obtain ⟨h5, hq⟩ := hq
    refine gfX6_59 C hw hw.2.2.1 h5 dX6_overrule_11 ?_
    refine lv_if_ne (tgt := 25) hx hb dX6_overrule_14 (by decide) (fun c6 => ?_) (fun c6 => ?_)
    · replace hq := hq.2 c6
      refine lv_iconst (v := 0) hx hb dX6_overrule_25 (by decide) ?_
      exact r_zret C hr hlk hw dX6_overrule_26 (by decide) (by decide) (by decide) ⟨_, rfl, hq⟩
    · replace hq := hq.1 c6
      refine lv_aload_n hx hb dX6_overrule_17 rfl (lv_at hl 0 rfl) ?_
      refine gfX6_65 C hw hw.2.2.1 h5 dX6_overrule_18 ?_
      refine lv_iload_n hx hb dX6_overrule_21 rfl (lv_at hl 3 rfl) ?_
      refine lv_icmp_ne (tgt := 27) hx hb dX6_overrule_22 (by decide) (fun c7 => ?_) (fun c7 => ?_)
      · replace hq := hq.2 c7
        refine lv_aload_n hx hb dX6_overrule_27 rfl (lv_at hl 0 rfl) ?_
        refine lv_iload_n hx hb dX6_overrule_28 rfl (lv_at hl 3 rfl) ?_
        obtain ⟨h8, hq⟩ := hq
        refine pfX6_65 C hw hw.2.2.1 h5 h8 dX6_overrule_29 (fun H locs hw => ?_)
        generalize e10 : uI M2 q4 3 p2 = M9 at hw
        replace hq := hq M9 e10.symm
        refine lv_aload_n hx hb dX6_overrule_32 rfl (lv_at hl 1 rfl) ?_
        refine r_callV (T := TX6) (N := 9) (ci := 6) (index := 34) (n := 0) (d2 := 4) (mc := 0) (ms := 0) (As := []) (rest := []) C hw (ct_X6_replay hq) kvX6_34 hq.1 (by decide) rfl ⟨by decide, by decide⟩ ⟨by decide, by decide⟩ rfl hl.1 rfl (Nat.le_of_ble_eq_true rfl) dX6_overrule_33 (fun r M12 H locs hp hle hw => ?_)
        obtain ⟨rfl, hq⟩ := hp
        refine W.eq (g2 := F0 m 36 ls []) rfl ?_
        refine lv_iconst (v := 1) hx hb dX6_overrule_36 (by decide) ?_
        exact r_zret C hr hlk hw dX6_overrule_37 (by decide) (by decide) (by decide) ⟨_, rfl, hq⟩
      · replace hq := hq.1 c7
        refine lv_iconst (v := 0) hx hb dX6_overrule_25 (by decide) ?_
        exact r_zret C hr hlk hw dX6_overrule_26 (by decide) (by decide) (by decide) ⟨_, rfl, hq⟩

def wp_X6_takeBack (g : Gh) (M0 : Mem) (a0 : Nat) (post : Int32 → Mem → Prop) : Prop :=
  okc (gB g) M0 a0 6 ∧ (((1 ≤ (mI M0 a0 3)) → ∀ M2, M2 = uI M0 a0 3 ((mI M0 a0 3) - 1) → (wp_X6_replay g M2 a0 (fun M5 => post 1 M5))) ∧ (¬ (1 ≤ (mI M0 a0 3)) → post 0 M0))
set_option maxHeartbeats 4000000 in
set_option maxRecDepth 100000 in
theorem ct_X6_takeBack {l : Launch} {g : Gh} {M0 : Mem} {a0 : Nat} {post : Int32 → Mem → Prop} (hq : wp_X6_takeBack g M0 a0 post) : Ct l g yX6_takeBack cX6_takeBack 1 (some .boolean) 5 0 0 [.ref a0] M0 (pI post) := by
  unfold wp_X6_takeBack at hq
  obtain ⟨h0, hq⟩ := hq
  refine Ct.of (by decide) (Nat.le_of_ble_eq_true rfl) ?_
  intro p e s m below meth c ls C hr hlk hn hl hw
  have hx := C.1.1
  have hb := C.1.2.1
  have hl : lv_has ls 1 [(0, .ref a0)] := hl
  refine lv_aload_n hx hb dX6_takeBack_0 rfl (lv_at hl 0 rfl) ?_
  refine gfX6_30 C hw hw.2.2.1 h0 dX6_takeBack_1 ?_
  refine lv_iconst (v := 1) hx hb dX6_takeBack_4 (by decide) ?_
  refine lv_icmp_ge (tgt := 10) hx hb dX6_takeBack_5 (by decide) (fun c1 => ?_) (fun c1 => ?_)
  · replace hq := hq.1 c1
    refine lv_aload_n hx hb dX6_takeBack_10 rfl (lv_at hl 0 rfl) ?_
    refine lv_dup hx hb dX6_takeBack_11 rfl ?_
    refine gfX6_30 C hw hw.2.2.1 h0 dX6_takeBack_12 ?_
    refine lv_iconst (v := 1) hx hb dX6_takeBack_15 (by decide) ?_
    refine lv_isub hx hb dX6_takeBack_16 ?_
    refine pfX6_30 C hw hw.2.2.1 h0 dX6_takeBack_17 (fun H locs hw => ?_)
    generalize e3 : uI M0 a0 3 ((mI M0 a0 3) - 1) = M2 at hw
    replace hq := hq M2 e3.symm
    refine lv_aload_n hx hb dX6_takeBack_20 rfl (lv_at hl 0 rfl) ?_
    refine r_callV (T := TX6) (N := 9) (ci := 6) (index := 34) (n := 0) (d2 := 4) (mc := 0) (ms := 0) (As := []) (rest := []) C hw (ct_X6_replay hq) kvX6_34 hq.1 (by decide) rfl ⟨by decide, by decide⟩ ⟨by decide, by decide⟩ rfl hl.1 rfl (Nat.le_of_ble_eq_true rfl) dX6_takeBack_21 (fun r M5 H locs hp hle hw => ?_)
    obtain ⟨rfl, hq⟩ := hp
    refine W.eq (g2 := F0 m 24 ls []) rfl ?_
    refine lv_iconst (v := 1) hx hb dX6_takeBack_24 (by decide) ?_
    exact r_zret C hr hlk hw dX6_takeBack_25 (by decide) (by decide) (by decide) ⟨_, rfl, hq⟩
  · replace hq := hq.2 c1
    refine lv_iconst (v := 0) hx hb dX6_takeBack_8 (by decide) ?_
    exact r_zret C hr hlk hw dX6_takeBack_9 (by decide) (by decide) (by decide) ⟨_, rfl, hq⟩

def wp_X6_pointsOf (g : Gh) (M0 : Mem) (a0 : Nat) (p1 : Int32) (post : Int32 → Mem → Prop) : Prop :=
  okc (gB g) M0 a0 6 ∧ (((p1 = 0) → ∃ q2, mR M0 a0 8 = some q2 ∧ (okc (gB g) M0 q2 14 ∧ (vp_in p1 (mN M0 q2) ∧ (post (mI M0 q2 (Int32.toNatClampNeg p1)) M0)))) ∧ (¬ (p1 = 0) → ((p1 = 1) → ∃ q7, mR M0 a0 8 = some q7 ∧ (okc (gB g) M0 q7 14 ∧ (vp_in p1 (mN M0 q7) ∧ (post (mI M0 q7 (Int32.toNatClampNeg p1)) M0)))) ∧ (¬ (p1 = 1) → post 0 M0)))
set_option maxHeartbeats 4000000 in
set_option maxRecDepth 100000 in
theorem ct_X6_pointsOf {l : Launch} {g : Gh} {M0 : Mem} {a0 : Nat} {p1 : Int32} {post : Int32 → Mem → Prop} (hq : wp_X6_pointsOf g M0 a0 p1 post) : Ct l g yX6_pointsOf cX6_pointsOf 2 (some .int) 0 0 0 [.ref a0, .int p1] M0 (pI post) := by
  unfold wp_X6_pointsOf at hq
  obtain ⟨h0, hq⟩ := hq
  refine Ct.of (by decide) (Nat.le_of_ble_eq_true rfl) ?_
  intro p e s m below meth c ls C hr hlk hn hl hw
  have hx := C.1.1
  have hb := C.1.2.1
  have hl : lv_has ls 2 [(0, .ref a0), (1, .int p1)] := hl
  refine lv_iload_n hx hb dX6_pointsOf_0 rfl (lv_at hl 1 rfl) ?_
  refine lv_if_eq (tgt := 9) hx hb dX6_pointsOf_1 (by decide) (fun c1 => ?_) (fun c1 => ?_)
  · replace hq := hq.1 c1
    refine lv_aload_n hx hb dX6_pointsOf_9 rfl (lv_at hl 0 rfl) ?_
    obtain ⟨q2, e3, hq⟩ := hq
    refine gfX6_26 C hw hw.2.2.1 h0 e3 dX6_pointsOf_10 ?_
    refine lv_iload_n hx hb dX6_pointsOf_13 rfl (lv_at hl 1 rfl) ?_
    obtain ⟨h4, hq⟩ := hq
    obtain ⟨h5, hq⟩ := hq
    refine q_iald C hw hw.2.2.1 h4 h5 dX6_pointsOf_14 ?_
    refine lv_goto (tgt := 19) hx hb dX6_pointsOf_15 (by decide) ?_
    exact r_iret C hr hlk hw dX6_pointsOf_19 (by decide) (by decide) ⟨_, rfl, hq⟩
  · replace hq := hq.2 c1
    refine lv_iload_n hx hb dX6_pointsOf_4 rfl (lv_at hl 1 rfl) ?_
    refine lv_iconst (v := 1) hx hb dX6_pointsOf_5 (by decide) ?_
    refine lv_icmp_ne (tgt := 18) hx hb dX6_pointsOf_6 (by decide) (fun c6 => ?_) (fun c6 => ?_)
    · replace hq := hq.2 c6
      refine lv_iconst (v := 0) hx hb dX6_pointsOf_18 (by decide) ?_
      exact r_iret C hr hlk hw dX6_pointsOf_19 (by decide) (by decide) ⟨_, rfl, hq⟩
    · replace hq := hq.1 c6
      refine lv_aload_n hx hb dX6_pointsOf_9 rfl (lv_at hl 0 rfl) ?_
      obtain ⟨q7, e8, hq⟩ := hq
      refine gfX6_26 C hw hw.2.2.1 h0 e8 dX6_pointsOf_10 ?_
      refine lv_iload_n hx hb dX6_pointsOf_13 rfl (lv_at hl 1 rfl) ?_
      obtain ⟨h9, hq⟩ := hq
      obtain ⟨h10, hq⟩ := hq
      refine q_iald C hw hw.2.2.1 h9 h10 dX6_pointsOf_14 ?_
      refine lv_goto (tgt := 19) hx hb dX6_pointsOf_15 (by decide) ?_
      exact r_iret C hr hlk hw dX6_pointsOf_19 (by decide) (by decide) ⟨_, rfl, hq⟩

def bd_X6_isKnown_2 (g : Gh) (M0 : Mem) (a0 : Nat) (p1 : Int32) (post : Int32 → Mem → Prop)  (bk2 : Int32 × Mem → Prop) (x2 : Int32)  (M : Mem) : Prop :=
  (((mI M a0 3) ≤ x2) → post 0 M) ∧ (¬ ((mI M a0 3) ≤ x2) → ((120 ≤ x2) → post 0 M) ∧ (¬ (120 ≤ x2) → ∃ q3, mR M a0 2 = some q3 ∧ (okc (gB g) M0 q3 18 ∧ (vp_in x2 (mN M0 q3) ∧ (∃ q7, mR M q3 (Int32.toNatClampNeg x2) = some q7 ∧ (okc (gB g) M0 q7 0 ∧ ((((mI M q7 0) = p1) → (((mI M q7 3) = 0) → bk2 ((x2 + 1), M)) ∧ (¬ ((mI M q7 3) = 0) → (((mI M q7 4) = 0) → post 1 M) ∧ (¬ ((mI M q7 4) = 0) → bk2 ((x2 + 1), M)))) ∧ (¬ ((mI M q7 0) = p1) → bk2 ((x2 + 1), M)))))))))
def wp_X6_isKnown (g : Gh) (M0 : Mem) (a0 : Nat) (p1 : Int32) (post : Int32 → Mem → Prop) : Prop :=
  okc (gB g) M0 a0 6 ∧ ((∃ n : Nat, lfp (fun bk z => bd_X6_isKnown_2 g M0 a0 p1 post  bk z.1 z.2) n (0, M0)))
set_option maxHeartbeats 4000000 in
set_option maxRecDepth 100000 in
theorem lp_X6_isKnown_2 {l : Launch} {g : Gh} {p : Program} {e : Env} {s : State} {m : MethodId} {args : Array Value} {below : List Frame} {meth : Method} {c : Code} {M0 : Mem} {a0 : Nat} {p1 : Int32} {post : Int32 → Mem → Prop} (C : Cx g p s m args c cX6_isKnown 3 RX6) (hr : meth.sig.returnType = (some .boolean)) (hlk : meth.locks = false) (hn : meth.name = "isKnown") (h0 : okc (gB g) M0 a0 6)  : ∀ (nf : Nat) (x2 : Int32)  (M : Mem) (H : Heap) (locs : List Loc) (ls : Array Slot), lfp (fun bk z => bd_X6_isKnown_2 g M0 a0 p1 post  bk z.1 z.2) nf (x2, M) → Wd g s M0 M H locs → lv_has ls 3 [(0, .ref a0), (1, .int p1), (2, .int x2)] → W p l e (rmo 0 0 0) s m args below meth c H locs 0 0 (MQ below (Cq g M0 (pI post)) args s 0 0 (gA g)) (F0 m 2 ls []) := by
  have hx := C.1.1
  have hb := C.1.2.1
  intro nf
  induction nf with
  | zero => intro _ _ H locs ls hq; exact hq.elim
  | succ nf hk2 =>
    intro x2 M H locs ls hq hw hl
    replace hq : bd_X6_isKnown_2 g M0 a0 p1 post  (lfp (fun bk z => bd_X6_isKnown_2 g M0 a0 p1 post  bk z.1 z.2) nf) x2 M := hq
    unfold bd_X6_isKnown_2 at hq
    refine lv_iload_n hx hb dX6_isKnown_2 rfl (lv_at hl 2 rfl) ?_
    refine lv_aload_n hx hb dX6_isKnown_3 rfl (lv_at hl 0 rfl) ?_
    refine gfX6_30 C hw hw.2.2.1 h0 dX6_isKnown_4 ?_
    refine lv_icmp_ge (tgt := 61) hx hb dX6_isKnown_7 (by decide) (fun c1 => ?_) (fun c1 => ?_)
    · replace hq := hq.1 c1
      refine lv_iconst (v := 0) hx hb dX6_isKnown_61 (by decide) ?_
      exact r_zret C hr hlk hw dX6_isKnown_62 (by decide) (by decide) (by decide) ⟨_, rfl, hq⟩
    · replace hq := hq.2 c1
      refine lv_iload_n hx hb dX6_isKnown_10 rfl (lv_at hl 2 rfl) ?_
      refine lv_bipush (v := 120) hx hb dX6_isKnown_11 (by decide) ?_
      refine lv_icmp_ge (tgt := 61) hx hb dX6_isKnown_13 (by decide) (fun c2 => ?_) (fun c2 => ?_)
      · replace hq := hq.1 c2
        refine lv_iconst (v := 0) hx hb dX6_isKnown_61 (by decide) ?_
        exact r_zret C hr hlk hw dX6_isKnown_62 (by decide) (by decide) (by decide) ⟨_, rfl, hq⟩
      · replace hq := hq.2 c2
        refine lv_aload_n hx hb dX6_isKnown_16 rfl (lv_at hl 0 rfl) ?_
        obtain ⟨q3, e4, hq⟩ := hq
        refine gfX6_21 C hw hw.2.2.1 h0 e4 dX6_isKnown_17 ?_
        refine lv_iload_n hx hb dX6_isKnown_20 rfl (lv_at hl 2 rfl) ?_
        obtain ⟨h5, hq⟩ := hq
        obtain ⟨h6, hq⟩ := hq
        obtain ⟨q7, e8, hq⟩ := hq
        refine q_aald C hw hw.2.2.1 h5 (by decide) (by decide) rfl h6 e8 dX6_isKnown_21 ?_
        obtain ⟨h9, hq⟩ := hq
        refine gfX6_56 C hw hw.2.2.1 h9 dX6_isKnown_22 ?_
        refine lv_iload_n hx hb dX6_isKnown_25 rfl (lv_at hl 1 rfl) ?_
        refine lv_icmp_ne (tgt := 55) hx hb dX6_isKnown_26 (by decide) (fun c10 => ?_) (fun c10 => ?_)
        · replace hq := hq.2 c10
          refine lv_iinc (v := (x2 + 1)) (lv' := [(2, .int (x2 + 1)), (0, .ref a0), (1, .int p1)]) hx hb dX6_isKnown_55 hl (k := 2) rfl rfl (by decide) rfl (fun ls hl => ?_)
          refine lv_goto (tgt := 2) hx hb dX6_isKnown_58 (by decide) ?_
          exact hk2 _ _ _ _ _ hq hw (lv_sub hl [1, 2, 0] rfl)
        · replace hq := hq.1 c10
          refine lv_aload_n hx hb dX6_isKnown_29 rfl (lv_at hl 0 rfl) ?_
          refine gfX6_21 C hw hw.2.2.1 h0 e4 dX6_isKnown_30 ?_
          refine lv_iload_n hx hb dX6_isKnown_33 rfl (lv_at hl 2 rfl) ?_
          refine q_aald C hw hw.2.2.1 h5 (by decide) (by decide) rfl h6 e8 dX6_isKnown_34 ?_
          refine gfX6_65 C hw hw.2.2.1 h9 dX6_isKnown_35 ?_
          refine lv_if_eq (tgt := 55) hx hb dX6_isKnown_38 (by decide) (fun c11 => ?_) (fun c11 => ?_)
          · replace hq := hq.1 c11
            refine lv_iinc (v := (x2 + 1)) (lv' := [(2, .int (x2 + 1)), (0, .ref a0), (1, .int p1)]) hx hb dX6_isKnown_55 hl (k := 2) rfl rfl (by decide) rfl (fun ls hl => ?_)
            refine lv_goto (tgt := 2) hx hb dX6_isKnown_58 (by decide) ?_
            exact hk2 _ _ _ _ _ hq hw (lv_sub hl [1, 2, 0] rfl)
          · replace hq := hq.2 c11
            refine lv_aload_n hx hb dX6_isKnown_41 rfl (lv_at hl 0 rfl) ?_
            refine gfX6_21 C hw hw.2.2.1 h0 e4 dX6_isKnown_42 ?_
            refine lv_iload_n hx hb dX6_isKnown_45 rfl (lv_at hl 2 rfl) ?_
            refine q_aald C hw hw.2.2.1 h5 (by decide) (by decide) rfl h6 e8 dX6_isKnown_46 ?_
            refine gfX6_76 C hw hw.2.2.1 h9 dX6_isKnown_47 ?_
            refine lv_if_ne (tgt := 55) hx hb dX6_isKnown_50 (by decide) (fun c12 => ?_) (fun c12 => ?_)
            · replace hq := hq.2 c12
              refine lv_iinc (v := (x2 + 1)) (lv' := [(2, .int (x2 + 1)), (0, .ref a0), (1, .int p1)]) hx hb dX6_isKnown_55 hl (k := 2) rfl rfl (by decide) rfl (fun ls hl => ?_)
              refine lv_goto (tgt := 2) hx hb dX6_isKnown_58 (by decide) ?_
              exact hk2 _ _ _ _ _ hq hw (lv_sub hl [1, 2, 0] rfl)
            · replace hq := hq.1 c12
              refine lv_iconst (v := 1) hx hb dX6_isKnown_53 (by decide) ?_
              exact r_zret C hr hlk hw dX6_isKnown_54 (by decide) (by decide) (by decide) ⟨_, rfl, hq⟩
set_option maxHeartbeats 4000000 in
set_option maxRecDepth 100000 in
theorem ct_X6_isKnown {l : Launch} {g : Gh} {M0 : Mem} {a0 : Nat} {p1 : Int32} {post : Int32 → Mem → Prop} (hq : wp_X6_isKnown g M0 a0 p1 post) : Ct l g yX6_isKnown cX6_isKnown 3 (some .boolean) 0 0 0 [.ref a0, .int p1] M0 (pI post) := by
  unfold wp_X6_isKnown at hq
  obtain ⟨h0, hq⟩ := hq
  refine Ct.of (by decide) (Nat.le_of_ble_eq_true rfl) ?_
  intro p e s m below meth c ls C hr hlk hn hl hw
  have hx := C.1.1
  have hb := C.1.2.1
  have hl : lv_has ls 3 [(0, .ref a0), (1, .int p1)] := hl
  refine lv_iconst (v := 0) hx hb dX6_isKnown_0 (by decide) ?_
  refine lv_istore_n (lv' := [(2, .int 0), (0, .ref a0), (1, .int p1)]) hx hb dX6_isKnown_1 rfl hl (by decide) rfl (fun ls hl => ?_)
  obtain ⟨nf, hq⟩ := hq
  exact lp_X6_isKnown_2 C hr hlk hn h0  nf _ _ _ _ _ hq hw (lv_sub hl [1, 2, 0] rfl)

def wp_X6_tell (g : Gh) (M0 : Mem) (a0 : Nat) (p1 : Int32) (post : Int32 → Mem → Prop) : Prop :=
  okc (gB g) M0 a0 6 ∧ (((p1 = 0) → post (mI M0 a0 5) M0) ∧ ((p1 = 1) → post (mI M0 a0 6) M0) ∧ ((p1 = 2) → wp_X6_pointsOf g M0 a0 0 (fun v2 M3 => post v2 M3)) ∧ ((p1 = 3) → wp_X6_pointsOf g M0 a0 1 (fun v4 M5 => post v4 M5)) ∧ ((p1 = 4) → post (mI M0 a0 3) M0) ∧ ((p1 = 5) → post (mI M0 a0 4) M0) ∧ ((¬ (p1 = 0) ∧ ¬ (p1 = 1) ∧ ¬ (p1 = 2) ∧ ¬ (p1 = 3) ∧ ¬ (p1 = 4) ∧ ¬ (p1 = 5)) → post (-1) M0))
set_option maxHeartbeats 4000000 in
set_option maxRecDepth 100000 in
theorem ct_X6_tell {l : Launch} {g : Gh} {M0 : Mem} {a0 : Nat} {p1 : Int32} {post : Int32 → Mem → Prop} (hq : wp_X6_tell g M0 a0 p1 post) : Ct l g yX6_tell cX6_tell 2 (some .int) 1 0 0 [.ref a0, .int p1] M0 (pI post) := by
  unfold wp_X6_tell at hq
  obtain ⟨h0, hq⟩ := hq
  refine Ct.of (by decide) (Nat.le_of_ble_eq_true rfl) ?_
  intro p e s m below meth c ls C hr hlk hn hl hw
  have hx := C.1.1
  have hb := C.1.2.1
  have hl : lv_has ls 2 [(0, .ref a0), (1, .int p1)] := hl
  refine lv_iload_n hx hb dX6_tell_0 rfl (lv_at hl 1 rfl) ?_
  by_cases c6 : p1 = 0
  · refine r_table (v := 0) (off := 39) (tgt := 40) hx hb dX6_tell_1 c6 (by decide) (by decide) rfl (by decide) ?_
    replace hq := hq.1 c6
    refine lv_aload_n hx hb dX6_tell_40 rfl (lv_at hl 0 rfl) ?_
    refine gfX6_37 C hw hw.2.2.1 h0 dX6_tell_41 ?_
    exact r_iret C hr hlk hw dX6_tell_44 (by decide) (by decide) ⟨_, rfl, hq⟩
  by_cases c7 : p1 = 1
  · refine r_table (v := 1) (off := 44) (tgt := 45) hx hb dX6_tell_1 c7 (by decide) (by decide) rfl (by decide) ?_
    replace hq := hq.2.1 c7
    refine lv_aload_n hx hb dX6_tell_45 rfl (lv_at hl 0 rfl) ?_
    refine gfX6_79 C hw hw.2.2.1 h0 dX6_tell_46 ?_
    exact r_iret C hr hlk hw dX6_tell_49 (by decide) (by decide) ⟨_, rfl, hq⟩
  by_cases c8 : p1 = 2
  · refine r_table (v := 2) (off := 49) (tgt := 50) hx hb dX6_tell_1 c8 (by decide) (by decide) rfl (by decide) ?_
    replace hq := hq.2.2.1 c8
    refine lv_aload_n hx hb dX6_tell_50 rfl (lv_at hl 0 rfl) ?_
    refine lv_iconst (v := 0) hx hb dX6_tell_51 (by decide) ?_
    refine r_callV (T := TX6) (N := 9) (ci := 6) (index := 82) (n := 1) (d2 := 0) (mc := 0) (ms := 0) (As := [.int 0]) (rest := []) C hw (ct_X6_pointsOf hq) kvX6_82 hq.1 (by decide) rfl ⟨by decide, by decide⟩ ⟨by decide, by decide⟩ rfl hl.1 rfl (Nat.le_of_ble_eq_true rfl) dX6_tell_52 (fun r M3 H locs hp hle hw => ?_)
    obtain ⟨v2, rfl, hq⟩ := hp
    refine W.eq (g2 := F0 m 55 ls [.int v2]) rfl ?_
    exact r_iret C hr hlk hw dX6_tell_55 (by decide) (by decide) ⟨_, rfl, hq⟩
  by_cases c9 : p1 = 3
  · refine r_table (v := 3) (off := 55) (tgt := 56) hx hb dX6_tell_1 c9 (by decide) (by decide) rfl (by decide) ?_
    replace hq := hq.2.2.2.1 c9
    refine lv_aload_n hx hb dX6_tell_56 rfl (lv_at hl 0 rfl) ?_
    refine lv_iconst (v := 1) hx hb dX6_tell_57 (by decide) ?_
    refine r_callV (T := TX6) (N := 9) (ci := 6) (index := 82) (n := 1) (d2 := 0) (mc := 0) (ms := 0) (As := [.int 1]) (rest := []) C hw (ct_X6_pointsOf hq) kvX6_82 hq.1 (by decide) rfl ⟨by decide, by decide⟩ ⟨by decide, by decide⟩ rfl hl.1 rfl (Nat.le_of_ble_eq_true rfl) dX6_tell_58 (fun r M5 H locs hp hle hw => ?_)
    obtain ⟨v4, rfl, hq⟩ := hp
    refine W.eq (g2 := F0 m 61 ls [.int v4]) rfl ?_
    exact r_iret C hr hlk hw dX6_tell_61 (by decide) (by decide) ⟨_, rfl, hq⟩
  by_cases c10 : p1 = 4
  · refine r_table (v := 4) (off := 61) (tgt := 62) hx hb dX6_tell_1 c10 (by decide) (by decide) rfl (by decide) ?_
    replace hq := hq.2.2.2.2.1 c10
    refine lv_aload_n hx hb dX6_tell_62 rfl (lv_at hl 0 rfl) ?_
    refine gfX6_30 C hw hw.2.2.1 h0 dX6_tell_63 ?_
    exact r_iret C hr hlk hw dX6_tell_66 (by decide) (by decide) ⟨_, rfl, hq⟩
  by_cases c11 : p1 = 5
  · refine r_table (v := 5) (off := 66) (tgt := 67) hx hb dX6_tell_1 c11 (by decide) (by decide) rfl (by decide) ?_
    replace hq := hq.2.2.2.2.2.1 c11
    refine lv_aload_n hx hb dX6_tell_67 rfl (lv_at hl 0 rfl) ?_
    refine gfX6_86 C hw hw.2.2.1 h0 dX6_tell_68 ?_
    exact r_iret C hr hlk hw dX6_tell_71 (by decide) (by decide) ⟨_, rfl, hq⟩
  refine r_tableOut (tgt := 72) (k := 5) hx hb dX6_tell_1 (by decide) (fun j hj => by rcases (show j = 0 ∨ j = 1 ∨ j = 2 ∨ j = 3 ∨ j = 4 ∨ j = 5 by omega) with rfl | rfl | rfl | rfl | rfl | rfl <;> assumption) (by decide) ?_
  replace hq := hq.2.2.2.2.2.2 ⟨c6, c7, c8, c9, c10, c11⟩
  refine lv_iconst (v := (-1)) hx hb dX6_tell_72 (by decide) ?_
  exact r_iret C hr hlk hw dX6_tell_73 (by decide) (by decide) ⟨_, rfl, hq⟩

def wp_X7_openFrame (g : Gh) (M0 : Mem) (a0 : Nat) (post : Mem → Prop) : Prop :=
  okc (gB g) M0 a0 7 ∧ (∃ q1, mR M0 a0 2 = some q1 ∧ (okc (gB g) M0 q1 19 ∧ ((((nI (mN M0 q1)) ≤ ((mI M0 a0 3) + 1)) → post M0) ∧ (¬ ((nI (mN M0 q1)) ≤ ((mI M0 a0 3) + 1)) → ∀ M5, M5 = uI M0 a0 3 ((mI M0 a0 3) + 1) → (vp_in (mI M5 a0 3) (mN M0 q1) ∧ (∃ q8, mR M5 q1 (Int32.toNatClampNeg (mI M5 a0 3)) = some q8 ∧ (wp_X3_restart g M5 q8 (fun M11 => post M11))))))))
set_option maxHeartbeats 4000000 in
set_option maxRecDepth 100000 in
theorem ct_X7_openFrame {l : Launch} {g : Gh} {M0 : Mem} {a0 : Nat} {post : Mem → Prop} (hq : wp_X7_openFrame g M0 a0 post) : Ct l g yX7_openFrame cX7_openFrame 1 none 2 0 0 [.ref a0] M0 (pV post) := by
  unfold wp_X7_openFrame at hq
  obtain ⟨h0, hq⟩ := hq
  refine Ct.of (by decide) (Nat.le_of_ble_eq_true rfl) ?_
  intro p e s m below meth c ls C hr hlk hn hl hw
  have hx := C.1.1
  have hb := C.1.2.1
  have hl : lv_has ls 1 [(0, .ref a0)] := hl
  refine lv_aload_n hx hb dX7_openFrame_0 rfl (lv_at hl 0 rfl) ?_
  refine gfX7_26 C hw hw.2.2.1 h0 dX7_openFrame_1 ?_
  refine lv_iconst (v := 1) hx hb dX7_openFrame_4 (by decide) ?_
  refine lv_iadd hx hb dX7_openFrame_5 ?_
  refine lv_aload_n hx hb dX7_openFrame_6 rfl (lv_at hl 0 rfl) ?_
  obtain ⟨q1, e2, hq⟩ := hq
  refine gfX7_21 C hw hw.2.2.1 h0 e2 dX7_openFrame_7 ?_
  obtain ⟨h3, hq⟩ := hq
  refine q_alen C hw hw.2.2.1 h3 (by decide) (by decide) rfl dX7_openFrame_10 ?_
  refine lv_icmp_ge (tgt := 36) hx hb dX7_openFrame_11 (by decide) (fun c4 => ?_) (fun c4 => ?_)
  · replace hq := hq.1 c4
    exact r_vret C hr hlk hw dX7_openFrame_36 (by decide) (by decide) ⟨rfl, hq⟩
  · replace hq := hq.2 c4
    refine lv_aload_n hx hb dX7_openFrame_14 rfl (lv_at hl 0 rfl) ?_
    refine lv_dup hx hb dX7_openFrame_15 rfl ?_
    refine gfX7_26 C hw hw.2.2.1 h0 dX7_openFrame_16 ?_
    refine lv_iconst (v := 1) hx hb dX7_openFrame_19 (by decide) ?_
    refine lv_iadd hx hb dX7_openFrame_20 ?_
    refine pfX7_26 C hw hw.2.2.1 h0 dX7_openFrame_21 (fun H locs hw => ?_)
    generalize e6 : uI M0 a0 3 ((mI M0 a0 3) + 1) = M5 at hw
    replace hq := hq M5 e6.symm
    have e2 : mR M5 a0 2 = some q1 := by rw [← e6, mR_uI]; exact e2
    refine lv_aload_n hx hb dX7_openFrame_24 rfl (lv_at hl 0 rfl) ?_
    refine gfX7_21 C hw hw.2.2.1 h0 e2 dX7_openFrame_25 ?_
    refine lv_aload_n hx hb dX7_openFrame_28 rfl (lv_at hl 0 rfl) ?_
    refine gfX7_26 C hw hw.2.2.1 h0 dX7_openFrame_29 ?_
    obtain ⟨h7, hq⟩ := hq
    obtain ⟨q8, e9, hq⟩ := hq
    refine q_aald C hw hw.2.2.1 h3 (by decide) (by decide) rfl h7 e9 dX7_openFrame_32 ?_
    refine r_callV (T := TX3) (N := 5) (ci := 3) (index := 51) (n := 0) (d2 := 1) (mc := 0) (ms := 0) (As := []) (rest := []) C hw (ct_X3_restart hq) kvX7_51 hq.1 (by decide) rfl ⟨by decide, by decide⟩ ⟨by decide, by decide⟩ rfl hl.1 rfl (Nat.le_of_ble_eq_true rfl) dX7_openFrame_33 (fun r M11 H locs hp hle hw => ?_)
    obtain ⟨rfl, hq⟩ := hp
    refine W.eq (g2 := F0 m 36 ls []) rfl ?_
    exact r_vret C hr hlk hw dX7_openFrame_36 (by decide) (by decide) ⟨rfl, hq⟩

def wp_X7_endsOf (g : Gh) (M0 : Mem) (a0 : Nat) (a1 : Nat) (p2 : Int32) (p3 : Int32) (post : Int32 → Mem → Prop) : Prop :=
  okc (gB g) M0 a0 7 ∧ ((((mI M0 a0 1) < p3) → post 0 M0) ∧ (¬ ((mI M0 a0 1) < p3) → okc (gB g) M0 a1 3 ∧ (∃ q3, mR M0 a1 1 = some q3 ∧ (okc (gB g) M0 q3 14 ∧ (((p3 < (nI (mN M0 q3))) → ((p2 = 125) → wp_X3_endsInAnyOrder g M0 a1 p3 (fun v11 M12 => post v11 M12)) ∧ (¬ (p2 = 125) → ((p2 = 93) → vp_in p3 (mN M0 q3) ∧ (post ((mI M0 q3 (Int32.toNatClampNeg p3)) ||| (1 <<< (p3 &&& 31))) M0)) ∧ (¬ (p2 = 93) → vp_in p3 (mN M0 q3) ∧ (post (mI M0 q3 (Int32.toNatClampNeg p3)) M0)))) ∧ (¬ (p3 < (nI (mN M0 q3))) → post 0 M0))))))
set_option maxHeartbeats 4000000 in
set_option maxRecDepth 100000 in
theorem ct_X7_endsOf {l : Launch} {g : Gh} {M0 : Mem} {a0 : Nat} {a1 : Nat} {p2 : Int32} {p3 : Int32} {post : Int32 → Mem → Prop} (hq : wp_X7_endsOf g M0 a0 a1 p2 p3 post) : Ct l g yX7_endsOf cX7_endsOf 4 (some .int) 2 0 0 [.ref a0, .ref a1, .int p2, .int p3] M0 (pI post) := by
  unfold wp_X7_endsOf at hq
  obtain ⟨h0, hq⟩ := hq
  refine Ct.of (by decide) (Nat.le_of_ble_eq_true rfl) ?_
  intro p e s m below meth c ls C hr hlk hn hl hw
  have hx := C.1.1
  have hb := C.1.2.1
  have hl : lv_has ls 4 [(0, .ref a0), (1, .ref a1), (2, .int p2), (3, .int p3)] := hl
  refine lv_iload_n hx hb dX7_endsOf_0 rfl (lv_at hl 3 rfl) ?_
  refine lv_aload_n hx hb dX7_endsOf_1 rfl (lv_at hl 0 rfl) ?_
  refine gfX7_13 C hw hw.2.2.1 h0 dX7_endsOf_2 ?_
  refine lv_icmp_gt (tgt := 17) hx hb dX7_endsOf_5 (by decide) (fun c1 => ?_) (fun c1 => ?_)
  · replace hq := hq.1 c1
    refine lv_iconst (v := 0) hx hb dX7_endsOf_17 (by decide) ?_
    exact r_iret C hr hlk hw dX7_endsOf_18 (by decide) (by decide) ⟨_, rfl, hq⟩
  · replace hq := hq.2 c1
    refine lv_iload_n hx hb dX7_endsOf_8 rfl (lv_at hl 3 rfl) ?_
    refine lv_aload_n hx hb dX7_endsOf_9 rfl (lv_at hl 1 rfl) ?_
    obtain ⟨h2, hq⟩ := hq
    obtain ⟨q3, e4, hq⟩ := hq
    refine gfX7_77 C hw hw.2.2.1 h2 e4 dX7_endsOf_10 ?_
    obtain ⟨h5, hq⟩ := hq
    refine q_alen C hw hw.2.2.1 h5 (by decide) (by decide) rfl dX7_endsOf_13 ?_
    refine lv_icmp_lt (tgt := 19) hx hb dX7_endsOf_14 (by decide) (fun c6 => ?_) (fun c6 => ?_)
    · replace hq := hq.1 c6
      refine lv_iload_n hx hb dX7_endsOf_19 rfl (lv_at hl 2 rfl) ?_
      refine lv_bipush (v := 125) hx hb dX7_endsOf_20 (by decide) ?_
      refine lv_icmp_ne (tgt := 31) hx hb dX7_endsOf_22 (by decide) (fun c7 => ?_) (fun c7 => ?_)
      · replace hq := hq.2 c7
        refine lv_iload_n hx hb dX7_endsOf_31 rfl (lv_at hl 2 rfl) ?_
        refine lv_bipush (v := 93) hx hb dX7_endsOf_32 (by decide) ?_
        refine lv_icmp_ne (tgt := 50) hx hb dX7_endsOf_34 (by decide) (fun c8 => ?_) (fun c8 => ?_)
        · replace hq := hq.2 c8
          refine lv_aload_n hx hb dX7_endsOf_50 rfl (lv_at hl 1 rfl) ?_
          refine gfX7_77 C hw hw.2.2.1 h2 e4 dX7_endsOf_51 ?_
          refine lv_iload_n hx hb dX7_endsOf_54 rfl (lv_at hl 3 rfl) ?_
          obtain ⟨h9, hq⟩ := hq
          refine q_iald C hw hw.2.2.1 h5 h9 dX7_endsOf_55 ?_
          exact r_iret C hr hlk hw dX7_endsOf_56 (by decide) (by decide) ⟨_, rfl, hq⟩
        · replace hq := hq.1 c8
          refine lv_aload_n hx hb dX7_endsOf_37 rfl (lv_at hl 1 rfl) ?_
          refine gfX7_77 C hw hw.2.2.1 h2 e4 dX7_endsOf_38 ?_
          refine lv_iload_n hx hb dX7_endsOf_41 rfl (lv_at hl 3 rfl) ?_
          obtain ⟨h10, hq⟩ := hq
          refine q_iald C hw hw.2.2.1 h5 h10 dX7_endsOf_42 ?_
          refine lv_iconst (v := 1) hx hb dX7_endsOf_43 (by decide) ?_
          refine lv_iload_n hx hb dX7_endsOf_44 rfl (lv_at hl 3 rfl) ?_
          refine lv_ishl hx hb dX7_endsOf_45 ?_
          refine lv_ior hx hb dX7_endsOf_46 ?_
          refine lv_goto (tgt := 56) hx hb dX7_endsOf_47 (by decide) ?_
          exact r_iret C hr hlk hw dX7_endsOf_56 (by decide) (by decide) ⟨_, rfl, hq⟩
      · replace hq := hq.1 c7
        refine lv_aload_n hx hb dX7_endsOf_25 rfl (lv_at hl 1 rfl) ?_
        refine lv_iload_n hx hb dX7_endsOf_26 rfl (lv_at hl 3 rfl) ?_
        refine r_callV (T := TX3) (N := 5) (ci := 3) (index := 105) (n := 1) (d2 := 1) (mc := 0) (ms := 0) (As := [.int p3]) (rest := []) C hw (ct_X3_endsInAnyOrder hq) kvX7_105 hq.1 (by decide) rfl ⟨by decide, by decide⟩ ⟨by decide, by decide⟩ rfl hl.1 rfl (Nat.le_of_ble_eq_true rfl) dX7_endsOf_27 (fun r M12 H locs hp hle hw => ?_)
        obtain ⟨v11, rfl, hq⟩ := hp
        refine W.eq (g2 := F0 m 30 ls [.int v11]) rfl ?_
        exact r_iret C hr hlk hw dX7_endsOf_30 (by decide) (by decide) ⟨_, rfl, hq⟩
    · replace hq := hq.2 c6
      refine lv_iconst (v := 0) hx hb dX7_endsOf_17 (by decide) ?_
      exact r_iret C hr hlk hw dX7_endsOf_18 (by decide) (by decide) ⟨_, rfl, hq⟩

def bd_X7_placesFrom_6 (g : Gh) (M0 : Mem) (a0 : Nat) (p1 : Int64) (p3 : Int64) (post : Int32 → Mem → Prop)  (bk6 : Int32 × Int32 × Mem → Prop) (x5 : Int32) (x6 : Int32)  (M : Mem) : Prop :=
  (((mI M a0 1) ≤ x6) → post x5 M) ∧ (¬ ((mI M a0 1) ≤ x6) → ∃ q2, mR M a0 0 = some q2 ∧ (okc (gB g) M0 q2 15 ∧ (vp_in x6 (mN M0 q2) ∧ (((0 < (lg_cmp p1 (mJ M q2 (Int32.toNatClampNeg x6)))) → bk6 (x5, (x6 + 1), M)) ∧ (¬ (0 < (lg_cmp p1 (mJ M q2 (Int32.toNatClampNeg x6)))) → ((0 < (lg_cmp (mJ M q2 (Int32.toNatClampNeg x6)) p3)) → bk6 (x5, (x6 + 1), M)) ∧ (¬ (0 < (lg_cmp (mJ M q2 (Int32.toNatClampNeg x6)) p3)) → bk6 ((x5 ||| (1 <<< (x6 &&& 31))), (x6 + 1), M)))))))
def wp_X7_placesFrom (g : Gh) (M0 : Mem) (a0 : Nat) (p1 : Int64) (p3 : Int64) (post : Int32 → Mem → Prop) : Prop :=
  okc (gB g) M0 a0 7 ∧ ((∃ n : Nat, lfp (fun bk z => bd_X7_placesFrom_6 g M0 a0 p1 p3 post  bk z.1 z.2.1 z.2.2) n (0, 0, M0)))
set_option maxHeartbeats 4000000 in
set_option maxRecDepth 100000 in
theorem lp_X7_placesFrom_6 {l : Launch} {g : Gh} {p : Program} {e : Env} {s : State} {m : MethodId} {args : Array Value} {below : List Frame} {meth : Method} {c : Code} {M0 : Mem} {a0 : Nat} {p1 : Int64} {p3 : Int64} {post : Int32 → Mem → Prop} (C : Cx g p s m args c cX7_placesFrom 7 RX7) (hr : meth.sig.returnType = (some .int)) (hlk : meth.locks = false) (hn : meth.name = "placesFrom") (h0 : okc (gB g) M0 a0 7)  : ∀ (nf : Nat) (x5 : Int32) (x6 : Int32)  (M : Mem) (H : Heap) (locs : List Loc) (ls : Array Slot), lfp (fun bk z => bd_X7_placesFrom_6 g M0 a0 p1 p3 post  bk z.1 z.2.1 z.2.2) nf (x5, x6, M) → Wd g s M0 M H locs → lv_has ls 7 [(0, .ref a0), (1, .long p1), (3, .long p3), (5, .int x5), (6, .int x6)] → W p l e (rmo 0 0 0) s m args below meth c H locs 0 0 (MQ below (Cq g M0 (pI post)) args s 0 0 (gA g)) (F0 m 6 ls []) := by
  have hx := C.1.1
  have hb := C.1.2.1
  intro nf
  induction nf with
  | zero => intro _ _ _ H locs ls hq; exact hq.elim
  | succ nf hk6 =>
    intro x5 x6 M H locs ls hq hw hl
    replace hq : bd_X7_placesFrom_6 g M0 a0 p1 p3 post  (lfp (fun bk z => bd_X7_placesFrom_6 g M0 a0 p1 p3 post  bk z.1 z.2.1 z.2.2) nf) x5 x6 M := hq
    unfold bd_X7_placesFrom_6 at hq
    refine lv_iload hx hb dX7_placesFrom_6 (lv_at hl 4 rfl) ?_
    refine lv_aload_n hx hb dX7_placesFrom_8 rfl (lv_at hl 0 rfl) ?_
    refine gfX7_13 C hw hw.2.2.1 h0 dX7_placesFrom_9 ?_
    refine lv_icmp_ge (tgt := 54) hx hb dX7_placesFrom_12 (by decide) (fun c1 => ?_) (fun c1 => ?_)
    · replace hq := hq.1 c1
      refine lv_iload hx hb dX7_placesFrom_54 (lv_at hl 3 rfl) ?_
      exact r_iret C hr hlk hw dX7_placesFrom_56 (by decide) (by decide) ⟨_, rfl, hq⟩
    · replace hq := hq.2 c1
      refine lv_lload_n hx hb dX7_placesFrom_15 rfl (lv_at hl 1 rfl) ?_
      refine lv_aload_n hx hb dX7_placesFrom_16 rfl (lv_at hl 0 rfl) ?_
      obtain ⟨q2, e3, hq⟩ := hq
      refine gfX7_9 C hw hw.2.2.1 h0 e3 dX7_placesFrom_17 ?_
      refine lv_iload hx hb dX7_placesFrom_20 (lv_at hl 4 rfl) ?_
      obtain ⟨h4, hq⟩ := hq
      obtain ⟨h5, hq⟩ := hq
      refine q_lald C hw hw.2.2.1 h4 h5 dX7_placesFrom_22 ?_
      refine W.lcmp hx hb dX7_placesFrom_23 ?_
      refine lv_if_gt (tgt := 48) hx hb dX7_placesFrom_24 (by decide) (fun c6 => ?_) (fun c6 => ?_)
      · replace hq := hq.1 c6
        refine lv_iinc (v := (x6 + 1)) (lv' := [(6, .int (x6 + 1)), (0, .ref a0), (1, .long p1), (3, .long p3), (5, .int x5)]) hx hb dX7_placesFrom_48 hl (k := 4) rfl rfl (by decide) rfl (fun ls hl => ?_)
        refine lv_goto (tgt := 6) hx hb dX7_placesFrom_51 (by decide) ?_
        exact hk6 _ _ _ _ _ _ hq hw (lv_sub hl [1, 2, 3, 4, 0] rfl)
      · replace hq := hq.2 c6
        refine lv_aload_n hx hb dX7_placesFrom_27 rfl (lv_at hl 0 rfl) ?_
        refine gfX7_9 C hw hw.2.2.1 h0 e3 dX7_placesFrom_28 ?_
        refine lv_iload hx hb dX7_placesFrom_31 (lv_at hl 4 rfl) ?_
        refine q_lald C hw hw.2.2.1 h4 h5 dX7_placesFrom_33 ?_
        refine lv_lload_n hx hb dX7_placesFrom_34 rfl (lv_at hl 2 rfl) ?_
        refine W.lcmp hx hb dX7_placesFrom_35 ?_
        refine lv_if_gt (tgt := 48) hx hb dX7_placesFrom_36 (by decide) (fun c7 => ?_) (fun c7 => ?_)
        · replace hq := hq.1 c7
          refine lv_iinc (v := (x6 + 1)) (lv' := [(6, .int (x6 + 1)), (0, .ref a0), (1, .long p1), (3, .long p3), (5, .int x5)]) hx hb dX7_placesFrom_48 hl (k := 4) rfl rfl (by decide) rfl (fun ls hl => ?_)
          refine lv_goto (tgt := 6) hx hb dX7_placesFrom_51 (by decide) ?_
          exact hk6 _ _ _ _ _ _ hq hw (lv_sub hl [1, 2, 3, 4, 0] rfl)
        · replace hq := hq.2 c7
          refine lv_iload hx hb dX7_placesFrom_39 (lv_at hl 3 rfl) ?_
          refine lv_iconst (v := 1) hx hb dX7_placesFrom_41 (by decide) ?_
          refine lv_iload hx hb dX7_placesFrom_42 (lv_at hl 4 rfl) ?_
          refine lv_ishl hx hb dX7_placesFrom_44 ?_
          refine lv_ior hx hb dX7_placesFrom_45 ?_
          refine lv_istore (lv' := [(5, .int (x5 ||| (1 <<< (x6 &&& 31)))), (0, .ref a0), (1, .long p1), (3, .long p3), (6, .int x6)]) hx hb dX7_placesFrom_46 hl (by decide) rfl (fun ls hl => ?_)
          refine lv_iinc (v := (x6 + 1)) (lv' := [(6, .int (x6 + 1)), (5, .int (x5 ||| (1 <<< (x6 &&& 31)))), (0, .ref a0), (1, .long p1), (3, .long p3)]) hx hb dX7_placesFrom_48 hl (k := 4) rfl rfl (by decide) rfl (fun ls hl => ?_)
          refine lv_goto (tgt := 6) hx hb dX7_placesFrom_51 (by decide) ?_
          exact hk6 _ _ _ _ _ _ hq hw (lv_sub hl [2, 3, 4, 1, 0] rfl)
set_option maxHeartbeats 4000000 in
set_option maxRecDepth 100000 in
theorem ct_X7_placesFrom {l : Launch} {g : Gh} {M0 : Mem} {a0 : Nat} {p1 : Int64} {p3 : Int64} {post : Int32 → Mem → Prop} (hq : wp_X7_placesFrom g M0 a0 p1 p3 post) : Ct l g yX7_placesFrom cX7_placesFrom 7 (some .int) 0 0 0 [.ref a0, .long p1, .long p3] M0 (pI post) := by
  unfold wp_X7_placesFrom at hq
  obtain ⟨h0, hq⟩ := hq
  refine Ct.of (by decide) (Nat.le_of_ble_eq_true rfl) ?_
  intro p e s m below meth c ls C hr hlk hn hl hw
  have hx := C.1.1
  have hb := C.1.2.1
  have hl : lv_has ls 7 [(0, .ref a0), (1, .long p1), (3, .long p3)] := hl
  refine lv_iconst (v := 0) hx hb dX7_placesFrom_0 (by decide) ?_
  refine lv_istore (lv' := [(5, .int 0), (0, .ref a0), (1, .long p1), (3, .long p3)]) hx hb dX7_placesFrom_1 hl (by decide) rfl (fun ls hl => ?_)
  refine lv_iconst (v := 0) hx hb dX7_placesFrom_3 (by decide) ?_
  refine lv_istore (lv' := [(6, .int 0), (5, .int 0), (0, .ref a0), (1, .long p1), (3, .long p3)]) hx hb dX7_placesFrom_4 hl (by decide) rfl (fun ls hl => ?_)
  obtain ⟨nf, hq⟩ := hq
  exact lp_X7_placesFrom_6 C hr hlk hn h0  nf _ _ _ _ _ _ hq hw (lv_sub hl [2, 3, 4, 1, 0] rfl)

def wp_X9_isSeenBy (g : Gh) (M0 : Mem) (a0 : Nat) (p1 : Int32) (post : Int32 → Mem → Prop) : Prop :=
  okc (gB g) M0 a0 9 ∧ ((((((mI M0 a0 5) >>> (p1 &&& 31)) &&& 1) = 1) → post 1 M0) ∧ (¬ ((((mI M0 a0 5) >>> (p1 &&& 31)) &&& 1) = 1) → post 0 M0))
set_option maxHeartbeats 4000000 in
set_option maxRecDepth 100000 in
theorem ct_X9_isSeenBy {l : Launch} {g : Gh} {M0 : Mem} {a0 : Nat} {p1 : Int32} {post : Int32 → Mem → Prop} (hq : wp_X9_isSeenBy g M0 a0 p1 post) : Ct l g yX9_isSeenBy cX9_isSeenBy 2 (some .boolean) 0 0 0 [.ref a0, .int p1] M0 (pI post) := by
  unfold wp_X9_isSeenBy at hq
  obtain ⟨h0, hq⟩ := hq
  refine Ct.of (by decide) (Nat.le_of_ble_eq_true rfl) ?_
  intro p e s m below meth c ls C hr hlk hn hl hw
  have hx := C.1.1
  have hb := C.1.2.1
  have hl : lv_has ls 2 [(0, .ref a0), (1, .int p1)] := hl
  refine lv_aload_n hx hb dX9_isSeenBy_0 rfl (lv_at hl 0 rfl) ?_
  refine gfX9_25 C hw hw.2.2.1 h0 dX9_isSeenBy_1 ?_
  refine lv_iload_n hx hb dX9_isSeenBy_4 rfl (lv_at hl 1 rfl) ?_
  refine lv_ishr hx hb dX9_isSeenBy_5 ?_
  refine lv_iconst (v := 1) hx hb dX9_isSeenBy_6 (by decide) ?_
  refine lv_iand hx hb dX9_isSeenBy_7 ?_
  refine lv_iconst (v := 1) hx hb dX9_isSeenBy_8 (by decide) ?_
  refine lv_icmp_ne (tgt := 16) hx hb dX9_isSeenBy_9 (by decide) (fun c1 => ?_) (fun c1 => ?_)
  · replace hq := hq.2 c1
    refine lv_iconst (v := 0) hx hb dX9_isSeenBy_16 (by decide) ?_
    exact r_zret C hr hlk hw dX9_isSeenBy_17 (by decide) (by decide) (by decide) ⟨_, rfl, hq⟩
  · replace hq := hq.1 c1
    refine lv_iconst (v := 1) hx hb dX9_isSeenBy_12 (by decide) ?_
    refine lv_goto (tgt := 17) hx hb dX9_isSeenBy_13 (by decide) ?_
    exact r_zret C hr hlk hw dX9_isSeenBy_17 (by decide) (by decide) (by decide) ⟨_, rfl, hq⟩

def wp_X9_isFreeFor (g : Gh) (M0 : Mem) (a0 : Nat) (p1 : Int32) (p2 : Int32) (post : Int32 → Mem → Prop) : Prop :=
  okc (gB g) M0 a0 9 ∧ ((((mI M0 a0 4) = 0) → wp_X9_isSeenBy g M0 a0 p1 (fun v2 M3 => ((v2 = 0) → wp_X9_isSeenBy g M3 a0 p2 (fun v5 M6 => ((v5 = 0) → post 1 M6) ∧ (¬ (v5 = 0) → post 0 M6))) ∧ (¬ (v2 = 0) → post 0 M3))) ∧ (¬ ((mI M0 a0 4) = 0) → post 0 M0))
set_option maxHeartbeats 4000000 in
set_option maxRecDepth 100000 in
theorem ct_X9_isFreeFor {l : Launch} {g : Gh} {M0 : Mem} {a0 : Nat} {p1 : Int32} {p2 : Int32} {post : Int32 → Mem → Prop} (hq : wp_X9_isFreeFor g M0 a0 p1 p2 post) : Ct l g yX9_isFreeFor cX9_isFreeFor 3 (some .boolean) 1 0 0 [.ref a0, .int p1, .int p2] M0 (pI post) := by
  unfold wp_X9_isFreeFor at hq
  obtain ⟨h0, hq⟩ := hq
  refine Ct.of (by decide) (Nat.le_of_ble_eq_true rfl) ?_
  intro p e s m below meth c ls C hr hlk hn hl hw
  have hx := C.1.1
  have hb := C.1.2.1
  have hl : lv_has ls 3 [(0, .ref a0), (1, .int p1), (2, .int p2)] := hl
  refine lv_aload_n hx hb dX9_isFreeFor_0 rfl (lv_at hl 0 rfl) ?_
  refine gfX9_28 C hw hw.2.2.1 h0 dX9_isFreeFor_1 ?_
  refine lv_if_ne (tgt := 27) hx hb dX9_isFreeFor_4 (by decide) (fun c1 => ?_) (fun c1 => ?_)
  · replace hq := hq.2 c1
    refine lv_iconst (v := 0) hx hb dX9_isFreeFor_27 (by decide) ?_
    exact r_zret C hr hlk hw dX9_isFreeFor_28 (by decide) (by decide) (by decide) ⟨_, rfl, hq⟩
  · replace hq := hq.1 c1
    refine lv_aload_n hx hb dX9_isFreeFor_7 rfl (lv_at hl 0 rfl) ?_
    refine lv_iload_n hx hb dX9_isFreeFor_8 rfl (lv_at hl 1 rfl) ?_
    refine r_callV (T := TX9) (N := 6) (ci := 9) (index := 32) (n := 1) (d2 := 0) (mc := 0) (ms := 0) (As := [.int p1]) (rest := []) C hw (ct_X9_isSeenBy hq) kvX9_32 hq.1 (by decide) rfl ⟨by decide, by decide⟩ ⟨by decide, by decide⟩ rfl hl.1 rfl (Nat.le_of_ble_eq_true rfl) dX9_isFreeFor_9 (fun r M3 H locs hp hle hw => ?_)
    obtain ⟨v2, rfl, hq⟩ := hp
    refine W.eq (g2 := F0 m 12 ls [.int v2]) rfl ?_
    refine lv_if_ne (tgt := 27) hx hb dX9_isFreeFor_12 (by decide) (fun c4 => ?_) (fun c4 => ?_)
    · replace hq := hq.2 c4
      refine lv_iconst (v := 0) hx hb dX9_isFreeFor_27 (by decide) ?_
      exact r_zret C hr hlk hw dX9_isFreeFor_28 (by decide) (by decide) (by decide) ⟨_, rfl, hq⟩
    · replace hq := hq.1 c4
      refine lv_aload_n hx hb dX9_isFreeFor_15 rfl (lv_at hl 0 rfl) ?_
      refine lv_iload_n hx hb dX9_isFreeFor_16 rfl (lv_at hl 2 rfl) ?_
      refine r_callV (T := TX9) (N := 6) (ci := 9) (index := 32) (n := 1) (d2 := 0) (mc := 0) (ms := 0) (As := [.int p2]) (rest := []) C hw (ct_X9_isSeenBy hq) kvX9_32 hq.1 (by decide) rfl ⟨by decide, by decide⟩ ⟨by decide, by decide⟩ rfl hl.1 rfl (Nat.le_of_ble_eq_true rfl) dX9_isFreeFor_17 (fun r M6 H locs hp hle hw => ?_)
      obtain ⟨v5, rfl, hq⟩ := hp
      refine W.eq (g2 := F0 m 20 ls [.int v5]) rfl ?_
      refine lv_if_ne (tgt := 27) hx hb dX9_isFreeFor_20 (by decide) (fun c7 => ?_) (fun c7 => ?_)
      · replace hq := hq.2 c7
        refine lv_iconst (v := 0) hx hb dX9_isFreeFor_27 (by decide) ?_
        exact r_zret C hr hlk hw dX9_isFreeFor_28 (by decide) (by decide) (by decide) ⟨_, rfl, hq⟩
      · replace hq := hq.1 c7
        refine lv_iconst (v := 1) hx hb dX9_isFreeFor_23 (by decide) ?_
        refine lv_goto (tgt := 28) hx hb dX9_isFreeFor_24 (by decide) ?_
        exact r_zret C hr hlk hw dX9_isFreeFor_28 (by decide) (by decide) (by decide) ⟨_, rfl, hq⟩

def wp_X9_hard (g : Gh) (M0 : Mem) (a0 : Nat) (post : Int32 → Mem → Prop) : Prop :=
  okc (gB g) M0 a0 9 ∧ ((((mI M0 a0 2) ≤ 0) → post 50 M0) ∧ (¬ ((mI M0 a0 2) ≤ 0) → (¬ (mI M0 a0 2) = 0) ∧ (post (((mI M0 a0 3) * 100) / (mI M0 a0 2)) M0)))
set_option maxHeartbeats 4000000 in
set_option maxRecDepth 100000 in
theorem ct_X9_hard {l : Launch} {g : Gh} {M0 : Mem} {a0 : Nat} {post : Int32 → Mem → Prop} (hq : wp_X9_hard g M0 a0 post) : Ct l g yX9_hard cX9_hard 1 (some .int) 0 0 0 [.ref a0] M0 (pI post) := by
  unfold wp_X9_hard at hq
  obtain ⟨h0, hq⟩ := hq
  refine Ct.of (by decide) (Nat.le_of_ble_eq_true rfl) ?_
  intro p e s m below meth c ls C hr hlk hn hl hw
  have hx := C.1.1
  have hb := C.1.2.1
  have hl : lv_has ls 1 [(0, .ref a0)] := hl
  refine lv_aload_n hx hb dX9_hard_0 rfl (lv_at hl 0 rfl) ?_
  refine gfX9_19 C hw hw.2.2.1 h0 dX9_hard_1 ?_
  refine lv_if_le (tgt := 22) hx hb dX9_hard_4 (by decide) (fun c1 => ?_) (fun c1 => ?_)
  · replace hq := hq.1 c1
    refine lv_bipush (v := 50) hx hb dX9_hard_22 (by decide) ?_
    exact r_iret C hr hlk hw dX9_hard_24 (by decide) (by decide) ⟨_, rfl, hq⟩
  · replace hq := hq.2 c1
    refine lv_aload_n hx hb dX9_hard_7 rfl (lv_at hl 0 rfl) ?_
    refine gfX9_22 C hw hw.2.2.1 h0 dX9_hard_8 ?_
    refine lv_bipush (v := 100) hx hb dX9_hard_11 (by decide) ?_
    refine lv_imul hx hb dX9_hard_13 ?_
    refine lv_aload_n hx hb dX9_hard_14 rfl (lv_at hl 0 rfl) ?_
    refine gfX9_19 C hw hw.2.2.1 h0 dX9_hard_15 ?_
    obtain ⟨h2, hq⟩ := hq
    refine lv_idiv hx hb dX9_hard_18 h2 ?_
    refine lv_goto (tgt := 24) hx hb dX9_hard_19 (by decide) ?_
    exact r_iret C hr hlk hw dX9_hard_24 (by decide) (by decide) ⟨_, rfl, hq⟩

def bd_X8_gather_24 (g : Gh) (M0 : Mem) (a0 : Nat) (a1 : Nat) (p2 : Int32) (p3 : Int32) (p4 : Int32) (post : Mem → Prop)  (bk24 : Int32 × Mem → Prop) (x5 : Int32)  (M : Mem) : Prop :=
  ((p2 ≤ x5) → post M) ∧ (¬ (p2 ≤ x5) → okc (gB g) M0 a1 20 ∧ ((((nI (mN M0 a1)) ≤ x5) → post M) ∧ (¬ ((nI (mN M0 a1)) ≤ x5) → ∃ q4, mR M a0 4 = some q4 ∧ (okc (gB g) M0 q4 14 ∧ ((((nI (mN M0 q4)) ≤ (mI M a0 7)) → post M) ∧ (¬ ((nI (mN M0 q4)) ≤ (mI M a0 7)) → vp_in x5 (mN M0 a1) ∧ (∃ q9, mR M a1 (Int32.toNatClampNeg x5) = some q9 ∧ (wp_X9_isFreeFor g M q9 p3 p4 (fun v12 M13 => ((v12 = 0) → bk24 ((x5 + 1), M13)) ∧ (¬ (v12 = 0) → ∃ q15, mR M13 a0 4 = some q15 ∧ (okc (gB g) M0 q15 14 ∧ (vp_in (mI M13 a0 7) (mN M0 q15) ∧ (∀ M19, M19 = uI M13 q15 (Int32.toNatClampNeg (mI M13 a0 7)) x5 → (∃ q21, mR M19 a0 5 = some q21 ∧ (okc (gB g) M0 q9 9 ∧ (okc (gB g) M0 q21 14 ∧ (vp_in (mI M19 a0 7) (mN M0 q21) ∧ (∀ M26, M26 = uI M19 q21 (Int32.toNatClampNeg (mI M19 a0 7)) (mI M19 q9 0) → (∃ q28, mR M26 a0 6 = some q28 ∧ (wp_X9_hard g M26 q9 (fun v30 M31 => okc (gB g) M0 q28 14 ∧ (vp_in (mI M26 a0 7) (mN M0 q28) ∧ (∀ M34, M34 = uI M31 q28 (Int32.toNatClampNeg (mI M26 a0 7)) v30 → (∀ M36, M36 = uI M34 a0 7 ((mI M34 a0 7) + 1) → (bk24 ((x5 + 1), M36))))))))))))))))))))))))))
def wp_X8_gather (g : Gh) (M0 : Mem) (a0 : Nat) (a1 : Nat) (p2 : Int32) (p3 : Int32) (p4 : Int32) (post : Mem → Prop) : Prop :=
  okc (gB g) M0 a0 8 ∧ (∀ M38, M38 = uI M0 a0 0 p3 → (∀ M40, M40 = uI M38 a0 1 p4 → (∀ M42, M42 = uI M40 a0 2 0 → (∀ M44, M44 = uI M42 a0 7 0 → ((∃ n : Nat, lfp (fun bk z => bd_X8_gather_24 g M0 a0 a1 p2 p3 p4 post  bk z.1 z.2) n (0, M44)))))))
set_option maxHeartbeats 4000000 in
set_option maxRecDepth 100000 in
theorem lp_X8_gather_24 {l : Launch} {g : Gh} {p : Program} {e : Env} {s : State} {m : MethodId} {args : Array Value} {below : List Frame} {meth : Method} {c : Code} {M0 : Mem} {a0 : Nat} {a1 : Nat} {p2 : Int32} {p3 : Int32} {p4 : Int32} {post : Mem → Prop} (C : Cx g p s m args c cX8_gather 7 RX8) (hr : meth.sig.returnType = none) (hlk : meth.locks = false) (hn : meth.name = "gather") (h0 : okc (gB g) M0 a0 8)  : ∀ (nf : Nat) (x5 : Int32)  (M : Mem) (H : Heap) (locs : List Loc) (ls : Array Slot), lfp (fun bk z => bd_X8_gather_24 g M0 a0 a1 p2 p3 p4 post  bk z.1 z.2) nf (x5, M) → Wd g s M0 M H locs → lv_has ls 7 [(0, .ref a0), (1, .ref a1), (2, .int p2), (3, .int p3), (4, .int p4), (5, .int x5)] → W p l e (rmo 2 0 0) s m args below meth c H locs 0 0 (MQ below (Cq g M0 (pV post)) args s 0 0 (gA g)) (F0 m 24 ls []) := by
  have hx := C.1.1
  have hb := C.1.2.1
  intro nf
  induction nf with
  | zero => intro _ _ H locs ls hq; exact hq.elim
  | succ nf hk24 =>
    intro x5 M H locs ls hq hw hl
    replace hq : bd_X8_gather_24 g M0 a0 a1 p2 p3 p4 post  (lfp (fun bk z => bd_X8_gather_24 g M0 a0 a1 p2 p3 p4 post  bk z.1 z.2) nf) x5 M := hq
    unfold bd_X8_gather_24 at hq
    refine lv_iload hx hb dX8_gather_24 (lv_at hl 5 rfl) ?_
    refine lv_iload_n hx hb dX8_gather_26 rfl (lv_at hl 2 rfl) ?_
    refine lv_icmp_ge (tgt := 126) hx hb dX8_gather_27 (by decide) (fun c1 => ?_) (fun c1 => ?_)
    · replace hq := hq.1 c1
      exact r_vret C hr hlk hw dX8_gather_126 (by decide) (by decide) ⟨rfl, hq⟩
    · replace hq := hq.2 c1
      refine lv_iload hx hb dX8_gather_30 (lv_at hl 5 rfl) ?_
      refine lv_aload_n hx hb dX8_gather_32 rfl (lv_at hl 1 rfl) ?_
      obtain ⟨h2, hq⟩ := hq
      refine q_alen C hw hw.2.2.1 h2 (by decide) (by decide) rfl dX8_gather_33 ?_
      refine lv_icmp_ge (tgt := 126) hx hb dX8_gather_34 (by decide) (fun c3 => ?_) (fun c3 => ?_)
      · replace hq := hq.1 c3
        exact r_vret C hr hlk hw dX8_gather_126 (by decide) (by decide) ⟨rfl, hq⟩
      · replace hq := hq.2 c3
        refine lv_aload_n hx hb dX8_gather_37 rfl (lv_at hl 0 rfl) ?_
        refine gfX8_37 C hw hw.2.2.1 h0 dX8_gather_38 ?_
        refine lv_aload_n hx hb dX8_gather_41 rfl (lv_at hl 0 rfl) ?_
        obtain ⟨q4, e5, hq⟩ := hq
        refine gfX8_9 C hw hw.2.2.1 h0 e5 dX8_gather_42 ?_
        obtain ⟨h6, hq⟩ := hq
        refine q_alen C hw hw.2.2.1 h6 (by decide) (by decide) rfl dX8_gather_45 ?_
        refine lv_icmp_ge (tgt := 126) hx hb dX8_gather_46 (by decide) (fun c7 => ?_) (fun c7 => ?_)
        · replace hq := hq.1 c7
          exact r_vret C hr hlk hw dX8_gather_126 (by decide) (by decide) ⟨rfl, hq⟩
        · replace hq := hq.2 c7
          refine lv_aload_n hx hb dX8_gather_49 rfl (lv_at hl 1 rfl) ?_
          refine lv_iload hx hb dX8_gather_50 (lv_at hl 5 rfl) ?_
          obtain ⟨h8, hq⟩ := hq
          obtain ⟨q9, e10, hq⟩ := hq
          refine q_aald C hw hw.2.2.1 h2 (by decide) (by decide) rfl h8 e10 dX8_gather_52 ?_
          refine lv_astore (lv' := [(6, .ref q9), (0, .ref a0), (1, .ref a1), (2, .int p2), (3, .int p3), (4, .int p4), (5, .int x5)]) hx hb dX8_gather_53 hl (by decide) rfl (fun ls hl => ?_)
          refine lv_aload hx hb dX8_gather_55 (lv_at hl 0 rfl) ?_
          refine lv_ifnull hx hb dX8_gather_57 ?_
          refine lv_aload hx hb dX8_gather_60 (lv_at hl 0 rfl) ?_
          refine lv_iload_n hx hb dX8_gather_62 rfl (lv_at hl 4 rfl) ?_
          refine lv_iload hx hb dX8_gather_63 (lv_at hl 5 rfl) ?_
          refine r_callV (T := TX9) (N := 6) (ci := 9) (index := 40) (n := 2) (d2 := 1) (mc := 0) (ms := 0) (As := [.int p3, .int p4]) (rest := []) C hw (ct_X9_isFreeFor hq) kvX8_40 hq.1 (by decide) rfl ⟨by decide, by decide⟩ ⟨by decide, by decide⟩ rfl hl.1 rfl (Nat.le_of_ble_eq_true rfl) dX8_gather_65 (fun r M13 H locs hp hle hw => ?_)
          obtain ⟨v12, rfl, hq⟩ := hp
          refine W.eq (g2 := F0 m 68 ls [.int v12]) rfl ?_
          refine lv_if_eq (tgt := 120) hx hb dX8_gather_68 (by decide) (fun c14 => ?_) (fun c14 => ?_)
          · replace hq := hq.1 c14
            refine lv_iinc (v := (x5 + 1)) (lv' := [(5, .int (x5 + 1)), (6, .ref q9), (0, .ref a0), (1, .ref a1), (2, .int p2), (3, .int p3), (4, .int p4)]) hx hb dX8_gather_120 hl (k := 6) rfl rfl (by decide) rfl (fun ls hl => ?_)
            refine lv_goto (tgt := 24) hx hb dX8_gather_123 (by decide) ?_
            exact hk24 _ _ _ _ _ hq hw (lv_sub hl [2, 3, 4, 5, 6, 0] rfl)
          · replace hq := hq.2 c14
            refine lv_aload_n hx hb dX8_gather_71 rfl (lv_at hl 1 rfl) ?_
            obtain ⟨q15, e16, hq⟩ := hq
            refine gfX8_9 C hw hw.2.2.1 h0 e16 dX8_gather_72 ?_
            refine lv_aload_n hx hb dX8_gather_75 rfl (lv_at hl 1 rfl) ?_
            refine gfX8_37 C hw hw.2.2.1 h0 dX8_gather_76 ?_
            refine lv_iload hx hb dX8_gather_79 (lv_at hl 6 rfl) ?_
            obtain ⟨h17, hq⟩ := hq
            obtain ⟨h18, hq⟩ := hq
            refine q_iast C hw hw.2.2.1 h17 h18 dX8_gather_81 (fun H locs hw => ?_)
            generalize e20 : uI M13 q15 (Int32.toNatClampNeg (mI M13 a0 7)) x5 = M19 at hw
            replace hq := hq M19 e20.symm
            have e16 : mR M19 a0 4 = some q15 := by rw [← e20, mR_uI]; exact e16
            refine lv_aload_n hx hb dX8_gather_82 rfl (lv_at hl 1 rfl) ?_
            obtain ⟨q21, e22, hq⟩ := hq
            refine gfX8_15 C hw hw.2.2.1 h0 e22 dX8_gather_83 ?_
            refine lv_aload_n hx hb dX8_gather_86 rfl (lv_at hl 1 rfl) ?_
            refine gfX8_37 C hw hw.2.2.1 h0 dX8_gather_87 ?_
            refine lv_aload hx hb dX8_gather_90 (lv_at hl 0 rfl) ?_
            obtain ⟨h23, hq⟩ := hq
            refine gfX8_46 C hw hw.2.2.1 h23 dX8_gather_92 ?_
            obtain ⟨h24, hq⟩ := hq
            obtain ⟨h25, hq⟩ := hq
            refine q_iast C hw hw.2.2.1 h24 h25 dX8_gather_95 (fun H locs hw => ?_)
            generalize e27 : uI M19 q21 (Int32.toNatClampNeg (mI M19 a0 7)) (mI M19 q9 0) = M26 at hw
            replace hq := hq M26 e27.symm
            have e16 : mR M26 a0 4 = some q15 := by rw [← e27, mR_uI]; exact e16
            have e22 : mR M26 a0 5 = some q21 := by rw [← e27, mR_uI]; exact e22
            refine lv_aload_n hx hb dX8_gather_96 rfl (lv_at hl 1 rfl) ?_
            obtain ⟨q28, e29, hq⟩ := hq
            refine gfX8_18 C hw hw.2.2.1 h0 e29 dX8_gather_97 ?_
            refine lv_aload_n hx hb dX8_gather_100 rfl (lv_at hl 1 rfl) ?_
            refine gfX8_37 C hw hw.2.2.1 h0 dX8_gather_101 ?_
            refine lv_aload hx hb dX8_gather_104 (lv_at hl 0 rfl) ?_
            refine r_callV (T := TX9) (N := 6) (ci := 9) (index := 49) (n := 0) (d2 := 0) (mc := 0) (ms := 0) (As := []) (rest := [.int (mI M26 a0 7), .ref q28]) C hw (ct_X9_hard hq) kvX8_49 hq.1 (by decide) rfl ⟨by decide, by decide⟩ ⟨by decide, by decide⟩ rfl hl.1 rfl (Nat.le_of_ble_eq_true rfl) dX8_gather_106 (fun r M31 H locs hp hle hw => ?_)
            obtain ⟨v30, rfl, hq⟩ := hp
            refine W.eq (g2 := F0 m 109 ls [.int v30, .int (mI M26 a0 7), .ref q28]) rfl ?_
            obtain ⟨h32, hq⟩ := hq
            obtain ⟨h33, hq⟩ := hq
            refine q_iast C hw hw.2.2.1 h32 h33 dX8_gather_109 (fun H locs hw => ?_)
            generalize e35 : uI M31 q28 (Int32.toNatClampNeg (mI M26 a0 7)) v30 = M34 at hw
            replace hq := hq M34 e35.symm
            refine lv_aload_n hx hb dX8_gather_110 rfl (lv_at hl 1 rfl) ?_
            refine lv_dup hx hb dX8_gather_111 rfl ?_
            refine gfX8_37 C hw hw.2.2.1 h0 dX8_gather_112 ?_
            refine lv_iconst (v := 1) hx hb dX8_gather_115 (by decide) ?_
            refine lv_iadd hx hb dX8_gather_116 ?_
            refine pfX8_37 C hw hw.2.2.1 h0 dX8_gather_117 (fun H locs hw => ?_)
            generalize e37 : uI M34 a0 7 ((mI M34 a0 7) + 1) = M36 at hw
            replace hq := hq M36 e37.symm
            refine lv_iinc (v := (x5 + 1)) (lv' := [(5, .int (x5 + 1)), (6, .ref q9), (0, .ref a0), (1, .ref a1), (2, .int p2), (3, .int p3), (4, .int p4)]) hx hb dX8_gather_120 hl (k := 6) rfl rfl (by decide) rfl (fun ls hl => ?_)
            refine lv_goto (tgt := 24) hx hb dX8_gather_123 (by decide) ?_
            exact hk24 _ _ _ _ _ hq hw (lv_sub hl [2, 3, 4, 5, 6, 0] rfl)
set_option maxHeartbeats 4000000 in
set_option maxRecDepth 100000 in
theorem ct_X8_gather {l : Launch} {g : Gh} {M0 : Mem} {a0 : Nat} {a1 : Nat} {p2 : Int32} {p3 : Int32} {p4 : Int32} {post : Mem → Prop} (hq : wp_X8_gather g M0 a0 a1 p2 p3 p4 post) : Ct l g yX8_gather cX8_gather 7 none 2 0 0 [.ref a0, .ref a1, .int p2, .int p3, .int p4] M0 (pV post) := by
  unfold wp_X8_gather at hq
  obtain ⟨h0, hq⟩ := hq
  refine Ct.of (by decide) (Nat.le_of_ble_eq_true rfl) ?_
  intro p e s m below meth c ls C hr hlk hn hl hw
  have hx := C.1.1
  have hb := C.1.2.1
  have hl : lv_has ls 7 [(0, .ref a0), (1, .ref a1), (2, .int p2), (3, .int p3), (4, .int p4)] := hl
  refine lv_aload_n hx hb dX8_gather_0 rfl (lv_at hl 0 rfl) ?_
  refine lv_iload_n hx hb dX8_gather_1 rfl (lv_at hl 3 rfl) ?_
  refine pfX8_27 C hw hw.2.2.1 h0 dX8_gather_2 (fun H locs hw => ?_)
  generalize e39 : uI M0 a0 0 p3 = M38 at hw
  replace hq := hq M38 e39.symm
  refine lv_aload_n hx hb dX8_gather_5 rfl (lv_at hl 0 rfl) ?_
  refine lv_iload hx hb dX8_gather_6 (lv_at hl 4 rfl) ?_
  refine pfX8_31 C hw hw.2.2.1 h0 dX8_gather_8 (fun H locs hw => ?_)
  generalize e41 : uI M38 a0 1 p4 = M40 at hw
  replace hq := hq M40 e41.symm
  refine lv_aload_n hx hb dX8_gather_11 rfl (lv_at hl 0 rfl) ?_
  refine lv_iconst (v := 0) hx hb dX8_gather_12 (by decide) ?_
  refine pfX8_34 C hw hw.2.2.1 h0 dX8_gather_13 (fun H locs hw => ?_)
  generalize e43 : uI M40 a0 2 0 = M42 at hw
  replace hq := hq M42 e43.symm
  refine lv_aload_n hx hb dX8_gather_16 rfl (lv_at hl 0 rfl) ?_
  refine lv_iconst (v := 0) hx hb dX8_gather_17 (by decide) ?_
  refine pfX8_37 C hw hw.2.2.1 h0 dX8_gather_18 (fun H locs hw => ?_)
  generalize e45 : uI M42 a0 7 0 = M44 at hw
  replace hq := hq M44 e45.symm
  refine lv_iconst (v := 0) hx hb dX8_gather_21 (by decide) ?_
  refine lv_istore (lv' := [(5, .int 0), (0, .ref a0), (1, .ref a1), (2, .int p2), (3, .int p3), (4, .int p4)]) hx hb dX8_gather_22 hl (by decide) rfl (fun ls hl => ?_)
  obtain ⟨nf, hq⟩ := hq
  exact lp_X8_gather_24 C hr hlk hn h0  nf _ _ _ _ _ hq hw (lv_sub hl [1, 2, 3, 4, 5, 0] rfl)

def wp_X8_setBounds (g : Gh) (M0 : Mem) (a0 : Nat) (p1 : Int32) (p2 : Int32) (p3 : Int32) (post : Mem → Prop) : Prop :=
  okc (gB g) M0 a0 8 ∧ (∀ M1, M1 = uI M0 a0 12 p1 → (∀ M3, M3 = uI M1 a0 13 p2 → (∀ M5, M5 = uI M3 a0 14 p3 → (post M5))))
set_option maxHeartbeats 4000000 in
set_option maxRecDepth 100000 in
theorem ct_X8_setBounds {l : Launch} {g : Gh} {M0 : Mem} {a0 : Nat} {p1 : Int32} {p2 : Int32} {p3 : Int32} {post : Mem → Prop} (hq : wp_X8_setBounds g M0 a0 p1 p2 p3 post) : Ct l g yX8_setBounds cX8_setBounds 4 none 0 0 0 [.ref a0, .int p1, .int p2, .int p3] M0 (pV post) := by
  unfold wp_X8_setBounds at hq
  obtain ⟨h0, hq⟩ := hq
  refine Ct.of (by decide) (Nat.le_of_ble_eq_true rfl) ?_
  intro p e s m below meth c ls C hr hlk hn hl hw
  have hx := C.1.1
  have hb := C.1.2.1
  have hl : lv_has ls 4 [(0, .ref a0), (1, .int p1), (2, .int p2), (3, .int p3)] := hl
  refine lv_aload_n hx hb dX8_setBounds_0 rfl (lv_at hl 0 rfl) ?_
  refine lv_iload_n hx hb dX8_setBounds_1 rfl (lv_at hl 1 rfl) ?_
  refine pfX8_53 C hw hw.2.2.1 h0 dX8_setBounds_2 (fun H locs hw => ?_)
  generalize e2 : uI M0 a0 12 p1 = M1 at hw
  replace hq := hq M1 e2.symm
  refine lv_aload_n hx hb dX8_setBounds_5 rfl (lv_at hl 0 rfl) ?_
  refine lv_iload_n hx hb dX8_setBounds_6 rfl (lv_at hl 2 rfl) ?_
  refine pfX8_56 C hw hw.2.2.1 h0 dX8_setBounds_7 (fun H locs hw => ?_)
  generalize e4 : uI M1 a0 13 p2 = M3 at hw
  replace hq := hq M3 e4.symm
  refine lv_aload_n hx hb dX8_setBounds_10 rfl (lv_at hl 0 rfl) ?_
  refine lv_iload_n hx hb dX8_setBounds_11 rfl (lv_at hl 3 rfl) ?_
  refine pfX8_59 C hw hw.2.2.1 h0 dX8_setBounds_12 (fun H locs hw => ?_)
  generalize e6 : uI M3 a0 14 p3 = M5 at hw
  replace hq := hq M5 e6.symm
  exact r_vret C hr hlk hw dX8_setBounds_15 (by decide) (by decide) ⟨rfl, hq⟩

def bd_X8_nextWithRoom_2 (g : Gh) (M0 : Mem) (a0 : Nat) (p1 : Int32) (post : Int32 → Mem → Prop)  (bk2 : Int32 × Mem → Prop) (x2 : Int32)  (M : Mem) : Prop :=
  ((x2 < 0) → post (mI M a0 7) M) ∧ (¬ (x2 < 0) → (((mI M a0 7) ≤ x2) → post (mI M a0 7) M) ∧ (¬ ((mI M a0 7) ≤ x2) → ∃ q3, mR M a0 5 = some q3 ∧ (okc (gB g) M0 q3 14 ∧ ((((nI (mN M0 q3)) ≤ x2) → post (mI M a0 7) M) ∧ (¬ ((nI (mN M0 q3)) ≤ x2) → vp_in x2 (mN M0 q3) ∧ ((((mI M q3 (Int32.toNatClampNeg x2)) < 0) → bk2 ((x2 + 1), M)) ∧ (¬ ((mI M q3 (Int32.toNatClampNeg x2)) < 0) → ((8 ≤ (mI M q3 (Int32.toNatClampNeg x2))) → bk2 ((x2 + 1), M)) ∧ (¬ (8 ≤ (mI M q3 (Int32.toNatClampNeg x2))) → ∃ q10, mR M a0 10 = some q10 ∧ (okc (gB g) M0 q10 14 ∧ (vp_in (mI M q3 (Int32.toNatClampNeg x2)) (mN M0 q10) ∧ ((((mI M a0 12) ≤ (mI M q10 (Int32.toNatClampNeg (mI M q3 (Int32.toNatClampNeg x2))))) → bk2 ((x2 + 1), M)) ∧ (¬ ((mI M a0 12) ≤ (mI M q10 (Int32.toNatClampNeg (mI M q3 (Int32.toNatClampNeg x2))))) → post x2 M))))))))))))
def wp_X8_nextWithRoom (g : Gh) (M0 : Mem) (a0 : Nat) (p1 : Int32) (post : Int32 → Mem → Prop) : Prop :=
  okc (gB g) M0 a0 8 ∧ ((∃ n : Nat, lfp (fun bk z => bd_X8_nextWithRoom_2 g M0 a0 p1 post  bk z.1 z.2) n (p1, M0)))
set_option maxHeartbeats 4000000 in
set_option maxRecDepth 100000 in
theorem lp_X8_nextWithRoom_2 {l : Launch} {g : Gh} {p : Program} {e : Env} {s : State} {m : MethodId} {args : Array Value} {below : List Frame} {meth : Method} {c : Code} {M0 : Mem} {a0 : Nat} {p1 : Int32} {post : Int32 → Mem → Prop} (C : Cx g p s m args c cX8_nextWithRoom 4 RX8) (hr : meth.sig.returnType = (some .int)) (hlk : meth.locks = false) (hn : meth.name = "nextWithRoom") (h0 : okc (gB g) M0 a0 8)  : ∀ (nf : Nat) (x2 : Int32)  (M : Mem) (H : Heap) (locs : List Loc) (ls : Array Slot), lfp (fun bk z => bd_X8_nextWithRoom_2 g M0 a0 p1 post  bk z.1 z.2) nf (x2, M) → Wd g s M0 M H locs → lv_has ls 4 [(0, .ref a0), (1, .int p1), (2, .int x2)] → W p l e (rmo 0 0 0) s m args below meth c H locs 0 0 (MQ below (Cq g M0 (pI post)) args s 0 0 (gA g)) (F0 m 2 ls []) := by
  have hx := C.1.1
  have hb := C.1.2.1
  intro nf
  induction nf with
  | zero => intro _ _ H locs ls hq; exact hq.elim
  | succ nf hk2 =>
    intro x2 M H locs ls hq hw hl
    replace hq : bd_X8_nextWithRoom_2 g M0 a0 p1 post  (lfp (fun bk z => bd_X8_nextWithRoom_2 g M0 a0 p1 post  bk z.1 z.2) nf) x2 M := hq
    unfold bd_X8_nextWithRoom_2 at hq
    refine lv_iload_n hx hb dX8_nextWithRoom_2 rfl (lv_at hl 2 rfl) ?_
    refine lv_if_lt (tgt := 61) hx hb dX8_nextWithRoom_3 (by decide) (fun c1 => ?_) (fun c1 => ?_)
    · replace hq := hq.1 c1
      refine lv_aload_n hx hb dX8_nextWithRoom_61 rfl (lv_at hl 0 rfl) ?_
      refine gfX8_37 C hw hw.2.2.1 h0 dX8_nextWithRoom_62 ?_
      exact r_iret C hr hlk hw dX8_nextWithRoom_65 (by decide) (by decide) ⟨_, rfl, hq⟩
    · replace hq := hq.2 c1
      refine lv_iload_n hx hb dX8_nextWithRoom_6 rfl (lv_at hl 2 rfl) ?_
      refine lv_aload_n hx hb dX8_nextWithRoom_7 rfl (lv_at hl 0 rfl) ?_
      refine gfX8_37 C hw hw.2.2.1 h0 dX8_nextWithRoom_8 ?_
      refine lv_icmp_ge (tgt := 61) hx hb dX8_nextWithRoom_11 (by decide) (fun c2 => ?_) (fun c2 => ?_)
      · replace hq := hq.1 c2
        refine lv_aload_n hx hb dX8_nextWithRoom_61 rfl (lv_at hl 0 rfl) ?_
        refine gfX8_37 C hw hw.2.2.1 h0 dX8_nextWithRoom_62 ?_
        exact r_iret C hr hlk hw dX8_nextWithRoom_65 (by decide) (by decide) ⟨_, rfl, hq⟩
      · replace hq := hq.2 c2
        refine lv_iload_n hx hb dX8_nextWithRoom_14 rfl (lv_at hl 2 rfl) ?_
        refine lv_aload_n hx hb dX8_nextWithRoom_15 rfl (lv_at hl 0 rfl) ?_
        obtain ⟨q3, e4, hq⟩ := hq
        refine gfX8_15 C hw hw.2.2.1 h0 e4 dX8_nextWithRoom_16 ?_
        obtain ⟨h5, hq⟩ := hq
        refine q_alen C hw hw.2.2.1 h5 (by decide) (by decide) rfl dX8_nextWithRoom_19 ?_
        refine lv_icmp_ge (tgt := 61) hx hb dX8_nextWithRoom_20 (by decide) (fun c6 => ?_) (fun c6 => ?_)
        · replace hq := hq.1 c6
          refine lv_aload_n hx hb dX8_nextWithRoom_61 rfl (lv_at hl 0 rfl) ?_
          refine gfX8_37 C hw hw.2.2.1 h0 dX8_nextWithRoom_62 ?_
          exact r_iret C hr hlk hw dX8_nextWithRoom_65 (by decide) (by decide) ⟨_, rfl, hq⟩
        · replace hq := hq.2 c6
          refine lv_aload_n hx hb dX8_nextWithRoom_23 rfl (lv_at hl 0 rfl) ?_
          refine gfX8_15 C hw hw.2.2.1 h0 e4 dX8_nextWithRoom_24 ?_
          refine lv_iload_n hx hb dX8_nextWithRoom_27 rfl (lv_at hl 2 rfl) ?_
          obtain ⟨h7, hq⟩ := hq
          refine q_iald C hw hw.2.2.1 h5 h7 dX8_nextWithRoom_28 ?_
          refine lv_istore_n (lv' := [(3, .int (mI M q3 (Int32.toNatClampNeg x2))), (0, .ref a0), (1, .int p1), (2, .int x2)]) hx hb dX8_nextWithRoom_29 rfl hl (by decide) rfl (fun ls hl => ?_)
          refine lv_iload_n hx hb dX8_nextWithRoom_30 rfl (lv_at hl 0 rfl) ?_
          refine lv_if_lt (tgt := 55) hx hb dX8_nextWithRoom_31 (by decide) (fun c8 => ?_) (fun c8 => ?_)
          · replace hq := hq.1 c8
            refine lv_iinc (v := (x2 + 1)) (lv' := [(2, .int (x2 + 1)), (3, .int (mI M q3 (Int32.toNatClampNeg x2))), (0, .ref a0), (1, .int p1)]) hx hb dX8_nextWithRoom_55 hl (k := 3) rfl rfl (by decide) rfl (fun ls hl => ?_)
            refine lv_goto (tgt := 2) hx hb dX8_nextWithRoom_58 (by decide) ?_
            exact hk2 _ _ _ _ _ hq hw (lv_sub hl [2, 3, 0] rfl)
          · replace hq := hq.2 c8
            refine lv_iload_n hx hb dX8_nextWithRoom_34 rfl (lv_at hl 0 rfl) ?_
            refine lv_bipush (v := 8) hx hb dX8_nextWithRoom_35 (by decide) ?_
            refine lv_icmp_ge (tgt := 55) hx hb dX8_nextWithRoom_37 (by decide) (fun c9 => ?_) (fun c9 => ?_)
            · replace hq := hq.1 c9
              refine lv_iinc (v := (x2 + 1)) (lv' := [(2, .int (x2 + 1)), (3, .int (mI M q3 (Int32.toNatClampNeg x2))), (0, .ref a0), (1, .int p1)]) hx hb dX8_nextWithRoom_55 hl (k := 3) rfl rfl (by decide) rfl (fun ls hl => ?_)
              refine lv_goto (tgt := 2) hx hb dX8_nextWithRoom_58 (by decide) ?_
              exact hk2 _ _ _ _ _ hq hw (lv_sub hl [2, 3, 0] rfl)
            · replace hq := hq.2 c9
              refine lv_aload_n hx hb dX8_nextWithRoom_40 rfl (lv_at hl 1 rfl) ?_
              obtain ⟨q10, e11, hq⟩ := hq
              refine gfX8_24 C hw hw.2.2.1 h0 e11 dX8_nextWithRoom_41 ?_
              refine lv_iload_n hx hb dX8_nextWithRoom_44 rfl (lv_at hl 0 rfl) ?_
              obtain ⟨h12, hq⟩ := hq
              obtain ⟨h13, hq⟩ := hq
              refine q_iald C hw hw.2.2.1 h12 h13 dX8_nextWithRoom_45 ?_
              refine lv_aload_n hx hb dX8_nextWithRoom_46 rfl (lv_at hl 1 rfl) ?_
              refine gfX8_53 C hw hw.2.2.1 h0 dX8_nextWithRoom_47 ?_
              refine lv_icmp_ge (tgt := 55) hx hb dX8_nextWithRoom_50 (by decide) (fun c14 => ?_) (fun c14 => ?_)
              · replace hq := hq.1 c14
                refine lv_iinc (v := (x2 + 1)) (lv' := [(2, .int (x2 + 1)), (3, .int (mI M q3 (Int32.toNatClampNeg x2))), (0, .ref a0), (1, .int p1)]) hx hb dX8_nextWithRoom_55 hl (k := 3) rfl rfl (by decide) rfl (fun ls hl => ?_)
                refine lv_goto (tgt := 2) hx hb dX8_nextWithRoom_58 (by decide) ?_
                exact hk2 _ _ _ _ _ hq hw (lv_sub hl [2, 3, 0] rfl)
              · replace hq := hq.2 c14
                refine lv_iload_n hx hb dX8_nextWithRoom_53 rfl (lv_at hl 3 rfl) ?_
                exact r_iret C hr hlk hw dX8_nextWithRoom_54 (by decide) (by decide) ⟨_, rfl, hq⟩
set_option maxHeartbeats 4000000 in
set_option maxRecDepth 100000 in
theorem ct_X8_nextWithRoom {l : Launch} {g : Gh} {M0 : Mem} {a0 : Nat} {p1 : Int32} {post : Int32 → Mem → Prop} (hq : wp_X8_nextWithRoom g M0 a0 p1 post) : Ct l g yX8_nextWithRoom cX8_nextWithRoom 4 (some .int) 0 0 0 [.ref a0, .int p1] M0 (pI post) := by
  unfold wp_X8_nextWithRoom at hq
  obtain ⟨h0, hq⟩ := hq
  refine Ct.of (by decide) (Nat.le_of_ble_eq_true rfl) ?_
  intro p e s m below meth c ls C hr hlk hn hl hw
  have hx := C.1.1
  have hb := C.1.2.1
  have hl : lv_has ls 4 [(0, .ref a0), (1, .int p1)] := hl
  refine lv_iload_n hx hb dX8_nextWithRoom_0 rfl (lv_at hl 1 rfl) ?_
  refine lv_istore_n (lv' := [(2, .int p1), (0, .ref a0), (1, .int p1)]) hx hb dX8_nextWithRoom_1 rfl hl (by decide) rfl (fun ls hl => ?_)
  obtain ⟨nf, hq⟩ := hq
  exact lp_X8_nextWithRoom_2 C hr hlk hn h0  nf _ _ _ _ _ hq hw (lv_sub hl [1, 2, 0] rfl)

def wp_X8_weigh (g : Gh) (M0 : Mem) (a0 : Nat) (p1 : Int32) (p2 : Int32) (post : Mem → Prop) : Prop :=
  okc (gB g) M0 a0 8 ∧ (((p1 < 0) → post M0) ∧ (¬ (p1 < 0) → ∃ q2, mR M0 a0 5 = some q2 ∧ (okc (gB g) M0 q2 14 ∧ ((((nI (mN M0 q2)) ≤ p1) → post M0) ∧ (¬ ((nI (mN M0 q2)) ≤ p1) → vp_in p1 (mN M0 q2) ∧ ((((mI M0 q2 (Int32.toNatClampNeg p1)) < 0) → post M0) ∧ (¬ ((mI M0 q2 (Int32.toNatClampNeg p1)) < 0) → ((8 ≤ (mI M0 q2 (Int32.toNatClampNeg p1))) → post M0) ∧ (¬ (8 ≤ (mI M0 q2 (Int32.toNatClampNeg p1))) → ∃ q9, mR M0 a0 10 = some q9 ∧ (okc (gB g) M0 q9 14 ∧ (vp_in (mI M0 q2 (Int32.toNatClampNeg p1)) (mN M0 q9) ∧ (∀ M13, M13 = uI M0 q9 (Int32.toNatClampNeg (mI M0 q2 (Int32.toNatClampNeg p1))) ((mI M0 q9 (Int32.toNatClampNeg (mI M0 q2 (Int32.toNatClampNeg p1)))) + p2) → (∃ q15, mR M13 a0 6 = some q15 ∧ (okc (gB g) M0 q15 14 ∧ (vp_in p1 (mN M0 q15) ∧ (∀ M19, M19 = uI M13 a0 11 ((mI M13 a0 11) + (p2 * (mI M13 q15 (Int32.toNatClampNeg p1)))) → (post M19))))))))))))))))
set_option maxHeartbeats 4000000 in
set_option maxRecDepth 100000 in
theorem ct_X8_weigh {l : Launch} {g : Gh} {M0 : Mem} {a0 : Nat} {p1 : Int32} {p2 : Int32} {post : Mem → Prop} (hq : wp_X8_weigh g M0 a0 p1 p2 post) : Ct l g yX8_weigh cX8_weigh 3 none 0 0 0 [.ref a0, .int p1, .int p2] M0 (pV post) := by
  unfold wp_X8_weigh at hq
  obtain ⟨h0, hq⟩ := hq
  refine Ct.of (by decide) (Nat.le_of_ble_eq_true rfl) ?_
  intro p e s m below meth c ls C hr hlk hn hl hw
  have hx := C.1.1
  have hb := C.1.2.1
  have hl : lv_has ls 3 [(0, .ref a0), (1, .int p1), (2, .int p2)] := hl
  refine lv_iload_n hx hb dX8_weigh_0 rfl (lv_at hl 1 rfl) ?_
  refine lv_if_lt (tgt := 65) hx hb dX8_weigh_1 (by decide) (fun c1 => ?_) (fun c1 => ?_)
  · replace hq := hq.1 c1
    exact r_vret C hr hlk hw dX8_weigh_65 (by decide) (by decide) ⟨rfl, hq⟩
  · replace hq := hq.2 c1
    refine lv_iload_n hx hb dX8_weigh_4 rfl (lv_at hl 1 rfl) ?_
    refine lv_aload_n hx hb dX8_weigh_5 rfl (lv_at hl 0 rfl) ?_
    obtain ⟨q2, e3, hq⟩ := hq
    refine gfX8_15 C hw hw.2.2.1 h0 e3 dX8_weigh_6 ?_
    obtain ⟨h4, hq⟩ := hq
    refine q_alen C hw hw.2.2.1 h4 (by decide) (by decide) rfl dX8_weigh_9 ?_
    refine lv_icmp_ge (tgt := 65) hx hb dX8_weigh_10 (by decide) (fun c5 => ?_) (fun c5 => ?_)
    · replace hq := hq.1 c5
      exact r_vret C hr hlk hw dX8_weigh_65 (by decide) (by decide) ⟨rfl, hq⟩
    · replace hq := hq.2 c5
      refine lv_aload_n hx hb dX8_weigh_13 rfl (lv_at hl 0 rfl) ?_
      refine gfX8_15 C hw hw.2.2.1 h0 e3 dX8_weigh_14 ?_
      refine lv_iload_n hx hb dX8_weigh_17 rfl (lv_at hl 1 rfl) ?_
      obtain ⟨h6, hq⟩ := hq
      refine q_iald C hw hw.2.2.1 h4 h6 dX8_weigh_18 ?_
      refine lv_if_lt (tgt := 65) hx hb dX8_weigh_19 (by decide) (fun c7 => ?_) (fun c7 => ?_)
      · replace hq := hq.1 c7
        exact r_vret C hr hlk hw dX8_weigh_65 (by decide) (by decide) ⟨rfl, hq⟩
      · replace hq := hq.2 c7
        refine lv_aload_n hx hb dX8_weigh_22 rfl (lv_at hl 0 rfl) ?_
        refine gfX8_15 C hw hw.2.2.1 h0 e3 dX8_weigh_23 ?_
        refine lv_iload_n hx hb dX8_weigh_26 rfl (lv_at hl 1 rfl) ?_
        refine q_iald C hw hw.2.2.1 h4 h6 dX8_weigh_27 ?_
        refine lv_bipush (v := 8) hx hb dX8_weigh_28 (by decide) ?_
        refine lv_icmp_ge (tgt := 65) hx hb dX8_weigh_30 (by decide) (fun c8 => ?_) (fun c8 => ?_)
        · replace hq := hq.1 c8
          exact r_vret C hr hlk hw dX8_weigh_65 (by decide) (by decide) ⟨rfl, hq⟩
        · replace hq := hq.2 c8
          refine lv_aload_n hx hb dX8_weigh_33 rfl (lv_at hl 0 rfl) ?_
          obtain ⟨q9, e10, hq⟩ := hq
          refine gfX8_24 C hw hw.2.2.1 h0 e10 dX8_weigh_34 ?_
          refine lv_aload_n hx hb dX8_weigh_37 rfl (lv_at hl 0 rfl) ?_
          refine gfX8_15 C hw hw.2.2.1 h0 e3 dX8_weigh_38 ?_
          refine lv_iload_n hx hb dX8_weigh_41 rfl (lv_at hl 1 rfl) ?_
          refine q_iald C hw hw.2.2.1 h4 h6 dX8_weigh_42 ?_
          refine lv_dup2_11 hx hb dX8_weigh_43 rfl rfl ?_
          obtain ⟨h11, hq⟩ := hq
          obtain ⟨h12, hq⟩ := hq
          refine q_iald C hw hw.2.2.1 h11 h12 dX8_weigh_44 ?_
          refine lv_iload_n hx hb dX8_weigh_45 rfl (lv_at hl 2 rfl) ?_
          refine lv_iadd hx hb dX8_weigh_46 ?_
          refine q_iast C hw hw.2.2.1 h11 h12 dX8_weigh_47 (fun H locs hw => ?_)
          generalize e14 : uI M0 q9 (Int32.toNatClampNeg (mI M0 q2 (Int32.toNatClampNeg p1))) ((mI M0 q9 (Int32.toNatClampNeg (mI M0 q2 (Int32.toNatClampNeg p1)))) + p2) = M13 at hw
          replace hq := hq M13 e14.symm
          have e3 : mR M13 a0 5 = some q2 := by rw [← e14, mR_uI]; exact e3
          have e10 : mR M13 a0 10 = some q9 := by rw [← e14, mR_uI]; exact e10
          refine lv_aload_n hx hb dX8_weigh_48 rfl (lv_at hl 0 rfl) ?_
          refine lv_dup hx hb dX8_weigh_49 rfl ?_
          refine gfX8_65 C hw hw.2.2.1 h0 dX8_weigh_50 ?_
          refine lv_iload_n hx hb dX8_weigh_53 rfl (lv_at hl 2 rfl) ?_
          refine lv_aload_n hx hb dX8_weigh_54 rfl (lv_at hl 0 rfl) ?_
          obtain ⟨q15, e16, hq⟩ := hq
          refine gfX8_18 C hw hw.2.2.1 h0 e16 dX8_weigh_55 ?_
          refine lv_iload_n hx hb dX8_weigh_58 rfl (lv_at hl 1 rfl) ?_
          obtain ⟨h17, hq⟩ := hq
          obtain ⟨h18, hq⟩ := hq
          refine q_iald C hw hw.2.2.1 h17 h18 dX8_weigh_59 ?_
          refine lv_imul hx hb dX8_weigh_60 ?_
          refine lv_iadd hx hb dX8_weigh_61 ?_
          refine pfX8_65 C hw hw.2.2.1 h0 dX8_weigh_62 (fun H locs hw => ?_)
          generalize e20 : uI M13 a0 11 ((mI M13 a0 11) + (p2 * (mI M13 q15 (Int32.toNatClampNeg p1)))) = M19 at hw
          replace hq := hq M19 e20.symm
          have e3 : mR M19 a0 5 = some q2 := by rw [← e20, mR_uI]; exact e3
          have e10 : mR M19 a0 10 = some q9 := by rw [← e20, mR_uI]; exact e10
          have e16 : mR M19 a0 6 = some q15 := by rw [← e20, mR_uI]; exact e16
          exact r_vret C hr hlk hw dX8_weigh_65 (by decide) (by decide) ⟨rfl, hq⟩

def wp_X8_putIn (g : Gh) (M0 : Mem) (a0 : Nat) (p1 : Int32) (post : Mem → Prop) : Prop :=
  okc (gB g) M0 a0 8 ∧ (∃ q1, mR M0 a0 8 = some q1 ∧ (okc (gB g) M0 q1 14 ∧ ((((nI (mN M0 q1)) ≤ (mI M0 a0 9)) → post M0) ∧ (¬ ((nI (mN M0 q1)) ≤ (mI M0 a0 9)) → ∀ M5, M5 = uI M0 a0 3 ((mI M0 a0 3) + 1) → (vp_in (mI M5 a0 9) (mN M0 q1) ∧ (∀ M8, M8 = uI M5 q1 (Int32.toNatClampNeg (mI M5 a0 9)) p1 → (∀ M10, M10 = uI M8 a0 9 ((mI M8 a0 9) + 1) → (wp_X8_weigh g M10 a0 p1 1 (fun M13 => post M13)))))))))
set_option maxHeartbeats 4000000 in
set_option maxRecDepth 100000 in
theorem ct_X8_putIn {l : Launch} {g : Gh} {M0 : Mem} {a0 : Nat} {p1 : Int32} {post : Mem → Prop} (hq : wp_X8_putIn g M0 a0 p1 post) : Ct l g yX8_putIn cX8_putIn 2 none 1 0 0 [.ref a0, .int p1] M0 (pV post) := by
  unfold wp_X8_putIn at hq
  obtain ⟨h0, hq⟩ := hq
  refine Ct.of (by decide) (Nat.le_of_ble_eq_true rfl) ?_
  intro p e s m below meth c ls C hr hlk hn hl hw
  have hx := C.1.1
  have hb := C.1.2.1
  have hl : lv_has ls 2 [(0, .ref a0), (1, .int p1)] := hl
  refine lv_aload_n hx hb dX8_putIn_0 rfl (lv_at hl 0 rfl) ?_
  refine gfX8_62 C hw hw.2.2.1 h0 dX8_putIn_1 ?_
  refine lv_aload_n hx hb dX8_putIn_4 rfl (lv_at hl 0 rfl) ?_
  obtain ⟨q1, e2, hq⟩ := hq
  refine gfX8_21 C hw hw.2.2.1 h0 e2 dX8_putIn_5 ?_
  obtain ⟨h3, hq⟩ := hq
  refine q_alen C hw hw.2.2.1 h3 (by decide) (by decide) rfl dX8_putIn_8 ?_
  refine lv_icmp_ge (tgt := 48) hx hb dX8_putIn_9 (by decide) (fun c4 => ?_) (fun c4 => ?_)
  · replace hq := hq.1 c4
    exact r_vret C hr hlk hw dX8_putIn_48 (by decide) (by decide) ⟨rfl, hq⟩
  · replace hq := hq.2 c4
    refine lv_aload_n hx hb dX8_putIn_12 rfl (lv_at hl 0 rfl) ?_
    refine lv_dup hx hb dX8_putIn_13 rfl ?_
    refine gfX8_68 C hw hw.2.2.1 h0 dX8_putIn_14 ?_
    refine lv_iconst (v := 1) hx hb dX8_putIn_17 (by decide) ?_
    refine lv_iadd hx hb dX8_putIn_18 ?_
    refine pfX8_68 C hw hw.2.2.1 h0 dX8_putIn_19 (fun H locs hw => ?_)
    generalize e6 : uI M0 a0 3 ((mI M0 a0 3) + 1) = M5 at hw
    replace hq := hq M5 e6.symm
    have e2 : mR M5 a0 8 = some q1 := by rw [← e6, mR_uI]; exact e2
    refine lv_aload_n hx hb dX8_putIn_22 rfl (lv_at hl 0 rfl) ?_
    refine gfX8_21 C hw hw.2.2.1 h0 e2 dX8_putIn_23 ?_
    refine lv_aload_n hx hb dX8_putIn_26 rfl (lv_at hl 0 rfl) ?_
    refine gfX8_62 C hw hw.2.2.1 h0 dX8_putIn_27 ?_
    refine lv_iload_n hx hb dX8_putIn_30 rfl (lv_at hl 1 rfl) ?_
    obtain ⟨h7, hq⟩ := hq
    refine q_iast C hw hw.2.2.1 h3 h7 dX8_putIn_31 (fun H locs hw => ?_)
    generalize e9 : uI M5 q1 (Int32.toNatClampNeg (mI M5 a0 9)) p1 = M8 at hw
    replace hq := hq M8 e9.symm
    have e2 : mR M8 a0 8 = some q1 := by rw [← e9, mR_uI]; exact e2
    refine lv_aload_n hx hb dX8_putIn_32 rfl (lv_at hl 0 rfl) ?_
    refine lv_dup hx hb dX8_putIn_33 rfl ?_
    refine gfX8_62 C hw hw.2.2.1 h0 dX8_putIn_34 ?_
    refine lv_iconst (v := 1) hx hb dX8_putIn_37 (by decide) ?_
    refine lv_iadd hx hb dX8_putIn_38 ?_
    refine pfX8_62 C hw hw.2.2.1 h0 dX8_putIn_39 (fun H locs hw => ?_)
    generalize e11 : uI M8 a0 9 ((mI M8 a0 9) + 1) = M10 at hw
    replace hq := hq M10 e11.symm
    have e2 : mR M10 a0 8 = some q1 := by rw [← e11, mR_uI]; exact e2
    refine lv_aload_n hx hb dX8_putIn_42 rfl (lv_at hl 0 rfl) ?_
    refine lv_iload_n hx hb dX8_putIn_43 rfl (lv_at hl 1 rfl) ?_
    refine lv_iconst (v := 1) hx hb dX8_putIn_44 (by decide) ?_
    refine r_callV (T := TX8) (N := 15) (ci := 8) (index := 88) (n := 2) (d2 := 0) (mc := 0) (ms := 0) (As := [.int p1, .int 1]) (rest := []) C hw (ct_X8_weigh hq) kvX8_88 hq.1 (by decide) rfl ⟨by decide, by decide⟩ ⟨by decide, by decide⟩ rfl hl.1 rfl (Nat.le_of_ble_eq_true rfl) dX8_putIn_45 (fun r M13 H locs hp hle hw => ?_)
    obtain ⟨rfl, hq⟩ := hp
    refine W.eq (g2 := F0 m 48 ls []) rfl ?_
    exact r_vret C hr hlk hw dX8_putIn_48 (by decide) (by decide) ⟨rfl, hq⟩

def wp_X8_takeOut (g : Gh) (M0 : Mem) (a0 : Nat) (post : Int32 → Mem → Prop) : Prop :=
  okc (gB g) M0 a0 8 ∧ ((((mI M0 a0 9) < 1) → post (mI M0 a0 7) M0) ∧ (¬ ((mI M0 a0 9) < 1) → ∃ q2, mR M0 a0 8 = some q2 ∧ (okc (gB g) M0 q2 14 ∧ ((((mI M0 a0 9) ≤ (nI (mN M0 q2))) → ∀ M6, M6 = uI M0 a0 9 ((mI M0 a0 9) - 1) → (vp_in (mI M6 a0 9) (mN M0 q2) ∧ (wp_X8_weigh g M6 a0 (mI M6 q2 (Int32.toNatClampNeg (mI M6 a0 9))) (-1) (fun M10 => ∃ q11, mR M10 a0 8 = some q11 ∧ (okc (gB g) M0 q11 14 ∧ (vp_in (mI M10 a0 9) (mN M0 q11) ∧ (post (mI M10 q11 (Int32.toNatClampNeg (mI M10 a0 9))) M10))))))) ∧ (¬ ((mI M0 a0 9) ≤ (nI (mN M0 q2))) → post (mI M0 a0 7) M0)))))
set_option maxHeartbeats 4000000 in
set_option maxRecDepth 100000 in
theorem ct_X8_takeOut {l : Launch} {g : Gh} {M0 : Mem} {a0 : Nat} {post : Int32 → Mem → Prop} (hq : wp_X8_takeOut g M0 a0 post) : Ct l g yX8_takeOut cX8_takeOut 1 (some .int) 1 0 0 [.ref a0] M0 (pI post) := by
  unfold wp_X8_takeOut at hq
  obtain ⟨h0, hq⟩ := hq
  refine Ct.of (by decide) (Nat.le_of_ble_eq_true rfl) ?_
  intro p e s m below meth c ls C hr hlk hn hl hw
  have hx := C.1.1
  have hb := C.1.2.1
  have hl : lv_has ls 1 [(0, .ref a0)] := hl
  refine lv_aload_n hx hb dX8_takeOut_0 rfl (lv_at hl 0 rfl) ?_
  refine gfX8_62 C hw hw.2.2.1 h0 dX8_takeOut_1 ?_
  refine lv_iconst (v := 1) hx hb dX8_takeOut_4 (by decide) ?_
  refine lv_icmp_lt (tgt := 20) hx hb dX8_takeOut_5 (by decide) (fun c1 => ?_) (fun c1 => ?_)
  · replace hq := hq.1 c1
    refine lv_aload_n hx hb dX8_takeOut_20 rfl (lv_at hl 0 rfl) ?_
    refine gfX8_37 C hw hw.2.2.1 h0 dX8_takeOut_21 ?_
    exact r_iret C hr hlk hw dX8_takeOut_24 (by decide) (by decide) ⟨_, rfl, hq⟩
  · replace hq := hq.2 c1
    refine lv_aload_n hx hb dX8_takeOut_8 rfl (lv_at hl 0 rfl) ?_
    refine gfX8_62 C hw hw.2.2.1 h0 dX8_takeOut_9 ?_
    refine lv_aload_n hx hb dX8_takeOut_12 rfl (lv_at hl 0 rfl) ?_
    obtain ⟨q2, e3, hq⟩ := hq
    refine gfX8_21 C hw hw.2.2.1 h0 e3 dX8_takeOut_13 ?_
    obtain ⟨h4, hq⟩ := hq
    refine q_alen C hw hw.2.2.1 h4 (by decide) (by decide) rfl dX8_takeOut_16 ?_
    refine lv_icmp_le (tgt := 25) hx hb dX8_takeOut_17 (by decide) (fun c5 => ?_) (fun c5 => ?_)
    · replace hq := hq.1 c5
      refine lv_aload_n hx hb dX8_takeOut_25 rfl (lv_at hl 0 rfl) ?_
      refine lv_dup hx hb dX8_takeOut_26 rfl ?_
      refine gfX8_62 C hw hw.2.2.1 h0 dX8_takeOut_27 ?_
      refine lv_iconst (v := 1) hx hb dX8_takeOut_30 (by decide) ?_
      refine lv_isub hx hb dX8_takeOut_31 ?_
      refine pfX8_62 C hw hw.2.2.1 h0 dX8_takeOut_32 (fun H locs hw => ?_)
      generalize e7 : uI M0 a0 9 ((mI M0 a0 9) - 1) = M6 at hw
      replace hq := hq M6 e7.symm
      have e3 : mR M6 a0 8 = some q2 := by rw [← e7, mR_uI]; exact e3
      refine lv_aload_n hx hb dX8_takeOut_35 rfl (lv_at hl 0 rfl) ?_
      refine lv_aload_n hx hb dX8_takeOut_36 rfl (lv_at hl 0 rfl) ?_
      refine gfX8_21 C hw hw.2.2.1 h0 e3 dX8_takeOut_37 ?_
      refine lv_aload_n hx hb dX8_takeOut_40 rfl (lv_at hl 0 rfl) ?_
      refine gfX8_62 C hw hw.2.2.1 h0 dX8_takeOut_41 ?_
      obtain ⟨h8, hq⟩ := hq
      refine q_iald C hw hw.2.2.1 h4 h8 dX8_takeOut_44 ?_
      refine lv_iconst (v := (-1)) hx hb dX8_takeOut_45 (by decide) ?_
      refine r_callV (T := TX8) (N := 15) (ci := 8) (index := 88) (n := 2) (d2 := 0) (mc := 0) (ms := 0) (As := [.int (mI M6 q2 (Int32.toNatClampNeg (mI M6 a0 9))), .int (-1)]) (rest := []) C hw (ct_X8_weigh hq) kvX8_88 hq.1 (by decide) rfl ⟨by decide, by decide⟩ ⟨by decide, by decide⟩ rfl hl.1 rfl (Nat.le_of_ble_eq_true rfl) dX8_takeOut_46 (fun r M10 H locs hp hle hw => ?_)
      obtain ⟨rfl, hq⟩ := hp
      refine W.eq (g2 := F0 m 49 ls []) rfl ?_
      refine lv_aload_n hx hb dX8_takeOut_49 rfl (lv_at hl 0 rfl) ?_
      obtain ⟨q11, e12, hq⟩ := hq
      refine gfX8_21 C hw hw.2.2.1 h0 e12 dX8_takeOut_50 ?_
      refine lv_aload_n hx hb dX8_takeOut_53 rfl (lv_at hl 0 rfl) ?_
      refine gfX8_62 C hw hw.2.2.1 h0 dX8_takeOut_54 ?_
      obtain ⟨h13, hq⟩ := hq
      obtain ⟨h14, hq⟩ := hq
      refine q_iald C hw hw.2.2.1 h13 h14 dX8_takeOut_57 ?_
      exact r_iret C hr hlk hw dX8_takeOut_58 (by decide) (by decide) ⟨_, rfl, hq⟩
    · replace hq := hq.2 c5
      refine lv_aload_n hx hb dX8_takeOut_20 rfl (lv_at hl 0 rfl) ?_
      refine gfX8_37 C hw hw.2.2.1 h0 dX8_takeOut_21 ?_
      exact r_iret C hr hlk hw dX8_takeOut_24 (by decide) (by decide) ⟨_, rfl, hq⟩
