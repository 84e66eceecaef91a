set_option maxRecDepth 100000 in
def bd_X12_readRow_10 (w_X12_readPart : Gh → Mem → Nat → (Int32 → Mem → Prop) → Prop) (g : Gh) (M0 : Mem) (a0 : Nat) (post : Int32 → Mem → Prop)  (bk10 : Int32 × Int32 × Mem → Prop) (x1 : Int32) (x2 : Int32)  (M : Mem) : Prop :=
  w_X12_readPart g M a0 (fun v1 M2 => ((v1 = (-1)) → post (-1) M2) ∧ (¬ (v1 = (-1)) → wp_X12_hang g M2 a0 x1 x2 v1 (fun M5 => wp_X12_isPart g M5 a0 (fun v6 M7 => ((v6 = 0) → post x1 M7) ∧ (¬ (v6 = 0) → bk10 (x1, v1, M7))))))
set_option maxRecDepth 100000 in
def wp_X12_readRow (w_X12_readPart : Gh → Mem → Nat → (Int32 → Mem → Prop) → Prop) (g : Gh) (M0 : Mem) (a0 : Nat) (post : Int32 → Mem → Prop) : Prop :=
  okc (gB g) M0 a0 12 ∧ (wp_X12_node g M0 a0 1 0 0 (fun v9 M10 => (∃ n : Nat, lfp (fun bk z => bd_X12_readRow_10 w_X12_readPart g M0 a0 post  bk z.1 z.2.1 z.2.2) n (v9, (-1), M10))))
set_option maxHeartbeats 4000000 in
set_option maxRecDepth 100000 in
theorem lp_X12_readRow_10 {l : Launch} {g : Gh} {p : Program} {e : Env} {s : State} {m : MethodId} {args : Array Value} {below : List Frame} {meth : Method} {c : Code} {M0 : Mem} {a0 : Nat} {post : Int32 → Mem → Prop} {d : Nat} {w_X12_readPart : Gh → Mem → Nat → (Int32 → Mem → Prop) → Prop} {d_X12_readPart : Nat} (hd_X12_readPart : d_X12_readPart ≤ d) (hr_X12_readPart : ∀ {l : Launch} {g : Gh} {M0 : Mem} {a0 : Nat} {post : Int32 → Mem → Prop}, w_X12_readPart g M0 a0 post → okc (gB g) M0 a0 12 ∧ Ct l g yX12_readPart cX12_readPart 7 (some .int) d_X12_readPart 0 0 [.ref a0] M0 (pI post)) (C : Cx g p s m args c cX12_readRow 4 RX12) (hr : meth.sig.returnType = (some .int)) (hlk : meth.locks = false) (hn : meth.name = "readRow") (h0 : okc (gB g) M0 a0 12)  : ∀ (nf : Nat) (x1 : Int32) (x2 : Int32)  (M : Mem) (H : Heap) (locs : List Loc) (ls : Array Slot), lfp (fun bk z => bd_X12_readRow_10 w_X12_readPart g M0 a0 post  bk z.1 z.2.1 z.2.2) nf (x1, x2, M) → Wd g s M0 M H locs → lv_has ls 4 [(0, .ref a0), (1, .int x1), (2, .int x2)] → W p l e (rmo (d + 8) 0 0) s m args below meth c H locs 0 0 (MQ below (Cq g M0 (pI post)) args s 0 0 (gA g)) (F0 m 10 ls []) := by
  have hx := C.1.1
  have hb := C.1.2.1
  intro nf
  induction nf with
  | zero => intro _ _ _ H locs ls hq; exact hq.elim
  | succ nf hk10 =>
    intro x1 x2 M H locs ls hq hw hl
    replace hq : bd_X12_readRow_10 w_X12_readPart g M0 a0 post  (lfp (fun bk z => bd_X12_readRow_10 w_X12_readPart g M0 a0 post  bk z.1 z.2.1 z.2.2) nf) x1 x2 M := hq
    unfold bd_X12_readRow_10 at hq
    refine lv_aload_n hx hb dX12_readRow_10 rfl (lv_at hl 0 rfl) ?_
    refine r_callV (T := TX12) (N := 67) (ci := 12) (index := 206) (n := 0) (d2 := d_X12_readPart) (mc := 0) (ms := 0) (As := []) (rest := []) C hw (hr_X12_readPart hq).2 kvX12_206 (hr_X12_readPart (l := l) hq).1 (by decide) rfl ⟨by simp only [rmo]; omega, by simp only [rmo]; omega⟩ ⟨Nat.le_refl _, Nat.le_refl _⟩ rfl hl.1 rfl (Nat.le_of_ble_eq_true rfl) dX12_readRow_11 (fun r M2 H locs hp hle hw => ?_)
    obtain ⟨v1, rfl, hq⟩ := hp
    refine W.eq (g2 := F0 m 14 ls [.int v1]) rfl ?_
    refine lv_istore_n (lv' := [(3, .int v1), (0, .ref a0), (1, .int x1), (2, .int x2)]) hx hb dX12_readRow_14 rfl hl (by decide) rfl (fun ls hl => ?_)
    refine lv_iload_n hx hb dX12_readRow_15 rfl (lv_at hl 0 rfl) ?_
    refine lv_iconst (v := (-1)) hx hb dX12_readRow_16 (by decide) ?_
    refine lv_icmp_ne (tgt := 22) hx hb dX12_readRow_17 (by decide) (fun c3 => ?_) (fun c3 => ?_)
    · replace hq := hq.2 c3
      refine lv_aload_n hx hb dX12_readRow_22 rfl (lv_at hl 1 rfl) ?_
      refine lv_iload_n hx hb dX12_readRow_23 rfl (lv_at hl 2 rfl) ?_
      refine lv_iload_n hx hb dX12_readRow_24 rfl (lv_at hl 3 rfl) ?_
      refine lv_iload_n hx hb dX12_readRow_25 rfl (lv_at hl 0 rfl) ?_
      refine r_callV (T := TX12) (N := 67) (ci := 12) (index := 198) (n := 3) (d2 := 0) (mc := 0) (ms := 0) (As := [.int x1, .int x2, .int v1]) (rest := []) C hw (ct_X12_hang hq) kvX12_198 hq.1 (by decide) rfl ⟨by simp only [rmo]; omega, by simp only [rmo]; omega⟩ ⟨Nat.le_refl _, Nat.le_refl _⟩ rfl hl.1 rfl (Nat.le_of_ble_eq_true rfl) dX12_readRow_26 (fun r M5 H locs hp hle hw => ?_)
      obtain ⟨rfl, hq⟩ := hp
      refine W.eq (g2 := F0 m 29 ls []) rfl ?_
      refine lv_iload_n hx hb dX12_readRow_29 rfl (lv_at hl 0 rfl) ?_
      refine lv_istore_n (lv' := [(2, .int v1), (3, .int v1), (0, .ref a0), (1, .int x1)]) hx hb dX12_readRow_30 rfl hl (by decide) rfl (fun ls hl => ?_)
      refine lv_aload_n hx hb dX12_readRow_31 rfl (lv_at hl 2 rfl) ?_
      refine r_callV (T := TX12) (N := 67) (ci := 12) (index := 209) (n := 0) (d2 := 1) (mc := 0) (ms := 0) (As := []) (rest := []) C hw (ct_X12_isPart hq) kvX12_209 hq.1 (by decide) rfl ⟨by simp only [rmo]; omega, by simp only [rmo]; omega⟩ ⟨Nat.le_refl _, Nat.le_refl _⟩ rfl hl.1 rfl (Nat.le_of_ble_eq_true rfl) dX12_readRow_32 (fun r M7 H locs hp hle hw => ?_)
      obtain ⟨v6, rfl, hq⟩ := hp
      refine W.eq (g2 := F0 m 35 ls [.int v6]) rfl ?_
      refine lv_if_ne (tgt := 10) hx hb dX12_readRow_35 (by decide) (fun c8 => ?_) (fun c8 => ?_)
      · replace hq := hq.2 c8
        exact hk10 _ _ _ _ _ _ hq hw (lv_sub hl [2, 3, 0] rfl)
      · replace hq := hq.1 c8
        refine lv_iload_n hx hb dX12_readRow_38 rfl (lv_at hl 3 rfl) ?_
        exact r_iret C hr hlk hw dX12_readRow_39 (Nat.le_refl _) (Nat.le_refl _) ⟨_, rfl, hq⟩
    · replace hq := hq.1 c3
      refine lv_iconst (v := (-1)) hx hb dX12_readRow_20 (by decide) ?_
      exact r_iret C hr hlk hw dX12_readRow_21 (Nat.le_refl _) (Nat.le_refl _) ⟨_, rfl, hq⟩
set_option maxHeartbeats 4000000 in
set_option maxRecDepth 100000 in
theorem ct_X12_readRow {l : Launch} {g : Gh} {M0 : Mem} {a0 : Nat} {post : Int32 → Mem → Prop} {d : Nat} {w_X12_readPart : Gh → Mem → Nat → (Int32 → Mem → Prop) → Prop} {d_X12_readPart : Nat} (hd_X12_readPart : d_X12_readPart ≤ d) (hr_X12_readPart : ∀ {l : Launch} {g : Gh} {M0 : Mem} {a0 : Nat} {post : Int32 → Mem → Prop}, w_X12_readPart g M0 a0 post → okc (gB g) M0 a0 12 ∧ Ct l g yX12_readPart cX12_readPart 7 (some .int) d_X12_readPart 0 0 [.ref a0] M0 (pI post)) (hq : wp_X12_readRow w_X12_readPart g M0 a0 post) : Ct l g yX12_readRow cX12_readRow 4 (some .int) (d + 8) 0 0 [.ref a0] M0 (pI post) := by
  unfold wp_X12_readRow at hq
  obtain ⟨h0, hq⟩ := hq
  refine Ct.of (by decide) (Nat.le_of_ble_eq_true rfl) ?_
  intro p e s m below meth c ls C hr hlk hn hl hw
  have hx := C.1.1
  have hb := C.1.2.1
  have hl : lv_has ls 4 [(0, .ref a0)] := hl
  refine lv_aload_n hx hb dX12_readRow_0 rfl (lv_at hl 0 rfl) ?_
  refine lv_iconst (v := 1) hx hb dX12_readRow_1 (by decide) ?_
  refine lv_lconst (v := 0) hx hb dX12_readRow_2 (by decide) ?_
  refine lv_lconst (v := 0) hx hb dX12_readRow_3 (by decide) ?_
  refine r_callV (T := TX12) (N := 67) (ci := 12) (index := 190) (n := 3) (d2 := 0) (mc := 0) (ms := 0) (As := [.int 1, .long 0, .long 0]) (rest := []) C hw (ct_X12_node hq) kvX12_190 hq.1 (by decide) rfl ⟨by simp only [rmo]; omega, by simp only [rmo]; omega⟩ ⟨Nat.le_refl _, Nat.le_refl _⟩ rfl hl.1 rfl (Nat.le_of_ble_eq_true rfl) dX12_readRow_4 (fun r M10 H locs hp hle hw => ?_)
  obtain ⟨v9, rfl, hq⟩ := hp
  refine W.eq (g2 := F0 m 7 ls [.int v9]) rfl ?_
  refine lv_istore_n (lv' := [(1, .int v9), (0, .ref a0)]) hx hb dX12_readRow_7 rfl hl (by decide) rfl (fun ls hl => ?_)
  refine lv_iconst (v := (-1)) hx hb dX12_readRow_8 (by decide) ?_
  refine lv_istore_n (lv' := [(2, .int (-1)), (1, .int v9), (0, .ref a0)]) hx hb dX12_readRow_9 rfl hl (by decide) rfl (fun ls hl => ?_)
  obtain ⟨nf, hq⟩ := hq
  exact lp_X12_readRow_10 hd_X12_readPart hr_X12_readPart C hr hlk hn h0  nf _ _ _ _ _ _ hq hw (lv_sub hl [2, 1, 0] rfl)

set_option maxRecDepth 100000 in
def bd_X12_readForm_12 (w_X12_readRow : Gh → Mem → Nat → (Int32 → Mem → Prop) → Prop) (g : Gh) (M0 : Mem) (a0 : Nat) (post : Int32 → Mem → Prop)  (bk12 : Int32 × Int32 × Int32 × Mem → Prop) (x1 : Int32) (x2 : Int32) (x3 : Int32)  (M : Mem) : Prop :=
  ((x3 = 0) → post x1 M) ∧ (¬ (x3 = 0) → w_X12_readRow g M a0 (fun v2 M3 => ((v2 = (-1)) → post (-1) M3) ∧ (¬ (v2 = (-1)) → wp_X12_hang g M3 a0 x1 x2 v2 (fun M6 => wp_X12_isSign g M6 a0 124 (fun v7 M8 => ((v7 = 0) → bk12 (x1, v2, v7, M8)) ∧ (¬ (v7 = 0) → wp_X12_go g M8 a0 1 (fun M11 => bk12 (x1, v2, v7, M11))))))))
set_option maxRecDepth 100000 in
def wp_X12_readForm (w_X12_readRow : Gh → Mem → Nat → (Int32 → Mem → Prop) → Prop) (g : Gh) (M0 : Mem) (a0 : Nat) (post : Int32 → Mem → Prop) : Prop :=
  okc (gB g) M0 a0 12 ∧ (wp_X12_node g M0 a0 0 0 0 (fun v12 M13 => (∃ n : Nat, lfp (fun bk z => bd_X12_readForm_12 w_X12_readRow g M0 a0 post  bk z.1 z.2.1 z.2.2.1 z.2.2.2) n (v12, (-1), 1, M13))))
set_option maxHeartbeats 4000000 in
set_option maxRecDepth 100000 in
theorem lp_X12_readForm_12 {l : Launch} {g : Gh} {p : Program} {e : Env} {s : State} {m : MethodId} {args : Array Value} {below : List Frame} {meth : Method} {c : Code} {M0 : Mem} {a0 : Nat} {post : Int32 → Mem → Prop} {d : Nat} {w_X12_readRow : Gh → Mem → Nat → (Int32 → Mem → Prop) → Prop} {d_X12_readRow : Nat} (hd_X12_readRow : d_X12_readRow ≤ d) (hr_X12_readRow : ∀ {l : Launch} {g : Gh} {M0 : Mem} {a0 : Nat} {post : Int32 → Mem → Prop}, w_X12_readRow g M0 a0 post → okc (gB g) M0 a0 12 ∧ Ct l g yX12_readRow cX12_readRow 4 (some .int) d_X12_readRow 0 0 [.ref a0] M0 (pI post)) (C : Cx g p s m args c cX12_readForm 5 RX12) (hr : meth.sig.returnType = (some .int)) (hlk : meth.locks = false) (hn : meth.name = "readForm") (h0 : okc (gB g) M0 a0 12)  : ∀ (nf : Nat) (x1 : Int32) (x2 : Int32) (x3 : Int32)  (M : Mem) (H : Heap) (locs : List Loc) (ls : Array Slot), lfp (fun bk z => bd_X12_readForm_12 w_X12_readRow g M0 a0 post  bk z.1 z.2.1 z.2.2.1 z.2.2.2) nf (x1, x2, x3, M) → Wd g s M0 M H locs → lv_has ls 5 [(0, .ref a0), (1, .int x1), (2, .int x2), (3, .int x3)] → W p l e (rmo (d + 8) 0 0) s m args below meth c H locs 0 0 (MQ below (Cq g M0 (pI post)) args s 0 0 (gA g)) (F0 m 12 ls []) := by
  have hx := C.1.1
  have hb := C.1.2.1
  intro nf
  induction nf with
  | zero => intro _ _ _ _ H locs ls hq; exact hq.elim
  | succ nf hk12 =>
    intro x1 x2 x3 M H locs ls hq hw hl
    replace hq : bd_X12_readForm_12 w_X12_readRow g M0 a0 post  (lfp (fun bk z => bd_X12_readForm_12 w_X12_readRow g M0 a0 post  bk z.1 z.2.1 z.2.2.1 z.2.2.2) nf) x1 x2 x3 M := hq
    unfold bd_X12_readForm_12 at hq
    refine lv_iload_n hx hb dX12_readForm_12 rfl (lv_at hl 3 rfl) ?_
    refine lv_if_eq (tgt := 60) hx hb dX12_readForm_13 (by decide) (fun c1 => ?_) (fun c1 => ?_)
    · replace hq := hq.1 c1
      refine lv_iload_n hx hb dX12_readForm_60 rfl (lv_at hl 1 rfl) ?_
      exact r_iret C hr hlk hw dX12_readForm_61 (Nat.le_refl _) (Nat.le_refl _) ⟨_, rfl, hq⟩
    · replace hq := hq.2 c1
      refine lv_aload_n hx hb dX12_readForm_16 rfl (lv_at hl 0 rfl) ?_
      refine r_callV (T := TX12) (N := 67) (ci := 12) (index := 194) (n := 0) (d2 := d_X12_readRow) (mc := 0) (ms := 0) (As := []) (rest := []) C hw (hr_X12_readRow hq).2 kvX12_194 (hr_X12_readRow (l := l) hq).1 (by decide) rfl ⟨by simp only [rmo]; omega, by simp only [rmo]; omega⟩ ⟨Nat.le_refl _, Nat.le_refl _⟩ rfl hl.1 rfl (Nat.le_of_ble_eq_true rfl) dX12_readForm_17 (fun r M3 H locs hp hle hw => ?_)
      obtain ⟨v2, rfl, hq⟩ := hp
      refine W.eq (g2 := F0 m 20 ls [.int v2]) rfl ?_
      refine lv_istore (lv' := [(4, .int v2), (0, .ref a0), (1, .int x1), (2, .int x2), (3, .int x3)]) hx hb dX12_readForm_20 hl (by decide) rfl (fun ls hl => ?_)
      refine lv_iload hx hb dX12_readForm_22 (lv_at hl 0 rfl) ?_
      refine lv_iconst (v := (-1)) hx hb dX12_readForm_24 (by decide) ?_
      refine lv_icmp_ne (tgt := 30) hx hb dX12_readForm_25 (by decide) (fun c4 => ?_) (fun c4 => ?_)
      · replace hq := hq.2 c4
        refine lv_aload_n hx hb dX12_readForm_30 rfl (lv_at hl 1 rfl) ?_
        refine lv_iload_n hx hb dX12_readForm_31 rfl (lv_at hl 2 rfl) ?_
        refine lv_iload_n hx hb dX12_readForm_32 rfl (lv_at hl 3 rfl) ?_
        refine lv_iload hx hb dX12_readForm_33 (lv_at hl 0 rfl) ?_
        refine r_callV (T := TX12) (N := 67) (ci := 12) (index := 198) (n := 3) (d2 := 0) (mc := 0) (ms := 0) (As := [.int x1, .int x2, .int v2]) (rest := []) C hw (ct_X12_hang hq) kvX12_198 hq.1 (by decide) rfl ⟨by simp only [rmo]; omega, by simp only [rmo]; omega⟩ ⟨Nat.le_refl _, Nat.le_refl _⟩ rfl hl.1 rfl (Nat.le_of_ble_eq_true rfl) dX12_readForm_35 (fun r M6 H locs hp hle hw => ?_)
        obtain ⟨rfl, hq⟩ := hp
        refine W.eq (g2 := F0 m 38 ls []) rfl ?_
        refine lv_iload hx hb dX12_readForm_38 (lv_at hl 0 rfl) ?_
        refine lv_istore_n (lv' := [(2, .int v2), (4, .int v2), (0, .ref a0), (1, .int x1), (3, .int x3)]) hx hb dX12_readForm_40 rfl hl (by decide) rfl (fun ls hl => ?_)
        refine lv_aload_n hx hb dX12_readForm_41 rfl (lv_at hl 2 rfl) ?_
        refine lv_bipush (v := 124) hx hb dX12_readForm_42 (by decide) ?_
        refine r_callV (T := TX12) (N := 67) (ci := 12) (index := 187) (n := 1) (d2 := 0) (mc := 0) (ms := 0) (As := [.int 124]) (rest := []) C hw (ct_X12_isSign hq) kvX12_187 hq.1 (by decide) rfl ⟨by simp only [rmo]; omega, by simp only [rmo]; omega⟩ ⟨Nat.le_refl _, Nat.le_refl _⟩ rfl hl.1 rfl (Nat.le_of_ble_eq_true rfl) dX12_readForm_44 (fun r M8 H locs hp hle hw => ?_)
        obtain ⟨v7, rfl, hq⟩ := hp
        refine W.eq (g2 := F0 m 47 ls [.int v7]) rfl ?_
        refine lv_istore_n (lv' := [(3, .int v7), (2, .int v2), (4, .int v2), (0, .ref a0), (1, .int x1)]) hx hb dX12_readForm_47 rfl hl (by decide) rfl (fun ls hl => ?_)
        refine lv_iload_n hx hb dX12_readForm_48 rfl (lv_at hl 0 rfl) ?_
        refine lv_if_eq (tgt := 57) hx hb dX12_readForm_49 (by decide) (fun c9 => ?_) (fun c9 => ?_)
        · replace hq := hq.1 c9
          refine lv_goto (tgt := 12) hx hb dX12_readForm_57 (by decide) ?_
          exact hk12 _ _ _ _ _ _ _ hq hw (lv_sub hl [3, 4, 1, 0] rfl)
        · replace hq := hq.2 c9
          refine lv_aload_n hx hb dX12_readForm_52 rfl (lv_at hl 3 rfl) ?_
          refine lv_iconst (v := 1) hx hb dX12_readForm_53 (by decide) ?_
          refine r_callV (T := TX12) (N := 67) (ci := 12) (index := 202) (n := 1) (d2 := 2) (mc := 0) (ms := 0) (As := [.int 1]) (rest := []) C hw (ct_X12_go hq) kvX12_202 hq.1 (by decide) rfl ⟨by simp only [rmo]; omega, by simp only [rmo]; omega⟩ ⟨Nat.le_refl _, Nat.le_refl _⟩ rfl hl.1 rfl (Nat.le_of_ble_eq_true rfl) dX12_readForm_54 (fun r M11 H locs hp hle hw => ?_)
          obtain ⟨rfl, hq⟩ := hp
          refine W.eq (g2 := F0 m 57 ls []) rfl ?_
          refine lv_goto (tgt := 12) hx hb dX12_readForm_57 (by decide) ?_
          exact hk12 _ _ _ _ _ _ _ hq hw (lv_sub hl [3, 4, 1, 0] rfl)
      · replace hq := hq.1 c4
        refine lv_iconst (v := (-1)) hx hb dX12_readForm_28 (by decide) ?_
        exact r_iret C hr hlk hw dX12_readForm_29 (Nat.le_refl _) (Nat.le_refl _) ⟨_, rfl, hq⟩
set_option maxHeartbeats 4000000 in
set_option maxRecDepth 100000 in
theorem ct_X12_readForm {l : Launch} {g : Gh} {M0 : Mem} {a0 : Nat} {post : Int32 → Mem → Prop} {d : Nat} {w_X12_readRow : Gh → Mem → Nat → (Int32 → Mem → Prop) → Prop} {d_X12_readRow : Nat} (hd_X12_readRow : d_X12_readRow ≤ d) (hr_X12_readRow : ∀ {l : Launch} {g : Gh} {M0 : Mem} {a0 : Nat} {post : Int32 → Mem → Prop}, w_X12_readRow g M0 a0 post → okc (gB g) M0 a0 12 ∧ Ct l g yX12_readRow cX12_readRow 4 (some .int) d_X12_readRow 0 0 [.ref a0] M0 (pI post)) (hq : wp_X12_readForm w_X12_readRow g M0 a0 post) : Ct l g yX12_readForm cX12_readForm 5 (some .int) (d + 8) 0 0 [.ref a0] M0 (pI post) := by
  unfold wp_X12_readForm at hq
  obtain ⟨h0, hq⟩ := hq
  refine Ct.of (by decide) (Nat.le_of_ble_eq_true rfl) ?_
  intro p e s m below meth c ls C hr hlk hn hl hw
  have hx := C.1.1
  have hb := C.1.2.1
  have hl : lv_has ls 5 [(0, .ref a0)] := hl
  refine lv_aload_n hx hb dX12_readForm_0 rfl (lv_at hl 0 rfl) ?_
  refine lv_iconst (v := 0) hx hb dX12_readForm_1 (by decide) ?_
  refine lv_lconst (v := 0) hx hb dX12_readForm_2 (by decide) ?_
  refine lv_lconst (v := 0) hx hb dX12_readForm_3 (by decide) ?_
  refine r_callV (T := TX12) (N := 67) (ci := 12) (index := 190) (n := 3) (d2 := 0) (mc := 0) (ms := 0) (As := [.int 0, .long 0, .long 0]) (rest := []) C hw (ct_X12_node hq) kvX12_190 hq.1 (by decide) rfl ⟨by simp only [rmo]; omega, by simp only [rmo]; omega⟩ ⟨Nat.le_refl _, Nat.le_refl _⟩ rfl hl.1 rfl (Nat.le_of_ble_eq_true rfl) dX12_readForm_4 (fun r M13 H locs hp hle hw => ?_)
  obtain ⟨v12, rfl, hq⟩ := hp
  refine W.eq (g2 := F0 m 7 ls [.int v12]) rfl ?_
  refine lv_istore_n (lv' := [(1, .int v12), (0, .ref a0)]) hx hb dX12_readForm_7 rfl hl (by decide) rfl (fun ls hl => ?_)
  refine lv_iconst (v := (-1)) hx hb dX12_readForm_8 (by decide) ?_
  refine lv_istore_n (lv' := [(2, .int (-1)), (1, .int v12), (0, .ref a0)]) hx hb dX12_readForm_9 rfl hl (by decide) rfl (fun ls hl => ?_)
  refine lv_iconst (v := 1) hx hb dX12_readForm_10 (by decide) ?_
  refine lv_istore_n (lv' := [(3, .int 1), (2, .int (-1)), (1, .int v12), (0, .ref a0)]) hx hb dX12_readForm_11 rfl hl (by decide) rfl (fun ls hl => ?_)
  obtain ⟨nf, hq⟩ := hq
  exact lp_X12_readForm_12 hd_X12_readRow hr_X12_readRow C hr hlk hn h0  nf _ _ _ _ _ _ _ hq hw (lv_sub hl [3, 2, 1, 0] rfl)
def wpPart : Nat → Gh → Mem → Nat → (Int32 → Mem → Prop) → Prop
  | 0 => fun _ _ _ _ => False
  | n + 1 => wp_X12_readPart (wp_X12_readForm (wp_X12_readRow (wpPart n)))
def wpForm (n : Nat) : Gh → Mem → Nat → (Int32 → Mem → Prop) → Prop := wp_X12_readForm (wp_X12_readRow (wpPart n))
theorem ctPart2 : ∀ (n : Nat) {l : Launch} {g : Gh} {M0 : Mem} {a0 : Nat} {post : Int32 → Mem → Prop}, wpPart n g M0 a0 post → okc (gB g) M0 a0 12 ∧ Ct l g yX12_readPart cX12_readPart 7 (some .int) (24 * n) 0 0 [.ref a0] M0 (pI post)
  | 0, _, _, _, _, _, h => h.elim
  | n + 1, l, g, M0, a0, post, h => by
    have h : wp_X12_readPart (wp_X12_readForm (wp_X12_readRow (wpPart n))) g M0 a0 post := h
    have h2 := ct_X12_readPart (l := l) (d := 24 * n + 16) (Nat.le_refl _) (fun h => ⟨h.1, ct_X12_readForm (d := 24 * n + 8) (Nat.le_refl _) (fun h => ⟨h.1, ct_X12_readRow (d := 24 * n) (Nat.le_refl _) (fun h => ctPart2 n h) h⟩) h⟩) h
    rw [show 24 * (n + 1) = 24 * n + 16 + 8 by omega]
    exact ⟨h.1, h2⟩
theorem ctForm (n : Nat) {l : Launch} {g : Gh} {M0 : Mem} {a0 : Nat} {post : Int32 → Mem → Prop} (h : wpForm n g M0 a0 post) : Ct l g yX12_readForm cX12_readForm 5 (some .int) (24 * n + 16) 0 0 [.ref a0] M0 (pI post) :=
  ct_X12_readForm (d := 24 * n + 8) (Nat.le_refl _) (fun h => ⟨h.1, ct_X12_readRow (d := 24 * n) (Nat.le_refl _) (fun h => ctPart2 n h) h⟩) h

set_option maxRecDepth 100000 in
def lb_X12_question_141  (g : Gh) (M0 : Mem) (a0 : Nat) (p1 : Int32) (post : Int32 → Mem → Prop)    (M : Mem) : Prop :=
  ∃ q1, mR M a0 23 = some q1 ∧ (okc (gB g) M0 q1 17 ∧ (vp_in (mI M a0 16) (mN M0 q1) ∧ (∀ M5, M5 = uI M q1 (Int32.toNatClampNeg (mI M a0 16)) (vp_nar .boolean 0) → (∀ M7, M7 = uI M5 a0 16 ((mI M5 a0 16) + 1) → (post ((mI M7 a0 16) - 1) M7)))))
set_option maxRecDepth 100000 in
def lb_X12_question_89  (g : Gh) (M0 : Mem) (a0 : Nat) (p1 : Int32) (post : Int32 → Mem → Prop)  (x2 : Int32)  (M : Mem) : Prop :=
  ((x2 = (-1)) → post ((-1) - (mI M a0 10)) M) ∧ (¬ (x2 = (-1)) → ∃ q10, mR M a0 19 = some q10 ∧ (okc (gB g) M0 q10 14 ∧ (vp_in (mI M a0 16) (mN M0 q10) ∧ (∀ M14, M14 = uI M q10 (Int32.toNatClampNeg (mI M a0 16)) p1 → (∃ q16, mR M14 a0 20 = some q16 ∧ (okc (gB g) M0 q16 14 ∧ (vp_in (mI M14 a0 16) (mN M0 q16) ∧ (∀ M20, M20 = uI M14 q16 (Int32.toNatClampNeg (mI M14 a0 16)) 0 → (∃ q22, mR M20 a0 21 = some q22 ∧ (okc (gB g) M0 q22 14 ∧ (vp_in (mI M20 a0 16) (mN M0 q22) ∧ (∀ M26, M26 = uI M20 q22 (Int32.toNatClampNeg (mI M20 a0 16)) 0 → (∃ q28, mR M26 a0 22 = some q28 ∧ (okc (gB g) M0 q28 14 ∧ (vp_in (mI M26 a0 16) (mN M0 q28) ∧ (∀ M32, M32 = uI M26 q28 (Int32.toNatClampNeg (mI M26 a0 16)) 0 → (lb_X12_question_141  g M0 a0 p1 post   M32)))))))))))))))))
set_option maxRecDepth 100000 in
def lb_X12_question_56  (g : Gh) (M0 : Mem) (a0 : Nat) (p1 : Int32) (post : Int32 → Mem → Prop)    (M : Mem) : Prop :=
  ∀ M34, M34 = uI M a0 9 0 → (wp_X12_go g M34 a0 1 (fun M37 => wpForm 8 g M37 a0 (fun v38 M39 => ((v38 = (-1)) → lb_X12_question_89  g M0 a0 p1 post  v38 M39) ∧ (¬ (v38 = (-1)) → (((mI M39 a0 6) = 0) → lb_X12_question_89  g M0 a0 p1 post  v38 M39) ∧ (¬ ((mI M39 a0 6) = 0) → wp_X12_none g M39 a0 1 (fun v42 M43 => lb_X12_question_89  g M0 a0 p1 post  v42 M43))))))
set_option maxRecDepth 100000 in
def wp_X12_question  (g : Gh) (M0 : Mem) (a0 : Nat) (p1 : Int32) (post : Int32 → Mem → Prop) : Prop :=
  okc (gB g) M0 a0 12 ∧ (∀ M44, M44 = uI M0 a0 0 0 → (∀ M46, M46 = uI M44 a0 3 (mI M44 a0 2) → (∀ M48, M48 = uI M46 a0 2 0 → ((((mI M48 a0 16) = 60) → post (-300) M48) ∧ (¬ ((mI M48 a0 16) = 60) → ((p1 < 0) → post (-300) M48) ∧ (¬ (p1 < 0) → ((p1 < 8) → ∀ M53, M53 = uI M48 a0 4 0 → (∀ M55, M55 = uI M53 a0 17 0 → (∀ M57, M57 = uI M55 a0 18 0 → (lb_X12_question_56  g M0 a0 p1 post   M57)))) ∧ (¬ (p1 < 8) → post (-300) M48)))))))
set_option maxHeartbeats 4000000 in
set_option maxRecDepth 100000 in
theorem lt_X12_question_141 {l : Launch} {g : Gh} {p : Program} {e : Env} {s : State} {m : MethodId} {args : Array Value} {below : List Frame} {meth : Method} {c : Code} {H : Heap} {locs : List Loc} {ls : Array Slot} {M0 M : Mem} {a0 : Nat} {p1 : Int32} {post : Int32 → Mem → Prop}    (C : Cx g p s m args c cX12_question 3 RX12) (hr : meth.sig.returnType = (some .int)) (hlk : meth.locks = false) (hn : meth.name = "question") (h0 : okc (gB g) M0 a0 12)  (hq : lb_X12_question_141  g M0 a0 p1 post   M) (hw : Wd g s M0 M H locs) (hl : lv_has ls 3 [(0, .ref a0), (1, .int p1)]) : W p l e (rmo 209 0 0) s m args below meth c H locs 0 0 (MQ below (Cq g M0 (pI post)) args s 0 0 (gA g)) (F0 m 141 ls []) := by
  have hx := C.1.1
  have hb := C.1.2.1
  unfold lb_X12_question_141 at hq
  refine lv_aload_n hx hb dX12_question_141 rfl (lv_at hl 0 rfl) ?_
  obtain ⟨q1, e2, hq⟩ := hq
  refine gfX12_41 C hw hw.2.2.1 h0 e2 dX12_question_142 ?_
  refine lv_aload_n hx hb dX12_question_145 rfl (lv_at hl 0 rfl) ?_
  refine gfX12_181 C hw hw.2.2.1 h0 dX12_question_146 ?_
  refine lv_iconst (v := 0) hx hb dX12_question_149 (by decide) ?_
  obtain ⟨h3, hq⟩ := hq
  obtain ⟨h4, hq⟩ := hq
  refine q_zast C hw hw.2.2.1 h3 h4 dX12_question_150 (fun H locs hw => ?_)
  generalize e6 : uI M q1 (Int32.toNatClampNeg (mI M a0 16)) (vp_nar .boolean 0) = M5 at hw
  replace hq := hq M5 e6.symm
  have e2 : mR M5 a0 23 = some q1 := by rw [← e6, mR_uI]; exact e2
  refine lv_aload_n hx hb dX12_question_151 rfl (lv_at hl 0 rfl) ?_
  refine lv_dup hx hb dX12_question_152 rfl ?_
  refine gfX12_181 C hw hw.2.2.1 h0 dX12_question_153 ?_
  refine lv_iconst (v := 1) hx hb dX12_question_156 (by decide) ?_
  refine lv_iadd hx hb dX12_question_157 ?_
  refine pfX12_181 C hw hw.2.2.1 h0 dX12_question_158 (fun H locs hw => ?_)
  generalize e8 : uI M5 a0 16 ((mI M5 a0 16) + 1) = M7 at hw
  replace hq := hq M7 e8.symm
  have e2 : mR M7 a0 23 = some q1 := by rw [← e8, mR_uI]; exact e2
  refine lv_aload_n hx hb dX12_question_161 rfl (lv_at hl 0 rfl) ?_
  refine gfX12_181 C hw hw.2.2.1 h0 dX12_question_162 ?_
  refine lv_iconst (v := 1) hx hb dX12_question_165 (by decide) ?_
  refine lv_isub hx hb dX12_question_166 ?_
  exact r_iret C hr hlk hw dX12_question_167 (Nat.le_refl _) (Nat.le_refl _) ⟨_, rfl, hq⟩
set_option maxHeartbeats 4000000 in
set_option maxRecDepth 100000 in
theorem lt_X12_question_89 {l : Launch} {g : Gh} {p : Program} {e : Env} {s : State} {m : MethodId} {args : Array Value} {below : List Frame} {meth : Method} {c : Code} {H : Heap} {locs : List Loc} {ls : Array Slot} {M0 M : Mem} {a0 : Nat} {p1 : Int32} {post : Int32 → Mem → Prop} {x2 : Int32}   (C : Cx g p s m args c cX12_question 3 RX12) (hr : meth.sig.returnType = (some .int)) (hlk : meth.locks = false) (hn : meth.name = "question") (h0 : okc (gB g) M0 a0 12)  (hq : lb_X12_question_89  g M0 a0 p1 post  x2 M) (hw : Wd g s M0 M H locs) (hl : lv_has ls 3 [(0, .ref a0), (1, .int p1), (2, .int x2)]) : W p l e (rmo 209 0 0) s m args below meth c H locs 0 0 (MQ below (Cq g M0 (pI post)) args s 0 0 (gA g)) (F0 m 89 ls []) := by
  have hx := C.1.1
  have hb := C.1.2.1
  unfold lb_X12_question_89 at hq
  refine lv_iload_n hx hb dX12_question_89 rfl (lv_at hl 2 rfl) ?_
  refine lv_iconst (v := (-1)) hx hb dX12_question_90 (by decide) ?_
  refine lv_icmp_ne (tgt := 101) hx hb dX12_question_91 (by decide) (fun c9 => ?_) (fun c9 => ?_)
  · replace hq := hq.2 c9
    refine lv_aload_n hx hb dX12_question_101 rfl (lv_at hl 0 rfl) ?_
    obtain ⟨q10, e11, hq⟩ := hq
    refine gfX12_29 C hw hw.2.2.1 h0 e11 dX12_question_102 ?_
    refine lv_aload_n hx hb dX12_question_105 rfl (lv_at hl 0 rfl) ?_
    refine gfX12_181 C hw hw.2.2.1 h0 dX12_question_106 ?_
    refine lv_iload_n hx hb dX12_question_109 rfl (lv_at hl 1 rfl) ?_
    obtain ⟨h12, hq⟩ := hq
    obtain ⟨h13, hq⟩ := hq
    refine q_iast C hw hw.2.2.1 h12 h13 dX12_question_110 (fun H locs hw => ?_)
    generalize e15 : uI M q10 (Int32.toNatClampNeg (mI M a0 16)) p1 = M14 at hw
    replace hq := hq M14 e15.symm
    have e11 : mR M14 a0 19 = some q10 := by rw [← e15, mR_uI]; exact e11
    refine lv_aload_n hx hb dX12_question_111 rfl (lv_at hl 0 rfl) ?_
    obtain ⟨q16, e17, hq⟩ := hq
    refine gfX12_32 C hw hw.2.2.1 h0 e17 dX12_question_112 ?_
    refine lv_aload_n hx hb dX12_question_115 rfl (lv_at hl 0 rfl) ?_
    refine gfX12_181 C hw hw.2.2.1 h0 dX12_question_116 ?_
    refine lv_iconst (v := 0) hx hb dX12_question_119 (by decide) ?_
    obtain ⟨h18, hq⟩ := hq
    obtain ⟨h19, hq⟩ := hq
    refine q_iast C hw hw.2.2.1 h18 h19 dX12_question_120 (fun H locs hw => ?_)
    generalize e21 : uI M14 q16 (Int32.toNatClampNeg (mI M14 a0 16)) 0 = M20 at hw
    replace hq := hq M20 e21.symm
    have e11 : mR M20 a0 19 = some q10 := by rw [← e21, mR_uI]; exact e11
    have e17 : mR M20 a0 20 = some q16 := by rw [← e21, mR_uI]; exact e17
    refine lv_aload_n hx hb dX12_question_121 rfl (lv_at hl 0 rfl) ?_
    obtain ⟨q22, e23, hq⟩ := hq
    refine gfX12_35 C hw hw.2.2.1 h0 e23 dX12_question_122 ?_
    refine lv_aload_n hx hb dX12_question_125 rfl (lv_at hl 0 rfl) ?_
    refine gfX12_181 C hw hw.2.2.1 h0 dX12_question_126 ?_
    refine lv_iconst (v := 0) hx hb dX12_question_129 (by decide) ?_
    obtain ⟨h24, hq⟩ := hq
    obtain ⟨h25, hq⟩ := hq
    refine q_iast C hw hw.2.2.1 h24 h25 dX12_question_130 (fun H locs hw => ?_)
    generalize e27 : uI M20 q22 (Int32.toNatClampNeg (mI M20 a0 16)) 0 = M26 at hw
    replace hq := hq M26 e27.symm
    have e11 : mR M26 a0 19 = some q10 := by rw [← e27, mR_uI]; exact e11
    have e17 : mR M26 a0 20 = some q16 := by rw [← e27, mR_uI]; exact e17
    have e23 : mR M26 a0 21 = some q22 := by rw [← e27, mR_uI]; exact e23
    refine lv_aload_n hx hb dX12_question_131 rfl (lv_at hl 0 rfl) ?_
    obtain ⟨q28, e29, hq⟩ := hq
    refine gfX12_38 C hw hw.2.2.1 h0 e29 dX12_question_132 ?_
    refine lv_aload_n hx hb dX12_question_135 rfl (lv_at hl 0 rfl) ?_
    refine gfX12_181 C hw hw.2.2.1 h0 dX12_question_136 ?_
    refine lv_iconst (v := 0) hx hb dX12_question_139 (by decide) ?_
    obtain ⟨h30, hq⟩ := hq
    obtain ⟨h31, hq⟩ := hq
    refine q_iast C hw hw.2.2.1 h30 h31 dX12_question_140 (fun H locs hw => ?_)
    generalize e33 : uI M26 q28 (Int32.toNatClampNeg (mI M26 a0 16)) 0 = M32 at hw
    replace hq := hq M32 e33.symm
    have e11 : mR M32 a0 19 = some q10 := by rw [← e33, mR_uI]; exact e11
    have e17 : mR M32 a0 20 = some q16 := by rw [← e33, mR_uI]; exact e17
    have e23 : mR M32 a0 21 = some q22 := by rw [← e33, mR_uI]; exact e23
    have e29 : mR M32 a0 22 = some q28 := by rw [← e33, mR_uI]; exact e29
    exact lt_X12_question_141  C hr hlk hn h0  hq hw (lv_sub hl [0, 1] rfl)
  · replace hq := hq.1 c9
    refine lv_iconst (v := (-1)) hx hb dX12_question_94 (by decide) ?_
    refine lv_aload_n hx hb dX12_question_95 rfl (lv_at hl 0 rfl) ?_
    refine gfX12_178 C hw hw.2.2.1 h0 dX12_question_96 ?_
    refine lv_isub hx hb dX12_question_99 ?_
    exact r_iret C hr hlk hw dX12_question_100 (Nat.le_refl _) (Nat.le_refl _) ⟨_, rfl, hq⟩
set_option maxHeartbeats 4000000 in
set_option maxRecDepth 100000 in
theorem lt_X12_question_56 {l : Launch} {g : Gh} {p : Program} {e : Env} {s : State} {m : MethodId} {args : Array Value} {below : List Frame} {meth : Method} {c : Code} {H : Heap} {locs : List Loc} {ls : Array Slot} {M0 M : Mem} {a0 : Nat} {p1 : Int32} {post : Int32 → Mem → Prop}    (C : Cx g p s m args c cX12_question 3 RX12) (hr : meth.sig.returnType = (some .int)) (hlk : meth.locks = false) (hn : meth.name = "question") (h0 : okc (gB g) M0 a0 12)  (hq : lb_X12_question_56  g M0 a0 p1 post   M) (hw : Wd g s M0 M H locs) (hl : lv_has ls 3 [(0, .ref a0), (1, .int p1)]) : W p l e (rmo 209 0 0) s m args below meth c H locs 0 0 (MQ below (Cq g M0 (pI post)) args s 0 0 (gA g)) (F0 m 56 ls []) := by
  have hx := C.1.1
  have hb := C.1.2.1
  unfold lb_X12_question_56 at hq
  refine lv_aload_n hx hb dX12_question_56 rfl (lv_at hl 0 rfl) ?_
  refine lv_iconst (v := 0) hx hb dX12_question_57 (by decide) ?_
  refine pfX12_175 C hw hw.2.2.1 h0 dX12_question_58 (fun H locs hw => ?_)
  generalize e35 : uI M a0 9 0 = M34 at hw
  replace hq := hq M34 e35.symm
  refine lv_aload_n hx hb dX12_question_61 rfl (lv_at hl 0 rfl) ?_
  refine lv_iconst (v := 1) hx hb dX12_question_62 (by decide) ?_
  refine r_callV (T := TX12) (N := 67) (ci := 12) (index := 202) (n := 1) (d2 := 2) (mc := 0) (ms := 0) (As := [.int 1]) (rest := []) C hw (ct_X12_go hq) kvX12_202 hq.1 (by decide) rfl ⟨by decide, by decide⟩ ⟨by decide, by decide⟩ rfl hl.1 rfl (Nat.le_of_ble_eq_true rfl) dX12_question_63 (fun r M37 H locs hp hle hw => ?_)
  obtain ⟨rfl, hq⟩ := hp
  refine W.eq (g2 := F0 m 66 ls []) rfl ?_
  refine lv_aload_n hx hb dX12_question_66 rfl (lv_at hl 0 rfl) ?_
  refine r_callV (T := TX12) (N := 67) (ci := 12) (index := 222) (n := 0) (d2 := 208) (mc := 0) (ms := 0) (As := []) (rest := []) C hw (ctForm 8 hq) kvX12_222 (h0.up hw.2.2.1) (by decide) rfl ⟨by decide, by decide⟩ ⟨by decide, by decide⟩ rfl hl.1 rfl (Nat.le_of_ble_eq_true rfl) dX12_question_67 (fun r M39 H locs hp hle hw => ?_)
  obtain ⟨v38, rfl, hq⟩ := hp
  refine W.eq (g2 := F0 m 70 ls [.int v38]) rfl ?_
  refine lv_istore_n (lv' := [(2, .int v38), (0, .ref a0), (1, .int p1)]) hx hb dX12_question_70 rfl hl (by decide) rfl (fun ls hl => ?_)
  refine lv_iload_n hx hb dX12_question_71 rfl (lv_at hl 0 rfl) ?_
  refine lv_iconst (v := (-1)) hx hb dX12_question_72 (by decide) ?_
  refine lv_icmp_eq (tgt := 89) hx hb dX12_question_73 (by decide) (fun c40 => ?_) (fun c40 => ?_)
  · replace hq := hq.1 c40
    exact lt_X12_question_89  C hr hlk hn h0  hq hw (lv_sub hl [1, 2, 0] rfl)
  · replace hq := hq.2 c40
    refine lv_aload_n hx hb dX12_question_76 rfl (lv_at hl 1 rfl) ?_
    refine gfX12_143 C hw hw.2.2.1 h0 dX12_question_77 ?_
    refine lv_if_eq (tgt := 89) hx hb dX12_question_80 (by decide) (fun c41 => ?_) (fun c41 => ?_)
    · replace hq := hq.1 c41
      exact lt_X12_question_89  C hr hlk hn h0  hq hw (lv_sub hl [1, 2, 0] rfl)
    · replace hq := hq.2 c41
      refine lv_aload_n hx hb dX12_question_83 rfl (lv_at hl 1 rfl) ?_
      refine lv_iconst (v := 1) hx hb dX12_question_84 (by decide) ?_
      refine r_callV (T := TX12) (N := 67) (ci := 12) (index := 216) (n := 1) (d2 := 1) (mc := 0) (ms := 0) (As := [.int 1]) (rest := []) C hw (ct_X12_none hq) kvX12_216 hq.1 (by decide) rfl ⟨by decide, by decide⟩ ⟨by decide, by decide⟩ rfl hl.1 rfl (Nat.le_of_ble_eq_true rfl) dX12_question_85 (fun r M43 H locs hp hle hw => ?_)
      obtain ⟨v42, rfl, hq⟩ := hp
      refine W.eq (g2 := F0 m 88 ls [.int v42]) rfl ?_
      refine lv_istore_n (lv' := [(2, .int v42), (0, .ref a0), (1, .int p1)]) hx hb dX12_question_88 rfl hl (by decide) rfl (fun ls hl => ?_)
      exact lt_X12_question_89  C hr hlk hn h0  hq hw (lv_sub hl [1, 2, 0] rfl)
set_option maxHeartbeats 4000000 in
set_option maxRecDepth 100000 in
theorem ct_X12_question {l : Launch} {g : Gh} {M0 : Mem} {a0 : Nat} {p1 : Int32} {post : Int32 → Mem → Prop}  (hq : wp_X12_question  g M0 a0 p1 post) : Ct l g yX12_question cX12_question 3 (some .int) 209 0 0 [.ref a0, .int p1] M0 (pI post) := by
  unfold wp_X12_question at hq
  obtain ⟨h0, hq⟩ := hq
  refine Ct.of (by decide) (Nat.le_of_ble_eq_true rfl) ?_
  intro p e s m below meth c ls C hr hlk hn hl hw
  have hx := C.1.1
  have hb := C.1.2.1
  have hl : lv_has ls 3 [(0, .ref a0), (1, .int p1)] := hl
  refine lv_aload_n hx hb dX12_question_0 rfl (lv_at hl 0 rfl) ?_
  refine lv_iconst (v := 0) hx hb dX12_question_1 (by decide) ?_
  refine pfX12_123 C hw hw.2.2.1 h0 dX12_question_2 (fun H locs hw => ?_)
  generalize e45 : uI M0 a0 0 0 = M44 at hw
  replace hq := hq M44 e45.symm
  refine lv_aload_n hx hb dX12_question_5 rfl (lv_at hl 0 rfl) ?_
  refine lv_aload_n hx hb dX12_question_6 rfl (lv_at hl 0 rfl) ?_
  refine gfX12_127 C hw hw.2.2.1 h0 dX12_question_7 ?_
  refine pfX12_134 C hw hw.2.2.1 h0 dX12_question_10 (fun H locs hw => ?_)
  generalize e47 : uI M44 a0 3 (mI M44 a0 2) = M46 at hw
  replace hq := hq M46 e47.symm
  refine lv_aload_n hx hb dX12_question_13 rfl (lv_at hl 0 rfl) ?_
  refine lv_iconst (v := 0) hx hb dX12_question_14 (by decide) ?_
  refine pfX12_127 C hw hw.2.2.1 h0 dX12_question_15 (fun H locs hw => ?_)
  generalize e49 : uI M46 a0 2 0 = M48 at hw
  replace hq := hq M48 e49.symm
  refine lv_aload_n hx hb dX12_question_18 rfl (lv_at hl 0 rfl) ?_
  refine gfX12_181 C hw hw.2.2.1 h0 dX12_question_19 ?_
  refine lv_bipush (v := 60) hx hb dX12_question_22 (by decide) ?_
  refine lv_icmp_eq (tgt := 37) hx hb dX12_question_24 (by decide) (fun c50 => ?_) (fun c50 => ?_)
  · replace hq := hq.1 c50
    refine lv_sipush (v := (-300)) hx hb dX12_question_37 (by decide) ?_
    exact r_iret C hr hlk hw dX12_question_40 (Nat.le_refl _) (Nat.le_refl _) ⟨_, rfl, hq⟩
  · replace hq := hq.2 c50
    refine lv_iload_n hx hb dX12_question_27 rfl (lv_at hl 1 rfl) ?_
    refine lv_if_lt (tgt := 37) hx hb dX12_question_28 (by decide) (fun c51 => ?_) (fun c51 => ?_)
    · replace hq := hq.1 c51
      refine lv_sipush (v := (-300)) hx hb dX12_question_37 (by decide) ?_
      exact r_iret C hr hlk hw dX12_question_40 (Nat.le_refl _) (Nat.le_refl _) ⟨_, rfl, hq⟩
    · replace hq := hq.2 c51
      refine lv_iload_n hx hb dX12_question_31 rfl (lv_at hl 1 rfl) ?_
      refine lv_bipush (v := 8) hx hb dX12_question_32 (by decide) ?_
      refine lv_icmp_lt (tgt := 41) hx hb dX12_question_34 (by decide) (fun c52 => ?_) (fun c52 => ?_)
      · replace hq := hq.1 c52
        refine lv_aload_n hx hb dX12_question_41 rfl (lv_at hl 0 rfl) ?_
        refine lv_iconst (v := 0) hx hb dX12_question_42 (by decide) ?_
        refine pfX12_137 C hw hw.2.2.1 h0 dX12_question_43 (fun H locs hw => ?_)
        generalize e54 : uI M48 a0 4 0 = M53 at hw
        replace hq := hq M53 e54.symm
        refine lv_aload_n hx hb dX12_question_46 rfl (lv_at hl 0 rfl) ?_
        refine lv_iconst (v := 0) hx hb dX12_question_47 (by decide) ?_
        refine pfX12_184 C hw hw.2.2.1 h0 dX12_question_48 (fun H locs hw => ?_)
        generalize e56 : uI M53 a0 17 0 = M55 at hw
        replace hq := hq M55 e56.symm
        refine lv_aload_n hx hb dX12_question_51 rfl (lv_at hl 0 rfl) ?_
        refine lv_iconst (v := 0) hx hb dX12_question_52 (by decide) ?_
        refine pfX12_219 C hw hw.2.2.1 h0 dX12_question_53 (fun H locs hw => ?_)
        generalize e58 : uI M55 a0 18 0 = M57 at hw
        replace hq := hq M57 e58.symm
        exact lt_X12_question_56  C hr hlk hn h0  hq hw (lv_sub hl [0, 1] rfl)
      · replace hq := hq.2 c52
        refine lv_sipush (v := (-300)) hx hb dX12_question_37 (by decide) ?_
        exact r_iret C hr hlk hw dX12_question_40 (Nat.le_refl _) (Nat.le_refl _) ⟨_, rfl, hq⟩
