set_option maxRecDepth 100000 in
def lb_X12_readPart_326 (w_X12_readForm : Gh → Mem → Nat → (Int32 → Mem → Prop) → Prop) (g : Gh) (M0 : Mem) (a0 : Nat) (post : Int32 → Mem → Prop)  (x2 : Int32) (s0 : Nat) (s1 : Int32) (M : Mem) : Prop :=
  wp_X12_isSign g M s0 s1 (fun v1 M2 => ((v1 = 0) → wp_X12_none g M2 a0 1 (fun v8 M9 => post v8 M9)) ∧ (¬ (v1 = 0) → ∀ M4, M4 = uI M2 a0 18 ((mI M2 a0 18) - 1) → (wp_X12_go g M4 a0 1 (fun M7 => post x2 M7))))
set_option maxRecDepth 100000 in
def lb_X12_readPart_301 (w_X12_readForm : Gh → Mem → Nat → (Int32 → Mem → Prop) → Prop) (g : Gh) (M0 : Mem) (a0 : Nat) (post : Int32 → Mem → Prop)  (x1 : Int32) (x2 : Int32)  (M : Mem) : Prop :=
  ((x1 = 91) → lb_X12_readPart_326 w_X12_readForm g M0 a0 post  x2 a0 93 M) ∧ (¬ (x1 = 91) → ((x1 = 40) → lb_X12_readPart_326 w_X12_readForm g M0 a0 post  x2 a0 41 M) ∧ (¬ (x1 = 40) → lb_X12_readPart_326 w_X12_readForm g M0 a0 post  x2 a0 125 M))
set_option maxRecDepth 100000 in
def lb_X12_readPart_288 (w_X12_readForm : Gh → Mem → Nat → (Int32 → Mem → Prop) → Prop) (g : Gh) (M0 : Mem) (a0 : Nat) (post : Int32 → Mem → Prop) (bk216 : Int32 × Int32 × Int32 × Int32 × Int32 × Mem → Prop) (x1 : Int32) (x2 : Int32) (x3 : Int32) (x4 : Int32) (x5 : Int32)  (M : Mem) : Prop :=
  ((x5 = 0) → bk216 (x1, x2, x3, x4, x5, M)) ∧ (¬ (x5 = 0) → wp_X12_go g M a0 1 (fun M14 => bk216 (x1, x2, x3, x4, x5, M14)))
set_option maxRecDepth 100000 in
def lb_X12_readPart_282 (w_X12_readForm : Gh → Mem → Nat → (Int32 → Mem → Prop) → Prop) (g : Gh) (M0 : Mem) (a0 : Nat) (post : Int32 → Mem → Prop)    (M : Mem) : Prop :=
  wp_X12_none g M a0 3 (fun v15 M16 => post v15 M16)
set_option maxRecDepth 100000 in
def lb_X12_readPart_269 (w_X12_readForm : Gh → Mem → Nat → (Int32 → Mem → Prop) → Prop) (g : Gh) (M0 : Mem) (a0 : Nat) (post : Int32 → Mem → Prop) (bk216 : Int32 × Int32 × Int32 × Int32 × Int32 × Mem → Prop) (x1 : Int32) (x2 : Int32) (x3 : Int32) (x4 : Int32) (s0 : Int32) (M : Mem) : Prop :=
  ((s0 = 0) → lb_X12_readPart_288 w_X12_readForm g M0 a0 post bk216 x1 x2 x3 x4 s0 M) ∧ (¬ (s0 = 0) → ((x4 = 5) → lb_X12_readPart_282 w_X12_readForm g M0 a0 post   M) ∧ (¬ (x4 = 5) → lb_X12_readPart_288 w_X12_readForm g M0 a0 post bk216 x1 x2 x3 x4 s0 M))
set_option maxRecDepth 100000 in
def bd_X12_readPart_216 (w_X12_readForm : Gh → Mem → Nat → (Int32 → Mem → Prop) → Prop) (g : Gh) (M0 : Mem) (a0 : Nat) (post : Int32 → Mem → Prop)  (bk216 : Int32 × Int32 × Int32 × Int32 × Int32 × Mem → Prop) (x1 : Int32) (x2 : Int32) (x3 : Int32) (x4 : Int32) (x5 : Int32)  (M : Mem) : Prop :=
  ((x5 = 0) → lb_X12_readPart_301 w_X12_readForm g M0 a0 post  x1 x2 M) ∧ (¬ (x5 = 0) → w_X12_readForm g M a0 (fun v20 M21 => ((v20 = (-1)) → post (-1) M21) ∧ (¬ (v20 = (-1)) → wp_X12_hang g M21 a0 x2 x3 v20 (fun M24 => ((x1 = 123) → wp_X12_isSign g M24 a0 44 (fun v26 M27 => ((v26 = 0) → lb_X12_readPart_269 w_X12_readForm g M0 a0 post bk216 x1 x2 v20 (x4 + 1) 0 M27) ∧ (¬ (v26 = 0) → lb_X12_readPart_269 w_X12_readForm g M0 a0 post bk216 x1 x2 v20 (x4 + 1) 1 M27))) ∧ (¬ (x1 = 123) → lb_X12_readPart_269 w_X12_readForm g M0 a0 post bk216 x1 x2 v20 (x4 + 1) 0 M24)))))
set_option maxRecDepth 100000 in
def lb_X12_readPart_197 (w_X12_readForm : Gh → Mem → Nat → (Int32 → Mem → Prop) → Prop) (g : Gh) (M0 : Mem) (a0 : Nat) (post : Int32 → Mem → Prop)  (x1 : Int32) (s0 : Nat) (s1 : Int32) (M : Mem) : Prop :=
  wp_X12_node g M s0 s1 0 0 (fun v29 M30 => wp_X12_go g M30 a0 1 (fun M32 => (∃ n : Nat, lfp (fun bk z => bd_X12_readPart_216 w_X12_readForm g M0 a0 post  bk z.1 z.2.1 z.2.2.1 z.2.2.2.1 z.2.2.2.2.1 z.2.2.2.2.2) n (x1, v29, (-1), 0, 1, M32))))
set_option maxRecDepth 100000 in
def lb_X12_readPart_173 (w_X12_readForm : Gh → Mem → Nat → (Int32 → Mem → Prop) → Prop) (g : Gh) (M0 : Mem) (a0 : Nat) (post : Int32 → Mem → Prop)  (x1 : Int32)  (M : Mem) : Prop :=
  ((x1 = 91) → lb_X12_readPart_197 w_X12_readForm g M0 a0 post  x1 a0 5 M) ∧ (¬ (x1 = 91) → ((x1 = 40) → lb_X12_readPart_197 w_X12_readForm g M0 a0 post  x1 a0 6 M) ∧ (¬ (x1 = 40) → lb_X12_readPart_197 w_X12_readForm g M0 a0 post  x1 a0 7 M))
set_option maxRecDepth 100000 in
def lb_X12_readPart_119 (w_X12_readForm : Gh → Mem → Nat → (Int32 → Mem → Prop) → Prop) (g : Gh) (M0 : Mem) (a0 : Nat) (post : Int32 → Mem → Prop)  (x1 : Int32)  (M : Mem) : Prop :=
  ∃ q35, mR M a0 11 = some q35 ∧ (okc (gB g) M0 q35 14 ∧ (vp_in x1 (mN M0 q35) ∧ (∀ M39, M39 = uI M q35 (Int32.toNatClampNeg x1) 4 → (∃ q41, mR M39 a0 15 = some q41 ∧ (okc (gB g) M0 q41 15 ∧ (vp_in x1 (mN M0 q41) ∧ (∀ M45, M45 = uJ M39 q41 (Int32.toNatClampNeg x1) (mJ M39 a0 8) → (wp_X12_go g M45 a0 1 (fun M48 => post x1 M48)))))))))
set_option maxRecDepth 100000 in
def lb_X12_readPart_64 (w_X12_readForm : Gh → Mem → Nat → (Int32 → Mem → Prop) → Prop) (g : Gh) (M0 : Mem) (a0 : Nat) (post : Int32 → Mem → Prop)  (x1 : Int32)  (M : Mem) : Prop :=
  wp_X12_go g M a0 1 (fun M50 => wp_X12_isSign g M50 a0 46 (fun v51 M52 => ((v51 = 0) → post x1 M52) ∧ (¬ (v51 = 0) → wp_X12_go g M52 a0 1 (fun M55 => (((mI M55 a0 6) = 3) → ∃ q57, mR M55 a0 14 = some q57 ∧ (okc (gB g) M0 q57 15 ∧ (vp_in x1 (mN M0 q57) ∧ (((0 ≤ (lg_cmp (mJ M55 a0 8) (mJ M55 q57 (Int32.toNatClampNeg x1)))) → lb_X12_readPart_119 w_X12_readForm g M0 a0 post  x1 M55) ∧ (¬ (0 ≤ (lg_cmp (mJ M55 a0 8) (mJ M55 q57 (Int32.toNatClampNeg x1)))) → wp_X12_none g M55 a0 2 (fun v62 M63 => post v62 M63)))))) ∧ (¬ ((mI M55 a0 6) = 3) → wp_X12_none g M55 a0 1 (fun v64 M65 => post v64 M65))))))
set_option maxRecDepth 100000 in
def wp_X12_readPart (w_X12_readForm : Gh → Mem → Nat → (Int32 → Mem → Prop) → Prop) (g : Gh) (M0 : Mem) (a0 : Nat) (post : Int32 → Mem → Prop) : Prop :=
  okc (gB g) M0 a0 12 ∧ (wp_X12_isPart g M0 a0 (fun v66 M67 => ((v66 = 0) → wp_X12_none g M67 a0 1 (fun v82 M83 => post v82 M83)) ∧ (¬ (v66 = 0) → (((mI M67 a0 6) = 2) → wp_X12_node g M67 a0 2 (mJ M67 a0 8) (mJ M67 a0 8) (fun v78 M79 => wp_X12_go g M79 a0 1 (fun M81 => post v78 M81))) ∧ (¬ ((mI M67 a0 6) = 2) → (((mI M67 a0 6) = 3) → wp_X12_node g M67 a0 3 (mJ M67 a0 8) (mJ M67 a0 8) (fun v76 M77 => lb_X12_readPart_64 w_X12_readForm g M0 a0 post  v76 M77)) ∧ (¬ ((mI M67 a0 6) = 3) → (((mI M67 a0 18) = 6) → wp_X12_none g M67 a0 3 (fun v74 M75 => post v74 M75)) ∧ (¬ ((mI M67 a0 18) = 6) → ∀ M72, M72 = uI M67 a0 18 ((mI M67 a0 18) + 1) → (lb_X12_readPart_173 w_X12_readForm g M0 a0 post  (mI M72 a0 7) M72)))))))
set_option maxHeartbeats 4000000 in
set_option maxRecDepth 100000 in
theorem lt_X12_readPart_326 {l : Launch} {g : Gh} {p : Program} {e : Env} {s : State} {m : MethodId} {args : Array Value} {below : List Frame} {meth : Method} {c : Code} {H : Heap} {locs : List Loc} {ls : Array Slot} {M0 M : Mem} {a0 : Nat} {post : Int32 → Mem → Prop} {x2 : Int32} {s0 : Nat} {s1 : Int32} {d : Nat} {w_X12_readForm : Gh → Mem → Nat → (Int32 → Mem → Prop) → Prop} {d_X12_readForm : Nat} (hd_X12_readForm : d_X12_readForm ≤ d) (hr_X12_readForm : ∀ {l : Launch} {g : Gh} {M0 : Mem} {a0 : Nat} {post : Int32 → Mem → Prop}, w_X12_readForm g M0 a0 post → okc (gB g) M0 a0 12 ∧ Ct l g yX12_readForm cX12_readForm 5 (some .int) d_X12_readForm 0 0 [.ref a0] M0 (pI post)) (C : Cx g p s m args c cX12_readPart 7 RX12) (hr : meth.sig.returnType = (some .int)) (hlk : meth.locks = false) (hn : meth.name = "readPart") (h0 : okc (gB g) M0 a0 12)  (hq : lb_X12_readPart_326 w_X12_readForm g M0 a0 post  x2 s0 s1 M) (hw : Wd g s M0 M H locs) (hl : lv_has ls 7 [(0, .ref a0), (2, .int x2)]) : W p l e (rmo (d + 8) 0 0) s m args below meth c H locs 0 0 (MQ below (Cq g M0 (pI post)) args s 0 0 (gA g)) (F0 m 326 ls [.int s1, .ref s0]) := by
  have hx := C.1.1
  have hb := C.1.2.1
  unfold lb_X12_readPart_326 at hq
  refine r_callV (T := TX12) (N := 67) (ci := 12) (index := 187) (n := 1) (d2 := 0) (mc := 0) (ms := 0) (As := [.int s1]) (rest := []) C hw (ct_X12_isSign hq) kvX12_187 hq.1 (by decide) rfl ⟨by simp only [rmo]; omega, by simp only [rmo]; omega⟩ ⟨Nat.le_refl _, Nat.le_refl _⟩ rfl hl.1 rfl (Nat.le_of_ble_eq_true rfl) dX12_readPart_326 (fun r M2 H locs hp hle hw => ?_)
  obtain ⟨v1, rfl, hq⟩ := hp
  refine W.eq (g2 := F0 m 329 ls [.int v1]) rfl ?_
  refine lv_if_ne (tgt := 338) hx hb dX12_readPart_329 (by decide) (fun c3 => ?_) (fun c3 => ?_)
  · replace hq := hq.2 c3
    refine lv_aload_n hx hb dX12_readPart_338 rfl (lv_at hl 0 rfl) ?_
    refine lv_dup hx hb dX12_readPart_339 rfl ?_
    refine gfX12_219 C hw hw.2.2.1 h0 dX12_readPart_340 ?_
    refine lv_iconst (v := 1) hx hb dX12_readPart_343 (by decide) ?_
    refine lv_isub hx hb dX12_readPart_344 ?_
    refine pfX12_219 C hw hw.2.2.1 h0 dX12_readPart_345 (fun H locs hw => ?_)
    generalize e5 : uI M2 a0 18 ((mI M2 a0 18) - 1) = M4 at hw
    replace hq := hq M4 e5.symm
    refine lv_aload_n hx hb dX12_readPart_348 rfl (lv_at hl 0 rfl) ?_
    refine lv_iconst (v := 1) hx hb dX12_readPart_349 (by decide) ?_
    refine r_callV (T := TX12) (N := 67) (ci := 12) (index := 202) (n := 1) (d2 := 2) (mc := 0) (ms := 0) (As := [.int 1]) (rest := []) C hw (ct_X12_go hq) kvX12_202 hq.1 (by decide) rfl ⟨by simp only [rmo]; omega, by simp only [rmo]; omega⟩ ⟨Nat.le_refl _, Nat.le_refl _⟩ rfl hl.1 rfl (Nat.le_of_ble_eq_true rfl) dX12_readPart_350 (fun r M7 H locs hp hle hw => ?_)
    obtain ⟨rfl, hq⟩ := hp
    refine W.eq (g2 := F0 m 353 ls []) rfl ?_
    refine lv_iload_n hx hb dX12_readPart_353 rfl (lv_at hl 1 rfl) ?_
    exact r_iret C hr hlk hw dX12_readPart_354 (Nat.le_refl _) (Nat.le_refl _) ⟨_, rfl, hq⟩
  · replace hq := hq.1 c3
    refine lv_aload_n hx hb dX12_readPart_332 rfl (lv_at hl 0 rfl) ?_
    refine lv_iconst (v := 1) hx hb dX12_readPart_333 (by decide) ?_
    refine r_callV (T := TX12) (N := 67) (ci := 12) (index := 216) (n := 1) (d2 := 1) (mc := 0) (ms := 0) (As := [.int 1]) (rest := []) C hw (ct_X12_none hq) kvX12_216 hq.1 (by decide) rfl ⟨by simp only [rmo]; omega, by simp only [rmo]; omega⟩ ⟨Nat.le_refl _, Nat.le_refl _⟩ rfl hl.1 rfl (Nat.le_of_ble_eq_true rfl) dX12_readPart_334 (fun r M9 H locs hp hle hw => ?_)
    obtain ⟨v8, rfl, hq⟩ := hp
    refine W.eq (g2 := F0 m 337 ls [.int v8]) rfl ?_
    exact r_iret C hr hlk hw dX12_readPart_337 (Nat.le_refl _) (Nat.le_refl _) ⟨_, rfl, hq⟩
set_option maxHeartbeats 4000000 in
set_option maxRecDepth 100000 in
theorem lt_X12_readPart_301 {l : Launch} {g : Gh} {p : Program} {e : Env} {s : State} {m : MethodId} {args : Array Value} {below : List Frame} {meth : Method} {c : Code} {H : Heap} {locs : List Loc} {ls : Array Slot} {M0 M : Mem} {a0 : Nat} {post : Int32 → Mem → Prop} {x1 : Int32} {x2 : Int32}  {d : Nat} {w_X12_readForm : Gh → Mem → Nat → (Int32 → Mem → Prop) → Prop} {d_X12_readForm : Nat} (hd_X12_readForm : d_X12_readForm ≤ d) (hr_X12_readForm : ∀ {l : Launch} {g : Gh} {M0 : Mem} {a0 : Nat} {post : Int32 → Mem → Prop}, w_X12_readForm g M0 a0 post → okc (gB g) M0 a0 12 ∧ Ct l g yX12_readForm cX12_readForm 5 (some .int) d_X12_readForm 0 0 [.ref a0] M0 (pI post)) (C : Cx g p s m args c cX12_readPart 7 RX12) (hr : meth.sig.returnType = (some .int)) (hlk : meth.locks = false) (hn : meth.name = "readPart") (h0 : okc (gB g) M0 a0 12)  (hq : lb_X12_readPart_301 w_X12_readForm g M0 a0 post  x1 x2 M) (hw : Wd g s M0 M H locs) (hl : lv_has ls 7 [(0, .ref a0), (1, .int x1), (2, .int x2)]) : W p l e (rmo (d + 8) 0 0) s m args below meth c H locs 0 0 (MQ below (Cq g M0 (pI post)) args s 0 0 (gA g)) (F0 m 301 ls []) := by
  have hx := C.1.1
  have hb := C.1.2.1
  unfold lb_X12_readPart_301 at hq
  refine lv_aload_n hx hb dX12_readPart_301 rfl (lv_at hl 0 rfl) ?_
  refine lv_iload_n hx hb dX12_readPart_302 rfl (lv_at hl 1 rfl) ?_
  refine lv_bipush (v := 91) hx hb dX12_readPart_303 (by decide) ?_
  refine lv_icmp_ne (tgt := 313) hx hb dX12_readPart_305 (by decide) (fun c10 => ?_) (fun c10 => ?_)
  · replace hq := hq.2 c10
    refine lv_iload_n hx hb dX12_readPart_313 rfl (lv_at hl 1 rfl) ?_
    refine lv_bipush (v := 40) hx hb dX12_readPart_314 (by decide) ?_
    refine lv_icmp_ne (tgt := 324) hx hb dX12_readPart_316 (by decide) (fun c11 => ?_) (fun c11 => ?_)
    · replace hq := hq.2 c11
      refine lv_bipush (v := 125) hx hb dX12_readPart_324 (by decide) ?_
      exact lt_X12_readPart_326 hd_X12_readForm hr_X12_readForm C hr hlk hn h0  hq hw (lv_sub hl [0, 2] rfl)
    · replace hq := hq.1 c11
      refine lv_bipush (v := 41) hx hb dX12_readPart_319 (by decide) ?_
      refine lv_goto (tgt := 326) hx hb dX12_readPart_321 (by decide) ?_
      exact lt_X12_readPart_326 hd_X12_readForm hr_X12_readForm C hr hlk hn h0  hq hw (lv_sub hl [0, 2] rfl)
  · replace hq := hq.1 c10
    refine lv_bipush (v := 93) hx hb dX12_readPart_308 (by decide) ?_
    refine lv_goto (tgt := 326) hx hb dX12_readPart_310 (by decide) ?_
    exact lt_X12_readPart_326 hd_X12_readForm hr_X12_readForm C hr hlk hn h0  hq hw (lv_sub hl [0, 2] rfl)
set_option maxHeartbeats 4000000 in
set_option maxRecDepth 100000 in
theorem lt_X12_readPart_288 {l : Launch} {g : Gh} {p : Program} {e : Env} {s : State} {m : MethodId} {args : Array Value} {below : List Frame} {meth : Method} {c : Code} {H : Heap} {locs : List Loc} {ls : Array Slot} {M0 M : Mem} {a0 : Nat} {post : Int32 → Mem → Prop} {x1 : Int32} {x2 : Int32} {x3 : Int32} {x4 : Int32} {x5 : Int32}  {d : Nat} {w_X12_readForm : Gh → Mem → Nat → (Int32 → Mem → Prop) → Prop} {d_X12_readForm : Nat} (hd_X12_readForm : d_X12_readForm ≤ d) (hr_X12_readForm : ∀ {l : Launch} {g : Gh} {M0 : Mem} {a0 : Nat} {post : Int32 → Mem → Prop}, w_X12_readForm g M0 a0 post → okc (gB g) M0 a0 12 ∧ Ct l g yX12_readForm cX12_readForm 5 (some .int) d_X12_readForm 0 0 [.ref a0] M0 (pI post)) (C : Cx g p s m args c cX12_readPart 7 RX12) (hr : meth.sig.returnType = (some .int)) (hlk : meth.locks = false) (hn : meth.name = "readPart") (h0 : okc (gB g) M0 a0 12) {bk216 : Int32 × Int32 × Int32 × Int32 × Int32 × Mem → Prop} (hk216 : ∀ (x1 : Int32) (x2 : Int32) (x3 : Int32) (x4 : Int32) (x5 : Int32) (M : Mem) (H : Heap) (locs : List Loc) (ls : Array Slot), bk216 (x1, x2, x3, x4, x5, M) → Wd g s M0 M H locs → lv_has ls 7 [(0, .ref a0), (1, .int x1), (2, .int x2), (3, .int x3), (4, .int x4), (5, .int x5)] → W p l e (rmo (d + 8) 0 0) s m args below meth c H locs 0 0 (MQ below (Cq g M0 (pI post)) args s 0 0 (gA g)) (F0 m 216 ls [])) (hq : lb_X12_readPart_288 w_X12_readForm g M0 a0 post bk216 x1 x2 x3 x4 x5 M) (hw : Wd g s M0 M H locs) (hl : lv_has ls 7 [(0, .ref a0), (1, .int x1), (2, .int x2), (3, .int x3), (4, .int x4), (5, .int x5)]) : W p l e (rmo (d + 8) 0 0) s m args below meth c H locs 0 0 (MQ below (Cq g M0 (pI post)) args s 0 0 (gA g)) (F0 m 288 ls []) := by
  have hx := C.1.1
  have hb := C.1.2.1
  unfold lb_X12_readPart_288 at hq
  refine lv_iload hx hb dX12_readPart_288 (lv_at hl 5 rfl) ?_
  refine lv_if_eq (tgt := 298) hx hb dX12_readPart_290 (by decide) (fun c12 => ?_) (fun c12 => ?_)
  · replace hq := hq.1 c12
    refine lv_goto (tgt := 216) hx hb dX12_readPart_298 (by decide) ?_
    exact hk216 _ _ _ _ _ _ _ _ _ hq hw (lv_sub hl [0, 1, 2, 3, 4, 5] rfl)
  · replace hq := hq.2 c12
    refine lv_aload_n hx hb dX12_readPart_293 rfl (lv_at hl 0 rfl) ?_
    refine lv_iconst (v := 1) hx hb dX12_readPart_294 (by decide) ?_
    refine r_callV (T := TX12) (N := 67) (ci := 12) (index := 202) (n := 1) (d2 := 2) (mc := 0) (ms := 0) (As := [.int 1]) (rest := []) C hw (ct_X12_go hq) kvX12_202 hq.1 (by decide) rfl ⟨by simp only [rmo]; omega, by simp only [rmo]; omega⟩ ⟨Nat.le_refl _, Nat.le_refl _⟩ rfl hl.1 rfl (Nat.le_of_ble_eq_true rfl) dX12_readPart_295 (fun r M14 H locs hp hle hw => ?_)
    obtain ⟨rfl, hq⟩ := hp
    refine W.eq (g2 := F0 m 298 ls []) rfl ?_
    refine lv_goto (tgt := 216) hx hb dX12_readPart_298 (by decide) ?_
    exact hk216 _ _ _ _ _ _ _ _ _ hq hw (lv_sub hl [0, 1, 2, 3, 4, 5] rfl)
set_option maxHeartbeats 4000000 in
set_option maxRecDepth 100000 in
theorem lt_X12_readPart_282 {l : Launch} {g : Gh} {p : Program} {e : Env} {s : State} {m : MethodId} {args : Array Value} {below : List Frame} {meth : Method} {c : Code} {H : Heap} {locs : List Loc} {ls : Array Slot} {M0 M : Mem} {a0 : Nat} {post : Int32 → Mem → Prop}   {d : Nat} {w_X12_readForm : Gh → Mem → Nat → (Int32 → Mem → Prop) → Prop} {d_X12_readForm : Nat} (hd_X12_readForm : d_X12_readForm ≤ d) (hr_X12_readForm : ∀ {l : Launch} {g : Gh} {M0 : Mem} {a0 : Nat} {post : Int32 → Mem → Prop}, w_X12_readForm g M0 a0 post → okc (gB g) M0 a0 12 ∧ Ct l g yX12_readForm cX12_readForm 5 (some .int) d_X12_readForm 0 0 [.ref a0] M0 (pI post)) (C : Cx g p s m args c cX12_readPart 7 RX12) (hr : meth.sig.returnType = (some .int)) (hlk : meth.locks = false) (hn : meth.name = "readPart") (h0 : okc (gB g) M0 a0 12)  (hq : lb_X12_readPart_282 w_X12_readForm g M0 a0 post   M) (hw : Wd g s M0 M H locs) (hl : lv_has ls 7 [(0, .ref a0)]) : W p l e (rmo (d + 8) 0 0) s m args below meth c H locs 0 0 (MQ below (Cq g M0 (pI post)) args s 0 0 (gA g)) (F0 m 282 ls []) := by
  have hx := C.1.1
  have hb := C.1.2.1
  unfold lb_X12_readPart_282 at hq
  refine lv_aload_n hx hb dX12_readPart_282 rfl (lv_at hl 0 rfl) ?_
  refine lv_iconst (v := 3) hx hb dX12_readPart_283 (by decide) ?_
  refine r_callV (T := TX12) (N := 67) (ci := 12) (index := 216) (n := 1) (d2 := 1) (mc := 0) (ms := 0) (As := [.int 3]) (rest := []) C hw (ct_X12_none hq) kvX12_216 hq.1 (by decide) rfl ⟨by simp only [rmo]; omega, by simp only [rmo]; omega⟩ ⟨Nat.le_refl _, Nat.le_refl _⟩ rfl hl.1 rfl (Nat.le_of_ble_eq_true rfl) dX12_readPart_284 (fun r M16 H locs hp hle hw => ?_)
  obtain ⟨v15, rfl, hq⟩ := hp
  refine W.eq (g2 := F0 m 287 ls [.int v15]) rfl ?_
  exact r_iret C hr hlk hw dX12_readPart_287 (Nat.le_refl _) (Nat.le_refl _) ⟨_, rfl, hq⟩
set_option maxHeartbeats 4000000 in
set_option maxRecDepth 100000 in
theorem lt_X12_readPart_269 {l : Launch} {g : Gh} {p : Program} {e : Env} {s : State} {m : MethodId} {args : Array Value} {below : List Frame} {meth : Method} {c : Code} {H : Heap} {locs : List Loc} {ls : Array Slot} {M0 M : Mem} {a0 : Nat} {post : Int32 → Mem → Prop} {x1 : Int32} {x2 : Int32} {x3 : Int32} {x4 : Int32} {s0 : Int32} {d : Nat} {w_X12_readForm : Gh → Mem → Nat → (Int32 → Mem → Prop) → Prop} {d_X12_readForm : Nat} (hd_X12_readForm : d_X12_readForm ≤ d) (hr_X12_readForm : ∀ {l : Launch} {g : Gh} {M0 : Mem} {a0 : Nat} {post : Int32 → Mem → Prop}, w_X12_readForm g M0 a0 post → okc (gB g) M0 a0 12 ∧ Ct l g yX12_readForm cX12_readForm 5 (some .int) d_X12_readForm 0 0 [.ref a0] M0 (pI post)) (C : Cx g p s m args c cX12_readPart 7 RX12) (hr : meth.sig.returnType = (some .int)) (hlk : meth.locks = false) (hn : meth.name = "readPart") (h0 : okc (gB g) M0 a0 12) {bk216 : Int32 × Int32 × Int32 × Int32 × Int32 × Mem → Prop} (hk216 : ∀ (x1 : Int32) (x2 : Int32) (x3 : Int32) (x4 : Int32) (x5 : Int32) (M : Mem) (H : Heap) (locs : List Loc) (ls : Array Slot), bk216 (x1, x2, x3, x4, x5, M) → Wd g s M0 M H locs → lv_has ls 7 [(0, .ref a0), (1, .int x1), (2, .int x2), (3, .int x3), (4, .int x4), (5, .int x5)] → W p l e (rmo (d + 8) 0 0) s m args below meth c H locs 0 0 (MQ below (Cq g M0 (pI post)) args s 0 0 (gA g)) (F0 m 216 ls [])) (hq : lb_X12_readPart_269 w_X12_readForm g M0 a0 post bk216 x1 x2 x3 x4 s0 M) (hw : Wd g s M0 M H locs) (hl : lv_has ls 7 [(0, .ref a0), (1, .int x1), (2, .int x2), (3, .int x3), (4, .int x4)]) : W p l e (rmo (d + 8) 0 0) s m args below meth c H locs 0 0 (MQ below (Cq g M0 (pI post)) args s 0 0 (gA g)) (F0 m 269 ls [.int s0]) := by
  have hx := C.1.1
  have hb := C.1.2.1
  unfold lb_X12_readPart_269 at hq
  refine lv_istore (lv' := [(5, .int s0), (0, .ref a0), (1, .int x1), (2, .int x2), (3, .int x3), (4, .int x4)]) hx hb dX12_readPart_269 hl (by decide) rfl (fun ls hl => ?_)
  refine lv_iload hx hb dX12_readPart_271 (lv_at hl 0 rfl) ?_
  refine lv_if_eq (tgt := 288) hx hb dX12_readPart_273 (by decide) (fun c17 => ?_) (fun c17 => ?_)
  · replace hq := hq.1 c17
    exact lt_X12_readPart_288 hd_X12_readForm hr_X12_readForm C hr hlk hn h0 hk216 hq hw (lv_sub hl [1, 2, 3, 4, 5, 0] rfl)
  · replace hq := hq.2 c17
    refine lv_iload hx hb dX12_readPart_276 (lv_at hl 5 rfl) ?_
    refine lv_iconst (v := 5) hx hb dX12_readPart_278 (by decide) ?_
    refine lv_icmp_ne (tgt := 288) hx hb dX12_readPart_279 (by decide) (fun c18 => ?_) (fun c18 => ?_)
    · replace hq := hq.2 c18
      exact lt_X12_readPart_288 hd_X12_readForm hr_X12_readForm C hr hlk hn h0 hk216 hq hw (lv_sub hl [1, 2, 3, 4, 5, 0] rfl)
    · replace hq := hq.1 c18
      exact lt_X12_readPart_282 hd_X12_readForm hr_X12_readForm C hr hlk hn h0  hq hw (lv_sub hl [1] rfl)
set_option maxHeartbeats 4000000 in
set_option maxRecDepth 100000 in
theorem lp_X12_readPart_216 {l : Launch} {g : Gh} {p : Program} {e : Env} {s : State} {m : MethodId} {args : Array Value} {below : List Frame} {meth : Method} {c : Code} {M0 : Mem} {a0 : Nat} {post : Int32 → Mem → Prop} {d : Nat} {w_X12_readForm : Gh → Mem → Nat → (Int32 → Mem → Prop) → Prop} {d_X12_readForm : Nat} (hd_X12_readForm : d_X12_readForm ≤ d) (hr_X12_readForm : ∀ {l : Launch} {g : Gh} {M0 : Mem} {a0 : Nat} {post : Int32 → Mem → Prop}, w_X12_readForm g M0 a0 post → okc (gB g) M0 a0 12 ∧ Ct l g yX12_readForm cX12_readForm 5 (some .int) d_X12_readForm 0 0 [.ref a0] M0 (pI post)) (C : Cx g p s m args c cX12_readPart 7 RX12) (hr : meth.sig.returnType = (some .int)) (hlk : meth.locks = false) (hn : meth.name = "readPart") (h0 : okc (gB g) M0 a0 12)  : ∀ (nf : Nat) (x1 : Int32) (x2 : Int32) (x3 : Int32) (x4 : Int32) (x5 : Int32)  (M : Mem) (H : Heap) (locs : List Loc) (ls : Array Slot), lfp (fun bk z => bd_X12_readPart_216 w_X12_readForm g M0 a0 post  bk z.1 z.2.1 z.2.2.1 z.2.2.2.1 z.2.2.2.2.1 z.2.2.2.2.2) nf (x1, x2, x3, x4, x5, M) → Wd g s M0 M H locs → lv_has ls 7 [(0, .ref a0), (1, .int x1), (2, .int x2), (3, .int x3), (4, .int x4), (5, .int x5)] → W p l e (rmo (d + 8) 0 0) s m args below meth c H locs 0 0 (MQ below (Cq g M0 (pI post)) args s 0 0 (gA g)) (F0 m 216 ls []) := by
  have hx := C.1.1
  have hb := C.1.2.1
  intro nf
  induction nf with
  | zero => intro _ _ _ _ _ _ H locs ls hq; exact hq.elim
  | succ nf hk216 =>
    intro x1 x2 x3 x4 x5 M H locs ls hq hw hl
    replace hq : bd_X12_readPart_216 w_X12_readForm g M0 a0 post  (lfp (fun bk z => bd_X12_readPart_216 w_X12_readForm g M0 a0 post  bk z.1 z.2.1 z.2.2.1 z.2.2.2.1 z.2.2.2.2.1 z.2.2.2.2.2) nf) x1 x2 x3 x4 x5 M := hq
    unfold bd_X12_readPart_216 at hq
    refine lv_iload hx hb dX12_readPart_216 (lv_at hl 5 rfl) ?_
    refine lv_if_eq (tgt := 301) hx hb dX12_readPart_218 (by decide) (fun c19 => ?_) (fun c19 => ?_)
    · replace hq := hq.1 c19
      exact lt_X12_readPart_301 hd_X12_readForm hr_X12_readForm C hr hlk hn h0  hq hw (lv_sub hl [0, 1, 2] rfl)
    · replace hq := hq.2 c19
      refine lv_aload_n hx hb dX12_readPart_221 rfl (lv_at hl 0 rfl) ?_
      refine r_callV (T := TX12) (N := 67) (ci := 12) (index := 222) (n := 0) (d2 := d_X12_readForm) (mc := 0) (ms := 0) (As := []) (rest := []) C hw (hr_X12_readForm hq).2 kvX12_222 (hr_X12_readForm (l := l) hq).1 (by decide) rfl ⟨by simp only [rmo]; omega, by simp only [rmo]; omega⟩ ⟨Nat.le_refl _, Nat.le_refl _⟩ rfl hl.1 rfl (Nat.le_of_ble_eq_true rfl) dX12_readPart_222 (fun r M21 H locs hp hle hw => ?_)
      obtain ⟨v20, rfl, hq⟩ := hp
      refine W.eq (g2 := F0 m 225 ls [.int v20]) rfl ?_
      refine lv_istore (lv' := [(6, .int v20), (0, .ref a0), (1, .int x1), (2, .int x2), (3, .int x3), (4, .int x4), (5, .int x5)]) hx hb dX12_readPart_225 hl (by decide) rfl (fun ls hl => ?_)
      refine lv_iload hx hb dX12_readPart_227 (lv_at hl 0 rfl) ?_
      refine lv_iconst (v := (-1)) hx hb dX12_readPart_229 (by decide) ?_
      refine lv_icmp_ne (tgt := 235) hx hb dX12_readPart_230 (by decide) (fun c22 => ?_) (fun c22 => ?_)
      · replace hq := hq.2 c22
        refine lv_aload_n hx hb dX12_readPart_235 rfl (lv_at hl 1 rfl) ?_
        refine lv_iload_n hx hb dX12_readPart_236 rfl (lv_at hl 3 rfl) ?_
        refine lv_iload_n hx hb dX12_readPart_237 rfl (lv_at hl 4 rfl) ?_
        refine lv_iload hx hb dX12_readPart_238 (lv_at hl 0 rfl) ?_
        refine r_callV (T := TX12) (N := 67) (ci := 12) (index := 198) (n := 3) (d2 := 0) (mc := 0) (ms := 0) (As := [.int x2, .int x3, .int v20]) (rest := []) C hw (ct_X12_hang hq) kvX12_198 hq.1 (by decide) rfl ⟨by simp only [rmo]; omega, by simp only [rmo]; omega⟩ ⟨Nat.le_refl _, Nat.le_refl _⟩ rfl hl.1 rfl (Nat.le_of_ble_eq_true rfl) dX12_readPart_240 (fun r M24 H locs hp hle hw => ?_)
        obtain ⟨rfl, hq⟩ := hp
        refine W.eq (g2 := F0 m 243 ls []) rfl ?_
        refine lv_iload hx hb dX12_readPart_243 (lv_at hl 0 rfl) ?_
        refine lv_istore_n (lv' := [(3, .int v20), (6, .int v20), (0, .ref a0), (1, .int x1), (2, .int x2), (4, .int x4), (5, .int x5)]) hx hb dX12_readPart_245 rfl hl (by decide) rfl (fun ls hl => ?_)
        refine lv_iinc (v := (x4 + 1)) (lv' := [(4, .int (x4 + 1)), (3, .int v20), (6, .int v20), (0, .ref a0), (1, .int x1), (2, .int x2), (5, .int x5)]) hx hb dX12_readPart_246 hl (k := 5) rfl rfl (by decide) rfl (fun ls hl => ?_)
        refine lv_iload_n hx hb dX12_readPart_249 rfl (lv_at hl 4 rfl) ?_
        refine lv_bipush (v := 123) hx hb dX12_readPart_250 (by decide) ?_
        refine lv_icmp_ne (tgt := 268) hx hb dX12_readPart_252 (by decide) (fun c25 => ?_) (fun c25 => ?_)
        · replace hq := hq.2 c25
          refine lv_iconst (v := 0) hx hb dX12_readPart_268 (by decide) ?_
          exact lt_X12_readPart_269 hd_X12_readForm hr_X12_readForm C hr hlk hn h0 hk216 hq hw (lv_sub hl [3, 4, 5, 1, 0] rfl)
        · replace hq := hq.1 c25
          refine lv_aload_n hx hb dX12_readPart_255 rfl (lv_at hl 3 rfl) ?_
          refine lv_bipush (v := 44) hx hb dX12_readPart_256 (by decide) ?_
          refine r_callV (T := TX12) (N := 67) (ci := 12) (index := 187) (n := 1) (d2 := 0) (mc := 0) (ms := 0) (As := [.int 44]) (rest := []) C hw (ct_X12_isSign hq) kvX12_187 hq.1 (by decide) rfl ⟨by simp only [rmo]; omega, by simp only [rmo]; omega⟩ ⟨Nat.le_refl _, Nat.le_refl _⟩ rfl hl.1 rfl (Nat.le_of_ble_eq_true rfl) dX12_readPart_258 (fun r M27 H locs hp hle hw => ?_)
          obtain ⟨v26, rfl, hq⟩ := hp
          refine W.eq (g2 := F0 m 261 ls [.int v26]) rfl ?_
          refine lv_if_eq (tgt := 268) hx hb dX12_readPart_261 (by decide) (fun c28 => ?_) (fun c28 => ?_)
          · replace hq := hq.1 c28
            refine lv_iconst (v := 0) hx hb dX12_readPart_268 (by decide) ?_
            exact lt_X12_readPart_269 hd_X12_readForm hr_X12_readForm C hr hlk hn h0 hk216 hq hw (lv_sub hl [3, 4, 5, 1, 0] rfl)
          · replace hq := hq.2 c28
            refine lv_iconst (v := 1) hx hb dX12_readPart_264 (by decide) ?_
            refine lv_goto (tgt := 269) hx hb dX12_readPart_265 (by decide) ?_
            exact lt_X12_readPart_269 hd_X12_readForm hr_X12_readForm C hr hlk hn h0 hk216 hq hw (lv_sub hl [3, 4, 5, 1, 0] rfl)
      · replace hq := hq.1 c22
        refine lv_iconst (v := (-1)) hx hb dX12_readPart_233 (by decide) ?_
        exact r_iret C hr hlk hw dX12_readPart_234 (Nat.le_refl _) (Nat.le_refl _) ⟨_, rfl, hq⟩
set_option maxHeartbeats 4000000 in
set_option maxRecDepth 100000 in
theorem lt_X12_readPart_197 {l : Launch} {g : Gh} {p : Program} {e : Env} {s : State} {m : MethodId} {args : Array Value} {below : List Frame} {meth : Method} {c : Code} {H : Heap} {locs : List Loc} {ls : Array Slot} {M0 M : Mem} {a0 : Nat} {post : Int32 → Mem → Prop} {x1 : Int32} {s0 : Nat} {s1 : Int32} {d : Nat} {w_X12_readForm : Gh → Mem → Nat → (Int32 → Mem → Prop) → Prop} {d_X12_readForm : Nat} (hd_X12_readForm : d_X12_readForm ≤ d) (hr_X12_readForm : ∀ {l : Launch} {g : Gh} {M0 : Mem} {a0 : Nat} {post : Int32 → Mem → Prop}, w_X12_readForm g M0 a0 post → okc (gB g) M0 a0 12 ∧ Ct l g yX12_readForm cX12_readForm 5 (some .int) d_X12_readForm 0 0 [.ref a0] M0 (pI post)) (C : Cx g p s m args c cX12_readPart 7 RX12) (hr : meth.sig.returnType = (some .int)) (hlk : meth.locks = false) (hn : meth.name = "readPart") (h0 : okc (gB g) M0 a0 12)  (hq : lb_X12_readPart_197 w_X12_readForm g M0 a0 post  x1 s0 s1 M) (hw : Wd g s M0 M H locs) (hl : lv_has ls 7 [(0, .ref a0), (1, .int x1)]) : W p l e (rmo (d + 8) 0 0) s m args below meth c H locs 0 0 (MQ below (Cq g M0 (pI post)) args s 0 0 (gA g)) (F0 m 197 ls [.int s1, .ref s0]) := by
  have hx := C.1.1
  have hb := C.1.2.1
  unfold lb_X12_readPart_197 at hq
  refine lv_lconst (v := 0) hx hb dX12_readPart_197 (by decide) ?_
  refine lv_lconst (v := 0) hx hb dX12_readPart_198 (by decide) ?_
  refine r_callV (T := TX12) (N := 67) (ci := 12) (index := 190) (n := 3) (d2 := 0) (mc := 0) (ms := 0) (As := [.int s1, .long 0, .long 0]) (rest := []) C hw (ct_X12_node hq) kvX12_190 hq.1 (by decide) rfl ⟨by simp only [rmo]; omega, by simp only [rmo]; omega⟩ ⟨Nat.le_refl _, Nat.le_refl _⟩ rfl hl.1 rfl (Nat.le_of_ble_eq_true rfl) dX12_readPart_199 (fun r M30 H locs hp hle hw => ?_)
  obtain ⟨v29, rfl, hq⟩ := hp
  refine W.eq (g2 := F0 m 202 ls [.int v29]) rfl ?_
  refine lv_istore_n (lv' := [(2, .int v29), (0, .ref a0), (1, .int x1)]) hx hb dX12_readPart_202 rfl hl (by decide) rfl (fun ls hl => ?_)
  refine lv_aload_n hx hb dX12_readPart_203 rfl (lv_at hl 1 rfl) ?_
  refine lv_iconst (v := 1) hx hb dX12_readPart_204 (by decide) ?_
  refine r_callV (T := TX12) (N := 67) (ci := 12) (index := 202) (n := 1) (d2 := 2) (mc := 0) (ms := 0) (As := [.int 1]) (rest := []) C hw (ct_X12_go hq) kvX12_202 hq.1 (by decide) rfl ⟨by simp only [rmo]; omega, by simp only [rmo]; omega⟩ ⟨Nat.le_refl _, Nat.le_refl _⟩ rfl hl.1 rfl (Nat.le_of_ble_eq_true rfl) dX12_readPart_205 (fun r M32 H locs hp hle hw => ?_)
  obtain ⟨rfl, hq⟩ := hp
  refine W.eq (g2 := F0 m 208 ls []) rfl ?_
  refine lv_iconst (v := (-1)) hx hb dX12_readPart_208 (by decide) ?_
  refine lv_istore_n (lv' := [(3, .int (-1)), (2, .int v29), (0, .ref a0), (1, .int x1)]) hx hb dX12_readPart_209 rfl hl (by decide) rfl (fun ls hl => ?_)
  refine lv_iconst (v := 0) hx hb dX12_readPart_210 (by decide) ?_
  refine lv_istore (lv' := [(4, .int 0), (3, .int (-1)), (2, .int v29), (0, .ref a0), (1, .int x1)]) hx hb dX12_readPart_211 hl (by decide) rfl (fun ls hl => ?_)
  refine lv_iconst (v := 1) hx hb dX12_readPart_213 (by decide) ?_
  refine lv_istore (lv' := [(5, .int 1), (4, .int 0), (3, .int (-1)), (2, .int v29), (0, .ref a0), (1, .int x1)]) hx hb dX12_readPart_214 hl (by decide) rfl (fun ls hl => ?_)
  obtain ⟨nf, hq⟩ := hq
  exact lp_X12_readPart_216 hd_X12_readForm hr_X12_readForm C hr hlk hn h0  nf _ _ _ _ _ _ _ _ _ hq hw (lv_sub hl [4, 5, 3, 2, 1, 0] rfl)
set_option maxHeartbeats 4000000 in
set_option maxRecDepth 100000 in
theorem lt_X12_readPart_173 {l : Launch} {g : Gh} {p : Program} {e : Env} {s : State} {m : MethodId} {args : Array Value} {below : List Frame} {meth : Method} {c : Code} {H : Heap} {locs : List Loc} {ls : Array Slot} {M0 M : Mem} {a0 : Nat} {post : Int32 → Mem → Prop} {x1 : Int32}  {d : Nat} {w_X12_readForm : Gh → Mem → Nat → (Int32 → Mem → Prop) → Prop} {d_X12_readForm : Nat} (hd_X12_readForm : d_X12_readForm ≤ d) (hr_X12_readForm : ∀ {l : Launch} {g : Gh} {M0 : Mem} {a0 : Nat} {post : Int32 → Mem → Prop}, w_X12_readForm g M0 a0 post → okc (gB g) M0 a0 12 ∧ Ct l g yX12_readForm cX12_readForm 5 (some .int) d_X12_readForm 0 0 [.ref a0] M0 (pI post)) (C : Cx g p s m args c cX12_readPart 7 RX12) (hr : meth.sig.returnType = (some .int)) (hlk : meth.locks = false) (hn : meth.name = "readPart") (h0 : okc (gB g) M0 a0 12)  (hq : lb_X12_readPart_173 w_X12_readForm g M0 a0 post  x1 M) (hw : Wd g s M0 M H locs) (hl : lv_has ls 7 [(0, .ref a0), (1, .int x1)]) : W p l e (rmo (d + 8) 0 0) s m args below meth c H locs 0 0 (MQ below (Cq g M0 (pI post)) args s 0 0 (gA g)) (F0 m 173 ls []) := by
  have hx := C.1.1
  have hb := C.1.2.1
  unfold lb_X12_readPart_173 at hq
  refine lv_aload_n hx hb dX12_readPart_173 rfl (lv_at hl 0 rfl) ?_
  refine lv_iload_n hx hb dX12_readPart_174 rfl (lv_at hl 1 rfl) ?_
  refine lv_bipush (v := 91) hx hb dX12_readPart_175 (by decide) ?_
  refine lv_icmp_ne (tgt := 184) hx hb dX12_readPart_177 (by decide) (fun c33 => ?_) (fun c33 => ?_)
  · replace hq := hq.2 c33
    refine lv_iload_n hx hb dX12_readPart_184 rfl (lv_at hl 1 rfl) ?_
    refine lv_bipush (v := 40) hx hb dX12_readPart_185 (by decide) ?_
    refine lv_icmp_ne (tgt := 195) hx hb dX12_readPart_187 (by decide) (fun c34 => ?_) (fun c34 => ?_)
    · replace hq := hq.2 c34
      refine lv_bipush (v := 7) hx hb dX12_readPart_195 (by decide) ?_
      exact lt_X12_readPart_197 hd_X12_readForm hr_X12_readForm C hr hlk hn h0  hq hw (lv_sub hl [0, 1] rfl)
    · replace hq := hq.1 c34
      refine lv_bipush (v := 6) hx hb dX12_readPart_190 (by decide) ?_
      refine lv_goto (tgt := 197) hx hb dX12_readPart_192 (by decide) ?_
      exact lt_X12_readPart_197 hd_X12_readForm hr_X12_readForm C hr hlk hn h0  hq hw (lv_sub hl [0, 1] rfl)
  · replace hq := hq.1 c33
    refine lv_iconst (v := 5) hx hb dX12_readPart_180 (by decide) ?_
    refine lv_goto (tgt := 197) hx hb dX12_readPart_181 (by decide) ?_
    exact lt_X12_readPart_197 hd_X12_readForm hr_X12_readForm C hr hlk hn h0  hq hw (lv_sub hl [0, 1] rfl)
set_option maxHeartbeats 4000000 in
set_option maxRecDepth 100000 in
theorem lt_X12_readPart_119 {l : Launch} {g : Gh} {p : Program} {e : Env} {s : State} {m : MethodId} {args : Array Value} {below : List Frame} {meth : Method} {c : Code} {H : Heap} {locs : List Loc} {ls : Array Slot} {M0 M : Mem} {a0 : Nat} {post : Int32 → Mem → Prop} {x1 : Int32}  {d : Nat} {w_X12_readForm : Gh → Mem → Nat → (Int32 → Mem → Prop) → Prop} {d_X12_readForm : Nat} (hd_X12_readForm : d_X12_readForm ≤ d) (hr_X12_readForm : ∀ {l : Launch} {g : Gh} {M0 : Mem} {a0 : Nat} {post : Int32 → Mem → Prop}, w_X12_readForm g M0 a0 post → okc (gB g) M0 a0 12 ∧ Ct l g yX12_readForm cX12_readForm 5 (some .int) d_X12_readForm 0 0 [.ref a0] M0 (pI post)) (C : Cx g p s m args c cX12_readPart 7 RX12) (hr : meth.sig.returnType = (some .int)) (hlk : meth.locks = false) (hn : meth.name = "readPart") (h0 : okc (gB g) M0 a0 12)  (hq : lb_X12_readPart_119 w_X12_readForm g M0 a0 post  x1 M) (hw : Wd g s M0 M H locs) (hl : lv_has ls 7 [(0, .ref a0), (1, .int x1)]) : W p l e (rmo (d + 8) 0 0) s m args below meth c H locs 0 0 (MQ below (Cq g M0 (pI post)) args s 0 0 (gA g)) (F0 m 119 ls []) := by
  have hx := C.1.1
  have hb := C.1.2.1
  unfold lb_X12_readPart_119 at hq
  refine lv_aload_n hx hb dX12_readPart_119 rfl (lv_at hl 0 rfl) ?_
  obtain ⟨q35, e36, hq⟩ := hq
  refine gfX12_13 C hw hw.2.2.1 h0 e36 dX12_readPart_120 ?_
  refine lv_iload_n hx hb dX12_readPart_123 rfl (lv_at hl 1 rfl) ?_
  refine lv_iconst (v := 4) hx hb dX12_readPart_124 (by decide) ?_
  obtain ⟨h37, hq⟩ := hq
  obtain ⟨h38, hq⟩ := hq
  refine q_iast C hw hw.2.2.1 h37 h38 dX12_readPart_125 (fun H locs hw => ?_)
  generalize e40 : uI M q35 (Int32.toNatClampNeg x1) 4 = M39 at hw
  replace hq := hq M39 e40.symm
  have e36 : mR M39 a0 11 = some q35 := by rw [← e40, mR_uI]; exact e36
  refine lv_aload_n hx hb dX12_readPart_126 rfl (lv_at hl 0 rfl) ?_
  obtain ⟨q41, e42, hq⟩ := hq
  refine gfX12_26 C hw hw.2.2.1 h0 e42 dX12_readPart_127 ?_
  refine lv_iload_n hx hb dX12_readPart_130 rfl (lv_at hl 1 rfl) ?_
  refine lv_aload_n hx hb dX12_readPart_131 rfl (lv_at hl 0 rfl) ?_
  refine gfX12_163 C hw hw.2.2.1 h0 dX12_readPart_132 ?_
  obtain ⟨h43, hq⟩ := hq
  obtain ⟨h44, hq⟩ := hq
  refine q_last C hw hw.2.2.1 h43 h44 dX12_readPart_135 (fun H locs hw => ?_)
  generalize e46 : uJ M39 q41 (Int32.toNatClampNeg x1) (mJ M39 a0 8) = M45 at hw
  replace hq := hq M45 e46.symm
  have e36 : mR M45 a0 11 = some q35 := by rw [← e46, mR_uJ]; exact e36
  have e42 : mR M45 a0 15 = some q41 := by rw [← e46, mR_uJ]; exact e42
  refine lv_aload_n hx hb dX12_readPart_136 rfl (lv_at hl 0 rfl) ?_
  refine lv_iconst (v := 1) hx hb dX12_readPart_137 (by decide) ?_
  refine r_callV (T := TX12) (N := 67) (ci := 12) (index := 202) (n := 1) (d2 := 2) (mc := 0) (ms := 0) (As := [.int 1]) (rest := []) C hw (ct_X12_go hq) kvX12_202 hq.1 (by decide) rfl ⟨by simp only [rmo]; omega, by simp only [rmo]; omega⟩ ⟨Nat.le_refl _, Nat.le_refl _⟩ rfl hl.1 rfl (Nat.le_of_ble_eq_true rfl) dX12_readPart_138 (fun r M48 H locs hp hle hw => ?_)
  obtain ⟨rfl, hq⟩ := hp
  refine W.eq (g2 := F0 m 141 ls []) rfl ?_
  refine lv_iload_n hx hb dX12_readPart_141 rfl (lv_at hl 1 rfl) ?_
  exact r_iret C hr hlk hw dX12_readPart_142 (Nat.le_refl _) (Nat.le_refl _) ⟨_, rfl, hq⟩
set_option maxHeartbeats 4000000 in
set_option maxRecDepth 100000 in
theorem lt_X12_readPart_64 {l : Launch} {g : Gh} {p : Program} {e : Env} {s : State} {m : MethodId} {args : Array Value} {below : List Frame} {meth : Method} {c : Code} {H : Heap} {locs : List Loc} {ls : Array Slot} {M0 M : Mem} {a0 : Nat} {post : Int32 → Mem → Prop} {x1 : Int32}  {d : Nat} {w_X12_readForm : Gh → Mem → Nat → (Int32 → Mem → Prop) → Prop} {d_X12_readForm : Nat} (hd_X12_readForm : d_X12_readForm ≤ d) (hr_X12_readForm : ∀ {l : Launch} {g : Gh} {M0 : Mem} {a0 : Nat} {post : Int32 → Mem → Prop}, w_X12_readForm g M0 a0 post → okc (gB g) M0 a0 12 ∧ Ct l g yX12_readForm cX12_readForm 5 (some .int) d_X12_readForm 0 0 [.ref a0] M0 (pI post)) (C : Cx g p s m args c cX12_readPart 7 RX12) (hr : meth.sig.returnType = (some .int)) (hlk : meth.locks = false) (hn : meth.name = "readPart") (h0 : okc (gB g) M0 a0 12)  (hq : lb_X12_readPart_64 w_X12_readForm g M0 a0 post  x1 M) (hw : Wd g s M0 M H locs) (hl : lv_has ls 7 [(0, .ref a0), (1, .int x1)]) : W p l e (rmo (d + 8) 0 0) s m args below meth c H locs 0 0 (MQ below (Cq g M0 (pI post)) args s 0 0 (gA g)) (F0 m 64 ls []) := by
  have hx := C.1.1
  have hb := C.1.2.1
  unfold lb_X12_readPart_64 at hq
  refine lv_aload_n hx hb dX12_readPart_64 rfl (lv_at hl 0 rfl) ?_
  refine lv_iconst (v := 1) hx hb dX12_readPart_65 (by decide) ?_
  refine r_callV (T := TX12) (N := 67) (ci := 12) (index := 202) (n := 1) (d2 := 2) (mc := 0) (ms := 0) (As := [.int 1]) (rest := []) C hw (ct_X12_go hq) kvX12_202 hq.1 (by decide) rfl ⟨by simp only [rmo]; omega, by simp only [rmo]; omega⟩ ⟨Nat.le_refl _, Nat.le_refl _⟩ rfl hl.1 rfl (Nat.le_of_ble_eq_true rfl) dX12_readPart_66 (fun r M50 H locs hp hle hw => ?_)
  obtain ⟨rfl, hq⟩ := hp
  refine W.eq (g2 := F0 m 69 ls []) rfl ?_
  refine lv_aload_n hx hb dX12_readPart_69 rfl (lv_at hl 0 rfl) ?_
  refine lv_bipush (v := 46) hx hb dX12_readPart_70 (by decide) ?_
  refine r_callV (T := TX12) (N := 67) (ci := 12) (index := 187) (n := 1) (d2 := 0) (mc := 0) (ms := 0) (As := [.int 46]) (rest := []) C hw (ct_X12_isSign hq) kvX12_187 hq.1 (by decide) rfl ⟨by simp only [rmo]; omega, by simp only [rmo]; omega⟩ ⟨Nat.le_refl _, Nat.le_refl _⟩ rfl hl.1 rfl (Nat.le_of_ble_eq_true rfl) dX12_readPart_72 (fun r M52 H locs hp hle hw => ?_)
  obtain ⟨v51, rfl, hq⟩ := hp
  refine W.eq (g2 := F0 m 75 ls [.int v51]) rfl ?_
  refine lv_if_ne (tgt := 80) hx hb dX12_readPart_75 (by decide) (fun c53 => ?_) (fun c53 => ?_)
  · replace hq := hq.2 c53
    refine lv_aload_n hx hb dX12_readPart_80 rfl (lv_at hl 0 rfl) ?_
    refine lv_iconst (v := 1) hx hb dX12_readPart_81 (by decide) ?_
    refine r_callV (T := TX12) (N := 67) (ci := 12) (index := 202) (n := 1) (d2 := 2) (mc := 0) (ms := 0) (As := [.int 1]) (rest := []) C hw (ct_X12_go hq) kvX12_202 hq.1 (by decide) rfl ⟨by simp only [rmo]; omega, by simp only [rmo]; omega⟩ ⟨Nat.le_refl _, Nat.le_refl _⟩ rfl hl.1 rfl (Nat.le_of_ble_eq_true rfl) dX12_readPart_82 (fun r M55 H locs hp hle hw => ?_)
    obtain ⟨rfl, hq⟩ := hp
    refine W.eq (g2 := F0 m 85 ls []) rfl ?_
    refine lv_aload_n hx hb dX12_readPart_85 rfl (lv_at hl 0 rfl) ?_
    refine gfX12_143 C hw hw.2.2.1 h0 dX12_readPart_86 ?_
    refine lv_iconst (v := 3) hx hb dX12_readPart_89 (by decide) ?_
    refine lv_icmp_eq (tgt := 99) hx hb dX12_readPart_90 (by decide) (fun c56 => ?_) (fun c56 => ?_)
    · replace hq := hq.1 c56
      refine lv_aload_n hx hb dX12_readPart_99 rfl (lv_at hl 0 rfl) ?_
      refine gfX12_163 C hw hw.2.2.1 h0 dX12_readPart_100 ?_
      refine lv_aload_n hx hb dX12_readPart_103 rfl (lv_at hl 0 rfl) ?_
      obtain ⟨q57, e58, hq⟩ := hq
      refine gfX12_22 C hw hw.2.2.1 h0 e58 dX12_readPart_104 ?_
      refine lv_iload_n hx hb dX12_readPart_107 rfl (lv_at hl 1 rfl) ?_
      obtain ⟨h59, hq⟩ := hq
      obtain ⟨h60, hq⟩ := hq
      refine q_lald C hw hw.2.2.1 h59 h60 dX12_readPart_108 ?_
      refine W.lcmp hx hb dX12_readPart_109 ?_
      refine lv_if_ge (tgt := 119) hx hb dX12_readPart_110 (by decide) (fun c61 => ?_) (fun c61 => ?_)
      · replace hq := hq.1 c61
        exact lt_X12_readPart_119 hd_X12_readForm hr_X12_readForm C hr hlk hn h0  hq hw (lv_sub hl [0, 1] rfl)
      · replace hq := hq.2 c61
        refine lv_aload_n hx hb dX12_readPart_113 rfl (lv_at hl 0 rfl) ?_
        refine lv_iconst (v := 2) hx hb dX12_readPart_114 (by decide) ?_
        refine r_callV (T := TX12) (N := 67) (ci := 12) (index := 216) (n := 1) (d2 := 1) (mc := 0) (ms := 0) (As := [.int 2]) (rest := []) C hw (ct_X12_none hq) kvX12_216 hq.1 (by decide) rfl ⟨by simp only [rmo]; omega, by simp only [rmo]; omega⟩ ⟨Nat.le_refl _, Nat.le_refl _⟩ rfl hl.1 rfl (Nat.le_of_ble_eq_true rfl) dX12_readPart_115 (fun r M63 H locs hp hle hw => ?_)
        obtain ⟨v62, rfl, hq⟩ := hp
        refine W.eq (g2 := F0 m 118 ls [.int v62]) rfl ?_
        exact r_iret C hr hlk hw dX12_readPart_118 (Nat.le_refl _) (Nat.le_refl _) ⟨_, rfl, hq⟩
    · replace hq := hq.2 c56
      refine lv_aload_n hx hb dX12_readPart_93 rfl (lv_at hl 0 rfl) ?_
      refine lv_iconst (v := 1) hx hb dX12_readPart_94 (by decide) ?_
      refine r_callV (T := TX12) (N := 67) (ci := 12) (index := 216) (n := 1) (d2 := 1) (mc := 0) (ms := 0) (As := [.int 1]) (rest := []) C hw (ct_X12_none hq) kvX12_216 hq.1 (by decide) rfl ⟨by simp only [rmo]; omega, by simp only [rmo]; omega⟩ ⟨Nat.le_refl _, Nat.le_refl _⟩ rfl hl.1 rfl (Nat.le_of_ble_eq_true rfl) dX12_readPart_95 (fun r M65 H locs hp hle hw => ?_)
      obtain ⟨v64, rfl, hq⟩ := hp
      refine W.eq (g2 := F0 m 98 ls [.int v64]) rfl ?_
      exact r_iret C hr hlk hw dX12_readPart_98 (Nat.le_refl _) (Nat.le_refl _) ⟨_, rfl, hq⟩
  · replace hq := hq.1 c53
    refine lv_iload_n hx hb dX12_readPart_78 rfl (lv_at hl 1 rfl) ?_
    exact r_iret C hr hlk hw dX12_readPart_79 (Nat.le_refl _) (Nat.le_refl _) ⟨_, rfl, hq⟩
set_option maxHeartbeats 4000000 in
set_option maxRecDepth 100000 in
theorem ct_X12_readPart {l : Launch} {g : Gh} {M0 : Mem} {a0 : Nat} {post : Int32 → Mem → Prop} {d : Nat} {w_X12_readForm : Gh → Mem → Nat → (Int32 → Mem → Prop) → Prop} {d_X12_readForm : Nat} (hd_X12_readForm : d_X12_readForm ≤ d) (hr_X12_readForm : ∀ {l : Launch} {g : Gh} {M0 : Mem} {a0 : Nat} {post : Int32 → Mem → Prop}, w_X12_readForm g M0 a0 post → okc (gB g) M0 a0 12 ∧ Ct l g yX12_readForm cX12_readForm 5 (some .int) d_X12_readForm 0 0 [.ref a0] M0 (pI post)) (hq : wp_X12_readPart w_X12_readForm g M0 a0 post) : Ct l g yX12_readPart cX12_readPart 7 (some .int) (d + 8) 0 0 [.ref a0] M0 (pI post) := by
  unfold wp_X12_readPart at hq
  obtain ⟨h0, hq⟩ := hq
  refine Ct.of (by decide) (Nat.le_of_ble_eq_true rfl) ?_
  intro p e s m below meth c ls C hr hlk hn hl hw
  have hx := C.1.1
  have hb := C.1.2.1
  have hl : lv_has ls 7 [(0, .ref a0)] := hl
  refine lv_aload_n hx hb dX12_readPart_0 rfl (lv_at hl 0 rfl) ?_
  refine r_callV (T := TX12) (N := 67) (ci := 12) (index := 209) (n := 0) (d2 := 1) (mc := 0) (ms := 0) (As := []) (rest := []) C hw (ct_X12_isPart hq) kvX12_209 hq.1 (by decide) rfl ⟨by simp only [rmo]; omega, by simp only [rmo]; omega⟩ ⟨Nat.le_refl _, Nat.le_refl _⟩ rfl hl.1 rfl (Nat.le_of_ble_eq_true rfl) dX12_readPart_1 (fun r M67 H locs hp hle hw => ?_)
  obtain ⟨v66, rfl, hq⟩ := hp
  refine W.eq (g2 := F0 m 4 ls [.int v66]) rfl ?_
  refine lv_if_ne (tgt := 13) hx hb dX12_readPart_4 (by decide) (fun c68 => ?_) (fun c68 => ?_)
  · replace hq := hq.2 c68
    refine lv_aload_n hx hb dX12_readPart_13 rfl (lv_at hl 0 rfl) ?_
    refine gfX12_143 C hw hw.2.2.1 h0 dX12_readPart_14 ?_
    refine lv_iconst (v := 2) hx hb dX12_readPart_17 (by decide) ?_
    refine lv_icmp_ne (tgt := 42) hx hb dX12_readPart_18 (by decide) (fun c69 => ?_) (fun c69 => ?_)
    · replace hq := hq.2 c69
      refine lv_aload_n hx hb dX12_readPart_42 rfl (lv_at hl 0 rfl) ?_
      refine gfX12_143 C hw hw.2.2.1 h0 dX12_readPart_43 ?_
      refine lv_iconst (v := 3) hx hb dX12_readPart_46 (by decide) ?_
      refine lv_icmp_ne (tgt := 143) hx hb dX12_readPart_47 (by decide) (fun c70 => ?_) (fun c70 => ?_)
      · replace hq := hq.2 c70
        refine lv_aload_n hx hb dX12_readPart_143 rfl (lv_at hl 0 rfl) ?_
        refine gfX12_219 C hw hw.2.2.1 h0 dX12_readPart_144 ?_
        refine lv_bipush (v := 6) hx hb dX12_readPart_147 (by decide) ?_
        refine lv_icmp_ne (tgt := 158) hx hb dX12_readPart_149 (by decide) (fun c71 => ?_) (fun c71 => ?_)
        · replace hq := hq.2 c71
          refine lv_aload_n hx hb dX12_readPart_158 rfl (lv_at hl 0 rfl) ?_
          refine lv_dup hx hb dX12_readPart_159 rfl ?_
          refine gfX12_219 C hw hw.2.2.1 h0 dX12_readPart_160 ?_
          refine lv_iconst (v := 1) hx hb dX12_readPart_163 (by decide) ?_
          refine lv_iadd hx hb dX12_readPart_164 ?_
          refine pfX12_219 C hw hw.2.2.1 h0 dX12_readPart_165 (fun H locs hw => ?_)
          generalize e73 : uI M67 a0 18 ((mI M67 a0 18) + 1) = M72 at hw
          replace hq := hq M72 e73.symm
          refine lv_aload_n hx hb dX12_readPart_168 rfl (lv_at hl 0 rfl) ?_
          refine gfX12_156 C hw hw.2.2.1 h0 dX12_readPart_169 ?_
          refine lv_istore_n (lv' := [(1, .int (mI M72 a0 7)), (0, .ref a0)]) hx hb dX12_readPart_172 rfl hl (by decide) rfl (fun ls hl => ?_)
          exact lt_X12_readPart_173 hd_X12_readForm hr_X12_readForm C hr hlk hn h0  hq hw (lv_sub hl [1, 0] rfl)
        · replace hq := hq.1 c71
          refine lv_aload_n hx hb dX12_readPart_152 rfl (lv_at hl 0 rfl) ?_
          refine lv_iconst (v := 3) hx hb dX12_readPart_153 (by decide) ?_
          refine r_callV (T := TX12) (N := 67) (ci := 12) (index := 216) (n := 1) (d2 := 1) (mc := 0) (ms := 0) (As := [.int 3]) (rest := []) C hw (ct_X12_none hq) kvX12_216 hq.1 (by decide) rfl ⟨by simp only [rmo]; omega, by simp only [rmo]; omega⟩ ⟨Nat.le_refl _, Nat.le_refl _⟩ rfl hl.1 rfl (Nat.le_of_ble_eq_true rfl) dX12_readPart_154 (fun r M75 H locs hp hle hw => ?_)
          obtain ⟨v74, rfl, hq⟩ := hp
          refine W.eq (g2 := F0 m 157 ls [.int v74]) rfl ?_
          exact r_iret C hr hlk hw dX12_readPart_157 (Nat.le_refl _) (Nat.le_refl _) ⟨_, rfl, hq⟩
      · replace hq := hq.1 c70
        refine lv_aload_n hx hb dX12_readPart_50 rfl (lv_at hl 0 rfl) ?_
        refine lv_iconst (v := 3) hx hb dX12_readPart_51 (by decide) ?_
        refine lv_aload_n hx hb dX12_readPart_52 rfl (lv_at hl 0 rfl) ?_
        refine gfX12_163 C hw hw.2.2.1 h0 dX12_readPart_53 ?_
        refine lv_aload_n hx hb dX12_readPart_56 rfl (lv_at hl 0 rfl) ?_
        refine gfX12_163 C hw hw.2.2.1 h0 dX12_readPart_57 ?_
        refine r_callV (T := TX12) (N := 67) (ci := 12) (index := 190) (n := 3) (d2 := 0) (mc := 0) (ms := 0) (As := [.int 3, .long (mJ M67 a0 8), .long (mJ M67 a0 8)]) (rest := []) C hw (ct_X12_node hq) kvX12_190 hq.1 (by decide) rfl ⟨by simp only [rmo]; omega, by simp only [rmo]; omega⟩ ⟨Nat.le_refl _, Nat.le_refl _⟩ rfl hl.1 rfl (Nat.le_of_ble_eq_true rfl) dX12_readPart_60 (fun r M77 H locs hp hle hw => ?_)
        obtain ⟨v76, rfl, hq⟩ := hp
        refine W.eq (g2 := F0 m 63 ls [.int v76]) rfl ?_
        refine lv_istore_n (lv' := [(1, .int v76), (0, .ref a0)]) hx hb dX12_readPart_63 rfl hl (by decide) rfl (fun ls hl => ?_)
        exact lt_X12_readPart_64 hd_X12_readForm hr_X12_readForm C hr hlk hn h0  hq hw (lv_sub hl [1, 0] rfl)
    · replace hq := hq.1 c69
      refine lv_aload_n hx hb dX12_readPart_21 rfl (lv_at hl 0 rfl) ?_
      refine lv_iconst (v := 2) hx hb dX12_readPart_22 (by decide) ?_
      refine lv_aload_n hx hb dX12_readPart_23 rfl (lv_at hl 0 rfl) ?_
      refine gfX12_163 C hw hw.2.2.1 h0 dX12_readPart_24 ?_
      refine lv_aload_n hx hb dX12_readPart_27 rfl (lv_at hl 0 rfl) ?_
      refine gfX12_163 C hw hw.2.2.1 h0 dX12_readPart_28 ?_
      refine r_callV (T := TX12) (N := 67) (ci := 12) (index := 190) (n := 3) (d2 := 0) (mc := 0) (ms := 0) (As := [.int 2, .long (mJ M67 a0 8), .long (mJ M67 a0 8)]) (rest := []) C hw (ct_X12_node hq) kvX12_190 hq.1 (by decide) rfl ⟨by simp only [rmo]; omega, by simp only [rmo]; omega⟩ ⟨Nat.le_refl _, Nat.le_refl _⟩ rfl hl.1 rfl (Nat.le_of_ble_eq_true rfl) dX12_readPart_31 (fun r M79 H locs hp hle hw => ?_)
      obtain ⟨v78, rfl, hq⟩ := hp
      refine W.eq (g2 := F0 m 34 ls [.int v78]) rfl ?_
      refine lv_istore_n (lv' := [(1, .int v78), (0, .ref a0)]) hx hb dX12_readPart_34 rfl hl (by decide) rfl (fun ls hl => ?_)
      refine lv_aload_n hx hb dX12_readPart_35 rfl (lv_at hl 1 rfl) ?_
      refine lv_iconst (v := 1) hx hb dX12_readPart_36 (by decide) ?_
      refine r_callV (T := TX12) (N := 67) (ci := 12) (index := 202) (n := 1) (d2 := 2) (mc := 0) (ms := 0) (As := [.int 1]) (rest := []) C hw (ct_X12_go hq) kvX12_202 hq.1 (by decide) rfl ⟨by simp only [rmo]; omega, by simp only [rmo]; omega⟩ ⟨Nat.le_refl _, Nat.le_refl _⟩ rfl hl.1 rfl (Nat.le_of_ble_eq_true rfl) dX12_readPart_37 (fun r M81 H locs hp hle hw => ?_)
      obtain ⟨rfl, hq⟩ := hp
      refine W.eq (g2 := F0 m 40 ls []) rfl ?_
      refine lv_iload_n hx hb dX12_readPart_40 rfl (lv_at hl 0 rfl) ?_
      exact r_iret C hr hlk hw dX12_readPart_41 (Nat.le_refl _) (Nat.le_refl _) ⟨_, rfl, hq⟩
  · replace hq := hq.1 c68
    refine lv_aload_n hx hb dX12_readPart_7 rfl (lv_at hl 0 rfl) ?_
    refine lv_iconst (v := 1) hx hb dX12_readPart_8 (by decide) ?_
    refine r_callV (T := TX12) (N := 67) (ci := 12) (index := 216) (n := 1) (d2 := 1) (mc := 0) (ms := 0) (As := [.int 1]) (rest := []) C hw (ct_X12_none hq) kvX12_216 hq.1 (by decide) rfl ⟨by simp only [rmo]; omega, by simp only [rmo]; omega⟩ ⟨Nat.le_refl _, Nat.le_refl _⟩ rfl hl.1 rfl (Nat.le_of_ble_eq_true rfl) dX12_readPart_9 (fun r M83 H locs hp hle hw => ?_)
    obtain ⟨v82, rfl, hq⟩ := hp
    refine W.eq (g2 := F0 m 12 ls [.int v82]) rfl ?_
    exact r_iret C hr hlk hw dX12_readPart_12 (Nat.le_refl _) (Nat.le_refl _) ⟨_, rfl, hq⟩
