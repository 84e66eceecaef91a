set_option maxRecDepth 100000 in
def lb_X12_readLaw_322  (g : Gh) (M0 : Mem) (a0 : Nat) (post : Int32 → Mem → Prop)  (x1 : Int32)  (M : Mem) : Prop :=
  ∀ M1, M1 = uI M a0 39 x1 → (post 1 M1)
set_option maxRecDepth 100000 in
def lb_X12_readLaw_301  (g : Gh) (M0 : Mem) (a0 : Nat) (post : Int32 → Mem → Prop)    (M : Mem) : Prop :=
  wp_X12_bad g M a0 1 (fun v3 M4 => (v3 = 0 ∨ v3 = 1) ∧ (post v3 M4))
set_option maxRecDepth 100000 in
def lb_X12_readLaw_292  (g : Gh) (M0 : Mem) (a0 : Nat) (post : Int32 → Mem → Prop) (bk2 : Int32 × Mem → Prop) (x1 : Int32)  (M : Mem) : Prop :=
  wp_X12_isSign g M a0 59 (fun v6 M7 => ((v6 = 0) → lb_X12_readLaw_301  g M0 a0 post   M7) ∧ (¬ (v6 = 0) → wp_X12_go g M7 a0 0 (fun M10 => (((mI M10 a0 6) = 0) → lb_X12_readLaw_322  g M0 a0 post  (x1 + 1) M10) ∧ (¬ ((mI M10 a0 6) = 0) → bk2 ((x1 + 1), M10)))))
set_option maxRecDepth 100000 in
def lb_X12_readLaw_238  (g : Gh) (M0 : Mem) (a0 : Nat) (post : Int32 → Mem → Prop) (bk2 : Int32 × Mem → Prop) (x1 : Int32)  (M : Mem) : Prop :=
  ∃ q12, mR M a0 37 = some q12 ∧ (okc (gB g) M0 q12 14 ∧ (vp_in x1 (mN M0 q12) ∧ (∀ M16, M16 = uI M q12 (Int32.toNatClampNeg x1) 0 → (wp_X12_isKey g M16 a0 119 114 111 110 103 (fun v18 M19 => ((v18 = 0) → lb_X12_readLaw_292  g M0 a0 post bk2 x1 M19) ∧ (¬ (v18 = 0) → wp_X12_go g M19 a0 0 (fun M22 => ∃ q23, mR M22 a0 37 = some q23 ∧ (wp_X12_number g M22 a0 0 20 (fun v25 M26 => okc (gB g) M0 q23 14 ∧ (vp_in x1 (mN M0 q23) ∧ (∀ M29, M29 = uI M26 q23 (Int32.toNatClampNeg x1) v25 → (∃ q31, mR M29 a0 37 = some q31 ∧ (okc (gB g) M0 q31 14 ∧ (vp_in x1 (mN M0 q31) ∧ ((((mI M29 q31 (Int32.toNatClampNeg x1)) = (-1)) → post 0 M29) ∧ (¬ ((mI M29 q31 (Int32.toNatClampNeg x1)) = (-1)) → lb_X12_readLaw_292  g M0 a0 post bk2 x1 M29))))))))))))))))
set_option maxRecDepth 100000 in
def lb_X12_readLaw_192  (g : Gh) (M0 : Mem) (a0 : Nat) (post : Int32 → Mem → Prop) (bk2 : Int32 × Mem → Prop) (x1 : Int32)  (M : Mem) : Prop :=
  wp_X12_isKey g M a0 112 97 115 115 0 (fun v36 M37 => ((v36 = 0) → lb_X12_readLaw_238  g M0 a0 post bk2 x1 M37) ∧ (¬ (v36 = 0) → wp_X12_go g M37 a0 0 (fun M40 => ∃ q41, mR M40 a0 36 = some q41 ∧ (wp_X12_number g M40 a0 0 20 (fun v43 M44 => okc (gB g) M0 q41 14 ∧ (vp_in x1 (mN M0 q41) ∧ (∀ M47, M47 = uI M44 q41 (Int32.toNatClampNeg x1) v43 → (∃ q49, mR M47 a0 36 = some q49 ∧ (okc (gB g) M0 q49 14 ∧ (vp_in x1 (mN M0 q49) ∧ ((((mI M47 q49 (Int32.toNatClampNeg x1)) = (-1)) → post 0 M47) ∧ (¬ ((mI M47 q49 (Int32.toNatClampNeg x1)) = (-1)) → lb_X12_readLaw_238  g M0 a0 post bk2 x1 M47))))))))))))
set_option maxRecDepth 100000 in
def lb_X12_readLaw_140  (g : Gh) (M0 : Mem) (a0 : Nat) (post : Int32 → Mem → Prop)    (M : Mem) : Prop :=
  wp_X12_bad g M a0 1 (fun v54 M55 => (v54 = 0 ∨ v54 = 1) ∧ (post v54 M55))
set_option maxRecDepth 100000 in
def lb_X12_readLaw_118  (g : Gh) (M0 : Mem) (a0 : Nat) (post : Int32 → Mem → Prop) (bk2 : Int32 × Mem → Prop) (x1 : Int32)  (M : Mem) : Prop :=
  wp_X12_go g M a0 0 (fun M58 => wp_X12_isKey g M58 a0 114 105 103 104 116 (fun v59 M60 => ((v59 = 0) → lb_X12_readLaw_140  g M0 a0 post   M60) ∧ (¬ (v59 = 0) → wp_X12_go g M60 a0 0 (fun M63 => ∃ q64, mR M63 a0 35 = some q64 ∧ (wp_X12_number g M63 a0 0 20 (fun v66 M67 => okc (gB g) M0 q64 14 ∧ (vp_in x1 (mN M0 q64) ∧ (∀ M70, M70 = uI M67 q64 (Int32.toNatClampNeg x1) v66 → (∃ q72, mR M70 a0 35 = some q72 ∧ (okc (gB g) M0 q72 14 ∧ (vp_in x1 (mN M0 q72) ∧ ((((mI M70 q72 (Int32.toNatClampNeg x1)) = (-1)) → post 0 M70) ∧ (¬ ((mI M70 q72 (Int32.toNatClampNeg x1)) = (-1)) → ∃ q77, mR M70 a0 36 = some q77 ∧ (okc (gB g) M0 q77 14 ∧ (vp_in x1 (mN M0 q77) ∧ (∀ M81, M81 = uI M70 q77 (Int32.toNatClampNeg x1) (-1) → (∃ q83, mR M81 a0 38 = some q83 ∧ (okc (gB g) M0 q83 17 ∧ (vp_in x1 (mN M0 q83) ∧ ((((mI M81 q83 (Int32.toNatClampNeg x1)) = 0) → lb_X12_readLaw_192  g M0 a0 post bk2 x1 M81) ∧ (¬ ((mI M81 q83 (Int32.toNatClampNeg x1)) = 0) → lb_X12_readLaw_238  g M0 a0 post bk2 x1 M81)))))))))))))))))))))
set_option maxRecDepth 100000 in
def lb_X12_readLaw_112  (g : Gh) (M0 : Mem) (a0 : Nat) (post : Int32 → Mem → Prop)    (M : Mem) : Prop :=
  wp_X12_bad g M a0 1 (fun v88 M89 => (v88 = 0 ∨ v88 = 1) ∧ (post v88 M89))
set_option maxRecDepth 100000 in
def lb_X12_readLaw_86  (g : Gh) (M0 : Mem) (a0 : Nat) (post : Int32 → Mem → Prop) (bk2 : Int32 × Mem → Prop) (x1 : Int32)  (M : Mem) : Prop :=
  ∃ q91, mR M a0 38 = some q91 ∧ (okc (gB g) M0 q91 17 ∧ (vp_in x1 (mN M0 q91) ∧ ((((mI M q91 (Int32.toNatClampNeg x1)) = 0) → wp_X12_isKey g M a0 116 117 114 110 115 (fun v96 M97 => ((v96 = 0) → lb_X12_readLaw_112  g M0 a0 post   M97) ∧ (¬ (v96 = 0) → lb_X12_readLaw_118  g M0 a0 post bk2 x1 M97))) ∧ (¬ ((mI M q91 (Int32.toNatClampNeg x1)) = 0) → lb_X12_readLaw_118  g M0 a0 post bk2 x1 M))))
set_option maxRecDepth 100000 in
def lb_X12_readLaw_31  (g : Gh) (M0 : Mem) (a0 : Nat) (post : Int32 → Mem → Prop)    (M : Mem) : Prop :=
  wp_X12_bad g M a0 3 (fun v99 M100 => (v99 = 0 ∨ v99 = 1) ∧ (post v99 M100))
set_option maxRecDepth 100000 in
def lb_X12_readLaw_19  (g : Gh) (M0 : Mem) (a0 : Nat) (post : Int32 → Mem → Prop)    (M : Mem) : Prop :=
  wp_X12_bad g M a0 1 (fun v102 M103 => (v102 = 0 ∨ v102 = 1) ∧ (post v102 M103))
set_option maxRecDepth 100000 in
def bd_X12_readLaw_2  (g : Gh) (M0 : Mem) (a0 : Nat) (post : Int32 → Mem → Prop)  (bk2 : Int32 × Mem → Prop) (x1 : Int32)  (M : Mem) : Prop :=
  wp_X12_isKey g M a0 114 111 117 110 100 (fun v105 M106 => ((v105 = 0) → lb_X12_readLaw_19  g M0 a0 post   M106) ∧ (¬ (v105 = 0) → ((x1 = 6) → lb_X12_readLaw_31  g M0 a0 post   M106) ∧ (¬ (x1 = 6) → wp_X12_go g M106 a0 0 (fun M110 => ∃ q111, mR M110 a0 34 = some q111 ∧ (wp_X12_number g M110 a0 1 8 (fun v113 M114 => okc (gB g) M0 q111 14 ∧ (vp_in x1 (mN M0 q111) ∧ (∀ M117, M117 = uI M114 q111 (Int32.toNatClampNeg x1) v113 → (∃ q119, mR M117 a0 34 = some q119 ∧ (okc (gB g) M0 q119 14 ∧ (vp_in x1 (mN M0 q119) ∧ ((((mI M117 q119 (Int32.toNatClampNeg x1)) = (-1)) → post 0 M117) ∧ (¬ ((mI M117 q119 (Int32.toNatClampNeg x1)) = (-1)) → ∃ q124, mR M117 a0 38 = some q124 ∧ (wp_X12_isKey g M117 a0 98 117 122 122 0 (fun v126 M127 => okc (gB g) M0 q124 17 ∧ (vp_in x1 (mN M0 q124) ∧ (∀ M130, M130 = uI M127 q124 (Int32.toNatClampNeg x1) (vp_nar .boolean v126) → (lb_X12_readLaw_86  g M0 a0 post bk2 x1 M130))))))))))))))))))
set_option maxRecDepth 100000 in
def wp_X12_readLaw  (g : Gh) (M0 : Mem) (a0 : Nat) (post : Int32 → Mem → Prop) : Prop :=
  okc (gB g) M0 a0 12 ∧ ((∃ n : Nat, lfp (fun bk z => bd_X12_readLaw_2  g M0 a0 post  bk z.1 z.2) n (0, M0)))
set_option maxHeartbeats 4000000 in
set_option maxRecDepth 100000 in
theorem lt_X12_readLaw_322 {l : Launch} {g : Gh} {p : Program} {e : Env} {s : State} {m : MethodId} {args : Array Value} {below : List Frame} {meth : Method} {c : Code} {H : Heap} {locs : List Loc} {ls : Array Slot} {M0 M : Mem} {a0 : Nat} {post : Int32 → Mem → Prop} {x1 : Int32}   (C : Cx g p s m args c cX12_readLaw 2 RX12) (hr : meth.sig.returnType = (some .boolean)) (hlk : meth.locks = false) (hn : meth.name = "readLaw") (h0 : okc (gB g) M0 a0 12)  (hq : lb_X12_readLaw_322  g M0 a0 post  x1 M) (hw : Wd g s M0 M H locs) (hl : lv_has ls 2 [(0, .ref a0), (1, .int x1)]) : W p l e (rmo 4 0 0) s m args below meth c H locs 0 0 (MQ below (Cq g M0 (pI post)) args s 0 0 (gA g)) (F0 m 322 ls []) := by
  have hx := C.1.1
  have hb := C.1.2.1
  unfold lb_X12_readLaw_322 at hq
  refine lv_aload_n hx hb dX12_readLaw_322 rfl (lv_at hl 0 rfl) ?_
  refine lv_iload_n hx hb dX12_readLaw_323 rfl (lv_at hl 1 rfl) ?_
  refine pfX12_264 C hw hw.2.2.1 h0 dX12_readLaw_324 (fun H locs hw => ?_)
  generalize e2 : uI M a0 39 x1 = M1 at hw
  replace hq := hq M1 e2.symm
  refine lv_iconst (v := 1) hx hb dX12_readLaw_327 (by decide) ?_
  exact r_zret C hr hlk hw dX12_readLaw_328 (Nat.le_refl _) (Nat.le_refl _) (by decide) ⟨_, rfl, hq⟩
set_option maxHeartbeats 4000000 in
set_option maxRecDepth 100000 in
theorem lt_X12_readLaw_301 {l : Launch} {g : Gh} {p : Program} {e : Env} {s : State} {m : MethodId} {args : Array Value} {below : List Frame} {meth : Method} {c : Code} {H : Heap} {locs : List Loc} {ls : Array Slot} {M0 M : Mem} {a0 : Nat} {post : Int32 → Mem → Prop}    (C : Cx g p s m args c cX12_readLaw 2 RX12) (hr : meth.sig.returnType = (some .boolean)) (hlk : meth.locks = false) (hn : meth.name = "readLaw") (h0 : okc (gB g) M0 a0 12)  (hq : lb_X12_readLaw_301  g M0 a0 post   M) (hw : Wd g s M0 M H locs) (hl : lv_has ls 2 [(0, .ref a0)]) : W p l e (rmo 4 0 0) s m args below meth c H locs 0 0 (MQ below (Cq g M0 (pI post)) args s 0 0 (gA g)) (F0 m 301 ls []) := by
  have hx := C.1.1
  have hb := C.1.2.1
  unfold lb_X12_readLaw_301 at hq
  refine lv_aload_n hx hb dX12_readLaw_301 rfl (lv_at hl 0 rfl) ?_
  refine lv_iconst (v := 1) hx hb dX12_readLaw_302 (by decide) ?_
  refine r_callV (T := TX12) (N := 67) (ci := 12) (index := 213) (n := 1) (d2 := 0) (mc := 0) (ms := 0) (As := [.int 1]) (rest := []) C hw (ct_X12_bad hq) kvX12_213 hq.1 (by decide) rfl ⟨by decide, by decide⟩ ⟨by decide, by decide⟩ rfl hl.1 rfl (Nat.le_of_ble_eq_true rfl) dX12_readLaw_303 (fun r M4 H locs hp hle hw => ?_)
  obtain ⟨v3, rfl, hq⟩ := hp
  refine W.eq (g2 := F0 m 306 ls [.int v3]) rfl ?_
  obtain ⟨h5, hq⟩ := hq
  exact r_zret C hr hlk hw dX12_readLaw_306 (Nat.le_refl _) (Nat.le_refl _) h5 ⟨_, rfl, hq⟩
set_option maxHeartbeats 4000000 in
set_option maxRecDepth 100000 in
theorem lt_X12_readLaw_292 {l : Launch} {g : Gh} {p : Program} {e : Env} {s : State} {m : MethodId} {args : Array Value} {below : List Frame} {meth : Method} {c : Code} {H : Heap} {locs : List Loc} {ls : Array Slot} {M0 M : Mem} {a0 : Nat} {post : Int32 → Mem → Prop} {x1 : Int32}   (C : Cx g p s m args c cX12_readLaw 2 RX12) (hr : meth.sig.returnType = (some .boolean)) (hlk : meth.locks = false) (hn : meth.name = "readLaw") (h0 : okc (gB g) M0 a0 12) {bk2 : Int32 × Mem → Prop} (hk2 : ∀ (x1 : Int32) (M : Mem) (H : Heap) (locs : List Loc) (ls : Array Slot), bk2 (x1, M) → Wd g s M0 M H locs → lv_has ls 2 [(0, .ref a0), (1, .int x1)] → W p l e (rmo 4 0 0) s m args below meth c H locs 0 0 (MQ below (Cq g M0 (pI post)) args s 0 0 (gA g)) (F0 m 2 ls [])) (hq : lb_X12_readLaw_292  g M0 a0 post bk2 x1 M) (hw : Wd g s M0 M H locs) (hl : lv_has ls 2 [(0, .ref a0), (1, .int x1)]) : W p l e (rmo 4 0 0) s m args below meth c H locs 0 0 (MQ below (Cq g M0 (pI post)) args s 0 0 (gA g)) (F0 m 292 ls []) := by
  have hx := C.1.1
  have hb := C.1.2.1
  unfold lb_X12_readLaw_292 at hq
  refine lv_aload_n hx hb dX12_readLaw_292 rfl (lv_at hl 0 rfl) ?_
  refine lv_bipush (v := 59) hx hb dX12_readLaw_293 (by decide) ?_
  refine r_callV (T := TX12) (N := 67) (ci := 12) (index := 187) (n := 1) (d2 := 0) (mc := 0) (ms := 0) (As := [.int 59]) (rest := []) C hw (ct_X12_isSign hq) kvX12_187 hq.1 (by decide) rfl ⟨by decide, by decide⟩ ⟨by decide, by decide⟩ rfl hl.1 rfl (Nat.le_of_ble_eq_true rfl) dX12_readLaw_295 (fun r M7 H locs hp hle hw => ?_)
  obtain ⟨v6, rfl, hq⟩ := hp
  refine W.eq (g2 := F0 m 298 ls [.int v6]) rfl ?_
  refine lv_if_ne (tgt := 307) hx hb dX12_readLaw_298 (by decide) (fun c8 => ?_) (fun c8 => ?_)
  · replace hq := hq.2 c8
    refine lv_aload_n hx hb dX12_readLaw_307 rfl (lv_at hl 0 rfl) ?_
    refine lv_iconst (v := 0) hx hb dX12_readLaw_308 (by decide) ?_
    refine r_callV (T := TX12) (N := 67) (ci := 12) (index := 202) (n := 1) (d2 := 2) (mc := 0) (ms := 0) (As := [.int 0]) (rest := []) C hw (ct_X12_go hq) kvX12_202 hq.1 (by decide) rfl ⟨by decide, by decide⟩ ⟨by decide, by decide⟩ rfl hl.1 rfl (Nat.le_of_ble_eq_true rfl) dX12_readLaw_309 (fun r M10 H locs hp hle hw => ?_)
    obtain ⟨rfl, hq⟩ := hp
    refine W.eq (g2 := F0 m 312 ls []) rfl ?_
    refine lv_iinc (v := (x1 + 1)) (lv' := [(1, .int (x1 + 1)), (0, .ref a0)]) hx hb dX12_readLaw_312 hl (k := 1) rfl rfl (by decide) rfl (fun ls hl => ?_)
    refine lv_aload_n hx hb dX12_readLaw_315 rfl (lv_at hl 1 rfl) ?_
    refine gfX12_143 C hw hw.2.2.1 h0 dX12_readLaw_316 ?_
    refine lv_if_ne (tgt := 2) hx hb dX12_readLaw_319 (by decide) (fun c11 => ?_) (fun c11 => ?_)
    · replace hq := hq.2 c11
      exact hk2 _ _ _ _ _ hq hw (lv_sub hl [1, 0] rfl)
    · replace hq := hq.1 c11
      exact lt_X12_readLaw_322  C hr hlk hn h0  hq hw (lv_sub hl [1, 0] rfl)
  · replace hq := hq.1 c8
    exact lt_X12_readLaw_301  C hr hlk hn h0  hq hw (lv_sub hl [0] rfl)
set_option maxHeartbeats 4000000 in
set_option maxRecDepth 100000 in
theorem lt_X12_readLaw_238 {l : Launch} {g : Gh} {p : Program} {e : Env} {s : State} {m : MethodId} {args : Array Value} {below : List Frame} {meth : Method} {c : Code} {H : Heap} {locs : List Loc} {ls : Array Slot} {M0 M : Mem} {a0 : Nat} {post : Int32 → Mem → Prop} {x1 : Int32}   (C : Cx g p s m args c cX12_readLaw 2 RX12) (hr : meth.sig.returnType = (some .boolean)) (hlk : meth.locks = false) (hn : meth.name = "readLaw") (h0 : okc (gB g) M0 a0 12) {bk2 : Int32 × Mem → Prop} (hk2 : ∀ (x1 : Int32) (M : Mem) (H : Heap) (locs : List Loc) (ls : Array Slot), bk2 (x1, M) → Wd g s M0 M H locs → lv_has ls 2 [(0, .ref a0), (1, .int x1)] → W p l e (rmo 4 0 0) s m args below meth c H locs 0 0 (MQ below (Cq g M0 (pI post)) args s 0 0 (gA g)) (F0 m 2 ls [])) (hq : lb_X12_readLaw_238  g M0 a0 post bk2 x1 M) (hw : Wd g s M0 M H locs) (hl : lv_has ls 2 [(0, .ref a0), (1, .int x1)]) : W p l e (rmo 4 0 0) s m args below meth c H locs 0 0 (MQ below (Cq g M0 (pI post)) args s 0 0 (gA g)) (F0 m 238 ls []) := by
  have hx := C.1.1
  have hb := C.1.2.1
  unfold lb_X12_readLaw_238 at hq
  refine lv_aload_n hx hb dX12_readLaw_238 rfl (lv_at hl 0 rfl) ?_
  obtain ⟨q12, e13, hq⟩ := hq
  refine gfX12_78 C hw hw.2.2.1 h0 e13 dX12_readLaw_239 ?_
  refine lv_iload_n hx hb dX12_readLaw_242 rfl (lv_at hl 1 rfl) ?_
  refine lv_iconst (v := 0) hx hb dX12_readLaw_243 (by decide) ?_
  obtain ⟨h14, hq⟩ := hq
  obtain ⟨h15, hq⟩ := hq
  refine q_iast C hw hw.2.2.1 h14 h15 dX12_readLaw_244 (fun H locs hw => ?_)
  generalize e17 : uI M q12 (Int32.toNatClampNeg x1) 0 = M16 at hw
  replace hq := hq M16 e17.symm
  have e13 : mR M16 a0 37 = some q12 := by rw [← e17, mR_uI]; exact e13
  refine lv_aload_n hx hb dX12_readLaw_245 rfl (lv_at hl 0 rfl) ?_
  refine lv_bipush (v := 119) hx hb dX12_readLaw_246 (by decide) ?_
  refine lv_bipush (v := 114) hx hb dX12_readLaw_248 (by decide) ?_
  refine lv_bipush (v := 111) hx hb dX12_readLaw_250 (by decide) ?_
  refine lv_bipush (v := 110) hx hb dX12_readLaw_252 (by decide) ?_
  refine lv_bipush (v := 103) hx hb dX12_readLaw_254 (by decide) ?_
  refine r_callV (T := TX12) (N := 67) (ci := 12) (index := 257) (n := 5) (d2 := 0) (mc := 0) (ms := 0) (As := [.int 119, .int 114, .int 111, .int 110, .int 103]) (rest := []) C hw (ct_X12_isKey hq) kvX12_257 hq.1 (by decide) rfl ⟨by decide, by decide⟩ ⟨by decide, by decide⟩ rfl hl.1 rfl (Nat.le_of_ble_eq_true rfl) dX12_readLaw_256 (fun r M19 H locs hp hle hw => ?_)
  obtain ⟨v18, rfl, hq⟩ := hp
  refine W.eq (g2 := F0 m 259 ls [.int v18]) rfl ?_
  refine lv_if_eq (tgt := 292) hx hb dX12_readLaw_259 (by decide) (fun c20 => ?_) (fun c20 => ?_)
  · replace hq := hq.1 c20
    exact lt_X12_readLaw_292  C hr hlk hn h0 hk2 hq hw (lv_sub hl [0, 1] rfl)
  · replace hq := hq.2 c20
    refine lv_aload_n hx hb dX12_readLaw_262 rfl (lv_at hl 0 rfl) ?_
    refine lv_iconst (v := 0) hx hb dX12_readLaw_263 (by decide) ?_
    refine r_callV (T := TX12) (N := 67) (ci := 12) (index := 202) (n := 1) (d2 := 2) (mc := 0) (ms := 0) (As := [.int 0]) (rest := []) C hw (ct_X12_go hq) kvX12_202 hq.1 (by decide) rfl ⟨by decide, by decide⟩ ⟨by decide, by decide⟩ rfl hl.1 rfl (Nat.le_of_ble_eq_true rfl) dX12_readLaw_264 (fun r M22 H locs hp hle hw => ?_)
    obtain ⟨rfl, hq⟩ := hp
    refine W.eq (g2 := F0 m 267 ls []) rfl ?_
    refine lv_aload_n hx hb dX12_readLaw_267 rfl (lv_at hl 0 rfl) ?_
    obtain ⟨q23, e24, hq⟩ := hq
    refine gfX12_78 C hw hw.2.2.1 h0 e24 dX12_readLaw_268 ?_
    refine lv_iload_n hx hb dX12_readLaw_271 rfl (lv_at hl 1 rfl) ?_
    refine lv_aload_n hx hb dX12_readLaw_272 rfl (lv_at hl 0 rfl) ?_
    refine lv_iconst (v := 0) hx hb dX12_readLaw_273 (by decide) ?_
    refine lv_bipush (v := 20) hx hb dX12_readLaw_274 (by decide) ?_
    refine r_callV (T := TX12) (N := 67) (ci := 12) (index := 261) (n := 2) (d2 := 3) (mc := 0) (ms := 0) (As := [.int 0, .int 20]) (rest := [.int x1, .ref q23]) C hw (ct_X12_number hq) kvX12_261 hq.1 (by decide) rfl ⟨by decide, by decide⟩ ⟨by decide, by decide⟩ rfl hl.1 rfl (Nat.le_of_ble_eq_true rfl) dX12_readLaw_276 (fun r M26 H locs hp hle hw => ?_)
    obtain ⟨v25, rfl, hq⟩ := hp
    refine W.eq (g2 := F0 m 279 ls [.int v25, .int x1, .ref q23]) rfl ?_
    obtain ⟨h27, hq⟩ := hq
    obtain ⟨h28, hq⟩ := hq
    refine q_iast C hw hw.2.2.1 h27 h28 dX12_readLaw_279 (fun H locs hw => ?_)
    generalize e30 : uI M26 q23 (Int32.toNatClampNeg x1) v25 = M29 at hw
    replace hq := hq M29 e30.symm
    refine lv_aload_n hx hb dX12_readLaw_280 rfl (lv_at hl 0 rfl) ?_
    obtain ⟨q31, e32, hq⟩ := hq
    refine gfX12_78 C hw hw.2.2.1 h0 e32 dX12_readLaw_281 ?_
    refine lv_iload_n hx hb dX12_readLaw_284 rfl (lv_at hl 1 rfl) ?_
    obtain ⟨h33, hq⟩ := hq
    obtain ⟨h34, hq⟩ := hq
    refine q_iald C hw hw.2.2.1 h33 h34 dX12_readLaw_285 ?_
    refine lv_iconst (v := (-1)) hx hb dX12_readLaw_286 (by decide) ?_
    refine lv_icmp_ne (tgt := 292) hx hb dX12_readLaw_287 (by decide) (fun c35 => ?_) (fun c35 => ?_)
    · replace hq := hq.2 c35
      exact lt_X12_readLaw_292  C hr hlk hn h0 hk2 hq hw (lv_sub hl [0, 1] rfl)
    · replace hq := hq.1 c35
      refine lv_iconst (v := 0) hx hb dX12_readLaw_290 (by decide) ?_
      exact r_zret C hr hlk hw dX12_readLaw_291 (Nat.le_refl _) (Nat.le_refl _) (by decide) ⟨_, rfl, hq⟩
set_option maxHeartbeats 4000000 in
set_option maxRecDepth 100000 in
theorem lt_X12_readLaw_192 {l : Launch} {g : Gh} {p : Program} {e : Env} {s : State} {m : MethodId} {args : Array Value} {below : List Frame} {meth : Method} {c : Code} {H : Heap} {locs : List Loc} {ls : Array Slot} {M0 M : Mem} {a0 : Nat} {post : Int32 → Mem → Prop} {x1 : Int32}   (C : Cx g p s m args c cX12_readLaw 2 RX12) (hr : meth.sig.returnType = (some .boolean)) (hlk : meth.locks = false) (hn : meth.name = "readLaw") (h0 : okc (gB g) M0 a0 12) {bk2 : Int32 × Mem → Prop} (hk2 : ∀ (x1 : Int32) (M : Mem) (H : Heap) (locs : List Loc) (ls : Array Slot), bk2 (x1, M) → Wd g s M0 M H locs → lv_has ls 2 [(0, .ref a0), (1, .int x1)] → W p l e (rmo 4 0 0) s m args below meth c H locs 0 0 (MQ below (Cq g M0 (pI post)) args s 0 0 (gA g)) (F0 m 2 ls [])) (hq : lb_X12_readLaw_192  g M0 a0 post bk2 x1 M) (hw : Wd g s M0 M H locs) (hl : lv_has ls 2 [(0, .ref a0), (1, .int x1)]) : W p l e (rmo 4 0 0) s m args below meth c H locs 0 0 (MQ below (Cq g M0 (pI post)) args s 0 0 (gA g)) (F0 m 192 ls []) := by
  have hx := C.1.1
  have hb := C.1.2.1
  unfold lb_X12_readLaw_192 at hq
  refine lv_aload_n hx hb dX12_readLaw_192 rfl (lv_at hl 0 rfl) ?_
  refine lv_bipush (v := 112) hx hb dX12_readLaw_193 (by decide) ?_
  refine lv_bipush (v := 97) hx hb dX12_readLaw_195 (by decide) ?_
  refine lv_bipush (v := 115) hx hb dX12_readLaw_197 (by decide) ?_
  refine lv_bipush (v := 115) hx hb dX12_readLaw_199 (by decide) ?_
  refine lv_iconst (v := 0) hx hb dX12_readLaw_201 (by decide) ?_
  refine r_callV (T := TX12) (N := 67) (ci := 12) (index := 257) (n := 5) (d2 := 0) (mc := 0) (ms := 0) (As := [.int 112, .int 97, .int 115, .int 115, .int 0]) (rest := []) C hw (ct_X12_isKey hq) kvX12_257 hq.1 (by decide) rfl ⟨by decide, by decide⟩ ⟨by decide, by decide⟩ rfl hl.1 rfl (Nat.le_of_ble_eq_true rfl) dX12_readLaw_202 (fun r M37 H locs hp hle hw => ?_)
  obtain ⟨v36, rfl, hq⟩ := hp
  refine W.eq (g2 := F0 m 205 ls [.int v36]) rfl ?_
  refine lv_if_eq (tgt := 238) hx hb dX12_readLaw_205 (by decide) (fun c38 => ?_) (fun c38 => ?_)
  · replace hq := hq.1 c38
    exact lt_X12_readLaw_238  C hr hlk hn h0 hk2 hq hw (lv_sub hl [0, 1] rfl)
  · replace hq := hq.2 c38
    refine lv_aload_n hx hb dX12_readLaw_208 rfl (lv_at hl 0 rfl) ?_
    refine lv_iconst (v := 0) hx hb dX12_readLaw_209 (by decide) ?_
    refine r_callV (T := TX12) (N := 67) (ci := 12) (index := 202) (n := 1) (d2 := 2) (mc := 0) (ms := 0) (As := [.int 0]) (rest := []) C hw (ct_X12_go hq) kvX12_202 hq.1 (by decide) rfl ⟨by decide, by decide⟩ ⟨by decide, by decide⟩ rfl hl.1 rfl (Nat.le_of_ble_eq_true rfl) dX12_readLaw_210 (fun r M40 H locs hp hle hw => ?_)
    obtain ⟨rfl, hq⟩ := hp
    refine W.eq (g2 := F0 m 213 ls []) rfl ?_
    refine lv_aload_n hx hb dX12_readLaw_213 rfl (lv_at hl 0 rfl) ?_
    obtain ⟨q41, e42, hq⟩ := hq
    refine gfX12_75 C hw hw.2.2.1 h0 e42 dX12_readLaw_214 ?_
    refine lv_iload_n hx hb dX12_readLaw_217 rfl (lv_at hl 1 rfl) ?_
    refine lv_aload_n hx hb dX12_readLaw_218 rfl (lv_at hl 0 rfl) ?_
    refine lv_iconst (v := 0) hx hb dX12_readLaw_219 (by decide) ?_
    refine lv_bipush (v := 20) hx hb dX12_readLaw_220 (by decide) ?_
    refine r_callV (T := TX12) (N := 67) (ci := 12) (index := 261) (n := 2) (d2 := 3) (mc := 0) (ms := 0) (As := [.int 0, .int 20]) (rest := [.int x1, .ref q41]) C hw (ct_X12_number hq) kvX12_261 hq.1 (by decide) rfl ⟨by decide, by decide⟩ ⟨by decide, by decide⟩ rfl hl.1 rfl (Nat.le_of_ble_eq_true rfl) dX12_readLaw_222 (fun r M44 H locs hp hle hw => ?_)
    obtain ⟨v43, rfl, hq⟩ := hp
    refine W.eq (g2 := F0 m 225 ls [.int v43, .int x1, .ref q41]) rfl ?_
    obtain ⟨h45, hq⟩ := hq
    obtain ⟨h46, hq⟩ := hq
    refine q_iast C hw hw.2.2.1 h45 h46 dX12_readLaw_225 (fun H locs hw => ?_)
    generalize e48 : uI M44 q41 (Int32.toNatClampNeg x1) v43 = M47 at hw
    replace hq := hq M47 e48.symm
    refine lv_aload_n hx hb dX12_readLaw_226 rfl (lv_at hl 0 rfl) ?_
    obtain ⟨q49, e50, hq⟩ := hq
    refine gfX12_75 C hw hw.2.2.1 h0 e50 dX12_readLaw_227 ?_
    refine lv_iload_n hx hb dX12_readLaw_230 rfl (lv_at hl 1 rfl) ?_
    obtain ⟨h51, hq⟩ := hq
    obtain ⟨h52, hq⟩ := hq
    refine q_iald C hw hw.2.2.1 h51 h52 dX12_readLaw_231 ?_
    refine lv_iconst (v := (-1)) hx hb dX12_readLaw_232 (by decide) ?_
    refine lv_icmp_ne (tgt := 238) hx hb dX12_readLaw_233 (by decide) (fun c53 => ?_) (fun c53 => ?_)
    · replace hq := hq.2 c53
      exact lt_X12_readLaw_238  C hr hlk hn h0 hk2 hq hw (lv_sub hl [0, 1] rfl)
    · replace hq := hq.1 c53
      refine lv_iconst (v := 0) hx hb dX12_readLaw_236 (by decide) ?_
      exact r_zret C hr hlk hw dX12_readLaw_237 (Nat.le_refl _) (Nat.le_refl _) (by decide) ⟨_, rfl, hq⟩
set_option maxHeartbeats 4000000 in
set_option maxRecDepth 100000 in
theorem lt_X12_readLaw_140 {l : Launch} {g : Gh} {p : Program} {e : Env} {s : State} {m : MethodId} {args : Array Value} {below : List Frame} {meth : Method} {c : Code} {H : Heap} {locs : List Loc} {ls : Array Slot} {M0 M : Mem} {a0 : Nat} {post : Int32 → Mem → Prop}    (C : Cx g p s m args c cX12_readLaw 2 RX12) (hr : meth.sig.returnType = (some .boolean)) (hlk : meth.locks = false) (hn : meth.name = "readLaw") (h0 : okc (gB g) M0 a0 12)  (hq : lb_X12_readLaw_140  g M0 a0 post   M) (hw : Wd g s M0 M H locs) (hl : lv_has ls 2 [(0, .ref a0)]) : W p l e (rmo 4 0 0) s m args below meth c H locs 0 0 (MQ below (Cq g M0 (pI post)) args s 0 0 (gA g)) (F0 m 140 ls []) := by
  have hx := C.1.1
  have hb := C.1.2.1
  unfold lb_X12_readLaw_140 at hq
  refine lv_aload_n hx hb dX12_readLaw_140 rfl (lv_at hl 0 rfl) ?_
  refine lv_iconst (v := 1) hx hb dX12_readLaw_141 (by decide) ?_
  refine r_callV (T := TX12) (N := 67) (ci := 12) (index := 213) (n := 1) (d2 := 0) (mc := 0) (ms := 0) (As := [.int 1]) (rest := []) C hw (ct_X12_bad hq) kvX12_213 hq.1 (by decide) rfl ⟨by decide, by decide⟩ ⟨by decide, by decide⟩ rfl hl.1 rfl (Nat.le_of_ble_eq_true rfl) dX12_readLaw_142 (fun r M55 H locs hp hle hw => ?_)
  obtain ⟨v54, rfl, hq⟩ := hp
  refine W.eq (g2 := F0 m 145 ls [.int v54]) rfl ?_
  obtain ⟨h56, hq⟩ := hq
  exact r_zret C hr hlk hw dX12_readLaw_145 (Nat.le_refl _) (Nat.le_refl _) h56 ⟨_, rfl, hq⟩
set_option maxHeartbeats 4000000 in
set_option maxRecDepth 100000 in
theorem lt_X12_readLaw_118 {l : Launch} {g : Gh} {p : Program} {e : Env} {s : State} {m : MethodId} {args : Array Value} {below : List Frame} {meth : Method} {c : Code} {H : Heap} {locs : List Loc} {ls : Array Slot} {M0 M : Mem} {a0 : Nat} {post : Int32 → Mem → Prop} {x1 : Int32}   (C : Cx g p s m args c cX12_readLaw 2 RX12) (hr : meth.sig.returnType = (some .boolean)) (hlk : meth.locks = false) (hn : meth.name = "readLaw") (h0 : okc (gB g) M0 a0 12) {bk2 : Int32 × Mem → Prop} (hk2 : ∀ (x1 : Int32) (M : Mem) (H : Heap) (locs : List Loc) (ls : Array Slot), bk2 (x1, M) → Wd g s M0 M H locs → lv_has ls 2 [(0, .ref a0), (1, .int x1)] → W p l e (rmo 4 0 0) s m args below meth c H locs 0 0 (MQ below (Cq g M0 (pI post)) args s 0 0 (gA g)) (F0 m 2 ls [])) (hq : lb_X12_readLaw_118  g M0 a0 post bk2 x1 M) (hw : Wd g s M0 M H locs) (hl : lv_has ls 2 [(0, .ref a0), (1, .int x1)]) : W p l e (rmo 4 0 0) s m args below meth c H locs 0 0 (MQ below (Cq g M0 (pI post)) args s 0 0 (gA g)) (F0 m 118 ls []) := by
  have hx := C.1.1
  have hb := C.1.2.1
  unfold lb_X12_readLaw_118 at hq
  refine lv_aload_n hx hb dX12_readLaw_118 rfl (lv_at hl 0 rfl) ?_
  refine lv_iconst (v := 0) hx hb dX12_readLaw_119 (by decide) ?_
  refine r_callV (T := TX12) (N := 67) (ci := 12) (index := 202) (n := 1) (d2 := 2) (mc := 0) (ms := 0) (As := [.int 0]) (rest := []) C hw (ct_X12_go hq) kvX12_202 hq.1 (by decide) rfl ⟨by decide, by decide⟩ ⟨by decide, by decide⟩ rfl hl.1 rfl (Nat.le_of_ble_eq_true rfl) dX12_readLaw_120 (fun r M58 H locs hp hle hw => ?_)
  obtain ⟨rfl, hq⟩ := hp
  refine W.eq (g2 := F0 m 123 ls []) rfl ?_
  refine lv_aload_n hx hb dX12_readLaw_123 rfl (lv_at hl 0 rfl) ?_
  refine lv_bipush (v := 114) hx hb dX12_readLaw_124 (by decide) ?_
  refine lv_bipush (v := 105) hx hb dX12_readLaw_126 (by decide) ?_
  refine lv_bipush (v := 103) hx hb dX12_readLaw_128 (by decide) ?_
  refine lv_bipush (v := 104) hx hb dX12_readLaw_130 (by decide) ?_
  refine lv_bipush (v := 116) hx hb dX12_readLaw_132 (by decide) ?_
  refine r_callV (T := TX12) (N := 67) (ci := 12) (index := 257) (n := 5) (d2 := 0) (mc := 0) (ms := 0) (As := [.int 114, .int 105, .int 103, .int 104, .int 116]) (rest := []) C hw (ct_X12_isKey hq) kvX12_257 hq.1 (by decide) rfl ⟨by decide, by decide⟩ ⟨by decide, by decide⟩ rfl hl.1 rfl (Nat.le_of_ble_eq_true rfl) dX12_readLaw_134 (fun r M60 H locs hp hle hw => ?_)
  obtain ⟨v59, rfl, hq⟩ := hp
  refine W.eq (g2 := F0 m 137 ls [.int v59]) rfl ?_
  refine lv_if_ne (tgt := 146) hx hb dX12_readLaw_137 (by decide) (fun c61 => ?_) (fun c61 => ?_)
  · replace hq := hq.2 c61
    refine lv_aload_n hx hb dX12_readLaw_146 rfl (lv_at hl 0 rfl) ?_
    refine lv_iconst (v := 0) hx hb dX12_readLaw_147 (by decide) ?_
    refine r_callV (T := TX12) (N := 67) (ci := 12) (index := 202) (n := 1) (d2 := 2) (mc := 0) (ms := 0) (As := [.int 0]) (rest := []) C hw (ct_X12_go hq) kvX12_202 hq.1 (by decide) rfl ⟨by decide, by decide⟩ ⟨by decide, by decide⟩ rfl hl.1 rfl (Nat.le_of_ble_eq_true rfl) dX12_readLaw_148 (fun r M63 H locs hp hle hw => ?_)
    obtain ⟨rfl, hq⟩ := hp
    refine W.eq (g2 := F0 m 151 ls []) rfl ?_
    refine lv_aload_n hx hb dX12_readLaw_151 rfl (lv_at hl 0 rfl) ?_
    obtain ⟨q64, e65, hq⟩ := hq
    refine gfX12_72 C hw hw.2.2.1 h0 e65 dX12_readLaw_152 ?_
    refine lv_iload_n hx hb dX12_readLaw_155 rfl (lv_at hl 1 rfl) ?_
    refine lv_aload_n hx hb dX12_readLaw_156 rfl (lv_at hl 0 rfl) ?_
    refine lv_iconst (v := 0) hx hb dX12_readLaw_157 (by decide) ?_
    refine lv_bipush (v := 20) hx hb dX12_readLaw_158 (by decide) ?_
    refine r_callV (T := TX12) (N := 67) (ci := 12) (index := 261) (n := 2) (d2 := 3) (mc := 0) (ms := 0) (As := [.int 0, .int 20]) (rest := [.int x1, .ref q64]) C hw (ct_X12_number hq) kvX12_261 hq.1 (by decide) rfl ⟨by decide, by decide⟩ ⟨by decide, by decide⟩ rfl hl.1 rfl (Nat.le_of_ble_eq_true rfl) dX12_readLaw_160 (fun r M67 H locs hp hle hw => ?_)
    obtain ⟨v66, rfl, hq⟩ := hp
    refine W.eq (g2 := F0 m 163 ls [.int v66, .int x1, .ref q64]) rfl ?_
    obtain ⟨h68, hq⟩ := hq
    obtain ⟨h69, hq⟩ := hq
    refine q_iast C hw hw.2.2.1 h68 h69 dX12_readLaw_163 (fun H locs hw => ?_)
    generalize e71 : uI M67 q64 (Int32.toNatClampNeg x1) v66 = M70 at hw
    replace hq := hq M70 e71.symm
    refine lv_aload_n hx hb dX12_readLaw_164 rfl (lv_at hl 0 rfl) ?_
    obtain ⟨q72, e73, hq⟩ := hq
    refine gfX12_72 C hw hw.2.2.1 h0 e73 dX12_readLaw_165 ?_
    refine lv_iload_n hx hb dX12_readLaw_168 rfl (lv_at hl 1 rfl) ?_
    obtain ⟨h74, hq⟩ := hq
    obtain ⟨h75, hq⟩ := hq
    refine q_iald C hw hw.2.2.1 h74 h75 dX12_readLaw_169 ?_
    refine lv_iconst (v := (-1)) hx hb dX12_readLaw_170 (by decide) ?_
    refine lv_icmp_ne (tgt := 176) hx hb dX12_readLaw_171 (by decide) (fun c76 => ?_) (fun c76 => ?_)
    · replace hq := hq.2 c76
      refine lv_aload_n hx hb dX12_readLaw_176 rfl (lv_at hl 0 rfl) ?_
      obtain ⟨q77, e78, hq⟩ := hq
      refine gfX12_75 C hw hw.2.2.1 h0 e78 dX12_readLaw_177 ?_
      refine lv_iload_n hx hb dX12_readLaw_180 rfl (lv_at hl 1 rfl) ?_
      refine lv_iconst (v := (-1)) hx hb dX12_readLaw_181 (by decide) ?_
      obtain ⟨h79, hq⟩ := hq
      obtain ⟨h80, hq⟩ := hq
      refine q_iast C hw hw.2.2.1 h79 h80 dX12_readLaw_182 (fun H locs hw => ?_)
      generalize e82 : uI M70 q77 (Int32.toNatClampNeg x1) (-1) = M81 at hw
      replace hq := hq M81 e82.symm
      have e73 : mR M81 a0 35 = some q72 := by rw [← e82, mR_uI]; exact e73
      have e78 : mR M81 a0 36 = some q77 := by rw [← e82, mR_uI]; exact e78
      refine lv_aload_n hx hb dX12_readLaw_183 rfl (lv_at hl 0 rfl) ?_
      obtain ⟨q83, e84, hq⟩ := hq
      refine gfX12_81 C hw hw.2.2.1 h0 e84 dX12_readLaw_184 ?_
      refine lv_iload_n hx hb dX12_readLaw_187 rfl (lv_at hl 1 rfl) ?_
      obtain ⟨h85, hq⟩ := hq
      obtain ⟨h86, hq⟩ := hq
      refine q_zald C hw hw.2.2.1 h85 h86 dX12_readLaw_188 ?_
      refine lv_if_ne (tgt := 238) hx hb dX12_readLaw_189 (by decide) (fun c87 => ?_) (fun c87 => ?_)
      · replace hq := hq.2 c87
        exact lt_X12_readLaw_238  C hr hlk hn h0 hk2 hq hw (lv_sub hl [0, 1] rfl)
      · replace hq := hq.1 c87
        exact lt_X12_readLaw_192  C hr hlk hn h0 hk2 hq hw (lv_sub hl [0, 1] rfl)
    · replace hq := hq.1 c76
      refine lv_iconst (v := 0) hx hb dX12_readLaw_174 (by decide) ?_
      exact r_zret C hr hlk hw dX12_readLaw_175 (Nat.le_refl _) (Nat.le_refl _) (by decide) ⟨_, rfl, hq⟩
  · replace hq := hq.1 c61
    exact lt_X12_readLaw_140  C hr hlk hn h0  hq hw (lv_sub hl [0] rfl)
set_option maxHeartbeats 4000000 in
set_option maxRecDepth 100000 in
theorem lt_X12_readLaw_112 {l : Launch} {g : Gh} {p : Program} {e : Env} {s : State} {m : MethodId} {args : Array Value} {below : List Frame} {meth : Method} {c : Code} {H : Heap} {locs : List Loc} {ls : Array Slot} {M0 M : Mem} {a0 : Nat} {post : Int32 → Mem → Prop}    (C : Cx g p s m args c cX12_readLaw 2 RX12) (hr : meth.sig.returnType = (some .boolean)) (hlk : meth.locks = false) (hn : meth.name = "readLaw") (h0 : okc (gB g) M0 a0 12)  (hq : lb_X12_readLaw_112  g M0 a0 post   M) (hw : Wd g s M0 M H locs) (hl : lv_has ls 2 [(0, .ref a0)]) : W p l e (rmo 4 0 0) s m args below meth c H locs 0 0 (MQ below (Cq g M0 (pI post)) args s 0 0 (gA g)) (F0 m 112 ls []) := by
  have hx := C.1.1
  have hb := C.1.2.1
  unfold lb_X12_readLaw_112 at hq
  refine lv_aload_n hx hb dX12_readLaw_112 rfl (lv_at hl 0 rfl) ?_
  refine lv_iconst (v := 1) hx hb dX12_readLaw_113 (by decide) ?_
  refine r_callV (T := TX12) (N := 67) (ci := 12) (index := 213) (n := 1) (d2 := 0) (mc := 0) (ms := 0) (As := [.int 1]) (rest := []) C hw (ct_X12_bad hq) kvX12_213 hq.1 (by decide) rfl ⟨by decide, by decide⟩ ⟨by decide, by decide⟩ rfl hl.1 rfl (Nat.le_of_ble_eq_true rfl) dX12_readLaw_114 (fun r M89 H locs hp hle hw => ?_)
  obtain ⟨v88, rfl, hq⟩ := hp
  refine W.eq (g2 := F0 m 117 ls [.int v88]) rfl ?_
  obtain ⟨h90, hq⟩ := hq
  exact r_zret C hr hlk hw dX12_readLaw_117 (Nat.le_refl _) (Nat.le_refl _) h90 ⟨_, rfl, hq⟩
set_option maxHeartbeats 4000000 in
set_option maxRecDepth 100000 in
theorem lt_X12_readLaw_86 {l : Launch} {g : Gh} {p : Program} {e : Env} {s : State} {m : MethodId} {args : Array Value} {below : List Frame} {meth : Method} {c : Code} {H : Heap} {locs : List Loc} {ls : Array Slot} {M0 M : Mem} {a0 : Nat} {post : Int32 → Mem → Prop} {x1 : Int32}   (C : Cx g p s m args c cX12_readLaw 2 RX12) (hr : meth.sig.returnType = (some .boolean)) (hlk : meth.locks = false) (hn : meth.name = "readLaw") (h0 : okc (gB g) M0 a0 12) {bk2 : Int32 × Mem → Prop} (hk2 : ∀ (x1 : Int32) (M : Mem) (H : Heap) (locs : List Loc) (ls : Array Slot), bk2 (x1, M) → Wd g s M0 M H locs → lv_has ls 2 [(0, .ref a0), (1, .int x1)] → W p l e (rmo 4 0 0) s m args below meth c H locs 0 0 (MQ below (Cq g M0 (pI post)) args s 0 0 (gA g)) (F0 m 2 ls [])) (hq : lb_X12_readLaw_86  g M0 a0 post bk2 x1 M) (hw : Wd g s M0 M H locs) (hl : lv_has ls 2 [(0, .ref a0), (1, .int x1)]) : W p l e (rmo 4 0 0) s m args below meth c H locs 0 0 (MQ below (Cq g M0 (pI post)) args s 0 0 (gA g)) (F0 m 86 ls []) := by
  have hx := C.1.1
  have hb := C.1.2.1
  unfold lb_X12_readLaw_86 at hq
  refine lv_aload_n hx hb dX12_readLaw_86 rfl (lv_at hl 0 rfl) ?_
  obtain ⟨q91, e92, hq⟩ := hq
  refine gfX12_81 C hw hw.2.2.1 h0 e92 dX12_readLaw_87 ?_
  refine lv_iload_n hx hb dX12_readLaw_90 rfl (lv_at hl 1 rfl) ?_
  obtain ⟨h93, hq⟩ := hq
  obtain ⟨h94, hq⟩ := hq
  refine q_zald C hw hw.2.2.1 h93 h94 dX12_readLaw_91 ?_
  refine lv_if_ne (tgt := 118) hx hb dX12_readLaw_92 (by decide) (fun c95 => ?_) (fun c95 => ?_)
  · replace hq := hq.2 c95
    exact lt_X12_readLaw_118  C hr hlk hn h0 hk2 hq hw (lv_sub hl [0, 1] rfl)
  · replace hq := hq.1 c95
    refine lv_aload_n hx hb dX12_readLaw_95 rfl (lv_at hl 0 rfl) ?_
    refine lv_bipush (v := 116) hx hb dX12_readLaw_96 (by decide) ?_
    refine lv_bipush (v := 117) hx hb dX12_readLaw_98 (by decide) ?_
    refine lv_bipush (v := 114) hx hb dX12_readLaw_100 (by decide) ?_
    refine lv_bipush (v := 110) hx hb dX12_readLaw_102 (by decide) ?_
    refine lv_bipush (v := 115) hx hb dX12_readLaw_104 (by decide) ?_
    refine r_callV (T := TX12) (N := 67) (ci := 12) (index := 257) (n := 5) (d2 := 0) (mc := 0) (ms := 0) (As := [.int 116, .int 117, .int 114, .int 110, .int 115]) (rest := []) C hw (ct_X12_isKey hq) kvX12_257 hq.1 (by decide) rfl ⟨by decide, by decide⟩ ⟨by decide, by decide⟩ rfl hl.1 rfl (Nat.le_of_ble_eq_true rfl) dX12_readLaw_106 (fun r M97 H locs hp hle hw => ?_)
    obtain ⟨v96, rfl, hq⟩ := hp
    refine W.eq (g2 := F0 m 109 ls [.int v96]) rfl ?_
    refine lv_if_ne (tgt := 118) hx hb dX12_readLaw_109 (by decide) (fun c98 => ?_) (fun c98 => ?_)
    · replace hq := hq.2 c98
      exact lt_X12_readLaw_118  C hr hlk hn h0 hk2 hq hw (lv_sub hl [0, 1] rfl)
    · replace hq := hq.1 c98
      exact lt_X12_readLaw_112  C hr hlk hn h0  hq hw (lv_sub hl [0] rfl)
set_option maxHeartbeats 4000000 in
set_option maxRecDepth 100000 in
theorem lt_X12_readLaw_31 {l : Launch} {g : Gh} {p : Program} {e : Env} {s : State} {m : MethodId} {args : Array Value} {below : List Frame} {meth : Method} {c : Code} {H : Heap} {locs : List Loc} {ls : Array Slot} {M0 M : Mem} {a0 : Nat} {post : Int32 → Mem → Prop}    (C : Cx g p s m args c cX12_readLaw 2 RX12) (hr : meth.sig.returnType = (some .boolean)) (hlk : meth.locks = false) (hn : meth.name = "readLaw") (h0 : okc (gB g) M0 a0 12)  (hq : lb_X12_readLaw_31  g M0 a0 post   M) (hw : Wd g s M0 M H locs) (hl : lv_has ls 2 [(0, .ref a0)]) : W p l e (rmo 4 0 0) s m args below meth c H locs 0 0 (MQ below (Cq g M0 (pI post)) args s 0 0 (gA g)) (F0 m 31 ls []) := by
  have hx := C.1.1
  have hb := C.1.2.1
  unfold lb_X12_readLaw_31 at hq
  refine lv_aload_n hx hb dX12_readLaw_31 rfl (lv_at hl 0 rfl) ?_
  refine lv_iconst (v := 3) hx hb dX12_readLaw_32 (by decide) ?_
  refine r_callV (T := TX12) (N := 67) (ci := 12) (index := 213) (n := 1) (d2 := 0) (mc := 0) (ms := 0) (As := [.int 3]) (rest := []) C hw (ct_X12_bad hq) kvX12_213 hq.1 (by decide) rfl ⟨by decide, by decide⟩ ⟨by decide, by decide⟩ rfl hl.1 rfl (Nat.le_of_ble_eq_true rfl) dX12_readLaw_33 (fun r M100 H locs hp hle hw => ?_)
  obtain ⟨v99, rfl, hq⟩ := hp
  refine W.eq (g2 := F0 m 36 ls [.int v99]) rfl ?_
  obtain ⟨h101, hq⟩ := hq
  exact r_zret C hr hlk hw dX12_readLaw_36 (Nat.le_refl _) (Nat.le_refl _) h101 ⟨_, rfl, hq⟩
set_option maxHeartbeats 4000000 in
set_option maxRecDepth 100000 in
theorem lt_X12_readLaw_19 {l : Launch} {g : Gh} {p : Program} {e : Env} {s : State} {m : MethodId} {args : Array Value} {below : List Frame} {meth : Method} {c : Code} {H : Heap} {locs : List Loc} {ls : Array Slot} {M0 M : Mem} {a0 : Nat} {post : Int32 → Mem → Prop}    (C : Cx g p s m args c cX12_readLaw 2 RX12) (hr : meth.sig.returnType = (some .boolean)) (hlk : meth.locks = false) (hn : meth.name = "readLaw") (h0 : okc (gB g) M0 a0 12)  (hq : lb_X12_readLaw_19  g M0 a0 post   M) (hw : Wd g s M0 M H locs) (hl : lv_has ls 2 [(0, .ref a0)]) : W p l e (rmo 4 0 0) s m args below meth c H locs 0 0 (MQ below (Cq g M0 (pI post)) args s 0 0 (gA g)) (F0 m 19 ls []) := by
  have hx := C.1.1
  have hb := C.1.2.1
  unfold lb_X12_readLaw_19 at hq
  refine lv_aload_n hx hb dX12_readLaw_19 rfl (lv_at hl 0 rfl) ?_
  refine lv_iconst (v := 1) hx hb dX12_readLaw_20 (by decide) ?_
  refine r_callV (T := TX12) (N := 67) (ci := 12) (index := 213) (n := 1) (d2 := 0) (mc := 0) (ms := 0) (As := [.int 1]) (rest := []) C hw (ct_X12_bad hq) kvX12_213 hq.1 (by decide) rfl ⟨by decide, by decide⟩ ⟨by decide, by decide⟩ rfl hl.1 rfl (Nat.le_of_ble_eq_true rfl) dX12_readLaw_21 (fun r M103 H locs hp hle hw => ?_)
  obtain ⟨v102, rfl, hq⟩ := hp
  refine W.eq (g2 := F0 m 24 ls [.int v102]) rfl ?_
  obtain ⟨h104, hq⟩ := hq
  exact r_zret C hr hlk hw dX12_readLaw_24 (Nat.le_refl _) (Nat.le_refl _) h104 ⟨_, rfl, hq⟩
set_option maxHeartbeats 4000000 in
set_option maxRecDepth 100000 in
theorem lp_X12_readLaw_2 {l : Launch} {g : Gh} {p : Program} {e : Env} {s : State} {m : MethodId} {args : Array Value} {below : List Frame} {meth : Method} {c : Code} {M0 : Mem} {a0 : Nat} {post : Int32 → Mem → Prop}  (C : Cx g p s m args c cX12_readLaw 2 RX12) (hr : meth.sig.returnType = (some .boolean)) (hlk : meth.locks = false) (hn : meth.name = "readLaw") (h0 : okc (gB g) M0 a0 12)  : ∀ (nf : Nat) (x1 : Int32)  (M : Mem) (H : Heap) (locs : List Loc) (ls : Array Slot), lfp (fun bk z => bd_X12_readLaw_2  g M0 a0 post  bk z.1 z.2) nf (x1, M) → Wd g s M0 M H locs → lv_has ls 2 [(0, .ref a0), (1, .int x1)] → W p l e (rmo 4 0 0) s m args below meth c H locs 0 0 (MQ below (Cq g M0 (pI post)) args s 0 0 (gA g)) (F0 m 2 ls []) := by
  have hx := C.1.1
  have hb := C.1.2.1
  intro nf
  induction nf with
  | zero => intro _ _ H locs ls hq; exact hq.elim
  | succ nf hk2 =>
    intro x1 M H locs ls hq hw hl
    replace hq : bd_X12_readLaw_2  g M0 a0 post  (lfp (fun bk z => bd_X12_readLaw_2  g M0 a0 post  bk z.1 z.2) nf) x1 M := hq
    unfold bd_X12_readLaw_2 at hq
    refine lv_aload_n hx hb dX12_readLaw_2 rfl (lv_at hl 0 rfl) ?_
    refine lv_bipush (v := 114) hx hb dX12_readLaw_3 (by decide) ?_
    refine lv_bipush (v := 111) hx hb dX12_readLaw_5 (by decide) ?_
    refine lv_bipush (v := 117) hx hb dX12_readLaw_7 (by decide) ?_
    refine lv_bipush (v := 110) hx hb dX12_readLaw_9 (by decide) ?_
    refine lv_bipush (v := 100) hx hb dX12_readLaw_11 (by decide) ?_
    refine r_callV (T := TX12) (N := 67) (ci := 12) (index := 257) (n := 5) (d2 := 0) (mc := 0) (ms := 0) (As := [.int 114, .int 111, .int 117, .int 110, .int 100]) (rest := []) C hw (ct_X12_isKey hq) kvX12_257 hq.1 (by decide) rfl ⟨by decide, by decide⟩ ⟨by decide, by decide⟩ rfl hl.1 rfl (Nat.le_of_ble_eq_true rfl) dX12_readLaw_13 (fun r M106 H locs hp hle hw => ?_)
    obtain ⟨v105, rfl, hq⟩ := hp
    refine W.eq (g2 := F0 m 16 ls [.int v105]) rfl ?_
    refine lv_if_ne (tgt := 25) hx hb dX12_readLaw_16 (by decide) (fun c107 => ?_) (fun c107 => ?_)
    · replace hq := hq.2 c107
      refine lv_iload_n hx hb dX12_readLaw_25 rfl (lv_at hl 1 rfl) ?_
      refine lv_bipush (v := 6) hx hb dX12_readLaw_26 (by decide) ?_
      refine lv_icmp_ne (tgt := 37) hx hb dX12_readLaw_28 (by decide) (fun c108 => ?_) (fun c108 => ?_)
      · replace hq := hq.2 c108
        refine lv_aload_n hx hb dX12_readLaw_37 rfl (lv_at hl 0 rfl) ?_
        refine lv_iconst (v := 0) hx hb dX12_readLaw_38 (by decide) ?_
        refine r_callV (T := TX12) (N := 67) (ci := 12) (index := 202) (n := 1) (d2 := 2) (mc := 0) (ms := 0) (As := [.int 0]) (rest := []) C hw (ct_X12_go hq) kvX12_202 hq.1 (by decide) rfl ⟨by decide, by decide⟩ ⟨by decide, by decide⟩ rfl hl.1 rfl (Nat.le_of_ble_eq_true rfl) dX12_readLaw_39 (fun r M110 H locs hp hle hw => ?_)
        obtain ⟨rfl, hq⟩ := hp
        refine W.eq (g2 := F0 m 42 ls []) rfl ?_
        refine lv_aload_n hx hb dX12_readLaw_42 rfl (lv_at hl 0 rfl) ?_
        obtain ⟨q111, e112, hq⟩ := hq
        refine gfX12_69 C hw hw.2.2.1 h0 e112 dX12_readLaw_43 ?_
        refine lv_iload_n hx hb dX12_readLaw_46 rfl (lv_at hl 1 rfl) ?_
        refine lv_aload_n hx hb dX12_readLaw_47 rfl (lv_at hl 0 rfl) ?_
        refine lv_iconst (v := 1) hx hb dX12_readLaw_48 (by decide) ?_
        refine lv_bipush (v := 8) hx hb dX12_readLaw_49 (by decide) ?_
        refine r_callV (T := TX12) (N := 67) (ci := 12) (index := 261) (n := 2) (d2 := 3) (mc := 0) (ms := 0) (As := [.int 1, .int 8]) (rest := [.int x1, .ref q111]) C hw (ct_X12_number hq) kvX12_261 hq.1 (by decide) rfl ⟨by decide, by decide⟩ ⟨by decide, by decide⟩ rfl hl.1 rfl (Nat.le_of_ble_eq_true rfl) dX12_readLaw_51 (fun r M114 H locs hp hle hw => ?_)
        obtain ⟨v113, rfl, hq⟩ := hp
        refine W.eq (g2 := F0 m 54 ls [.int v113, .int x1, .ref q111]) rfl ?_
        obtain ⟨h115, hq⟩ := hq
        obtain ⟨h116, hq⟩ := hq
        refine q_iast C hw hw.2.2.1 h115 h116 dX12_readLaw_54 (fun H locs hw => ?_)
        generalize e118 : uI M114 q111 (Int32.toNatClampNeg x1) v113 = M117 at hw
        replace hq := hq M117 e118.symm
        refine lv_aload_n hx hb dX12_readLaw_55 rfl (lv_at hl 0 rfl) ?_
        obtain ⟨q119, e120, hq⟩ := hq
        refine gfX12_69 C hw hw.2.2.1 h0 e120 dX12_readLaw_56 ?_
        refine lv_iload_n hx hb dX12_readLaw_59 rfl (lv_at hl 1 rfl) ?_
        obtain ⟨h121, hq⟩ := hq
        obtain ⟨h122, hq⟩ := hq
        refine q_iald C hw hw.2.2.1 h121 h122 dX12_readLaw_60 ?_
        refine lv_iconst (v := (-1)) hx hb dX12_readLaw_61 (by decide) ?_
        refine lv_icmp_ne (tgt := 67) hx hb dX12_readLaw_62 (by decide) (fun c123 => ?_) (fun c123 => ?_)
        · replace hq := hq.2 c123
          refine lv_aload_n hx hb dX12_readLaw_67 rfl (lv_at hl 0 rfl) ?_
          obtain ⟨q124, e125, hq⟩ := hq
          refine gfX12_81 C hw hw.2.2.1 h0 e125 dX12_readLaw_68 ?_
          refine lv_iload_n hx hb dX12_readLaw_71 rfl (lv_at hl 1 rfl) ?_
          refine lv_aload_n hx hb dX12_readLaw_72 rfl (lv_at hl 0 rfl) ?_
          refine lv_bipush (v := 98) hx hb dX12_readLaw_73 (by decide) ?_
          refine lv_bipush (v := 117) hx hb dX12_readLaw_75 (by decide) ?_
          refine lv_bipush (v := 122) hx hb dX12_readLaw_77 (by decide) ?_
          refine lv_bipush (v := 122) hx hb dX12_readLaw_79 (by decide) ?_
          refine lv_iconst (v := 0) hx hb dX12_readLaw_81 (by decide) ?_
          refine r_callV (T := TX12) (N := 67) (ci := 12) (index := 257) (n := 5) (d2 := 0) (mc := 0) (ms := 0) (As := [.int 98, .int 117, .int 122, .int 122, .int 0]) (rest := [.int x1, .ref q124]) C hw (ct_X12_isKey hq) kvX12_257 hq.1 (by decide) rfl ⟨by decide, by decide⟩ ⟨by decide, by decide⟩ rfl hl.1 rfl (Nat.le_of_ble_eq_true rfl) dX12_readLaw_82 (fun r M127 H locs hp hle hw => ?_)
          obtain ⟨v126, rfl, hq⟩ := hp
          refine W.eq (g2 := F0 m 85 ls [.int v126, .int x1, .ref q124]) rfl ?_
          obtain ⟨h128, hq⟩ := hq
          obtain ⟨h129, hq⟩ := hq
          refine q_zast C hw hw.2.2.1 h128 h129 dX12_readLaw_85 (fun H locs hw => ?_)
          generalize e131 : uI M127 q124 (Int32.toNatClampNeg x1) (vp_nar .boolean v126) = M130 at hw
          replace hq := hq M130 e131.symm
          exact lt_X12_readLaw_86  C hr hlk hn h0 hk2 hq hw (lv_sub hl [0, 1] rfl)
        · replace hq := hq.1 c123
          refine lv_iconst (v := 0) hx hb dX12_readLaw_65 (by decide) ?_
          exact r_zret C hr hlk hw dX12_readLaw_66 (Nat.le_refl _) (Nat.le_refl _) (by decide) ⟨_, rfl, hq⟩
      · replace hq := hq.1 c108
        exact lt_X12_readLaw_31  C hr hlk hn h0  hq hw (lv_sub hl [0] rfl)
    · replace hq := hq.1 c107
      exact lt_X12_readLaw_19  C hr hlk hn h0  hq hw (lv_sub hl [0] rfl)
set_option maxHeartbeats 4000000 in
set_option maxRecDepth 100000 in
theorem ct_X12_readLaw {l : Launch} {g : Gh} {M0 : Mem} {a0 : Nat} {post : Int32 → Mem → Prop}  (hq : wp_X12_readLaw  g M0 a0 post) : Ct l g yX12_readLaw cX12_readLaw 2 (some .boolean) 4 0 0 [.ref a0] M0 (pI post) := by
  unfold wp_X12_readLaw at hq
  obtain ⟨h0, hq⟩ := hq
  refine Ct.of (by decide) (Nat.le_of_ble_eq_true rfl) ?_
  intro p e s m below meth c ls C hr hlk hn hl hw
  have hx := C.1.1
  have hb := C.1.2.1
  have hl : lv_has ls 2 [(0, .ref a0)] := hl
  refine lv_iconst (v := 0) hx hb dX12_readLaw_0 (by decide) ?_
  refine lv_istore_n (lv' := [(1, .int 0), (0, .ref a0)]) hx hb dX12_readLaw_1 rfl hl (by decide) rfl (fun ls hl => ?_)
  obtain ⟨nf, hq⟩ := hq
  exact lp_X12_readLaw_2  C hr hlk hn h0  nf _ _ _ _ _ hq hw (lv_sub hl [1, 0] rfl)
