set_option maxRecDepth 100000 in
def lb_X12_pack_340  (g : Gh) (M0 : Mem) (a0 : Nat) (p1 : Int32) (p2 : Int32) (p3 : Int32) (p4 : Int32) (p5 : Int32) (p6 : Int32) (post : Int32 → Mem → Prop)    (M : Mem) : Prop :=
  ∀ M1, M1 = uI M a0 46 p1 → (∀ M3, M3 = uI M1 a0 47 p2 → (post 0 M3))
set_option maxRecDepth 100000 in
def bd_X12_pack_313  (g : Gh) (M0 : Mem) (a0 : Nat) (p1 : Int32) (p2 : Int32) (p3 : Int32) (p4 : Int32) (p5 : Int32) (p6 : Int32) (post : Int32 → Mem → Prop)  (bk313 : Int32 × Int32 × Mem → Prop) (x7 : Int32) (x10 : Int32)  (M : Mem) : Prop :=
  ((x7 ≤ x10) → lb_X12_pack_340  g M0 a0 p1 p2 p3 p4 p5 p6 post   M) ∧ (¬ (x7 ≤ x10) → ∃ q6, mR M a0 41 = some q6 ∧ (∃ q8, mR M a0 42 = some q8 ∧ (okc (gB g) M0 q8 14 ∧ (vp_in x10 (mN M0 q8) ∧ (okc (gB g) M0 q6 14 ∧ (vp_in x10 (mN M0 q6) ∧ (∀ M14, M14 = uI M q6 (Int32.toNatClampNeg x10) (mI M q8 (Int32.toNatClampNeg x10)) → (bk313 (x7, (x10 + 1), M14)))))))))
set_option maxRecDepth 100000 in
def lb_X12_pack_252  (g : Gh) (M0 : Mem) (a0 : Nat) (p1 : Int32) (p2 : Int32) (p3 : Int32) (p4 : Int32) (p5 : Int32) (p6 : Int32) (post : Int32 → Mem → Prop) (bk130 : Int32 × Int32 × Int32 × Mem → Prop) (x7 : Int32) (x9 : Int32)  (M : Mem) : Prop :=
  ((x7 = 0) → post 1 M) ∧ (¬ (x7 = 0) → ∃ q17, mR M a0 42 = some q17 ∧ (okc (gB g) M0 q17 14 ∧ (vp_in (x7 + (-1)) (mN M0 q17) ∧ (∃ q21, mR M a0 43 = some q21 ∧ (∃ q23, mR M a0 19 = some q23 ∧ (okc (gB g) M0 q23 14 ∧ (vp_in (mI M q17 (Int32.toNatClampNeg (x7 + (-1)))) (mN M0 q23) ∧ (okc (gB g) M0 q21 14 ∧ (vp_in (mI M q23 (Int32.toNatClampNeg (mI M q17 (Int32.toNatClampNeg (x7 + (-1)))))) (mN M0 q21) ∧ (∀ M29, M29 = uI M q21 (Int32.toNatClampNeg (mI M q23 (Int32.toNatClampNeg (mI M q17 (Int32.toNatClampNeg (x7 + (-1))))))) ((mI M q21 (Int32.toNatClampNeg (mI M q23 (Int32.toNatClampNeg (mI M q17 (Int32.toNatClampNeg (x7 + (-1)))))))) - 1) → (wp_X12_hard g M29 a0 (mI M q17 (Int32.toNatClampNeg (x7 + (-1)))) (fun v31 M32 => bk130 ((x7 + (-1)), ((mI M q17 (Int32.toNatClampNeg (x7 + (-1)))) + 1), (x9 - v31), M32)))))))))))))
set_option maxRecDepth 100000 in
def lb_X12_pack_156  (g : Gh) (M0 : Mem) (a0 : Nat) (p1 : Int32) (p2 : Int32) (p3 : Int32) (p4 : Int32) (p5 : Int32) (p6 : Int32) (post : Int32 → Mem → Prop) (bk130 : Int32 × Int32 × Int32 × Mem → Prop) (x7 : Int32) (x8 : Int32) (x9 : Int32)  (M : Mem) : Prop :=
  (((mI M a0 40) ≤ x7) → lb_X12_pack_252  g M0 a0 p1 p2 p3 p4 p5 p6 post bk130 x7 x9 M) ∧ (¬ ((mI M a0 40) ≤ x7) → (((mI M a0 16) ≤ x8) → lb_X12_pack_252  g M0 a0 p1 p2 p3 p4 p5 p6 post bk130 x7 x9 M) ∧ (¬ ((mI M a0 16) ≤ x8) → wp_X12_mayCome g M a0 x8 p1 p2 p3 (fun v35 M36 => ((v35 = 0) → bk130 (x7, (x8 + 1), x9, M36)) ∧ (¬ (v35 = 0) → (((mI M36 a0 45) = p6) → post 2 M36) ∧ (¬ ((mI M36 a0 45) = p6) → ∀ M39, M39 = uI M36 a0 45 ((mI M36 a0 45) + 1) → (∃ q41, mR M39 a0 42 = some q41 ∧ (okc (gB g) M0 q41 14 ∧ (vp_in x7 (mN M0 q41) ∧ (∀ M45, M45 = uI M39 q41 (Int32.toNatClampNeg x7) x8 → (∃ q47, mR M45 a0 43 = some q47 ∧ (∃ q49, mR M45 a0 19 = some q49 ∧ (okc (gB g) M0 q49 14 ∧ (vp_in x8 (mN M0 q49) ∧ (okc (gB g) M0 q47 14 ∧ (vp_in (mI M45 q49 (Int32.toNatClampNeg x8)) (mN M0 q47) ∧ (∀ M55, M55 = uI M45 q47 (Int32.toNatClampNeg (mI M45 q49 (Int32.toNatClampNeg x8))) ((mI M45 q47 (Int32.toNatClampNeg (mI M45 q49 (Int32.toNatClampNeg x8)))) + 1) → (wp_X12_hard g M55 a0 x8 (fun v57 M58 => bk130 ((x7 + 1), (x8 + 1), (x9 + v57), M58)))))))))))))))))))
set_option maxRecDepth 100000 in
def lb_X12_pack_153  (g : Gh) (M0 : Mem) (a0 : Nat) (p1 : Int32) (p2 : Int32) (p3 : Int32) (p4 : Int32) (p5 : Int32) (p6 : Int32) (post : Int32 → Mem → Prop)  (x7 : Int32)  (M : Mem) : Prop :=
  ∀ M59, M59 = uI M a0 44 x7 → ((∃ n : Nat, lfp (fun bk z => bd_X12_pack_313  g M0 a0 p1 p2 p3 p4 p5 p6 post  bk z.1 z.2.1 z.2.2) n (x7, 0, M59)))
set_option maxRecDepth 100000 in
def bd_X12_pack_130  (g : Gh) (M0 : Mem) (a0 : Nat) (p1 : Int32) (p2 : Int32) (p3 : Int32) (p4 : Int32) (p5 : Int32) (p6 : Int32) (post : Int32 → Mem → Prop)  (bk130 : Int32 × Int32 × Int32 × Mem → Prop) (x7 : Int32) (x8 : Int32) (x9 : Int32)  (M : Mem) : Prop :=
  ((x7 = (mI M a0 40)) → ((x9 < p4) → lb_X12_pack_156  g M0 a0 p1 p2 p3 p4 p5 p6 post bk130 x7 x8 x9 M) ∧ (¬ (x9 < p4) → ((p5 < x9) → lb_X12_pack_156  g M0 a0 p1 p2 p3 p4 p5 p6 post bk130 x7 x8 x9 M) ∧ (¬ (p5 < x9) → lb_X12_pack_153  g M0 a0 p1 p2 p3 p4 p5 p6 post  x7 M))) ∧ (¬ (x7 = (mI M a0 40)) → lb_X12_pack_156  g M0 a0 p1 p2 p3 p4 p5 p6 post bk130 x7 x8 x9 M)
set_option maxRecDepth 100000 in
def lb_X12_pack_121  (g : Gh) (M0 : Mem) (a0 : Nat) (p1 : Int32) (p2 : Int32) (p3 : Int32) (p4 : Int32) (p5 : Int32) (p6 : Int32) (post : Int32 → Mem → Prop)    (M : Mem) : Prop :=
  (∃ n : Nat, lfp (fun bk z => bd_X12_pack_130  g M0 a0 p1 p2 p3 p4 p5 p6 post  bk z.1 z.2.1 z.2.2.1 z.2.2.2) n (0, 0, 0, M))
set_option maxRecDepth 100000 in
def bd_X12_pack_100  (g : Gh) (M0 : Mem) (a0 : Nat) (p1 : Int32) (p2 : Int32) (p3 : Int32) (p4 : Int32) (p5 : Int32) (p6 : Int32) (post : Int32 → Mem → Prop)  (bk100 : Int32 × Mem → Prop) (x7 : Int32)  (M : Mem) : Prop :=
  ((8 ≤ x7) → lb_X12_pack_121  g M0 a0 p1 p2 p3 p4 p5 p6 post   M) ∧ (¬ (8 ≤ x7) → ∃ q65, mR M a0 43 = some q65 ∧ (okc (gB g) M0 q65 14 ∧ (vp_in x7 (mN M0 q65) ∧ (∀ M69, M69 = uI M q65 (Int32.toNatClampNeg x7) 0 → (bk100 ((x7 + 1), M69))))))
set_option maxRecDepth 100000 in
def lb_X12_pack_75  (g : Gh) (M0 : Mem) (a0 : Nat) (p1 : Int32) (p2 : Int32) (p3 : Int32) (p4 : Int32) (p5 : Int32) (p6 : Int32) (post : Int32 → Mem → Prop)   (s0 : Nat) (s1 : Int32) (M : Mem) : Prop :=
  okc (gB g) M0 s0 12 ∧ (∀ M72, M72 = uI M s0 0 s1 → ((((mI M72 a0 0) ≤ 0) → ∀ M75, M75 = uI M72 a0 44 0 → (∀ M77, M77 = uI M75 a0 45 0 → ((∃ n : Nat, lfp (fun bk z => bd_X12_pack_100  g M0 a0 p1 p2 p3 p4 p5 p6 post  bk z.1 z.2) n (0, M77))))) ∧ (¬ ((mI M72 a0 0) ≤ 0) → post 0 M72)))
set_option maxRecDepth 100000 in
def wp_X12_pack  (g : Gh) (M0 : Mem) (a0 : Nat) (p1 : Int32) (p2 : Int32) (p3 : Int32) (p4 : Int32) (p5 : Int32) (p6 : Int32) (post : Int32 → Mem → Prop) : Prop :=
  okc (gB g) M0 a0 12 ∧ (wp_X12_isTeam g M0 p1 (fun v79 M80 => ((v79 = 0) → lb_X12_pack_75  g M0 a0 p1 p2 p3 p4 p5 p6 post  a0 1 M80) ∧ (¬ (v79 = 0) → wp_X12_isTeam g M80 p2 (fun v82 M83 => ((v82 = 0) → lb_X12_pack_75  g M0 a0 p1 p2 p3 p4 p5 p6 post  a0 1 M83) ∧ (¬ (v82 = 0) → ((p1 = p2) → lb_X12_pack_75  g M0 a0 p1 p2 p3 p4 p5 p6 post  a0 1 M83) ∧ (¬ (p1 = p2) → ((p3 < 1) → lb_X12_pack_75  g M0 a0 p1 p2 p3 p4 p5 p6 post  a0 1 M83) ∧ (¬ (p3 < 1) → ((48 < p3) → lb_X12_pack_75  g M0 a0 p1 p2 p3 p4 p5 p6 post  a0 1 M83) ∧ (¬ (48 < p3) → ((p5 < p4) → lb_X12_pack_75  g M0 a0 p1 p2 p3 p4 p5 p6 post  a0 1 M83) ∧ (¬ (p5 < p4) → ((p6 < 1) → lb_X12_pack_75  g M0 a0 p1 p2 p3 p4 p5 p6 post  a0 1 M83) ∧ (¬ (p6 < 1) → ((p6 ≤ 100000) → (((mI M83 a0 40) = 0) → lb_X12_pack_75  g M0 a0 p1 p2 p3 p4 p5 p6 post  a0 2 M83) ∧ (¬ ((mI M83 a0 40) = 0) → (((mI M83 a0 48) = 0) → lb_X12_pack_75  g M0 a0 p1 p2 p3 p4 p5 p6 post  a0 0 M83) ∧ (¬ ((mI M83 a0 48) = 0) → lb_X12_pack_75  g M0 a0 p1 p2 p3 p4 p5 p6 post  a0 2 M83))) ∧ (¬ (p6 ≤ 100000) → lb_X12_pack_75  g M0 a0 p1 p2 p3 p4 p5 p6 post  a0 1 M83)))))))))))
set_option maxHeartbeats 4000000 in
set_option maxRecDepth 100000 in
theorem lt_X12_pack_340 {l : Launch} {g : Gh} {p : Program} {e : Env} {s : State} {m : MethodId} {args : Array Value} {below : List Frame} {meth : Method} {c : Code} {H : Heap} {locs : List Loc} {ls : Array Slot} {M0 M : Mem} {a0 : Nat} {p1 : Int32} {p2 : Int32} {p3 : Int32} {p4 : Int32} {p5 : Int32} {p6 : Int32} {post : Int32 → Mem → Prop}    (C : Cx g p s m args c cX12_pack 11 RX12) (hr : meth.sig.returnType = (some .int)) (hlk : meth.locks = false) (hn : meth.name = "pack") (h0 : okc (gB g) M0 a0 12)  (hq : lb_X12_pack_340  g M0 a0 p1 p2 p3 p4 p5 p6 post   M) (hw : Wd g s M0 M H locs) (hl : lv_has ls 11 [(0, .ref a0), (1, .int p1), (2, .int p2), (3, .int p3), (4, .int p4), (5, .int p5), (6, .int p6)]) : W p l e (rmo 1 0 0) s m args below meth c H locs 0 0 (MQ below (Cq g M0 (pI post)) args s 0 0 (gA g)) (F0 m 340 ls []) := by
  have hx := C.1.1
  have hb := C.1.2.1
  unfold lb_X12_pack_340 at hq
  refine lv_aload_n hx hb dX12_pack_340 rfl (lv_at hl 0 rfl) ?_
  refine lv_iload_n hx hb dX12_pack_341 rfl (lv_at hl 1 rfl) ?_
  refine pfX12_284 C hw hw.2.2.1 h0 dX12_pack_342 (fun H locs hw => ?_)
  generalize e2 : uI M a0 46 p1 = M1 at hw
  replace hq := hq M1 e2.symm
  refine lv_aload_n hx hb dX12_pack_345 rfl (lv_at hl 0 rfl) ?_
  refine lv_iload_n hx hb dX12_pack_346 rfl (lv_at hl 2 rfl) ?_
  refine pfX12_287 C hw hw.2.2.1 h0 dX12_pack_347 (fun H locs hw => ?_)
  generalize e4 : uI M1 a0 47 p2 = M3 at hw
  replace hq := hq M3 e4.symm
  refine lv_iconst (v := 0) hx hb dX12_pack_350 (by decide) ?_
  exact r_iret C hr hlk hw dX12_pack_351 (Nat.le_refl _) (Nat.le_refl _) ⟨_, rfl, hq⟩
set_option maxHeartbeats 4000000 in
set_option maxRecDepth 100000 in
theorem lp_X12_pack_313 {l : Launch} {g : Gh} {p : Program} {e : Env} {s : State} {m : MethodId} {args : Array Value} {below : List Frame} {meth : Method} {c : Code} {M0 : Mem} {a0 : Nat} {p1 : Int32} {p2 : Int32} {p3 : Int32} {p4 : Int32} {p5 : Int32} {p6 : Int32} {post : Int32 → Mem → Prop}  (C : Cx g p s m args c cX12_pack 11 RX12) (hr : meth.sig.returnType = (some .int)) (hlk : meth.locks = false) (hn : meth.name = "pack") (h0 : okc (gB g) M0 a0 12)  : ∀ (nf : Nat) (x7 : Int32) (x10 : Int32)  (M : Mem) (H : Heap) (locs : List Loc) (ls : Array Slot), lfp (fun bk z => bd_X12_pack_313  g M0 a0 p1 p2 p3 p4 p5 p6 post  bk z.1 z.2.1 z.2.2) nf (x7, x10, M) → Wd g s M0 M H locs → lv_has ls 11 [(0, .ref a0), (1, .int p1), (2, .int p2), (3, .int p3), (4, .int p4), (5, .int p5), (6, .int p6), (7, .int x7), (10, .int x10)] → W p l e (rmo 1 0 0) s m args below meth c H locs 0 0 (MQ below (Cq g M0 (pI post)) args s 0 0 (gA g)) (F0 m 313 ls []) := by
  have hx := C.1.1
  have hb := C.1.2.1
  intro nf
  induction nf with
  | zero => intro _ _ _ H locs ls hq; exact hq.elim
  | succ nf hk313 =>
    intro x7 x10 M H locs ls hq hw hl
    replace hq : bd_X12_pack_313  g M0 a0 p1 p2 p3 p4 p5 p6 post  (lfp (fun bk z => bd_X12_pack_313  g M0 a0 p1 p2 p3 p4 p5 p6 post  bk z.1 z.2.1 z.2.2) nf) x7 x10 M := hq
    unfold bd_X12_pack_313 at hq
    refine lv_iload hx hb dX12_pack_313 (lv_at hl 8 rfl) ?_
    refine lv_iload hx hb dX12_pack_315 (lv_at hl 7 rfl) ?_
    refine lv_icmp_ge (tgt := 340) hx hb dX12_pack_317 (by decide) (fun c5 => ?_) (fun c5 => ?_)
    · replace hq := hq.1 c5
      exact lt_X12_pack_340  C hr hlk hn h0  hq hw (lv_sub hl [0, 1, 2, 3, 4, 5, 6] rfl)
    · replace hq := hq.2 c5
      refine lv_aload_n hx hb dX12_pack_320 rfl (lv_at hl 0 rfl) ?_
      obtain ⟨q6, e7, hq⟩ := hq
      refine gfX12_84 C hw hw.2.2.1 h0 e7 dX12_pack_321 ?_
      refine lv_iload hx hb dX12_pack_324 (lv_at hl 8 rfl) ?_
      refine lv_aload_n hx hb dX12_pack_326 rfl (lv_at hl 0 rfl) ?_
      obtain ⟨q8, e9, hq⟩ := hq
      refine gfX12_87 C hw hw.2.2.1 h0 e9 dX12_pack_327 ?_
      refine lv_iload hx hb dX12_pack_330 (lv_at hl 8 rfl) ?_
      obtain ⟨h10, hq⟩ := hq
      obtain ⟨h11, hq⟩ := hq
      refine q_iald C hw hw.2.2.1 h10 h11 dX12_pack_332 ?_
      obtain ⟨h12, hq⟩ := hq
      obtain ⟨h13, hq⟩ := hq
      refine q_iast C hw hw.2.2.1 h12 h13 dX12_pack_333 (fun H locs hw => ?_)
      generalize e15 : uI M q6 (Int32.toNatClampNeg x10) (mI M q8 (Int32.toNatClampNeg x10)) = M14 at hw
      replace hq := hq M14 e15.symm
      have e7 : mR M14 a0 41 = some q6 := by rw [← e15, mR_uI]; exact e7
      have e9 : mR M14 a0 42 = some q8 := by rw [← e15, mR_uI]; exact e9
      refine lv_iinc (v := (x10 + 1)) (lv' := [(10, .int (x10 + 1)), (0, .ref a0), (1, .int p1), (2, .int p2), (3, .int p3), (4, .int p4), (5, .int p5), (6, .int p6), (7, .int x7)]) hx hb dX12_pack_334 hl (k := 8) rfl rfl (by decide) rfl (fun ls hl => ?_)
      refine lv_goto (tgt := 313) hx hb dX12_pack_337 (by decide) ?_
      exact hk313 _ _ _ _ _ _ hq hw (lv_sub hl [1, 2, 3, 4, 5, 6, 7, 8, 0] rfl)
set_option maxHeartbeats 4000000 in
set_option maxRecDepth 100000 in
theorem lt_X12_pack_252 {l : Launch} {g : Gh} {p : Program} {e : Env} {s : State} {m : MethodId} {args : Array Value} {below : List Frame} {meth : Method} {c : Code} {H : Heap} {locs : List Loc} {ls : Array Slot} {M0 M : Mem} {a0 : Nat} {p1 : Int32} {p2 : Int32} {p3 : Int32} {p4 : Int32} {p5 : Int32} {p6 : Int32} {post : Int32 → Mem → Prop} {x7 : Int32} {x9 : Int32}   (C : Cx g p s m args c cX12_pack 11 RX12) (hr : meth.sig.returnType = (some .int)) (hlk : meth.locks = false) (hn : meth.name = "pack") (h0 : okc (gB g) M0 a0 12) {bk130 : Int32 × Int32 × Int32 × Mem → Prop} (hk130 : ∀ (x7 : Int32) (x8 : Int32) (x9 : Int32) (M : Mem) (H : Heap) (locs : List Loc) (ls : Array Slot), bk130 (x7, x8, x9, M) → Wd g s M0 M H locs → lv_has ls 11 [(0, .ref a0), (1, .int p1), (2, .int p2), (3, .int p3), (4, .int p4), (5, .int p5), (6, .int p6), (7, .int x7), (8, .int x8), (9, .int x9)] → W p l e (rmo 1 0 0) s m args below meth c H locs 0 0 (MQ below (Cq g M0 (pI post)) args s 0 0 (gA g)) (F0 m 130 ls [])) (hq : lb_X12_pack_252  g M0 a0 p1 p2 p3 p4 p5 p6 post bk130 x7 x9 M) (hw : Wd g s M0 M H locs) (hl : lv_has ls 11 [(0, .ref a0), (1, .int p1), (2, .int p2), (3, .int p3), (4, .int p4), (5, .int p5), (6, .int p6), (7, .int x7), (9, .int x9)]) : W p l e (rmo 1 0 0) s m args below meth c H locs 0 0 (MQ below (Cq g M0 (pI post)) args s 0 0 (gA g)) (F0 m 252 ls []) := by
  have hx := C.1.1
  have hb := C.1.2.1
  unfold lb_X12_pack_252 at hq
  refine lv_iload hx hb dX12_pack_252 (lv_at hl 7 rfl) ?_
  refine lv_if_ne (tgt := 259) hx hb dX12_pack_254 (by decide) (fun c16 => ?_) (fun c16 => ?_)
  · replace hq := hq.2 c16
    refine lv_iinc (v := (x7 + (-1))) (lv' := [(7, .int (x7 + (-1))), (0, .ref a0), (1, .int p1), (2, .int p2), (3, .int p3), (4, .int p4), (5, .int p5), (6, .int p6), (9, .int x9)]) hx hb dX12_pack_259 hl (k := 7) rfl rfl (by decide) rfl (fun ls hl => ?_)
    refine lv_aload_n hx hb dX12_pack_262 rfl (lv_at hl 1 rfl) ?_
    obtain ⟨q17, e18, hq⟩ := hq
    refine gfX12_87 C hw hw.2.2.1 h0 e18 dX12_pack_263 ?_
    refine lv_iload hx hb dX12_pack_266 (lv_at hl 0 rfl) ?_
    obtain ⟨h19, hq⟩ := hq
    obtain ⟨h20, hq⟩ := hq
    refine q_iald C hw hw.2.2.1 h19 h20 dX12_pack_268 ?_
    refine lv_istore (lv' := [(8, .int (mI M q17 (Int32.toNatClampNeg (x7 + (-1))))), (7, .int (x7 + (-1))), (0, .ref a0), (1, .int p1), (2, .int p2), (3, .int p3), (4, .int p4), (5, .int p5), (6, .int p6), (9, .int x9)]) hx hb dX12_pack_269 hl (by decide) rfl (fun ls hl => ?_)
    refine lv_aload_n hx hb dX12_pack_271 rfl (lv_at hl 2 rfl) ?_
    obtain ⟨q21, e22, hq⟩ := hq
    refine gfX12_90 C hw hw.2.2.1 h0 e22 dX12_pack_272 ?_
    refine lv_aload_n hx hb dX12_pack_275 rfl (lv_at hl 2 rfl) ?_
    obtain ⟨q23, e24, hq⟩ := hq
    refine gfX12_29 C hw hw.2.2.1 h0 e24 dX12_pack_276 ?_
    refine lv_iload hx hb dX12_pack_279 (lv_at hl 0 rfl) ?_
    obtain ⟨h25, hq⟩ := hq
    obtain ⟨h26, hq⟩ := hq
    refine q_iald C hw hw.2.2.1 h25 h26 dX12_pack_281 ?_
    refine lv_dup2_11 hx hb dX12_pack_282 rfl rfl ?_
    obtain ⟨h27, hq⟩ := hq
    obtain ⟨h28, hq⟩ := hq
    refine q_iald C hw hw.2.2.1 h27 h28 dX12_pack_283 ?_
    refine lv_iconst (v := 1) hx hb dX12_pack_284 (by decide) ?_
    refine lv_isub hx hb dX12_pack_285 ?_
    refine q_iast C hw hw.2.2.1 h27 h28 dX12_pack_286 (fun H locs hw => ?_)
    generalize e30 : uI M q21 (Int32.toNatClampNeg (mI M q23 (Int32.toNatClampNeg (mI M q17 (Int32.toNatClampNeg (x7 + (-1))))))) ((mI M q21 (Int32.toNatClampNeg (mI M q23 (Int32.toNatClampNeg (mI M q17 (Int32.toNatClampNeg (x7 + (-1)))))))) - 1) = M29 at hw
    replace hq := hq M29 e30.symm
    have e18 : mR M29 a0 42 = some q17 := by rw [← e30, mR_uI]; exact e18
    have e22 : mR M29 a0 43 = some q21 := by rw [← e30, mR_uI]; exact e22
    have e24 : mR M29 a0 19 = some q23 := by rw [← e30, mR_uI]; exact e24
    refine lv_iload hx hb dX12_pack_287 (lv_at hl 9 rfl) ?_
    refine lv_aload_n hx hb dX12_pack_289 rfl (lv_at hl 2 rfl) ?_
    refine lv_iload hx hb dX12_pack_290 (lv_at hl 0 rfl) ?_
    refine r_callV (T := TX12) (N := 67) (ci := 12) (index := 251) (n := 1) (d2 := 0) (mc := 0) (ms := 0) (As := [.int (mI M q17 (Int32.toNatClampNeg (x7 + (-1))))]) (rest := [.int x9]) C hw (ct_X12_hard hq) kvX12_251 hq.1 (by decide) rfl ⟨by decide, by decide⟩ ⟨by decide, by decide⟩ rfl hl.1 rfl (Nat.le_of_ble_eq_true rfl) dX12_pack_292 (fun r M32 H locs hp hle hw => ?_)
    obtain ⟨v31, rfl, hq⟩ := hp
    refine W.eq (g2 := F0 m 295 ls [.int v31, .int x9]) rfl ?_
    refine lv_isub hx hb dX12_pack_295 ?_
    refine lv_istore (lv' := [(9, .int (x9 - v31)), (8, .int (mI M q17 (Int32.toNatClampNeg (x7 + (-1))))), (7, .int (x7 + (-1))), (0, .ref a0), (1, .int p1), (2, .int p2), (3, .int p3), (4, .int p4), (5, .int p5), (6, .int p6)]) hx hb dX12_pack_296 hl (by decide) rfl (fun ls hl => ?_)
    refine lv_iinc (v := ((mI M q17 (Int32.toNatClampNeg (x7 + (-1)))) + 1)) (lv' := [(8, .int ((mI M q17 (Int32.toNatClampNeg (x7 + (-1)))) + 1)), (9, .int (x9 - v31)), (7, .int (x7 + (-1))), (0, .ref a0), (1, .int p1), (2, .int p2), (3, .int p3), (4, .int p4), (5, .int p5), (6, .int p6)]) hx hb dX12_pack_298 hl (k := 1) rfl rfl (by decide) rfl (fun ls hl => ?_)
    refine lv_goto (tgt := 130) hx hb dX12_pack_301 (by decide) ?_
    exact hk130 _ _ _ _ _ _ _ hq hw (lv_sub hl [3, 4, 5, 6, 7, 8, 9, 2, 0, 1] rfl)
  · replace hq := hq.1 c16
    refine lv_iconst (v := 1) hx hb dX12_pack_257 (by decide) ?_
    exact r_iret C hr hlk hw dX12_pack_258 (Nat.le_refl _) (Nat.le_refl _) ⟨_, rfl, hq⟩
set_option maxHeartbeats 4000000 in
set_option maxRecDepth 100000 in
theorem lt_X12_pack_156 {l : Launch} {g : Gh} {p : Program} {e : Env} {s : State} {m : MethodId} {args : Array Value} {below : List Frame} {meth : Method} {c : Code} {H : Heap} {locs : List Loc} {ls : Array Slot} {M0 M : Mem} {a0 : Nat} {p1 : Int32} {p2 : Int32} {p3 : Int32} {p4 : Int32} {p5 : Int32} {p6 : Int32} {post : Int32 → Mem → Prop} {x7 : Int32} {x8 : Int32} {x9 : Int32}   (C : Cx g p s m args c cX12_pack 11 RX12) (hr : meth.sig.returnType = (some .int)) (hlk : meth.locks = false) (hn : meth.name = "pack") (h0 : okc (gB g) M0 a0 12) {bk130 : Int32 × Int32 × Int32 × Mem → Prop} (hk130 : ∀ (x7 : Int32) (x8 : Int32) (x9 : Int32) (M : Mem) (H : Heap) (locs : List Loc) (ls : Array Slot), bk130 (x7, x8, x9, M) → Wd g s M0 M H locs → lv_has ls 11 [(0, .ref a0), (1, .int p1), (2, .int p2), (3, .int p3), (4, .int p4), (5, .int p5), (6, .int p6), (7, .int x7), (8, .int x8), (9, .int x9)] → W p l e (rmo 1 0 0) s m args below meth c H locs 0 0 (MQ below (Cq g M0 (pI post)) args s 0 0 (gA g)) (F0 m 130 ls [])) (hq : lb_X12_pack_156  g M0 a0 p1 p2 p3 p4 p5 p6 post bk130 x7 x8 x9 M) (hw : Wd g s M0 M H locs) (hl : lv_has ls 11 [(0, .ref a0), (1, .int p1), (2, .int p2), (3, .int p3), (4, .int p4), (5, .int p5), (6, .int p6), (7, .int x7), (8, .int x8), (9, .int x9)]) : W p l e (rmo 1 0 0) s m args below meth c H locs 0 0 (MQ below (Cq g M0 (pI post)) args s 0 0 (gA g)) (F0 m 156 ls []) := by
  have hx := C.1.1
  have hb := C.1.2.1
  unfold lb_X12_pack_156 at hq
  refine lv_iload hx hb dX12_pack_156 (lv_at hl 7 rfl) ?_
  refine lv_aload_n hx hb dX12_pack_158 rfl (lv_at hl 0 rfl) ?_
  refine gfX12_270 C hw hw.2.2.1 h0 dX12_pack_159 ?_
  refine lv_icmp_ge (tgt := 252) hx hb dX12_pack_162 (by decide) (fun c33 => ?_) (fun c33 => ?_)
  · replace hq := hq.1 c33
    exact lt_X12_pack_252  C hr hlk hn h0 hk130 hq hw (lv_sub hl [0, 1, 2, 3, 4, 5, 6, 7, 9] rfl)
  · replace hq := hq.2 c33
    refine lv_iload hx hb dX12_pack_165 (lv_at hl 8 rfl) ?_
    refine lv_aload_n hx hb dX12_pack_167 rfl (lv_at hl 0 rfl) ?_
    refine gfX12_181 C hw hw.2.2.1 h0 dX12_pack_168 ?_
    refine lv_icmp_ge (tgt := 252) hx hb dX12_pack_171 (by decide) (fun c34 => ?_) (fun c34 => ?_)
    · replace hq := hq.1 c34
      exact lt_X12_pack_252  C hr hlk hn h0 hk130 hq hw (lv_sub hl [0, 1, 2, 3, 4, 5, 6, 7, 9] rfl)
    · replace hq := hq.2 c34
      refine lv_aload_n hx hb dX12_pack_174 rfl (lv_at hl 0 rfl) ?_
      refine lv_iload hx hb dX12_pack_175 (lv_at hl 8 rfl) ?_
      refine lv_iload_n hx hb dX12_pack_177 rfl (lv_at hl 1 rfl) ?_
      refine lv_iload_n hx hb dX12_pack_178 rfl (lv_at hl 2 rfl) ?_
      refine lv_iload_n hx hb dX12_pack_179 rfl (lv_at hl 3 rfl) ?_
      refine r_callV (T := TX12) (N := 67) (ci := 12) (index := 280) (n := 4) (d2 := 0) (mc := 0) (ms := 0) (As := [.int x8, .int p1, .int p2, .int p3]) (rest := []) C hw (ct_X12_mayCome hq) kvX12_280 hq.1 (by decide) rfl ⟨by decide, by decide⟩ ⟨by decide, by decide⟩ rfl hl.1 rfl (Nat.le_of_ble_eq_true rfl) dX12_pack_180 (fun r M36 H locs hp hle hw => ?_)
      obtain ⟨v35, rfl, hq⟩ := hp
      refine W.eq (g2 := F0 m 183 ls [.int v35]) rfl ?_
      refine lv_if_eq (tgt := 246) hx hb dX12_pack_183 (by decide) (fun c37 => ?_) (fun c37 => ?_)
      · replace hq := hq.1 c37
        refine lv_iinc (v := (x8 + 1)) (lv' := [(8, .int (x8 + 1)), (0, .ref a0), (1, .int p1), (2, .int p2), (3, .int p3), (4, .int p4), (5, .int p5), (6, .int p6), (7, .int x7), (9, .int x9)]) hx hb dX12_pack_246 hl (k := 8) rfl rfl (by decide) rfl (fun ls hl => ?_)
        refine lv_goto (tgt := 130) hx hb dX12_pack_249 (by decide) ?_
        exact hk130 _ _ _ _ _ _ _ hq hw (lv_sub hl [1, 2, 3, 4, 5, 6, 7, 8, 0, 9] rfl)
      · replace hq := hq.2 c37
        refine lv_aload_n hx hb dX12_pack_186 rfl (lv_at hl 0 rfl) ?_
        refine gfX12_277 C hw hw.2.2.1 h0 dX12_pack_187 ?_
        refine lv_iload hx hb dX12_pack_190 (lv_at hl 6 rfl) ?_
        refine lv_icmp_ne (tgt := 197) hx hb dX12_pack_192 (by decide) (fun c38 => ?_) (fun c38 => ?_)
        · replace hq := hq.2 c38
          refine lv_aload_n hx hb dX12_pack_197 rfl (lv_at hl 0 rfl) ?_
          refine lv_dup hx hb dX12_pack_198 rfl ?_
          refine gfX12_277 C hw hw.2.2.1 h0 dX12_pack_199 ?_
          refine lv_iconst (v := 1) hx hb dX12_pack_202 (by decide) ?_
          refine lv_iadd hx hb dX12_pack_203 ?_
          refine pfX12_277 C hw hw.2.2.1 h0 dX12_pack_204 (fun H locs hw => ?_)
          generalize e40 : uI M36 a0 45 ((mI M36 a0 45) + 1) = M39 at hw
          replace hq := hq M39 e40.symm
          refine lv_aload_n hx hb dX12_pack_207 rfl (lv_at hl 0 rfl) ?_
          obtain ⟨q41, e42, hq⟩ := hq
          refine gfX12_87 C hw hw.2.2.1 h0 e42 dX12_pack_208 ?_
          refine lv_iload hx hb dX12_pack_211 (lv_at hl 7 rfl) ?_
          refine lv_iload hx hb dX12_pack_213 (lv_at hl 8 rfl) ?_
          obtain ⟨h43, hq⟩ := hq
          obtain ⟨h44, hq⟩ := hq
          refine q_iast C hw hw.2.2.1 h43 h44 dX12_pack_215 (fun H locs hw => ?_)
          generalize e46 : uI M39 q41 (Int32.toNatClampNeg x7) x8 = M45 at hw
          replace hq := hq M45 e46.symm
          have e42 : mR M45 a0 42 = some q41 := by rw [← e46, mR_uI]; exact e42
          refine lv_iinc (v := (x7 + 1)) (lv' := [(7, .int (x7 + 1)), (0, .ref a0), (1, .int p1), (2, .int p2), (3, .int p3), (4, .int p4), (5, .int p5), (6, .int p6), (8, .int x8), (9, .int x9)]) hx hb dX12_pack_216 hl (k := 7) rfl rfl (by decide) rfl (fun ls hl => ?_)
          refine lv_aload_n hx hb dX12_pack_219 rfl (lv_at hl 1 rfl) ?_
          obtain ⟨q47, e48, hq⟩ := hq
          refine gfX12_90 C hw hw.2.2.1 h0 e48 dX12_pack_220 ?_
          refine lv_aload_n hx hb dX12_pack_223 rfl (lv_at hl 1 rfl) ?_
          obtain ⟨q49, e50, hq⟩ := hq
          refine gfX12_29 C hw hw.2.2.1 h0 e50 dX12_pack_224 ?_
          refine lv_iload hx hb dX12_pack_227 (lv_at hl 8 rfl) ?_
          obtain ⟨h51, hq⟩ := hq
          obtain ⟨h52, hq⟩ := hq
          refine q_iald C hw hw.2.2.1 h51 h52 dX12_pack_229 ?_
          refine lv_dup2_11 hx hb dX12_pack_230 rfl rfl ?_
          obtain ⟨h53, hq⟩ := hq
          obtain ⟨h54, hq⟩ := hq
          refine q_iald C hw hw.2.2.1 h53 h54 dX12_pack_231 ?_
          refine lv_iconst (v := 1) hx hb dX12_pack_232 (by decide) ?_
          refine lv_iadd hx hb dX12_pack_233 ?_
          refine q_iast C hw hw.2.2.1 h53 h54 dX12_pack_234 (fun H locs hw => ?_)
          generalize e56 : uI M45 q47 (Int32.toNatClampNeg (mI M45 q49 (Int32.toNatClampNeg x8))) ((mI M45 q47 (Int32.toNatClampNeg (mI M45 q49 (Int32.toNatClampNeg x8)))) + 1) = M55 at hw
          replace hq := hq M55 e56.symm
          have e42 : mR M55 a0 42 = some q41 := by rw [← e56, mR_uI]; exact e42
          have e48 : mR M55 a0 43 = some q47 := by rw [← e56, mR_uI]; exact e48
          have e50 : mR M55 a0 19 = some q49 := by rw [← e56, mR_uI]; exact e50
          refine lv_iload hx hb dX12_pack_235 (lv_at hl 9 rfl) ?_
          refine lv_aload_n hx hb dX12_pack_237 rfl (lv_at hl 1 rfl) ?_
          refine lv_iload hx hb dX12_pack_238 (lv_at hl 8 rfl) ?_
          refine r_callV (T := TX12) (N := 67) (ci := 12) (index := 251) (n := 1) (d2 := 0) (mc := 0) (ms := 0) (As := [.int x8]) (rest := [.int x9]) C hw (ct_X12_hard hq) kvX12_251 hq.1 (by decide) rfl ⟨by decide, by decide⟩ ⟨by decide, by decide⟩ rfl hl.1 rfl (Nat.le_of_ble_eq_true rfl) dX12_pack_240 (fun r M58 H locs hp hle hw => ?_)
          obtain ⟨v57, rfl, hq⟩ := hp
          refine W.eq (g2 := F0 m 243 ls [.int v57, .int x9]) rfl ?_
          refine lv_iadd hx hb dX12_pack_243 ?_
          refine lv_istore (lv' := [(9, .int (x9 + v57)), (7, .int (x7 + 1)), (0, .ref a0), (1, .int p1), (2, .int p2), (3, .int p3), (4, .int p4), (5, .int p5), (6, .int p6), (8, .int x8)]) hx hb dX12_pack_244 hl (by decide) rfl (fun ls hl => ?_)
          refine lv_iinc (v := (x8 + 1)) (lv' := [(8, .int (x8 + 1)), (9, .int (x9 + v57)), (7, .int (x7 + 1)), (0, .ref a0), (1, .int p1), (2, .int p2), (3, .int p3), (4, .int p4), (5, .int p5), (6, .int p6)]) hx hb dX12_pack_246 hl (k := 9) rfl rfl (by decide) rfl (fun ls hl => ?_)
          refine lv_goto (tgt := 130) hx hb dX12_pack_249 (by decide) ?_
          exact hk130 _ _ _ _ _ _ _ hq hw (lv_sub hl [3, 4, 5, 6, 7, 8, 9, 2, 0, 1] rfl)
        · replace hq := hq.1 c38
          refine lv_iconst (v := 2) hx hb dX12_pack_195 (by decide) ?_
          exact r_iret C hr hlk hw dX12_pack_196 (Nat.le_refl _) (Nat.le_refl _) ⟨_, rfl, hq⟩
set_option maxHeartbeats 4000000 in
set_option maxRecDepth 100000 in
theorem lt_X12_pack_153 {l : Launch} {g : Gh} {p : Program} {e : Env} {s : State} {m : MethodId} {args : Array Value} {below : List Frame} {meth : Method} {c : Code} {H : Heap} {locs : List Loc} {ls : Array Slot} {M0 M : Mem} {a0 : Nat} {p1 : Int32} {p2 : Int32} {p3 : Int32} {p4 : Int32} {p5 : Int32} {p6 : Int32} {post : Int32 → Mem → Prop} {x7 : Int32}   (C : Cx g p s m args c cX12_pack 11 RX12) (hr : meth.sig.returnType = (some .int)) (hlk : meth.locks = false) (hn : meth.name = "pack") (h0 : okc (gB g) M0 a0 12)  (hq : lb_X12_pack_153  g M0 a0 p1 p2 p3 p4 p5 p6 post  x7 M) (hw : Wd g s M0 M H locs) (hl : lv_has ls 11 [(0, .ref a0), (1, .int p1), (2, .int p2), (3, .int p3), (4, .int p4), (5, .int p5), (6, .int p6), (7, .int x7)]) : W p l e (rmo 1 0 0) s m args below meth c H locs 0 0 (MQ below (Cq g M0 (pI post)) args s 0 0 (gA g)) (F0 m 153 ls []) := by
  have hx := C.1.1
  have hb := C.1.2.1
  unfold lb_X12_pack_153 at hq
  refine lv_goto (tgt := 304) hx hb dX12_pack_153 (by decide) ?_
  refine lv_aload_n hx hb dX12_pack_304 rfl (lv_at hl 0 rfl) ?_
  refine lv_iload hx hb dX12_pack_305 (lv_at hl 7 rfl) ?_
  refine pfX12_274 C hw hw.2.2.1 h0 dX12_pack_307 (fun H locs hw => ?_)
  generalize e60 : uI M a0 44 x7 = M59 at hw
  replace hq := hq M59 e60.symm
  refine lv_iconst (v := 0) hx hb dX12_pack_310 (by decide) ?_
  refine lv_istore (lv' := [(10, .int 0), (0, .ref a0), (1, .int p1), (2, .int p2), (3, .int p3), (4, .int p4), (5, .int p5), (6, .int p6), (7, .int x7)]) hx hb dX12_pack_311 hl (by decide) rfl (fun ls hl => ?_)
  obtain ⟨nf, hq⟩ := hq
  exact lp_X12_pack_313  C hr hlk hn h0  nf _ _ _ _ _ _ hq hw (lv_sub hl [1, 2, 3, 4, 5, 6, 7, 8, 0] rfl)
set_option maxHeartbeats 4000000 in
set_option maxRecDepth 100000 in
theorem lp_X12_pack_130 {l : Launch} {g : Gh} {p : Program} {e : Env} {s : State} {m : MethodId} {args : Array Value} {below : List Frame} {meth : Method} {c : Code} {M0 : Mem} {a0 : Nat} {p1 : Int32} {p2 : Int32} {p3 : Int32} {p4 : Int32} {p5 : Int32} {p6 : Int32} {post : Int32 → Mem → Prop}  (C : Cx g p s m args c cX12_pack 11 RX12) (hr : meth.sig.returnType = (some .int)) (hlk : meth.locks = false) (hn : meth.name = "pack") (h0 : okc (gB g) M0 a0 12)  : ∀ (nf : Nat) (x7 : Int32) (x8 : Int32) (x9 : Int32)  (M : Mem) (H : Heap) (locs : List Loc) (ls : Array Slot), lfp (fun bk z => bd_X12_pack_130  g M0 a0 p1 p2 p3 p4 p5 p6 post  bk z.1 z.2.1 z.2.2.1 z.2.2.2) nf (x7, x8, x9, M) → Wd g s M0 M H locs → lv_has ls 11 [(0, .ref a0), (1, .int p1), (2, .int p2), (3, .int p3), (4, .int p4), (5, .int p5), (6, .int p6), (7, .int x7), (8, .int x8), (9, .int x9)] → W p l e (rmo 1 0 0) s m args below meth c H locs 0 0 (MQ below (Cq g M0 (pI post)) args s 0 0 (gA g)) (F0 m 130 ls []) := by
  have hx := C.1.1
  have hb := C.1.2.1
  intro nf
  induction nf with
  | zero => intro _ _ _ _ H locs ls hq; exact hq.elim
  | succ nf hk130 =>
    intro x7 x8 x9 M H locs ls hq hw hl
    replace hq : bd_X12_pack_130  g M0 a0 p1 p2 p3 p4 p5 p6 post  (lfp (fun bk z => bd_X12_pack_130  g M0 a0 p1 p2 p3 p4 p5 p6 post  bk z.1 z.2.1 z.2.2.1 z.2.2.2) nf) x7 x8 x9 M := hq
    unfold bd_X12_pack_130 at hq
    refine lv_iload hx hb dX12_pack_130 (lv_at hl 7 rfl) ?_
    refine lv_aload_n hx hb dX12_pack_132 rfl (lv_at hl 0 rfl) ?_
    refine gfX12_270 C hw hw.2.2.1 h0 dX12_pack_133 ?_
    refine lv_icmp_ne (tgt := 156) hx hb dX12_pack_136 (by decide) (fun c61 => ?_) (fun c61 => ?_)
    · replace hq := hq.2 c61
      exact lt_X12_pack_156  C hr hlk hn h0 hk130 hq hw (lv_sub hl [0, 1, 2, 3, 4, 5, 6, 7, 8, 9] rfl)
    · replace hq := hq.1 c61
      refine lv_iload hx hb dX12_pack_139 (lv_at hl 9 rfl) ?_
      refine lv_iload hx hb dX12_pack_141 (lv_at hl 4 rfl) ?_
      refine lv_icmp_lt (tgt := 156) hx hb dX12_pack_143 (by decide) (fun c62 => ?_) (fun c62 => ?_)
      · replace hq := hq.1 c62
        exact lt_X12_pack_156  C hr hlk hn h0 hk130 hq hw (lv_sub hl [0, 1, 2, 3, 4, 5, 6, 7, 8, 9] rfl)
      · replace hq := hq.2 c62
        refine lv_iload hx hb dX12_pack_146 (lv_at hl 9 rfl) ?_
        refine lv_iload hx hb dX12_pack_148 (lv_at hl 5 rfl) ?_
        refine lv_icmp_gt (tgt := 156) hx hb dX12_pack_150 (by decide) (fun c63 => ?_) (fun c63 => ?_)
        · replace hq := hq.1 c63
          exact lt_X12_pack_156  C hr hlk hn h0 hk130 hq hw (lv_sub hl [0, 1, 2, 3, 4, 5, 6, 7, 8, 9] rfl)
        · replace hq := hq.2 c63
          exact lt_X12_pack_153  C hr hlk hn h0  hq hw (lv_sub hl [0, 1, 2, 3, 4, 5, 6, 7] rfl)
set_option maxHeartbeats 4000000 in
set_option maxRecDepth 100000 in
theorem lt_X12_pack_121 {l : Launch} {g : Gh} {p : Program} {e : Env} {s : State} {m : MethodId} {args : Array Value} {below : List Frame} {meth : Method} {c : Code} {H : Heap} {locs : List Loc} {ls : Array Slot} {M0 M : Mem} {a0 : Nat} {p1 : Int32} {p2 : Int32} {p3 : Int32} {p4 : Int32} {p5 : Int32} {p6 : Int32} {post : Int32 → Mem → Prop}    (C : Cx g p s m args c cX12_pack 11 RX12) (hr : meth.sig.returnType = (some .int)) (hlk : meth.locks = false) (hn : meth.name = "pack") (h0 : okc (gB g) M0 a0 12)  (hq : lb_X12_pack_121  g M0 a0 p1 p2 p3 p4 p5 p6 post   M) (hw : Wd g s M0 M H locs) (hl : lv_has ls 11 [(0, .ref a0), (1, .int p1), (2, .int p2), (3, .int p3), (4, .int p4), (5, .int p5), (6, .int p6)]) : W p l e (rmo 1 0 0) s m args below meth c H locs 0 0 (MQ below (Cq g M0 (pI post)) args s 0 0 (gA g)) (F0 m 121 ls []) := by
  have hx := C.1.1
  have hb := C.1.2.1
  unfold lb_X12_pack_121 at hq
  refine lv_iconst (v := 0) hx hb dX12_pack_121 (by decide) ?_
  refine lv_istore (lv' := [(7, .int 0), (0, .ref a0), (1, .int p1), (2, .int p2), (3, .int p3), (4, .int p4), (5, .int p5), (6, .int p6)]) hx hb dX12_pack_122 hl (by decide) rfl (fun ls hl => ?_)
  refine lv_iconst (v := 0) hx hb dX12_pack_124 (by decide) ?_
  refine lv_istore (lv' := [(8, .int 0), (7, .int 0), (0, .ref a0), (1, .int p1), (2, .int p2), (3, .int p3), (4, .int p4), (5, .int p5), (6, .int p6)]) hx hb dX12_pack_125 hl (by decide) rfl (fun ls hl => ?_)
  refine lv_iconst (v := 0) hx hb dX12_pack_127 (by decide) ?_
  refine lv_istore (lv' := [(9, .int 0), (8, .int 0), (7, .int 0), (0, .ref a0), (1, .int p1), (2, .int p2), (3, .int p3), (4, .int p4), (5, .int p5), (6, .int p6)]) hx hb dX12_pack_128 hl (by decide) rfl (fun ls hl => ?_)
  obtain ⟨nf, hq⟩ := hq
  exact lp_X12_pack_130  C hr hlk hn h0  nf _ _ _ _ _ _ _ hq hw (lv_sub hl [3, 4, 5, 6, 7, 8, 9, 2, 1, 0] rfl)
set_option maxHeartbeats 4000000 in
set_option maxRecDepth 100000 in
theorem lp_X12_pack_100 {l : Launch} {g : Gh} {p : Program} {e : Env} {s : State} {m : MethodId} {args : Array Value} {below : List Frame} {meth : Method} {c : Code} {M0 : Mem} {a0 : Nat} {p1 : Int32} {p2 : Int32} {p3 : Int32} {p4 : Int32} {p5 : Int32} {p6 : Int32} {post : Int32 → Mem → Prop}  (C : Cx g p s m args c cX12_pack 11 RX12) (hr : meth.sig.returnType = (some .int)) (hlk : meth.locks = false) (hn : meth.name = "pack") (h0 : okc (gB g) M0 a0 12)  : ∀ (nf : Nat) (x7 : Int32)  (M : Mem) (H : Heap) (locs : List Loc) (ls : Array Slot), lfp (fun bk z => bd_X12_pack_100  g M0 a0 p1 p2 p3 p4 p5 p6 post  bk z.1 z.2) nf (x7, M) → Wd g s M0 M H locs → lv_has ls 11 [(0, .ref a0), (1, .int p1), (2, .int p2), (3, .int p3), (4, .int p4), (5, .int p5), (6, .int p6), (7, .int x7)] → W p l e (rmo 1 0 0) s m args below meth c H locs 0 0 (MQ below (Cq g M0 (pI post)) args s 0 0 (gA g)) (F0 m 100 ls []) := by
  have hx := C.1.1
  have hb := C.1.2.1
  intro nf
  induction nf with
  | zero => intro _ _ H locs ls hq; exact hq.elim
  | succ nf hk100 =>
    intro x7 M H locs ls hq hw hl
    replace hq : bd_X12_pack_100  g M0 a0 p1 p2 p3 p4 p5 p6 post  (lfp (fun bk z => bd_X12_pack_100  g M0 a0 p1 p2 p3 p4 p5 p6 post  bk z.1 z.2) nf) x7 M := hq
    unfold bd_X12_pack_100 at hq
    refine lv_iload hx hb dX12_pack_100 (lv_at hl 7 rfl) ?_
    refine lv_bipush (v := 8) hx hb dX12_pack_102 (by decide) ?_
    refine lv_icmp_ge (tgt := 121) hx hb dX12_pack_104 (by decide) (fun c64 => ?_) (fun c64 => ?_)
    · replace hq := hq.1 c64
      exact lt_X12_pack_121  C hr hlk hn h0  hq hw (lv_sub hl [0, 1, 2, 3, 4, 5, 6] rfl)
    · replace hq := hq.2 c64
      refine lv_aload_n hx hb dX12_pack_107 rfl (lv_at hl 0 rfl) ?_
      obtain ⟨q65, e66, hq⟩ := hq
      refine gfX12_90 C hw hw.2.2.1 h0 e66 dX12_pack_108 ?_
      refine lv_iload hx hb dX12_pack_111 (lv_at hl 7 rfl) ?_
      refine lv_iconst (v := 0) hx hb dX12_pack_113 (by decide) ?_
      obtain ⟨h67, hq⟩ := hq
      obtain ⟨h68, hq⟩ := hq
      refine q_iast C hw hw.2.2.1 h67 h68 dX12_pack_114 (fun H locs hw => ?_)
      generalize e70 : uI M q65 (Int32.toNatClampNeg x7) 0 = M69 at hw
      replace hq := hq M69 e70.symm
      have e66 : mR M69 a0 43 = some q65 := by rw [← e70, mR_uI]; exact e66
      refine lv_iinc (v := (x7 + 1)) (lv' := [(7, .int (x7 + 1)), (0, .ref a0), (1, .int p1), (2, .int p2), (3, .int p3), (4, .int p4), (5, .int p5), (6, .int p6)]) hx hb dX12_pack_115 hl (k := 7) rfl rfl (by decide) rfl (fun ls hl => ?_)
      refine lv_goto (tgt := 100) hx hb dX12_pack_118 (by decide) ?_
      exact hk100 _ _ _ _ _ hq hw (lv_sub hl [1, 2, 3, 4, 5, 6, 7, 0] rfl)
set_option maxHeartbeats 4000000 in
set_option maxRecDepth 100000 in
theorem lt_X12_pack_75 {l : Launch} {g : Gh} {p : Program} {e : Env} {s : State} {m : MethodId} {args : Array Value} {below : List Frame} {meth : Method} {c : Code} {H : Heap} {locs : List Loc} {ls : Array Slot} {M0 M : Mem} {a0 : Nat} {p1 : Int32} {p2 : Int32} {p3 : Int32} {p4 : Int32} {p5 : Int32} {p6 : Int32} {post : Int32 → Mem → Prop}  {s0 : Nat} {s1 : Int32}  (C : Cx g p s m args c cX12_pack 11 RX12) (hr : meth.sig.returnType = (some .int)) (hlk : meth.locks = false) (hn : meth.name = "pack") (h0 : okc (gB g) M0 a0 12)  (hq : lb_X12_pack_75  g M0 a0 p1 p2 p3 p4 p5 p6 post  s0 s1 M) (hw : Wd g s M0 M H locs) (hl : lv_has ls 11 [(0, .ref a0), (1, .int p1), (2, .int p2), (3, .int p3), (4, .int p4), (5, .int p5), (6, .int p6)]) : W p l e (rmo 1 0 0) s m args below meth c H locs 0 0 (MQ below (Cq g M0 (pI post)) args s 0 0 (gA g)) (F0 m 75 ls [.int s1, .ref s0]) := by
  have hx := C.1.1
  have hb := C.1.2.1
  unfold lb_X12_pack_75 at hq
  obtain ⟨h71, hq⟩ := hq
  refine pfX12_123 C hw hw.2.2.1 h71 dX12_pack_75 (fun H locs hw => ?_)
  generalize e73 : uI M s0 0 s1 = M72 at hw
  replace hq := hq M72 e73.symm
  refine lv_aload_n hx hb dX12_pack_78 rfl (lv_at hl 0 rfl) ?_
  refine gfX12_123 C hw hw.2.2.1 h0 dX12_pack_79 ?_
  refine lv_if_le (tgt := 87) hx hb dX12_pack_82 (by decide) (fun c74 => ?_) (fun c74 => ?_)
  · replace hq := hq.1 c74
    refine lv_aload_n hx hb dX12_pack_87 rfl (lv_at hl 0 rfl) ?_
    refine lv_iconst (v := 0) hx hb dX12_pack_88 (by decide) ?_
    refine pfX12_274 C hw hw.2.2.1 h0 dX12_pack_89 (fun H locs hw => ?_)
    generalize e76 : uI M72 a0 44 0 = M75 at hw
    replace hq := hq M75 e76.symm
    refine lv_aload_n hx hb dX12_pack_92 rfl (lv_at hl 0 rfl) ?_
    refine lv_iconst (v := 0) hx hb dX12_pack_93 (by decide) ?_
    refine pfX12_277 C hw hw.2.2.1 h0 dX12_pack_94 (fun H locs hw => ?_)
    generalize e78 : uI M75 a0 45 0 = M77 at hw
    replace hq := hq M77 e78.symm
    refine lv_iconst (v := 0) hx hb dX12_pack_97 (by decide) ?_
    refine lv_istore (lv' := [(7, .int 0), (0, .ref a0), (1, .int p1), (2, .int p2), (3, .int p3), (4, .int p4), (5, .int p5), (6, .int p6)]) hx hb dX12_pack_98 hl (by decide) rfl (fun ls hl => ?_)
    obtain ⟨nf, hq⟩ := hq
    exact lp_X12_pack_100  C hr hlk hn h0  nf _ _ _ _ _ hq hw (lv_sub hl [1, 2, 3, 4, 5, 6, 7, 0] rfl)
  · replace hq := hq.2 c74
    refine lv_iconst (v := 0) hx hb dX12_pack_85 (by decide) ?_
    exact r_iret C hr hlk hw dX12_pack_86 (Nat.le_refl _) (Nat.le_refl _) ⟨_, rfl, hq⟩
set_option maxHeartbeats 4000000 in
set_option maxRecDepth 100000 in
theorem ct_X12_pack {l : Launch} {g : Gh} {M0 : Mem} {a0 : Nat} {p1 : Int32} {p2 : Int32} {p3 : Int32} {p4 : Int32} {p5 : Int32} {p6 : Int32} {post : Int32 → Mem → Prop}  (hq : wp_X12_pack  g M0 a0 p1 p2 p3 p4 p5 p6 post) : Ct l g yX12_pack cX12_pack 11 (some .int) 1 0 0 [.ref a0, .int p1, .int p2, .int p3, .int p4, .int p5, .int p6] M0 (pI post) := by
  unfold wp_X12_pack at hq
  obtain ⟨h0, hq⟩ := hq
  refine Ct.of (by decide) (Nat.le_of_ble_eq_true rfl) ?_
  intro p e s m below meth c ls C hr hlk hn hl hw
  have hx := C.1.1
  have hb := C.1.2.1
  have hl : lv_has ls 11 [(0, .ref a0), (1, .int p1), (2, .int p2), (3, .int p3), (4, .int p4), (5, .int p5), (6, .int p6)] := hl
  refine lv_aload_n hx hb dX12_pack_0 rfl (lv_at hl 0 rfl) ?_
  refine lv_iload_n hx hb dX12_pack_1 rfl (lv_at hl 1 rfl) ?_
  refine r_callS (index := 254) (n := 1) (d2 := 0) (mc := 0) (ms := 0) (As := [.int p1]) (rest := [.ref a0]) C hw (ct_X12_isTeam hq) ksX12_254 ⟨by decide, by decide⟩ ⟨by decide, by decide⟩ rfl hl.1 rfl (Nat.le_of_ble_eq_true rfl) dX12_pack_2 (fun r M80 H locs hp hle hw => ?_)
  obtain ⟨v79, rfl, hq⟩ := hp
  refine W.eq (g2 := F0 m 5 ls [.int v79, .ref a0]) rfl ?_
  refine lv_if_eq (tgt := 52) hx hb dX12_pack_5 (by decide) (fun c81 => ?_) (fun c81 => ?_)
  · replace hq := hq.1 c81
    refine lv_iconst (v := 1) hx hb dX12_pack_52 (by decide) ?_
    refine lv_goto (tgt := 75) hx hb dX12_pack_53 (by decide) ?_
    exact lt_X12_pack_75  C hr hlk hn h0  hq hw (lv_sub hl [0, 1, 2, 3, 4, 5, 6] rfl)
  · replace hq := hq.2 c81
    refine lv_iload_n hx hb dX12_pack_8 rfl (lv_at hl 2 rfl) ?_
    refine r_callS (index := 254) (n := 1) (d2 := 0) (mc := 0) (ms := 0) (As := [.int p2]) (rest := [.ref a0]) C hw (ct_X12_isTeam hq) ksX12_254 ⟨by decide, by decide⟩ ⟨by decide, by decide⟩ rfl hl.1 rfl (Nat.le_of_ble_eq_true rfl) dX12_pack_9 (fun r M83 H locs hp hle hw => ?_)
    obtain ⟨v82, rfl, hq⟩ := hp
    refine W.eq (g2 := F0 m 12 ls [.int v82, .ref a0]) rfl ?_
    refine lv_if_eq (tgt := 52) hx hb dX12_pack_12 (by decide) (fun c84 => ?_) (fun c84 => ?_)
    · replace hq := hq.1 c84
      refine lv_iconst (v := 1) hx hb dX12_pack_52 (by decide) ?_
      refine lv_goto (tgt := 75) hx hb dX12_pack_53 (by decide) ?_
      exact lt_X12_pack_75  C hr hlk hn h0  hq hw (lv_sub hl [0, 1, 2, 3, 4, 5, 6] rfl)
    · replace hq := hq.2 c84
      refine lv_iload_n hx hb dX12_pack_15 rfl (lv_at hl 1 rfl) ?_
      refine lv_iload_n hx hb dX12_pack_16 rfl (lv_at hl 2 rfl) ?_
      refine lv_icmp_eq (tgt := 52) hx hb dX12_pack_17 (by decide) (fun c85 => ?_) (fun c85 => ?_)
      · replace hq := hq.1 c85
        refine lv_iconst (v := 1) hx hb dX12_pack_52 (by decide) ?_
        refine lv_goto (tgt := 75) hx hb dX12_pack_53 (by decide) ?_
        exact lt_X12_pack_75  C hr hlk hn h0  hq hw (lv_sub hl [0, 1, 2, 3, 4, 5, 6] rfl)
      · replace hq := hq.2 c85
        refine lv_iload_n hx hb dX12_pack_20 rfl (lv_at hl 3 rfl) ?_
        refine lv_iconst (v := 1) hx hb dX12_pack_21 (by decide) ?_
        refine lv_icmp_lt (tgt := 52) hx hb dX12_pack_22 (by decide) (fun c86 => ?_) (fun c86 => ?_)
        · replace hq := hq.1 c86
          refine lv_iconst (v := 1) hx hb dX12_pack_52 (by decide) ?_
          refine lv_goto (tgt := 75) hx hb dX12_pack_53 (by decide) ?_
          exact lt_X12_pack_75  C hr hlk hn h0  hq hw (lv_sub hl [0, 1, 2, 3, 4, 5, 6] rfl)
        · replace hq := hq.2 c86
          refine lv_iload_n hx hb dX12_pack_25 rfl (lv_at hl 3 rfl) ?_
          refine lv_bipush (v := 48) hx hb dX12_pack_26 (by decide) ?_
          refine lv_icmp_gt (tgt := 52) hx hb dX12_pack_28 (by decide) (fun c87 => ?_) (fun c87 => ?_)
          · replace hq := hq.1 c87
            refine lv_iconst (v := 1) hx hb dX12_pack_52 (by decide) ?_
            refine lv_goto (tgt := 75) hx hb dX12_pack_53 (by decide) ?_
            exact lt_X12_pack_75  C hr hlk hn h0  hq hw (lv_sub hl [0, 1, 2, 3, 4, 5, 6] rfl)
          · replace hq := hq.2 c87
            refine lv_iload hx hb dX12_pack_31 (lv_at hl 4 rfl) ?_
            refine lv_iload hx hb dX12_pack_33 (lv_at hl 5 rfl) ?_
            refine lv_icmp_gt (tgt := 52) hx hb dX12_pack_35 (by decide) (fun c88 => ?_) (fun c88 => ?_)
            · replace hq := hq.1 c88
              refine lv_iconst (v := 1) hx hb dX12_pack_52 (by decide) ?_
              refine lv_goto (tgt := 75) hx hb dX12_pack_53 (by decide) ?_
              exact lt_X12_pack_75  C hr hlk hn h0  hq hw (lv_sub hl [0, 1, 2, 3, 4, 5, 6] rfl)
            · replace hq := hq.2 c88
              refine lv_iload hx hb dX12_pack_38 (lv_at hl 6 rfl) ?_
              refine lv_iconst (v := 1) hx hb dX12_pack_40 (by decide) ?_
              refine lv_icmp_lt (tgt := 52) hx hb dX12_pack_41 (by decide) (fun c89 => ?_) (fun c89 => ?_)
              · replace hq := hq.1 c89
                refine lv_iconst (v := 1) hx hb dX12_pack_52 (by decide) ?_
                refine lv_goto (tgt := 75) hx hb dX12_pack_53 (by decide) ?_
                exact lt_X12_pack_75  C hr hlk hn h0  hq hw (lv_sub hl [0, 1, 2, 3, 4, 5, 6] rfl)
              · replace hq := hq.2 c89
                refine lv_iload hx hb dX12_pack_44 (lv_at hl 6 rfl) ?_
                refine lv_ldcw (v := 100000) hx hb C.1.2.2.2.1 (C.1.2.2.2.2 _ w_1500) dX12_pack_46 ?_
                refine lv_icmp_le (tgt := 56) hx hb dX12_pack_49 (by decide) (fun c90 => ?_) (fun c90 => ?_)
                · replace hq := hq.1 c90
                  refine lv_aload_n hx hb dX12_pack_56 rfl (lv_at hl 0 rfl) ?_
                  refine gfX12_270 C hw hw.2.2.1 h0 dX12_pack_57 ?_
                  refine lv_if_eq (tgt := 70) hx hb dX12_pack_60 (by decide) (fun c91 => ?_) (fun c91 => ?_)
                  · replace hq := hq.1 c91
                    refine lv_iconst (v := 2) hx hb dX12_pack_70 (by decide) ?_
                    refine lv_goto (tgt := 75) hx hb dX12_pack_71 (by decide) ?_
                    exact lt_X12_pack_75  C hr hlk hn h0  hq hw (lv_sub hl [0, 1, 2, 3, 4, 5, 6] rfl)
                  · replace hq := hq.2 c91
                    refine lv_aload_n hx hb dX12_pack_63 rfl (lv_at hl 0 rfl) ?_
                    refine gfX12_247 C hw hw.2.2.1 h0 dX12_pack_64 ?_
                    refine lv_if_eq (tgt := 74) hx hb dX12_pack_67 (by decide) (fun c92 => ?_) (fun c92 => ?_)
                    · replace hq := hq.1 c92
                      refine lv_iconst (v := 0) hx hb dX12_pack_74 (by decide) ?_
                      exact lt_X12_pack_75  C hr hlk hn h0  hq hw (lv_sub hl [0, 1, 2, 3, 4, 5, 6] rfl)
                    · replace hq := hq.2 c92
                      refine lv_iconst (v := 2) hx hb dX12_pack_70 (by decide) ?_
                      refine lv_goto (tgt := 75) hx hb dX12_pack_71 (by decide) ?_
                      exact lt_X12_pack_75  C hr hlk hn h0  hq hw (lv_sub hl [0, 1, 2, 3, 4, 5, 6] rfl)
                · replace hq := hq.2 c90
                  refine lv_iconst (v := 1) hx hb dX12_pack_52 (by decide) ?_
                  refine lv_goto (tgt := 75) hx hb dX12_pack_53 (by decide) ?_
                  exact lt_X12_pack_75  C hr hlk hn h0  hq hw (lv_sub hl [0, 1, 2, 3, 4, 5, 6] rfl)

set_option maxRecDepth 100000 in
def wp_X12_packed  (g : Gh) (M0 : Mem) (a0 : Nat) (p1 : Int32) (post : Int32 → Mem → Prop) : Prop :=
  okc (gB g) M0 a0 12 ∧ (∀ M1, M1 = uI M0 a0 0 0 → (((p1 < 0) → post (-1) M1) ∧ (¬ (p1 < 0) → ((p1 < (mI M1 a0 44)) → ∃ q5, mR M1 a0 41 = some q5 ∧ (okc (gB g) M0 q5 14 ∧ (vp_in p1 (mN M0 q5) ∧ (post (mI M1 q5 (Int32.toNatClampNeg p1)) M1)))) ∧ (¬ (p1 < (mI M1 a0 44)) → post (-1) M1))))
set_option maxHeartbeats 4000000 in
set_option maxRecDepth 100000 in
theorem ct_X12_packed {l : Launch} {g : Gh} {M0 : Mem} {a0 : Nat} {p1 : Int32} {post : Int32 → Mem → Prop}  (hq : wp_X12_packed  g M0 a0 p1 post) : Ct l g yX12_packed cX12_packed 2 (some .int) 0 0 0 [.ref a0, .int p1] M0 (pI post) := by
  unfold wp_X12_packed at hq
  obtain ⟨h0, hq⟩ := hq
  refine Ct.of (by decide) (Nat.le_of_ble_eq_true rfl) ?_
  intro p e s m below meth c ls C hr hlk hn hl hw
  have hx := C.1.1
  have hb := C.1.2.1
  have hl : lv_has ls 2 [(0, .ref a0), (1, .int p1)] := hl
  refine lv_aload_n hx hb dX12_packed_0 rfl (lv_at hl 0 rfl) ?_
  refine lv_iconst (v := 0) hx hb dX12_packed_1 (by decide) ?_
  refine pfX12_123 C hw hw.2.2.1 h0 dX12_packed_2 (fun H locs hw => ?_)
  generalize e2 : uI M0 a0 0 0 = M1 at hw
  replace hq := hq M1 e2.symm
  refine lv_iload_n hx hb dX12_packed_5 rfl (lv_at hl 1 rfl) ?_
  refine lv_if_lt (tgt := 17) hx hb dX12_packed_6 (by decide) (fun c3 => ?_) (fun c3 => ?_)
  · replace hq := hq.1 c3
    refine lv_iconst (v := (-1)) hx hb dX12_packed_17 (by decide) ?_
    refine lv_goto (tgt := 27) hx hb dX12_packed_18 (by decide) ?_
    exact r_iret C hr hlk hw dX12_packed_27 (Nat.le_refl _) (Nat.le_refl _) ⟨_, rfl, hq⟩
  · replace hq := hq.2 c3
    refine lv_iload_n hx hb dX12_packed_9 rfl (lv_at hl 1 rfl) ?_
    refine lv_aload_n hx hb dX12_packed_10 rfl (lv_at hl 0 rfl) ?_
    refine gfX12_274 C hw hw.2.2.1 h0 dX12_packed_11 ?_
    refine lv_icmp_lt (tgt := 21) hx hb dX12_packed_14 (by decide) (fun c4 => ?_) (fun c4 => ?_)
    · replace hq := hq.1 c4
      refine lv_aload_n hx hb dX12_packed_21 rfl (lv_at hl 0 rfl) ?_
      obtain ⟨q5, e6, hq⟩ := hq
      refine gfX12_84 C hw hw.2.2.1 h0 e6 dX12_packed_22 ?_
      refine lv_iload_n hx hb dX12_packed_25 rfl (lv_at hl 1 rfl) ?_
      obtain ⟨h7, hq⟩ := hq
      obtain ⟨h8, hq⟩ := hq
      refine q_iald C hw hw.2.2.1 h7 h8 dX12_packed_26 ?_
      exact r_iret C hr hlk hw dX12_packed_27 (Nat.le_refl _) (Nat.le_refl _) ⟨_, rfl, hq⟩
    · replace hq := hq.2 c4
      refine lv_iconst (v := (-1)) hx hb dX12_packed_17 (by decide) ?_
      refine lv_goto (tgt := 27) hx hb dX12_packed_18 (by decide) ?_
      exact r_iret C hr hlk hw dX12_packed_27 (Nat.le_refl _) (Nat.le_refl _) ⟨_, rfl, hq⟩

set_option maxRecDepth 100000 in
def bd_X12_roundOf_4  (g : Gh) (M0 : Mem) (a0 : Nat) (p1 : Int32) (post : Int32 → Mem → Prop)  (bk4 : Int32 × Int32 × Mem → Prop) (x2 : Int32) (x3 : Int32)  (M : Mem) : Prop :=
  ∃ q1, mR M a0 29 = some q1 ∧ (okc (gB g) M0 q1 14 ∧ (vp_in x2 (mN M0 q1) ∧ (((x3 < (mI M q1 (Int32.toNatClampNeg x2))) → post x2 M) ∧ (¬ (x3 < (mI M q1 (Int32.toNatClampNeg x2))) → bk4 ((x2 + 1), (x3 - (mI M q1 (Int32.toNatClampNeg x2))), M)))))
set_option maxRecDepth 100000 in
def wp_X12_roundOf  (g : Gh) (M0 : Mem) (a0 : Nat) (p1 : Int32) (post : Int32 → Mem → Prop) : Prop :=
  okc (gB g) M0 a0 12 ∧ ((∃ n : Nat, lfp (fun bk z => bd_X12_roundOf_4  g M0 a0 p1 post  bk z.1 z.2.1 z.2.2) n (0, p1, M0)))
set_option maxHeartbeats 4000000 in
set_option maxRecDepth 100000 in
theorem lp_X12_roundOf_4 {l : Launch} {g : Gh} {p : Program} {e : Env} {s : State} {m : MethodId} {args : Array Value} {below : List Frame} {meth : Method} {c : Code} {M0 : Mem} {a0 : Nat} {p1 : Int32} {post : Int32 → Mem → Prop}  (C : Cx g p s m args c cX12_roundOf 4 RX12) (hr : meth.sig.returnType = (some .int)) (hlk : meth.locks = false) (hn : meth.name = "roundOf") (h0 : okc (gB g) M0 a0 12)  : ∀ (nf : Nat) (x2 : Int32) (x3 : Int32)  (M : Mem) (H : Heap) (locs : List Loc) (ls : Array Slot), lfp (fun bk z => bd_X12_roundOf_4  g M0 a0 p1 post  bk z.1 z.2.1 z.2.2) nf (x2, x3, M) → Wd g s M0 M H locs → lv_has ls 4 [(0, .ref a0), (1, .int p1), (2, .int x2), (3, .int x3)] → W p l e (rmo 0 0 0) s m args below meth c H locs 0 0 (MQ below (Cq g M0 (pI post)) args s 0 0 (gA g)) (F0 m 4 ls []) := by
  have hx := C.1.1
  have hb := C.1.2.1
  intro nf
  induction nf with
  | zero => intro _ _ _ H locs ls hq; exact hq.elim
  | succ nf hk4 =>
    intro x2 x3 M H locs ls hq hw hl
    replace hq : bd_X12_roundOf_4  g M0 a0 p1 post  (lfp (fun bk z => bd_X12_roundOf_4  g M0 a0 p1 post  bk z.1 z.2.1 z.2.2) nf) x2 x3 M := hq
    unfold bd_X12_roundOf_4 at hq
    refine lv_iload_n hx hb dX12_roundOf_4 rfl (lv_at hl 3 rfl) ?_
    refine lv_aload_n hx hb dX12_roundOf_5 rfl (lv_at hl 0 rfl) ?_
    obtain ⟨q1, e2, hq⟩ := hq
    refine gfX12_54 C hw hw.2.2.1 h0 e2 dX12_roundOf_6 ?_
    refine lv_iload_n hx hb dX12_roundOf_9 rfl (lv_at hl 2 rfl) ?_
    obtain ⟨h3, hq⟩ := hq
    obtain ⟨h4, hq⟩ := hq
    refine q_iald C hw hw.2.2.1 h3 h4 dX12_roundOf_10 ?_
    refine lv_icmp_lt (tgt := 29) hx hb dX12_roundOf_11 (by decide) (fun c5 => ?_) (fun c5 => ?_)
    · replace hq := hq.1 c5
      refine lv_iload_n hx hb dX12_roundOf_29 rfl (lv_at hl 2 rfl) ?_
      exact r_iret C hr hlk hw dX12_roundOf_30 (Nat.le_refl _) (Nat.le_refl _) ⟨_, rfl, hq⟩
    · replace hq := hq.2 c5
      refine lv_iload_n hx hb dX12_roundOf_14 rfl (lv_at hl 3 rfl) ?_
      refine lv_aload_n hx hb dX12_roundOf_15 rfl (lv_at hl 0 rfl) ?_
      refine gfX12_54 C hw hw.2.2.1 h0 e2 dX12_roundOf_16 ?_
      refine lv_iload_n hx hb dX12_roundOf_19 rfl (lv_at hl 2 rfl) ?_
      refine q_iald C hw hw.2.2.1 h3 h4 dX12_roundOf_20 ?_
      refine lv_isub hx hb dX12_roundOf_21 ?_
      refine lv_istore_n (lv' := [(3, .int (x3 - (mI M q1 (Int32.toNatClampNeg x2)))), (0, .ref a0), (1, .int p1), (2, .int x2)]) hx hb dX12_roundOf_22 rfl hl (by decide) rfl (fun ls hl => ?_)
      refine lv_iinc (v := (x2 + 1)) (lv' := [(2, .int (x2 + 1)), (3, .int (x3 - (mI M q1 (Int32.toNatClampNeg x2)))), (0, .ref a0), (1, .int p1)]) hx hb dX12_roundOf_23 hl (k := 3) rfl rfl (by decide) rfl (fun ls hl => ?_)
      refine lv_goto (tgt := 4) hx hb dX12_roundOf_26 (by decide) ?_
      exact hk4 _ _ _ _ _ _ hq hw (lv_sub hl [2, 3, 0, 1] rfl)
set_option maxHeartbeats 4000000 in
set_option maxRecDepth 100000 in
theorem ct_X12_roundOf {l : Launch} {g : Gh} {M0 : Mem} {a0 : Nat} {p1 : Int32} {post : Int32 → Mem → Prop}  (hq : wp_X12_roundOf  g M0 a0 p1 post) : Ct l g yX12_roundOf cX12_roundOf 4 (some .int) 0 0 0 [.ref a0, .int p1] M0 (pI post) := by
  unfold wp_X12_roundOf at hq
  obtain ⟨h0, hq⟩ := hq
  refine Ct.of (by decide) (Nat.le_of_ble_eq_true rfl) ?_
  intro p e s m below meth c ls C hr hlk hn hl hw
  have hx := C.1.1
  have hb := C.1.2.1
  have hl : lv_has ls 4 [(0, .ref a0), (1, .int p1)] := hl
  refine lv_iconst (v := 0) hx hb dX12_roundOf_0 (by decide) ?_
  refine lv_istore_n (lv' := [(2, .int 0), (0, .ref a0), (1, .int p1)]) hx hb dX12_roundOf_1 rfl hl (by decide) rfl (fun ls hl => ?_)
  refine lv_iload_n hx hb dX12_roundOf_2 rfl (lv_at hl 2 rfl) ?_
  refine lv_istore_n (lv' := [(3, .int p1), (2, .int 0), (0, .ref a0), (1, .int p1)]) hx hb dX12_roundOf_3 rfl hl (by decide) rfl (fun ls hl => ?_)
  obtain ⟨nf, hq⟩ := hq
  exact lp_X12_roundOf_4  C hr hlk hn h0  nf _ _ _ _ _ _ hq hw (lv_sub hl [2, 3, 1, 0] rfl)

set_option maxRecDepth 100000 in
def wp_X12_hands  (g : Gh) (M0 : Mem) (a0 : Nat) (p1 : Int32) (post : Mem → Prop) : Prop :=
  okc (gB g) M0 a0 12 ∧ (∀ M1, M1 = uI M0 a0 50 p1 → (∀ M3, M3 = uI M1 a0 52 0 → (((p1 < (mI M3 a0 44)) → ∃ q6, mR M3 a0 33 = some q6 ∧ (wp_X12_roundOf g M3 a0 p1 (fun v8 M9 => okc (gB g) M0 q6 17 ∧ (vp_in v8 (mN M0 q6) ∧ ((((mI M9 q6 (Int32.toNatClampNeg v8)) = 0) → ∀ M13, M13 = uI M9 a0 51 (p1 - p1 / 2 * 2) → (post M13)) ∧ (¬ ((mI M9 q6 (Int32.toNatClampNeg v8)) = 0) → ∀ M15, M15 = uI M9 a0 51 2 → (post M15))))))) ∧ (¬ (p1 < (mI M3 a0 44)) → ∀ M17, M17 = uI M3 a0 51 3 → (post M17)))))
set_option maxHeartbeats 4000000 in
set_option maxRecDepth 100000 in
theorem ct_X12_hands {l : Launch} {g : Gh} {M0 : Mem} {a0 : Nat} {p1 : Int32} {post : Mem → Prop}  (hq : wp_X12_hands  g M0 a0 p1 post) : Ct l g yX12_hands cX12_hands 2 none 1 0 0 [.ref a0, .int p1] M0 (pV post) := by
  unfold wp_X12_hands at hq
  obtain ⟨h0, hq⟩ := hq
  refine Ct.of (by decide) (Nat.le_of_ble_eq_true rfl) ?_
  intro p e s m below meth c ls C hr hlk hn hl hw
  have hx := C.1.1
  have hb := C.1.2.1
  have hl : lv_has ls 2 [(0, .ref a0), (1, .int p1)] := hl
  refine lv_aload_n hx hb dX12_hands_0 rfl (lv_at hl 0 rfl) ?_
  refine lv_iload_n hx hb dX12_hands_1 rfl (lv_at hl 1 rfl) ?_
  refine pfX12_296 C hw hw.2.2.1 h0 dX12_hands_2 (fun H locs hw => ?_)
  generalize e2 : uI M0 a0 50 p1 = M1 at hw
  replace hq := hq M1 e2.symm
  refine lv_aload_n hx hb dX12_hands_5 rfl (lv_at hl 0 rfl) ?_
  refine lv_iconst (v := 0) hx hb dX12_hands_6 (by decide) ?_
  refine pfX12_299 C hw hw.2.2.1 h0 dX12_hands_7 (fun H locs hw => ?_)
  generalize e4 : uI M1 a0 52 0 = M3 at hw
  replace hq := hq M3 e4.symm
  refine lv_aload_n hx hb dX12_hands_10 rfl (lv_at hl 0 rfl) ?_
  refine lv_iload_n hx hb dX12_hands_11 rfl (lv_at hl 1 rfl) ?_
  refine lv_aload_n hx hb dX12_hands_12 rfl (lv_at hl 0 rfl) ?_
  refine gfX12_274 C hw hw.2.2.1 h0 dX12_hands_13 ?_
  refine lv_icmp_lt (tgt := 23) hx hb dX12_hands_16 (by decide) (fun c5 => ?_) (fun c5 => ?_)
  · replace hq := hq.1 c5
    refine lv_aload_n hx hb dX12_hands_23 rfl (lv_at hl 0 rfl) ?_
    obtain ⟨q6, e7, hq⟩ := hq
    refine gfX12_66 C hw hw.2.2.1 h0 e7 dX12_hands_24 ?_
    refine lv_aload_n hx hb dX12_hands_27 rfl (lv_at hl 0 rfl) ?_
    refine lv_iload_n hx hb dX12_hands_28 rfl (lv_at hl 1 rfl) ?_
    refine r_callV (T := TX12) (N := 67) (ci := 12) (index := 302) (n := 1) (d2 := 0) (mc := 0) (ms := 0) (As := [.int p1]) (rest := [.ref q6, .ref a0]) C hw (ct_X12_roundOf hq) kvX12_302 hq.1 (by decide) rfl ⟨by decide, by decide⟩ ⟨by decide, by decide⟩ rfl hl.1 rfl (Nat.le_of_ble_eq_true rfl) dX12_hands_29 (fun r M9 H locs hp hle hw => ?_)
    obtain ⟨v8, rfl, hq⟩ := hp
    refine W.eq (g2 := F0 m 32 ls [.int v8, .ref q6, .ref a0]) rfl ?_
    obtain ⟨h10, hq⟩ := hq
    obtain ⟨h11, hq⟩ := hq
    refine q_zald C hw hw.2.2.1 h10 h11 dX12_hands_32 ?_
    refine lv_if_eq (tgt := 40) hx hb dX12_hands_33 (by decide) (fun c12 => ?_) (fun c12 => ?_)
    · replace hq := hq.1 c12
      refine lv_iload_n hx hb dX12_hands_40 rfl (lv_at hl 1 rfl) ?_
      refine lv_iconst (v := 2) hx hb dX12_hands_41 (by decide) ?_
      refine lv_irem hx hb dX12_hands_42 (by decide) ?_
      refine pfX12_305 C hw hw.2.2.1 h0 dX12_hands_43 (fun H locs hw => ?_)
      generalize e14 : uI M9 a0 51 (p1 - p1 / 2 * 2) = M13 at hw
      replace hq := hq M13 e14.symm
      exact r_vret C hr hlk hw dX12_hands_46 (Nat.le_refl _) (Nat.le_refl _) ⟨rfl, hq⟩
    · replace hq := hq.2 c12
      refine lv_iconst (v := 2) hx hb dX12_hands_36 (by decide) ?_
      refine lv_goto (tgt := 43) hx hb dX12_hands_37 (by decide) ?_
      refine pfX12_305 C hw hw.2.2.1 h0 dX12_hands_43 (fun H locs hw => ?_)
      generalize e16 : uI M9 a0 51 2 = M15 at hw
      replace hq := hq M15 e16.symm
      exact r_vret C hr hlk hw dX12_hands_46 (Nat.le_refl _) (Nat.le_refl _) ⟨rfl, hq⟩
  · replace hq := hq.2 c5
    refine lv_iconst (v := 3) hx hb dX12_hands_19 (by decide) ?_
    refine lv_goto (tgt := 43) hx hb dX12_hands_20 (by decide) ?_
    refine pfX12_305 C hw hw.2.2.1 h0 dX12_hands_43 (fun H locs hw => ?_)
    generalize e18 : uI M3 a0 51 3 = M17 at hw
    replace hq := hq M17 e18.symm
    exact r_vret C hr hlk hw dX12_hands_46 (Nat.le_refl _) (Nat.le_refl _) ⟨rfl, hq⟩

set_option maxRecDepth 100000 in
def lb_X12_happens_232  (g : Gh) (M0 : Mem) (a0 : Nat) (p1 : Int32) (p2 : Int32) (post : Mem → Prop)    (M : Mem) : Prop :=
  ∀ M1, M1 = uI M a0 52 1 → (∃ q3, mR M1 a0 58 = some q3 ∧ (okc (gB g) M0 q3 14 ∧ (vp_in p1 (mN M0 q3) ∧ (∀ M7, M7 = uI M1 a0 51 (1 - (mI M1 q3 (Int32.toNatClampNeg p1))) → (post M7)))))
set_option maxRecDepth 100000 in
def lb_X12_happens_219  (g : Gh) (M0 : Mem) (a0 : Nat) (p1 : Int32) (p2 : Int32) (post : Mem → Prop)    (M : Mem) : Prop :=
  wp_X12_hands g M a0 ((mI M a0 50) + 1) (fun M10 => post M10)
set_option maxRecDepth 100000 in
def lb_X12_happens_188  (g : Gh) (M0 : Mem) (a0 : Nat) (p1 : Int32) (p2 : Int32) (post : Mem → Prop)  (x3 : Int32)  (M : Mem) : Prop :=
  ((x3 = 0) → (((mI M a0 52) = 1) → lb_X12_happens_219  g M0 a0 p1 p2 post   M) ∧ (¬ ((mI M a0 52) = 1) → ∃ q13, mR M a0 33 = some q13 ∧ (okc (gB g) M0 q13 17 ∧ (vp_in p2 (mN M0 q13) ∧ ((((mI M q13 (Int32.toNatClampNeg p2)) = 0) → ∃ q18, mR M a0 31 = some q18 ∧ (okc (gB g) M0 q18 14 ∧ (vp_in p2 (mN M0 q18) ∧ ((((mI M q18 (Int32.toNatClampNeg p2)) = (-1)) → lb_X12_happens_219  g M0 a0 p1 p2 post   M) ∧ (¬ ((mI M q18 (Int32.toNatClampNeg p2)) = (-1)) → lb_X12_happens_232  g M0 a0 p1 p2 post   M))))) ∧ (¬ ((mI M q13 (Int32.toNatClampNeg p2)) = 0) → lb_X12_happens_232  g M0 a0 p1 p2 post   M)))))) ∧ (¬ (x3 = 0) → lb_X12_happens_219  g M0 a0 p1 p2 post   M)
set_option maxRecDepth 100000 in
def lb_X12_happens_145  (g : Gh) (M0 : Mem) (a0 : Nat) (p1 : Int32) (p2 : Int32) (post : Mem → Prop)  (x3 : Int32) (s0 : Nat) (s1 : Int32) (s2 : Int32) (M : Mem) : Prop :=
  okc (gB g) M0 s0 14 ∧ (vp_in s1 (mN M0 s0) ∧ (∀ M25, M25 = uI M s0 (Int32.toNatClampNeg s1) s2 → (∃ q27, mR M25 a0 58 = some q27 ∧ (okc (gB g) M0 q27 14 ∧ (vp_in p1 (mN M0 q27) ∧ ((((mI M25 q27 (Int32.toNatClampNeg p1)) = 0) → ∃ q38, mR M25 a0 59 = some q38 ∧ (okc (gB g) M0 q38 14 ∧ (vp_in p1 (mN M0 q38) ∧ (∀ M42, M42 = uI M25 a0 53 ((mI M25 a0 53) + (mI M25 q38 (Int32.toNatClampNeg p1))) → (lb_X12_happens_188  g M0 a0 p1 p2 post  x3 M42))))) ∧ (¬ ((mI M25 q27 (Int32.toNatClampNeg p1)) = 0) → ∃ q32, mR M25 a0 59 = some q32 ∧ (okc (gB g) M0 q32 14 ∧ (vp_in p1 (mN M0 q32) ∧ (∀ M36, M36 = uI M25 a0 54 ((mI M25 a0 54) + (mI M25 q32 (Int32.toNatClampNeg p1))) → (lb_X12_happens_188  g M0 a0 p1 p2 post  x3 M36)))))))))))
set_option maxRecDepth 100000 in
def lb_X12_happens_84  (g : Gh) (M0 : Mem) (a0 : Nat) (p1 : Int32) (p2 : Int32) (post : Mem → Prop)  (x3 : Int32) (s0 : Int32) (M : Mem) : Prop :=
  ∃ q44, mR M a0 59 = some q44 ∧ (((x3 = 0) → ((s0 = 0) → lb_X12_happens_145  g M0 a0 p1 p2 post  x3 q44 p1 0 M) ∧ (¬ (s0 = 0) → ∃ q48, mR M a0 32 = some q48 ∧ (okc (gB g) M0 q48 14 ∧ (vp_in p2 (mN M0 q48) ∧ (lb_X12_happens_145  g M0 a0 p1 p2 post  x3 q44 p1 (-(mI M q48 (Int32.toNatClampNeg p2))) M))))) ∧ (¬ (x3 = 0) → ∃ q52, mR M a0 33 = some q52 ∧ (okc (gB g) M0 q52 17 ∧ (vp_in p2 (mN M0 q52) ∧ ((((mI M q52 (Int32.toNatClampNeg p2)) = 0) → (((mI M a0 52) = 0) → ∃ q66, mR M a0 30 = some q66 ∧ (okc (gB g) M0 q66 14 ∧ (vp_in p2 (mN M0 q66) ∧ (lb_X12_happens_145  g M0 a0 p1 p2 post  x3 q44 p1 (mI M q66 (Int32.toNatClampNeg p2)) M)))) ∧ (¬ ((mI M a0 52) = 0) → ∃ q62, mR M a0 31 = some q62 ∧ (okc (gB g) M0 q62 14 ∧ (vp_in p2 (mN M0 q62) ∧ (lb_X12_happens_145  g M0 a0 p1 p2 post  x3 q44 p1 (mI M q62 (Int32.toNatClampNeg p2)) M))))) ∧ (¬ ((mI M q52 (Int32.toNatClampNeg p2)) = 0) → ∃ q57, mR M a0 30 = some q57 ∧ (okc (gB g) M0 q57 14 ∧ (vp_in p2 (mN M0 q57) ∧ (lb_X12_happens_145  g M0 a0 p1 p2 post  x3 q44 p1 (mI M q57 (Int32.toNatClampNeg p2)) M)))))))))
set_option maxRecDepth 100000 in
def lb_X12_happens_44  (g : Gh) (M0 : Mem) (a0 : Nat) (p1 : Int32) (p2 : Int32) (post : Mem → Prop)   (s0 : Int32) (M : Mem) : Prop :=
  ∃ q70, mR M a0 57 = some q70 ∧ (okc (gB g) M0 q70 14 ∧ (vp_in p1 (mN M0 q70) ∧ ((((mI M q70 (Int32.toNatClampNeg p1)) = 0) → ∃ q75, mR M a0 60 = some q75 ∧ (okc (gB g) M0 q75 17 ∧ (vp_in p1 (mN M0 q75) ∧ ((((mI M q75 (Int32.toNatClampNeg p1)) = 0) → ∃ q80, mR M a0 33 = some q80 ∧ (okc (gB g) M0 q80 17 ∧ (vp_in p2 (mN M0 q80) ∧ ((((mI M q80 (Int32.toNatClampNeg p2)) = 0) → (((mI M a0 52) = 0) → lb_X12_happens_84  g M0 a0 p1 p2 post  s0 1 M) ∧ (¬ ((mI M a0 52) = 0) → lb_X12_happens_84  g M0 a0 p1 p2 post  s0 0 M)) ∧ (¬ ((mI M q80 (Int32.toNatClampNeg p2)) = 0) → lb_X12_happens_84  g M0 a0 p1 p2 post  s0 1 M))))) ∧ (¬ ((mI M q75 (Int32.toNatClampNeg p1)) = 0) → lb_X12_happens_84  g M0 a0 p1 p2 post  s0 0 M))))) ∧ (¬ ((mI M q70 (Int32.toNatClampNeg p1)) = 0) → lb_X12_happens_84  g M0 a0 p1 p2 post  s0 0 M))))
set_option maxRecDepth 100000 in
def wp_X12_happens  (g : Gh) (M0 : Mem) (a0 : Nat) (p1 : Int32) (p2 : Int32) (post : Mem → Prop) : Prop :=
  okc (gB g) M0 a0 12 ∧ (∃ q86, mR M0 a0 57 = some q86 ∧ (okc (gB g) M0 q86 14 ∧ (vp_in p1 (mN M0 q86) ∧ ((((mI M0 q86 (Int32.toNatClampNeg p1)) = 2) → wp_X12_hands g M0 a0 ((mI M0 a0 50) + 1) (fun M98 => post M98)) ∧ (¬ ((mI M0 q86 (Int32.toNatClampNeg p1)) = 2) → (((mI M0 q86 (Int32.toNatClampNeg p1)) = 0) → ∃ q92, mR M0 a0 60 = some q92 ∧ (okc (gB g) M0 q92 17 ∧ (vp_in p1 (mN M0 q92) ∧ ((((mI M0 q92 (Int32.toNatClampNeg p1)) = 0) → lb_X12_happens_44  g M0 a0 p1 p2 post  0 M0) ∧ (¬ ((mI M0 q92 (Int32.toNatClampNeg p1)) = 0) → lb_X12_happens_44  g M0 a0 p1 p2 post  1 M0))))) ∧ (¬ ((mI M0 q86 (Int32.toNatClampNeg p1)) = 0) → lb_X12_happens_44  g M0 a0 p1 p2 post  0 M0))))))
set_option maxHeartbeats 4000000 in
set_option maxRecDepth 100000 in
theorem lt_X12_happens_232 {l : Launch} {g : Gh} {p : Program} {e : Env} {s : State} {m : MethodId} {args : Array Value} {below : List Frame} {meth : Method} {c : Code} {H : Heap} {locs : List Loc} {ls : Array Slot} {M0 M : Mem} {a0 : Nat} {p1 : Int32} {p2 : Int32} {post : Mem → Prop}    (C : Cx g p s m args c cX12_happens 5 RX12) (hr : meth.sig.returnType = none) (hlk : meth.locks = false) (hn : meth.name = "happens") (h0 : okc (gB g) M0 a0 12)  (hq : lb_X12_happens_232  g M0 a0 p1 p2 post   M) (hw : Wd g s M0 M H locs) (hl : lv_has ls 5 [(0, .ref a0), (1, .int p1), (2, .int p2)]) : W p l e (rmo 2 0 0) s m args below meth c H locs 0 0 (MQ below (Cq g M0 (pV post)) args s 0 0 (gA g)) (F0 m 232 ls []) := by
  have hx := C.1.1
  have hb := C.1.2.1
  unfold lb_X12_happens_232 at hq
  refine lv_aload_n hx hb dX12_happens_232 rfl (lv_at hl 0 rfl) ?_
  refine lv_iconst (v := 1) hx hb dX12_happens_233 (by decide) ?_
  refine pfX12_299 C hw hw.2.2.1 h0 dX12_happens_234 (fun H locs hw => ?_)
  generalize e2 : uI M a0 52 1 = M1 at hw
  replace hq := hq M1 e2.symm
  refine lv_aload_n hx hb dX12_happens_237 rfl (lv_at hl 0 rfl) ?_
  refine lv_iconst (v := 1) hx hb dX12_happens_238 (by decide) ?_
  refine lv_aload_n hx hb dX12_happens_239 rfl (lv_at hl 0 rfl) ?_
  obtain ⟨q3, e4, hq⟩ := hq
  refine gfX12_99 C hw hw.2.2.1 h0 e4 dX12_happens_240 ?_
  refine lv_iload_n hx hb dX12_happens_243 rfl (lv_at hl 1 rfl) ?_
  obtain ⟨h5, hq⟩ := hq
  obtain ⟨h6, hq⟩ := hq
  refine q_iald C hw hw.2.2.1 h5 h6 dX12_happens_244 ?_
  refine lv_isub hx hb dX12_happens_245 ?_
  refine pfX12_305 C hw hw.2.2.1 h0 dX12_happens_246 (fun H locs hw => ?_)
  generalize e8 : uI M1 a0 51 (1 - (mI M1 q3 (Int32.toNatClampNeg p1))) = M7 at hw
  replace hq := hq M7 e8.symm
  have e4 : mR M7 a0 58 = some q3 := by rw [← e8, mR_uI]; exact e4
  exact r_vret C hr hlk hw dX12_happens_249 (Nat.le_refl _) (Nat.le_refl _) ⟨rfl, hq⟩
set_option maxHeartbeats 4000000 in
set_option maxRecDepth 100000 in
theorem lt_X12_happens_219 {l : Launch} {g : Gh} {p : Program} {e : Env} {s : State} {m : MethodId} {args : Array Value} {below : List Frame} {meth : Method} {c : Code} {H : Heap} {locs : List Loc} {ls : Array Slot} {M0 M : Mem} {a0 : Nat} {p1 : Int32} {p2 : Int32} {post : Mem → Prop}    (C : Cx g p s m args c cX12_happens 5 RX12) (hr : meth.sig.returnType = none) (hlk : meth.locks = false) (hn : meth.name = "happens") (h0 : okc (gB g) M0 a0 12)  (hq : lb_X12_happens_219  g M0 a0 p1 p2 post   M) (hw : Wd g s M0 M H locs) (hl : lv_has ls 5 [(0, .ref a0), (1, .int p1), (2, .int p2)]) : W p l e (rmo 2 0 0) s m args below meth c H locs 0 0 (MQ below (Cq g M0 (pV post)) args s 0 0 (gA g)) (F0 m 219 ls []) := by
  have hx := C.1.1
  have hb := C.1.2.1
  unfold lb_X12_happens_219 at hq
  refine lv_aload_n hx hb dX12_happens_219 rfl (lv_at hl 0 rfl) ?_
  refine lv_aload_n hx hb dX12_happens_220 rfl (lv_at hl 0 rfl) ?_
  refine gfX12_296 C hw hw.2.2.1 h0 dX12_happens_221 ?_
  refine lv_iconst (v := 1) hx hb dX12_happens_224 (by decide) ?_
  refine lv_iadd hx hb dX12_happens_225 ?_
  refine r_callV (T := TX12) (N := 67) (ci := 12) (index := 308) (n := 1) (d2 := 1) (mc := 0) (ms := 0) (As := [.int ((mI M a0 50) + 1)]) (rest := []) C hw (ct_X12_hands hq) kvX12_308 hq.1 (by decide) rfl ⟨by decide, by decide⟩ ⟨by decide, by decide⟩ rfl hl.1 rfl (Nat.le_of_ble_eq_true rfl) dX12_happens_226 (fun r M10 H locs hp hle hw => ?_)
  obtain ⟨rfl, hq⟩ := hp
  refine W.eq (g2 := F0 m 229 ls []) rfl ?_
  refine lv_goto (tgt := 249) hx hb dX12_happens_229 (by decide) ?_
  exact r_vret C hr hlk hw dX12_happens_249 (Nat.le_refl _) (Nat.le_refl _) ⟨rfl, hq⟩
set_option maxHeartbeats 4000000 in
set_option maxRecDepth 100000 in
theorem lt_X12_happens_188 {l : Launch} {g : Gh} {p : Program} {e : Env} {s : State} {m : MethodId} {args : Array Value} {below : List Frame} {meth : Method} {c : Code} {H : Heap} {locs : List Loc} {ls : Array Slot} {M0 M : Mem} {a0 : Nat} {p1 : Int32} {p2 : Int32} {post : Mem → Prop} {x3 : Int32}   (C : Cx g p s m args c cX12_happens 5 RX12) (hr : meth.sig.returnType = none) (hlk : meth.locks = false) (hn : meth.name = "happens") (h0 : okc (gB g) M0 a0 12)  (hq : lb_X12_happens_188  g M0 a0 p1 p2 post  x3 M) (hw : Wd g s M0 M H locs) (hl : lv_has ls 5 [(0, .ref a0), (1, .int p1), (2, .int p2), (3, .int x3)]) : W p l e (rmo 2 0 0) s m args below meth c H locs 0 0 (MQ below (Cq g M0 (pV post)) args s 0 0 (gA g)) (F0 m 188 ls []) := by
  have hx := C.1.1
  have hb := C.1.2.1
  unfold lb_X12_happens_188 at hq
  refine lv_iload_n hx hb dX12_happens_188 rfl (lv_at hl 3 rfl) ?_
  refine lv_if_ne (tgt := 219) hx hb dX12_happens_189 (by decide) (fun c11 => ?_) (fun c11 => ?_)
  · replace hq := hq.2 c11
    exact lt_X12_happens_219  C hr hlk hn h0  hq hw (lv_sub hl [0, 1, 2] rfl)
  · replace hq := hq.1 c11
    refine lv_aload_n hx hb dX12_happens_192 rfl (lv_at hl 0 rfl) ?_
    refine gfX12_299 C hw hw.2.2.1 h0 dX12_happens_193 ?_
    refine lv_iconst (v := 1) hx hb dX12_happens_196 (by decide) ?_
    refine lv_icmp_eq (tgt := 219) hx hb dX12_happens_197 (by decide) (fun c12 => ?_) (fun c12 => ?_)
    · replace hq := hq.1 c12
      exact lt_X12_happens_219  C hr hlk hn h0  hq hw (lv_sub hl [0, 1, 2] rfl)
    · replace hq := hq.2 c12
      refine lv_aload_n hx hb dX12_happens_200 rfl (lv_at hl 0 rfl) ?_
      obtain ⟨q13, e14, hq⟩ := hq
      refine gfX12_66 C hw hw.2.2.1 h0 e14 dX12_happens_201 ?_
      refine lv_iload_n hx hb dX12_happens_204 rfl (lv_at hl 2 rfl) ?_
      obtain ⟨h15, hq⟩ := hq
      obtain ⟨h16, hq⟩ := hq
      refine q_zald C hw hw.2.2.1 h15 h16 dX12_happens_205 ?_
      refine lv_if_ne (tgt := 232) hx hb dX12_happens_206 (by decide) (fun c17 => ?_) (fun c17 => ?_)
      · replace hq := hq.2 c17
        exact lt_X12_happens_232  C hr hlk hn h0  hq hw (lv_sub hl [0, 1, 2] rfl)
      · replace hq := hq.1 c17
        refine lv_aload_n hx hb dX12_happens_209 rfl (lv_at hl 0 rfl) ?_
        obtain ⟨q18, e19, hq⟩ := hq
        refine gfX12_60 C hw hw.2.2.1 h0 e19 dX12_happens_210 ?_
        refine lv_iload_n hx hb dX12_happens_213 rfl (lv_at hl 2 rfl) ?_
        obtain ⟨h20, hq⟩ := hq
        obtain ⟨h21, hq⟩ := hq
        refine q_iald C hw hw.2.2.1 h20 h21 dX12_happens_214 ?_
        refine lv_iconst (v := (-1)) hx hb dX12_happens_215 (by decide) ?_
        refine lv_icmp_ne (tgt := 232) hx hb dX12_happens_216 (by decide) (fun c22 => ?_) (fun c22 => ?_)
        · replace hq := hq.2 c22
          exact lt_X12_happens_232  C hr hlk hn h0  hq hw (lv_sub hl [0, 1, 2] rfl)
        · replace hq := hq.1 c22
          exact lt_X12_happens_219  C hr hlk hn h0  hq hw (lv_sub hl [0, 1, 2] rfl)
set_option maxHeartbeats 4000000 in
set_option maxRecDepth 100000 in
theorem lt_X12_happens_145 {l : Launch} {g : Gh} {p : Program} {e : Env} {s : State} {m : MethodId} {args : Array Value} {below : List Frame} {meth : Method} {c : Code} {H : Heap} {locs : List Loc} {ls : Array Slot} {M0 M : Mem} {a0 : Nat} {p1 : Int32} {p2 : Int32} {post : Mem → Prop} {x3 : Int32} {s0 : Nat} {s1 : Int32} {s2 : Int32}  (C : Cx g p s m args c cX12_happens 5 RX12) (hr : meth.sig.returnType = none) (hlk : meth.locks = false) (hn : meth.name = "happens") (h0 : okc (gB g) M0 a0 12)  (hq : lb_X12_happens_145  g M0 a0 p1 p2 post  x3 s0 s1 s2 M) (hw : Wd g s M0 M H locs) (hl : lv_has ls 5 [(0, .ref a0), (1, .int p1), (2, .int p2), (3, .int x3)]) : W p l e (rmo 2 0 0) s m args below meth c H locs 0 0 (MQ below (Cq g M0 (pV post)) args s 0 0 (gA g)) (F0 m 145 ls [.int s2, .int s1, .ref s0]) := by
  have hx := C.1.1
  have hb := C.1.2.1
  unfold lb_X12_happens_145 at hq
  obtain ⟨h23, hq⟩ := hq
  obtain ⟨h24, hq⟩ := hq
  refine q_iast C hw hw.2.2.1 h23 h24 dX12_happens_145 (fun H locs hw => ?_)
  generalize e26 : uI M s0 (Int32.toNatClampNeg s1) s2 = M25 at hw
  replace hq := hq M25 e26.symm
  refine lv_aload_n hx hb dX12_happens_146 rfl (lv_at hl 0 rfl) ?_
  obtain ⟨q27, e28, hq⟩ := hq
  refine gfX12_99 C hw hw.2.2.1 h0 e28 dX12_happens_147 ?_
  refine lv_iload_n hx hb dX12_happens_150 rfl (lv_at hl 1 rfl) ?_
  obtain ⟨h29, hq⟩ := hq
  obtain ⟨h30, hq⟩ := hq
  refine q_iald C hw hw.2.2.1 h29 h30 dX12_happens_151 ?_
  refine lv_if_ne (tgt := 173) hx hb dX12_happens_152 (by decide) (fun c31 => ?_) (fun c31 => ?_)
  · replace hq := hq.2 c31
    refine lv_aload_n hx hb dX12_happens_173 rfl (lv_at hl 0 rfl) ?_
    refine lv_dup hx hb dX12_happens_174 rfl ?_
    refine gfX12_314 C hw hw.2.2.1 h0 dX12_happens_175 ?_
    refine lv_aload_n hx hb dX12_happens_178 rfl (lv_at hl 0 rfl) ?_
    obtain ⟨q32, e33, hq⟩ := hq
    refine gfX12_102 C hw hw.2.2.1 h0 e33 dX12_happens_179 ?_
    refine lv_iload_n hx hb dX12_happens_182 rfl (lv_at hl 1 rfl) ?_
    obtain ⟨h34, hq⟩ := hq
    obtain ⟨h35, hq⟩ := hq
    refine q_iald C hw hw.2.2.1 h34 h35 dX12_happens_183 ?_
    refine lv_iadd hx hb dX12_happens_184 ?_
    refine pfX12_314 C hw hw.2.2.1 h0 dX12_happens_185 (fun H locs hw => ?_)
    generalize e37 : uI M25 a0 54 ((mI M25 a0 54) + (mI M25 q32 (Int32.toNatClampNeg p1))) = M36 at hw
    replace hq := hq M36 e37.symm
    have e28 : mR M36 a0 58 = some q27 := by rw [← e37, mR_uI]; exact e28
    have e33 : mR M36 a0 59 = some q32 := by rw [← e37, mR_uI]; exact e33
    exact lt_X12_happens_188  C hr hlk hn h0  hq hw (lv_sub hl [0, 1, 2, 3] rfl)
  · replace hq := hq.1 c31
    refine lv_aload_n hx hb dX12_happens_155 rfl (lv_at hl 0 rfl) ?_
    refine lv_dup hx hb dX12_happens_156 rfl ?_
    refine gfX12_311 C hw hw.2.2.1 h0 dX12_happens_157 ?_
    refine lv_aload_n hx hb dX12_happens_160 rfl (lv_at hl 0 rfl) ?_
    obtain ⟨q38, e39, hq⟩ := hq
    refine gfX12_102 C hw hw.2.2.1 h0 e39 dX12_happens_161 ?_
    refine lv_iload_n hx hb dX12_happens_164 rfl (lv_at hl 1 rfl) ?_
    obtain ⟨h40, hq⟩ := hq
    obtain ⟨h41, hq⟩ := hq
    refine q_iald C hw hw.2.2.1 h40 h41 dX12_happens_165 ?_
    refine lv_iadd hx hb dX12_happens_166 ?_
    refine pfX12_311 C hw hw.2.2.1 h0 dX12_happens_167 (fun H locs hw => ?_)
    generalize e43 : uI M25 a0 53 ((mI M25 a0 53) + (mI M25 q38 (Int32.toNatClampNeg p1))) = M42 at hw
    replace hq := hq M42 e43.symm
    have e28 : mR M42 a0 58 = some q27 := by rw [← e43, mR_uI]; exact e28
    have e39 : mR M42 a0 59 = some q38 := by rw [← e43, mR_uI]; exact e39
    refine lv_goto (tgt := 188) hx hb dX12_happens_170 (by decide) ?_
    exact lt_X12_happens_188  C hr hlk hn h0  hq hw (lv_sub hl [0, 1, 2, 3] rfl)
set_option maxHeartbeats 4000000 in
set_option maxRecDepth 100000 in
theorem lt_X12_happens_84 {l : Launch} {g : Gh} {p : Program} {e : Env} {s : State} {m : MethodId} {args : Array Value} {below : List Frame} {meth : Method} {c : Code} {H : Heap} {locs : List Loc} {ls : Array Slot} {M0 M : Mem} {a0 : Nat} {p1 : Int32} {p2 : Int32} {post : Mem → Prop} {x3 : Int32} {s0 : Int32}  (C : Cx g p s m args c cX12_happens 5 RX12) (hr : meth.sig.returnType = none) (hlk : meth.locks = false) (hn : meth.name = "happens") (h0 : okc (gB g) M0 a0 12)  (hq : lb_X12_happens_84  g M0 a0 p1 p2 post  x3 s0 M) (hw : Wd g s M0 M H locs) (hl : lv_has ls 5 [(0, .ref a0), (1, .int p1), (2, .int p2), (3, .int x3)]) : W p l e (rmo 2 0 0) s m args below meth c H locs 0 0 (MQ below (Cq g M0 (pV post)) args s 0 0 (gA g)) (F0 m 84 ls [.int s0]) := by
  have hx := C.1.1
  have hb := C.1.2.1
  unfold lb_X12_happens_84 at hq
  refine lv_istore (lv' := [(4, .int s0), (0, .ref a0), (1, .int p1), (2, .int p2), (3, .int x3)]) hx hb dX12_happens_84 hl (by decide) rfl (fun ls hl => ?_)
  refine lv_aload_n hx hb dX12_happens_86 rfl (lv_at hl 1 rfl) ?_
  obtain ⟨q44, e45, hq⟩ := hq
  refine gfX12_102 C hw hw.2.2.1 h0 e45 dX12_happens_87 ?_
  refine lv_iload_n hx hb dX12_happens_90 rfl (lv_at hl 2 rfl) ?_
  refine lv_iload_n hx hb dX12_happens_91 rfl (lv_at hl 4 rfl) ?_
  refine lv_if_eq (tgt := 129) hx hb dX12_happens_92 (by decide) (fun c46 => ?_) (fun c46 => ?_)
  · replace hq := hq.1 c46
    refine lv_iload hx hb dX12_happens_129 (lv_at hl 0 rfl) ?_
    refine lv_if_eq (tgt := 144) hx hb dX12_happens_131 (by decide) (fun c47 => ?_) (fun c47 => ?_)
    · replace hq := hq.1 c47
      refine lv_iconst (v := 0) hx hb dX12_happens_144 (by decide) ?_
      exact lt_X12_happens_145  C hr hlk hn h0  hq hw (lv_sub hl [1, 2, 3, 4] rfl)
    · replace hq := hq.2 c47
      refine lv_aload_n hx hb dX12_happens_134 rfl (lv_at hl 1 rfl) ?_
      obtain ⟨q48, e49, hq⟩ := hq
      refine gfX12_63 C hw hw.2.2.1 h0 e49 dX12_happens_135 ?_
      refine lv_iload_n hx hb dX12_happens_138 rfl (lv_at hl 3 rfl) ?_
      obtain ⟨h50, hq⟩ := hq
      obtain ⟨h51, hq⟩ := hq
      refine q_iald C hw hw.2.2.1 h50 h51 dX12_happens_139 ?_
      refine lv_ineg hx hb dX12_happens_140 ?_
      refine lv_goto (tgt := 145) hx hb dX12_happens_141 (by decide) ?_
      exact lt_X12_happens_145  C hr hlk hn h0  hq hw (lv_sub hl [1, 2, 3, 4] rfl)
  · replace hq := hq.2 c46
    refine lv_aload_n hx hb dX12_happens_95 rfl (lv_at hl 1 rfl) ?_
    obtain ⟨q52, e53, hq⟩ := hq
    refine gfX12_66 C hw hw.2.2.1 h0 e53 dX12_happens_96 ?_
    refine lv_iload_n hx hb dX12_happens_99 rfl (lv_at hl 3 rfl) ?_
    obtain ⟨h54, hq⟩ := hq
    obtain ⟨h55, hq⟩ := hq
    refine q_zald C hw hw.2.2.1 h54 h55 dX12_happens_100 ?_
    refine lv_if_ne (tgt := 111) hx hb dX12_happens_101 (by decide) (fun c56 => ?_) (fun c56 => ?_)
    · replace hq := hq.2 c56
      refine lv_aload_n hx hb dX12_happens_111 rfl (lv_at hl 1 rfl) ?_
      obtain ⟨q57, e58, hq⟩ := hq
      refine gfX12_57 C hw hw.2.2.1 h0 e58 dX12_happens_112 ?_
      refine lv_iload_n hx hb dX12_happens_115 rfl (lv_at hl 3 rfl) ?_
      obtain ⟨h59, hq⟩ := hq
      obtain ⟨h60, hq⟩ := hq
      refine q_iald C hw hw.2.2.1 h59 h60 dX12_happens_116 ?_
      refine lv_goto (tgt := 145) hx hb dX12_happens_117 (by decide) ?_
      exact lt_X12_happens_145  C hr hlk hn h0  hq hw (lv_sub hl [1, 2, 3, 4] rfl)
    · replace hq := hq.1 c56
      refine lv_aload_n hx hb dX12_happens_104 rfl (lv_at hl 1 rfl) ?_
      refine gfX12_299 C hw hw.2.2.1 h0 dX12_happens_105 ?_
      refine lv_if_ne (tgt := 120) hx hb dX12_happens_108 (by decide) (fun c61 => ?_) (fun c61 => ?_)
      · replace hq := hq.2 c61
        refine lv_aload_n hx hb dX12_happens_120 rfl (lv_at hl 1 rfl) ?_
        obtain ⟨q62, e63, hq⟩ := hq
        refine gfX12_60 C hw hw.2.2.1 h0 e63 dX12_happens_121 ?_
        refine lv_iload_n hx hb dX12_happens_124 rfl (lv_at hl 3 rfl) ?_
        obtain ⟨h64, hq⟩ := hq
        obtain ⟨h65, hq⟩ := hq
        refine q_iald C hw hw.2.2.1 h64 h65 dX12_happens_125 ?_
        refine lv_goto (tgt := 145) hx hb dX12_happens_126 (by decide) ?_
        exact lt_X12_happens_145  C hr hlk hn h0  hq hw (lv_sub hl [1, 2, 3, 4] rfl)
      · replace hq := hq.1 c61
        refine lv_aload_n hx hb dX12_happens_111 rfl (lv_at hl 1 rfl) ?_
        obtain ⟨q66, e67, hq⟩ := hq
        refine gfX12_57 C hw hw.2.2.1 h0 e67 dX12_happens_112 ?_
        refine lv_iload_n hx hb dX12_happens_115 rfl (lv_at hl 3 rfl) ?_
        obtain ⟨h68, hq⟩ := hq
        obtain ⟨h69, hq⟩ := hq
        refine q_iald C hw hw.2.2.1 h68 h69 dX12_happens_116 ?_
        refine lv_goto (tgt := 145) hx hb dX12_happens_117 (by decide) ?_
        exact lt_X12_happens_145  C hr hlk hn h0  hq hw (lv_sub hl [1, 2, 3, 4] rfl)
set_option maxHeartbeats 4000000 in
set_option maxRecDepth 100000 in
theorem lt_X12_happens_44 {l : Launch} {g : Gh} {p : Program} {e : Env} {s : State} {m : MethodId} {args : Array Value} {below : List Frame} {meth : Method} {c : Code} {H : Heap} {locs : List Loc} {ls : Array Slot} {M0 M : Mem} {a0 : Nat} {p1 : Int32} {p2 : Int32} {post : Mem → Prop}  {s0 : Int32}  (C : Cx g p s m args c cX12_happens 5 RX12) (hr : meth.sig.returnType = none) (hlk : meth.locks = false) (hn : meth.name = "happens") (h0 : okc (gB g) M0 a0 12)  (hq : lb_X12_happens_44  g M0 a0 p1 p2 post  s0 M) (hw : Wd g s M0 M H locs) (hl : lv_has ls 5 [(0, .ref a0), (1, .int p1), (2, .int p2)]) : W p l e (rmo 2 0 0) s m args below meth c H locs 0 0 (MQ below (Cq g M0 (pV post)) args s 0 0 (gA g)) (F0 m 44 ls [.int s0]) := by
  have hx := C.1.1
  have hb := C.1.2.1
  unfold lb_X12_happens_44 at hq
  refine lv_istore_n (lv' := [(3, .int s0), (0, .ref a0), (1, .int p1), (2, .int p2)]) hx hb dX12_happens_44 rfl hl (by decide) rfl (fun ls hl => ?_)
  refine lv_aload_n hx hb dX12_happens_45 rfl (lv_at hl 1 rfl) ?_
  obtain ⟨q70, e71, hq⟩ := hq
  refine gfX12_96 C hw hw.2.2.1 h0 e71 dX12_happens_46 ?_
  refine lv_iload_n hx hb dX12_happens_49 rfl (lv_at hl 2 rfl) ?_
  obtain ⟨h72, hq⟩ := hq
  obtain ⟨h73, hq⟩ := hq
  refine q_iald C hw hw.2.2.1 h72 h73 dX12_happens_50 ?_
  refine lv_if_ne (tgt := 83) hx hb dX12_happens_51 (by decide) (fun c74 => ?_) (fun c74 => ?_)
  · replace hq := hq.2 c74
    refine lv_iconst (v := 0) hx hb dX12_happens_83 (by decide) ?_
    exact lt_X12_happens_84  C hr hlk hn h0  hq hw (lv_sub hl [1, 2, 3, 0] rfl)
  · replace hq := hq.1 c74
    refine lv_aload_n hx hb dX12_happens_54 rfl (lv_at hl 1 rfl) ?_
    obtain ⟨q75, e76, hq⟩ := hq
    refine gfX12_105 C hw hw.2.2.1 h0 e76 dX12_happens_55 ?_
    refine lv_iload_n hx hb dX12_happens_58 rfl (lv_at hl 2 rfl) ?_
    obtain ⟨h77, hq⟩ := hq
    obtain ⟨h78, hq⟩ := hq
    refine q_zald C hw hw.2.2.1 h77 h78 dX12_happens_59 ?_
    refine lv_if_ne (tgt := 83) hx hb dX12_happens_60 (by decide) (fun c79 => ?_) (fun c79 => ?_)
    · replace hq := hq.2 c79
      refine lv_iconst (v := 0) hx hb dX12_happens_83 (by decide) ?_
      exact lt_X12_happens_84  C hr hlk hn h0  hq hw (lv_sub hl [1, 2, 3, 0] rfl)
    · replace hq := hq.1 c79
      refine lv_aload_n hx hb dX12_happens_63 rfl (lv_at hl 1 rfl) ?_
      obtain ⟨q80, e81, hq⟩ := hq
      refine gfX12_66 C hw hw.2.2.1 h0 e81 dX12_happens_64 ?_
      refine lv_iload_n hx hb dX12_happens_67 rfl (lv_at hl 3 rfl) ?_
      obtain ⟨h82, hq⟩ := hq
      obtain ⟨h83, hq⟩ := hq
      refine q_zald C hw hw.2.2.1 h82 h83 dX12_happens_68 ?_
      refine lv_if_ne (tgt := 79) hx hb dX12_happens_69 (by decide) (fun c84 => ?_) (fun c84 => ?_)
      · replace hq := hq.2 c84
        refine lv_iconst (v := 1) hx hb dX12_happens_79 (by decide) ?_
        refine lv_goto (tgt := 84) hx hb dX12_happens_80 (by decide) ?_
        exact lt_X12_happens_84  C hr hlk hn h0  hq hw (lv_sub hl [1, 2, 3, 0] rfl)
      · replace hq := hq.1 c84
        refine lv_aload_n hx hb dX12_happens_72 rfl (lv_at hl 1 rfl) ?_
        refine gfX12_299 C hw hw.2.2.1 h0 dX12_happens_73 ?_
        refine lv_if_ne (tgt := 83) hx hb dX12_happens_76 (by decide) (fun c85 => ?_) (fun c85 => ?_)
        · replace hq := hq.2 c85
          refine lv_iconst (v := 0) hx hb dX12_happens_83 (by decide) ?_
          exact lt_X12_happens_84  C hr hlk hn h0  hq hw (lv_sub hl [1, 2, 3, 0] rfl)
        · replace hq := hq.1 c85
          refine lv_iconst (v := 1) hx hb dX12_happens_79 (by decide) ?_
          refine lv_goto (tgt := 84) hx hb dX12_happens_80 (by decide) ?_
          exact lt_X12_happens_84  C hr hlk hn h0  hq hw (lv_sub hl [1, 2, 3, 0] rfl)
set_option maxHeartbeats 4000000 in
set_option maxRecDepth 100000 in
theorem ct_X12_happens {l : Launch} {g : Gh} {M0 : Mem} {a0 : Nat} {p1 : Int32} {p2 : Int32} {post : Mem → Prop}  (hq : wp_X12_happens  g M0 a0 p1 p2 post) : Ct l g yX12_happens cX12_happens 5 none 2 0 0 [.ref a0, .int p1, .int p2] M0 (pV post) := by
  unfold wp_X12_happens at hq
  obtain ⟨h0, hq⟩ := hq
  refine Ct.of (by decide) (Nat.le_of_ble_eq_true rfl) ?_
  intro p e s m below meth c ls C hr hlk hn hl hw
  have hx := C.1.1
  have hb := C.1.2.1
  have hl : lv_has ls 5 [(0, .ref a0), (1, .int p1), (2, .int p2)] := hl
  refine lv_aload_n hx hb dX12_happens_0 rfl (lv_at hl 0 rfl) ?_
  obtain ⟨q86, e87, hq⟩ := hq
  refine gfX12_96 C hw hw.2.2.1 h0 e87 dX12_happens_1 ?_
  refine lv_iload_n hx hb dX12_happens_4 rfl (lv_at hl 1 rfl) ?_
  obtain ⟨h88, hq⟩ := hq
  obtain ⟨h89, hq⟩ := hq
  refine q_iald C hw hw.2.2.1 h88 h89 dX12_happens_5 ?_
  refine lv_iconst (v := 2) hx hb dX12_happens_6 (by decide) ?_
  refine lv_icmp_ne (tgt := 21) hx hb dX12_happens_7 (by decide) (fun c90 => ?_) (fun c90 => ?_)
  · replace hq := hq.2 c90
    refine lv_aload_n hx hb dX12_happens_21 rfl (lv_at hl 0 rfl) ?_
    refine gfX12_96 C hw hw.2.2.1 h0 e87 dX12_happens_22 ?_
    refine lv_iload_n hx hb dX12_happens_25 rfl (lv_at hl 1 rfl) ?_
    refine q_iald C hw hw.2.2.1 h88 h89 dX12_happens_26 ?_
    refine lv_if_ne (tgt := 43) hx hb dX12_happens_27 (by decide) (fun c91 => ?_) (fun c91 => ?_)
    · replace hq := hq.2 c91
      refine lv_iconst (v := 0) hx hb dX12_happens_43 (by decide) ?_
      exact lt_X12_happens_44  C hr hlk hn h0  hq hw (lv_sub hl [0, 1, 2] rfl)
    · replace hq := hq.1 c91
      refine lv_aload_n hx hb dX12_happens_30 rfl (lv_at hl 0 rfl) ?_
      obtain ⟨q92, e93, hq⟩ := hq
      refine gfX12_105 C hw hw.2.2.1 h0 e93 dX12_happens_31 ?_
      refine lv_iload_n hx hb dX12_happens_34 rfl (lv_at hl 1 rfl) ?_
      obtain ⟨h94, hq⟩ := hq
      obtain ⟨h95, hq⟩ := hq
      refine q_zald C hw hw.2.2.1 h94 h95 dX12_happens_35 ?_
      refine lv_if_eq (tgt := 43) hx hb dX12_happens_36 (by decide) (fun c96 => ?_) (fun c96 => ?_)
      · replace hq := hq.1 c96
        refine lv_iconst (v := 0) hx hb dX12_happens_43 (by decide) ?_
        exact lt_X12_happens_44  C hr hlk hn h0  hq hw (lv_sub hl [0, 1, 2] rfl)
      · replace hq := hq.2 c96
        refine lv_iconst (v := 1) hx hb dX12_happens_39 (by decide) ?_
        refine lv_goto (tgt := 44) hx hb dX12_happens_40 (by decide) ?_
        exact lt_X12_happens_44  C hr hlk hn h0  hq hw (lv_sub hl [0, 1, 2] rfl)
  · replace hq := hq.1 c90
    refine lv_aload_n hx hb dX12_happens_10 rfl (lv_at hl 0 rfl) ?_
    refine lv_aload_n hx hb dX12_happens_11 rfl (lv_at hl 0 rfl) ?_
    refine gfX12_296 C hw hw.2.2.1 h0 dX12_happens_12 ?_
    refine lv_iconst (v := 1) hx hb dX12_happens_15 (by decide) ?_
    refine lv_iadd hx hb dX12_happens_16 ?_
    refine r_callV (T := TX12) (N := 67) (ci := 12) (index := 308) (n := 1) (d2 := 1) (mc := 0) (ms := 0) (As := [.int ((mI M0 a0 50) + 1)]) (rest := []) C hw (ct_X12_hands hq) kvX12_308 hq.1 (by decide) rfl ⟨by decide, by decide⟩ ⟨by decide, by decide⟩ rfl hl.1 rfl (Nat.le_of_ble_eq_true rfl) dX12_happens_17 (fun r M98 H locs hp hle hw => ?_)
    obtain ⟨rfl, hq⟩ := hp
    refine W.eq (g2 := F0 m 20 ls []) rfl ?_
    exact r_vret C hr hlk hw dX12_happens_20 (Nat.le_refl _) (Nat.le_refl _) ⟨rfl, hq⟩

set_option maxRecDepth 100000 in
def lb_X12_through_114  (g : Gh) (M0 : Mem) (a0 : Nat) (post : Mem → Prop) (bk22 : Int32 × Mem → Prop) (x1 : Int32) (s0 : Nat) (s1 : Int32) (s2 : Int32) (M : Mem) : Prop :=
  okc (gB g) M0 s0 17 ∧ (vp_in s1 (mN M0 s0) ∧ (∀ M3, M3 = uI M s0 (Int32.toNatClampNeg s1) (vp_nar .boolean s2) → (∃ q5, mR M3 a0 61 = some q5 ∧ (okc (gB g) M0 q5 17 ∧ (vp_in x1 (mN M0 q5) ∧ ((((mI M3 q5 (Int32.toNatClampNeg x1)) = 0) → wp_X12_roundOf g M3 a0 (mI M3 a0 50) (fun v10 M11 => wp_X12_happens g M11 a0 x1 v10 (fun M13 => bk22 ((x1 + 1), M13)))) ∧ (¬ ((mI M3 q5 (Int32.toNatClampNeg x1)) = 0) → ∀ M14, M14 = uI M3 a0 55 ((mI M3 a0 55) + 1) → (bk22 ((x1 + 1), M14)))))))))
set_option maxRecDepth 100000 in
def lb_X12_through_60  (g : Gh) (M0 : Mem) (a0 : Nat) (post : Mem → Prop) (bk22 : Int32 × Mem → Prop) (x1 : Int32)  (M : Mem) : Prop :=
  ∃ q16, mR M a0 61 = some q16 ∧ (∃ q18, mR M a0 56 = some q18 ∧ (okc (gB g) M0 q18 14 ∧ (vp_in x1 (mN M0 q18) ∧ ((((mI M q18 (Int32.toNatClampNeg x1)) < (mI M a0 50)) → lb_X12_through_114  g M0 a0 post bk22 x1 q16 x1 1 M) ∧ (¬ ((mI M q18 (Int32.toNatClampNeg x1)) < (mI M a0 50)) → ∃ q23, mR M a0 57 = some q23 ∧ (okc (gB g) M0 q23 14 ∧ (vp_in x1 (mN M0 q23) ∧ (((2 ≤ (mI M q23 (Int32.toNatClampNeg x1))) → lb_X12_through_114  g M0 a0 post bk22 x1 q16 x1 0 M) ∧ (¬ (2 ≤ (mI M q23 (Int32.toNatClampNeg x1))) → (((mI M a0 51) = 2) → lb_X12_through_114  g M0 a0 post bk22 x1 q16 x1 0 M) ∧ (¬ ((mI M a0 51) = 2) → ∃ q29, mR M a0 58 = some q29 ∧ (okc (gB g) M0 q29 14 ∧ (vp_in x1 (mN M0 q29) ∧ ((((mI M a0 51) = (mI M q29 (Int32.toNatClampNeg x1))) → lb_X12_through_114  g M0 a0 post bk22 x1 q16 x1 0 M) ∧ (¬ ((mI M a0 51) = (mI M q29 (Int32.toNatClampNeg x1))) → lb_X12_through_114  g M0 a0 post bk22 x1 q16 x1 1 M))))))))))))))
set_option maxRecDepth 100000 in
def bd_X12_through_22  (g : Gh) (M0 : Mem) (a0 : Nat) (post : Mem → Prop)  (bk22 : Int32 × Mem → Prop) (x1 : Int32)  (M : Mem) : Prop :=
  (((mI M a0 49) ≤ x1) → post M) ∧ (¬ ((mI M a0 49) ≤ x1) → ∃ q35, mR M a0 59 = some q35 ∧ (okc (gB g) M0 q35 14 ∧ (vp_in x1 (mN M0 q35) ∧ (∀ M39, M39 = uI M q35 (Int32.toNatClampNeg x1) 0 → (∃ q41, mR M39 a0 56 = some q41 ∧ (okc (gB g) M0 q41 14 ∧ (vp_in x1 (mN M0 q41) ∧ ((((mI M39 q41 (Int32.toNatClampNeg x1)) ≤ (mI M39 a0 50)) → lb_X12_through_60  g M0 a0 post bk22 x1 M39) ∧ (¬ ((mI M39 q41 (Int32.toNatClampNeg x1)) ≤ (mI M39 a0 50)) → wp_X12_hands g M39 a0 (mI M39 q41 (Int32.toNatClampNeg x1)) (fun M47 => lb_X12_through_60  g M0 a0 post bk22 x1 M47))))))))))
set_option maxRecDepth 100000 in
def wp_X12_through  (g : Gh) (M0 : Mem) (a0 : Nat) (post : Mem → Prop) : Prop :=
  okc (gB g) M0 a0 12 ∧ (wp_X12_hands g M0 a0 0 (fun M49 => ∀ M50, M50 = uI M49 a0 53 0 → (∀ M52, M52 = uI M50 a0 54 0 → (∀ M54, M54 = uI M52 a0 55 0 → ((∃ n : Nat, lfp (fun bk z => bd_X12_through_22  g M0 a0 post  bk z.1 z.2) n (0, M54)))))))
set_option maxHeartbeats 4000000 in
set_option maxRecDepth 100000 in
theorem lt_X12_through_114 {l : Launch} {g : Gh} {p : Program} {e : Env} {s : State} {m : MethodId} {args : Array Value} {below : List Frame} {meth : Method} {c : Code} {H : Heap} {locs : List Loc} {ls : Array Slot} {M0 M : Mem} {a0 : Nat} {post : Mem → Prop} {x1 : Int32} {s0 : Nat} {s1 : Int32} {s2 : Int32}  (C : Cx g p s m args c cX12_through 2 RX12) (hr : meth.sig.returnType = none) (hlk : meth.locks = false) (hn : meth.name = "through") (h0 : okc (gB g) M0 a0 12) {bk22 : Int32 × Mem → Prop} (hk22 : ∀ (x1 : Int32) (M : Mem) (H : Heap) (locs : List Loc) (ls : Array Slot), bk22 (x1, M) → Wd g s M0 M H locs → lv_has ls 2 [(0, .ref a0), (1, .int x1)] → W p l e (rmo 3 0 0) s m args below meth c H locs 0 0 (MQ below (Cq g M0 (pV post)) args s 0 0 (gA g)) (F0 m 22 ls [])) (hq : lb_X12_through_114  g M0 a0 post bk22 x1 s0 s1 s2 M) (hw : Wd g s M0 M H locs) (hl : lv_has ls 2 [(0, .ref a0), (1, .int x1)]) : W p l e (rmo 3 0 0) s m args below meth c H locs 0 0 (MQ below (Cq g M0 (pV post)) args s 0 0 (gA g)) (F0 m 114 ls [.int s2, .int s1, .ref s0]) := by
  have hx := C.1.1
  have hb := C.1.2.1
  unfold lb_X12_through_114 at hq
  obtain ⟨h1, hq⟩ := hq
  obtain ⟨h2, hq⟩ := hq
  refine q_zast C hw hw.2.2.1 h1 h2 dX12_through_114 (fun H locs hw => ?_)
  generalize e4 : uI M s0 (Int32.toNatClampNeg s1) (vp_nar .boolean s2) = M3 at hw
  replace hq := hq M3 e4.symm
  refine lv_aload_n hx hb dX12_through_115 rfl (lv_at hl 0 rfl) ?_
  obtain ⟨q5, e6, hq⟩ := hq
  refine gfX12_108 C hw hw.2.2.1 h0 e6 dX12_through_116 ?_
  refine lv_iload_n hx hb dX12_through_119 rfl (lv_at hl 1 rfl) ?_
  obtain ⟨h7, hq⟩ := hq
  obtain ⟨h8, hq⟩ := hq
  refine q_zald C hw hw.2.2.1 h7 h8 dX12_through_120 ?_
  refine lv_if_eq (tgt := 137) hx hb dX12_through_121 (by decide) (fun c9 => ?_) (fun c9 => ?_)
  · replace hq := hq.1 c9
    refine lv_aload_n hx hb dX12_through_137 rfl (lv_at hl 0 rfl) ?_
    refine lv_iload_n hx hb dX12_through_138 rfl (lv_at hl 1 rfl) ?_
    refine lv_aload_n hx hb dX12_through_139 rfl (lv_at hl 0 rfl) ?_
    refine lv_aload_n hx hb dX12_through_140 rfl (lv_at hl 0 rfl) ?_
    refine gfX12_296 C hw hw.2.2.1 h0 dX12_through_141 ?_
    refine r_callV (T := TX12) (N := 67) (ci := 12) (index := 302) (n := 1) (d2 := 0) (mc := 0) (ms := 0) (As := [.int (mI M3 a0 50)]) (rest := [.int x1, .ref a0]) C hw (ct_X12_roundOf hq) kvX12_302 hq.1 (by decide) rfl ⟨by decide, by decide⟩ ⟨by decide, by decide⟩ rfl hl.1 rfl (Nat.le_of_ble_eq_true rfl) dX12_through_144 (fun r M11 H locs hp hle hw => ?_)
    obtain ⟨v10, rfl, hq⟩ := hp
    refine W.eq (g2 := F0 m 147 ls [.int v10, .int x1, .ref a0]) rfl ?_
    refine r_callV (T := TX12) (N := 67) (ci := 12) (index := 320) (n := 2) (d2 := 2) (mc := 0) (ms := 0) (As := [.int x1, .int v10]) (rest := []) C hw (ct_X12_happens hq) kvX12_320 hq.1 (by decide) rfl ⟨by decide, by decide⟩ ⟨by decide, by decide⟩ rfl hl.1 rfl (Nat.le_of_ble_eq_true rfl) dX12_through_147 (fun r M13 H locs hp hle hw => ?_)
    obtain ⟨rfl, hq⟩ := hp
    refine W.eq (g2 := F0 m 150 ls []) rfl ?_
    refine lv_iinc (v := (x1 + 1)) (lv' := [(1, .int (x1 + 1)), (0, .ref a0)]) hx hb dX12_through_150 hl (k := 1) rfl rfl (by decide) rfl (fun ls hl => ?_)
    refine lv_goto (tgt := 22) hx hb dX12_through_153 (by decide) ?_
    exact hk22 _ _ _ _ _ hq hw (lv_sub hl [1, 0] rfl)
  · replace hq := hq.2 c9
    refine lv_aload_n hx hb dX12_through_124 rfl (lv_at hl 0 rfl) ?_
    refine lv_dup hx hb dX12_through_125 rfl ?_
    refine gfX12_317 C hw hw.2.2.1 h0 dX12_through_126 ?_
    refine lv_iconst (v := 1) hx hb dX12_through_129 (by decide) ?_
    refine lv_iadd hx hb dX12_through_130 ?_
    refine pfX12_317 C hw hw.2.2.1 h0 dX12_through_131 (fun H locs hw => ?_)
    generalize e15 : uI M3 a0 55 ((mI M3 a0 55) + 1) = M14 at hw
    replace hq := hq M14 e15.symm
    have e6 : mR M14 a0 61 = some q5 := by rw [← e15, mR_uI]; exact e6
    refine lv_goto (tgt := 150) hx hb dX12_through_134 (by decide) ?_
    refine lv_iinc (v := (x1 + 1)) (lv' := [(1, .int (x1 + 1)), (0, .ref a0)]) hx hb dX12_through_150 hl (k := 1) rfl rfl (by decide) rfl (fun ls hl => ?_)
    refine lv_goto (tgt := 22) hx hb dX12_through_153 (by decide) ?_
    exact hk22 _ _ _ _ _ hq hw (lv_sub hl [1, 0] rfl)
set_option maxHeartbeats 4000000 in
set_option maxRecDepth 100000 in
theorem lt_X12_through_60 {l : Launch} {g : Gh} {p : Program} {e : Env} {s : State} {m : MethodId} {args : Array Value} {below : List Frame} {meth : Method} {c : Code} {H : Heap} {locs : List Loc} {ls : Array Slot} {M0 M : Mem} {a0 : Nat} {post : Mem → Prop} {x1 : Int32}   (C : Cx g p s m args c cX12_through 2 RX12) (hr : meth.sig.returnType = none) (hlk : meth.locks = false) (hn : meth.name = "through") (h0 : okc (gB g) M0 a0 12) {bk22 : Int32 × Mem → Prop} (hk22 : ∀ (x1 : Int32) (M : Mem) (H : Heap) (locs : List Loc) (ls : Array Slot), bk22 (x1, M) → Wd g s M0 M H locs → lv_has ls 2 [(0, .ref a0), (1, .int x1)] → W p l e (rmo 3 0 0) s m args below meth c H locs 0 0 (MQ below (Cq g M0 (pV post)) args s 0 0 (gA g)) (F0 m 22 ls [])) (hq : lb_X12_through_60  g M0 a0 post bk22 x1 M) (hw : Wd g s M0 M H locs) (hl : lv_has ls 2 [(0, .ref a0), (1, .int x1)]) : W p l e (rmo 3 0 0) s m args below meth c H locs 0 0 (MQ below (Cq g M0 (pV post)) args s 0 0 (gA g)) (F0 m 60 ls []) := by
  have hx := C.1.1
  have hb := C.1.2.1
  unfold lb_X12_through_60 at hq
  refine lv_aload_n hx hb dX12_through_60 rfl (lv_at hl 0 rfl) ?_
  obtain ⟨q16, e17, hq⟩ := hq
  refine gfX12_108 C hw hw.2.2.1 h0 e17 dX12_through_61 ?_
  refine lv_iload_n hx hb dX12_through_64 rfl (lv_at hl 1 rfl) ?_
  refine lv_aload_n hx hb dX12_through_65 rfl (lv_at hl 0 rfl) ?_
  obtain ⟨q18, e19, hq⟩ := hq
  refine gfX12_93 C hw hw.2.2.1 h0 e19 dX12_through_66 ?_
  refine lv_iload_n hx hb dX12_through_69 rfl (lv_at hl 1 rfl) ?_
  obtain ⟨h20, hq⟩ := hq
  obtain ⟨h21, hq⟩ := hq
  refine q_iald C hw hw.2.2.1 h20 h21 dX12_through_70 ?_
  refine lv_aload_n hx hb dX12_through_71 rfl (lv_at hl 0 rfl) ?_
  refine gfX12_296 C hw hw.2.2.1 h0 dX12_through_72 ?_
  refine lv_icmp_lt (tgt := 109) hx hb dX12_through_75 (by decide) (fun c22 => ?_) (fun c22 => ?_)
  · replace hq := hq.1 c22
    refine lv_iconst (v := 1) hx hb dX12_through_109 (by decide) ?_
    refine lv_goto (tgt := 114) hx hb dX12_through_110 (by decide) ?_
    exact lt_X12_through_114  C hr hlk hn h0 hk22 hq hw (lv_sub hl [0, 1] rfl)
  · replace hq := hq.2 c22
    refine lv_aload_n hx hb dX12_through_78 rfl (lv_at hl 0 rfl) ?_
    obtain ⟨q23, e24, hq⟩ := hq
    refine gfX12_96 C hw hw.2.2.1 h0 e24 dX12_through_79 ?_
    refine lv_iload_n hx hb dX12_through_82 rfl (lv_at hl 1 rfl) ?_
    obtain ⟨h25, hq⟩ := hq
    obtain ⟨h26, hq⟩ := hq
    refine q_iald C hw hw.2.2.1 h25 h26 dX12_through_83 ?_
    refine lv_iconst (v := 2) hx hb dX12_through_84 (by decide) ?_
    refine lv_icmp_ge (tgt := 113) hx hb dX12_through_85 (by decide) (fun c27 => ?_) (fun c27 => ?_)
    · replace hq := hq.1 c27
      refine lv_iconst (v := 0) hx hb dX12_through_113 (by decide) ?_
      exact lt_X12_through_114  C hr hlk hn h0 hk22 hq hw (lv_sub hl [0, 1] rfl)
    · replace hq := hq.2 c27
      refine lv_aload_n hx hb dX12_through_88 rfl (lv_at hl 0 rfl) ?_
      refine gfX12_305 C hw hw.2.2.1 h0 dX12_through_89 ?_
      refine lv_iconst (v := 2) hx hb dX12_through_92 (by decide) ?_
      refine lv_icmp_eq (tgt := 113) hx hb dX12_through_93 (by decide) (fun c28 => ?_) (fun c28 => ?_)
      · replace hq := hq.1 c28
        refine lv_iconst (v := 0) hx hb dX12_through_113 (by decide) ?_
        exact lt_X12_through_114  C hr hlk hn h0 hk22 hq hw (lv_sub hl [0, 1] rfl)
      · replace hq := hq.2 c28
        refine lv_aload_n hx hb dX12_through_96 rfl (lv_at hl 0 rfl) ?_
        refine gfX12_305 C hw hw.2.2.1 h0 dX12_through_97 ?_
        refine lv_aload_n hx hb dX12_through_100 rfl (lv_at hl 0 rfl) ?_
        obtain ⟨q29, e30, hq⟩ := hq
        refine gfX12_99 C hw hw.2.2.1 h0 e30 dX12_through_101 ?_
        refine lv_iload_n hx hb dX12_through_104 rfl (lv_at hl 1 rfl) ?_
        obtain ⟨h31, hq⟩ := hq
        obtain ⟨h32, hq⟩ := hq
        refine q_iald C hw hw.2.2.1 h31 h32 dX12_through_105 ?_
        refine lv_icmp_eq (tgt := 113) hx hb dX12_through_106 (by decide) (fun c33 => ?_) (fun c33 => ?_)
        · replace hq := hq.1 c33
          refine lv_iconst (v := 0) hx hb dX12_through_113 (by decide) ?_
          exact lt_X12_through_114  C hr hlk hn h0 hk22 hq hw (lv_sub hl [0, 1] rfl)
        · replace hq := hq.2 c33
          refine lv_iconst (v := 1) hx hb dX12_through_109 (by decide) ?_
          refine lv_goto (tgt := 114) hx hb dX12_through_110 (by decide) ?_
          exact lt_X12_through_114  C hr hlk hn h0 hk22 hq hw (lv_sub hl [0, 1] rfl)
set_option maxHeartbeats 4000000 in
set_option maxRecDepth 100000 in
theorem lp_X12_through_22 {l : Launch} {g : Gh} {p : Program} {e : Env} {s : State} {m : MethodId} {args : Array Value} {below : List Frame} {meth : Method} {c : Code} {M0 : Mem} {a0 : Nat} {post : Mem → Prop}  (C : Cx g p s m args c cX12_through 2 RX12) (hr : meth.sig.returnType = none) (hlk : meth.locks = false) (hn : meth.name = "through") (h0 : okc (gB g) M0 a0 12)  : ∀ (nf : Nat) (x1 : Int32)  (M : Mem) (H : Heap) (locs : List Loc) (ls : Array Slot), lfp (fun bk z => bd_X12_through_22  g M0 a0 post  bk z.1 z.2) nf (x1, M) → Wd g s M0 M H locs → lv_has ls 2 [(0, .ref a0), (1, .int x1)] → W p l e (rmo 3 0 0) s m args below meth c H locs 0 0 (MQ below (Cq g M0 (pV post)) args s 0 0 (gA g)) (F0 m 22 ls []) := by
  have hx := C.1.1
  have hb := C.1.2.1
  intro nf
  induction nf with
  | zero => intro _ _ H locs ls hq; exact hq.elim
  | succ nf hk22 =>
    intro x1 M H locs ls hq hw hl
    replace hq : bd_X12_through_22  g M0 a0 post  (lfp (fun bk z => bd_X12_through_22  g M0 a0 post  bk z.1 z.2) nf) x1 M := hq
    unfold bd_X12_through_22 at hq
    refine lv_iload_n hx hb dX12_through_22 rfl (lv_at hl 1 rfl) ?_
    refine lv_aload_n hx hb dX12_through_23 rfl (lv_at hl 0 rfl) ?_
    refine gfX12_290 C hw hw.2.2.1 h0 dX12_through_24 ?_
    refine lv_icmp_ge (tgt := 156) hx hb dX12_through_27 (by decide) (fun c34 => ?_) (fun c34 => ?_)
    · replace hq := hq.1 c34
      exact r_vret C hr hlk hw dX12_through_156 (Nat.le_refl _) (Nat.le_refl _) ⟨rfl, hq⟩
    · replace hq := hq.2 c34
      refine lv_aload_n hx hb dX12_through_30 rfl (lv_at hl 0 rfl) ?_
      obtain ⟨q35, e36, hq⟩ := hq
      refine gfX12_102 C hw hw.2.2.1 h0 e36 dX12_through_31 ?_
      refine lv_iload_n hx hb dX12_through_34 rfl (lv_at hl 1 rfl) ?_
      refine lv_iconst (v := 0) hx hb dX12_through_35 (by decide) ?_
      obtain ⟨h37, hq⟩ := hq
      obtain ⟨h38, hq⟩ := hq
      refine q_iast C hw hw.2.2.1 h37 h38 dX12_through_36 (fun H locs hw => ?_)
      generalize e40 : uI M q35 (Int32.toNatClampNeg x1) 0 = M39 at hw
      replace hq := hq M39 e40.symm
      have e36 : mR M39 a0 59 = some q35 := by rw [← e40, mR_uI]; exact e36
      refine lv_aload_n hx hb dX12_through_37 rfl (lv_at hl 0 rfl) ?_
      obtain ⟨q41, e42, hq⟩ := hq
      refine gfX12_93 C hw hw.2.2.1 h0 e42 dX12_through_38 ?_
      refine lv_iload_n hx hb dX12_through_41 rfl (lv_at hl 1 rfl) ?_
      obtain ⟨h43, hq⟩ := hq
      obtain ⟨h44, hq⟩ := hq
      refine q_iald C hw hw.2.2.1 h43 h44 dX12_through_42 ?_
      refine lv_aload_n hx hb dX12_through_43 rfl (lv_at hl 0 rfl) ?_
      refine gfX12_296 C hw hw.2.2.1 h0 dX12_through_44 ?_
      refine lv_icmp_le (tgt := 60) hx hb dX12_through_47 (by decide) (fun c45 => ?_) (fun c45 => ?_)
      · replace hq := hq.1 c45
        exact lt_X12_through_60  C hr hlk hn h0 hk22 hq hw (lv_sub hl [0, 1] rfl)
      · replace hq := hq.2 c45
        refine lv_aload_n hx hb dX12_through_50 rfl (lv_at hl 0 rfl) ?_
        refine lv_aload_n hx hb dX12_through_51 rfl (lv_at hl 0 rfl) ?_
        refine gfX12_93 C hw hw.2.2.1 h0 e42 dX12_through_52 ?_
        refine lv_iload_n hx hb dX12_through_55 rfl (lv_at hl 1 rfl) ?_
        refine q_iald C hw hw.2.2.1 h43 h44 dX12_through_56 ?_
        refine r_callV (T := TX12) (N := 67) (ci := 12) (index := 308) (n := 1) (d2 := 1) (mc := 0) (ms := 0) (As := [.int (mI M39 q41 (Int32.toNatClampNeg x1))]) (rest := []) C hw (ct_X12_hands hq) kvX12_308 hq.1 (by decide) rfl ⟨by decide, by decide⟩ ⟨by decide, by decide⟩ rfl hl.1 rfl (Nat.le_of_ble_eq_true rfl) dX12_through_57 (fun r M47 H locs hp hle hw => ?_)
        obtain ⟨rfl, hq⟩ := hp
        refine W.eq (g2 := F0 m 60 ls []) rfl ?_
        exact lt_X12_through_60  C hr hlk hn h0 hk22 hq hw (lv_sub hl [0, 1] rfl)
set_option maxHeartbeats 4000000 in
set_option maxRecDepth 100000 in
theorem ct_X12_through {l : Launch} {g : Gh} {M0 : Mem} {a0 : Nat} {post : Mem → Prop}  (hq : wp_X12_through  g M0 a0 post) : Ct l g yX12_through cX12_through 2 none 3 0 0 [.ref a0] M0 (pV post) := by
  unfold wp_X12_through at hq
  obtain ⟨h0, hq⟩ := hq
  refine Ct.of (by decide) (Nat.le_of_ble_eq_true rfl) ?_
  intro p e s m below meth c ls C hr hlk hn hl hw
  have hx := C.1.1
  have hb := C.1.2.1
  have hl : lv_has ls 2 [(0, .ref a0)] := hl
  refine lv_aload_n hx hb dX12_through_0 rfl (lv_at hl 0 rfl) ?_
  refine lv_iconst (v := 0) hx hb dX12_through_1 (by decide) ?_
  refine r_callV (T := TX12) (N := 67) (ci := 12) (index := 308) (n := 1) (d2 := 1) (mc := 0) (ms := 0) (As := [.int 0]) (rest := []) C hw (ct_X12_hands hq) kvX12_308 hq.1 (by decide) rfl ⟨by decide, by decide⟩ ⟨by decide, by decide⟩ rfl hl.1 rfl (Nat.le_of_ble_eq_true rfl) dX12_through_2 (fun r M49 H locs hp hle hw => ?_)
  obtain ⟨rfl, hq⟩ := hp
  refine W.eq (g2 := F0 m 5 ls []) rfl ?_
  refine lv_aload_n hx hb dX12_through_5 rfl (lv_at hl 0 rfl) ?_
  refine lv_iconst (v := 0) hx hb dX12_through_6 (by decide) ?_
  refine pfX12_311 C hw hw.2.2.1 h0 dX12_through_7 (fun H locs hw => ?_)
  generalize e51 : uI M49 a0 53 0 = M50 at hw
  replace hq := hq M50 e51.symm
  refine lv_aload_n hx hb dX12_through_10 rfl (lv_at hl 0 rfl) ?_
  refine lv_iconst (v := 0) hx hb dX12_through_11 (by decide) ?_
  refine pfX12_314 C hw hw.2.2.1 h0 dX12_through_12 (fun H locs hw => ?_)
  generalize e53 : uI M50 a0 54 0 = M52 at hw
  replace hq := hq M52 e53.symm
  refine lv_aload_n hx hb dX12_through_15 rfl (lv_at hl 0 rfl) ?_
  refine lv_iconst (v := 0) hx hb dX12_through_16 (by decide) ?_
  refine pfX12_317 C hw hw.2.2.1 h0 dX12_through_17 (fun H locs hw => ?_)
  generalize e55 : uI M52 a0 55 0 = M54 at hw
  replace hq := hq M54 e55.symm
  refine lv_iconst (v := 0) hx hb dX12_through_20 (by decide) ?_
  refine lv_istore_n (lv' := [(1, .int 0), (0, .ref a0)]) hx hb dX12_through_21 rfl hl (by decide) rfl (fun ls hl => ?_)
  obtain ⟨nf, hq⟩ := hq
  exact lp_X12_through_22  C hr hlk hn h0  nf _ _ _ _ _ hq hw (lv_sub hl [1, 0] rfl)

set_option maxRecDepth 100000 in
def lb_X12_begin_108  (g : Gh) (M0 : Mem) (a0 : Nat) (post : Int32 → Mem → Prop)    (M : Mem) : Prop :=
  ∀ M1, M1 = uI M a0 48 1 → (∀ M3, M3 = uI M1 a0 49 0 → (wp_X12_through g M3 a0 (fun M6 => post 1 M6)))
set_option maxRecDepth 100000 in
def bd_X12_begin_34  (g : Gh) (M0 : Mem) (a0 : Nat) (post : Int32 → Mem → Prop)  (bk34 : Int32 × Mem → Prop) (x1 : Int32)  (M : Mem) : Prop :=
  (((mI M a0 44) ≤ x1) → lb_X12_begin_108  g M0 a0 post   M) ∧ (¬ ((mI M a0 44) ≤ x1) → ∃ q8, mR M a0 23 = some q8 ∧ (∃ q10, mR M a0 41 = some q10 ∧ (okc (gB g) M0 q10 14 ∧ (vp_in x1 (mN M0 q10) ∧ (okc (gB g) M0 q8 17 ∧ (vp_in (mI M q10 (Int32.toNatClampNeg x1)) (mN M0 q8) ∧ ((((mI M q8 (Int32.toNatClampNeg (mI M q10 (Int32.toNatClampNeg x1)))) = 0) → ∃ q17, mR M a0 22 = some q17 ∧ (okc (gB g) M0 q17 14 ∧ (vp_in (mI M q10 (Int32.toNatClampNeg x1)) (mN M0 q17) ∧ ((((((mI M q17 (Int32.toNatClampNeg (mI M q10 (Int32.toNatClampNeg x1)))) >>> ((mI M a0 46) &&& 31)) &&& 1) = 1) → post 0 M) ∧ (¬ ((((mI M q17 (Int32.toNatClampNeg (mI M q10 (Int32.toNatClampNeg x1)))) >>> ((mI M a0 46) &&& 31)) &&& 1) = 1) → (((((mI M q17 (Int32.toNatClampNeg (mI M q10 (Int32.toNatClampNeg x1)))) >>> ((mI M a0 47) &&& 31)) &&& 1) = 1) → post 0 M) ∧ (¬ ((((mI M q17 (Int32.toNatClampNeg (mI M q10 (Int32.toNatClampNeg x1)))) >>> ((mI M a0 47) &&& 31)) &&& 1) = 1) → bk34 ((x1 + 1), M))))))) ∧ (¬ ((mI M q8 (Int32.toNatClampNeg (mI M q10 (Int32.toNatClampNeg x1)))) = 0) → post 0 M))))))))
set_option maxRecDepth 100000 in
def wp_X12_begin  (g : Gh) (M0 : Mem) (a0 : Nat) (post : Int32 → Mem → Prop) : Prop :=
  okc (gB g) M0 a0 12 ∧ (∀ M23, M23 = uI M0 a0 0 0 → ((((mI M23 a0 44) = 0) → post 0 M23) ∧ (¬ ((mI M23 a0 44) = 0) → (((mI M23 a0 48) = 0) → (((mI M23 a0 40) = (mI M23 a0 44)) → (∃ n : Nat, lfp (fun bk z => bd_X12_begin_34  g M0 a0 post  bk z.1 z.2) n (0, M23))) ∧ (¬ ((mI M23 a0 40) = (mI M23 a0 44)) → post 0 M23)) ∧ (¬ ((mI M23 a0 48) = 0) → post 0 M23))))
set_option maxHeartbeats 4000000 in
set_option maxRecDepth 100000 in
theorem lt_X12_begin_108 {l : Launch} {g : Gh} {p : Program} {e : Env} {s : State} {m : MethodId} {args : Array Value} {below : List Frame} {meth : Method} {c : Code} {H : Heap} {locs : List Loc} {ls : Array Slot} {M0 M : Mem} {a0 : Nat} {post : Int32 → Mem → Prop}    (C : Cx g p s m args c cX12_begin 2 RX12) (hr : meth.sig.returnType = (some .boolean)) (hlk : meth.locks = false) (hn : meth.name = "begin") (h0 : okc (gB g) M0 a0 12)  (hq : lb_X12_begin_108  g M0 a0 post   M) (hw : Wd g s M0 M H locs) (hl : lv_has ls 2 [(0, .ref a0)]) : W p l e (rmo 4 0 0) s m args below meth c H locs 0 0 (MQ below (Cq g M0 (pI post)) args s 0 0 (gA g)) (F0 m 108 ls []) := by
  have hx := C.1.1
  have hb := C.1.2.1
  unfold lb_X12_begin_108 at hq
  refine lv_aload_n hx hb dX12_begin_108 rfl (lv_at hl 0 rfl) ?_
  refine lv_iconst (v := 1) hx hb dX12_begin_109 (by decide) ?_
  refine pfX12_247 C hw hw.2.2.1 h0 (by decide) dX12_begin_110 (fun H locs hw => ?_)
  generalize e2 : uI M a0 48 1 = M1 at hw
  replace hq := hq M1 e2.symm
  refine lv_aload_n hx hb dX12_begin_113 rfl (lv_at hl 0 rfl) ?_
  refine lv_iconst (v := 0) hx hb dX12_begin_114 (by decide) ?_
  refine pfX12_290 C hw hw.2.2.1 h0 dX12_begin_115 (fun H locs hw => ?_)
  generalize e4 : uI M1 a0 49 0 = M3 at hw
  replace hq := hq M3 e4.symm
  refine lv_aload_n hx hb dX12_begin_118 rfl (lv_at hl 0 rfl) ?_
  refine r_callV (T := TX12) (N := 67) (ci := 12) (index := 293) (n := 0) (d2 := 3) (mc := 0) (ms := 0) (As := []) (rest := []) C hw (ct_X12_through hq) kvX12_293 hq.1 (by decide) rfl ⟨by decide, by decide⟩ ⟨by decide, by decide⟩ rfl hl.1 rfl (Nat.le_of_ble_eq_true rfl) dX12_begin_119 (fun r M6 H locs hp hle hw => ?_)
  obtain ⟨rfl, hq⟩ := hp
  refine W.eq (g2 := F0 m 122 ls []) rfl ?_
  refine lv_iconst (v := 1) hx hb dX12_begin_122 (by decide) ?_
  exact r_zret C hr hlk hw dX12_begin_123 (Nat.le_refl _) (Nat.le_refl _) (by decide) ⟨_, rfl, hq⟩
set_option maxHeartbeats 4000000 in
set_option maxRecDepth 100000 in
theorem lp_X12_begin_34 {l : Launch} {g : Gh} {p : Program} {e : Env} {s : State} {m : MethodId} {args : Array Value} {below : List Frame} {meth : Method} {c : Code} {M0 : Mem} {a0 : Nat} {post : Int32 → Mem → Prop}  (C : Cx g p s m args c cX12_begin 2 RX12) (hr : meth.sig.returnType = (some .boolean)) (hlk : meth.locks = false) (hn : meth.name = "begin") (h0 : okc (gB g) M0 a0 12)  : ∀ (nf : Nat) (x1 : Int32)  (M : Mem) (H : Heap) (locs : List Loc) (ls : Array Slot), lfp (fun bk z => bd_X12_begin_34  g M0 a0 post  bk z.1 z.2) nf (x1, M) → Wd g s M0 M H locs → lv_has ls 2 [(0, .ref a0), (1, .int x1)] → W p l e (rmo 4 0 0) s m args below meth c H locs 0 0 (MQ below (Cq g M0 (pI post)) args s 0 0 (gA g)) (F0 m 34 ls []) := by
  have hx := C.1.1
  have hb := C.1.2.1
  intro nf
  induction nf with
  | zero => intro _ _ H locs ls hq; exact hq.elim
  | succ nf hk34 =>
    intro x1 M H locs ls hq hw hl
    replace hq : bd_X12_begin_34  g M0 a0 post  (lfp (fun bk z => bd_X12_begin_34  g M0 a0 post  bk z.1 z.2) nf) x1 M := hq
    unfold bd_X12_begin_34 at hq
    refine lv_iload_n hx hb dX12_begin_34 rfl (lv_at hl 1 rfl) ?_
    refine lv_aload_n hx hb dX12_begin_35 rfl (lv_at hl 0 rfl) ?_
    refine gfX12_274 C hw hw.2.2.1 h0 dX12_begin_36 ?_
    refine lv_icmp_ge (tgt := 108) hx hb dX12_begin_39 (by decide) (fun c7 => ?_) (fun c7 => ?_)
    · replace hq := hq.1 c7
      exact lt_X12_begin_108  C hr hlk hn h0  hq hw (lv_sub hl [0] rfl)
    · replace hq := hq.2 c7
      refine lv_aload_n hx hb dX12_begin_42 rfl (lv_at hl 0 rfl) ?_
      obtain ⟨q8, e9, hq⟩ := hq
      refine gfX12_41 C hw hw.2.2.1 h0 e9 dX12_begin_43 ?_
      refine lv_aload_n hx hb dX12_begin_46 rfl (lv_at hl 0 rfl) ?_
      obtain ⟨q10, e11, hq⟩ := hq
      refine gfX12_84 C hw hw.2.2.1 h0 e11 dX12_begin_47 ?_
      refine lv_iload_n hx hb dX12_begin_50 rfl (lv_at hl 1 rfl) ?_
      obtain ⟨h12, hq⟩ := hq
      obtain ⟨h13, hq⟩ := hq
      refine q_iald C hw hw.2.2.1 h12 h13 dX12_begin_51 ?_
      obtain ⟨h14, hq⟩ := hq
      obtain ⟨h15, hq⟩ := hq
      refine q_zald C hw hw.2.2.1 h14 h15 dX12_begin_52 ?_
      refine lv_if_ne (tgt := 100) hx hb dX12_begin_53 (by decide) (fun c16 => ?_) (fun c16 => ?_)
      · replace hq := hq.2 c16
        refine lv_iconst (v := 0) hx hb dX12_begin_100 (by decide) ?_
        exact r_zret C hr hlk hw dX12_begin_101 (Nat.le_refl _) (Nat.le_refl _) (by decide) ⟨_, rfl, hq⟩
      · replace hq := hq.1 c16
        refine lv_aload_n hx hb dX12_begin_56 rfl (lv_at hl 0 rfl) ?_
        obtain ⟨q17, e18, hq⟩ := hq
        refine gfX12_38 C hw hw.2.2.1 h0 e18 dX12_begin_57 ?_
        refine lv_aload_n hx hb dX12_begin_60 rfl (lv_at hl 0 rfl) ?_
        refine gfX12_84 C hw hw.2.2.1 h0 e11 dX12_begin_61 ?_
        refine lv_iload_n hx hb dX12_begin_64 rfl (lv_at hl 1 rfl) ?_
        refine q_iald C hw hw.2.2.1 h12 h13 dX12_begin_65 ?_
        obtain ⟨h19, hq⟩ := hq
        obtain ⟨h20, hq⟩ := hq
        refine q_iald C hw hw.2.2.1 h19 h20 dX12_begin_66 ?_
        refine lv_aload_n hx hb dX12_begin_67 rfl (lv_at hl 0 rfl) ?_
        refine gfX12_284 C hw hw.2.2.1 h0 dX12_begin_68 ?_
        refine lv_ishr hx hb dX12_begin_71 ?_
        refine lv_iconst (v := 1) hx hb dX12_begin_72 (by decide) ?_
        refine lv_iand hx hb dX12_begin_73 ?_
        refine lv_iconst (v := 1) hx hb dX12_begin_74 (by decide) ?_
        refine lv_icmp_eq (tgt := 100) hx hb dX12_begin_75 (by decide) (fun c21 => ?_) (fun c21 => ?_)
        · replace hq := hq.1 c21
          refine lv_iconst (v := 0) hx hb dX12_begin_100 (by decide) ?_
          exact r_zret C hr hlk hw dX12_begin_101 (Nat.le_refl _) (Nat.le_refl _) (by decide) ⟨_, rfl, hq⟩
        · replace hq := hq.2 c21
          refine lv_aload_n hx hb dX12_begin_78 rfl (lv_at hl 0 rfl) ?_
          refine gfX12_38 C hw hw.2.2.1 h0 e18 dX12_begin_79 ?_
          refine lv_aload_n hx hb dX12_begin_82 rfl (lv_at hl 0 rfl) ?_
          refine gfX12_84 C hw hw.2.2.1 h0 e11 dX12_begin_83 ?_
          refine lv_iload_n hx hb dX12_begin_86 rfl (lv_at hl 1 rfl) ?_
          refine q_iald C hw hw.2.2.1 h12 h13 dX12_begin_87 ?_
          refine q_iald C hw hw.2.2.1 h19 h20 dX12_begin_88 ?_
          refine lv_aload_n hx hb dX12_begin_89 rfl (lv_at hl 0 rfl) ?_
          refine gfX12_287 C hw hw.2.2.1 h0 dX12_begin_90 ?_
          refine lv_ishr hx hb dX12_begin_93 ?_
          refine lv_iconst (v := 1) hx hb dX12_begin_94 (by decide) ?_
          refine lv_iand hx hb dX12_begin_95 ?_
          refine lv_iconst (v := 1) hx hb dX12_begin_96 (by decide) ?_
          refine lv_icmp_ne (tgt := 102) hx hb dX12_begin_97 (by decide) (fun c22 => ?_) (fun c22 => ?_)
          · replace hq := hq.2 c22
            refine lv_iinc (v := (x1 + 1)) (lv' := [(1, .int (x1 + 1)), (0, .ref a0)]) hx hb dX12_begin_102 hl (k := 1) rfl rfl (by decide) rfl (fun ls hl => ?_)
            refine lv_goto (tgt := 34) hx hb dX12_begin_105 (by decide) ?_
            exact hk34 _ _ _ _ _ hq hw (lv_sub hl [1, 0] rfl)
          · replace hq := hq.1 c22
            refine lv_iconst (v := 0) hx hb dX12_begin_100 (by decide) ?_
            exact r_zret C hr hlk hw dX12_begin_101 (Nat.le_refl _) (Nat.le_refl _) (by decide) ⟨_, rfl, hq⟩
set_option maxHeartbeats 4000000 in
set_option maxRecDepth 100000 in
theorem ct_X12_begin {l : Launch} {g : Gh} {M0 : Mem} {a0 : Nat} {post : Int32 → Mem → Prop}  (hq : wp_X12_begin  g M0 a0 post) : Ct l g yX12_begin cX12_begin 2 (some .boolean) 4 0 0 [.ref a0] M0 (pI post) := by
  unfold wp_X12_begin at hq
  obtain ⟨h0, hq⟩ := hq
  refine Ct.of (by decide) (Nat.le_of_ble_eq_true rfl) ?_
  intro p e s m below meth c ls C hr hlk hn hl hw
  have hx := C.1.1
  have hb := C.1.2.1
  have hl : lv_has ls 2 [(0, .ref a0)] := hl
  refine lv_aload_n hx hb dX12_begin_0 rfl (lv_at hl 0 rfl) ?_
  refine lv_iconst (v := 0) hx hb dX12_begin_1 (by decide) ?_
  refine pfX12_123 C hw hw.2.2.1 h0 dX12_begin_2 (fun H locs hw => ?_)
  generalize e24 : uI M0 a0 0 0 = M23 at hw
  replace hq := hq M23 e24.symm
  refine lv_aload_n hx hb dX12_begin_5 rfl (lv_at hl 0 rfl) ?_
  refine gfX12_274 C hw hw.2.2.1 h0 dX12_begin_6 ?_
  refine lv_if_eq (tgt := 30) hx hb dX12_begin_9 (by decide) (fun c25 => ?_) (fun c25 => ?_)
  · replace hq := hq.1 c25
    refine lv_iconst (v := 0) hx hb dX12_begin_30 (by decide) ?_
    exact r_zret C hr hlk hw dX12_begin_31 (Nat.le_refl _) (Nat.le_refl _) (by decide) ⟨_, rfl, hq⟩
  · replace hq := hq.2 c25
    refine lv_aload_n hx hb dX12_begin_12 rfl (lv_at hl 0 rfl) ?_
    refine gfX12_247 C hw hw.2.2.1 h0 dX12_begin_13 ?_
    refine lv_if_ne (tgt := 30) hx hb dX12_begin_16 (by decide) (fun c26 => ?_) (fun c26 => ?_)
    · replace hq := hq.2 c26
      refine lv_iconst (v := 0) hx hb dX12_begin_30 (by decide) ?_
      exact r_zret C hr hlk hw dX12_begin_31 (Nat.le_refl _) (Nat.le_refl _) (by decide) ⟨_, rfl, hq⟩
    · replace hq := hq.1 c26
      refine lv_aload_n hx hb dX12_begin_19 rfl (lv_at hl 0 rfl) ?_
      refine gfX12_270 C hw hw.2.2.1 h0 dX12_begin_20 ?_
      refine lv_aload_n hx hb dX12_begin_23 rfl (lv_at hl 0 rfl) ?_
      refine gfX12_274 C hw hw.2.2.1 h0 dX12_begin_24 ?_
      refine lv_icmp_eq (tgt := 32) hx hb dX12_begin_27 (by decide) (fun c27 => ?_) (fun c27 => ?_)
      · replace hq := hq.1 c27
        refine lv_iconst (v := 0) hx hb dX12_begin_32 (by decide) ?_
        refine lv_istore_n (lv' := [(1, .int 0), (0, .ref a0)]) hx hb dX12_begin_33 rfl hl (by decide) rfl (fun ls hl => ?_)
        obtain ⟨nf, hq⟩ := hq
        exact lp_X12_begin_34  C hr hlk hn h0  nf _ _ _ _ _ hq hw (lv_sub hl [1, 0] rfl)
      · replace hq := hq.2 c27
        refine lv_iconst (v := 0) hx hb dX12_begin_30 (by decide) ?_
        exact r_zret C hr hlk hw dX12_begin_31 (Nat.le_refl _) (Nat.le_refl _) (by decide) ⟨_, rfl, hq⟩

set_option maxRecDepth 100000 in
def wp_X12_canCome  (g : Gh) (M0 : Mem) (a0 : Nat) (p1 : Int32) (post : Int32 → Mem → Prop) : Prop :=
  okc (gB g) M0 a0 12 ∧ ((((mI M0 a0 48) = 0) → post 0 M0) ∧ (¬ ((mI M0 a0 48) = 0) → ((3 ≤ (mI M0 a0 51)) → post 0 M0) ∧ (¬ (3 ≤ (mI M0 a0 51)) → ((120 ≤ (mI M0 a0 49)) → post 0 M0) ∧ (¬ (120 ≤ (mI M0 a0 49)) → ((p1 < 0) → post 0 M0) ∧ (¬ (p1 < 0) → ((1 < p1) → post 0 M0) ∧ (¬ (1 < p1) → (((mI M0 a0 51) = 2) → post 1 M0) ∧ (¬ ((mI M0 a0 51) = 2) → (((mI M0 a0 51) = p1) → post 1 M0) ∧ (¬ ((mI M0 a0 51) = p1) → post 0 M0))))))))
set_option maxHeartbeats 4000000 in
set_option maxRecDepth 100000 in
theorem ct_X12_canCome {l : Launch} {g : Gh} {M0 : Mem} {a0 : Nat} {p1 : Int32} {post : Int32 → Mem → Prop}  (hq : wp_X12_canCome  g M0 a0 p1 post) : Ct l g yX12_canCome cX12_canCome 2 (some .boolean) 0 0 0 [.ref a0, .int p1] M0 (pI post) := by
  unfold wp_X12_canCome at hq
  obtain ⟨h0, hq⟩ := hq
  refine Ct.of (by decide) (Nat.le_of_ble_eq_true rfl) ?_
  intro p e s m below meth c ls C hr hlk hn hl hw
  have hx := C.1.1
  have hb := C.1.2.1
  have hl : lv_has ls 2 [(0, .ref a0), (1, .int p1)] := hl
  refine lv_aload_n hx hb dX12_canCome_0 rfl (lv_at hl 0 rfl) ?_
  refine gfX12_247 C hw hw.2.2.1 h0 dX12_canCome_1 ?_
  refine lv_if_eq (tgt := 53) hx hb dX12_canCome_4 (by decide) (fun c1 => ?_) (fun c1 => ?_)
  · replace hq := hq.1 c1
    refine lv_iconst (v := 0) hx hb dX12_canCome_53 (by decide) ?_
    exact r_zret C hr hlk hw dX12_canCome_54 (Nat.le_refl _) (Nat.le_refl _) (by decide) ⟨_, rfl, hq⟩
  · replace hq := hq.2 c1
    refine lv_aload_n hx hb dX12_canCome_7 rfl (lv_at hl 0 rfl) ?_
    refine gfX12_305 C hw hw.2.2.1 h0 dX12_canCome_8 ?_
    refine lv_iconst (v := 3) hx hb dX12_canCome_11 (by decide) ?_
    refine lv_icmp_ge (tgt := 53) hx hb dX12_canCome_12 (by decide) (fun c2 => ?_) (fun c2 => ?_)
    · replace hq := hq.1 c2
      refine lv_iconst (v := 0) hx hb dX12_canCome_53 (by decide) ?_
      exact r_zret C hr hlk hw dX12_canCome_54 (Nat.le_refl _) (Nat.le_refl _) (by decide) ⟨_, rfl, hq⟩
    · replace hq := hq.2 c2
      refine lv_aload_n hx hb dX12_canCome_15 rfl (lv_at hl 0 rfl) ?_
      refine gfX12_290 C hw hw.2.2.1 h0 dX12_canCome_16 ?_
      refine lv_bipush (v := 120) hx hb dX12_canCome_19 (by decide) ?_
      refine lv_icmp_ge (tgt := 53) hx hb dX12_canCome_21 (by decide) (fun c3 => ?_) (fun c3 => ?_)
      · replace hq := hq.1 c3
        refine lv_iconst (v := 0) hx hb dX12_canCome_53 (by decide) ?_
        exact r_zret C hr hlk hw dX12_canCome_54 (Nat.le_refl _) (Nat.le_refl _) (by decide) ⟨_, rfl, hq⟩
      · replace hq := hq.2 c3
        refine lv_iload_n hx hb dX12_canCome_24 rfl (lv_at hl 1 rfl) ?_
        refine lv_if_lt (tgt := 53) hx hb dX12_canCome_25 (by decide) (fun c4 => ?_) (fun c4 => ?_)
        · replace hq := hq.1 c4
          refine lv_iconst (v := 0) hx hb dX12_canCome_53 (by decide) ?_
          exact r_zret C hr hlk hw dX12_canCome_54 (Nat.le_refl _) (Nat.le_refl _) (by decide) ⟨_, rfl, hq⟩
        · replace hq := hq.2 c4
          refine lv_iload_n hx hb dX12_canCome_28 rfl (lv_at hl 1 rfl) ?_
          refine lv_iconst (v := 1) hx hb dX12_canCome_29 (by decide) ?_
          refine lv_icmp_gt (tgt := 53) hx hb dX12_canCome_30 (by decide) (fun c5 => ?_) (fun c5 => ?_)
          · replace hq := hq.1 c5
            refine lv_iconst (v := 0) hx hb dX12_canCome_53 (by decide) ?_
            exact r_zret C hr hlk hw dX12_canCome_54 (Nat.le_refl _) (Nat.le_refl _) (by decide) ⟨_, rfl, hq⟩
          · replace hq := hq.2 c5
            refine lv_aload_n hx hb dX12_canCome_33 rfl (lv_at hl 0 rfl) ?_
            refine gfX12_305 C hw hw.2.2.1 h0 dX12_canCome_34 ?_
            refine lv_iconst (v := 2) hx hb dX12_canCome_37 (by decide) ?_
            refine lv_icmp_eq (tgt := 49) hx hb dX12_canCome_38 (by decide) (fun c6 => ?_) (fun c6 => ?_)
            · replace hq := hq.1 c6
              refine lv_iconst (v := 1) hx hb dX12_canCome_49 (by decide) ?_
              refine lv_goto (tgt := 54) hx hb dX12_canCome_50 (by decide) ?_
              exact r_zret C hr hlk hw dX12_canCome_54 (Nat.le_refl _) (Nat.le_refl _) (by decide) ⟨_, rfl, hq⟩
            · replace hq := hq.2 c6
              refine lv_aload_n hx hb dX12_canCome_41 rfl (lv_at hl 0 rfl) ?_
              refine gfX12_305 C hw hw.2.2.1 h0 dX12_canCome_42 ?_
              refine lv_iload_n hx hb dX12_canCome_45 rfl (lv_at hl 1 rfl) ?_
              refine lv_icmp_ne (tgt := 53) hx hb dX12_canCome_46 (by decide) (fun c7 => ?_) (fun c7 => ?_)
              · replace hq := hq.2 c7
                refine lv_iconst (v := 0) hx hb dX12_canCome_53 (by decide) ?_
                exact r_zret C hr hlk hw dX12_canCome_54 (Nat.le_refl _) (Nat.le_refl _) (by decide) ⟨_, rfl, hq⟩
              · replace hq := hq.1 c7
                refine lv_iconst (v := 1) hx hb dX12_canCome_49 (by decide) ?_
                refine lv_goto (tgt := 54) hx hb dX12_canCome_50 (by decide) ?_
                exact r_zret C hr hlk hw dX12_canCome_54 (Nat.le_refl _) (Nat.le_refl _) (by decide) ⟨_, rfl, hq⟩
