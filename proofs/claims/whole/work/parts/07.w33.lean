set_option maxRecDepth 100000 in
def lb_X12_pack_340  (g : Gh) (M0 : Mem) (a0 : Nat) (p1 : Int32) (p2 : Int32) (p3 : Int32) (p4 : Int32) (p5 : Int32) (p6 : Int32) (post : Int32 → Mem → Prop)    (M : Mem) : Prop :=
  ∀ M1, M1 = uI M a0 46 p1 → (∀ M3, M3 = uI M1 a0 47 p2 → (post 0 M3))
set_option maxRecDepth 100000 in
def bd_X12_pack_313  (g : Gh) (M0 : Mem) (a0 : Nat) (p1 : Int32) (p2 : Int32) (p3 : Int32) (p4 : Int32) (p5 : Int32) (p6 : Int32) (post : Int32 → Mem → Prop)  (bk313 : Int32 × Int32 × Mem → Prop) (x7 : Int32) (x10 : Int32)  (M : Mem) : Prop :=
  ((x7 ≤ x10) → lb_X12_pack_340  g M0 a0 p1 p2 p3 p4 p5 p6 post   M) ∧ (¬ (x7 ≤ x10) → ∃ q6, mR M a0 41 = some q6 ∧ (∃ q8, mR M a0 42 = some q8 ∧ (okc (gB g) M0 q8 14 ∧ (vp_in x10 (mN M0 q8) ∧ (okc (gB g) M0 q6 14 ∧ (vp_in x10 (mN M0 q6) ∧ (∀ M14, M14 = uI M q6 (Int32.toNatClampNeg x10) (mI M q8 (Int32.toNatClampNeg x10)) → (bk313 (x7, (x10 + 1), M14)))))))))
set_option maxRecDepth 100000 in
def lb_X12_pack_310  (g : Gh) (M0 : Mem) (a0 : Nat) (p1 : Int32) (p2 : Int32) (p3 : Int32) (p4 : Int32) (p5 : Int32) (p6 : Int32) (post : Int32 → Mem → Prop)  (x7 : Int32)  (M : Mem) : Prop :=
  (∃ n : Nat, lfp (fun bk z => bd_X12_pack_313  g M0 a0 p1 p2 p3 p4 p5 p6 post  bk z.1 z.2.1 z.2.2) n (x7, 0, M))
set_option maxRecDepth 100000 in
def lb_X12_pack_252  (g : Gh) (M0 : Mem) (a0 : Nat) (p1 : Int32) (p2 : Int32) (p3 : Int32) (p4 : Int32) (p5 : Int32) (p6 : Int32) (post : Int32 → Mem → Prop) (bk130 : Int32 × Int32 × Int32 × Mem → Prop) (x7 : Int32) (x9 : Int32)  (M : Mem) : Prop :=
  ((x7 = 0) → post 1 M) ∧ (¬ (x7 = 0) → ∃ q17, mR M a0 42 = some q17 ∧ (okc (gB g) M0 q17 14 ∧ (vp_in (x7 + (-1)) (mN M0 q17) ∧ (∃ q21, mR M a0 43 = some q21 ∧ (∃ q23, mR M a0 19 = some q23 ∧ (okc (gB g) M0 q23 14 ∧ (vp_in (mI M q17 (Int32.toNatClampNeg (x7 + (-1)))) (mN M0 q23) ∧ (okc (gB g) M0 q21 14 ∧ (vp_in (mI M q23 (Int32.toNatClampNeg (mI M q17 (Int32.toNatClampNeg (x7 + (-1)))))) (mN M0 q21) ∧ (∀ M29, M29 = uI M q21 (Int32.toNatClampNeg (mI M q23 (Int32.toNatClampNeg (mI M q17 (Int32.toNatClampNeg (x7 + (-1))))))) ((mI M q21 (Int32.toNatClampNeg (mI M q23 (Int32.toNatClampNeg (mI M q17 (Int32.toNatClampNeg (x7 + (-1)))))))) - 1) → (wp_X12_hard g M29 a0 (mI M q17 (Int32.toNatClampNeg (x7 + (-1)))) (fun v31 M32 => bk130 ((x7 + (-1)), ((mI M q17 (Int32.toNatClampNeg (x7 + (-1)))) + 1), (x9 - v31), M32)))))))))))))
set_option maxRecDepth 100000 in
def lb_X12_pack_216  (g : Gh) (M0 : Mem) (a0 : Nat) (p1 : Int32) (p2 : Int32) (p3 : Int32) (p4 : Int32) (p5 : Int32) (p6 : Int32) (post : Int32 → Mem → Prop) (bk130 : Int32 × Int32 × Int32 × Mem → Prop) (x7 : Int32) (x8 : Int32) (x9 : Int32)  (M : Mem) : Prop :=
  ∃ q33, mR M a0 43 = some q33 ∧ (∃ q35, mR M a0 19 = some q35 ∧ (okc (gB g) M0 q35 14 ∧ (vp_in x8 (mN M0 q35) ∧ (okc (gB g) M0 q33 14 ∧ (vp_in (mI M q35 (Int32.toNatClampNeg x8)) (mN M0 q33) ∧ (∀ M41, M41 = uI M q33 (Int32.toNatClampNeg (mI M q35 (Int32.toNatClampNeg x8))) ((mI M q33 (Int32.toNatClampNeg (mI M q35 (Int32.toNatClampNeg x8)))) + 1) → (wp_X12_hard g M41 a0 x8 (fun v43 M44 => bk130 ((x7 + 1), (x8 + 1), (x9 + v43), M44)))))))))
set_option maxRecDepth 100000 in
def lb_X12_pack_156  (g : Gh) (M0 : Mem) (a0 : Nat) (p1 : Int32) (p2 : Int32) (p3 : Int32) (p4 : Int32) (p5 : Int32) (p6 : Int32) (post : Int32 → Mem → Prop) (bk130 : Int32 × Int32 × Int32 × Mem → Prop) (x7 : Int32) (x8 : Int32) (x9 : Int32)  (M : Mem) : Prop :=
  (((mI M a0 40) ≤ x7) → lb_X12_pack_252  g M0 a0 p1 p2 p3 p4 p5 p6 post bk130 x7 x9 M) ∧ (¬ ((mI M a0 40) ≤ x7) → (((mI M a0 16) ≤ x8) → lb_X12_pack_252  g M0 a0 p1 p2 p3 p4 p5 p6 post bk130 x7 x9 M) ∧ (¬ ((mI M a0 16) ≤ x8) → wp_X12_mayCome g M a0 x8 p1 p2 p3 (fun v47 M48 => ((v47 = 0) → bk130 (x7, (x8 + 1), x9, M48)) ∧ (¬ (v47 = 0) → (((mI M48 a0 45) = p6) → post 2 M48) ∧ (¬ ((mI M48 a0 45) = p6) → ∀ M51, M51 = uI M48 a0 45 ((mI M48 a0 45) + 1) → (∃ q53, mR M51 a0 42 = some q53 ∧ (okc (gB g) M0 q53 14 ∧ (vp_in x7 (mN M0 q53) ∧ (∀ M57, M57 = uI M51 q53 (Int32.toNatClampNeg x7) x8 → (lb_X12_pack_216  g M0 a0 p1 p2 p3 p4 p5 p6 post bk130 x7 x8 x9 M57))))))))))
set_option maxRecDepth 100000 in
def lb_X12_pack_153  (g : Gh) (M0 : Mem) (a0 : Nat) (p1 : Int32) (p2 : Int32) (p3 : Int32) (p4 : Int32) (p5 : Int32) (p6 : Int32) (post : Int32 → Mem → Prop)  (x7 : Int32)  (M : Mem) : Prop :=
  ∀ M59, M59 = uI M a0 44 x7 → (lb_X12_pack_310  g M0 a0 p1 p2 p3 p4 p5 p6 post  x7 M59)
set_option maxRecDepth 100000 in
def bd_X12_pack_130  (g : Gh) (M0 : Mem) (a0 : Nat) (p1 : Int32) (p2 : Int32) (p3 : Int32) (p4 : Int32) (p5 : Int32) (p6 : Int32) (post : Int32 → Mem → Prop)  (bk130 : Int32 × Int32 × Int32 × Mem → Prop) (x7 : Int32) (x8 : Int32) (x9 : Int32)  (M : Mem) : Prop :=
  ((x7 = (mI M a0 40)) → ((x9 < p4) → lb_X12_pack_156  g M0 a0 p1 p2 p3 p4 p5 p6 post bk130 x7 x8 x9 M) ∧ (¬ (x9 < p4) → ((p5 < x9) → lb_X12_pack_156  g M0 a0 p1 p2 p3 p4 p5 p6 post bk130 x7 x8 x9 M) ∧ (¬ (p5 < x9) → lb_X12_pack_153  g M0 a0 p1 p2 p3 p4 p5 p6 post  x7 M))) ∧ (¬ (x7 = (mI M a0 40)) → lb_X12_pack_156  g M0 a0 p1 p2 p3 p4 p5 p6 post bk130 x7 x8 x9 M)
set_option maxRecDepth 100000 in
def lb_X12_pack_121  (g : Gh) (M0 : Mem) (a0 : Nat) (p1 : Int32) (p2 : Int32) (p3 : Int32) (p4 : Int32) (p5 : Int32) (p6 : Int32) (post : Int32 → Mem → Prop)    (M : Mem) : Prop :=
  (∃ n : Nat, lfp (fun bk z => bd_X12_pack_130  g M0 a0 p1 p2 p3 p4 p5 p6 post  bk z.1 z.2.1 z.2.2.1 z.2.2.2) n (0, 0, 0, M))
set_option maxRecDepth 100000 in
def bd_X12_pack_100  (g : Gh) (M0 : Mem) (a0 : Nat) (p1 : Int32) (p2 : Int32) (p3 : Int32) (p4 : Int32) (p5 : Int32) (p6 : Int32) (post : Int32 → Mem → Prop)  (bk100 : Int32 × Mem → Prop) (x7 : Int32)  (M : Mem) : Prop :=
  ((8 ≤ x7) → lb_X12_pack_121  g M0 a0 p1 p2 p3 p4 p5 p6 post   M) ∧ (¬ (8 ≤ x7) → ∃ q65, mR M a0 43 = some q65 ∧ (okc (gB g) M0 q65 14 ∧ (vp_in x7 (mN M0 q65) ∧ (∀ M69, M69 = uI M q65 (Int32.toNatClampNeg x7) 0 → (bk100 ((x7 + 1), M69))))))
set_option maxRecDepth 100000 in
def lb_X12_pack_75  (g : Gh) (M0 : Mem) (a0 : Nat) (p1 : Int32) (p2 : Int32) (p3 : Int32) (p4 : Int32) (p5 : Int32) (p6 : Int32) (post : Int32 → Mem → Prop)   (s0 : Nat) (s1 : Int32) (M : Mem) : Prop :=
  okc (gB g) M0 s0 12 ∧ (∀ M72, M72 = uI M s0 0 s1 → ((((mI M72 a0 0) ≤ 0) → ∀ M75, M75 = uI M72 a0 44 0 → (∀ M77, M77 = uI M75 a0 45 0 → ((∃ n : Nat, lfp (fun bk z => bd_X12_pack_100  g M0 a0 p1 p2 p3 p4 p5 p6 post  bk z.1 z.2) n (0, M77))))) ∧ (¬ ((mI M72 a0 0) ≤ 0) → post 0 M72)))
set_option maxRecDepth 100000 in
def wp_X12_pack  (g : Gh) (M0 : Mem) (a0 : Nat) (p1 : Int32) (p2 : Int32) (p3 : Int32) (p4 : Int32) (p5 : Int32) (p6 : Int32) (post : Int32 → Mem → Prop) : Prop :=
  okc (gB g) M0 a0 12 ∧ (wp_X12_isTeam g M0 p1 (fun v79 M80 => ((v79 = 0) → lb_X12_pack_75  g M0 a0 p1 p2 p3 p4 p5 p6 post  a0 1 M80) ∧ (¬ (v79 = 0) → wp_X12_isTeam g M80 p2 (fun v82 M83 => ((v82 = 0) → lb_X12_pack_75  g M0 a0 p1 p2 p3 p4 p5 p6 post  a0 1 M83) ∧ (¬ (v82 = 0) → ((p1 = p2) → lb_X12_pack_75  g M0 a0 p1 p2 p3 p4 p5 p6 post  a0 1 M83) ∧ (¬ (p1 = p2) → ((p3 < 1) → lb_X12_pack_75  g M0 a0 p1 p2 p3 p4 p5 p6 post  a0 1 M83) ∧ (¬ (p3 < 1) → ((48 < p3) → lb_X12_pack_75  g M0 a0 p1 p2 p3 p4 p5 p6 post  a0 1 M83) ∧ (¬ (48 < p3) → ((p5 < p4) → lb_X12_pack_75  g M0 a0 p1 p2 p3 p4 p5 p6 post  a0 1 M83) ∧ (¬ (p5 < p4) → ((p6 < 1) → lb_X12_pack_75  g M0 a0 p1 p2 p3 p4 p5 p6 post  a0 1 M83) ∧ (¬ (p6 < 1) → ((p6 ≤ 100000) → (((mI M83 a0 40) = 0) → lb_X12_pack_75  g M0 a0 p1 p2 p3 p4 p5 p6 post  a0 2 M83) ∧ (¬ ((mI M83 a0 40) = 0) → (((mI M83 a0 48) = 0) → lb_X12_pack_75  g M0 a0 p1 p2 p3 p4 p5 p6 post  a0 0 M83) ∧ (¬ ((mI M83 a0 48) = 0) → lb_X12_pack_75  g M0 a0 p1 p2 p3 p4 p5 p6 post  a0 2 M83))) ∧ (¬ (p6 ≤ 100000) → lb_X12_pack_75  g M0 a0 p1 p2 p3 p4 p5 p6 post  a0 1 M83)))))))))))
set_option maxHeartbeats 4000000 in
set_option maxRecDepth 100000 in
theorem lt_X12_pack_340 {l : Launch} {g : Gh} {p : Program} {e : Env} {s : State} {m : MethodId} {args : Array Value} {below : List Frame} {meth : Method} {c : Code} {H : Heap} {locs : List Loc} {ls : Array Slot} {M0 M : Mem} {a0 : Nat} {p1 : Int32} {p2 : Int32} {p3 : Int32} {p4 : Int32} {p5 : Int32} {p6 : Int32} {post : Int32 → Mem → Prop}    (C : Cx g p s m args c cX12_pack 11 RX12) (hr : meth.sig.returnType = (some .int)) (hlk : meth.locks = false) (hn : meth.name = "pack") (h0 : okc (gB g) M0 a0 12)  (hq : lb_X12_pack_340  g M0 a0 p1 p2 p3 p4 p5 p6 post   M) (hw : Wd g s M0 M H locs) (hl : lv_has ls 11 [(0, .ref a0), (1, .int p1), (2, .int p2), (3, .int p3), (4, .int p4), (5, .int p5), (6, .int p6)]) : W p l e (rmo 1 0 0) s m args below meth c H locs 0 0 (MQ below (Cq g M0 (pI post)) args s 0 0 (gA g)) (F0 m 340 ls []) := by
  have hx := C.1.1
  have hb := C.1.2.1
  unfold lb_X12_pack_340 at hq
  refine lv_aload_n hx hb dX12_pack_340 rfl (lv_at hl 0 rfl) ?_
  refine lv_iload_n hx hb dX12_pack_341 rfl (lv_at hl 1 rfl) ?_
  refine pfX12_284 C hw hw.2.2.1 h0 dX12_pack_342 (fun H locs hw => ?_)
  generalize e2 : uI M a0 46 p1 = M1 at hw
  replace hq := hq M1 e2.symm
  refine lv_aload_n hx hb dX12_pack_345 rfl (lv_at hl 0 rfl) ?_
  refine lv_iload_n hx hb dX12_pack_346 rfl (lv_at hl 2 rfl) ?_
  refine pfX12_287 C hw hw.2.2.1 h0 dX12_pack_347 (fun H locs hw => ?_)
  generalize e4 : uI M1 a0 47 p2 = M3 at hw
  replace hq := hq M3 e4.symm
  refine lv_iconst (v := 0) hx hb dX12_pack_350 (by decide) ?_
  exact r_iret C hr hlk hw dX12_pack_351 (Nat.le_refl _) (Nat.le_refl _) ⟨_, rfl, hq⟩
set_option maxHeartbeats 4000000 in
set_option maxRecDepth 100000 in
theorem lp_X12_pack_313 {l : Launch} {g : Gh} {p : Program} {e : Env} {s : State} {m : MethodId} {args : Array Value} {below : List Frame} {meth : Method} {c : Code} {M0 : Mem} {a0 : Nat} {p1 : Int32} {p2 : Int32} {p3 : Int32} {p4 : Int32} {p5 : Int32} {p6 : Int32} {post : Int32 → Mem → Prop}  (C : Cx g p s m args c cX12_pack 11 RX12) (hr : meth.sig.returnType = (some .int)) (hlk : meth.locks = false) (hn : meth.name = "pack") (h0 : okc (gB g) M0 a0 12)  : ∀ (nf : Nat) (x7 : Int32) (x10 : Int32)  (M : Mem) (H : Heap) (locs : List Loc) (ls : Array Slot), lfp (fun bk z => bd_X12_pack_313  g M0 a0 p1 p2 p3 p4 p5 p6 post  bk z.1 z.2.1 z.2.2) nf (x7, x10, M) → Wd g s M0 M H locs → lv_has ls 11 [(0, .ref a0), (1, .int p1), (2, .int p2), (3, .int p3), (4, .int p4), (5, .int p5), (6, .int p6), (7, .int x7), (10, .int x10)] → W p l e (rmo 1 0 0) s m args below meth c H locs 0 0 (MQ below (Cq g M0 (pI post)) args s 0 0 (gA g)) (F0 m 313 ls []) := by
  have hx := C.1.1
  have hb := C.1.2.1
  intro nf
  induction nf with
  | zero => intro _ _ _ H locs ls hq; exact hq.elim
  | succ nf hk313 =>
    intro x7 x10 M H locs ls hq hw hl
    replace hq : bd_X12_pack_313  g M0 a0 p1 p2 p3 p4 p5 p6 post  (lfp (fun bk z => bd_X12_pack_313  g M0 a0 p1 p2 p3 p4 p5 p6 post  bk z.1 z.2.1 z.2.2) nf) x7 x10 M := hq
    unfold bd_X12_pack_313 at hq
    refine lv_iload hx hb dX12_pack_313 (lv_at hl 8 rfl) ?_
    refine lv_iload hx hb dX12_pack_315 (lv_at hl 7 rfl) ?_
    refine lv_icmp_ge (tgt := 340) hx hb dX12_pack_317 (by decide) (fun c5 => ?_) (fun c5 => ?_)
    · replace hq := hq.1 c5
      exact lt_X12_pack_340  C hr hlk hn h0  hq hw (lv_sub hl [0, 1, 2, 3, 4, 5, 6] rfl)
    · replace hq := hq.2 c5
      refine lv_aload_n hx hb dX12_pack_320 rfl (lv_at hl 0 rfl) ?_
      obtain ⟨q6, e7, hq⟩ := hq
      refine gfX12_84 C hw hw.2.2.1 h0 e7 dX12_pack_321 ?_
      refine lv_iload hx hb dX12_pack_324 (lv_at hl 8 rfl) ?_
      refine lv_aload_n hx hb dX12_pack_326 rfl (lv_at hl 0 rfl) ?_
      obtain ⟨q8, e9, hq⟩ := hq
      refine gfX12_87 C hw hw.2.2.1 h0 e9 dX12_pack_327 ?_
      refine lv_iload hx hb dX12_pack_330 (lv_at hl 8 rfl) ?_
      obtain ⟨h10, hq⟩ := hq
      obtain ⟨h11, hq⟩ := hq
      refine q_iald C hw hw.2.2.1 h10 h11 dX12_pack_332 ?_
      obtain ⟨h12, hq⟩ := hq
      obtain ⟨h13, hq⟩ := hq
      refine q_iast C hw hw.2.2.1 h12 h13 dX12_pack_333 (fun H locs hw => ?_)
      generalize e15 : uI M q6 (Int32.toNatClampNeg x10) (mI M q8 (Int32.toNatClampNeg x10)) = M14 at hw
      replace hq := hq M14 e15.symm
      have e7 : mR M14 a0 41 = some q6 := by rw [← e15, mR_uI]; exact e7
      have e9 : mR M14 a0 42 = some q8 := by rw [← e15, mR_uI]; exact e9
      refine lv_iinc (v := (x10 + 1)) (lv' := [(10, .int (x10 + 1)), (0, .ref a0), (1, .int p1), (2, .int p2), (3, .int p3), (4, .int p4), (5, .int p5), (6, .int p6), (7, .int x7)]) hx hb dX12_pack_334 hl (k := 8) rfl rfl (by decide) rfl (fun ls hl => ?_)
      refine lv_goto (tgt := 313) hx hb dX12_pack_337 (by decide) ?_
      exact hk313 _ _ _ _ _ _ hq hw (lv_sub hl [1, 2, 3, 4, 5, 6, 7, 8, 0] rfl)
set_option maxHeartbeats 4000000 in
set_option maxRecDepth 100000 in
theorem lt_X12_pack_310 {l : Launch} {g : Gh} {p : Program} {e : Env} {s : State} {m : MethodId} {args : Array Value} {below : List Frame} {meth : Method} {c : Code} {H : Heap} {locs : List Loc} {ls : Array Slot} {M0 M : Mem} {a0 : Nat} {p1 : Int32} {p2 : Int32} {p3 : Int32} {p4 : Int32} {p5 : Int32} {p6 : Int32} {post : Int32 → Mem → Prop} {x7 : Int32}   (C : Cx g p s m args c cX12_pack 11 RX12) (hr : meth.sig.returnType = (some .int)) (hlk : meth.locks = false) (hn : meth.name = "pack") (h0 : okc (gB g) M0 a0 12)  (hq : lb_X12_pack_310  g M0 a0 p1 p2 p3 p4 p5 p6 post  x7 M) (hw : Wd g s M0 M H locs) (hl : lv_has ls 11 [(0, .ref a0), (1, .int p1), (2, .int p2), (3, .int p3), (4, .int p4), (5, .int p5), (6, .int p6), (7, .int x7)]) : W p l e (rmo 1 0 0) s m args below meth c H locs 0 0 (MQ below (Cq g M0 (pI post)) args s 0 0 (gA g)) (F0 m 310 ls []) := by
  have hx := C.1.1
  have hb := C.1.2.1
  unfold lb_X12_pack_310 at hq
  refine lv_iconst (v := 0) hx hb dX12_pack_310 (by decide) ?_
  refine lv_istore (lv' := [(10, .int 0), (0, .ref a0), (1, .int p1), (2, .int p2), (3, .int p3), (4, .int p4), (5, .int p5), (6, .int p6), (7, .int x7)]) hx hb dX12_pack_311 hl (by decide) rfl (fun ls hl => ?_)
  obtain ⟨nf, hq⟩ := hq
  exact lp_X12_pack_313  C hr hlk hn h0  nf _ _ _ _ _ _ hq hw (lv_sub hl [1, 2, 3, 4, 5, 6, 7, 8, 0] rfl)
set_option maxHeartbeats 4000000 in
set_option maxRecDepth 100000 in
theorem lt_X12_pack_252 {l : Launch} {g : Gh} {p : Program} {e : Env} {s : State} {m : MethodId} {args : Array Value} {below : List Frame} {meth : Method} {c : Code} {H : Heap} {locs : List Loc} {ls : Array Slot} {M0 M : Mem} {a0 : Nat} {p1 : Int32} {p2 : Int32} {p3 : Int32} {p4 : Int32} {p5 : Int32} {p6 : Int32} {post : Int32 → Mem → Prop} {x7 : Int32} {x9 : Int32}   (C : Cx g p s m args c cX12_pack 11 RX12) (hr : meth.sig.returnType = (some .int)) (hlk : meth.locks = false) (hn : meth.name = "pack") (h0 : okc (gB g) M0 a0 12) {bk130 : Int32 × Int32 × Int32 × Mem → Prop} (hk130 : ∀ (x7 : Int32) (x8 : Int32) (x9 : Int32) (M : Mem) (H : Heap) (locs : List Loc) (ls : Array Slot), bk130 (x7, x8, x9, M) → Wd g s M0 M H locs → lv_has ls 11 [(0, .ref a0), (1, .int p1), (2, .int p2), (3, .int p3), (4, .int p4), (5, .int p5), (6, .int p6), (7, .int x7), (8, .int x8), (9, .int x9)] → W p l e (rmo 1 0 0) s m args below meth c H locs 0 0 (MQ below (Cq g M0 (pI post)) args s 0 0 (gA g)) (F0 m 130 ls [])) (hq : lb_X12_pack_252  g M0 a0 p1 p2 p3 p4 p5 p6 post bk130 x7 x9 M) (hw : Wd g s M0 M H locs) (hl : lv_has ls 11 [(0, .ref a0), (1, .int p1), (2, .int p2), (3, .int p3), (4, .int p4), (5, .int p5), (6, .int p6), (7, .int x7), (9, .int x9)]) : W p l e (rmo 1 0 0) s m args below meth c H locs 0 0 (MQ below (Cq g M0 (pI post)) args s 0 0 (gA g)) (F0 m 252 ls []) := by
  have hx := C.1.1
  have hb := C.1.2.1
  unfold lb_X12_pack_252 at hq
  refine lv_iload hx hb dX12_pack_252 (lv_at hl 7 rfl) ?_
  refine lv_if_ne (tgt := 259) hx hb dX12_pack_254 (by decide) (fun c16 => ?_) (fun c16 => ?_)
  · replace hq := hq.2 c16
    refine lv_iinc (v := (x7 + (-1))) (lv' := [(7, .int (x7 + (-1))), (0, .ref a0), (1, .int p1), (2, .int p2), (3, .int p3), (4, .int p4), (5, .int p5), (6, .int p6), (9, .int x9)]) hx hb dX12_pack_259 hl (k := 7) rfl rfl (by decide) rfl (fun ls hl => ?_)
    refine lv_aload_n hx hb dX12_pack_262 rfl (lv_at hl 1 rfl) ?_
    obtain ⟨q17, e18, hq⟩ := hq
    refine gfX12_87 C hw hw.2.2.1 h0 e18 dX12_pack_263 ?_
    refine lv_iload hx hb dX12_pack_266 (lv_at hl 0 rfl) ?_
    obtain ⟨h19, hq⟩ := hq
    obtain ⟨h20, hq⟩ := hq
    refine q_iald C hw hw.2.2.1 h19 h20 dX12_pack_268 ?_
    refine lv_istore (lv' := [(8, .int (mI M q17 (Int32.toNatClampNeg (x7 + (-1))))), (7, .int (x7 + (-1))), (0, .ref a0), (1, .int p1), (2, .int p2), (3, .int p3), (4, .int p4), (5, .int p5), (6, .int p6), (9, .int x9)]) hx hb dX12_pack_269 hl (by decide) rfl (fun ls hl => ?_)
    refine lv_aload_n hx hb dX12_pack_271 rfl (lv_at hl 2 rfl) ?_
    obtain ⟨q21, e22, hq⟩ := hq
    refine gfX12_90 C hw hw.2.2.1 h0 e22 dX12_pack_272 ?_
    refine lv_aload_n hx hb dX12_pack_275 rfl (lv_at hl 2 rfl) ?_
    obtain ⟨q23, e24, hq⟩ := hq
    refine gfX12_29 C hw hw.2.2.1 h0 e24 dX12_pack_276 ?_
    refine lv_iload hx hb dX12_pack_279 (lv_at hl 0 rfl) ?_
    obtain ⟨h25, hq⟩ := hq
    obtain ⟨h26, hq⟩ := hq
    refine q_iald C hw hw.2.2.1 h25 h26 dX12_pack_281 ?_
    refine lv_dup2_11 hx hb dX12_pack_282 rfl rfl ?_
    obtain ⟨h27, hq⟩ := hq
    obtain ⟨h28, hq⟩ := hq
    refine q_iald C hw hw.2.2.1 h27 h28 dX12_pack_283 ?_
    refine lv_iconst (v := 1) hx hb dX12_pack_284 (by decide) ?_
    refine lv_isub hx hb dX12_pack_285 ?_
    refine q_iast C hw hw.2.2.1 h27 h28 dX12_pack_286 (fun H locs hw => ?_)
    generalize e30 : uI M q21 (Int32.toNatClampNeg (mI M q23 (Int32.toNatClampNeg (mI M q17 (Int32.toNatClampNeg (x7 + (-1))))))) ((mI M q21 (Int32.toNatClampNeg (mI M q23 (Int32.toNatClampNeg (mI M q17 (Int32.toNatClampNeg (x7 + (-1)))))))) - 1) = M29 at hw
    replace hq := hq M29 e30.symm
    have e18 : mR M29 a0 42 = some q17 := by rw [← e30, mR_uI]; exact e18
    have e22 : mR M29 a0 43 = some q21 := by rw [← e30, mR_uI]; exact e22
    have e24 : mR M29 a0 19 = some q23 := by rw [← e30, mR_uI]; exact e24
    refine lv_iload hx hb dX12_pack_287 (lv_at hl 9 rfl) ?_
    refine lv_aload_n hx hb dX12_pack_289 rfl (lv_at hl 2 rfl) ?_
    refine lv_iload hx hb dX12_pack_290 (lv_at hl 0 rfl) ?_
    refine r_callV (T := TX12) (N := 67) (ci := 12) (index := 251) (n := 1) (d2 := 0) (mc := 0) (ms := 0) (As := [.int (mI M q17 (Int32.toNatClampNeg (x7 + (-1))))]) (rest := [.int x9]) C hw (ct_X12_hard hq) kvX12_251 hq.1 (by decide) rfl ⟨by decide, by decide⟩ ⟨by decide, by decide⟩ rfl hl.1 rfl (Nat.le_of_ble_eq_true rfl) dX12_pack_292 (fun r M32 H locs hp hle hw => ?_)
    obtain ⟨v31, rfl, hq⟩ := hp
    refine W.eq (g2 := F0 m 295 ls [.int v31, .int x9]) rfl ?_
    refine lv_isub hx hb dX12_pack_295 ?_
    refine lv_istore (lv' := [(9, .int (x9 - v31)), (8, .int (mI M q17 (Int32.toNatClampNeg (x7 + (-1))))), (7, .int (x7 + (-1))), (0, .ref a0), (1, .int p1), (2, .int p2), (3, .int p3), (4, .int p4), (5, .int p5), (6, .int p6)]) hx hb dX12_pack_296 hl (by decide) rfl (fun ls hl => ?_)
    refine lv_iinc (v := ((mI M q17 (Int32.toNatClampNeg (x7 + (-1)))) + 1)) (lv' := [(8, .int ((mI M q17 (Int32.toNatClampNeg (x7 + (-1)))) + 1)), (9, .int (x9 - v31)), (7, .int (x7 + (-1))), (0, .ref a0), (1, .int p1), (2, .int p2), (3, .int p3), (4, .int p4), (5, .int p5), (6, .int p6)]) hx hb dX12_pack_298 hl (k := 1) rfl rfl (by decide) rfl (fun ls hl => ?_)
    refine lv_goto (tgt := 130) hx hb dX12_pack_301 (by decide) ?_
    exact hk130 _ _ _ _ _ _ _ hq hw (lv_sub hl [3, 4, 5, 6, 7, 8, 9, 2, 0, 1] rfl)
  · replace hq := hq.1 c16
    refine lv_iconst (v := 1) hx hb dX12_pack_257 (by decide) ?_
    exact r_iret C hr hlk hw dX12_pack_258 (Nat.le_refl _) (Nat.le_refl _) ⟨_, rfl, hq⟩
set_option maxHeartbeats 4000000 in
set_option maxRecDepth 100000 in
theorem lt_X12_pack_216 {l : Launch} {g : Gh} {p : Program} {e : Env} {s : State} {m : MethodId} {args : Array Value} {below : List Frame} {meth : Method} {c : Code} {H : Heap} {locs : List Loc} {ls : Array Slot} {M0 M : Mem} {a0 : Nat} {p1 : Int32} {p2 : Int32} {p3 : Int32} {p4 : Int32} {p5 : Int32} {p6 : Int32} {post : Int32 → Mem → Prop} {x7 : Int32} {x8 : Int32} {x9 : Int32}   (C : Cx g p s m args c cX12_pack 11 RX12) (hr : meth.sig.returnType = (some .int)) (hlk : meth.locks = false) (hn : meth.name = "pack") (h0 : okc (gB g) M0 a0 12) {bk130 : Int32 × Int32 × Int32 × Mem → Prop} (hk130 : ∀ (x7 : Int32) (x8 : Int32) (x9 : Int32) (M : Mem) (H : Heap) (locs : List Loc) (ls : Array Slot), bk130 (x7, x8, x9, M) → Wd g s M0 M H locs → lv_has ls 11 [(0, .ref a0), (1, .int p1), (2, .int p2), (3, .int p3), (4, .int p4), (5, .int p5), (6, .int p6), (7, .int x7), (8, .int x8), (9, .int x9)] → W p l e (rmo 1 0 0) s m args below meth c H locs 0 0 (MQ below (Cq g M0 (pI post)) args s 0 0 (gA g)) (F0 m 130 ls [])) (hq : lb_X12_pack_216  g M0 a0 p1 p2 p3 p4 p5 p6 post bk130 x7 x8 x9 M) (hw : Wd g s M0 M H locs) (hl : lv_has ls 11 [(0, .ref a0), (1, .int p1), (2, .int p2), (3, .int p3), (4, .int p4), (5, .int p5), (6, .int p6), (7, .int x7), (8, .int x8), (9, .int x9)]) : W p l e (rmo 1 0 0) s m args below meth c H locs 0 0 (MQ below (Cq g M0 (pI post)) args s 0 0 (gA g)) (F0 m 216 ls []) := by
  have hx := C.1.1
  have hb := C.1.2.1
  unfold lb_X12_pack_216 at hq
  refine lv_iinc (v := (x7 + 1)) (lv' := [(7, .int (x7 + 1)), (0, .ref a0), (1, .int p1), (2, .int p2), (3, .int p3), (4, .int p4), (5, .int p5), (6, .int p6), (8, .int x8), (9, .int x9)]) hx hb dX12_pack_216 hl (k := 7) rfl rfl (by decide) rfl (fun ls hl => ?_)
  refine lv_aload_n hx hb dX12_pack_219 rfl (lv_at hl 1 rfl) ?_
  obtain ⟨q33, e34, hq⟩ := hq
  refine gfX12_90 C hw hw.2.2.1 h0 e34 dX12_pack_220 ?_
  refine lv_aload_n hx hb dX12_pack_223 rfl (lv_at hl 1 rfl) ?_
  obtain ⟨q35, e36, hq⟩ := hq
  refine gfX12_29 C hw hw.2.2.1 h0 e36 dX12_pack_224 ?_
  refine lv_iload hx hb dX12_pack_227 (lv_at hl 8 rfl) ?_
  obtain ⟨h37, hq⟩ := hq
  obtain ⟨h38, hq⟩ := hq
  refine q_iald C hw hw.2.2.1 h37 h38 dX12_pack_229 ?_
  refine lv_dup2_11 hx hb dX12_pack_230 rfl rfl ?_
  obtain ⟨h39, hq⟩ := hq
  obtain ⟨h40, hq⟩ := hq
  refine q_iald C hw hw.2.2.1 h39 h40 dX12_pack_231 ?_
  refine lv_iconst (v := 1) hx hb dX12_pack_232 (by decide) ?_
  refine lv_iadd hx hb dX12_pack_233 ?_
  refine q_iast C hw hw.2.2.1 h39 h40 dX12_pack_234 (fun H locs hw => ?_)
  generalize e42 : uI M q33 (Int32.toNatClampNeg (mI M q35 (Int32.toNatClampNeg x8))) ((mI M q33 (Int32.toNatClampNeg (mI M q35 (Int32.toNatClampNeg x8)))) + 1) = M41 at hw
  replace hq := hq M41 e42.symm
  have e34 : mR M41 a0 43 = some q33 := by rw [← e42, mR_uI]; exact e34
  have e36 : mR M41 a0 19 = some q35 := by rw [← e42, mR_uI]; exact e36
  refine lv_iload hx hb dX12_pack_235 (lv_at hl 9 rfl) ?_
  refine lv_aload_n hx hb dX12_pack_237 rfl (lv_at hl 1 rfl) ?_
  refine lv_iload hx hb dX12_pack_238 (lv_at hl 8 rfl) ?_
  refine r_callV (T := TX12) (N := 67) (ci := 12) (index := 251) (n := 1) (d2 := 0) (mc := 0) (ms := 0) (As := [.int x8]) (rest := [.int x9]) C hw (ct_X12_hard hq) kvX12_251 hq.1 (by decide) rfl ⟨by decide, by decide⟩ ⟨by decide, by decide⟩ rfl hl.1 rfl (Nat.le_of_ble_eq_true rfl) dX12_pack_240 (fun r M44 H locs hp hle hw => ?_)
  obtain ⟨v43, rfl, hq⟩ := hp
  refine W.eq (g2 := F0 m 243 ls [.int v43, .int x9]) rfl ?_
  refine lv_iadd hx hb dX12_pack_243 ?_
  refine lv_istore (lv' := [(9, .int (x9 + v43)), (7, .int (x7 + 1)), (0, .ref a0), (1, .int p1), (2, .int p2), (3, .int p3), (4, .int p4), (5, .int p5), (6, .int p6), (8, .int x8)]) hx hb dX12_pack_244 hl (by decide) rfl (fun ls hl => ?_)
  refine lv_iinc (v := (x8 + 1)) (lv' := [(8, .int (x8 + 1)), (9, .int (x9 + v43)), (7, .int (x7 + 1)), (0, .ref a0), (1, .int p1), (2, .int p2), (3, .int p3), (4, .int p4), (5, .int p5), (6, .int p6)]) hx hb dX12_pack_246 hl (k := 9) rfl rfl (by decide) rfl (fun ls hl => ?_)
  refine lv_goto (tgt := 130) hx hb dX12_pack_249 (by decide) ?_
  exact hk130 _ _ _ _ _ _ _ hq hw (lv_sub hl [3, 4, 5, 6, 7, 8, 9, 2, 0, 1] rfl)
set_option maxHeartbeats 4000000 in
set_option maxRecDepth 100000 in
theorem lt_X12_pack_156 {l : Launch} {g : Gh} {p : Program} {e : Env} {s : State} {m : MethodId} {args : Array Value} {below : List Frame} {meth : Method} {c : Code} {H : Heap} {locs : List Loc} {ls : Array Slot} {M0 M : Mem} {a0 : Nat} {p1 : Int32} {p2 : Int32} {p3 : Int32} {p4 : Int32} {p5 : Int32} {p6 : Int32} {post : Int32 → Mem → Prop} {x7 : Int32} {x8 : Int32} {x9 : Int32}   (C : Cx g p s m args c cX12_pack 11 RX12) (hr : meth.sig.returnType = (some .int)) (hlk : meth.locks = false) (hn : meth.name = "pack") (h0 : okc (gB g) M0 a0 12) {bk130 : Int32 × Int32 × Int32 × Mem → Prop} (hk130 : ∀ (x7 : Int32) (x8 : Int32) (x9 : Int32) (M : Mem) (H : Heap) (locs : List Loc) (ls : Array Slot), bk130 (x7, x8, x9, M) → Wd g s M0 M H locs → lv_has ls 11 [(0, .ref a0), (1, .int p1), (2, .int p2), (3, .int p3), (4, .int p4), (5, .int p5), (6, .int p6), (7, .int x7), (8, .int x8), (9, .int x9)] → W p l e (rmo 1 0 0) s m args below meth c H locs 0 0 (MQ below (Cq g M0 (pI post)) args s 0 0 (gA g)) (F0 m 130 ls [])) (hq : lb_X12_pack_156  g M0 a0 p1 p2 p3 p4 p5 p6 post bk130 x7 x8 x9 M) (hw : Wd g s M0 M H locs) (hl : lv_has ls 11 [(0, .ref a0), (1, .int p1), (2, .int p2), (3, .int p3), (4, .int p4), (5, .int p5), (6, .int p6), (7, .int x7), (8, .int x8), (9, .int x9)]) : W p l e (rmo 1 0 0) s m args below meth c H locs 0 0 (MQ below (Cq g M0 (pI post)) args s 0 0 (gA g)) (F0 m 156 ls []) := by
  have hx := C.1.1
  have hb := C.1.2.1
  unfold lb_X12_pack_156 at hq
  refine lv_iload hx hb dX12_pack_156 (lv_at hl 7 rfl) ?_
  refine lv_aload_n hx hb dX12_pack_158 rfl (lv_at hl 0 rfl) ?_
  refine gfX12_270 C hw hw.2.2.1 h0 dX12_pack_159 ?_
  refine lv_icmp_ge (tgt := 252) hx hb dX12_pack_162 (by decide) (fun c45 => ?_) (fun c45 => ?_)
  · replace hq := hq.1 c45
    exact lt_X12_pack_252  C hr hlk hn h0 hk130 hq hw (lv_sub hl [0, 1, 2, 3, 4, 5, 6, 7, 9] rfl)
  · replace hq := hq.2 c45
    refine lv_iload hx hb dX12_pack_165 (lv_at hl 8 rfl) ?_
    refine lv_aload_n hx hb dX12_pack_167 rfl (lv_at hl 0 rfl) ?_
    refine gfX12_181 C hw hw.2.2.1 h0 dX12_pack_168 ?_
    refine lv_icmp_ge (tgt := 252) hx hb dX12_pack_171 (by decide) (fun c46 => ?_) (fun c46 => ?_)
    · replace hq := hq.1 c46
      exact lt_X12_pack_252  C hr hlk hn h0 hk130 hq hw (lv_sub hl [0, 1, 2, 3, 4, 5, 6, 7, 9] rfl)
    · replace hq := hq.2 c46
      refine lv_aload_n hx hb dX12_pack_174 rfl (lv_at hl 0 rfl) ?_
      refine lv_iload hx hb dX12_pack_175 (lv_at hl 8 rfl) ?_
      refine lv_iload_n hx hb dX12_pack_177 rfl (lv_at hl 1 rfl) ?_
      refine lv_iload_n hx hb dX12_pack_178 rfl (lv_at hl 2 rfl) ?_
      refine lv_iload_n hx hb dX12_pack_179 rfl (lv_at hl 3 rfl) ?_
      refine r_callV (T := TX12) (N := 67) (ci := 12) (index := 280) (n := 4) (d2 := 0) (mc := 0) (ms := 0) (As := [.int x8, .int p1, .int p2, .int p3]) (rest := []) C hw (ct_X12_mayCome hq) kvX12_280 hq.1 (by decide) rfl ⟨by decide, by decide⟩ ⟨by decide, by decide⟩ rfl hl.1 rfl (Nat.le_of_ble_eq_true rfl) dX12_pack_180 (fun r M48 H locs hp hle hw => ?_)
      obtain ⟨v47, rfl, hq⟩ := hp
      refine W.eq (g2 := F0 m 183 ls [.int v47]) rfl ?_
      refine lv_if_eq (tgt := 246) hx hb dX12_pack_183 (by decide) (fun c49 => ?_) (fun c49 => ?_)
      · replace hq := hq.1 c49
        refine lv_iinc (v := (x8 + 1)) (lv' := [(8, .int (x8 + 1)), (0, .ref a0), (1, .int p1), (2, .int p2), (3, .int p3), (4, .int p4), (5, .int p5), (6, .int p6), (7, .int x7), (9, .int x9)]) hx hb dX12_pack_246 hl (k := 8) rfl rfl (by decide) rfl (fun ls hl => ?_)
        refine lv_goto (tgt := 130) hx hb dX12_pack_249 (by decide) ?_
        exact hk130 _ _ _ _ _ _ _ hq hw (lv_sub hl [1, 2, 3, 4, 5, 6, 7, 8, 0, 9] rfl)
      · replace hq := hq.2 c49
        refine lv_aload_n hx hb dX12_pack_186 rfl (lv_at hl 0 rfl) ?_
        refine gfX12_277 C hw hw.2.2.1 h0 dX12_pack_187 ?_
        refine lv_iload hx hb dX12_pack_190 (lv_at hl 6 rfl) ?_
        refine lv_icmp_ne (tgt := 197) hx hb dX12_pack_192 (by decide) (fun c50 => ?_) (fun c50 => ?_)
        · replace hq := hq.2 c50
          refine lv_aload_n hx hb dX12_pack_197 rfl (lv_at hl 0 rfl) ?_
          refine lv_dup hx hb dX12_pack_198 rfl ?_
          refine gfX12_277 C hw hw.2.2.1 h0 dX12_pack_199 ?_
          refine lv_iconst (v := 1) hx hb dX12_pack_202 (by decide) ?_
          refine lv_iadd hx hb dX12_pack_203 ?_
          refine pfX12_277 C hw hw.2.2.1 h0 dX12_pack_204 (fun H locs hw => ?_)
          generalize e52 : uI M48 a0 45 ((mI M48 a0 45) + 1) = M51 at hw
          replace hq := hq M51 e52.symm
          refine lv_aload_n hx hb dX12_pack_207 rfl (lv_at hl 0 rfl) ?_
          obtain ⟨q53, e54, hq⟩ := hq
          refine gfX12_87 C hw hw.2.2.1 h0 e54 dX12_pack_208 ?_
          refine lv_iload hx hb dX12_pack_211 (lv_at hl 7 rfl) ?_
          refine lv_iload hx hb dX12_pack_213 (lv_at hl 8 rfl) ?_
          obtain ⟨h55, hq⟩ := hq
          obtain ⟨h56, hq⟩ := hq
          refine q_iast C hw hw.2.2.1 h55 h56 dX12_pack_215 (fun H locs hw => ?_)
          generalize e58 : uI M51 q53 (Int32.toNatClampNeg x7) x8 = M57 at hw
          replace hq := hq M57 e58.symm
          have e54 : mR M57 a0 42 = some q53 := by rw [← e58, mR_uI]; exact e54
          exact lt_X12_pack_216  C hr hlk hn h0 hk130 hq hw (lv_sub hl [0, 1, 2, 3, 4, 5, 6, 7, 8, 9] rfl)
        · replace hq := hq.1 c50
          refine lv_iconst (v := 2) hx hb dX12_pack_195 (by decide) ?_
          exact r_iret C hr hlk hw dX12_pack_196 (Nat.le_refl _) (Nat.le_refl _) ⟨_, rfl, hq⟩
set_option maxHeartbeats 4000000 in
set_option maxRecDepth 100000 in
theorem lt_X12_pack_153 {l : Launch} {g : Gh} {p : Program} {e : Env} {s : State} {m : MethodId} {args : Array Value} {below : List Frame} {meth : Method} {c : Code} {H : Heap} {locs : List Loc} {ls : Array Slot} {M0 M : Mem} {a0 : Nat} {p1 : Int32} {p2 : Int32} {p3 : Int32} {p4 : Int32} {p5 : Int32} {p6 : Int32} {post : Int32 → Mem → Prop} {x7 : Int32}   (C : Cx g p s m args c cX12_pack 11 RX12) (hr : meth.sig.returnType = (some .int)) (hlk : meth.locks = false) (hn : meth.name = "pack") (h0 : okc (gB g) M0 a0 12)  (hq : lb_X12_pack_153  g M0 a0 p1 p2 p3 p4 p5 p6 post  x7 M) (hw : Wd g s M0 M H locs) (hl : lv_has ls 11 [(0, .ref a0), (1, .int p1), (2, .int p2), (3, .int p3), (4, .int p4), (5, .int p5), (6, .int p6), (7, .int x7)]) : W p l e (rmo 1 0 0) s m args below meth c H locs 0 0 (MQ below (Cq g M0 (pI post)) args s 0 0 (gA g)) (F0 m 153 ls []) := by
  have hx := C.1.1
  have hb := C.1.2.1
  unfold lb_X12_pack_153 at hq
  refine lv_goto (tgt := 304) hx hb dX12_pack_153 (by decide) ?_
  refine lv_aload_n hx hb dX12_pack_304 rfl (lv_at hl 0 rfl) ?_
  refine lv_iload hx hb dX12_pack_305 (lv_at hl 7 rfl) ?_
  refine pfX12_274 C hw hw.2.2.1 h0 dX12_pack_307 (fun H locs hw => ?_)
  generalize e60 : uI M a0 44 x7 = M59 at hw
  replace hq := hq M59 e60.symm
  exact lt_X12_pack_310  C hr hlk hn h0  hq hw (lv_sub hl [0, 1, 2, 3, 4, 5, 6, 7] rfl)
set_option maxHeartbeats 4000000 in
set_option maxRecDepth 100000 in
theorem lp_X12_pack_130 {l : Launch} {g : Gh} {p : Program} {e : Env} {s : State} {m : MethodId} {args : Array Value} {below : List Frame} {meth : Method} {c : Code} {M0 : Mem} {a0 : Nat} {p1 : Int32} {p2 : Int32} {p3 : Int32} {p4 : Int32} {p5 : Int32} {p6 : Int32} {post : Int32 → Mem → Prop}  (C : Cx g p s m args c cX12_pack 11 RX12) (hr : meth.sig.returnType = (some .int)) (hlk : meth.locks = false) (hn : meth.name = "pack") (h0 : okc (gB g) M0 a0 12)  : ∀ (nf : Nat) (x7 : Int32) (x8 : Int32) (x9 : Int32)  (M : Mem) (H : Heap) (locs : List Loc) (ls : Array Slot), lfp (fun bk z => bd_X12_pack_130  g M0 a0 p1 p2 p3 p4 p5 p6 post  bk z.1 z.2.1 z.2.2.1 z.2.2.2) nf (x7, x8, x9, M) → Wd g s M0 M H locs → lv_has ls 11 [(0, .ref a0), (1, .int p1), (2, .int p2), (3, .int p3), (4, .int p4), (5, .int p5), (6, .int p6), (7, .int x7), (8, .int x8), (9, .int x9)] → W p l e (rmo 1 0 0) s m args below meth c H locs 0 0 (MQ below (Cq g M0 (pI post)) args s 0 0 (gA g)) (F0 m 130 ls []) := by
  have hx := C.1.1
  have hb := C.1.2.1
  intro nf
  induction nf with
  | zero => intro _ _ _ _ H locs ls hq; exact hq.elim
  | succ nf hk130 =>
    intro x7 x8 x9 M H locs ls hq hw hl
    replace hq : bd_X12_pack_130  g M0 a0 p1 p2 p3 p4 p5 p6 post  (lfp (fun bk z => bd_X12_pack_130  g M0 a0 p1 p2 p3 p4 p5 p6 post  bk z.1 z.2.1 z.2.2.1 z.2.2.2) nf) x7 x8 x9 M := hq
    unfold bd_X12_pack_130 at hq
    refine lv_iload hx hb dX12_pack_130 (lv_at hl 7 rfl) ?_
    refine lv_aload_n hx hb dX12_pack_132 rfl (lv_at hl 0 rfl) ?_
    refine gfX12_270 C hw hw.2.2.1 h0 dX12_pack_133 ?_
    refine lv_icmp_ne (tgt := 156) hx hb dX12_pack_136 (by decide) (fun c61 => ?_) (fun c61 => ?_)
    · replace hq := hq.2 c61
      exact lt_X12_pack_156  C hr hlk hn h0 hk130 hq hw (lv_sub hl [0, 1, 2, 3, 4, 5, 6, 7, 8, 9] rfl)
    · replace hq := hq.1 c61
      refine lv_iload hx hb dX12_pack_139 (lv_at hl 9 rfl) ?_
      refine lv_iload hx hb dX12_pack_141 (lv_at hl 4 rfl) ?_
      refine lv_icmp_lt (tgt := 156) hx hb dX12_pack_143 (by decide) (fun c62 => ?_) (fun c62 => ?_)
      · replace hq := hq.1 c62
        exact lt_X12_pack_156  C hr hlk hn h0 hk130 hq hw (lv_sub hl [0, 1, 2, 3, 4, 5, 6, 7, 8, 9] rfl)
      · replace hq := hq.2 c62
        refine lv_iload hx hb dX12_pack_146 (lv_at hl 9 rfl) ?_
        refine lv_iload hx hb dX12_pack_148 (lv_at hl 5 rfl) ?_
        refine lv_icmp_gt (tgt := 156) hx hb dX12_pack_150 (by decide) (fun c63 => ?_) (fun c63 => ?_)
        · replace hq := hq.1 c63
          exact lt_X12_pack_156  C hr hlk hn h0 hk130 hq hw (lv_sub hl [0, 1, 2, 3, 4, 5, 6, 7, 8, 9] rfl)
        · replace hq := hq.2 c63
          exact lt_X12_pack_153  C hr hlk hn h0  hq hw (lv_sub hl [0, 1, 2, 3, 4, 5, 6, 7] rfl)
set_option maxHeartbeats 4000000 in
set_option maxRecDepth 100000 in
theorem lt_X12_pack_121 {l : Launch} {g : Gh} {p : Program} {e : Env} {s : State} {m : MethodId} {args : Array Value} {below : List Frame} {meth : Method} {c : Code} {H : Heap} {locs : List Loc} {ls : Array Slot} {M0 M : Mem} {a0 : Nat} {p1 : Int32} {p2 : Int32} {p3 : Int32} {p4 : Int32} {p5 : Int32} {p6 : Int32} {post : Int32 → Mem → Prop}    (C : Cx g p s m args c cX12_pack 11 RX12) (hr : meth.sig.returnType = (some .int)) (hlk : meth.locks = false) (hn : meth.name = "pack") (h0 : okc (gB g) M0 a0 12)  (hq : lb_X12_pack_121  g M0 a0 p1 p2 p3 p4 p5 p6 post   M) (hw : Wd g s M0 M H locs) (hl : lv_has ls 11 [(0, .ref a0), (1, .int p1), (2, .int p2), (3, .int p3), (4, .int p4), (5, .int p5), (6, .int p6)]) : W p l e (rmo 1 0 0) s m args below meth c H locs 0 0 (MQ below (Cq g M0 (pI post)) args s 0 0 (gA g)) (F0 m 121 ls []) := by
  have hx := C.1.1
  have hb := C.1.2.1
  unfold lb_X12_pack_121 at hq
  refine lv_iconst (v := 0) hx hb dX12_pack_121 (by decide) ?_
  refine lv_istore (lv' := [(7, .int 0), (0, .ref a0), (1, .int p1), (2, .int p2), (3, .int p3), (4, .int p4), (5, .int p5), (6, .int p6)]) hx hb dX12_pack_122 hl (by decide) rfl (fun ls hl => ?_)
  refine lv_iconst (v := 0) hx hb dX12_pack_124 (by decide) ?_
  refine lv_istore (lv' := [(8, .int 0), (7, .int 0), (0, .ref a0), (1, .int p1), (2, .int p2), (3, .int p3), (4, .int p4), (5, .int p5), (6, .int p6)]) hx hb dX12_pack_125 hl (by decide) rfl (fun ls hl => ?_)
  refine lv_iconst (v := 0) hx hb dX12_pack_127 (by decide) ?_
  refine lv_istore (lv' := [(9, .int 0), (8, .int 0), (7, .int 0), (0, .ref a0), (1, .int p1), (2, .int p2), (3, .int p3), (4, .int p4), (5, .int p5), (6, .int p6)]) hx hb dX12_pack_128 hl (by decide) rfl (fun ls hl => ?_)
  obtain ⟨nf, hq⟩ := hq
  exact lp_X12_pack_130  C hr hlk hn h0  nf _ _ _ _ _ _ _ hq hw (lv_sub hl [3, 4, 5, 6, 7, 8, 9, 2, 1, 0] rfl)
set_option maxHeartbeats 4000000 in
set_option maxRecDepth 100000 in
theorem lp_X12_pack_100 {l : Launch} {g : Gh} {p : Program} {e : Env} {s : State} {m : MethodId} {args : Array Value} {below : List Frame} {meth : Method} {c : Code} {M0 : Mem} {a0 : Nat} {p1 : Int32} {p2 : Int32} {p3 : Int32} {p4 : Int32} {p5 : Int32} {p6 : Int32} {post : Int32 → Mem → Prop}  (C : Cx g p s m args c cX12_pack 11 RX12) (hr : meth.sig.returnType = (some .int)) (hlk : meth.locks = false) (hn : meth.name = "pack") (h0 : okc (gB g) M0 a0 12)  : ∀ (nf : Nat) (x7 : Int32)  (M : Mem) (H : Heap) (locs : List Loc) (ls : Array Slot), lfp (fun bk z => bd_X12_pack_100  g M0 a0 p1 p2 p3 p4 p5 p6 post  bk z.1 z.2) nf (x7, M) → Wd g s M0 M H locs → lv_has ls 11 [(0, .ref a0), (1, .int p1), (2, .int p2), (3, .int p3), (4, .int p4), (5, .int p5), (6, .int p6), (7, .int x7)] → W p l e (rmo 1 0 0) s m args below meth c H locs 0 0 (MQ below (Cq g M0 (pI post)) args s 0 0 (gA g)) (F0 m 100 ls []) := by
  have hx := C.1.1
  have hb := C.1.2.1
  intro nf
  induction nf with
  | zero => intro _ _ H locs ls hq; exact hq.elim
  | succ nf hk100 =>
    intro x7 M H locs ls hq hw hl
    replace hq : bd_X12_pack_100  g M0 a0 p1 p2 p3 p4 p5 p6 post  (lfp (fun bk z => bd_X12_pack_100  g M0 a0 p1 p2 p3 p4 p5 p6 post  bk z.1 z.2) nf) x7 M := hq
    unfold bd_X12_pack_100 at hq
    refine lv_iload hx hb dX12_pack_100 (lv_at hl 7 rfl) ?_
    refine lv_bipush (v := 8) hx hb dX12_pack_102 (by decide) ?_
    refine lv_icmp_ge (tgt := 121) hx hb dX12_pack_104 (by decide) (fun c64 => ?_) (fun c64 => ?_)
    · replace hq := hq.1 c64
      exact lt_X12_pack_121  C hr hlk hn h0  hq hw (lv_sub hl [0, 1, 2, 3, 4, 5, 6] rfl)
    · replace hq := hq.2 c64
      refine lv_aload_n hx hb dX12_pack_107 rfl (lv_at hl 0 rfl) ?_
      obtain ⟨q65, e66, hq⟩ := hq
      refine gfX12_90 C hw hw.2.2.1 h0 e66 dX12_pack_108 ?_
      refine lv_iload hx hb dX12_pack_111 (lv_at hl 7 rfl) ?_
      refine lv_iconst (v := 0) hx hb dX12_pack_113 (by decide) ?_
      obtain ⟨h67, hq⟩ := hq
      obtain ⟨h68, hq⟩ := hq
      refine q_iast C hw hw.2.2.1 h67 h68 dX12_pack_114 (fun H locs hw => ?_)
      generalize e70 : uI M q65 (Int32.toNatClampNeg x7) 0 = M69 at hw
      replace hq := hq M69 e70.symm
      have e66 : mR M69 a0 43 = some q65 := by rw [← e70, mR_uI]; exact e66
      refine lv_iinc (v := (x7 + 1)) (lv' := [(7, .int (x7 + 1)), (0, .ref a0), (1, .int p1), (2, .int p2), (3, .int p3), (4, .int p4), (5, .int p5), (6, .int p6)]) hx hb dX12_pack_115 hl (k := 7) rfl rfl (by decide) rfl (fun ls hl => ?_)
      refine lv_goto (tgt := 100) hx hb dX12_pack_118 (by decide) ?_
      exact hk100 _ _ _ _ _ hq hw (lv_sub hl [1, 2, 3, 4, 5, 6, 7, 0] rfl)
set_option maxHeartbeats 4000000 in
set_option maxRecDepth 100000 in
theorem lt_X12_pack_75 {l : Launch} {g : Gh} {p : Program} {e : Env} {s : State} {m : MethodId} {args : Array Value} {below : List Frame} {meth : Method} {c : Code} {H : Heap} {locs : List Loc} {ls : Array Slot} {M0 M : Mem} {a0 : Nat} {p1 : Int32} {p2 : Int32} {p3 : Int32} {p4 : Int32} {p5 : Int32} {p6 : Int32} {post : Int32 → Mem → Prop}  {s0 : Nat} {s1 : Int32}  (C : Cx g p s m args c cX12_pack 11 RX12) (hr : meth.sig.returnType = (some .int)) (hlk : meth.locks = false) (hn : meth.name = "pack") (h0 : okc (gB g) M0 a0 12)  (hq : lb_X12_pack_75  g M0 a0 p1 p2 p3 p4 p5 p6 post  s0 s1 M) (hw : Wd g s M0 M H locs) (hl : lv_has ls 11 [(0, .ref a0), (1, .int p1), (2, .int p2), (3, .int p3), (4, .int p4), (5, .int p5), (6, .int p6)]) : W p l e (rmo 1 0 0) s m args below meth c H locs 0 0 (MQ below (Cq g M0 (pI post)) args s 0 0 (gA g)) (F0 m 75 ls [.int s1, .ref s0]) := by
  have hx := C.1.1
  have hb := C.1.2.1
  unfold lb_X12_pack_75 at hq
  obtain ⟨h71, hq⟩ := hq
  refine pfX12_123 C hw hw.2.2.1 h71 dX12_pack_75 (fun H locs hw => ?_)
  generalize e73 : uI M s0 0 s1 = M72 at hw
  replace hq := hq M72 e73.symm
  refine lv_aload_n hx hb dX12_pack_78 rfl (lv_at hl 0 rfl) ?_
  refine gfX12_123 C hw hw.2.2.1 h0 dX12_pack_79 ?_
  refine lv_if_le (tgt := 87) hx hb dX12_pack_82 (by decide) (fun c74 => ?_) (fun c74 => ?_)
  · replace hq := hq.1 c74
    refine lv_aload_n hx hb dX12_pack_87 rfl (lv_at hl 0 rfl) ?_
    refine lv_iconst (v := 0) hx hb dX12_pack_88 (by decide) ?_
    refine pfX12_274 C hw hw.2.2.1 h0 dX12_pack_89 (fun H locs hw => ?_)
    generalize e76 : uI M72 a0 44 0 = M75 at hw
    replace hq := hq M75 e76.symm
    refine lv_aload_n hx hb dX12_pack_92 rfl (lv_at hl 0 rfl) ?_
    refine lv_iconst (v := 0) hx hb dX12_pack_93 (by decide) ?_
    refine pfX12_277 C hw hw.2.2.1 h0 dX12_pack_94 (fun H locs hw => ?_)
    generalize e78 : uI M75 a0 45 0 = M77 at hw
    replace hq := hq M77 e78.symm
    refine lv_iconst (v := 0) hx hb dX12_pack_97 (by decide) ?_
    refine lv_istore (lv' := [(7, .int 0), (0, .ref a0), (1, .int p1), (2, .int p2), (3, .int p3), (4, .int p4), (5, .int p5), (6, .int p6)]) hx hb dX12_pack_98 hl (by decide) rfl (fun ls hl => ?_)
    obtain ⟨nf, hq⟩ := hq
    exact lp_X12_pack_100  C hr hlk hn h0  nf _ _ _ _ _ hq hw (lv_sub hl [1, 2, 3, 4, 5, 6, 7, 0] rfl)
  · replace hq := hq.2 c74
    refine lv_iconst (v := 0) hx hb dX12_pack_85 (by decide) ?_
    exact r_iret C hr hlk hw dX12_pack_86 (Nat.le_refl _) (Nat.le_refl _) ⟨_, rfl, hq⟩
set_option maxHeartbeats 4000000 in
set_option maxRecDepth 100000 in
theorem ct_X12_pack {l : Launch} {g : Gh} {M0 : Mem} {a0 : Nat} {p1 : Int32} {p2 : Int32} {p3 : Int32} {p4 : Int32} {p5 : Int32} {p6 : Int32} {post : Int32 → Mem → Prop}  (hq : wp_X12_pack  g M0 a0 p1 p2 p3 p4 p5 p6 post) : Ct l g yX12_pack cX12_pack 11 (some .int) 1 0 0 [.ref a0, .int p1, .int p2, .int p3, .int p4, .int p5, .int p6] M0 (pI post) := by
  unfold wp_X12_pack at hq
  obtain ⟨h0, hq⟩ := hq
  refine Ct.of (by decide) (Nat.le_of_ble_eq_true rfl) ?_
  intro p e s m below meth c ls C hr hlk hn hl hw
  have hx := C.1.1
  have hb := C.1.2.1
  have hl : lv_has ls 11 [(0, .ref a0), (1, .int p1), (2, .int p2), (3, .int p3), (4, .int p4), (5, .int p5), (6, .int p6)] := hl
  refine lv_aload_n hx hb dX12_pack_0 rfl (lv_at hl 0 rfl) ?_
  refine lv_iload_n hx hb dX12_pack_1 rfl (lv_at hl 1 rfl) ?_
  refine r_callS (index := 254) (n := 1) (d2 := 0) (mc := 0) (ms := 0) (As := [.int p1]) (rest := [.ref a0]) C hw (ct_X12_isTeam hq) ksX12_254 ⟨by decide, by decide⟩ ⟨by decide, by decide⟩ rfl hl.1 rfl (Nat.le_of_ble_eq_true rfl) dX12_pack_2 (fun r M80 H locs hp hle hw => ?_)
  obtain ⟨v79, rfl, hq⟩ := hp
  refine W.eq (g2 := F0 m 5 ls [.int v79, .ref a0]) rfl ?_
  refine lv_if_eq (tgt := 52) hx hb dX12_pack_5 (by decide) (fun c81 => ?_) (fun c81 => ?_)
  · replace hq := hq.1 c81
    refine lv_iconst (v := 1) hx hb dX12_pack_52 (by decide) ?_
    refine lv_goto (tgt := 75) hx hb dX12_pack_53 (by decide) ?_
    exact lt_X12_pack_75  C hr hlk hn h0  hq hw (lv_sub hl [0, 1, 2, 3, 4, 5, 6] rfl)
  · replace hq := hq.2 c81
    refine lv_iload_n hx hb dX12_pack_8 rfl (lv_at hl 2 rfl) ?_
    refine r_callS (index := 254) (n := 1) (d2 := 0) (mc := 0) (ms := 0) (As := [.int p2]) (rest := [.ref a0]) C hw (ct_X12_isTeam hq) ksX12_254 ⟨by decide, by decide⟩ ⟨by decide, by decide⟩ rfl hl.1 rfl (Nat.le_of_ble_eq_true rfl) dX12_pack_9 (fun r M83 H locs hp hle hw => ?_)
    obtain ⟨v82, rfl, hq⟩ := hp
    refine W.eq (g2 := F0 m 12 ls [.int v82, .ref a0]) rfl ?_
    refine lv_if_eq (tgt := 52) hx hb dX12_pack_12 (by decide) (fun c84 => ?_) (fun c84 => ?_)
    · replace hq := hq.1 c84
      refine lv_iconst (v := 1) hx hb dX12_pack_52 (by decide) ?_
      refine lv_goto (tgt := 75) hx hb dX12_pack_53 (by decide) ?_
      exact lt_X12_pack_75  C hr hlk hn h0  hq hw (lv_sub hl [0, 1, 2, 3, 4, 5, 6] rfl)
    · replace hq := hq.2 c84
      refine lv_iload_n hx hb dX12_pack_15 rfl (lv_at hl 1 rfl) ?_
      refine lv_iload_n hx hb dX12_pack_16 rfl (lv_at hl 2 rfl) ?_
      refine lv_icmp_eq (tgt := 52) hx hb dX12_pack_17 (by decide) (fun c85 => ?_) (fun c85 => ?_)
      · replace hq := hq.1 c85
        refine lv_iconst (v := 1) hx hb dX12_pack_52 (by decide) ?_
        refine lv_goto (tgt := 75) hx hb dX12_pack_53 (by decide) ?_
        exact lt_X12_pack_75  C hr hlk hn h0  hq hw (lv_sub hl [0, 1, 2, 3, 4, 5, 6] rfl)
      · replace hq := hq.2 c85
        refine lv_iload_n hx hb dX12_pack_20 rfl (lv_at hl 3 rfl) ?_
        refine lv_iconst (v := 1) hx hb dX12_pack_21 (by decide) ?_
        refine lv_icmp_lt (tgt := 52) hx hb dX12_pack_22 (by decide) (fun c86 => ?_) (fun c86 => ?_)
        · replace hq := hq.1 c86
          refine lv_iconst (v := 1) hx hb dX12_pack_52 (by decide) ?_
          refine lv_goto (tgt := 75) hx hb dX12_pack_53 (by decide) ?_
          exact lt_X12_pack_75  C hr hlk hn h0  hq hw (lv_sub hl [0, 1, 2, 3, 4, 5, 6] rfl)
        · replace hq := hq.2 c86
          refine lv_iload_n hx hb dX12_pack_25 rfl (lv_at hl 3 rfl) ?_
          refine lv_bipush (v := 48) hx hb dX12_pack_26 (by decide) ?_
          refine lv_icmp_gt (tgt := 52) hx hb dX12_pack_28 (by decide) (fun c87 => ?_) (fun c87 => ?_)
          · replace hq := hq.1 c87
            refine lv_iconst (v := 1) hx hb dX12_pack_52 (by decide) ?_
            refine lv_goto (tgt := 75) hx hb dX12_pack_53 (by decide) ?_
            exact lt_X12_pack_75  C hr hlk hn h0  hq hw (lv_sub hl [0, 1, 2, 3, 4, 5, 6] rfl)
          · replace hq := hq.2 c87
            refine lv_iload hx hb dX12_pack_31 (lv_at hl 4 rfl) ?_
            refine lv_iload hx hb dX12_pack_33 (lv_at hl 5 rfl) ?_
            refine lv_icmp_gt (tgt := 52) hx hb dX12_pack_35 (by decide) (fun c88 => ?_) (fun c88 => ?_)
            · replace hq := hq.1 c88
              refine lv_iconst (v := 1) hx hb dX12_pack_52 (by decide) ?_
              refine lv_goto (tgt := 75) hx hb dX12_pack_53 (by decide) ?_
              exact lt_X12_pack_75  C hr hlk hn h0  hq hw (lv_sub hl [0, 1, 2, 3, 4, 5, 6] rfl)
            · replace hq := hq.2 c88
              refine lv_iload hx hb dX12_pack_38 (lv_at hl 6 rfl) ?_
              refine lv_iconst (v := 1) hx hb dX12_pack_40 (by decide) ?_
              refine lv_icmp_lt (tgt := 52) hx hb dX12_pack_41 (by decide) (fun c89 => ?_) (fun c89 => ?_)
              · replace hq := hq.1 c89
                refine lv_iconst (v := 1) hx hb dX12_pack_52 (by decide) ?_
                refine lv_goto (tgt := 75) hx hb dX12_pack_53 (by decide) ?_
                exact lt_X12_pack_75  C hr hlk hn h0  hq hw (lv_sub hl [0, 1, 2, 3, 4, 5, 6] rfl)
              · replace hq := hq.2 c89
                refine lv_iload hx hb dX12_pack_44 (lv_at hl 6 rfl) ?_
                refine lv_ldcw (v := 100000) hx hb C.1.2.2.2.1 (C.1.2.2.2.2 _ w_1500) dX12_pack_46 ?_
                refine lv_icmp_le (tgt := 56) hx hb dX12_pack_49 (by decide) (fun c90 => ?_) (fun c90 => ?_)
                · replace hq := hq.1 c90
                  refine lv_aload_n hx hb dX12_pack_56 rfl (lv_at hl 0 rfl) ?_
                  refine gfX12_270 C hw hw.2.2.1 h0 dX12_pack_57 ?_
                  refine lv_if_eq (tgt := 70) hx hb dX12_pack_60 (by decide) (fun c91 => ?_) (fun c91 => ?_)
                  · replace hq := hq.1 c91
                    refine lv_iconst (v := 2) hx hb dX12_pack_70 (by decide) ?_
                    refine lv_goto (tgt := 75) hx hb dX12_pack_71 (by decide) ?_
                    exact lt_X12_pack_75  C hr hlk hn h0  hq hw (lv_sub hl [0, 1, 2, 3, 4, 5, 6] rfl)
                  · replace hq := hq.2 c91
                    refine lv_aload_n hx hb dX12_pack_63 rfl (lv_at hl 0 rfl) ?_
                    refine gfX12_247 C hw hw.2.2.1 h0 dX12_pack_64 ?_
                    refine lv_if_eq (tgt := 74) hx hb dX12_pack_67 (by decide) (fun c92 => ?_) (fun c92 => ?_)
                    · replace hq := hq.1 c92
                      refine lv_iconst (v := 0) hx hb dX12_pack_74 (by decide) ?_
                      exact lt_X12_pack_75  C hr hlk hn h0  hq hw (lv_sub hl [0, 1, 2, 3, 4, 5, 6] rfl)
                    · replace hq := hq.2 c92
                      refine lv_iconst (v := 2) hx hb dX12_pack_70 (by decide) ?_
                      refine lv_goto (tgt := 75) hx hb dX12_pack_71 (by decide) ?_
                      exact lt_X12_pack_75  C hr hlk hn h0  hq hw (lv_sub hl [0, 1, 2, 3, 4, 5, 6] rfl)
                · replace hq := hq.2 c90
                  refine lv_iconst (v := 1) hx hb dX12_pack_52 (by decide) ?_
                  refine lv_goto (tgt := 75) hx hb dX12_pack_53 (by decide) ?_
                  exact lt_X12_pack_75  C hr hlk hn h0  hq hw (lv_sub hl [0, 1, 2, 3, 4, 5, 6] rfl)
