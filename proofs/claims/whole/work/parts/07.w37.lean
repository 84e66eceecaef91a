set_option maxRecDepth 100000 in
def lb_X12_counts_26  (g : Gh) (M0 : Mem) (a0 : Nat) (p1 : Int32) (p2 : Int32) (p3 : Int32) (post : Mem → Prop)   (s0 : Nat) (s1 : Int32) (s2 : Int32) (s3 : Int32) (M : Mem) : Prop :=
  okc (gB g) M0 s0 14 ∧ (vp_in s1 (mN M0 s0) ∧ (∀ M3, M3 = uI M s0 (Int32.toNatClampNeg s1) (s2 + s3) → (∃ q5, mR M3 a0 63 = some q5 ∧ (okc (gB g) M0 q5 14 ∧ (vp_in p1 (mN M0 q5) ∧ (∀ M9, M9 = uI M3 q5 (Int32.toNatClampNeg p1) ((mI M3 q5 (Int32.toNatClampNeg p1)) + 1) → (∃ q11, mR M9 a0 64 = some q11 ∧ (okc (gB g) M0 q11 14 ∧ (vp_in p1 (mN M0 q11) ∧ (∀ M15, M15 = uI M9 q11 (Int32.toNatClampNeg p1) ((mI M9 q11 (Int32.toNatClampNeg p1)) + p2) → (∃ q17, mR M15 a0 65 = some q17 ∧ (okc (gB g) M0 q17 14 ∧ (vp_in p1 (mN M0 q17) ∧ (∀ M21, M21 = uI M15 q17 (Int32.toNatClampNeg p1) ((mI M15 q17 (Int32.toNatClampNeg p1)) + p3) → (post M21)))))))))))))))
set_option maxRecDepth 100000 in
def wp_X12_counts  (g : Gh) (M0 : Mem) (a0 : Nat) (p1 : Int32) (p2 : Int32) (p3 : Int32) (post : Mem → Prop) : Prop :=
  okc (gB g) M0 a0 12 ∧ (∃ q23, mR M0 a0 62 = some q23 ∧ (okc (gB g) M0 q23 14 ∧ (vp_in p1 (mN M0 q23) ∧ (((p2 ≤ p3) → ((p2 = p3) → lb_X12_counts_26  g M0 a0 p1 p2 p3 post  q23 p1 (mI M0 q23 (Int32.toNatClampNeg p1)) 1 M0) ∧ (¬ (p2 = p3) → lb_X12_counts_26  g M0 a0 p1 p2 p3 post  q23 p1 (mI M0 q23 (Int32.toNatClampNeg p1)) 0 M0)) ∧ (¬ (p2 ≤ p3) → lb_X12_counts_26  g M0 a0 p1 p2 p3 post  q23 p1 (mI M0 q23 (Int32.toNatClampNeg p1)) 2 M0)))))
set_option maxHeartbeats 4000000 in
set_option maxRecDepth 100000 in
theorem lt_X12_counts_26 {l : Launch} {g : Gh} {p : Program} {e : Env} {s : State} {m : MethodId} {args : Array Value} {below : List Frame} {meth : Method} {c : Code} {H : Heap} {locs : List Loc} {ls : Array Slot} {M0 M : Mem} {a0 : Nat} {p1 : Int32} {p2 : Int32} {p3 : Int32} {post : Mem → Prop}  {s0 : Nat} {s1 : Int32} {s2 : Int32} {s3 : Int32}  (C : Cx g p s m args c cX12_counts 4 RX12) (hr : meth.sig.returnType = none) (hlk : meth.locks = false) (hn : meth.name = "counts") (h0 : okc (gB g) M0 a0 12)  (hq : lb_X12_counts_26  g M0 a0 p1 p2 p3 post  s0 s1 s2 s3 M) (hw : Wd g s M0 M H locs) (hl : lv_has ls 4 [(0, .ref a0), (1, .int p1), (2, .int p2), (3, .int p3)]) : W p l e (rmo 0 0 0) s m args below meth c H locs 0 0 (MQ below (Cq g M0 (pV post)) args s 0 0 (gA g)) (F0 m 26 ls [.int s3, .int s2, .int s1, .ref s0]) := by
  have hx := C.1.1
  have hb := C.1.2.1
  unfold lb_X12_counts_26 at hq
  refine lv_iadd hx hb dX12_counts_26 ?_
  obtain ⟨h1, hq⟩ := hq
  obtain ⟨h2, hq⟩ := hq
  refine q_iast C hw hw.2.2.1 h1 h2 dX12_counts_27 (fun H locs hw => ?_)
  generalize e4 : uI M s0 (Int32.toNatClampNeg s1) (s2 + s3) = M3 at hw
  replace hq := hq M3 e4.symm
  refine lv_aload_n hx hb dX12_counts_28 rfl (lv_at hl 0 rfl) ?_
  obtain ⟨q5, e6, hq⟩ := hq
  refine gfX12_114 C hw hw.2.2.1 h0 e6 dX12_counts_29 ?_
  refine lv_iload_n hx hb dX12_counts_32 rfl (lv_at hl 1 rfl) ?_
  refine lv_dup2_11 hx hb dX12_counts_33 rfl rfl ?_
  obtain ⟨h7, hq⟩ := hq
  obtain ⟨h8, hq⟩ := hq
  refine q_iald C hw hw.2.2.1 h7 h8 dX12_counts_34 ?_
  refine lv_iconst (v := 1) hx hb dX12_counts_35 (by decide) ?_
  refine lv_iadd hx hb dX12_counts_36 ?_
  refine q_iast C hw hw.2.2.1 h7 h8 dX12_counts_37 (fun H locs hw => ?_)
  generalize e10 : uI M3 q5 (Int32.toNatClampNeg p1) ((mI M3 q5 (Int32.toNatClampNeg p1)) + 1) = M9 at hw
  replace hq := hq M9 e10.symm
  have e6 : mR M9 a0 63 = some q5 := by rw [← e10, mR_uI]; exact e6
  refine lv_aload_n hx hb dX12_counts_38 rfl (lv_at hl 0 rfl) ?_
  obtain ⟨q11, e12, hq⟩ := hq
  refine gfX12_117 C hw hw.2.2.1 h0 e12 dX12_counts_39 ?_
  refine lv_iload_n hx hb dX12_counts_42 rfl (lv_at hl 1 rfl) ?_
  refine lv_dup2_11 hx hb dX12_counts_43 rfl rfl ?_
  obtain ⟨h13, hq⟩ := hq
  obtain ⟨h14, hq⟩ := hq
  refine q_iald C hw hw.2.2.1 h13 h14 dX12_counts_44 ?_
  refine lv_iload_n hx hb dX12_counts_45 rfl (lv_at hl 2 rfl) ?_
  refine lv_iadd hx hb dX12_counts_46 ?_
  refine q_iast C hw hw.2.2.1 h13 h14 dX12_counts_47 (fun H locs hw => ?_)
  generalize e16 : uI M9 q11 (Int32.toNatClampNeg p1) ((mI M9 q11 (Int32.toNatClampNeg p1)) + p2) = M15 at hw
  replace hq := hq M15 e16.symm
  have e6 : mR M15 a0 63 = some q5 := by rw [← e16, mR_uI]; exact e6
  have e12 : mR M15 a0 64 = some q11 := by rw [← e16, mR_uI]; exact e12
  refine lv_aload_n hx hb dX12_counts_48 rfl (lv_at hl 0 rfl) ?_
  obtain ⟨q17, e18, hq⟩ := hq
  refine gfX12_120 C hw hw.2.2.1 h0 e18 dX12_counts_49 ?_
  refine lv_iload_n hx hb dX12_counts_52 rfl (lv_at hl 1 rfl) ?_
  refine lv_dup2_11 hx hb dX12_counts_53 rfl rfl ?_
  obtain ⟨h19, hq⟩ := hq
  obtain ⟨h20, hq⟩ := hq
  refine q_iald C hw hw.2.2.1 h19 h20 dX12_counts_54 ?_
  refine lv_iload_n hx hb dX12_counts_55 rfl (lv_at hl 3 rfl) ?_
  refine lv_iadd hx hb dX12_counts_56 ?_
  refine q_iast C hw hw.2.2.1 h19 h20 dX12_counts_57 (fun H locs hw => ?_)
  generalize e22 : uI M15 q17 (Int32.toNatClampNeg p1) ((mI M15 q17 (Int32.toNatClampNeg p1)) + p3) = M21 at hw
  replace hq := hq M21 e22.symm
  have e6 : mR M21 a0 63 = some q5 := by rw [← e22, mR_uI]; exact e6
  have e12 : mR M21 a0 64 = some q11 := by rw [← e22, mR_uI]; exact e12
  have e18 : mR M21 a0 65 = some q17 := by rw [← e22, mR_uI]; exact e18
  exact r_vret C hr hlk hw dX12_counts_58 (Nat.le_refl _) (Nat.le_refl _) ⟨rfl, hq⟩
set_option maxHeartbeats 4000000 in
set_option maxRecDepth 100000 in
theorem ct_X12_counts {l : Launch} {g : Gh} {M0 : Mem} {a0 : Nat} {p1 : Int32} {p2 : Int32} {p3 : Int32} {post : Mem → Prop}  (hq : wp_X12_counts  g M0 a0 p1 p2 p3 post) : Ct l g yX12_counts cX12_counts 4 none 0 0 0 [.ref a0, .int p1, .int p2, .int p3] M0 (pV post) := by
  unfold wp_X12_counts at hq
  obtain ⟨h0, hq⟩ := hq
  refine Ct.of (by decide) (Nat.le_of_ble_eq_true rfl) ?_
  intro p e s m below meth c ls C hr hlk hn hl hw
  have hx := C.1.1
  have hb := C.1.2.1
  have hl : lv_has ls 4 [(0, .ref a0), (1, .int p1), (2, .int p2), (3, .int p3)] := hl
  refine lv_aload_n hx hb dX12_counts_0 rfl (lv_at hl 0 rfl) ?_
  obtain ⟨q23, e24, hq⟩ := hq
  refine gfX12_111 C hw hw.2.2.1 h0 e24 dX12_counts_1 ?_
  refine lv_iload_n hx hb dX12_counts_4 rfl (lv_at hl 1 rfl) ?_
  refine lv_dup2_11 hx hb dX12_counts_5 rfl rfl ?_
  obtain ⟨h25, hq⟩ := hq
  obtain ⟨h26, hq⟩ := hq
  refine q_iald C hw hw.2.2.1 h25 h26 dX12_counts_6 ?_
  refine lv_iload_n hx hb dX12_counts_7 rfl (lv_at hl 2 rfl) ?_
  refine lv_iload_n hx hb dX12_counts_8 rfl (lv_at hl 3 rfl) ?_
  refine lv_icmp_le (tgt := 16) hx hb dX12_counts_9 (by decide) (fun c27 => ?_) (fun c27 => ?_)
  · replace hq := hq.1 c27
    refine lv_iload_n hx hb dX12_counts_16 rfl (lv_at hl 2 rfl) ?_
    refine lv_iload_n hx hb dX12_counts_17 rfl (lv_at hl 3 rfl) ?_
    refine lv_icmp_ne (tgt := 25) hx hb dX12_counts_18 (by decide) (fun c28 => ?_) (fun c28 => ?_)
    · replace hq := hq.2 c28
      refine lv_iconst (v := 0) hx hb dX12_counts_25 (by decide) ?_
      exact lt_X12_counts_26  C hr hlk hn h0  hq hw (lv_sub hl [0, 1, 2, 3] rfl)
    · replace hq := hq.1 c28
      refine lv_iconst (v := 1) hx hb dX12_counts_21 (by decide) ?_
      refine lv_goto (tgt := 26) hx hb dX12_counts_22 (by decide) ?_
      exact lt_X12_counts_26  C hr hlk hn h0  hq hw (lv_sub hl [0, 1, 2, 3] rfl)
  · replace hq := hq.2 c27
    refine lv_iconst (v := 2) hx hb dX12_counts_12 (by decide) ?_
    refine lv_goto (tgt := 26) hx hb dX12_counts_13 (by decide) ?_
    exact lt_X12_counts_26  C hr hlk hn h0  hq hw (lv_sub hl [0, 1, 2, 3] rfl)

set_option maxRecDepth 100000 in
def lb_X12_finish_196  (g : Gh) (M0 : Mem) (a0 : Nat) (post : Int32 → Mem → Prop)    (M : Mem) : Prop :=
  ∀ M1, M1 = uI M a0 48 0 → (∀ M3, M3 = uI M1 a0 66 ((mI M1 a0 66) + 1) → (post 1 M3))
set_option maxRecDepth 100000 in
def lb_X12_finish_163  (g : Gh) (M0 : Mem) (a0 : Nat) (post : Int32 → Mem → Prop) (bk56 : Int32 × Mem → Prop) (x1 : Int32)  (M : Mem) : Prop :=
  ∃ q5, mR M a0 22 = some q5 ∧ (∃ q7, mR M a0 41 = some q7 ∧ (okc (gB g) M0 q7 14 ∧ (vp_in x1 (mN M0 q7) ∧ (okc (gB g) M0 q5 14 ∧ (vp_in (mI M q7 (Int32.toNatClampNeg x1)) (mN M0 q5) ∧ (∀ M13, M13 = uI M q5 (Int32.toNatClampNeg (mI M q7 (Int32.toNatClampNeg x1))) ((mI M q5 (Int32.toNatClampNeg (mI M q7 (Int32.toNatClampNeg x1)))) ||| ((1 <<< ((mI M a0 46) &&& 31)) ||| (1 <<< ((mI M a0 47) &&& 31)))) → (bk56 ((x1 + 1), M13))))))))
set_option maxRecDepth 100000 in
def lb_X12_finish_129  (g : Gh) (M0 : Mem) (a0 : Nat) (post : Int32 → Mem → Prop) (bk56 : Int32 × Mem → Prop) (x1 : Int32) (x2 : Int32)  (M : Mem) : Prop :=
  ∃ q15, mR M a0 20 = some q15 ∧ (∃ q17, mR M a0 41 = some q17 ∧ (okc (gB g) M0 q17 14 ∧ (vp_in x1 (mN M0 q17) ∧ (okc (gB g) M0 q15 14 ∧ (vp_in (mI M q17 (Int32.toNatClampNeg x1)) (mN M0 q15) ∧ (∀ M23, M23 = uI M q15 (Int32.toNatClampNeg (mI M q17 (Int32.toNatClampNeg x1))) ((mI M q15 (Int32.toNatClampNeg (mI M q17 (Int32.toNatClampNeg x1)))) + 1) → (((x2 = 0) → lb_X12_finish_163  g M0 a0 post bk56 x1 M23) ∧ (¬ (x2 = 0) → ∃ q26, mR M23 a0 21 = some q26 ∧ (okc (gB g) M0 q26 14 ∧ (vp_in (mI M23 q17 (Int32.toNatClampNeg x1)) (mN M0 q26) ∧ (∀ M30, M30 = uI M23 q26 (Int32.toNatClampNeg (mI M23 q17 (Int32.toNatClampNeg x1))) ((mI M23 q26 (Int32.toNatClampNeg (mI M23 q17 (Int32.toNatClampNeg x1)))) + 1) → (lb_X12_finish_163  g M0 a0 post bk56 x1 M30))))))))))))
set_option maxRecDepth 100000 in
def lb_X12_finish_123  (g : Gh) (M0 : Mem) (a0 : Nat) (post : Int32 → Mem → Prop) (bk56 : Int32 × Mem → Prop) (bk68 : Int32 × Int32 × Int32 × Mem → Prop) (x1 : Int32) (x2 : Int32) (x3 : Int32)  (M : Mem) : Prop :=
  bk68 (x1, x2, (x3 + 1), M)
set_option maxRecDepth 100000 in
def bd_X12_finish_68  (g : Gh) (M0 : Mem) (a0 : Nat) (post : Int32 → Mem → Prop) (bk56 : Int32 × Mem → Prop) (bk68 : Int32 × Int32 × Int32 × Mem → Prop) (x1 : Int32) (x2 : Int32) (x3 : Int32)  (M : Mem) : Prop :=
  (((mI M a0 49) ≤ x3) → lb_X12_finish_129  g M0 a0 post bk56 x1 x2 M) ∧ (¬ ((mI M a0 49) ≤ x3) → ((x2 = 0) → ∃ q34, mR M a0 56 = some q34 ∧ (okc (gB g) M0 q34 14 ∧ (vp_in x3 (mN M0 q34) ∧ ((((mI M q34 (Int32.toNatClampNeg x3)) = x1) → ∃ q39, mR M a0 57 = some q39 ∧ (okc (gB g) M0 q39 14 ∧ (vp_in x3 (mN M0 q39) ∧ ((((mI M q39 (Int32.toNatClampNeg x3)) = 0) → ∃ q44, mR M a0 60 = some q44 ∧ (okc (gB g) M0 q44 17 ∧ (vp_in x3 (mN M0 q44) ∧ ((((mI M q44 (Int32.toNatClampNeg x3)) = 0) → lb_X12_finish_123  g M0 a0 post bk56 bk68 x1 0 x3 M) ∧ (¬ ((mI M q44 (Int32.toNatClampNeg x3)) = 0) → ∃ q49, mR M a0 61 = some q49 ∧ (okc (gB g) M0 q49 17 ∧ (vp_in x3 (mN M0 q49) ∧ ((((mI M q49 (Int32.toNatClampNeg x3)) = 0) → lb_X12_finish_123  g M0 a0 post bk56 bk68 x1 1 x3 M) ∧ (¬ ((mI M q49 (Int32.toNatClampNeg x3)) = 0) → lb_X12_finish_123  g M0 a0 post bk56 bk68 x1 0 x3 M))))))))) ∧ (¬ ((mI M q39 (Int32.toNatClampNeg x3)) = 0) → lb_X12_finish_123  g M0 a0 post bk56 bk68 x1 0 x3 M))))) ∧ (¬ ((mI M q34 (Int32.toNatClampNeg x3)) = x1) → lb_X12_finish_123  g M0 a0 post bk56 bk68 x1 0 x3 M))))) ∧ (¬ (x2 = 0) → lb_X12_finish_123  g M0 a0 post bk56 bk68 x1 1 x3 M))
set_option maxRecDepth 100000 in
def bd_X12_finish_56  (g : Gh) (M0 : Mem) (a0 : Nat) (post : Int32 → Mem → Prop)  (bk56 : Int32 × Mem → Prop) (x1 : Int32)  (M : Mem) : Prop :=
  (((mI M a0 44) ≤ x1) → lb_X12_finish_196  g M0 a0 post   M) ∧ (¬ ((mI M a0 44) ≤ x1) → (∃ n : Nat, lfp (fun bk z => bd_X12_finish_68  g M0 a0 post bk56 bk z.1 z.2.1 z.2.2.1 z.2.2.2) n (x1, 0, 0, M)))
set_option maxRecDepth 100000 in
def wp_X12_finish  (g : Gh) (M0 : Mem) (a0 : Nat) (post : Int32 → Mem → Prop) : Prop :=
  okc (gB g) M0 a0 12 ∧ (∀ M55, M55 = uI M0 a0 0 0 → ((((mI M55 a0 48) = 0) → post 0 M55) ∧ (¬ ((mI M55 a0 48) = 0) → ((3 ≤ (mI M55 a0 51)) → wp_X12_counts g M55 a0 (mI M55 a0 46) (mI M55 a0 53) (mI M55 a0 54) (fun M60 => wp_X12_counts g M60 a0 (mI M60 a0 47) (mI M60 a0 54) (mI M60 a0 53) (fun M62 => (∃ n : Nat, lfp (fun bk z => bd_X12_finish_56  g M0 a0 post  bk z.1 z.2) n (0, M62))))) ∧ (¬ (3 ≤ (mI M55 a0 51)) → post 0 M55))))
set_option maxHeartbeats 4000000 in
set_option maxRecDepth 100000 in
theorem lt_X12_finish_196 {l : Launch} {g : Gh} {p : Program} {e : Env} {s : State} {m : MethodId} {args : Array Value} {below : List Frame} {meth : Method} {c : Code} {H : Heap} {locs : List Loc} {ls : Array Slot} {M0 M : Mem} {a0 : Nat} {post : Int32 → Mem → Prop}    (C : Cx g p s m args c cX12_finish 4 RX12) (hr : meth.sig.returnType = (some .boolean)) (hlk : meth.locks = false) (hn : meth.name = "finish") (h0 : okc (gB g) M0 a0 12)  (hq : lb_X12_finish_196  g M0 a0 post   M) (hw : Wd g s M0 M H locs) (hl : lv_has ls 4 [(0, .ref a0)]) : W p l e (rmo 1 0 0) s m args below meth c H locs 0 0 (MQ below (Cq g M0 (pI post)) args s 0 0 (gA g)) (F0 m 196 ls []) := by
  have hx := C.1.1
  have hb := C.1.2.1
  unfold lb_X12_finish_196 at hq
  refine lv_aload_n hx hb dX12_finish_196 rfl (lv_at hl 0 rfl) ?_
  refine lv_iconst (v := 0) hx hb dX12_finish_197 (by decide) ?_
  refine pfX12_247 C hw hw.2.2.1 h0 (by decide) dX12_finish_198 (fun H locs hw => ?_)
  generalize e2 : uI M a0 48 0 = M1 at hw
  replace hq := hq M1 e2.symm
  refine lv_aload_n hx hb dX12_finish_201 rfl (lv_at hl 0 rfl) ?_
  refine lv_dup hx hb dX12_finish_202 rfl ?_
  refine gfX12_334 C hw hw.2.2.1 h0 dX12_finish_203 ?_
  refine lv_iconst (v := 1) hx hb dX12_finish_206 (by decide) ?_
  refine lv_iadd hx hb dX12_finish_207 ?_
  refine pfX12_334 C hw hw.2.2.1 h0 dX12_finish_208 (fun H locs hw => ?_)
  generalize e4 : uI M1 a0 66 ((mI M1 a0 66) + 1) = M3 at hw
  replace hq := hq M3 e4.symm
  refine lv_iconst (v := 1) hx hb dX12_finish_211 (by decide) ?_
  exact r_zret C hr hlk hw dX12_finish_212 (Nat.le_refl _) (Nat.le_refl _) (by decide) ⟨_, rfl, hq⟩
set_option maxHeartbeats 4000000 in
set_option maxRecDepth 100000 in
theorem lt_X12_finish_163 {l : Launch} {g : Gh} {p : Program} {e : Env} {s : State} {m : MethodId} {args : Array Value} {below : List Frame} {meth : Method} {c : Code} {H : Heap} {locs : List Loc} {ls : Array Slot} {M0 M : Mem} {a0 : Nat} {post : Int32 → Mem → Prop} {x1 : Int32}   (C : Cx g p s m args c cX12_finish 4 RX12) (hr : meth.sig.returnType = (some .boolean)) (hlk : meth.locks = false) (hn : meth.name = "finish") (h0 : okc (gB g) M0 a0 12) {bk56 : Int32 × Mem → Prop} (hk56 : ∀ (x1 : Int32) (M : Mem) (H : Heap) (locs : List Loc) (ls : Array Slot), bk56 (x1, M) → Wd g s M0 M H locs → lv_has ls 4 [(0, .ref a0), (1, .int x1)] → W p l e (rmo 1 0 0) s m args below meth c H locs 0 0 (MQ below (Cq g M0 (pI post)) args s 0 0 (gA g)) (F0 m 56 ls [])) (hq : lb_X12_finish_163  g M0 a0 post bk56 x1 M) (hw : Wd g s M0 M H locs) (hl : lv_has ls 4 [(0, .ref a0), (1, .int x1)]) : W p l e (rmo 1 0 0) s m args below meth c H locs 0 0 (MQ below (Cq g M0 (pI post)) args s 0 0 (gA g)) (F0 m 163 ls []) := by
  have hx := C.1.1
  have hb := C.1.2.1
  unfold lb_X12_finish_163 at hq
  refine lv_aload_n hx hb dX12_finish_163 rfl (lv_at hl 0 rfl) ?_
  obtain ⟨q5, e6, hq⟩ := hq
  refine gfX12_38 C hw hw.2.2.1 h0 e6 dX12_finish_164 ?_
  refine lv_aload_n hx hb dX12_finish_167 rfl (lv_at hl 0 rfl) ?_
  obtain ⟨q7, e8, hq⟩ := hq
  refine gfX12_84 C hw hw.2.2.1 h0 e8 dX12_finish_168 ?_
  refine lv_iload_n hx hb dX12_finish_171 rfl (lv_at hl 1 rfl) ?_
  obtain ⟨h9, hq⟩ := hq
  obtain ⟨h10, hq⟩ := hq
  refine q_iald C hw hw.2.2.1 h9 h10 dX12_finish_172 ?_
  refine lv_dup2_11 hx hb dX12_finish_173 rfl rfl ?_
  obtain ⟨h11, hq⟩ := hq
  obtain ⟨h12, hq⟩ := hq
  refine q_iald C hw hw.2.2.1 h11 h12 dX12_finish_174 ?_
  refine lv_iconst (v := 1) hx hb dX12_finish_175 (by decide) ?_
  refine lv_aload_n hx hb dX12_finish_176 rfl (lv_at hl 0 rfl) ?_
  refine gfX12_284 C hw hw.2.2.1 h0 dX12_finish_177 ?_
  refine lv_ishl hx hb dX12_finish_180 ?_
  refine lv_iconst (v := 1) hx hb dX12_finish_181 (by decide) ?_
  refine lv_aload_n hx hb dX12_finish_182 rfl (lv_at hl 0 rfl) ?_
  refine gfX12_287 C hw hw.2.2.1 h0 dX12_finish_183 ?_
  refine lv_ishl hx hb dX12_finish_186 ?_
  refine lv_ior hx hb dX12_finish_187 ?_
  refine lv_ior hx hb dX12_finish_188 ?_
  refine q_iast C hw hw.2.2.1 h11 h12 dX12_finish_189 (fun H locs hw => ?_)
  generalize e14 : uI M q5 (Int32.toNatClampNeg (mI M q7 (Int32.toNatClampNeg x1))) ((mI M q5 (Int32.toNatClampNeg (mI M q7 (Int32.toNatClampNeg x1)))) ||| ((1 <<< ((mI M a0 46) &&& 31)) ||| (1 <<< ((mI M a0 47) &&& 31)))) = M13 at hw
  replace hq := hq M13 e14.symm
  have e6 : mR M13 a0 22 = some q5 := by rw [← e14, mR_uI]; exact e6
  have e8 : mR M13 a0 41 = some q7 := by rw [← e14, mR_uI]; exact e8
  refine lv_iinc (v := (x1 + 1)) (lv' := [(1, .int (x1 + 1)), (0, .ref a0)]) hx hb dX12_finish_190 hl (k := 1) rfl rfl (by decide) rfl (fun ls hl => ?_)
  refine lv_goto (tgt := 56) hx hb dX12_finish_193 (by decide) ?_
  exact hk56 _ _ _ _ _ hq hw (lv_sub hl [1, 0] rfl)
set_option maxHeartbeats 4000000 in
set_option maxRecDepth 100000 in
theorem lt_X12_finish_129 {l : Launch} {g : Gh} {p : Program} {e : Env} {s : State} {m : MethodId} {args : Array Value} {below : List Frame} {meth : Method} {c : Code} {H : Heap} {locs : List Loc} {ls : Array Slot} {M0 M : Mem} {a0 : Nat} {post : Int32 → Mem → Prop} {x1 : Int32} {x2 : Int32}   (C : Cx g p s m args c cX12_finish 4 RX12) (hr : meth.sig.returnType = (some .boolean)) (hlk : meth.locks = false) (hn : meth.name = "finish") (h0 : okc (gB g) M0 a0 12) {bk56 : Int32 × Mem → Prop} (hk56 : ∀ (x1 : Int32) (M : Mem) (H : Heap) (locs : List Loc) (ls : Array Slot), bk56 (x1, M) → Wd g s M0 M H locs → lv_has ls 4 [(0, .ref a0), (1, .int x1)] → W p l e (rmo 1 0 0) s m args below meth c H locs 0 0 (MQ below (Cq g M0 (pI post)) args s 0 0 (gA g)) (F0 m 56 ls [])) (hq : lb_X12_finish_129  g M0 a0 post bk56 x1 x2 M) (hw : Wd g s M0 M H locs) (hl : lv_has ls 4 [(0, .ref a0), (1, .int x1), (2, .int x2)]) : W p l e (rmo 1 0 0) s m args below meth c H locs 0 0 (MQ below (Cq g M0 (pI post)) args s 0 0 (gA g)) (F0 m 129 ls []) := by
  have hx := C.1.1
  have hb := C.1.2.1
  unfold lb_X12_finish_129 at hq
  refine lv_aload_n hx hb dX12_finish_129 rfl (lv_at hl 0 rfl) ?_
  obtain ⟨q15, e16, hq⟩ := hq
  refine gfX12_32 C hw hw.2.2.1 h0 e16 dX12_finish_130 ?_
  refine lv_aload_n hx hb dX12_finish_133 rfl (lv_at hl 0 rfl) ?_
  obtain ⟨q17, e18, hq⟩ := hq
  refine gfX12_84 C hw hw.2.2.1 h0 e18 dX12_finish_134 ?_
  refine lv_iload_n hx hb dX12_finish_137 rfl (lv_at hl 1 rfl) ?_
  obtain ⟨h19, hq⟩ := hq
  obtain ⟨h20, hq⟩ := hq
  refine q_iald C hw hw.2.2.1 h19 h20 dX12_finish_138 ?_
  refine lv_dup2_11 hx hb dX12_finish_139 rfl rfl ?_
  obtain ⟨h21, hq⟩ := hq
  obtain ⟨h22, hq⟩ := hq
  refine q_iald C hw hw.2.2.1 h21 h22 dX12_finish_140 ?_
  refine lv_iconst (v := 1) hx hb dX12_finish_141 (by decide) ?_
  refine lv_iadd hx hb dX12_finish_142 ?_
  refine q_iast C hw hw.2.2.1 h21 h22 dX12_finish_143 (fun H locs hw => ?_)
  generalize e24 : uI M q15 (Int32.toNatClampNeg (mI M q17 (Int32.toNatClampNeg x1))) ((mI M q15 (Int32.toNatClampNeg (mI M q17 (Int32.toNatClampNeg x1)))) + 1) = M23 at hw
  replace hq := hq M23 e24.symm
  have e16 : mR M23 a0 20 = some q15 := by rw [← e24, mR_uI]; exact e16
  have e18 : mR M23 a0 41 = some q17 := by rw [← e24, mR_uI]; exact e18
  refine lv_iload_n hx hb dX12_finish_144 rfl (lv_at hl 2 rfl) ?_
  refine lv_if_eq (tgt := 163) hx hb dX12_finish_145 (by decide) (fun c25 => ?_) (fun c25 => ?_)
  · replace hq := hq.1 c25
    exact lt_X12_finish_163  C hr hlk hn h0 hk56 hq hw (lv_sub hl [0, 1] rfl)
  · replace hq := hq.2 c25
    refine lv_aload_n hx hb dX12_finish_148 rfl (lv_at hl 0 rfl) ?_
    obtain ⟨q26, e27, hq⟩ := hq
    refine gfX12_35 C hw hw.2.2.1 h0 e27 dX12_finish_149 ?_
    refine lv_aload_n hx hb dX12_finish_152 rfl (lv_at hl 0 rfl) ?_
    refine gfX12_84 C hw hw.2.2.1 h0 e18 dX12_finish_153 ?_
    refine lv_iload_n hx hb dX12_finish_156 rfl (lv_at hl 1 rfl) ?_
    refine q_iald C hw hw.2.2.1 h19 h20 dX12_finish_157 ?_
    refine lv_dup2_11 hx hb dX12_finish_158 rfl rfl ?_
    obtain ⟨h28, hq⟩ := hq
    obtain ⟨h29, hq⟩ := hq
    refine q_iald C hw hw.2.2.1 h28 h29 dX12_finish_159 ?_
    refine lv_iconst (v := 1) hx hb dX12_finish_160 (by decide) ?_
    refine lv_iadd hx hb dX12_finish_161 ?_
    refine q_iast C hw hw.2.2.1 h28 h29 dX12_finish_162 (fun H locs hw => ?_)
    generalize e31 : uI M23 q26 (Int32.toNatClampNeg (mI M23 q17 (Int32.toNatClampNeg x1))) ((mI M23 q26 (Int32.toNatClampNeg (mI M23 q17 (Int32.toNatClampNeg x1)))) + 1) = M30 at hw
    replace hq := hq M30 e31.symm
    have e16 : mR M30 a0 20 = some q15 := by rw [← e31, mR_uI]; exact e16
    have e18 : mR M30 a0 41 = some q17 := by rw [← e31, mR_uI]; exact e18
    have e27 : mR M30 a0 21 = some q26 := by rw [← e31, mR_uI]; exact e27
    exact lt_X12_finish_163  C hr hlk hn h0 hk56 hq hw (lv_sub hl [0, 1] rfl)
set_option maxHeartbeats 4000000 in
set_option maxRecDepth 100000 in
theorem lt_X12_finish_123 {l : Launch} {g : Gh} {p : Program} {e : Env} {s : State} {m : MethodId} {args : Array Value} {below : List Frame} {meth : Method} {c : Code} {H : Heap} {locs : List Loc} {ls : Array Slot} {M0 M : Mem} {a0 : Nat} {post : Int32 → Mem → Prop} {x1 : Int32} {x2 : Int32} {x3 : Int32}   (C : Cx g p s m args c cX12_finish 4 RX12) (hr : meth.sig.returnType = (some .boolean)) (hlk : meth.locks = false) (hn : meth.name = "finish") (h0 : okc (gB g) M0 a0 12) {bk56 : Int32 × Mem → Prop} (hk56 : ∀ (x1 : Int32) (M : Mem) (H : Heap) (locs : List Loc) (ls : Array Slot), bk56 (x1, M) → Wd g s M0 M H locs → lv_has ls 4 [(0, .ref a0), (1, .int x1)] → W p l e (rmo 1 0 0) s m args below meth c H locs 0 0 (MQ below (Cq g M0 (pI post)) args s 0 0 (gA g)) (F0 m 56 ls [])) {bk68 : Int32 × Int32 × Int32 × Mem → Prop} (hk68 : ∀ (x1 : Int32) (x2 : Int32) (x3 : Int32) (M : Mem) (H : Heap) (locs : List Loc) (ls : Array Slot), bk68 (x1, x2, x3, M) → Wd g s M0 M H locs → lv_has ls 4 [(0, .ref a0), (1, .int x1), (2, .int x2), (3, .int x3)] → W p l e (rmo 1 0 0) s m args below meth c H locs 0 0 (MQ below (Cq g M0 (pI post)) args s 0 0 (gA g)) (F0 m 68 ls [])) (hq : lb_X12_finish_123  g M0 a0 post bk56 bk68 x1 x2 x3 M) (hw : Wd g s M0 M H locs) (hl : lv_has ls 4 [(0, .ref a0), (1, .int x1), (2, .int x2), (3, .int x3)]) : W p l e (rmo 1 0 0) s m args below meth c H locs 0 0 (MQ below (Cq g M0 (pI post)) args s 0 0 (gA g)) (F0 m 123 ls []) := by
  have hx := C.1.1
  have hb := C.1.2.1
  unfold lb_X12_finish_123 at hq
  refine lv_iinc (v := (x3 + 1)) (lv' := [(3, .int (x3 + 1)), (0, .ref a0), (1, .int x1), (2, .int x2)]) hx hb dX12_finish_123 hl (k := 3) rfl rfl (by decide) rfl (fun ls hl => ?_)
  refine lv_goto (tgt := 68) hx hb dX12_finish_126 (by decide) ?_
  exact hk68 _ _ _ _ _ _ _ hq hw (lv_sub hl [1, 2, 3, 0] rfl)
set_option maxHeartbeats 4000000 in
set_option maxRecDepth 100000 in
theorem lp_X12_finish_68 {l : Launch} {g : Gh} {p : Program} {e : Env} {s : State} {m : MethodId} {args : Array Value} {below : List Frame} {meth : Method} {c : Code} {M0 : Mem} {a0 : Nat} {post : Int32 → Mem → Prop}  (C : Cx g p s m args c cX12_finish 4 RX12) (hr : meth.sig.returnType = (some .boolean)) (hlk : meth.locks = false) (hn : meth.name = "finish") (h0 : okc (gB g) M0 a0 12) {bk56 : Int32 × Mem → Prop} (hk56 : ∀ (x1 : Int32) (M : Mem) (H : Heap) (locs : List Loc) (ls : Array Slot), bk56 (x1, M) → Wd g s M0 M H locs → lv_has ls 4 [(0, .ref a0), (1, .int x1)] → W p l e (rmo 1 0 0) s m args below meth c H locs 0 0 (MQ below (Cq g M0 (pI post)) args s 0 0 (gA g)) (F0 m 56 ls [])) : ∀ (nf : Nat) (x1 : Int32) (x2 : Int32) (x3 : Int32)  (M : Mem) (H : Heap) (locs : List Loc) (ls : Array Slot), lfp (fun bk z => bd_X12_finish_68  g M0 a0 post bk56 bk z.1 z.2.1 z.2.2.1 z.2.2.2) nf (x1, x2, x3, M) → Wd g s M0 M H locs → lv_has ls 4 [(0, .ref a0), (1, .int x1), (2, .int x2), (3, .int x3)] → W p l e (rmo 1 0 0) s m args below meth c H locs 0 0 (MQ below (Cq g M0 (pI post)) args s 0 0 (gA g)) (F0 m 68 ls []) := by
  have hx := C.1.1
  have hb := C.1.2.1
  intro nf
  induction nf with
  | zero => intro _ _ _ _ H locs ls hq; exact hq.elim
  | succ nf hk68 =>
    intro x1 x2 x3 M H locs ls hq hw hl
    replace hq : bd_X12_finish_68  g M0 a0 post bk56 (lfp (fun bk z => bd_X12_finish_68  g M0 a0 post bk56 bk z.1 z.2.1 z.2.2.1 z.2.2.2) nf) x1 x2 x3 M := hq
    unfold bd_X12_finish_68 at hq
    refine lv_iload_n hx hb dX12_finish_68 rfl (lv_at hl 3 rfl) ?_
    refine lv_aload_n hx hb dX12_finish_69 rfl (lv_at hl 0 rfl) ?_
    refine gfX12_290 C hw hw.2.2.1 h0 dX12_finish_70 ?_
    refine lv_icmp_ge (tgt := 129) hx hb dX12_finish_73 (by decide) (fun c32 => ?_) (fun c32 => ?_)
    · replace hq := hq.1 c32
      exact lt_X12_finish_129  C hr hlk hn h0 hk56 hq hw (lv_sub hl [0, 1, 2] rfl)
    · replace hq := hq.2 c32
      refine lv_iload_n hx hb dX12_finish_76 rfl (lv_at hl 2 rfl) ?_
      refine lv_if_ne (tgt := 117) hx hb dX12_finish_77 (by decide) (fun c33 => ?_) (fun c33 => ?_)
      · replace hq := hq.2 c33
        refine lv_iconst (v := 1) hx hb dX12_finish_117 (by decide) ?_
        refine lv_goto (tgt := 122) hx hb dX12_finish_118 (by decide) ?_
        refine lv_istore_n (lv' := [(2, .int 1), (0, .ref a0), (1, .int x1), (3, .int x3)]) hx hb dX12_finish_122 rfl hl (by decide) rfl (fun ls hl => ?_)
        exact lt_X12_finish_123  C hr hlk hn h0 hk56 hk68 hq hw (lv_sub hl [1, 2, 0, 3] rfl)
      · replace hq := hq.1 c33
        refine lv_aload_n hx hb dX12_finish_80 rfl (lv_at hl 0 rfl) ?_
        obtain ⟨q34, e35, hq⟩ := hq
        refine gfX12_93 C hw hw.2.2.1 h0 e35 dX12_finish_81 ?_
        refine lv_iload_n hx hb dX12_finish_84 rfl (lv_at hl 3 rfl) ?_
        obtain ⟨h36, hq⟩ := hq
        obtain ⟨h37, hq⟩ := hq
        refine q_iald C hw hw.2.2.1 h36 h37 dX12_finish_85 ?_
        refine lv_iload_n hx hb dX12_finish_86 rfl (lv_at hl 1 rfl) ?_
        refine lv_icmp_ne (tgt := 121) hx hb dX12_finish_87 (by decide) (fun c38 => ?_) (fun c38 => ?_)
        · replace hq := hq.2 c38
          refine lv_iconst (v := 0) hx hb dX12_finish_121 (by decide) ?_
          refine lv_istore_n (lv' := [(2, .int 0), (0, .ref a0), (1, .int x1), (3, .int x3)]) hx hb dX12_finish_122 rfl hl (by decide) rfl (fun ls hl => ?_)
          exact lt_X12_finish_123  C hr hlk hn h0 hk56 hk68 hq hw (lv_sub hl [1, 2, 0, 3] rfl)
        · replace hq := hq.1 c38
          refine lv_aload_n hx hb dX12_finish_90 rfl (lv_at hl 0 rfl) ?_
          obtain ⟨q39, e40, hq⟩ := hq
          refine gfX12_96 C hw hw.2.2.1 h0 e40 dX12_finish_91 ?_
          refine lv_iload_n hx hb dX12_finish_94 rfl (lv_at hl 3 rfl) ?_
          obtain ⟨h41, hq⟩ := hq
          obtain ⟨h42, hq⟩ := hq
          refine q_iald C hw hw.2.2.1 h41 h42 dX12_finish_95 ?_
          refine lv_if_ne (tgt := 121) hx hb dX12_finish_96 (by decide) (fun c43 => ?_) (fun c43 => ?_)
          · replace hq := hq.2 c43
            refine lv_iconst (v := 0) hx hb dX12_finish_121 (by decide) ?_
            refine lv_istore_n (lv' := [(2, .int 0), (0, .ref a0), (1, .int x1), (3, .int x3)]) hx hb dX12_finish_122 rfl hl (by decide) rfl (fun ls hl => ?_)
            exact lt_X12_finish_123  C hr hlk hn h0 hk56 hk68 hq hw (lv_sub hl [1, 2, 0, 3] rfl)
          · replace hq := hq.1 c43
            refine lv_aload_n hx hb dX12_finish_99 rfl (lv_at hl 0 rfl) ?_
            obtain ⟨q44, e45, hq⟩ := hq
            refine gfX12_105 C hw hw.2.2.1 h0 e45 dX12_finish_100 ?_
            refine lv_iload_n hx hb dX12_finish_103 rfl (lv_at hl 3 rfl) ?_
            obtain ⟨h46, hq⟩ := hq
            obtain ⟨h47, hq⟩ := hq
            refine q_zald C hw hw.2.2.1 h46 h47 dX12_finish_104 ?_
            refine lv_if_eq (tgt := 121) hx hb dX12_finish_105 (by decide) (fun c48 => ?_) (fun c48 => ?_)
            · replace hq := hq.1 c48
              refine lv_iconst (v := 0) hx hb dX12_finish_121 (by decide) ?_
              refine lv_istore_n (lv' := [(2, .int 0), (0, .ref a0), (1, .int x1), (3, .int x3)]) hx hb dX12_finish_122 rfl hl (by decide) rfl (fun ls hl => ?_)
              exact lt_X12_finish_123  C hr hlk hn h0 hk56 hk68 hq hw (lv_sub hl [1, 2, 0, 3] rfl)
            · replace hq := hq.2 c48
              refine lv_aload_n hx hb dX12_finish_108 rfl (lv_at hl 0 rfl) ?_
              obtain ⟨q49, e50, hq⟩ := hq
              refine gfX12_108 C hw hw.2.2.1 h0 e50 dX12_finish_109 ?_
              refine lv_iload_n hx hb dX12_finish_112 rfl (lv_at hl 3 rfl) ?_
              obtain ⟨h51, hq⟩ := hq
              obtain ⟨h52, hq⟩ := hq
              refine q_zald C hw hw.2.2.1 h51 h52 dX12_finish_113 ?_
              refine lv_if_ne (tgt := 121) hx hb dX12_finish_114 (by decide) (fun c53 => ?_) (fun c53 => ?_)
              · replace hq := hq.2 c53
                refine lv_iconst (v := 0) hx hb dX12_finish_121 (by decide) ?_
                refine lv_istore_n (lv' := [(2, .int 0), (0, .ref a0), (1, .int x1), (3, .int x3)]) hx hb dX12_finish_122 rfl hl (by decide) rfl (fun ls hl => ?_)
                exact lt_X12_finish_123  C hr hlk hn h0 hk56 hk68 hq hw (lv_sub hl [1, 2, 0, 3] rfl)
              · replace hq := hq.1 c53
                refine lv_iconst (v := 1) hx hb dX12_finish_117 (by decide) ?_
                refine lv_goto (tgt := 122) hx hb dX12_finish_118 (by decide) ?_
                refine lv_istore_n (lv' := [(2, .int 1), (0, .ref a0), (1, .int x1), (3, .int x3)]) hx hb dX12_finish_122 rfl hl (by decide) rfl (fun ls hl => ?_)
                exact lt_X12_finish_123  C hr hlk hn h0 hk56 hk68 hq hw (lv_sub hl [1, 2, 0, 3] rfl)
set_option maxHeartbeats 4000000 in
set_option maxRecDepth 100000 in
theorem lp_X12_finish_56 {l : Launch} {g : Gh} {p : Program} {e : Env} {s : State} {m : MethodId} {args : Array Value} {below : List Frame} {meth : Method} {c : Code} {M0 : Mem} {a0 : Nat} {post : Int32 → Mem → Prop}  (C : Cx g p s m args c cX12_finish 4 RX12) (hr : meth.sig.returnType = (some .boolean)) (hlk : meth.locks = false) (hn : meth.name = "finish") (h0 : okc (gB g) M0 a0 12)  : ∀ (nf : Nat) (x1 : Int32)  (M : Mem) (H : Heap) (locs : List Loc) (ls : Array Slot), lfp (fun bk z => bd_X12_finish_56  g M0 a0 post  bk z.1 z.2) nf (x1, M) → Wd g s M0 M H locs → lv_has ls 4 [(0, .ref a0), (1, .int x1)] → W p l e (rmo 1 0 0) s m args below meth c H locs 0 0 (MQ below (Cq g M0 (pI post)) args s 0 0 (gA g)) (F0 m 56 ls []) := by
  have hx := C.1.1
  have hb := C.1.2.1
  intro nf
  induction nf with
  | zero => intro _ _ H locs ls hq; exact hq.elim
  | succ nf hk56 =>
    intro x1 M H locs ls hq hw hl
    replace hq : bd_X12_finish_56  g M0 a0 post  (lfp (fun bk z => bd_X12_finish_56  g M0 a0 post  bk z.1 z.2) nf) x1 M := hq
    unfold bd_X12_finish_56 at hq
    refine lv_iload_n hx hb dX12_finish_56 rfl (lv_at hl 1 rfl) ?_
    refine lv_aload_n hx hb dX12_finish_57 rfl (lv_at hl 0 rfl) ?_
    refine gfX12_274 C hw hw.2.2.1 h0 dX12_finish_58 ?_
    refine lv_icmp_ge (tgt := 196) hx hb dX12_finish_61 (by decide) (fun c54 => ?_) (fun c54 => ?_)
    · replace hq := hq.1 c54
      exact lt_X12_finish_196  C hr hlk hn h0  hq hw (lv_sub hl [0] rfl)
    · replace hq := hq.2 c54
      refine lv_iconst (v := 0) hx hb dX12_finish_64 (by decide) ?_
      refine lv_istore_n (lv' := [(2, .int 0), (0, .ref a0), (1, .int x1)]) hx hb dX12_finish_65 rfl hl (by decide) rfl (fun ls hl => ?_)
      refine lv_iconst (v := 0) hx hb dX12_finish_66 (by decide) ?_
      refine lv_istore_n (lv' := [(3, .int 0), (2, .int 0), (0, .ref a0), (1, .int x1)]) hx hb dX12_finish_67 rfl hl (by decide) rfl (fun ls hl => ?_)
      obtain ⟨nf, hq⟩ := hq
      exact lp_X12_finish_68  C hr hlk hn h0 hk56 nf _ _ _ _ _ _ _ hq hw (lv_sub hl [2, 3, 1, 0] rfl)
set_option maxHeartbeats 4000000 in
set_option maxRecDepth 100000 in
theorem ct_X12_finish {l : Launch} {g : Gh} {M0 : Mem} {a0 : Nat} {post : Int32 → Mem → Prop}  (hq : wp_X12_finish  g M0 a0 post) : Ct l g yX12_finish cX12_finish 4 (some .boolean) 1 0 0 [.ref a0] M0 (pI post) := by
  unfold wp_X12_finish at hq
  obtain ⟨h0, hq⟩ := hq
  refine Ct.of (by decide) (Nat.le_of_ble_eq_true rfl) ?_
  intro p e s m below meth c ls C hr hlk hn hl hw
  have hx := C.1.1
  have hb := C.1.2.1
  have hl : lv_has ls 4 [(0, .ref a0)] := hl
  refine lv_aload_n hx hb dX12_finish_0 rfl (lv_at hl 0 rfl) ?_
  refine lv_iconst (v := 0) hx hb dX12_finish_1 (by decide) ?_
  refine pfX12_123 C hw hw.2.2.1 h0 dX12_finish_2 (fun H locs hw => ?_)
  generalize e56 : uI M0 a0 0 0 = M55 at hw
  replace hq := hq M55 e56.symm
  refine lv_aload_n hx hb dX12_finish_5 rfl (lv_at hl 0 rfl) ?_
  refine gfX12_247 C hw hw.2.2.1 h0 dX12_finish_6 ?_
  refine lv_if_eq (tgt := 20) hx hb dX12_finish_9 (by decide) (fun c57 => ?_) (fun c57 => ?_)
  · replace hq := hq.1 c57
    refine lv_iconst (v := 0) hx hb dX12_finish_20 (by decide) ?_
    exact r_zret C hr hlk hw dX12_finish_21 (Nat.le_refl _) (Nat.le_refl _) (by decide) ⟨_, rfl, hq⟩
  · replace hq := hq.2 c57
    refine lv_aload_n hx hb dX12_finish_12 rfl (lv_at hl 0 rfl) ?_
    refine gfX12_305 C hw hw.2.2.1 h0 dX12_finish_13 ?_
    refine lv_iconst (v := 3) hx hb dX12_finish_16 (by decide) ?_
    refine lv_icmp_ge (tgt := 22) hx hb dX12_finish_17 (by decide) (fun c58 => ?_) (fun c58 => ?_)
    · replace hq := hq.1 c58
      refine lv_aload_n hx hb dX12_finish_22 rfl (lv_at hl 0 rfl) ?_
      refine lv_aload_n hx hb dX12_finish_23 rfl (lv_at hl 0 rfl) ?_
      refine gfX12_284 C hw hw.2.2.1 h0 dX12_finish_24 ?_
      refine lv_aload_n hx hb dX12_finish_27 rfl (lv_at hl 0 rfl) ?_
      refine gfX12_311 C hw hw.2.2.1 h0 dX12_finish_28 ?_
      refine lv_aload_n hx hb dX12_finish_31 rfl (lv_at hl 0 rfl) ?_
      refine gfX12_314 C hw hw.2.2.1 h0 dX12_finish_32 ?_
      refine r_callV (T := TX12) (N := 67) (ci := 12) (index := 331) (n := 3) (d2 := 0) (mc := 0) (ms := 0) (As := [.int (mI M55 a0 46), .int (mI M55 a0 53), .int (mI M55 a0 54)]) (rest := []) C hw (ct_X12_counts hq) kvX12_331 hq.1 (by decide) rfl ⟨by decide, by decide⟩ ⟨by decide, by decide⟩ rfl hl.1 rfl (Nat.le_of_ble_eq_true rfl) dX12_finish_35 (fun r M60 H locs hp hle hw => ?_)
      obtain ⟨rfl, hq⟩ := hp
      refine W.eq (g2 := F0 m 38 ls []) rfl ?_
      refine lv_aload_n hx hb dX12_finish_38 rfl (lv_at hl 0 rfl) ?_
      refine lv_aload_n hx hb dX12_finish_39 rfl (lv_at hl 0 rfl) ?_
      refine gfX12_287 C hw hw.2.2.1 h0 dX12_finish_40 ?_
      refine lv_aload_n hx hb dX12_finish_43 rfl (lv_at hl 0 rfl) ?_
      refine gfX12_314 C hw hw.2.2.1 h0 dX12_finish_44 ?_
      refine lv_aload_n hx hb dX12_finish_47 rfl (lv_at hl 0 rfl) ?_
      refine gfX12_311 C hw hw.2.2.1 h0 dX12_finish_48 ?_
      refine r_callV (T := TX12) (N := 67) (ci := 12) (index := 331) (n := 3) (d2 := 0) (mc := 0) (ms := 0) (As := [.int (mI M60 a0 47), .int (mI M60 a0 54), .int (mI M60 a0 53)]) (rest := []) C hw (ct_X12_counts hq) kvX12_331 hq.1 (by decide) rfl ⟨by decide, by decide⟩ ⟨by decide, by decide⟩ rfl hl.1 rfl (Nat.le_of_ble_eq_true rfl) dX12_finish_51 (fun r M62 H locs hp hle hw => ?_)
      obtain ⟨rfl, hq⟩ := hp
      refine W.eq (g2 := F0 m 54 ls []) rfl ?_
      refine lv_iconst (v := 0) hx hb dX12_finish_54 (by decide) ?_
      refine lv_istore_n (lv' := [(1, .int 0), (0, .ref a0)]) hx hb dX12_finish_55 rfl hl (by decide) rfl (fun ls hl => ?_)
      obtain ⟨nf, hq⟩ := hq
      exact lp_X12_finish_56  C hr hlk hn h0  nf _ _ _ _ _ hq hw (lv_sub hl [1, 0] rfl)
    · replace hq := hq.2 c58
      refine lv_iconst (v := 0) hx hb dX12_finish_20 (by decide) ?_
      exact r_zret C hr hlk hw dX12_finish_21 (Nat.le_refl _) (Nat.le_refl _) (by decide) ⟨_, rfl, hq⟩

set_option maxRecDepth 100000 in
def wp_X12_call  (g : Gh) (M0 : Mem) (a0 : Nat) (post : Int32 → Mem → Prop) : Prop :=
  okc (gB g) M0 a0 12 ∧ (∀ M1, M1 = uI M0 a0 0 0 → (∀ M3, M3 = uI M1 a0 48 0 → (((mI M1 a0 48) = 0 ∨ (mI M1 a0 48) = 1) ∧ (post (mI M1 a0 48) M3))))
set_option maxHeartbeats 4000000 in
set_option maxRecDepth 100000 in
theorem ct_X12_call {l : Launch} {g : Gh} {M0 : Mem} {a0 : Nat} {post : Int32 → Mem → Prop}  (hq : wp_X12_call  g M0 a0 post) : Ct l g yX12_call cX12_call 2 (some .boolean) 0 0 0 [.ref a0] M0 (pI post) := by
  unfold wp_X12_call at hq
  obtain ⟨h0, hq⟩ := hq
  refine Ct.of (by decide) (Nat.le_of_ble_eq_true rfl) ?_
  intro p e s m below meth c ls C hr hlk hn hl hw
  have hx := C.1.1
  have hb := C.1.2.1
  have hl : lv_has ls 2 [(0, .ref a0)] := hl
  refine lv_aload_n hx hb dX12_call_0 rfl (lv_at hl 0 rfl) ?_
  refine lv_iconst (v := 0) hx hb dX12_call_1 (by decide) ?_
  refine pfX12_123 C hw hw.2.2.1 h0 dX12_call_2 (fun H locs hw => ?_)
  generalize e2 : uI M0 a0 0 0 = M1 at hw
  replace hq := hq M1 e2.symm
  refine lv_aload_n hx hb dX12_call_5 rfl (lv_at hl 0 rfl) ?_
  refine gfX12_247 C hw hw.2.2.1 h0 dX12_call_6 ?_
  refine lv_istore_n (lv' := [(1, .int (mI M1 a0 48)), (0, .ref a0)]) hx hb dX12_call_9 rfl hl (by decide) rfl (fun ls hl => ?_)
  refine lv_aload_n hx hb dX12_call_10 rfl (lv_at hl 1 rfl) ?_
  refine lv_iconst (v := 0) hx hb dX12_call_11 (by decide) ?_
  refine pfX12_247 C hw hw.2.2.1 h0 (by decide) dX12_call_12 (fun H locs hw => ?_)
  generalize e4 : uI M1 a0 48 0 = M3 at hw
  replace hq := hq M3 e4.symm
  refine lv_iload_n hx hb dX12_call_15 rfl (lv_at hl 0 rfl) ?_
  obtain ⟨h5, hq⟩ := hq
  exact r_zret C hr hlk hw dX12_call_16 (Nat.le_refl _) (Nat.le_refl _) h5 ⟨_, rfl, hq⟩
