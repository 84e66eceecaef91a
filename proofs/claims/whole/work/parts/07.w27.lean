set_option maxRecDepth 100000 in
def lb_X12_leadsAll_196 (w_X12_leads : Gh → Mem → Nat → Int32 → Int32 → (Int32 → Mem → Prop) → Prop) (g : Gh) (M0 : Mem) (a0 : Nat) (p1 : Int32) (p2 : Int32) (post : Int32 → Mem → Prop)  (x3 : Int32) (x4 : Int32)  (M : Mem) : Prop :=
  ∀ M1, M1 = uI M a0 28 ((mI M a0 28) - 1) → (∃ q3, mR M1 a0 27 = some q3 ∧ (okc (gB g) M0 q3 14 ∧ (vp_in ((x3 + (1 <<< (x4 &&& 31))) - 1) (mN M0 q3) ∧ (post (mI M1 q3 (Int32.toNatClampNeg ((x3 + (1 <<< (x4 &&& 31))) - 1))) M1))))
set_option maxRecDepth 100000 in
def lb_X12_leadsAll_178 (w_X12_leads : Gh → Mem → Nat → Int32 → Int32 → (Int32 → Mem → Prop) → Prop) (g : Gh) (M0 : Mem) (a0 : Nat) (p1 : Int32) (p2 : Int32) (post : Int32 → Mem → Prop) (bk88 : Int32 × Int32 × Int32 × Mem → Prop) (bk123 : Int32 × Int32 × Int32 × Int32 × Int32 × Mem → Prop) (x3 : Int32) (x4 : Int32) (x5 : Int32) (x6 : Int32) (x7 : Int32)  (M : Mem) : Prop :=
  ∃ q7, mR M a0 13 = some q7 ∧ (okc (gB g) M0 q7 14 ∧ (vp_in x7 (mN M0 q7) ∧ (bk123 (x3, x4, x5, x6, (mI M q7 (Int32.toNatClampNeg x7)), M))))
set_option maxRecDepth 100000 in
def bd_X12_leadsAll_123 (w_X12_leads : Gh → Mem → Nat → Int32 → Int32 → (Int32 → Mem → Prop) → Prop) (g : Gh) (M0 : Mem) (a0 : Nat) (p1 : Int32) (p2 : Int32) (post : Int32 → Mem → Prop) (bk88 : Int32 × Int32 × Int32 × Mem → Prop) (bk123 : Int32 × Int32 × Int32 × Int32 × Int32 × Mem → Prop) (x3 : Int32) (x4 : Int32) (x5 : Int32) (x6 : Int32) (x7 : Int32)  (M : Mem) : Prop :=
  ((x7 = (-1)) → bk88 (x3, x4, (x5 + 1), M)) ∧ (¬ (x7 = (-1)) → ((((x5 >>> (x6 &&& 31)) &&& 1) = 0) → ∃ q13, mR M a0 27 = some q13 ∧ (okc (gB g) M0 q13 14 ∧ (vp_in (x3 + x5) (mN M0 q13) ∧ (w_X12_leads g M a0 x7 (mI M q13 (Int32.toNatClampNeg (x3 + x5))) (fun v17 M18 => ∃ q19, mR M18 a0 27 = some q19 ∧ (okc (gB g) M0 q19 14 ∧ (vp_in (x3 + (x5 ||| (1 <<< (x6 &&& 31)))) (mN M0 q19) ∧ (∀ M23, M23 = uI M18 q19 (Int32.toNatClampNeg (x3 + (x5 ||| (1 <<< (x6 &&& 31))))) ((mI M18 q19 (Int32.toNatClampNeg (x3 + (x5 ||| (1 <<< (x6 &&& 31)))))) ||| v17) → (lb_X12_leadsAll_178 w_X12_leads g M0 a0 p1 p2 post bk88 bk123 x3 x4 x5 (x6 + 1) x7 M23))))))))) ∧ (¬ (((x5 >>> (x6 &&& 31)) &&& 1) = 0) → lb_X12_leadsAll_178 w_X12_leads g M0 a0 p1 p2 post bk88 bk123 x3 x4 x5 (x6 + 1) x7 M))
set_option maxRecDepth 100000 in
def bd_X12_leadsAll_88 (w_X12_leads : Gh → Mem → Nat → Int32 → Int32 → (Int32 → Mem → Prop) → Prop) (g : Gh) (M0 : Mem) (a0 : Nat) (p1 : Int32) (p2 : Int32) (post : Int32 → Mem → Prop)  (bk88 : Int32 × Int32 × Int32 × Mem → Prop) (x3 : Int32) (x4 : Int32) (x5 : Int32)  (M : Mem) : Prop :=
  (((1 <<< (x4 &&& 31)) ≤ x5) → lb_X12_leadsAll_196 w_X12_leads g M0 a0 p1 p2 post  x3 x4 M) ∧ (¬ ((1 <<< (x4 &&& 31)) ≤ x5) → ∃ q26, mR M a0 27 = some q26 ∧ (okc (gB g) M0 q26 14 ∧ (vp_in (x3 + x5) (mN M0 q26) ∧ ((((mI M q26 (Int32.toNatClampNeg (x3 + x5))) = 0) → bk88 (x3, x4, (x5 + 1), M)) ∧ (¬ ((mI M q26 (Int32.toNatClampNeg (x3 + x5))) = 0) → ∃ q31, mR M a0 12 = some q31 ∧ (okc (gB g) M0 q31 14 ∧ (vp_in p1 (mN M0 q31) ∧ ((∃ n : Nat, lfp (fun bk z => bd_X12_leadsAll_123 w_X12_leads g M0 a0 p1 p2 post bk88 bk z.1 z.2.1 z.2.2.1 z.2.2.2.1 z.2.2.2.2.1 z.2.2.2.2.2) n (x3, x4, x5, 0, (mI M q31 (Int32.toNatClampNeg p1)), M))))))))))
set_option maxRecDepth 100000 in
def lb_X12_leadsAll_78 (w_X12_leads : Gh → Mem → Nat → Int32 → Int32 → (Int32 → Mem → Prop) → Prop) (g : Gh) (M0 : Mem) (a0 : Nat) (p1 : Int32) (p2 : Int32) (post : Int32 → Mem → Prop)  (x3 : Int32) (x4 : Int32)  (M : Mem) : Prop :=
  ∃ q35, mR M a0 27 = some q35 ∧ (okc (gB g) M0 q35 14 ∧ (vp_in x3 (mN M0 q35) ∧ (∀ M39, M39 = uI M q35 (Int32.toNatClampNeg x3) p2 → ((∃ n : Nat, lfp (fun bk z => bd_X12_leadsAll_88 w_X12_leads g M0 a0 p1 p2 post  bk z.1 z.2.1 z.2.2.1 z.2.2.2) n (x3, x4, 0, M39))))))
set_option maxRecDepth 100000 in
def bd_X12_leadsAll_53 (w_X12_leads : Gh → Mem → Nat → Int32 → Int32 → (Int32 → Mem → Prop) → Prop) (g : Gh) (M0 : Mem) (a0 : Nat) (p1 : Int32) (p2 : Int32) (post : Int32 → Mem → Prop)  (bk53 : Int32 × Int32 × Int32 × Mem → Prop) (x3 : Int32) (x4 : Int32) (x5 : Int32)  (M : Mem) : Prop :=
  (((1 <<< (x4 &&& 31)) ≤ x5) → lb_X12_leadsAll_78 w_X12_leads g M0 a0 p1 p2 post  x3 x4 M) ∧ (¬ ((1 <<< (x4 &&& 31)) ≤ x5) → ∃ q42, mR M a0 27 = some q42 ∧ (okc (gB g) M0 q42 14 ∧ (vp_in (x3 + x5) (mN M0 q42) ∧ (∀ M46, M46 = uI M q42 (Int32.toNatClampNeg (x3 + x5)) 0 → (bk53 (x3, x4, (x5 + 1), M46))))))
set_option maxRecDepth 100000 in
def bd_X12_leadsAll_29 (w_X12_leads : Gh → Mem → Nat → Int32 → Int32 → (Int32 → Mem → Prop) → Prop) (g : Gh) (M0 : Mem) (a0 : Nat) (p1 : Int32) (p2 : Int32) (post : Int32 → Mem → Prop)  (bk29 : Int32 × Int32 × Int32 × Mem → Prop) (x3 : Int32) (x4 : Int32) (x5 : Int32)  (M : Mem) : Prop :=
  ((x5 = (-1)) → (∃ n : Nat, lfp (fun bk z => bd_X12_leadsAll_53 w_X12_leads g M0 a0 p1 p2 post  bk z.1 z.2.1 z.2.2.1 z.2.2.2) n (x3, x4, 1, M))) ∧ (¬ (x5 = (-1)) → ∃ q49, mR M a0 13 = some q49 ∧ (okc (gB g) M0 q49 14 ∧ (vp_in x5 (mN M0 q49) ∧ (bk29 (x3, (x4 + 1), (mI M q49 (Int32.toNatClampNeg x5)), M)))))
set_option maxRecDepth 100000 in
def wp_X12_leadsAll (w_X12_leads : Gh → Mem → Nat → Int32 → Int32 → (Int32 → Mem → Prop) → Prop) (g : Gh) (M0 : Mem) (a0 : Nat) (p1 : Int32) (p2 : Int32) (post : Int32 → Mem → Prop) : Prop :=
  okc (gB g) M0 a0 12 ∧ (∀ M53, M53 = uI M0 a0 28 ((mI M0 a0 28) + 1) → (∃ q55, mR M53 a0 12 = some q55 ∧ (okc (gB g) M0 q55 14 ∧ (vp_in p1 (mN M0 q55) ∧ ((∃ n : Nat, lfp (fun bk z => bd_X12_leadsAll_29 w_X12_leads g M0 a0 p1 p2 post  bk z.1 z.2.1 z.2.2.1 z.2.2.2) n ((32 * (mI M0 a0 28)), 0, (mI M53 q55 (Int32.toNatClampNeg p1)), M53)))))))
set_option maxHeartbeats 4000000 in
set_option maxRecDepth 100000 in
theorem lt_X12_leadsAll_196 {l : Launch} {g : Gh} {p : Program} {e : Env} {s : State} {m : MethodId} {args : Array Value} {below : List Frame} {meth : Method} {c : Code} {H : Heap} {locs : List Loc} {ls : Array Slot} {M0 M : Mem} {a0 : Nat} {p1 : Int32} {p2 : Int32} {post : Int32 → Mem → Prop} {x3 : Int32} {x4 : Int32}  {d : Nat} {w_X12_leads : Gh → Mem → Nat → Int32 → Int32 → (Int32 → Mem → Prop) → Prop} {d_X12_leads : Nat} (hd_X12_leads : d_X12_leads ≤ d) (hr_X12_leads : ∀ {l : Launch} {g : Gh} {M0 : Mem} {a0 : Nat} {p1 : Int32} {p2 : Int32} {post : Int32 → Mem → Prop}, w_X12_leads g M0 a0 p1 p2 post → okc (gB g) M0 a0 12 ∧ Ct l g yX12_leads cX12_leads 5 (some .int) d_X12_leads 0 0 [.ref a0, .int p1, .int p2] M0 (pI post)) (C : Cx g p s m args c cX12_leadsAll 9 RX12) (hr : meth.sig.returnType = (some .int)) (hlk : meth.locks = false) (hn : meth.name = "leadsAll") (h0 : okc (gB g) M0 a0 12)  (hq : lb_X12_leadsAll_196 w_X12_leads g M0 a0 p1 p2 post  x3 x4 M) (hw : Wd g s M0 M H locs) (hl : lv_has ls 9 [(0, .ref a0), (1, .int p1), (2, .int p2), (3, .int x3), (4, .int x4)]) : W p l e (rmo (d + 8) 0 0) s m args below meth c H locs 0 0 (MQ below (Cq g M0 (pI post)) args s 0 0 (gA g)) (F0 m 196 ls []) := by
  have hx := C.1.1
  have hb := C.1.2.1
  unfold lb_X12_leadsAll_196 at hq
  refine lv_aload_n hx hb dX12_leadsAll_196 rfl (lv_at hl 0 rfl) ?_
  refine lv_dup hx hb dX12_leadsAll_197 rfl ?_
  refine gfX12_235 C hw hw.2.2.1 h0 dX12_leadsAll_198 ?_
  refine lv_iconst (v := 1) hx hb dX12_leadsAll_201 (by decide) ?_
  refine lv_isub hx hb dX12_leadsAll_202 ?_
  refine pfX12_235 C hw hw.2.2.1 h0 dX12_leadsAll_203 (fun H locs hw => ?_)
  generalize e2 : uI M a0 28 ((mI M a0 28) - 1) = M1 at hw
  replace hq := hq M1 e2.symm
  refine lv_aload_n hx hb dX12_leadsAll_206 rfl (lv_at hl 0 rfl) ?_
  obtain ⟨q3, e4, hq⟩ := hq
  refine gfX12_51 C hw hw.2.2.1 h0 e4 dX12_leadsAll_207 ?_
  refine lv_iload_n hx hb dX12_leadsAll_210 rfl (lv_at hl 3 rfl) ?_
  refine lv_iconst (v := 1) hx hb dX12_leadsAll_211 (by decide) ?_
  refine lv_iload hx hb dX12_leadsAll_212 (lv_at hl 4 rfl) ?_
  refine lv_ishl hx hb dX12_leadsAll_214 ?_
  refine lv_iadd hx hb dX12_leadsAll_215 ?_
  refine lv_iconst (v := 1) hx hb dX12_leadsAll_216 (by decide) ?_
  refine lv_isub hx hb dX12_leadsAll_217 ?_
  obtain ⟨h5, hq⟩ := hq
  obtain ⟨h6, hq⟩ := hq
  refine q_iald C hw hw.2.2.1 h5 h6 dX12_leadsAll_218 ?_
  exact r_iret C hr hlk hw dX12_leadsAll_219 (Nat.le_refl _) (Nat.le_refl _) ⟨_, rfl, hq⟩
set_option maxHeartbeats 4000000 in
set_option maxRecDepth 100000 in
theorem lt_X12_leadsAll_178 {l : Launch} {g : Gh} {p : Program} {e : Env} {s : State} {m : MethodId} {args : Array Value} {below : List Frame} {meth : Method} {c : Code} {H : Heap} {locs : List Loc} {ls : Array Slot} {M0 M : Mem} {a0 : Nat} {p1 : Int32} {p2 : Int32} {post : Int32 → Mem → Prop} {x3 : Int32} {x4 : Int32} {x5 : Int32} {x6 : Int32} {x7 : Int32}  {d : Nat} {w_X12_leads : Gh → Mem → Nat → Int32 → Int32 → (Int32 → Mem → Prop) → Prop} {d_X12_leads : Nat} (hd_X12_leads : d_X12_leads ≤ d) (hr_X12_leads : ∀ {l : Launch} {g : Gh} {M0 : Mem} {a0 : Nat} {p1 : Int32} {p2 : Int32} {post : Int32 → Mem → Prop}, w_X12_leads g M0 a0 p1 p2 post → okc (gB g) M0 a0 12 ∧ Ct l g yX12_leads cX12_leads 5 (some .int) d_X12_leads 0 0 [.ref a0, .int p1, .int p2] M0 (pI post)) (C : Cx g p s m args c cX12_leadsAll 9 RX12) (hr : meth.sig.returnType = (some .int)) (hlk : meth.locks = false) (hn : meth.name = "leadsAll") (h0 : okc (gB g) M0 a0 12) {bk88 : Int32 × Int32 × Int32 × Mem → Prop} (hk88 : ∀ (x3 : Int32) (x4 : Int32) (x5 : Int32) (M : Mem) (H : Heap) (locs : List Loc) (ls : Array Slot), bk88 (x3, x4, x5, M) → Wd g s M0 M H locs → lv_has ls 9 [(0, .ref a0), (1, .int p1), (2, .int p2), (3, .int x3), (4, .int x4), (5, .int x5)] → W p l e (rmo (d + 8) 0 0) s m args below meth c H locs 0 0 (MQ below (Cq g M0 (pI post)) args s 0 0 (gA g)) (F0 m 88 ls [])) {bk123 : Int32 × Int32 × Int32 × Int32 × Int32 × Mem → Prop} (hk123 : ∀ (x3 : Int32) (x4 : Int32) (x5 : Int32) (x6 : Int32) (x7 : Int32) (M : Mem) (H : Heap) (locs : List Loc) (ls : Array Slot), bk123 (x3, x4, x5, x6, x7, M) → Wd g s M0 M H locs → lv_has ls 9 [(0, .ref a0), (1, .int p1), (2, .int p2), (3, .int x3), (4, .int x4), (5, .int x5), (6, .int x6), (7, .int x7)] → W p l e (rmo (d + 8) 0 0) s m args below meth c H locs 0 0 (MQ below (Cq g M0 (pI post)) args s 0 0 (gA g)) (F0 m 123 ls [])) (hq : lb_X12_leadsAll_178 w_X12_leads g M0 a0 p1 p2 post bk88 bk123 x3 x4 x5 x6 x7 M) (hw : Wd g s M0 M H locs) (hl : lv_has ls 9 [(0, .ref a0), (1, .int p1), (2, .int p2), (3, .int x3), (4, .int x4), (5, .int x5), (6, .int x6), (7, .int x7)]) : W p l e (rmo (d + 8) 0 0) s m args below meth c H locs 0 0 (MQ below (Cq g M0 (pI post)) args s 0 0 (gA g)) (F0 m 178 ls []) := by
  have hx := C.1.1
  have hb := C.1.2.1
  unfold lb_X12_leadsAll_178 at hq
  refine lv_aload_n hx hb dX12_leadsAll_178 rfl (lv_at hl 0 rfl) ?_
  obtain ⟨q7, e8, hq⟩ := hq
  refine gfX12_19 C hw hw.2.2.1 h0 e8 dX12_leadsAll_179 ?_
  refine lv_iload hx hb dX12_leadsAll_182 (lv_at hl 7 rfl) ?_
  obtain ⟨h9, hq⟩ := hq
  obtain ⟨h10, hq⟩ := hq
  refine q_iald C hw hw.2.2.1 h9 h10 dX12_leadsAll_184 ?_
  refine lv_istore (lv' := [(7, .int (mI M q7 (Int32.toNatClampNeg x7))), (0, .ref a0), (1, .int p1), (2, .int p2), (3, .int x3), (4, .int x4), (5, .int x5), (6, .int x6)]) hx hb dX12_leadsAll_185 hl (by decide) rfl (fun ls hl => ?_)
  refine lv_goto (tgt := 123) hx hb dX12_leadsAll_187 (by decide) ?_
  exact hk123 _ _ _ _ _ _ _ _ _ hq hw (lv_sub hl [1, 2, 3, 4, 5, 6, 7, 0] rfl)
set_option maxHeartbeats 4000000 in
set_option maxRecDepth 100000 in
theorem lp_X12_leadsAll_123 {l : Launch} {g : Gh} {p : Program} {e : Env} {s : State} {m : MethodId} {args : Array Value} {below : List Frame} {meth : Method} {c : Code} {M0 : Mem} {a0 : Nat} {p1 : Int32} {p2 : Int32} {post : Int32 → Mem → Prop} {d : Nat} {w_X12_leads : Gh → Mem → Nat → Int32 → Int32 → (Int32 → Mem → Prop) → Prop} {d_X12_leads : Nat} (hd_X12_leads : d_X12_leads ≤ d) (hr_X12_leads : ∀ {l : Launch} {g : Gh} {M0 : Mem} {a0 : Nat} {p1 : Int32} {p2 : Int32} {post : Int32 → Mem → Prop}, w_X12_leads g M0 a0 p1 p2 post → okc (gB g) M0 a0 12 ∧ Ct l g yX12_leads cX12_leads 5 (some .int) d_X12_leads 0 0 [.ref a0, .int p1, .int p2] M0 (pI post)) (C : Cx g p s m args c cX12_leadsAll 9 RX12) (hr : meth.sig.returnType = (some .int)) (hlk : meth.locks = false) (hn : meth.name = "leadsAll") (h0 : okc (gB g) M0 a0 12) {bk88 : Int32 × Int32 × Int32 × Mem → Prop} (hk88 : ∀ (x3 : Int32) (x4 : Int32) (x5 : Int32) (M : Mem) (H : Heap) (locs : List Loc) (ls : Array Slot), bk88 (x3, x4, x5, M) → Wd g s M0 M H locs → lv_has ls 9 [(0, .ref a0), (1, .int p1), (2, .int p2), (3, .int x3), (4, .int x4), (5, .int x5)] → W p l e (rmo (d + 8) 0 0) s m args below meth c H locs 0 0 (MQ below (Cq g M0 (pI post)) args s 0 0 (gA g)) (F0 m 88 ls [])) : ∀ (nf : Nat) (x3 : Int32) (x4 : Int32) (x5 : Int32) (x6 : Int32) (x7 : Int32)  (M : Mem) (H : Heap) (locs : List Loc) (ls : Array Slot), lfp (fun bk z => bd_X12_leadsAll_123 w_X12_leads g M0 a0 p1 p2 post bk88 bk z.1 z.2.1 z.2.2.1 z.2.2.2.1 z.2.2.2.2.1 z.2.2.2.2.2) nf (x3, x4, x5, x6, x7, M) → Wd g s M0 M H locs → lv_has ls 9 [(0, .ref a0), (1, .int p1), (2, .int p2), (3, .int x3), (4, .int x4), (5, .int x5), (6, .int x6), (7, .int x7)] → W p l e (rmo (d + 8) 0 0) s m args below meth c H locs 0 0 (MQ below (Cq g M0 (pI post)) args s 0 0 (gA g)) (F0 m 123 ls []) := by
  have hx := C.1.1
  have hb := C.1.2.1
  intro nf
  induction nf with
  | zero => intro _ _ _ _ _ _ H locs ls hq; exact hq.elim
  | succ nf hk123 =>
    intro x3 x4 x5 x6 x7 M H locs ls hq hw hl
    replace hq : bd_X12_leadsAll_123 w_X12_leads g M0 a0 p1 p2 post bk88 (lfp (fun bk z => bd_X12_leadsAll_123 w_X12_leads g M0 a0 p1 p2 post bk88 bk z.1 z.2.1 z.2.2.1 z.2.2.2.1 z.2.2.2.2.1 z.2.2.2.2.2) nf) x3 x4 x5 x6 x7 M := hq
    unfold bd_X12_leadsAll_123 at hq
    refine lv_iload hx hb dX12_leadsAll_123 (lv_at hl 7 rfl) ?_
    refine lv_iconst (v := (-1)) hx hb dX12_leadsAll_125 (by decide) ?_
    refine lv_icmp_eq (tgt := 190) hx hb dX12_leadsAll_126 (by decide) (fun c11 => ?_) (fun c11 => ?_)
    · replace hq := hq.1 c11
      refine lv_iinc (v := (x5 + 1)) (lv' := [(5, .int (x5 + 1)), (0, .ref a0), (1, .int p1), (2, .int p2), (3, .int x3), (4, .int x4), (6, .int x6), (7, .int x7)]) hx hb dX12_leadsAll_190 hl (k := 5) rfl rfl (by decide) rfl (fun ls hl => ?_)
      refine lv_goto (tgt := 88) hx hb dX12_leadsAll_193 (by decide) ?_
      exact hk88 _ _ _ _ _ _ _ hq hw (lv_sub hl [1, 2, 3, 4, 5, 0] rfl)
    · replace hq := hq.2 c11
      refine lv_iload hx hb dX12_leadsAll_129 (lv_at hl 5 rfl) ?_
      refine lv_iload hx hb dX12_leadsAll_131 (lv_at hl 6 rfl) ?_
      refine lv_ishr hx hb dX12_leadsAll_133 ?_
      refine lv_iconst (v := 1) hx hb dX12_leadsAll_134 (by decide) ?_
      refine lv_iand hx hb dX12_leadsAll_135 ?_
      refine lv_if_ne (tgt := 175) hx hb dX12_leadsAll_136 (by decide) (fun c12 => ?_) (fun c12 => ?_)
      · replace hq := hq.2 c12
        refine lv_iinc (v := (x6 + 1)) (lv' := [(6, .int (x6 + 1)), (0, .ref a0), (1, .int p1), (2, .int p2), (3, .int x3), (4, .int x4), (5, .int x5), (7, .int x7)]) hx hb dX12_leadsAll_175 hl (k := 6) rfl rfl (by decide) rfl (fun ls hl => ?_)
        exact lt_X12_leadsAll_178 hd_X12_leads hr_X12_leads C hr hlk hn h0 hk88 hk123 hq hw (lv_sub hl [1, 2, 3, 4, 5, 6, 0, 7] rfl)
      · replace hq := hq.1 c12
        refine lv_aload_n hx hb dX12_leadsAll_139 rfl (lv_at hl 0 rfl) ?_
        refine lv_iload hx hb dX12_leadsAll_140 (lv_at hl 7 rfl) ?_
        refine lv_aload_n hx hb dX12_leadsAll_142 rfl (lv_at hl 0 rfl) ?_
        obtain ⟨q13, e14, hq⟩ := hq
        refine gfX12_51 C hw hw.2.2.1 h0 e14 dX12_leadsAll_143 ?_
        refine lv_iload_n hx hb dX12_leadsAll_146 rfl (lv_at hl 3 rfl) ?_
        refine lv_iload hx hb dX12_leadsAll_147 (lv_at hl 5 rfl) ?_
        refine lv_iadd hx hb dX12_leadsAll_149 ?_
        obtain ⟨h15, hq⟩ := hq
        obtain ⟨h16, hq⟩ := hq
        refine q_iald C hw hw.2.2.1 h15 h16 dX12_leadsAll_150 ?_
        refine r_callV (T := TX12) (N := 67) (ci := 12) (index := 228) (n := 2) (d2 := d_X12_leads) (mc := 0) (ms := 0) (As := [.int x7, .int (mI M q13 (Int32.toNatClampNeg (x3 + x5)))]) (rest := []) C hw (hr_X12_leads hq).2 kvX12_228 (hr_X12_leads (l := l) hq).1 (by decide) rfl ⟨by simp only [rmo]; omega, by simp only [rmo]; omega⟩ ⟨Nat.le_refl _, Nat.le_refl _⟩ rfl hl.1 rfl (Nat.le_of_ble_eq_true rfl) dX12_leadsAll_151 (fun r M18 H locs hp hle hw => ?_)
        obtain ⟨v17, rfl, hq⟩ := hp
        refine W.eq (g2 := F0 m 154 ls [.int v17]) rfl ?_
        refine lv_istore (lv' := [(8, .int v17), (0, .ref a0), (1, .int p1), (2, .int p2), (3, .int x3), (4, .int x4), (5, .int x5), (6, .int x6), (7, .int x7)]) hx hb dX12_leadsAll_154 hl (by decide) rfl (fun ls hl => ?_)
        refine lv_aload_n hx hb dX12_leadsAll_156 rfl (lv_at hl 1 rfl) ?_
        obtain ⟨q19, e20, hq⟩ := hq
        refine gfX12_51 C hw hw.2.2.1 h0 e20 dX12_leadsAll_157 ?_
        refine lv_iload_n hx hb dX12_leadsAll_160 rfl (lv_at hl 4 rfl) ?_
        refine lv_iload hx hb dX12_leadsAll_161 (lv_at hl 6 rfl) ?_
        refine lv_iconst (v := 1) hx hb dX12_leadsAll_163 (by decide) ?_
        refine lv_iload hx hb dX12_leadsAll_164 (lv_at hl 7 rfl) ?_
        refine lv_ishl hx hb dX12_leadsAll_166 ?_
        refine lv_ior hx hb dX12_leadsAll_167 ?_
        refine lv_iadd hx hb dX12_leadsAll_168 ?_
        refine lv_dup2_11 hx hb dX12_leadsAll_169 rfl rfl ?_
        obtain ⟨h21, hq⟩ := hq
        obtain ⟨h22, hq⟩ := hq
        refine q_iald C hw hw.2.2.1 h21 h22 dX12_leadsAll_170 ?_
        refine lv_iload hx hb dX12_leadsAll_171 (lv_at hl 0 rfl) ?_
        refine lv_ior hx hb dX12_leadsAll_173 ?_
        refine q_iast C hw hw.2.2.1 h21 h22 dX12_leadsAll_174 (fun H locs hw => ?_)
        generalize e24 : uI M18 q19 (Int32.toNatClampNeg (x3 + (x5 ||| (1 <<< (x6 &&& 31))))) ((mI M18 q19 (Int32.toNatClampNeg (x3 + (x5 ||| (1 <<< (x6 &&& 31)))))) ||| v17) = M23 at hw
        replace hq := hq M23 e24.symm
        have e20 : mR M23 a0 27 = some q19 := by rw [← e24, mR_uI]; exact e20
        refine lv_iinc (v := (x6 + 1)) (lv' := [(6, .int (x6 + 1)), (8, .int v17), (0, .ref a0), (1, .int p1), (2, .int p2), (3, .int x3), (4, .int x4), (5, .int x5), (7, .int x7)]) hx hb dX12_leadsAll_175 hl (k := 7) rfl rfl (by decide) rfl (fun ls hl => ?_)
        exact lt_X12_leadsAll_178 hd_X12_leads hr_X12_leads C hr hlk hn h0 hk88 hk123 hq hw (lv_sub hl [2, 3, 4, 5, 6, 7, 0, 8] rfl)
set_option maxHeartbeats 4000000 in
set_option maxRecDepth 100000 in
theorem lp_X12_leadsAll_88 {l : Launch} {g : Gh} {p : Program} {e : Env} {s : State} {m : MethodId} {args : Array Value} {below : List Frame} {meth : Method} {c : Code} {M0 : Mem} {a0 : Nat} {p1 : Int32} {p2 : Int32} {post : Int32 → Mem → Prop} {d : Nat} {w_X12_leads : Gh → Mem → Nat → Int32 → Int32 → (Int32 → Mem → Prop) → Prop} {d_X12_leads : Nat} (hd_X12_leads : d_X12_leads ≤ d) (hr_X12_leads : ∀ {l : Launch} {g : Gh} {M0 : Mem} {a0 : Nat} {p1 : Int32} {p2 : Int32} {post : Int32 → Mem → Prop}, w_X12_leads g M0 a0 p1 p2 post → okc (gB g) M0 a0 12 ∧ Ct l g yX12_leads cX12_leads 5 (some .int) d_X12_leads 0 0 [.ref a0, .int p1, .int p2] M0 (pI post)) (C : Cx g p s m args c cX12_leadsAll 9 RX12) (hr : meth.sig.returnType = (some .int)) (hlk : meth.locks = false) (hn : meth.name = "leadsAll") (h0 : okc (gB g) M0 a0 12)  : ∀ (nf : Nat) (x3 : Int32) (x4 : Int32) (x5 : Int32)  (M : Mem) (H : Heap) (locs : List Loc) (ls : Array Slot), lfp (fun bk z => bd_X12_leadsAll_88 w_X12_leads g M0 a0 p1 p2 post  bk z.1 z.2.1 z.2.2.1 z.2.2.2) nf (x3, x4, x5, M) → Wd g s M0 M H locs → lv_has ls 9 [(0, .ref a0), (1, .int p1), (2, .int p2), (3, .int x3), (4, .int x4), (5, .int x5)] → W p l e (rmo (d + 8) 0 0) s m args below meth c H locs 0 0 (MQ below (Cq g M0 (pI post)) args s 0 0 (gA g)) (F0 m 88 ls []) := by
  have hx := C.1.1
  have hb := C.1.2.1
  intro nf
  induction nf with
  | zero => intro _ _ _ _ H locs ls hq; exact hq.elim
  | succ nf hk88 =>
    intro x3 x4 x5 M H locs ls hq hw hl
    replace hq : bd_X12_leadsAll_88 w_X12_leads g M0 a0 p1 p2 post  (lfp (fun bk z => bd_X12_leadsAll_88 w_X12_leads g M0 a0 p1 p2 post  bk z.1 z.2.1 z.2.2.1 z.2.2.2) nf) x3 x4 x5 M := hq
    unfold bd_X12_leadsAll_88 at hq
    refine lv_iload hx hb dX12_leadsAll_88 (lv_at hl 5 rfl) ?_
    refine lv_iconst (v := 1) hx hb dX12_leadsAll_90 (by decide) ?_
    refine lv_iload hx hb dX12_leadsAll_91 (lv_at hl 4 rfl) ?_
    refine lv_ishl hx hb dX12_leadsAll_93 ?_
    refine lv_icmp_ge (tgt := 196) hx hb dX12_leadsAll_94 (by decide) (fun c25 => ?_) (fun c25 => ?_)
    · replace hq := hq.1 c25
      exact lt_X12_leadsAll_196 hd_X12_leads hr_X12_leads C hr hlk hn h0  hq hw (lv_sub hl [0, 1, 2, 3, 4] rfl)
    · replace hq := hq.2 c25
      refine lv_aload_n hx hb dX12_leadsAll_97 rfl (lv_at hl 0 rfl) ?_
      obtain ⟨q26, e27, hq⟩ := hq
      refine gfX12_51 C hw hw.2.2.1 h0 e27 dX12_leadsAll_98 ?_
      refine lv_iload_n hx hb dX12_leadsAll_101 rfl (lv_at hl 3 rfl) ?_
      refine lv_iload hx hb dX12_leadsAll_102 (lv_at hl 5 rfl) ?_
      refine lv_iadd hx hb dX12_leadsAll_104 ?_
      obtain ⟨h28, hq⟩ := hq
      obtain ⟨h29, hq⟩ := hq
      refine q_iald C hw hw.2.2.1 h28 h29 dX12_leadsAll_105 ?_
      refine lv_if_ne (tgt := 112) hx hb dX12_leadsAll_106 (by decide) (fun c30 => ?_) (fun c30 => ?_)
      · replace hq := hq.2 c30
        refine lv_iconst (v := 0) hx hb dX12_leadsAll_112 (by decide) ?_
        refine lv_istore (lv' := [(6, .int 0), (0, .ref a0), (1, .int p1), (2, .int p2), (3, .int x3), (4, .int x4), (5, .int x5)]) hx hb dX12_leadsAll_113 hl (by decide) rfl (fun ls hl => ?_)
        refine lv_aload_n hx hb dX12_leadsAll_115 rfl (lv_at hl 1 rfl) ?_
        obtain ⟨q31, e32, hq⟩ := hq
        refine gfX12_16 C hw hw.2.2.1 h0 e32 dX12_leadsAll_116 ?_
        refine lv_iload_n hx hb dX12_leadsAll_119 rfl (lv_at hl 2 rfl) ?_
        obtain ⟨h33, hq⟩ := hq
        obtain ⟨h34, hq⟩ := hq
        refine q_iald C hw hw.2.2.1 h33 h34 dX12_leadsAll_120 ?_
        refine lv_istore (lv' := [(7, .int (mI M q31 (Int32.toNatClampNeg p1))), (6, .int 0), (0, .ref a0), (1, .int p1), (2, .int p2), (3, .int x3), (4, .int x4), (5, .int x5)]) hx hb dX12_leadsAll_121 hl (by decide) rfl (fun ls hl => ?_)
        obtain ⟨nf, hq⟩ := hq
        exact lp_X12_leadsAll_123 hd_X12_leads hr_X12_leads C hr hlk hn h0 hk88 nf _ _ _ _ _ _ _ _ _ hq hw (lv_sub hl [2, 3, 4, 5, 6, 7, 1, 0] rfl)
      · replace hq := hq.1 c30
        refine lv_goto (tgt := 190) hx hb dX12_leadsAll_109 (by decide) ?_
        refine lv_iinc (v := (x5 + 1)) (lv' := [(5, .int (x5 + 1)), (0, .ref a0), (1, .int p1), (2, .int p2), (3, .int x3), (4, .int x4)]) hx hb dX12_leadsAll_190 hl (k := 5) rfl rfl (by decide) rfl (fun ls hl => ?_)
        refine lv_goto (tgt := 88) hx hb dX12_leadsAll_193 (by decide) ?_
        exact hk88 _ _ _ _ _ _ _ hq hw (lv_sub hl [1, 2, 3, 4, 5, 0] rfl)
set_option maxHeartbeats 4000000 in
set_option maxRecDepth 100000 in
theorem lt_X12_leadsAll_78 {l : Launch} {g : Gh} {p : Program} {e : Env} {s : State} {m : MethodId} {args : Array Value} {below : List Frame} {meth : Method} {c : Code} {H : Heap} {locs : List Loc} {ls : Array Slot} {M0 M : Mem} {a0 : Nat} {p1 : Int32} {p2 : Int32} {post : Int32 → Mem → Prop} {x3 : Int32} {x4 : Int32}  {d : Nat} {w_X12_leads : Gh → Mem → Nat → Int32 → Int32 → (Int32 → Mem → Prop) → Prop} {d_X12_leads : Nat} (hd_X12_leads : d_X12_leads ≤ d) (hr_X12_leads : ∀ {l : Launch} {g : Gh} {M0 : Mem} {a0 : Nat} {p1 : Int32} {p2 : Int32} {post : Int32 → Mem → Prop}, w_X12_leads g M0 a0 p1 p2 post → okc (gB g) M0 a0 12 ∧ Ct l g yX12_leads cX12_leads 5 (some .int) d_X12_leads 0 0 [.ref a0, .int p1, .int p2] M0 (pI post)) (C : Cx g p s m args c cX12_leadsAll 9 RX12) (hr : meth.sig.returnType = (some .int)) (hlk : meth.locks = false) (hn : meth.name = "leadsAll") (h0 : okc (gB g) M0 a0 12)  (hq : lb_X12_leadsAll_78 w_X12_leads g M0 a0 p1 p2 post  x3 x4 M) (hw : Wd g s M0 M H locs) (hl : lv_has ls 9 [(0, .ref a0), (1, .int p1), (2, .int p2), (3, .int x3), (4, .int x4)]) : W p l e (rmo (d + 8) 0 0) s m args below meth c H locs 0 0 (MQ below (Cq g M0 (pI post)) args s 0 0 (gA g)) (F0 m 78 ls []) := by
  have hx := C.1.1
  have hb := C.1.2.1
  unfold lb_X12_leadsAll_78 at hq
  refine lv_aload_n hx hb dX12_leadsAll_78 rfl (lv_at hl 0 rfl) ?_
  obtain ⟨q35, e36, hq⟩ := hq
  refine gfX12_51 C hw hw.2.2.1 h0 e36 dX12_leadsAll_79 ?_
  refine lv_iload_n hx hb dX12_leadsAll_82 rfl (lv_at hl 3 rfl) ?_
  refine lv_iload_n hx hb dX12_leadsAll_83 rfl (lv_at hl 2 rfl) ?_
  obtain ⟨h37, hq⟩ := hq
  obtain ⟨h38, hq⟩ := hq
  refine q_iast C hw hw.2.2.1 h37 h38 dX12_leadsAll_84 (fun H locs hw => ?_)
  generalize e40 : uI M q35 (Int32.toNatClampNeg x3) p2 = M39 at hw
  replace hq := hq M39 e40.symm
  have e36 : mR M39 a0 27 = some q35 := by rw [← e40, mR_uI]; exact e36
  refine lv_iconst (v := 0) hx hb dX12_leadsAll_85 (by decide) ?_
  refine lv_istore (lv' := [(5, .int 0), (0, .ref a0), (1, .int p1), (2, .int p2), (3, .int x3), (4, .int x4)]) hx hb dX12_leadsAll_86 hl (by decide) rfl (fun ls hl => ?_)
  obtain ⟨nf, hq⟩ := hq
  exact lp_X12_leadsAll_88 hd_X12_leads hr_X12_leads C hr hlk hn h0  nf _ _ _ _ _ _ _ hq hw (lv_sub hl [1, 2, 3, 4, 5, 0] rfl)
set_option maxHeartbeats 4000000 in
set_option maxRecDepth 100000 in
theorem lp_X12_leadsAll_53 {l : Launch} {g : Gh} {p : Program} {e : Env} {s : State} {m : MethodId} {args : Array Value} {below : List Frame} {meth : Method} {c : Code} {M0 : Mem} {a0 : Nat} {p1 : Int32} {p2 : Int32} {post : Int32 → Mem → Prop} {d : Nat} {w_X12_leads : Gh → Mem → Nat → Int32 → Int32 → (Int32 → Mem → Prop) → Prop} {d_X12_leads : Nat} (hd_X12_leads : d_X12_leads ≤ d) (hr_X12_leads : ∀ {l : Launch} {g : Gh} {M0 : Mem} {a0 : Nat} {p1 : Int32} {p2 : Int32} {post : Int32 → Mem → Prop}, w_X12_leads g M0 a0 p1 p2 post → okc (gB g) M0 a0 12 ∧ Ct l g yX12_leads cX12_leads 5 (some .int) d_X12_leads 0 0 [.ref a0, .int p1, .int p2] M0 (pI post)) (C : Cx g p s m args c cX12_leadsAll 9 RX12) (hr : meth.sig.returnType = (some .int)) (hlk : meth.locks = false) (hn : meth.name = "leadsAll") (h0 : okc (gB g) M0 a0 12)  : ∀ (nf : Nat) (x3 : Int32) (x4 : Int32) (x5 : Int32)  (M : Mem) (H : Heap) (locs : List Loc) (ls : Array Slot), lfp (fun bk z => bd_X12_leadsAll_53 w_X12_leads g M0 a0 p1 p2 post  bk z.1 z.2.1 z.2.2.1 z.2.2.2) nf (x3, x4, x5, M) → Wd g s M0 M H locs → lv_has ls 9 [(0, .ref a0), (1, .int p1), (2, .int p2), (3, .int x3), (4, .int x4), (5, .int x5)] → W p l e (rmo (d + 8) 0 0) s m args below meth c H locs 0 0 (MQ below (Cq g M0 (pI post)) args s 0 0 (gA g)) (F0 m 53 ls []) := by
  have hx := C.1.1
  have hb := C.1.2.1
  intro nf
  induction nf with
  | zero => intro _ _ _ _ H locs ls hq; exact hq.elim
  | succ nf hk53 =>
    intro x3 x4 x5 M H locs ls hq hw hl
    replace hq : bd_X12_leadsAll_53 w_X12_leads g M0 a0 p1 p2 post  (lfp (fun bk z => bd_X12_leadsAll_53 w_X12_leads g M0 a0 p1 p2 post  bk z.1 z.2.1 z.2.2.1 z.2.2.2) nf) x3 x4 x5 M := hq
    unfold bd_X12_leadsAll_53 at hq
    refine lv_iload hx hb dX12_leadsAll_53 (lv_at hl 5 rfl) ?_
    refine lv_iconst (v := 1) hx hb dX12_leadsAll_55 (by decide) ?_
    refine lv_iload hx hb dX12_leadsAll_56 (lv_at hl 4 rfl) ?_
    refine lv_ishl hx hb dX12_leadsAll_58 ?_
    refine lv_icmp_ge (tgt := 78) hx hb dX12_leadsAll_59 (by decide) (fun c41 => ?_) (fun c41 => ?_)
    · replace hq := hq.1 c41
      exact lt_X12_leadsAll_78 hd_X12_leads hr_X12_leads C hr hlk hn h0  hq hw (lv_sub hl [0, 1, 2, 3, 4] rfl)
    · replace hq := hq.2 c41
      refine lv_aload_n hx hb dX12_leadsAll_62 rfl (lv_at hl 0 rfl) ?_
      obtain ⟨q42, e43, hq⟩ := hq
      refine gfX12_51 C hw hw.2.2.1 h0 e43 dX12_leadsAll_63 ?_
      refine lv_iload_n hx hb dX12_leadsAll_66 rfl (lv_at hl 3 rfl) ?_
      refine lv_iload hx hb dX12_leadsAll_67 (lv_at hl 5 rfl) ?_
      refine lv_iadd hx hb dX12_leadsAll_69 ?_
      refine lv_iconst (v := 0) hx hb dX12_leadsAll_70 (by decide) ?_
      obtain ⟨h44, hq⟩ := hq
      obtain ⟨h45, hq⟩ := hq
      refine q_iast C hw hw.2.2.1 h44 h45 dX12_leadsAll_71 (fun H locs hw => ?_)
      generalize e47 : uI M q42 (Int32.toNatClampNeg (x3 + x5)) 0 = M46 at hw
      replace hq := hq M46 e47.symm
      have e43 : mR M46 a0 27 = some q42 := by rw [← e47, mR_uI]; exact e43
      refine lv_iinc (v := (x5 + 1)) (lv' := [(5, .int (x5 + 1)), (0, .ref a0), (1, .int p1), (2, .int p2), (3, .int x3), (4, .int x4)]) hx hb dX12_leadsAll_72 hl (k := 5) rfl rfl (by decide) rfl (fun ls hl => ?_)
      refine lv_goto (tgt := 53) hx hb dX12_leadsAll_75 (by decide) ?_
      exact hk53 _ _ _ _ _ _ _ hq hw (lv_sub hl [1, 2, 3, 4, 5, 0] rfl)
set_option maxHeartbeats 4000000 in
set_option maxRecDepth 100000 in
theorem lp_X12_leadsAll_29 {l : Launch} {g : Gh} {p : Program} {e : Env} {s : State} {m : MethodId} {args : Array Value} {below : List Frame} {meth : Method} {c : Code} {M0 : Mem} {a0 : Nat} {p1 : Int32} {p2 : Int32} {post : Int32 → Mem → Prop} {d : Nat} {w_X12_leads : Gh → Mem → Nat → Int32 → Int32 → (Int32 → Mem → Prop) → Prop} {d_X12_leads : Nat} (hd_X12_leads : d_X12_leads ≤ d) (hr_X12_leads : ∀ {l : Launch} {g : Gh} {M0 : Mem} {a0 : Nat} {p1 : Int32} {p2 : Int32} {post : Int32 → Mem → Prop}, w_X12_leads g M0 a0 p1 p2 post → okc (gB g) M0 a0 12 ∧ Ct l g yX12_leads cX12_leads 5 (some .int) d_X12_leads 0 0 [.ref a0, .int p1, .int p2] M0 (pI post)) (C : Cx g p s m args c cX12_leadsAll 9 RX12) (hr : meth.sig.returnType = (some .int)) (hlk : meth.locks = false) (hn : meth.name = "leadsAll") (h0 : okc (gB g) M0 a0 12)  : ∀ (nf : Nat) (x3 : Int32) (x4 : Int32) (x5 : Int32)  (M : Mem) (H : Heap) (locs : List Loc) (ls : Array Slot), lfp (fun bk z => bd_X12_leadsAll_29 w_X12_leads g M0 a0 p1 p2 post  bk z.1 z.2.1 z.2.2.1 z.2.2.2) nf (x3, x4, x5, M) → Wd g s M0 M H locs → lv_has ls 9 [(0, .ref a0), (1, .int p1), (2, .int p2), (3, .int x3), (4, .int x4), (5, .int x5)] → W p l e (rmo (d + 8) 0 0) s m args below meth c H locs 0 0 (MQ below (Cq g M0 (pI post)) args s 0 0 (gA g)) (F0 m 29 ls []) := by
  have hx := C.1.1
  have hb := C.1.2.1
  intro nf
  induction nf with
  | zero => intro _ _ _ _ H locs ls hq; exact hq.elim
  | succ nf hk29 =>
    intro x3 x4 x5 M H locs ls hq hw hl
    replace hq : bd_X12_leadsAll_29 w_X12_leads g M0 a0 p1 p2 post  (lfp (fun bk z => bd_X12_leadsAll_29 w_X12_leads g M0 a0 p1 p2 post  bk z.1 z.2.1 z.2.2.1 z.2.2.2) nf) x3 x4 x5 M := hq
    unfold bd_X12_leadsAll_29 at hq
    refine lv_iload hx hb dX12_leadsAll_29 (lv_at hl 5 rfl) ?_
    refine lv_iconst (v := (-1)) hx hb dX12_leadsAll_31 (by decide) ?_
    refine lv_icmp_eq (tgt := 50) hx hb dX12_leadsAll_32 (by decide) (fun c48 => ?_) (fun c48 => ?_)
    · replace hq := hq.1 c48
      refine lv_iconst (v := 1) hx hb dX12_leadsAll_50 (by decide) ?_
      refine lv_istore (lv' := [(5, .int 1), (0, .ref a0), (1, .int p1), (2, .int p2), (3, .int x3), (4, .int x4)]) hx hb dX12_leadsAll_51 hl (by decide) rfl (fun ls hl => ?_)
      obtain ⟨nf, hq⟩ := hq
      exact lp_X12_leadsAll_53 hd_X12_leads hr_X12_leads C hr hlk hn h0  nf _ _ _ _ _ _ _ hq hw (lv_sub hl [1, 2, 3, 4, 5, 0] rfl)
    · replace hq := hq.2 c48
      refine lv_iinc (v := (x4 + 1)) (lv' := [(4, .int (x4 + 1)), (0, .ref a0), (1, .int p1), (2, .int p2), (3, .int x3), (5, .int x5)]) hx hb dX12_leadsAll_35 hl (k := 4) rfl rfl (by decide) rfl (fun ls hl => ?_)
      refine lv_aload_n hx hb dX12_leadsAll_38 rfl (lv_at hl 1 rfl) ?_
      obtain ⟨q49, e50, hq⟩ := hq
      refine gfX12_19 C hw hw.2.2.1 h0 e50 dX12_leadsAll_39 ?_
      refine lv_iload hx hb dX12_leadsAll_42 (lv_at hl 5 rfl) ?_
      obtain ⟨h51, hq⟩ := hq
      obtain ⟨h52, hq⟩ := hq
      refine q_iald C hw hw.2.2.1 h51 h52 dX12_leadsAll_44 ?_
      refine lv_istore (lv' := [(5, .int (mI M q49 (Int32.toNatClampNeg x5))), (4, .int (x4 + 1)), (0, .ref a0), (1, .int p1), (2, .int p2), (3, .int x3)]) hx hb dX12_leadsAll_45 hl (by decide) rfl (fun ls hl => ?_)
      refine lv_goto (tgt := 29) hx hb dX12_leadsAll_47 (by decide) ?_
      exact hk29 _ _ _ _ _ _ _ hq hw (lv_sub hl [2, 3, 4, 5, 1, 0] rfl)
set_option maxHeartbeats 4000000 in
set_option maxRecDepth 100000 in
theorem ct_X12_leadsAll {l : Launch} {g : Gh} {M0 : Mem} {a0 : Nat} {p1 : Int32} {p2 : Int32} {post : Int32 → Mem → Prop} {d : Nat} {w_X12_leads : Gh → Mem → Nat → Int32 → Int32 → (Int32 → Mem → Prop) → Prop} {d_X12_leads : Nat} (hd_X12_leads : d_X12_leads ≤ d) (hr_X12_leads : ∀ {l : Launch} {g : Gh} {M0 : Mem} {a0 : Nat} {p1 : Int32} {p2 : Int32} {post : Int32 → Mem → Prop}, w_X12_leads g M0 a0 p1 p2 post → okc (gB g) M0 a0 12 ∧ Ct l g yX12_leads cX12_leads 5 (some .int) d_X12_leads 0 0 [.ref a0, .int p1, .int p2] M0 (pI post)) (hq : wp_X12_leadsAll w_X12_leads g M0 a0 p1 p2 post) : Ct l g yX12_leadsAll cX12_leadsAll 9 (some .int) (d + 8) 0 0 [.ref a0, .int p1, .int p2] M0 (pI post) := by
  unfold wp_X12_leadsAll at hq
  obtain ⟨h0, hq⟩ := hq
  refine Ct.of (by decide) (Nat.le_of_ble_eq_true rfl) ?_
  intro p e s m below meth c ls C hr hlk hn hl hw
  have hx := C.1.1
  have hb := C.1.2.1
  have hl : lv_has ls 9 [(0, .ref a0), (1, .int p1), (2, .int p2)] := hl
  refine lv_bipush (v := 32) hx hb dX12_leadsAll_0 (by decide) ?_
  refine lv_aload_n hx hb dX12_leadsAll_2 rfl (lv_at hl 0 rfl) ?_
  refine gfX12_235 C hw hw.2.2.1 h0 dX12_leadsAll_3 ?_
  refine lv_imul hx hb dX12_leadsAll_6 ?_
  refine lv_istore_n (lv' := [(3, .int (32 * (mI M0 a0 28))), (0, .ref a0), (1, .int p1), (2, .int p2)]) hx hb dX12_leadsAll_7 rfl hl (by decide) rfl (fun ls hl => ?_)
  refine lv_aload_n hx hb dX12_leadsAll_8 rfl (lv_at hl 1 rfl) ?_
  refine lv_dup hx hb dX12_leadsAll_9 rfl ?_
  refine gfX12_235 C hw hw.2.2.1 h0 dX12_leadsAll_10 ?_
  refine lv_iconst (v := 1) hx hb dX12_leadsAll_13 (by decide) ?_
  refine lv_iadd hx hb dX12_leadsAll_14 ?_
  refine pfX12_235 C hw hw.2.2.1 h0 dX12_leadsAll_15 (fun H locs hw => ?_)
  generalize e54 : uI M0 a0 28 ((mI M0 a0 28) + 1) = M53 at hw
  replace hq := hq M53 e54.symm
  refine lv_iconst (v := 0) hx hb dX12_leadsAll_18 (by decide) ?_
  refine lv_istore (lv' := [(4, .int 0), (3, .int (32 * (mI M0 a0 28))), (0, .ref a0), (1, .int p1), (2, .int p2)]) hx hb dX12_leadsAll_19 hl (by decide) rfl (fun ls hl => ?_)
  refine lv_aload_n hx hb dX12_leadsAll_21 rfl (lv_at hl 2 rfl) ?_
  obtain ⟨q55, e56, hq⟩ := hq
  refine gfX12_16 C hw hw.2.2.1 h0 e56 dX12_leadsAll_22 ?_
  refine lv_iload_n hx hb dX12_leadsAll_25 rfl (lv_at hl 3 rfl) ?_
  obtain ⟨h57, hq⟩ := hq
  obtain ⟨h58, hq⟩ := hq
  refine q_iald C hw hw.2.2.1 h57 h58 dX12_leadsAll_26 ?_
  refine lv_istore (lv' := [(5, .int (mI M53 q55 (Int32.toNatClampNeg p1))), (4, .int 0), (3, .int (32 * (mI M0 a0 28))), (0, .ref a0), (1, .int p1), (2, .int p2)]) hx hb dX12_leadsAll_27 hl (by decide) rfl (fun ls hl => ?_)
  obtain ⟨nf, hq⟩ := hq
  exact lp_X12_leadsAll_29 hd_X12_leads hr_X12_leads C hr hlk hn h0  nf _ _ _ _ _ _ _ hq hw (lv_sub hl [3, 4, 5, 2, 1, 0] rfl)
