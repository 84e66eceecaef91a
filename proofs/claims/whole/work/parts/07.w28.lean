set_option maxRecDepth 100000 in
def lb_X12_leads_213 (w_X12_leads : Gh → Mem → Nat → Int32 → Int32 → (Int32 → Mem → Prop) → Prop) (w_X12_leadsAll : Gh → Mem → Nat → Int32 → Int32 → (Int32 → Mem → Prop) → Prop) (g : Gh) (M0 : Mem) (a0 : Nat) (p1 : Int32) (p2 : Int32) (post : Int32 → Mem → Prop) (bk172 : Int32 × Int32 × Mem → Prop) (x3 : Int32) (x4 : Int32) (s0 : Int32) (s1 : Int32) (M : Mem) : Prop :=
  ((s0 = s1) → ∃ q2, mR M a0 25 = some q2 ∧ (okc (gB g) M0 q2 15 ∧ (vp_in x4 (mN M0 q2) ∧ (∃ q6, mR M a0 14 = some q6 ∧ (okc (gB g) M0 q6 15 ∧ (vp_in p1 (mN M0 q6) ∧ ((((lg_cmp (mJ M q2 (Int32.toNatClampNeg x4)) (mJ M q6 (Int32.toNatClampNeg p1))) < 0) → bk172 (x3, (x4 + 1), M)) ∧ (¬ ((lg_cmp (mJ M q2 (Int32.toNatClampNeg x4)) (mJ M q6 (Int32.toNatClampNeg p1))) < 0) → ∃ q11, mR M a0 15 = some q11 ∧ (okc (gB g) M0 q11 15 ∧ (vp_in p1 (mN M0 q11) ∧ (((0 < (lg_cmp (mJ M q2 (Int32.toNatClampNeg x4)) (mJ M q11 (Int32.toNatClampNeg p1)))) → bk172 (x3, (x4 + 1), M)) ∧ (¬ (0 < (lg_cmp (mJ M q2 (Int32.toNatClampNeg x4)) (mJ M q11 (Int32.toNatClampNeg p1)))) → bk172 ((x3 ||| (2 <<< (x4 &&& 31))), (x4 + 1), M))))))))))))) ∧ (¬ (s0 = s1) → bk172 (x3, (x4 + 1), M))
set_option maxRecDepth 100000 in
def bd_X12_leads_172 (w_X12_leads : Gh → Mem → Nat → Int32 → Int32 → (Int32 → Mem → Prop) → Prop) (w_X12_leadsAll : Gh → Mem → Nat → Int32 → Int32 → (Int32 → Mem → Prop) → Prop) (g : Gh) (M0 : Mem) (a0 : Nat) (p1 : Int32) (p2 : Int32) (post : Int32 → Mem → Prop)  (bk172 : Int32 × Int32 × Mem → Prop) (x3 : Int32) (x4 : Int32)  (M : Mem) : Prop :=
  (((mI M a0 26) ≤ x4) → post x3 M) ∧ (¬ ((mI M a0 26) ≤ x4) → ((((p2 >>> (x4 &&& 31)) &&& 1) = 1) → ∃ q18, mR M a0 24 = some q18 ∧ (okc (gB g) M0 q18 17 ∧ (vp_in x4 (mN M0 q18) ∧ (∃ q22, mR M a0 11 = some q22 ∧ (okc (gB g) M0 q22 14 ∧ (vp_in p1 (mN M0 q22) ∧ ((((mI M q22 (Int32.toNatClampNeg p1)) = 2) → lb_X12_leads_213 w_X12_leads w_X12_leadsAll g M0 a0 p1 p2 post bk172 x3 x4 (mI M q18 (Int32.toNatClampNeg x4)) 1 M) ∧ (¬ ((mI M q22 (Int32.toNatClampNeg p1)) = 2) → lb_X12_leads_213 w_X12_leads w_X12_leadsAll g M0 a0 p1 p2 post bk172 x3 x4 (mI M q18 (Int32.toNatClampNeg x4)) 0 M)))))))) ∧ (¬ (((p2 >>> (x4 &&& 31)) &&& 1) = 1) → bk172 (x3, (x4 + 1), M)))
set_option maxRecDepth 100000 in
def lb_X12_leads_162 (w_X12_leads : Gh → Mem → Nat → Int32 → Int32 → (Int32 → Mem → Prop) → Prop) (w_X12_leadsAll : Gh → Mem → Nat → Int32 → Int32 → (Int32 → Mem → Prop) → Prop) (g : Gh) (M0 : Mem) (a0 : Nat) (p1 : Int32) (p2 : Int32) (post : Int32 → Mem → Prop)    (M : Mem) : Prop :=
  w_X12_leadsAll g M a0 p1 p2 (fun v27 M28 => post v27 M28)
set_option maxRecDepth 100000 in
def bd_X12_leads_104 (w_X12_leads : Gh → Mem → Nat → Int32 → Int32 → (Int32 → Mem → Prop) → Prop) (w_X12_leadsAll : Gh → Mem → Nat → Int32 → Int32 → (Int32 → Mem → Prop) → Prop) (g : Gh) (M0 : Mem) (a0 : Nat) (p1 : Int32) (p2 : Int32) (post : Int32 → Mem → Prop)  (bk104 : Int32 × Int32 × Mem → Prop) (x3 : Int32) (x4 : Int32)  (M : Mem) : Prop :=
  ((x4 = (-1)) → post x3 M) ∧ (¬ (x4 = (-1)) → ((x3 = 0) → post x3 M) ∧ (¬ (x3 = 0) → w_X12_leads g M a0 x4 x3 (fun v31 M32 => ∃ q33, mR M32 a0 13 = some q33 ∧ (okc (gB g) M0 q33 14 ∧ (vp_in x4 (mN M0 q33) ∧ (bk104 (v31, (mI M32 q33 (Int32.toNatClampNeg x4)), M32)))))))
set_option maxRecDepth 100000 in
def bd_X12_leads_64 (w_X12_leads : Gh → Mem → Nat → Int32 → Int32 → (Int32 → Mem → Prop) → Prop) (w_X12_leadsAll : Gh → Mem → Nat → Int32 → Int32 → (Int32 → Mem → Prop) → Prop) (g : Gh) (M0 : Mem) (a0 : Nat) (p1 : Int32) (p2 : Int32) (post : Int32 → Mem → Prop)  (bk64 : Int32 × Int32 × Mem → Prop) (x3 : Int32) (x4 : Int32)  (M : Mem) : Prop :=
  ((x4 = (-1)) → post x3 M) ∧ (¬ (x4 = (-1)) → w_X12_leads g M a0 x4 p2 (fun v38 M39 => ∃ q40, mR M39 a0 13 = some q40 ∧ (okc (gB g) M0 q40 14 ∧ (vp_in x4 (mN M0 q40) ∧ (bk64 ((x3 ||| v38), (mI M39 q40 (Int32.toNatClampNeg x4)), M39))))))
set_option maxRecDepth 100000 in
def wp_X12_leads (w_X12_leads : Gh → Mem → Nat → Int32 → Int32 → (Int32 → Mem → Prop) → Prop) (w_X12_leadsAll : Gh → Mem → Nat → Int32 → Int32 → (Int32 → Mem → Prop) → Prop) (g : Gh) (M0 : Mem) (a0 : Nat) (p1 : Int32) (p2 : Int32) (post : Int32 → Mem → Prop) : Prop :=
  okc (gB g) M0 a0 12 ∧ (∃ q44, mR M0 a0 11 = some q44 ∧ (okc (gB g) M0 q44 14 ∧ (vp_in p1 (mN M0 q44) ∧ ((((mI M0 q44 (Int32.toNatClampNeg p1)) = 0) → ∃ q49, mR M0 a0 12 = some q49 ∧ (okc (gB g) M0 q49 14 ∧ (vp_in p1 (mN M0 q49) ∧ ((∃ n : Nat, lfp (fun bk z => bd_X12_leads_64 w_X12_leads w_X12_leadsAll g M0 a0 p1 p2 post  bk z.1 z.2.1 z.2.2) n (0, (mI M0 q49 (Int32.toNatClampNeg p1)), M0)))))) ∧ (((mI M0 q44 (Int32.toNatClampNeg p1)) = 1) → ∃ q53, mR M0 a0 12 = some q53 ∧ (okc (gB g) M0 q53 14 ∧ (vp_in p1 (mN M0 q53) ∧ ((∃ n : Nat, lfp (fun bk z => bd_X12_leads_104 w_X12_leads w_X12_leadsAll g M0 a0 p1 p2 post  bk z.1 z.2.1 z.2.2) n (p2, (mI M0 q53 (Int32.toNatClampNeg p1)), M0)))))) ∧ (((mI M0 q44 (Int32.toNatClampNeg p1)) = 2) → (∃ n : Nat, lfp (fun bk z => bd_X12_leads_172 w_X12_leads w_X12_leadsAll g M0 a0 p1 p2 post  bk z.1 z.2.1 z.2.2) n (0, 0, M0))) ∧ (((mI M0 q44 (Int32.toNatClampNeg p1)) = 3) → (∃ n : Nat, lfp (fun bk z => bd_X12_leads_172 w_X12_leads w_X12_leadsAll g M0 a0 p1 p2 post  bk z.1 z.2.1 z.2.2) n (0, 0, M0))) ∧ (((mI M0 q44 (Int32.toNatClampNeg p1)) = 4) → (∃ n : Nat, lfp (fun bk z => bd_X12_leads_172 w_X12_leads w_X12_leadsAll g M0 a0 p1 p2 post  bk z.1 z.2.1 z.2.2) n (0, 0, M0))) ∧ (((mI M0 q44 (Int32.toNatClampNeg p1)) = 5) → ∃ q57, mR M0 a0 12 = some q57 ∧ (okc (gB g) M0 q57 14 ∧ (vp_in p1 (mN M0 q57) ∧ (w_X12_leads g M0 a0 (mI M0 q57 (Int32.toNatClampNeg p1)) p2 (fun v61 M62 => post (p2 ||| v61) M62))))) ∧ (((mI M0 q44 (Int32.toNatClampNeg p1)) = 6) → ∃ q63, mR M0 a0 12 = some q63 ∧ (okc (gB g) M0 q63 14 ∧ (vp_in p1 (mN M0 q63) ∧ (w_X12_leads g M0 a0 (mI M0 q63 (Int32.toNatClampNeg p1)) p2 (fun v67 M68 => post v67 M68))))) ∧ (((mI M0 q44 (Int32.toNatClampNeg p1)) = 7) → lb_X12_leads_162 w_X12_leads w_X12_leadsAll g M0 a0 p1 p2 post   M0) ∧ ((¬ ((mI M0 q44 (Int32.toNatClampNeg p1)) = 0) ∧ ¬ ((mI M0 q44 (Int32.toNatClampNeg p1)) = 1) ∧ ¬ ((mI M0 q44 (Int32.toNatClampNeg p1)) = 2) ∧ ¬ ((mI M0 q44 (Int32.toNatClampNeg p1)) = 3) ∧ ¬ ((mI M0 q44 (Int32.toNatClampNeg p1)) = 4) ∧ ¬ ((mI M0 q44 (Int32.toNatClampNeg p1)) = 5) ∧ ¬ ((mI M0 q44 (Int32.toNatClampNeg p1)) = 6) ∧ ¬ ((mI M0 q44 (Int32.toNatClampNeg p1)) = 7)) → (∃ n : Nat, lfp (fun bk z => bd_X12_leads_172 w_X12_leads w_X12_leadsAll g M0 a0 p1 p2 post  bk z.1 z.2.1 z.2.2) n (0, 0, M0)))))))
set_option maxHeartbeats 4000000 in
set_option maxRecDepth 100000 in
theorem lt_X12_leads_213 {l : Launch} {g : Gh} {p : Program} {e : Env} {s : State} {m : MethodId} {args : Array Value} {below : List Frame} {meth : Method} {c : Code} {H : Heap} {locs : List Loc} {ls : Array Slot} {M0 M : Mem} {a0 : Nat} {p1 : Int32} {p2 : Int32} {post : Int32 → Mem → Prop} {x3 : Int32} {x4 : Int32} {s0 : Int32} {s1 : Int32} {d : Nat} {w_X12_leads : Gh → Mem → Nat → Int32 → Int32 → (Int32 → Mem → Prop) → Prop} {d_X12_leads : Nat} (hd_X12_leads : d_X12_leads ≤ d) (hr_X12_leads : ∀ {l : Launch} {g : Gh} {M0 : Mem} {a0 : Nat} {p1 : Int32} {p2 : Int32} {post : Int32 → Mem → Prop}, w_X12_leads g M0 a0 p1 p2 post → okc (gB g) M0 a0 12 ∧ Ct l g yX12_leads cX12_leads 5 (some .int) d_X12_leads 0 0 [.ref a0, .int p1, .int p2] M0 (pI post)) {w_X12_leadsAll : Gh → Mem → Nat → Int32 → Int32 → (Int32 → Mem → Prop) → Prop} {d_X12_leadsAll : Nat} (hd_X12_leadsAll : d_X12_leadsAll ≤ d) (hr_X12_leadsAll : ∀ {l : Launch} {g : Gh} {M0 : Mem} {a0 : Nat} {p1 : Int32} {p2 : Int32} {post : Int32 → Mem → Prop}, w_X12_leadsAll g M0 a0 p1 p2 post → okc (gB g) M0 a0 12 ∧ Ct l g yX12_leadsAll cX12_leadsAll 9 (some .int) d_X12_leadsAll 0 0 [.ref a0, .int p1, .int p2] M0 (pI post)) (C : Cx g p s m args c cX12_leads 5 RX12) (hr : meth.sig.returnType = (some .int)) (hlk : meth.locks = false) (hn : meth.name = "leads") (h0 : okc (gB g) M0 a0 12) {bk172 : Int32 × Int32 × Mem → Prop} (hk172 : ∀ (x3 : Int32) (x4 : Int32) (M : Mem) (H : Heap) (locs : List Loc) (ls : Array Slot), bk172 (x3, x4, M) → Wd g s M0 M H locs → lv_has ls 5 [(0, .ref a0), (1, .int p1), (2, .int p2), (3, .int x3), (4, .int x4)] → W p l e (rmo (d + 8) 0 0) s m args below meth c H locs 0 0 (MQ below (Cq g M0 (pI post)) args s 0 0 (gA g)) (F0 m 172 ls [])) (hq : lb_X12_leads_213 w_X12_leads w_X12_leadsAll g M0 a0 p1 p2 post bk172 x3 x4 s0 s1 M) (hw : Wd g s M0 M H locs) (hl : lv_has ls 5 [(0, .ref a0), (1, .int p1), (2, .int p2), (3, .int x3), (4, .int x4)]) : W p l e (rmo (d + 8) 0 0) s m args below meth c H locs 0 0 (MQ below (Cq g M0 (pI post)) args s 0 0 (gA g)) (F0 m 213 ls [.int s1, .int s0]) := by
  have hx := C.1.1
  have hb := C.1.2.1
  unfold lb_X12_leads_213 at hq
  refine lv_icmp_ne (tgt := 257) hx hb dX12_leads_213 (by decide) (fun c1 => ?_) (fun c1 => ?_)
  · replace hq := hq.2 c1
    refine lv_iinc (v := (x4 + 1)) (lv' := [(4, .int (x4 + 1)), (0, .ref a0), (1, .int p1), (2, .int p2), (3, .int x3)]) hx hb dX12_leads_257 hl (k := 4) rfl rfl (by decide) rfl (fun ls hl => ?_)
    refine lv_goto (tgt := 172) hx hb dX12_leads_260 (by decide) ?_
    exact hk172 _ _ _ _ _ _ hq hw (lv_sub hl [1, 2, 3, 4, 0] rfl)
  · replace hq := hq.1 c1
    refine lv_aload_n hx hb dX12_leads_216 rfl (lv_at hl 0 rfl) ?_
    obtain ⟨q2, e3, hq⟩ := hq
    refine gfX12_48 C hw hw.2.2.1 h0 e3 dX12_leads_217 ?_
    refine lv_iload hx hb dX12_leads_220 (lv_at hl 4 rfl) ?_
    obtain ⟨h4, hq⟩ := hq
    obtain ⟨h5, hq⟩ := hq
    refine q_lald C hw hw.2.2.1 h4 h5 dX12_leads_222 ?_
    refine lv_aload_n hx hb dX12_leads_223 rfl (lv_at hl 0 rfl) ?_
    obtain ⟨q6, e7, hq⟩ := hq
    refine gfX12_22 C hw hw.2.2.1 h0 e7 dX12_leads_224 ?_
    refine lv_iload_n hx hb dX12_leads_227 rfl (lv_at hl 1 rfl) ?_
    obtain ⟨h8, hq⟩ := hq
    obtain ⟨h9, hq⟩ := hq
    refine q_lald C hw hw.2.2.1 h8 h9 dX12_leads_228 ?_
    refine W.lcmp hx hb dX12_leads_229 ?_
    refine lv_if_lt (tgt := 257) hx hb dX12_leads_230 (by decide) (fun c10 => ?_) (fun c10 => ?_)
    · replace hq := hq.1 c10
      refine lv_iinc (v := (x4 + 1)) (lv' := [(4, .int (x4 + 1)), (0, .ref a0), (1, .int p1), (2, .int p2), (3, .int x3)]) hx hb dX12_leads_257 hl (k := 4) rfl rfl (by decide) rfl (fun ls hl => ?_)
      refine lv_goto (tgt := 172) hx hb dX12_leads_260 (by decide) ?_
      exact hk172 _ _ _ _ _ _ hq hw (lv_sub hl [1, 2, 3, 4, 0] rfl)
    · replace hq := hq.2 c10
      refine lv_aload_n hx hb dX12_leads_233 rfl (lv_at hl 0 rfl) ?_
      refine gfX12_48 C hw hw.2.2.1 h0 e3 dX12_leads_234 ?_
      refine lv_iload hx hb dX12_leads_237 (lv_at hl 4 rfl) ?_
      refine q_lald C hw hw.2.2.1 h4 h5 dX12_leads_239 ?_
      refine lv_aload_n hx hb dX12_leads_240 rfl (lv_at hl 0 rfl) ?_
      obtain ⟨q11, e12, hq⟩ := hq
      refine gfX12_26 C hw hw.2.2.1 h0 e12 dX12_leads_241 ?_
      refine lv_iload_n hx hb dX12_leads_244 rfl (lv_at hl 1 rfl) ?_
      obtain ⟨h13, hq⟩ := hq
      obtain ⟨h14, hq⟩ := hq
      refine q_lald C hw hw.2.2.1 h13 h14 dX12_leads_245 ?_
      refine W.lcmp hx hb dX12_leads_246 ?_
      refine lv_if_gt (tgt := 257) hx hb dX12_leads_247 (by decide) (fun c15 => ?_) (fun c15 => ?_)
      · replace hq := hq.1 c15
        refine lv_iinc (v := (x4 + 1)) (lv' := [(4, .int (x4 + 1)), (0, .ref a0), (1, .int p1), (2, .int p2), (3, .int x3)]) hx hb dX12_leads_257 hl (k := 4) rfl rfl (by decide) rfl (fun ls hl => ?_)
        refine lv_goto (tgt := 172) hx hb dX12_leads_260 (by decide) ?_
        exact hk172 _ _ _ _ _ _ hq hw (lv_sub hl [1, 2, 3, 4, 0] rfl)
      · replace hq := hq.2 c15
        refine lv_iload_n hx hb dX12_leads_250 rfl (lv_at hl 3 rfl) ?_
        refine lv_iconst (v := 2) hx hb dX12_leads_251 (by decide) ?_
        refine lv_iload hx hb dX12_leads_252 (lv_at hl 4 rfl) ?_
        refine lv_ishl hx hb dX12_leads_254 ?_
        refine lv_ior hx hb dX12_leads_255 ?_
        refine lv_istore_n (lv' := [(3, .int (x3 ||| (2 <<< (x4 &&& 31)))), (0, .ref a0), (1, .int p1), (2, .int p2), (4, .int x4)]) hx hb dX12_leads_256 rfl hl (by decide) rfl (fun ls hl => ?_)
        refine lv_iinc (v := (x4 + 1)) (lv' := [(4, .int (x4 + 1)), (3, .int (x3 ||| (2 <<< (x4 &&& 31)))), (0, .ref a0), (1, .int p1), (2, .int p2)]) hx hb dX12_leads_257 hl (k := 4) rfl rfl (by decide) rfl (fun ls hl => ?_)
        refine lv_goto (tgt := 172) hx hb dX12_leads_260 (by decide) ?_
        exact hk172 _ _ _ _ _ _ hq hw (lv_sub hl [2, 3, 4, 1, 0] rfl)
set_option maxHeartbeats 4000000 in
set_option maxRecDepth 100000 in
theorem lp_X12_leads_172 {l : Launch} {g : Gh} {p : Program} {e : Env} {s : State} {m : MethodId} {args : Array Value} {below : List Frame} {meth : Method} {c : Code} {M0 : Mem} {a0 : Nat} {p1 : Int32} {p2 : Int32} {post : Int32 → Mem → Prop} {d : Nat} {w_X12_leads : Gh → Mem → Nat → Int32 → Int32 → (Int32 → Mem → Prop) → Prop} {d_X12_leads : Nat} (hd_X12_leads : d_X12_leads ≤ d) (hr_X12_leads : ∀ {l : Launch} {g : Gh} {M0 : Mem} {a0 : Nat} {p1 : Int32} {p2 : Int32} {post : Int32 → Mem → Prop}, w_X12_leads g M0 a0 p1 p2 post → okc (gB g) M0 a0 12 ∧ Ct l g yX12_leads cX12_leads 5 (some .int) d_X12_leads 0 0 [.ref a0, .int p1, .int p2] M0 (pI post)) {w_X12_leadsAll : Gh → Mem → Nat → Int32 → Int32 → (Int32 → Mem → Prop) → Prop} {d_X12_leadsAll : Nat} (hd_X12_leadsAll : d_X12_leadsAll ≤ d) (hr_X12_leadsAll : ∀ {l : Launch} {g : Gh} {M0 : Mem} {a0 : Nat} {p1 : Int32} {p2 : Int32} {post : Int32 → Mem → Prop}, w_X12_leadsAll g M0 a0 p1 p2 post → okc (gB g) M0 a0 12 ∧ Ct l g yX12_leadsAll cX12_leadsAll 9 (some .int) d_X12_leadsAll 0 0 [.ref a0, .int p1, .int p2] M0 (pI post)) (C : Cx g p s m args c cX12_leads 5 RX12) (hr : meth.sig.returnType = (some .int)) (hlk : meth.locks = false) (hn : meth.name = "leads") (h0 : okc (gB g) M0 a0 12)  : ∀ (nf : Nat) (x3 : Int32) (x4 : Int32)  (M : Mem) (H : Heap) (locs : List Loc) (ls : Array Slot), lfp (fun bk z => bd_X12_leads_172 w_X12_leads w_X12_leadsAll g M0 a0 p1 p2 post  bk z.1 z.2.1 z.2.2) nf (x3, x4, M) → Wd g s M0 M H locs → lv_has ls 5 [(0, .ref a0), (1, .int p1), (2, .int p2), (3, .int x3), (4, .int x4)] → W p l e (rmo (d + 8) 0 0) s m args below meth c H locs 0 0 (MQ below (Cq g M0 (pI post)) args s 0 0 (gA g)) (F0 m 172 ls []) := by
  have hx := C.1.1
  have hb := C.1.2.1
  intro nf
  induction nf with
  | zero => intro _ _ _ H locs ls hq; exact hq.elim
  | succ nf hk172 =>
    intro x3 x4 M H locs ls hq hw hl
    replace hq : bd_X12_leads_172 w_X12_leads w_X12_leadsAll g M0 a0 p1 p2 post  (lfp (fun bk z => bd_X12_leads_172 w_X12_leads w_X12_leadsAll g M0 a0 p1 p2 post  bk z.1 z.2.1 z.2.2) nf) x3 x4 M := hq
    unfold bd_X12_leads_172 at hq
    refine lv_iload hx hb dX12_leads_172 (lv_at hl 4 rfl) ?_
    refine lv_aload_n hx hb dX12_leads_174 rfl (lv_at hl 0 rfl) ?_
    refine gfX12_225 C hw hw.2.2.1 h0 dX12_leads_175 ?_
    refine lv_icmp_ge (tgt := 263) hx hb dX12_leads_178 (by decide) (fun c16 => ?_) (fun c16 => ?_)
    · replace hq := hq.1 c16
      refine lv_iload_n hx hb dX12_leads_263 rfl (lv_at hl 3 rfl) ?_
      exact r_iret C hr hlk hw dX12_leads_264 (Nat.le_refl _) (Nat.le_refl _) ⟨_, rfl, hq⟩
    · replace hq := hq.2 c16
      refine lv_iload_n hx hb dX12_leads_181 rfl (lv_at hl 2 rfl) ?_
      refine lv_iload hx hb dX12_leads_182 (lv_at hl 4 rfl) ?_
      refine lv_ishr hx hb dX12_leads_184 ?_
      refine lv_iconst (v := 1) hx hb dX12_leads_185 (by decide) ?_
      refine lv_iand hx hb dX12_leads_186 ?_
      refine lv_iconst (v := 1) hx hb dX12_leads_187 (by decide) ?_
      refine lv_icmp_ne (tgt := 257) hx hb dX12_leads_188 (by decide) (fun c17 => ?_) (fun c17 => ?_)
      · replace hq := hq.2 c17
        refine lv_iinc (v := (x4 + 1)) (lv' := [(4, .int (x4 + 1)), (0, .ref a0), (1, .int p1), (2, .int p2), (3, .int x3)]) hx hb dX12_leads_257 hl (k := 4) rfl rfl (by decide) rfl (fun ls hl => ?_)
        refine lv_goto (tgt := 172) hx hb dX12_leads_260 (by decide) ?_
        exact hk172 _ _ _ _ _ _ hq hw (lv_sub hl [1, 2, 3, 4, 0] rfl)
      · replace hq := hq.1 c17
        refine lv_aload_n hx hb dX12_leads_191 rfl (lv_at hl 0 rfl) ?_
        obtain ⟨q18, e19, hq⟩ := hq
        refine gfX12_45 C hw hw.2.2.1 h0 e19 dX12_leads_192 ?_
        refine lv_iload hx hb dX12_leads_195 (lv_at hl 4 rfl) ?_
        obtain ⟨h20, hq⟩ := hq
        obtain ⟨h21, hq⟩ := hq
        refine q_zald C hw hw.2.2.1 h20 h21 dX12_leads_197 ?_
        refine lv_aload_n hx hb dX12_leads_198 rfl (lv_at hl 0 rfl) ?_
        obtain ⟨q22, e23, hq⟩ := hq
        refine gfX12_13 C hw hw.2.2.1 h0 e23 dX12_leads_199 ?_
        refine lv_iload_n hx hb dX12_leads_202 rfl (lv_at hl 1 rfl) ?_
        obtain ⟨h24, hq⟩ := hq
        obtain ⟨h25, hq⟩ := hq
        refine q_iald C hw hw.2.2.1 h24 h25 dX12_leads_203 ?_
        refine lv_iconst (v := 2) hx hb dX12_leads_204 (by decide) ?_
        refine lv_icmp_ne (tgt := 212) hx hb dX12_leads_205 (by decide) (fun c26 => ?_) (fun c26 => ?_)
        · replace hq := hq.2 c26
          refine lv_iconst (v := 0) hx hb dX12_leads_212 (by decide) ?_
          exact lt_X12_leads_213 hd_X12_leads hr_X12_leads hd_X12_leadsAll hr_X12_leadsAll C hr hlk hn h0 hk172 hq hw (lv_sub hl [0, 1, 2, 3, 4] rfl)
        · replace hq := hq.1 c26
          refine lv_iconst (v := 1) hx hb dX12_leads_208 (by decide) ?_
          refine lv_goto (tgt := 213) hx hb dX12_leads_209 (by decide) ?_
          exact lt_X12_leads_213 hd_X12_leads hr_X12_leads hd_X12_leadsAll hr_X12_leadsAll C hr hlk hn h0 hk172 hq hw (lv_sub hl [0, 1, 2, 3, 4] rfl)
set_option maxHeartbeats 4000000 in
set_option maxRecDepth 100000 in
theorem lt_X12_leads_162 {l : Launch} {g : Gh} {p : Program} {e : Env} {s : State} {m : MethodId} {args : Array Value} {below : List Frame} {meth : Method} {c : Code} {H : Heap} {locs : List Loc} {ls : Array Slot} {M0 M : Mem} {a0 : Nat} {p1 : Int32} {p2 : Int32} {post : Int32 → Mem → Prop}   {d : Nat} {w_X12_leads : Gh → Mem → Nat → Int32 → Int32 → (Int32 → Mem → Prop) → Prop} {d_X12_leads : Nat} (hd_X12_leads : d_X12_leads ≤ d) (hr_X12_leads : ∀ {l : Launch} {g : Gh} {M0 : Mem} {a0 : Nat} {p1 : Int32} {p2 : Int32} {post : Int32 → Mem → Prop}, w_X12_leads g M0 a0 p1 p2 post → okc (gB g) M0 a0 12 ∧ Ct l g yX12_leads cX12_leads 5 (some .int) d_X12_leads 0 0 [.ref a0, .int p1, .int p2] M0 (pI post)) {w_X12_leadsAll : Gh → Mem → Nat → Int32 → Int32 → (Int32 → Mem → Prop) → Prop} {d_X12_leadsAll : Nat} (hd_X12_leadsAll : d_X12_leadsAll ≤ d) (hr_X12_leadsAll : ∀ {l : Launch} {g : Gh} {M0 : Mem} {a0 : Nat} {p1 : Int32} {p2 : Int32} {post : Int32 → Mem → Prop}, w_X12_leadsAll g M0 a0 p1 p2 post → okc (gB g) M0 a0 12 ∧ Ct l g yX12_leadsAll cX12_leadsAll 9 (some .int) d_X12_leadsAll 0 0 [.ref a0, .int p1, .int p2] M0 (pI post)) (C : Cx g p s m args c cX12_leads 5 RX12) (hr : meth.sig.returnType = (some .int)) (hlk : meth.locks = false) (hn : meth.name = "leads") (h0 : okc (gB g) M0 a0 12)  (hq : lb_X12_leads_162 w_X12_leads w_X12_leadsAll g M0 a0 p1 p2 post   M) (hw : Wd g s M0 M H locs) (hl : lv_has ls 5 [(0, .ref a0), (1, .int p1), (2, .int p2)]) : W p l e (rmo (d + 8) 0 0) s m args below meth c H locs 0 0 (MQ below (Cq g M0 (pI post)) args s 0 0 (gA g)) (F0 m 162 ls []) := by
  have hx := C.1.1
  have hb := C.1.2.1
  unfold lb_X12_leads_162 at hq
  refine lv_aload_n hx hb dX12_leads_162 rfl (lv_at hl 0 rfl) ?_
  refine lv_iload_n hx hb dX12_leads_163 rfl (lv_at hl 1 rfl) ?_
  refine lv_iload_n hx hb dX12_leads_164 rfl (lv_at hl 2 rfl) ?_
  refine r_callV (T := TX12) (N := 67) (ci := 12) (index := 232) (n := 2) (d2 := d_X12_leadsAll) (mc := 0) (ms := 0) (As := [.int p1, .int p2]) (rest := []) C hw (hr_X12_leadsAll hq).2 kvX12_232 (hr_X12_leadsAll (l := l) hq).1 (by decide) rfl ⟨by simp only [rmo]; omega, by simp only [rmo]; omega⟩ ⟨Nat.le_refl _, Nat.le_refl _⟩ rfl hl.1 rfl (Nat.le_of_ble_eq_true rfl) dX12_leads_165 (fun r M28 H locs hp hle hw => ?_)
  obtain ⟨v27, rfl, hq⟩ := hp
  refine W.eq (g2 := F0 m 168 ls [.int v27]) rfl ?_
  exact r_iret C hr hlk hw dX12_leads_168 (Nat.le_refl _) (Nat.le_refl _) ⟨_, rfl, hq⟩
set_option maxHeartbeats 4000000 in
set_option maxRecDepth 100000 in
theorem lp_X12_leads_104 {l : Launch} {g : Gh} {p : Program} {e : Env} {s : State} {m : MethodId} {args : Array Value} {below : List Frame} {meth : Method} {c : Code} {M0 : Mem} {a0 : Nat} {p1 : Int32} {p2 : Int32} {post : Int32 → Mem → Prop} {d : Nat} {w_X12_leads : Gh → Mem → Nat → Int32 → Int32 → (Int32 → Mem → Prop) → Prop} {d_X12_leads : Nat} (hd_X12_leads : d_X12_leads ≤ d) (hr_X12_leads : ∀ {l : Launch} {g : Gh} {M0 : Mem} {a0 : Nat} {p1 : Int32} {p2 : Int32} {post : Int32 → Mem → Prop}, w_X12_leads g M0 a0 p1 p2 post → okc (gB g) M0 a0 12 ∧ Ct l g yX12_leads cX12_leads 5 (some .int) d_X12_leads 0 0 [.ref a0, .int p1, .int p2] M0 (pI post)) {w_X12_leadsAll : Gh → Mem → Nat → Int32 → Int32 → (Int32 → Mem → Prop) → Prop} {d_X12_leadsAll : Nat} (hd_X12_leadsAll : d_X12_leadsAll ≤ d) (hr_X12_leadsAll : ∀ {l : Launch} {g : Gh} {M0 : Mem} {a0 : Nat} {p1 : Int32} {p2 : Int32} {post : Int32 → Mem → Prop}, w_X12_leadsAll g M0 a0 p1 p2 post → okc (gB g) M0 a0 12 ∧ Ct l g yX12_leadsAll cX12_leadsAll 9 (some .int) d_X12_leadsAll 0 0 [.ref a0, .int p1, .int p2] M0 (pI post)) (C : Cx g p s m args c cX12_leads 5 RX12) (hr : meth.sig.returnType = (some .int)) (hlk : meth.locks = false) (hn : meth.name = "leads") (h0 : okc (gB g) M0 a0 12)  : ∀ (nf : Nat) (x3 : Int32) (x4 : Int32)  (M : Mem) (H : Heap) (locs : List Loc) (ls : Array Slot), lfp (fun bk z => bd_X12_leads_104 w_X12_leads w_X12_leadsAll g M0 a0 p1 p2 post  bk z.1 z.2.1 z.2.2) nf (x3, x4, M) → Wd g s M0 M H locs → lv_has ls 5 [(0, .ref a0), (1, .int p1), (2, .int p2), (3, .int x3), (4, .int x4)] → W p l e (rmo (d + 8) 0 0) s m args below meth c H locs 0 0 (MQ below (Cq g M0 (pI post)) args s 0 0 (gA g)) (F0 m 104 ls []) := by
  have hx := C.1.1
  have hb := C.1.2.1
  intro nf
  induction nf with
  | zero => intro _ _ _ H locs ls hq; exact hq.elim
  | succ nf hk104 =>
    intro x3 x4 M H locs ls hq hw hl
    replace hq : bd_X12_leads_104 w_X12_leads w_X12_leadsAll g M0 a0 p1 p2 post  (lfp (fun bk z => bd_X12_leads_104 w_X12_leads w_X12_leadsAll g M0 a0 p1 p2 post  bk z.1 z.2.1 z.2.2) nf) x3 x4 M := hq
    unfold bd_X12_leads_104 at hq
    refine lv_iload hx hb dX12_leads_104 (lv_at hl 4 rfl) ?_
    refine lv_iconst (v := (-1)) hx hb dX12_leads_106 (by decide) ?_
    refine lv_icmp_eq (tgt := 134) hx hb dX12_leads_107 (by decide) (fun c29 => ?_) (fun c29 => ?_)
    · replace hq := hq.1 c29
      refine lv_iload_n hx hb dX12_leads_134 rfl (lv_at hl 3 rfl) ?_
      exact r_iret C hr hlk hw dX12_leads_135 (Nat.le_refl _) (Nat.le_refl _) ⟨_, rfl, hq⟩
    · replace hq := hq.2 c29
      refine lv_iload_n hx hb dX12_leads_110 rfl (lv_at hl 3 rfl) ?_
      refine lv_if_eq (tgt := 134) hx hb dX12_leads_111 (by decide) (fun c30 => ?_) (fun c30 => ?_)
      · replace hq := hq.1 c30
        refine lv_iload_n hx hb dX12_leads_134 rfl (lv_at hl 3 rfl) ?_
        exact r_iret C hr hlk hw dX12_leads_135 (Nat.le_refl _) (Nat.le_refl _) ⟨_, rfl, hq⟩
      · replace hq := hq.2 c30
        refine lv_aload_n hx hb dX12_leads_114 rfl (lv_at hl 0 rfl) ?_
        refine lv_iload hx hb dX12_leads_115 (lv_at hl 4 rfl) ?_
        refine lv_iload_n hx hb dX12_leads_117 rfl (lv_at hl 3 rfl) ?_
        refine r_callV (T := TX12) (N := 67) (ci := 12) (index := 228) (n := 2) (d2 := d_X12_leads) (mc := 0) (ms := 0) (As := [.int x4, .int x3]) (rest := []) C hw (hr_X12_leads hq).2 kvX12_228 (hr_X12_leads (l := l) hq).1 (by decide) rfl ⟨by simp only [rmo]; omega, by simp only [rmo]; omega⟩ ⟨Nat.le_refl _, Nat.le_refl _⟩ rfl hl.1 rfl (Nat.le_of_ble_eq_true rfl) dX12_leads_118 (fun r M32 H locs hp hle hw => ?_)
        obtain ⟨v31, rfl, hq⟩ := hp
        refine W.eq (g2 := F0 m 121 ls [.int v31]) rfl ?_
        refine lv_istore_n (lv' := [(3, .int v31), (0, .ref a0), (1, .int p1), (2, .int p2), (4, .int x4)]) hx hb dX12_leads_121 rfl hl (by decide) rfl (fun ls hl => ?_)
        refine lv_aload_n hx hb dX12_leads_122 rfl (lv_at hl 1 rfl) ?_
        obtain ⟨q33, e34, hq⟩ := hq
        refine gfX12_19 C hw hw.2.2.1 h0 e34 dX12_leads_123 ?_
        refine lv_iload hx hb dX12_leads_126 (lv_at hl 4 rfl) ?_
        obtain ⟨h35, hq⟩ := hq
        obtain ⟨h36, hq⟩ := hq
        refine q_iald C hw hw.2.2.1 h35 h36 dX12_leads_128 ?_
        refine lv_istore (lv' := [(4, .int (mI M32 q33 (Int32.toNatClampNeg x4))), (3, .int v31), (0, .ref a0), (1, .int p1), (2, .int p2)]) hx hb dX12_leads_129 hl (by decide) rfl (fun ls hl => ?_)
        refine lv_goto (tgt := 104) hx hb dX12_leads_131 (by decide) ?_
        exact hk104 _ _ _ _ _ _ hq hw (lv_sub hl [2, 3, 4, 1, 0] rfl)
set_option maxHeartbeats 4000000 in
set_option maxRecDepth 100000 in
theorem lp_X12_leads_64 {l : Launch} {g : Gh} {p : Program} {e : Env} {s : State} {m : MethodId} {args : Array Value} {below : List Frame} {meth : Method} {c : Code} {M0 : Mem} {a0 : Nat} {p1 : Int32} {p2 : Int32} {post : Int32 → Mem → Prop} {d : Nat} {w_X12_leads : Gh → Mem → Nat → Int32 → Int32 → (Int32 → Mem → Prop) → Prop} {d_X12_leads : Nat} (hd_X12_leads : d_X12_leads ≤ d) (hr_X12_leads : ∀ {l : Launch} {g : Gh} {M0 : Mem} {a0 : Nat} {p1 : Int32} {p2 : Int32} {post : Int32 → Mem → Prop}, w_X12_leads g M0 a0 p1 p2 post → okc (gB g) M0 a0 12 ∧ Ct l g yX12_leads cX12_leads 5 (some .int) d_X12_leads 0 0 [.ref a0, .int p1, .int p2] M0 (pI post)) {w_X12_leadsAll : Gh → Mem → Nat → Int32 → Int32 → (Int32 → Mem → Prop) → Prop} {d_X12_leadsAll : Nat} (hd_X12_leadsAll : d_X12_leadsAll ≤ d) (hr_X12_leadsAll : ∀ {l : Launch} {g : Gh} {M0 : Mem} {a0 : Nat} {p1 : Int32} {p2 : Int32} {post : Int32 → Mem → Prop}, w_X12_leadsAll g M0 a0 p1 p2 post → okc (gB g) M0 a0 12 ∧ Ct l g yX12_leadsAll cX12_leadsAll 9 (some .int) d_X12_leadsAll 0 0 [.ref a0, .int p1, .int p2] M0 (pI post)) (C : Cx g p s m args c cX12_leads 5 RX12) (hr : meth.sig.returnType = (some .int)) (hlk : meth.locks = false) (hn : meth.name = "leads") (h0 : okc (gB g) M0 a0 12)  : ∀ (nf : Nat) (x3 : Int32) (x4 : Int32)  (M : Mem) (H : Heap) (locs : List Loc) (ls : Array Slot), lfp (fun bk z => bd_X12_leads_64 w_X12_leads w_X12_leadsAll g M0 a0 p1 p2 post  bk z.1 z.2.1 z.2.2) nf (x3, x4, M) → Wd g s M0 M H locs → lv_has ls 5 [(0, .ref a0), (1, .int p1), (2, .int p2), (3, .int x3), (4, .int x4)] → W p l e (rmo (d + 8) 0 0) s m args below meth c H locs 0 0 (MQ below (Cq g M0 (pI post)) args s 0 0 (gA g)) (F0 m 64 ls []) := by
  have hx := C.1.1
  have hb := C.1.2.1
  intro nf
  induction nf with
  | zero => intro _ _ _ H locs ls hq; exact hq.elim
  | succ nf hk64 =>
    intro x3 x4 M H locs ls hq hw hl
    replace hq : bd_X12_leads_64 w_X12_leads w_X12_leadsAll g M0 a0 p1 p2 post  (lfp (fun bk z => bd_X12_leads_64 w_X12_leads w_X12_leadsAll g M0 a0 p1 p2 post  bk z.1 z.2.1 z.2.2) nf) x3 x4 M := hq
    unfold bd_X12_leads_64 at hq
    refine lv_iload hx hb dX12_leads_64 (lv_at hl 4 rfl) ?_
    refine lv_iconst (v := (-1)) hx hb dX12_leads_66 (by decide) ?_
    refine lv_icmp_eq (tgt := 92) hx hb dX12_leads_67 (by decide) (fun c37 => ?_) (fun c37 => ?_)
    · replace hq := hq.1 c37
      refine lv_iload_n hx hb dX12_leads_92 rfl (lv_at hl 3 rfl) ?_
      exact r_iret C hr hlk hw dX12_leads_93 (Nat.le_refl _) (Nat.le_refl _) ⟨_, rfl, hq⟩
    · replace hq := hq.2 c37
      refine lv_iload_n hx hb dX12_leads_70 rfl (lv_at hl 3 rfl) ?_
      refine lv_aload_n hx hb dX12_leads_71 rfl (lv_at hl 0 rfl) ?_
      refine lv_iload hx hb dX12_leads_72 (lv_at hl 4 rfl) ?_
      refine lv_iload_n hx hb dX12_leads_74 rfl (lv_at hl 2 rfl) ?_
      refine r_callV (T := TX12) (N := 67) (ci := 12) (index := 228) (n := 2) (d2 := d_X12_leads) (mc := 0) (ms := 0) (As := [.int x4, .int p2]) (rest := [.int x3]) C hw (hr_X12_leads hq).2 kvX12_228 (hr_X12_leads (l := l) hq).1 (by decide) rfl ⟨by simp only [rmo]; omega, by simp only [rmo]; omega⟩ ⟨Nat.le_refl _, Nat.le_refl _⟩ rfl hl.1 rfl (Nat.le_of_ble_eq_true rfl) dX12_leads_75 (fun r M39 H locs hp hle hw => ?_)
      obtain ⟨v38, rfl, hq⟩ := hp
      refine W.eq (g2 := F0 m 78 ls [.int v38, .int x3]) rfl ?_
      refine lv_ior hx hb dX12_leads_78 ?_
      refine lv_istore_n (lv' := [(3, .int (x3 ||| v38)), (0, .ref a0), (1, .int p1), (2, .int p2), (4, .int x4)]) hx hb dX12_leads_79 rfl hl (by decide) rfl (fun ls hl => ?_)
      refine lv_aload_n hx hb dX12_leads_80 rfl (lv_at hl 1 rfl) ?_
      obtain ⟨q40, e41, hq⟩ := hq
      refine gfX12_19 C hw hw.2.2.1 h0 e41 dX12_leads_81 ?_
      refine lv_iload hx hb dX12_leads_84 (lv_at hl 4 rfl) ?_
      obtain ⟨h42, hq⟩ := hq
      obtain ⟨h43, hq⟩ := hq
      refine q_iald C hw hw.2.2.1 h42 h43 dX12_leads_86 ?_
      refine lv_istore (lv' := [(4, .int (mI M39 q40 (Int32.toNatClampNeg x4))), (3, .int (x3 ||| v38)), (0, .ref a0), (1, .int p1), (2, .int p2)]) hx hb dX12_leads_87 hl (by decide) rfl (fun ls hl => ?_)
      refine lv_goto (tgt := 64) hx hb dX12_leads_89 (by decide) ?_
      exact hk64 _ _ _ _ _ _ hq hw (lv_sub hl [2, 3, 4, 1, 0] rfl)
set_option maxHeartbeats 4000000 in
set_option maxRecDepth 100000 in
theorem ct_X12_leads {l : Launch} {g : Gh} {M0 : Mem} {a0 : Nat} {p1 : Int32} {p2 : Int32} {post : Int32 → Mem → Prop} {d : Nat} {w_X12_leads : Gh → Mem → Nat → Int32 → Int32 → (Int32 → Mem → Prop) → Prop} {d_X12_leads : Nat} (hd_X12_leads : d_X12_leads ≤ d) (hr_X12_leads : ∀ {l : Launch} {g : Gh} {M0 : Mem} {a0 : Nat} {p1 : Int32} {p2 : Int32} {post : Int32 → Mem → Prop}, w_X12_leads g M0 a0 p1 p2 post → okc (gB g) M0 a0 12 ∧ Ct l g yX12_leads cX12_leads 5 (some .int) d_X12_leads 0 0 [.ref a0, .int p1, .int p2] M0 (pI post)) {w_X12_leadsAll : Gh → Mem → Nat → Int32 → Int32 → (Int32 → Mem → Prop) → Prop} {d_X12_leadsAll : Nat} (hd_X12_leadsAll : d_X12_leadsAll ≤ d) (hr_X12_leadsAll : ∀ {l : Launch} {g : Gh} {M0 : Mem} {a0 : Nat} {p1 : Int32} {p2 : Int32} {post : Int32 → Mem → Prop}, w_X12_leadsAll g M0 a0 p1 p2 post → okc (gB g) M0 a0 12 ∧ Ct l g yX12_leadsAll cX12_leadsAll 9 (some .int) d_X12_leadsAll 0 0 [.ref a0, .int p1, .int p2] M0 (pI post)) (hq : wp_X12_leads w_X12_leads w_X12_leadsAll g M0 a0 p1 p2 post) : Ct l g yX12_leads cX12_leads 5 (some .int) (d + 8) 0 0 [.ref a0, .int p1, .int p2] M0 (pI post) := by
  unfold wp_X12_leads at hq
  obtain ⟨h0, hq⟩ := hq
  refine Ct.of (by decide) (Nat.le_of_ble_eq_true rfl) ?_
  intro p e s m below meth c ls C hr hlk hn hl hw
  have hx := C.1.1
  have hb := C.1.2.1
  have hl : lv_has ls 5 [(0, .ref a0), (1, .int p1), (2, .int p2)] := hl
  refine lv_iconst (v := 0) hx hb dX12_leads_0 (by decide) ?_
  refine lv_istore_n (lv' := [(3, .int 0), (0, .ref a0), (1, .int p1), (2, .int p2)]) hx hb dX12_leads_1 rfl hl (by decide) rfl (fun ls hl => ?_)
  refine lv_aload_n hx hb dX12_leads_2 rfl (lv_at hl 1 rfl) ?_
  obtain ⟨q44, e45, hq⟩ := hq
  refine gfX12_13 C hw hw.2.2.1 h0 e45 dX12_leads_3 ?_
  refine lv_iload_n hx hb dX12_leads_6 rfl (lv_at hl 2 rfl) ?_
  obtain ⟨h46, hq⟩ := hq
  obtain ⟨h47, hq⟩ := hq
  refine q_iald C hw hw.2.2.1 h46 h47 dX12_leads_7 ?_
  by_cases c69 : (mI M0 q44 (Int32.toNatClampNeg p1)) = 0
  · refine r_table (v := 0) (off := 48) (tgt := 56) hx hb dX12_leads_8 c69 (by decide) (by decide) rfl (by decide) ?_
    replace hq := hq.1 c69
    refine lv_aload_n hx hb dX12_leads_56 rfl (lv_at hl 1 rfl) ?_
    obtain ⟨q49, e50, hq⟩ := hq
    refine gfX12_16 C hw hw.2.2.1 h0 e50 dX12_leads_57 ?_
    refine lv_iload_n hx hb dX12_leads_60 rfl (lv_at hl 2 rfl) ?_
    obtain ⟨h51, hq⟩ := hq
    obtain ⟨h52, hq⟩ := hq
    refine q_iald C hw hw.2.2.1 h51 h52 dX12_leads_61 ?_
    refine lv_istore (lv' := [(4, .int (mI M0 q49 (Int32.toNatClampNeg p1))), (3, .int 0), (0, .ref a0), (1, .int p1), (2, .int p2)]) hx hb dX12_leads_62 hl (by decide) rfl (fun ls hl => ?_)
    obtain ⟨nf, hq⟩ := hq
    exact lp_X12_leads_64 hd_X12_leads hr_X12_leads hd_X12_leadsAll hr_X12_leadsAll C hr hlk hn h0  nf _ _ _ _ _ _ hq hw (lv_sub hl [2, 3, 4, 1, 0] rfl)
  by_cases c70 : (mI M0 q44 (Int32.toNatClampNeg p1)) = 1
  · refine r_table (v := 1) (off := 86) (tgt := 94) hx hb dX12_leads_8 c70 (by decide) (by decide) rfl (by decide) ?_
    replace hq := hq.2.1 c70
    refine lv_iload_n hx hb dX12_leads_94 rfl (lv_at hl 3 rfl) ?_
    refine lv_istore_n (lv' := [(3, .int p2), (0, .ref a0), (1, .int p1), (2, .int p2)]) hx hb dX12_leads_95 rfl hl (by decide) rfl (fun ls hl => ?_)
    refine lv_aload_n hx hb dX12_leads_96 rfl (lv_at hl 1 rfl) ?_
    obtain ⟨q53, e54, hq⟩ := hq
    refine gfX12_16 C hw hw.2.2.1 h0 e54 dX12_leads_97 ?_
    refine lv_iload_n hx hb dX12_leads_100 rfl (lv_at hl 2 rfl) ?_
    obtain ⟨h55, hq⟩ := hq
    obtain ⟨h56, hq⟩ := hq
    refine q_iald C hw hw.2.2.1 h55 h56 dX12_leads_101 ?_
    refine lv_istore (lv' := [(4, .int (mI M0 q53 (Int32.toNatClampNeg p1))), (3, .int p2), (0, .ref a0), (1, .int p1), (2, .int p2)]) hx hb dX12_leads_102 hl (by decide) rfl (fun ls hl => ?_)
    obtain ⟨nf, hq⟩ := hq
    exact lp_X12_leads_104 hd_X12_leads hr_X12_leads hd_X12_leadsAll hr_X12_leadsAll C hr hlk hn h0  nf _ _ _ _ _ _ hq hw (lv_sub hl [2, 3, 4, 1, 0] rfl)
  by_cases c71 : (mI M0 q44 (Int32.toNatClampNeg p1)) = 2
  · refine r_table (v := 2) (off := 161) (tgt := 169) hx hb dX12_leads_8 c71 (by decide) (by decide) rfl (by decide) ?_
    replace hq := hq.2.2.1 c71
    refine lv_iconst (v := 0) hx hb dX12_leads_169 (by decide) ?_
    refine lv_istore (lv' := [(4, .int 0), (3, .int 0), (0, .ref a0), (1, .int p1), (2, .int p2)]) hx hb dX12_leads_170 hl (by decide) rfl (fun ls hl => ?_)
    obtain ⟨nf, hq⟩ := hq
    exact lp_X12_leads_172 hd_X12_leads hr_X12_leads hd_X12_leadsAll hr_X12_leadsAll C hr hlk hn h0  nf _ _ _ _ _ _ hq hw (lv_sub hl [2, 3, 4, 1, 0] rfl)
  by_cases c72 : (mI M0 q44 (Int32.toNatClampNeg p1)) = 3
  · refine r_table (v := 3) (off := 161) (tgt := 169) hx hb dX12_leads_8 c72 (by decide) (by decide) rfl (by decide) ?_
    replace hq := hq.2.2.2.1 c72
    refine lv_iconst (v := 0) hx hb dX12_leads_169 (by decide) ?_
    refine lv_istore (lv' := [(4, .int 0), (3, .int 0), (0, .ref a0), (1, .int p1), (2, .int p2)]) hx hb dX12_leads_170 hl (by decide) rfl (fun ls hl => ?_)
    obtain ⟨nf, hq⟩ := hq
    exact lp_X12_leads_172 hd_X12_leads hr_X12_leads hd_X12_leadsAll hr_X12_leadsAll C hr hlk hn h0  nf _ _ _ _ _ _ hq hw (lv_sub hl [2, 3, 4, 1, 0] rfl)
  by_cases c73 : (mI M0 q44 (Int32.toNatClampNeg p1)) = 4
  · refine r_table (v := 4) (off := 161) (tgt := 169) hx hb dX12_leads_8 c73 (by decide) (by decide) rfl (by decide) ?_
    replace hq := hq.2.2.2.2.1 c73
    refine lv_iconst (v := 0) hx hb dX12_leads_169 (by decide) ?_
    refine lv_istore (lv' := [(4, .int 0), (3, .int 0), (0, .ref a0), (1, .int p1), (2, .int p2)]) hx hb dX12_leads_170 hl (by decide) rfl (fun ls hl => ?_)
    obtain ⟨nf, hq⟩ := hq
    exact lp_X12_leads_172 hd_X12_leads hr_X12_leads hd_X12_leadsAll hr_X12_leadsAll C hr hlk hn h0  nf _ _ _ _ _ _ hq hw (lv_sub hl [2, 3, 4, 1, 0] rfl)
  by_cases c74 : (mI M0 q44 (Int32.toNatClampNeg p1)) = 5
  · refine r_table (v := 5) (off := 128) (tgt := 136) hx hb dX12_leads_8 c74 (by decide) (by decide) rfl (by decide) ?_
    replace hq := hq.2.2.2.2.2.1 c74
    refine lv_iload_n hx hb dX12_leads_136 rfl (lv_at hl 3 rfl) ?_
    refine lv_aload_n hx hb dX12_leads_137 rfl (lv_at hl 1 rfl) ?_
    refine lv_aload_n hx hb dX12_leads_138 rfl (lv_at hl 1 rfl) ?_
    obtain ⟨q57, e58, hq⟩ := hq
    refine gfX12_16 C hw hw.2.2.1 h0 e58 dX12_leads_139 ?_
    refine lv_iload_n hx hb dX12_leads_142 rfl (lv_at hl 2 rfl) ?_
    obtain ⟨h59, hq⟩ := hq
    obtain ⟨h60, hq⟩ := hq
    refine q_iald C hw hw.2.2.1 h59 h60 dX12_leads_143 ?_
    refine lv_iload_n hx hb dX12_leads_144 rfl (lv_at hl 3 rfl) ?_
    refine r_callV (T := TX12) (N := 67) (ci := 12) (index := 228) (n := 2) (d2 := d_X12_leads) (mc := 0) (ms := 0) (As := [.int (mI M0 q57 (Int32.toNatClampNeg p1)), .int p2]) (rest := [.int p2]) C hw (hr_X12_leads hq).2 kvX12_228 (hr_X12_leads (l := l) hq).1 (by decide) rfl ⟨by simp only [rmo]; omega, by simp only [rmo]; omega⟩ ⟨Nat.le_refl _, Nat.le_refl _⟩ rfl hl.1 rfl (Nat.le_of_ble_eq_true rfl) dX12_leads_145 (fun r M62 H locs hp hle hw => ?_)
    obtain ⟨v61, rfl, hq⟩ := hp
    refine W.eq (g2 := F0 m 148 ls [.int v61, .int p2]) rfl ?_
    refine lv_ior hx hb dX12_leads_148 ?_
    exact r_iret C hr hlk hw dX12_leads_149 (Nat.le_refl _) (Nat.le_refl _) ⟨_, rfl, hq⟩
  by_cases c75 : (mI M0 q44 (Int32.toNatClampNeg p1)) = 6
  · refine r_table (v := 6) (off := 142) (tgt := 150) hx hb dX12_leads_8 c75 (by decide) (by decide) rfl (by decide) ?_
    replace hq := hq.2.2.2.2.2.2.1 c75
    refine lv_aload_n hx hb dX12_leads_150 rfl (lv_at hl 1 rfl) ?_
    refine lv_aload_n hx hb dX12_leads_151 rfl (lv_at hl 1 rfl) ?_
    obtain ⟨q63, e64, hq⟩ := hq
    refine gfX12_16 C hw hw.2.2.1 h0 e64 dX12_leads_152 ?_
    refine lv_iload_n hx hb dX12_leads_155 rfl (lv_at hl 2 rfl) ?_
    obtain ⟨h65, hq⟩ := hq
    obtain ⟨h66, hq⟩ := hq
    refine q_iald C hw hw.2.2.1 h65 h66 dX12_leads_156 ?_
    refine lv_iload_n hx hb dX12_leads_157 rfl (lv_at hl 3 rfl) ?_
    refine r_callV (T := TX12) (N := 67) (ci := 12) (index := 228) (n := 2) (d2 := d_X12_leads) (mc := 0) (ms := 0) (As := [.int (mI M0 q63 (Int32.toNatClampNeg p1)), .int p2]) (rest := []) C hw (hr_X12_leads hq).2 kvX12_228 (hr_X12_leads (l := l) hq).1 (by decide) rfl ⟨by simp only [rmo]; omega, by simp only [rmo]; omega⟩ ⟨Nat.le_refl _, Nat.le_refl _⟩ rfl hl.1 rfl (Nat.le_of_ble_eq_true rfl) dX12_leads_158 (fun r M68 H locs hp hle hw => ?_)
    obtain ⟨v67, rfl, hq⟩ := hp
    refine W.eq (g2 := F0 m 161 ls [.int v67]) rfl ?_
    exact r_iret C hr hlk hw dX12_leads_161 (Nat.le_refl _) (Nat.le_refl _) ⟨_, rfl, hq⟩
  by_cases c76 : (mI M0 q44 (Int32.toNatClampNeg p1)) = 7
  · refine r_table (v := 7) (off := 154) (tgt := 162) hx hb dX12_leads_8 c76 (by decide) (by decide) rfl (by decide) ?_
    replace hq := hq.2.2.2.2.2.2.2.1 c76
    exact lt_X12_leads_162 hd_X12_leads hr_X12_leads hd_X12_leadsAll hr_X12_leadsAll C hr hlk hn h0  hq hw (lv_sub hl [1, 2, 3] rfl)
  refine r_tableOut (tgt := 169) (k := 7) hx hb dX12_leads_8 (by decide) (fun j hj => by rcases (show j = 0 ∨ j = 1 ∨ j = 2 ∨ j = 3 ∨ j = 4 ∨ j = 5 ∨ j = 6 ∨ j = 7 by omega) with rfl | rfl | rfl | rfl | rfl | rfl | rfl | rfl <;> assumption) (by decide) ?_
  replace hq := hq.2.2.2.2.2.2.2.2 ⟨c69, c70, c71, c72, c73, c74, c75, c76⟩
  refine lv_iconst (v := 0) hx hb dX12_leads_169 (by decide) ?_
  refine lv_istore (lv' := [(4, .int 0), (3, .int 0), (0, .ref a0), (1, .int p1), (2, .int p2)]) hx hb dX12_leads_170 hl (by decide) rfl (fun ls hl => ?_)
  obtain ⟨nf, hq⟩ := hq
  exact lp_X12_leads_172 hd_X12_leads hr_X12_leads hd_X12_leadsAll hr_X12_leadsAll C hr hlk hn h0  nf _ _ _ _ _ _ hq hw (lv_sub hl [2, 3, 4, 1, 0] rfl)
def wpLeads : Nat → Gh → Mem → Nat → Int32 → Int32 → (Int32 → Mem → Prop) → Prop
  | 0 => fun _ _ _ _ _ _ => False
  | n + 1 => wp_X12_leads (wpLeads n) (wp_X12_leadsAll (wpLeads n))
theorem ctLeads2 : ∀ (n : Nat) {l : Launch} {g : Gh} {M0 : Mem} {a0 : Nat} {p1 p2 : Int32} {post : Int32 → Mem → Prop}, wpLeads n g M0 a0 p1 p2 post → okc (gB g) M0 a0 12 ∧ Ct l g yX12_leads cX12_leads 5 (some .int) (16 * n) 0 0 [.ref a0, .int p1, .int p2] M0 (pI post)
  | 0, _, _, _, _, _, _, _, h => h.elim
  | n + 1, l, g, M0, a0, p1, p2, post, h => by
    have h : wp_X12_leads (wpLeads n) (wp_X12_leadsAll (wpLeads n)) g M0 a0 p1 p2 post := h
    have h2 := ct_X12_leads (l := l) (d := 16 * n + 8) (d_X12_leads := 16 * n) (by omega) (fun h => ctLeads2 n h) (Nat.le_refl _) (fun h => ⟨h.1, ct_X12_leadsAll (d := 16 * n) (Nat.le_refl _) (fun h => ctLeads2 n h) h⟩) h
    rw [show 16 * (n + 1) = 16 * n + 8 + 8 by omega]
    exact ⟨h.1, h2⟩
theorem ctLeads (n : Nat) {l : Launch} {g : Gh} {M0 : Mem} {a0 : Nat} {p1 p2 : Int32} {post : Int32 → Mem → Prop} (h : wpLeads n g M0 a0 p1 p2 post) : Ct l g yX12_leads cX12_leads 5 (some .int) (16 * n) 0 0 [.ref a0, .int p1, .int p2] M0 (pI post) := (ctLeads2 n h).2

set_option maxRecDepth 100000 in
def wp_X12_isTaken  (g : Gh) (M0 : Mem) (a0 : Nat) (p1 : Int32) (post : Int32 → Mem → Prop) : Prop :=
  okc (gB g) M0 a0 12 ∧ (∀ M1, M1 = uI M0 a0 28 0 → (wpLeads 32 g M1 a0 (420 * p1) 1 (fun v3 M4 => ((((v3 >>> ((mI M4 a0 26) &&& 31)) &&& 1) = 1) → post 1 M4) ∧ (¬ (((v3 >>> ((mI M4 a0 26) &&& 31)) &&& 1) = 1) → post 0 M4))))
set_option maxHeartbeats 4000000 in
set_option maxRecDepth 100000 in
theorem ct_X12_isTaken {l : Launch} {g : Gh} {M0 : Mem} {a0 : Nat} {p1 : Int32} {post : Int32 → Mem → Prop}  (hq : wp_X12_isTaken  g M0 a0 p1 post) : Ct l g yX12_isTaken cX12_isTaken 2 (some .boolean) 513 0 0 [.ref a0, .int p1] M0 (pI post) := by
  unfold wp_X12_isTaken at hq
  obtain ⟨h0, hq⟩ := hq
  refine Ct.of (by decide) (Nat.le_of_ble_eq_true rfl) ?_
  intro p e s m below meth c ls C hr hlk hn hl hw
  have hx := C.1.1
  have hb := C.1.2.1
  have hl : lv_has ls 2 [(0, .ref a0), (1, .int p1)] := hl
  refine lv_aload_n hx hb dX12_isTaken_0 rfl (lv_at hl 0 rfl) ?_
  refine lv_iconst (v := 0) hx hb dX12_isTaken_1 (by decide) ?_
  refine pfX12_235 C hw hw.2.2.1 h0 dX12_isTaken_2 (fun H locs hw => ?_)
  generalize e2 : uI M0 a0 28 0 = M1 at hw
  replace hq := hq M1 e2.symm
  refine lv_aload_n hx hb dX12_isTaken_5 rfl (lv_at hl 0 rfl) ?_
  refine lv_sipush (v := 420) hx hb dX12_isTaken_6 (by decide) ?_
  refine lv_iload_n hx hb dX12_isTaken_9 rfl (lv_at hl 1 rfl) ?_
  refine lv_imul hx hb dX12_isTaken_10 ?_
  refine lv_iconst (v := 1) hx hb dX12_isTaken_11 (by decide) ?_
  refine r_callV (T := TX12) (N := 67) (ci := 12) (index := 228) (n := 2) (d2 := 512) (mc := 0) (ms := 0) (As := [.int (420 * p1), .int 1]) (rest := []) C hw (ctLeads 32 hq) kvX12_228 (h0.up hw.2.2.1) (by decide) rfl ⟨by decide, by decide⟩ ⟨by decide, by decide⟩ rfl hl.1 rfl (Nat.le_of_ble_eq_true rfl) dX12_isTaken_12 (fun r M4 H locs hp hle hw => ?_)
  obtain ⟨v3, rfl, hq⟩ := hp
  refine W.eq (g2 := F0 m 15 ls [.int v3]) rfl ?_
  refine lv_aload_n hx hb dX12_isTaken_15 rfl (lv_at hl 0 rfl) ?_
  refine gfX12_225 C hw hw.2.2.1 h0 dX12_isTaken_16 ?_
  refine lv_ishr hx hb dX12_isTaken_19 ?_
  refine lv_iconst (v := 1) hx hb dX12_isTaken_20 (by decide) ?_
  refine lv_iand hx hb dX12_isTaken_21 ?_
  refine lv_iconst (v := 1) hx hb dX12_isTaken_22 (by decide) ?_
  refine lv_icmp_ne (tgt := 30) hx hb dX12_isTaken_23 (by decide) (fun c5 => ?_) (fun c5 => ?_)
  · replace hq := hq.2 c5
    refine lv_iconst (v := 0) hx hb dX12_isTaken_30 (by decide) ?_
    exact r_zret C hr hlk hw dX12_isTaken_31 (Nat.le_refl _) (Nat.le_refl _) (by decide) ⟨_, rfl, hq⟩
  · replace hq := hq.1 c5
    refine lv_iconst (v := 1) hx hb dX12_isTaken_26 (by decide) ?_
    refine lv_goto (tgt := 31) hx hb dX12_isTaken_27 (by decide) ?_
    exact r_zret C hr hlk hw dX12_isTaken_31 (Nat.le_refl _) (Nat.le_refl _) (by decide) ⟨_, rfl, hq⟩

set_option maxRecDepth 100000 in
def wp_X12_isQuestion  (g : Gh) (M0 : Mem) (a0 : Nat) (p1 : Int32) (post : Int32 → Mem → Prop) : Prop :=
  okc (gB g) M0 a0 12 ∧ (((p1 < 0) → post 0 M0) ∧ (¬ (p1 < 0) → (((mI M0 a0 16) ≤ p1) → post 0 M0) ∧ (¬ ((mI M0 a0 16) ≤ p1) → post 1 M0)))
set_option maxHeartbeats 4000000 in
set_option maxRecDepth 100000 in
theorem ct_X12_isQuestion {l : Launch} {g : Gh} {M0 : Mem} {a0 : Nat} {p1 : Int32} {post : Int32 → Mem → Prop}  (hq : wp_X12_isQuestion  g M0 a0 p1 post) : Ct l g yX12_isQuestion cX12_isQuestion 2 (some .boolean) 0 0 0 [.ref a0, .int p1] M0 (pI post) := by
  unfold wp_X12_isQuestion at hq
  obtain ⟨h0, hq⟩ := hq
  refine Ct.of (by decide) (Nat.le_of_ble_eq_true rfl) ?_
  intro p e s m below meth c ls C hr hlk hn hl hw
  have hx := C.1.1
  have hb := C.1.2.1
  have hl : lv_has ls 2 [(0, .ref a0), (1, .int p1)] := hl
  refine lv_iload_n hx hb dX12_isQuestion_0 rfl (lv_at hl 1 rfl) ?_
  refine lv_if_lt (tgt := 16) hx hb dX12_isQuestion_1 (by decide) (fun c1 => ?_) (fun c1 => ?_)
  · replace hq := hq.1 c1
    refine lv_iconst (v := 0) hx hb dX12_isQuestion_16 (by decide) ?_
    exact r_zret C hr hlk hw dX12_isQuestion_17 (Nat.le_refl _) (Nat.le_refl _) (by decide) ⟨_, rfl, hq⟩
  · replace hq := hq.2 c1
    refine lv_iload_n hx hb dX12_isQuestion_4 rfl (lv_at hl 1 rfl) ?_
    refine lv_aload_n hx hb dX12_isQuestion_5 rfl (lv_at hl 0 rfl) ?_
    refine gfX12_181 C hw hw.2.2.1 h0 dX12_isQuestion_6 ?_
    refine lv_icmp_ge (tgt := 16) hx hb dX12_isQuestion_9 (by decide) (fun c2 => ?_) (fun c2 => ?_)
    · replace hq := hq.1 c2
      refine lv_iconst (v := 0) hx hb dX12_isQuestion_16 (by decide) ?_
      exact r_zret C hr hlk hw dX12_isQuestion_17 (Nat.le_refl _) (Nat.le_refl _) (by decide) ⟨_, rfl, hq⟩
    · replace hq := hq.2 c2
      refine lv_iconst (v := 1) hx hb dX12_isQuestion_12 (by decide) ?_
      refine lv_goto (tgt := 17) hx hb dX12_isQuestion_13 (by decide) ?_
      exact r_zret C hr hlk hw dX12_isQuestion_17 (Nat.le_refl _) (Nat.le_refl _) (by decide) ⟨_, rfl, hq⟩
