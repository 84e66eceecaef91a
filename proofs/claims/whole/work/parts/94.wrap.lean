/-! THE LAW'S HELPERS: calls that may throw, caught -/
section RowsX
variable {g : Gh} {p : Program} {l : Launch} {e : Env} {R : Room} {s : State} {m : MethodId} {args : Array Value} {below : List Frame} {meth : Method} {c : Code} {H : Heap} {locs : List Loc} {cells slots : Nat} {Q : State → Prop}
variable {cc : ByteArray} {nL pc : Nat} {own : String} {ls : Array Slot} {st0 rest : List Value} {b : Nat} {M0 M : Mem}
variable {y : MethodName} {bytes : ByteArray} {maxL index n d2 mc ms : Nat} {ret : Option FieldType} {As : List Value} {post2 : Option Value → Mem → Prop} {px : String → Mem → Prop}
theorem r_afterX {a : Array Value} (hr : vx_Run p l e R s m args below meth c H locs cells slots mc ms (F0 m pc ls st0) rest (Cq g M post2 a) (CqX g M px) (gA g)) (hw : Wd g s M0 M H locs)
    (kx : ∀ (E : String) (ce : Cell) (q9 : Addr) (M' : Mem) (H' : Heap) (locs' : List Loc), px E M' → mle M M' → Wd g s M0 M' H' locs' → H'[q9]? = some ce → ce.vm = .none → s.vm.findClass E = some ce.cls → vx_W p l e R s m args below meth c H' locs' (cells + mc) (slots + ms) Q (F0 m pc ls rest) q9)
    (kk : ∀ (r : Option Value) (M' : Mem) (H' : Heap) (locs' : List Loc), post2 r M' → mle M M' → Wd g s M0 M' H' locs' → W p l e R s m args below meth c H' locs' (cells + mc) (slots + ms) Q (F0 m (pc + 3) ls (r.toList ++ rest))) : W p l e R s m args below meth c H locs cells slots Q (F0 m pc ls st0) := by
  intro T hT X
  have hS := hw.2.2.2
  rcases hr T hT X with ⟨v, st₀, t, T', L, h0, X', hL, e1, e2, ⟨⟨r, M', hv, hp, hle, hP', hz'⟩, hz, hk⟩, st⟩ | ⟨q, st₀, t, T', L, E, ce, h0, X', hL, e1, e2, ⟨M', hp, hle, hP', hz', hz, hk⟩, hce, hcv, hcl, st⟩
  · cases hv
    rw [h0] at hz hk
    obtain ⟨t2, a1, b1⟩ := kk v M' T'.heap (locs ++ L) hp hle ⟨by rw [e1]; exact hP', by rw [e1]; exact hz', mle_tr hw.2.2.1 hle, ⟨Nat.le_trans hS.1 (by rw [e1]; exact hz), fun q h1 h2 => by rw [e1, hk q (Nat.lt_of_lt_of_le h1 hS.1) h2]; exact hS.2.1 q h1 h2, fun q hq => by
        rcases List.mem_append.mp hq with h | h
        · exact hS.2.2 q h
        · exact hL q h⟩⟩ T' rfl X'
    exact ⟨t2, st t2 a1, b1⟩
  · rw [h0] at hz hk
    obtain ⟨t2, a1, b1⟩ := kx E ce q M' T'.heap (locs ++ L) hp hle ⟨by rw [e1]; exact hP', by rw [e1]; exact hz', mle_tr hw.2.2.1 hle, ⟨Nat.le_trans hS.1 (by rw [e1]; exact hz), fun q h1 h2 => by rw [e1, hk q (Nat.lt_of_lt_of_le h1 hS.1) h2]; exact hS.2.1 q h1 h2, fun q hq => by
        rcases List.mem_append.mp hq with h | h
        · exact hS.2.2 q h
        · exact hL q h⟩⟩ (by rw [e1]; exact hce) hcv hcl T' rfl X'
    exact ⟨t2, st.trans a1, b1⟩
theorem PrX_blind {av : List Value} : FrameBlind (va_Pc av (PrX g M)) := by
  intro a U f mk q
  have hz : ZX g U U.heap := q.2.2
  have h1 := Pr_blind (g := g) (M := M) (av := av) a U f mk ⟨q.1, q.2.1⟩
  exact ⟨h1.1, h1.2, ZX.same (s := U) (U := U.calling f mk a) rfl hz⟩
theorem r_callVX {cn : String} {T : u_T} {N ci : Nat} (C : Cx g p s m args c cc nL own) (hZ : ZX g s s.heap) (hw : Wd g s M0 M H locs) (hM : CtX l g y bytes maxL ret d2 mc ms (.ref b :: As) M post2 px) (k : LkV own index cn y bytes maxL ret n) (hb : okc (gB g) M b ci) (h13 : ci < 13) (hc : vwCl[ci]? = some (cn, T, N))
    (hR : d2 + 1 ≤ R.frames ∧ 8 + (maxL + 11) + 64 * d2 ≤ R.locals) (hf : cells + mc ≤ R.cells ∧ slots + ms ≤ R.slots) (hn : As.length = n) (hsz : ls.size = nL) (hst : st0 = As.reverse ++ .ref b :: rest) (hW : (rest.map fun v => v.category).sum ≤ 8) (hd : decode cc pc = .ok (.invokevirtual index, 3))
    (kx : ∀ (E : String) (ce : Cell) (q9 : Addr) (M' : Mem) (H' : Heap) (locs' : List Loc), px E M' → mle M M' → Wd g s M0 M' H' locs' → H'[q9]? = some ce → ce.vm = .none → s.vm.findClass E = some ce.cls → vx_W p l e R s m args below meth c H' locs' (cells + mc) (slots + ms) Q (F0 m pc ls rest) q9)
    (kk : ∀ (r : Option Value) (M' : Mem) (H' : Heap) (locs' : List Loc), post2 r M' → mle M M' → Wd g s M0 M' H' locs' → W p l e R s m args below meth c H' locs' (cells + mc) (slots + ms) Q (F0 m (pc + 3) ls (r.toList ++ rest))) : W p l e R s m args below meth c H locs cells slots Q (F0 m pc ls st0) := by
  have hts := C.1.2.2.2.2
  obtain ⟨q, hq⟩ := mw_get (G := gG g) hb (by omega)
  rw [mce_at_o hb.2.2 h13] at hq
  exact r_afterX (vx_runV (As := As) (rest := rest) C.1 hM ⟨callB_of n hts (goodC k.1) rfl rfl rfl (hts _ k.2.1) (hts _ k.2.2.1) k.2.2.2.1 hR, hts _ k.2.2.2.2.1, hts _ k.2.2.2.2.2⟩ ⟨PrX_blind, va_recv (q := (cn, T, N)) C.2.1 hw.1 hc hq, fun U hU hW => ⟨rfl, Pr_of C hw U hU hW, by subst hU; exact hZ.kept hW hw.2.2.2.2.1⟩⟩ rfl hn hsz hst (lv_room hW) hd hf) hw kx kk
/-- what a helper of the law asks: also that one exception is no kind of the other -/
def PrY (g : Gh) (M : Mem) : State → Prop := fun U => PrX g M U ∧ va_Nc "java/lang/IllegalStateException" "java/lang/IllegalArgumentException" U
theorem PrY_blind {av : List Value} : FrameBlind (va_Pc av (PrY g M)) := by
  intro a U f mk q
  have hz : va_Nc "java/lang/IllegalStateException" "java/lang/IllegalArgumentException" U := q.2.2
  have h1 := PrX_blind (g := g) (M := M) (av := av) a U f mk ⟨q.1, q.2.1⟩
  exact ⟨h1.1, h1.2, va_Nc.moved (u := U) (U := U.calling f mk a) (Vm.Alike.refl U.vm) hz⟩
def CtW (l : Launch) (g : Gh) (y : MethodName) (cc : ByteArray) (maxL : Nat) (ret : Option FieldType) (hh : List (Nat × Nat × Nat × Nat)) (d mc ms : Nat) (av : List Value) (M : Mem) (post : Option Value → Mem → Prop) : Prop :=
  Met l y (Cond.codeWith y cc maxL ret hh :: TBL) (rmo d mc ms) (va_Pc av (PrY g M)) (Cq g M post) mc ms (gA g)
theorem CtW.of {hh : List (Nat × Nat × Nat × Nat)} {av : List Value} {post : Option Value → Mem → Prop} {d : Nat} (hy : plainName y.cls = true) (hlen : (lg_sl av).length ≤ maxL)
    (body : ∀ (p : Program) (e : Env) (s : State) (m : MethodId) (below : List Frame) (meth : Method) (c : Code) (ls : Array Slot), Cx g p s m av.toArray c cc maxL y.cls → (ZX g s s.heap ∧ va_Nc "java/lang/IllegalStateException" "java/lang/IllegalArgumentException" s ∧ c.exceptionTable.toList = tableOf hh) → meth.sig.returnType = ret → meth.locks = false → lv_has ls maxL (lv_args 0 av) → Wd g s M M s.heap [] →
      W p l e (rmo d mc ms) s m av.toArray below meth c s.heap [] 0 0 (MQ below (Cq g M post) av.toArray s mc ms (gA g)) (F0 m 0 ls [])) : CtW l g y cc maxL ret hh d mc ms av M post := by
  refine va_MetW (cc := cc) (maxL := maxL) (ret := ret) (hh := hh) hy rfl ?_
  intro p e s m args below meth c s₁ B hml hv
  obtain ⟨rfl, ⟨⟨hP, hz, hK, hN, hO, hE, hB⟩, hZ⟩, hNc⟩ := hv
  have hts := atoms_spec (ws := Cond.codeWith y cc maxL ret hh :: TBL) B.pre
  have hl := lv_entry av (n := maxL) hlen
  rw [lg_entry_eq]
  exact body p e s m below meth c _ ⟨⟨B.exec, B.bytes, hml, findClass_of_methodNamed B.named, fun w hw => hts w (List.mem_cons_of_mem _ hw)⟩, hK, hN, hO, hE, hB⟩ ⟨hZ, hNc, vx_table (x := y) B (hts _ List.mem_cons_self)⟩ B.returns B.notSynchronized hl ⟨hP, hz, mle_rf M, va_S.rf⟩
def LkW (own : String) (index : Nat) (y : MethodName) (bytes : ByteArray) (maxL : Nat) (ret : Option FieldType) (hh : List (Nat × Nat × Nat × Nat)) (n : Nat) : Prop :=
  Cond.codeWith y bytes maxL ret hh ∈ TBL ∧ Cond.initialized y.cls ∈ TBL ∧ Cond.methodLink own index y ∈ TBL ∧ (y.cls ≠ "java/lang/invoke/MethodHandle" ∧ y.cls ≠ "java/lang/invoke/VarHandle" ∧ (parseMethodDescriptor y.desc).map (fun d => d.parameters.length) = some n) ∧ Cond.static y ∈ TBL
theorem r_callSW {hh : List (Nat × Nat × Nat × Nat)} (C : Cx g p s m args c cc nL own) (hZ : ZX g s s.heap) (hNc : va_Nc "java/lang/IllegalStateException" "java/lang/IllegalArgumentException" s) (hw : Wd g s M0 M H locs) (hM : CtW l g y bytes maxL ret hh d2 mc ms As M post2) (k : LkW own index y bytes maxL ret hh n)
    (hR : d2 + 1 ≤ R.frames ∧ 8 + (maxL + 11) + 64 * d2 ≤ R.locals) (hf : cells + mc ≤ R.cells ∧ slots + ms ≤ R.slots) (hn : As.length = n) (hsz : ls.size = nL) (hst : st0 = As.reverse ++ rest) (hW : (rest.map fun v => v.category).sum ≤ 8) (hd : decode cc pc = .ok (.invokestatic index, 3))
    (kk : ∀ (r : Option Value) (M' : Mem) (H' : Heap) (locs' : List Loc), post2 r M' → mle M M' → Wd g s M0 M' H' locs' → W p l e R s m args below meth c H' locs' (cells + mc) (slots + ms) Q (F0 m (pc + 3) ls (r.toList ++ rest))) : W p l e R s m args below meth c H locs cells slots Q (F0 m pc ls st0) := by
  have hts := C.1.2.2.2.2
  have hG : GoodIn TBL (va_wsS own index y (Cond.codeWith y bytes maxL ret hh :: TBL)) := fun x hx => by
    rcases List.mem_append.mp hx with h | h
    · simp only [List.mem_cons, List.not_mem_nil, or_false] at h
      rcases h with rfl | rfl | rfl
      · exact goodT _ k.2.2.1
      · exact goodT _ k.2.2.2.2
      · exact goodT _ k.2.1
    · exact goodC k.1 x h
  exact r_after (vx_runSW (hh := hh) (As := As) (rest := rest) C.1 hM (vx_cwSW n hts hG rfl rfl rfl k.2.2.2.1 hR) ⟨PrY_blind, fun U hU hW => ⟨rfl, ⟨Pr_of C hw U hU hW, by subst hU; exact hZ.kept hW hw.2.2.2.2.1⟩, hNc.moved hW.alike⟩⟩ rfl hn hsz hst (lv_room hW) hd hf) hw kk
end RowsX

theorem xw_0 : Cond.castable "java/util/NoSuchElementException" "java/util/NoSuchElementException" ∈ XWl := by decide +kernel
theorem xw_1 : Cond.castable "java/lang/IllegalArgumentException" "java/lang/IllegalArgumentException" ∈ XWl := by decide +kernel
theorem xw_2 : Cond.castable "java/lang/IllegalStateException" "java/lang/IllegalStateException" ∈ XWl := by decide +kernel
set_option maxRecDepth 100000 in
theorem w_978 : Cond.code ⟨"QuizLeague", "asked", "(II)I"⟩ prog_1_method_7_code 4 (some .int) ∈ TBL := inT1 978 rfl (by decide +kernel)
theorem w_975 : Cond.methodLink "QuizLeagueLaw" 7 ⟨"QuizLeague", "asked", "(II)I"⟩ ∈ TBL := inT1 975 (by decide +kernel) (by decide +kernel)
theorem w_976 : Cond.instanceMethod ⟨"QuizLeague", "asked", "(II)I"⟩ ∈ TBL := inT1 976 (by decide +kernel) (by decide +kernel)
theorem w_977 : Cond.selects "QuizLeague" ⟨"QuizLeague", "asked", "(II)I"⟩ ⟨"QuizLeague", "asked", "(II)I"⟩ ∈ TBL := inT1 977 (by decide +kernel) (by decide +kernel)
theorem w_974 : Cond.classLink "QuizLeagueLaw" 13 "java/util/NoSuchElementException" ∈ TBL := inT1 974 (by decide +kernel) (by decide +kernel)
set_option maxRecDepth 100000 in
theorem w_1068 : Cond.code ⟨"QuizLeague", "pack", "(IIIIII)I"⟩ prog_1_method_11_code 7 (some .int) ∈ TBL := inT1 1068 rfl (by decide +kernel)
theorem w_1065 : Cond.methodLink "QuizLeagueLaw" 15 ⟨"QuizLeague", "pack", "(IIIIII)I"⟩ ∈ TBL := inT1 1065 (by decide +kernel) (by decide +kernel)
theorem w_1066 : Cond.instanceMethod ⟨"QuizLeague", "pack", "(IIIIII)I"⟩ ∈ TBL := inT1 1066 (by decide +kernel) (by decide +kernel)
theorem w_1067 : Cond.selects "QuizLeague" ⟨"QuizLeague", "pack", "(IIIIII)I"⟩ ⟨"QuizLeague", "pack", "(IIIIII)I"⟩ ∈ TBL := inT1 1067 (by decide +kernel) (by decide +kernel)
theorem w_1063 : Cond.classLink "QuizLeagueLaw" 19 "java/lang/IllegalArgumentException" ∈ TBL := inT1 1063 (by decide +kernel) (by decide +kernel)
theorem w_1064 : Cond.classLink "QuizLeagueLaw" 21 "java/lang/IllegalStateException" ∈ TBL := inT1 1064 (by decide +kernel) (by decide +kernel)
set_option maxRecDepth 100000 in
theorem w_1140 : Cond.code ⟨"QuizLeague", "event", "(II)I"⟩ prog_1_method_20_code 4 (some .int) ∈ TBL := inT1 1140 rfl (by decide +kernel)
theorem w_1137 : Cond.methodLink "QuizLeagueLaw" 23 ⟨"QuizLeague", "event", "(II)I"⟩ ∈ TBL := inT1 1137 (by decide +kernel) (by decide +kernel)
theorem w_1138 : Cond.instanceMethod ⟨"QuizLeague", "event", "(II)I"⟩ ∈ TBL := inT1 1138 (by decide +kernel) (by decide +kernel)
theorem w_1139 : Cond.selects "QuizLeague" ⟨"QuizLeague", "event", "(II)I"⟩ ⟨"QuizLeague", "event", "(II)I"⟩ ∈ TBL := inT1 1139 (by decide +kernel) (by decide +kernel)
theorem kvL_7 : LkV RL 7 RX11 yX11_asked cX11_asked 4 (some .int) 2 := ⟨w_978, w_1, w_975, (by decide +kernel), w_976, w_977⟩
theorem kvL_15 : LkV RL 15 RX11 yX11_pack cX11_pack 7 (some .int) 6 := ⟨w_1068, w_1, w_1065, (by decide +kernel), w_1066, w_1067⟩
theorem kvL_23 : LkV RL 23 RX11 yX11_event cX11_event 4 (some .int) 2 := ⟨w_1140, w_1, w_1137, (by decide +kernel), w_1138, w_1139⟩
set_option maxHeartbeats 4000000 in
set_option maxRecDepth 100000 in
theorem ct_L_asked {l : Launch} (hst : l.stackTraces = false) {g : Gh} {M0 : Mem} {a0 a3 : Nat} {p1 : Int32} {p2 : Int32} {post : Int32 → Mem → Prop} (h3 : okc (gB g) M0 a3 15) (hn3 : mN M0 a3 = 1) (hq : wp_X11_asked g M0 a0 p1 p2 (fun res M1 => (∀ v, res = .inl v → post 0 (uJ M1 a3 0 v.toInt64)) ∧ (∀ E, res = .inr E → E = "java/util/NoSuchElementException" ∧ post 1 M1))) : CtW l g yL_asked cL_asked 5 (some .int) [(0, 10, 13, 13)] 9 1 6 [.ref a0, .int p1, .int p2, .ref a3] M0 (pI post) := by
  refine CtW.of (by decide) (Nat.le_of_ble_eq_true rfl) ?_
  intro p e s m below meth c ls C hZ hr hlk hl hw
  have hx := C.1.1
  have hb := C.1.2.1
  have hl : lv_has ls 5 [(0, .ref a0), (1, .int p1), (2, .int p2), (3, .ref a3)] := hl
  refine lv_aload_n hx hb dL_asked_0 rfl (lv_at hl 3 rfl) ?_
  refine lv_iconst (v := 0) hx hb dL_asked_1 (by decide) ?_
  refine lv_aload_n hx hb dL_asked_2 rfl (lv_at hl 0 rfl) ?_
  refine lv_iload_n hx hb dL_asked_3 rfl (lv_at hl 1 rfl) ?_
  refine lv_iload_n hx hb dL_asked_4 rfl (lv_at hl 2 rfl) ?_
  refine r_callVX (T := TX11) (N := 11) (ci := 11) (index := 7) (n := 2) (d2 := 8) (mc := 1) (ms := 6) (As := [.int p1, .int p2]) (rest := [.int 0, .ref a3]) C hZ.1 hw (ct_X11_asked hst hq) kvL_7 hq.1 (by decide) rfl ⟨by decide, by decide⟩ ⟨by decide, by decide⟩ rfl hl.1 rfl (Nat.le_of_ble_eq_true rfl) dL_asked_5 (fun E ce q9 M1 H locs hp hle hw hc1 hc2 hc3 => ?_) (fun r M1 H locs hp hle hw => ?_)
  · have hq := hp.2 E rfl
    obtain ⟨rfl, hq⟩ := hq
    refine vx_catch (own := RL) (name := "java/util/NoSuchElementException") C.1.2.2.2.1 [] ⟨0, 10, 13, 13⟩ [] (by rw [hZ.2.2]; rfl) (fun z hz => by cases hz) (by decide) (by decide) (C.1.2.2.2.2 _ w_974) (va_Nw.use rfl (hZ.1.2.2 _ xw_0)) hc1 hc2 hc3 ?_
    refine lv_astore (lv' := [(4, .ref q9), (0, .ref a0), (1, .int p1), (2, .int p2), (3, .ref a3)]) hx hb dL_asked_13 hl (by decide) rfl (fun ls hl => ?_)
    refine lv_iconst (v := 1) hx hb dL_asked_15 (by decide) ?_
    exact r_iret C hr hlk hw dL_asked_16 (by decide) (by decide) ⟨_, rfl, hq⟩
  · obtain ⟨v, rfl, hq⟩ := hp
    have hq := hq.1 v rfl
    refine W.eq (g2 := F0 m 8 ls [.int v, .int 0, .ref a3]) rfl ?_
    refine lv_i2l (v := v.toInt64) hx hb dL_asked_8 rfl ?_
    refine q_last C hw hle h3 (by rw [hn3]; exact pk_in 0 1 (by decide)) dL_asked_9 (fun H locs hw => ?_)
    refine lv_goto (tgt := 17) hx hb dL_asked_10 (by decide) ?_
    refine lv_iconst (v := 0) hx hb dL_asked_17 (by decide) ?_
    exact r_iret C hr hlk hw dL_asked_18 (by decide) (by decide) ⟨_, rfl, hq⟩
set_option maxHeartbeats 4000000 in
set_option maxRecDepth 100000 in
theorem ct_L_pack {l : Launch} (hst : l.stackTraces = false) {g : Gh} {M0 : Mem} {a0 a3 : Nat} {p1 : Int32} {p2 : Int32} {p3 : Int32} {p4 : Int32} {p5 : Int32} {p6 : Int32} {post : Int32 → Mem → Prop} (h3 : okc (gB g) M0 a3 15) (hn3 : mN M0 a3 = 1) (hq : wp_X11_pack g M0 a0 p1 p2 p3 p4 p5 p6 (fun res M1 => (∀ v, res = .inl v → post 0 (uJ M1 a3 0 v.toInt64)) ∧ (∀ E, res = .inr E → (E = "java/lang/IllegalArgumentException" ∧ post 1 M1) ∨ (E = "java/lang/IllegalStateException" ∧ post 2 M1)))) : CtW l g yL_pack cL_pack 9 (some .int) [(0, 18, 21, 19), (0, 18, 25, 21)] 9 1 6 [.ref a0, .int p1, .int p2, .int p3, .int p4, .int p5, .int p6, .ref a3] M0 (pI post) := by
  refine CtW.of (by decide) (Nat.le_of_ble_eq_true rfl) ?_
  intro p e s m below meth c ls C hZ hr hlk hl hw
  have hx := C.1.1
  have hb := C.1.2.1
  have hl : lv_has ls 9 [(0, .ref a0), (1, .int p1), (2, .int p2), (3, .int p3), (4, .int p4), (5, .int p5), (6, .int p6), (7, .ref a3)] := hl
  refine lv_aload hx hb dL_pack_0 (lv_at hl 7 rfl) ?_
  refine lv_iconst (v := 0) hx hb dL_pack_2 (by decide) ?_
  refine lv_aload_n hx hb dL_pack_3 rfl (lv_at hl 0 rfl) ?_
  refine lv_iload_n hx hb dL_pack_4 rfl (lv_at hl 1 rfl) ?_
  refine lv_iload_n hx hb dL_pack_5 rfl (lv_at hl 2 rfl) ?_
  refine lv_iload_n hx hb dL_pack_6 rfl (lv_at hl 3 rfl) ?_
  refine lv_iload hx hb dL_pack_7 (lv_at hl 4 rfl) ?_
  refine lv_iload hx hb dL_pack_9 (lv_at hl 5 rfl) ?_
  refine lv_iload hx hb dL_pack_11 (lv_at hl 6 rfl) ?_
  refine r_callVX (T := TX11) (N := 11) (ci := 11) (index := 15) (n := 6) (d2 := 8) (mc := 1) (ms := 6) (As := [.int p1, .int p2, .int p3, .int p4, .int p5, .int p6]) (rest := [.int 0, .ref a3]) C hZ.1 hw (ct_X11_pack hst hq) kvL_15 hq.1 (by decide) rfl ⟨by decide, by decide⟩ ⟨by decide, by decide⟩ rfl hl.1 rfl (Nat.le_of_ble_eq_true rfl) dL_pack_13 (fun E ce q9 M1 H locs hp hle hw hc1 hc2 hc3 => ?_) (fun r M1 H locs hp hle hw => ?_)
  · have hq := hp.2 E rfl
    rcases hq with ⟨rfl, hq⟩ | ⟨rfl, hq⟩
    · refine vx_catch (own := RL) (name := "java/lang/IllegalArgumentException") C.1.2.2.2.1 [] ⟨0, 18, 21, 19⟩ [⟨0, 18, 25, 21⟩] (by rw [hZ.2.2]; rfl) (fun z hz => by cases hz) (by decide) (by decide) (C.1.2.2.2.2 _ w_1063) (va_Nw.use rfl (hZ.1.2.2 _ xw_1)) hc1 hc2 hc3 ?_
      refine lv_astore (lv' := [(8, .ref q9), (0, .ref a0), (1, .int p1), (2, .int p2), (3, .int p3), (4, .int p4), (5, .int p5), (6, .int p6), (7, .ref a3)]) hx hb dL_pack_21 hl (by decide) rfl (fun ls hl => ?_)
      refine lv_iconst (v := 1) hx hb dL_pack_23 (by decide) ?_
      exact r_iret C hr hlk hw dL_pack_24 (by decide) (by decide) ⟨_, rfl, hq⟩
    · refine vx_catch (own := RL) (name := "java/lang/IllegalStateException") C.1.2.2.2.1 [⟨0, 18, 21, 19⟩] ⟨0, 18, 25, 21⟩ [] (by rw [hZ.2.2]; rfl) (fun z hz => by rw [List.mem_singleton.mp hz]; exact Or.inr ⟨by decide, _, C.1.2.2.2.2 _ w_1063, hZ.2.1⟩) (by decide) (by decide) (C.1.2.2.2.2 _ w_1064) (va_Nw.use rfl (hZ.1.2.2 _ xw_2)) hc1 hc2 hc3 ?_
      refine lv_astore (lv' := [(8, .ref q9), (0, .ref a0), (1, .int p1), (2, .int p2), (3, .int p3), (4, .int p4), (5, .int p5), (6, .int p6), (7, .ref a3)]) hx hb dL_pack_25 hl (by decide) rfl (fun ls hl => ?_)
      refine lv_iconst (v := 2) hx hb dL_pack_27 (by decide) ?_
      exact r_iret C hr hlk hw dL_pack_28 (by decide) (by decide) ⟨_, rfl, hq⟩
  · obtain ⟨v, rfl, hq⟩ := hp
    have hq := hq.1 v rfl
    refine W.eq (g2 := F0 m 16 ls [.int v, .int 0, .ref a3]) rfl ?_
    refine lv_i2l (v := v.toInt64) hx hb dL_pack_16 rfl ?_
    refine q_last C hw hle h3 (by rw [hn3]; exact pk_in 0 1 (by decide)) dL_pack_17 (fun H locs hw => ?_)
    refine lv_goto (tgt := 29) hx hb dL_pack_18 (by decide) ?_
    refine lv_iconst (v := 0) hx hb dL_pack_29 (by decide) ?_
    exact r_iret C hr hlk hw dL_pack_30 (by decide) (by decide) ⟨_, rfl, hq⟩
set_option maxHeartbeats 4000000 in
set_option maxRecDepth 100000 in
theorem ct_L_event {l : Launch} (hst : l.stackTraces = false) {g : Gh} {M0 : Mem} {a0 a3 : Nat} {p1 : Int32} {p2 : Int32} {post : Int32 → Mem → Prop} (h3 : okc (gB g) M0 a3 15) (hn3 : mN M0 a3 = 1) (hq : wp_X11_event g M0 a0 p1 p2 (fun res M1 => (∀ v, res = .inl v → post 0 (uJ M1 a3 0 v.toInt64)) ∧ (∀ E, res = .inr E → E = "java/util/NoSuchElementException" ∧ post 1 M1))) : CtW l g yL_event cL_event 5 (some .int) [(0, 10, 13, 13)] 9 1 6 [.ref a0, .int p1, .int p2, .ref a3] M0 (pI post) := by
  refine CtW.of (by decide) (Nat.le_of_ble_eq_true rfl) ?_
  intro p e s m below meth c ls C hZ hr hlk hl hw
  have hx := C.1.1
  have hb := C.1.2.1
  have hl : lv_has ls 5 [(0, .ref a0), (1, .int p1), (2, .int p2), (3, .ref a3)] := hl
  refine lv_aload_n hx hb dL_event_0 rfl (lv_at hl 3 rfl) ?_
  refine lv_iconst (v := 0) hx hb dL_event_1 (by decide) ?_
  refine lv_aload_n hx hb dL_event_2 rfl (lv_at hl 0 rfl) ?_
  refine lv_iload_n hx hb dL_event_3 rfl (lv_at hl 1 rfl) ?_
  refine lv_iload_n hx hb dL_event_4 rfl (lv_at hl 2 rfl) ?_
  refine r_callVX (T := TX11) (N := 11) (ci := 11) (index := 23) (n := 2) (d2 := 8) (mc := 1) (ms := 6) (As := [.int p1, .int p2]) (rest := [.int 0, .ref a3]) C hZ.1 hw (ct_X11_event hst hq) kvL_23 hq.1 (by decide) rfl ⟨by decide, by decide⟩ ⟨by decide, by decide⟩ rfl hl.1 rfl (Nat.le_of_ble_eq_true rfl) dL_event_5 (fun E ce q9 M1 H locs hp hle hw hc1 hc2 hc3 => ?_) (fun r M1 H locs hp hle hw => ?_)
  · have hq := hp.2 E rfl
    obtain ⟨rfl, hq⟩ := hq
    refine vx_catch (own := RL) (name := "java/util/NoSuchElementException") C.1.2.2.2.1 [] ⟨0, 10, 13, 13⟩ [] (by rw [hZ.2.2]; rfl) (fun z hz => by cases hz) (by decide) (by decide) (C.1.2.2.2.2 _ w_974) (va_Nw.use rfl (hZ.1.2.2 _ xw_0)) hc1 hc2 hc3 ?_
    refine lv_astore (lv' := [(4, .ref q9), (0, .ref a0), (1, .int p1), (2, .int p2), (3, .ref a3)]) hx hb dL_event_13 hl (by decide) rfl (fun ls hl => ?_)
    refine lv_iconst (v := 1) hx hb dL_event_15 (by decide) ?_
    exact r_iret C hr hlk hw dL_event_16 (by decide) (by decide) ⟨_, rfl, hq⟩
  · obtain ⟨v, rfl, hq⟩ := hp
    have hq := hq.1 v rfl
    refine W.eq (g2 := F0 m 8 ls [.int v, .int 0, .ref a3]) rfl ?_
    refine lv_i2l (v := v.toInt64) hx hb dL_event_8 rfl ?_
    refine q_last C hw hle h3 (by rw [hn3]; exact pk_in 0 1 (by decide)) dL_event_9 (fun H locs hw => ?_)
    refine lv_goto (tgt := 17) hx hb dL_event_10 (by decide) ?_
    refine lv_iconst (v := 0) hx hb dL_event_17 (by decide) ?_
    exact r_iret C hr hlk hw dL_event_18 (by decide) (by decide) ⟨_, rfl, hq⟩
