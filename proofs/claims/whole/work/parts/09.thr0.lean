/-! METHODS THAT THROW (launches without stack traces) -/
def pad (M : Mem) (T : Nat) : Mem := (M.1, M.2.1, M.2.2.1, (fun a => if a < mT M then mK M a else 21), M.2.2.2.2.1, T)
theorem mle_pad (M : Mem) (T : Nat) (h : mT M ≤ T) : mle M (pad M T) := ⟨h, fun a ha => ⟨if_pos ha, rfl⟩⟩
theorem adr_pad (M : Mem) (B T : Nat) (h : mT M ≤ T) : adr (pad M T) B = adr M B := by
  obtain ⟨k, rfl⟩ : ∃ k, T = mT M + k := ⟨T - mT M, by omega⟩
  show (List.range (mT M + k)).filter (fun a => decide (B ≤ a) && decide ((if a < mT M then mK M a else 21) ≠ 21)) = _
  rw [List.range_add, List.filter_append]
  have e : List.filter (fun a => decide (B ≤ a) && decide ((if a < mT M then mK M a else 21) ≠ 21)) (List.map (fun x => mT M + x) (List.range k)) = [] := by
    apply List.filter_eq_nil_iff.mpr
    intro x hx
    obtain ⟨j, -, rfl⟩ := List.mem_map.mp hx
    have hj : ¬ (mT M + j < mT M) := by omega
    simp [hj]
  rw [e, List.append_nil]
  apply List.filter_congr
  intro x hx
  rw [if_pos (List.mem_range.mp hx)]
theorem mw_pad (G : Nat → ClassId) (M : Mem) (B T : Nat) (h : mT M ≤ T) : mw G (pad M T) B = mw G M B := by
  rw [mw, adr_pad M B T h, mw]
  apply List.map_congr_left
  intro b hb
  have hK : mK (pad M T) b = mK M b := if_pos (adr_mem.mp hb).1
  have hf : ∀ sh, fls (pad M T) b 0 sh = fls M b 0 sh := fun sh => fls_congr (M := M) (M' := pad M T) (fun j t => rfl) sh 0
  have e : mce G (pad M T) b = mce G M b := by simp only [mce, hK, hf]; rfl
  rw [e]
abbrev nmsX : List String := ["java/lang/RuntimeException", "java/lang/Exception"]
def XWl : List Cond := (vx_atS RX11 136 "java/util/NoSuchElementException" nmsX ++ (vx_atS RX11 159 "java/lang/IllegalArgumentException" nmsX ++ vx_atS RX11 167 "java/lang/IllegalStateException" nmsX)).filter (fun w => !goodWord w)
def isCD : Cond → Bool
  | .castable _ _ => true
  | .declares _ => true
  | _ => false
theorem XWl_cd : ∀ w ∈ XWl, isCD w = true := by decide +kernel
theorem XWl_in : ∀ w ∈ XWl, w ∈ lw_tbl := by decide +kernel
def ZX (g : Gh) (U : State) (H : Heap) : Prop := vx_Zq Bundle.tN "UNASSIGNED_STACK" Bundle.steD (gA g) U H ∧ vx_Zq Bundle.tN "SUPPRESSED_SENTINEL" Bundle.listD (gA g) U H ∧ ∀ w ∈ XWl, va_Nw w U
theorem ZX.kept {g : Gh} {s U : State} {H H1 : Heap} (hW : s.WarmedH U.vm) (hq : ∀ a : Nat, a < H.size → ¬ gA g a → H1[a]? = H[a]?) (h : ZX g s H) : ZX g U H1 := by
  refine ⟨(h.1.moved hW.alike).kept hq, (h.2.1.moved hW.alike).kept hq, fun w hw => ?_⟩
  have h1 := h.2.2 w hw
  have h2 := XWl_cd w hw
  cases w <;> first | exact va_Nw.warmC hW h1 | exact va_Nw.warmD hW h1 | cases h2
theorem ZX.same {g : Gh} {s U : State} {H : Heap} (hv : s.vm = U.vm) (h : ZX g s H) : ZX g U H := by
  have ha : s.vm.Alike U.vm := by rw [hv]; exact Vm.Alike.refl _
  refine ⟨h.1.moved ha, h.2.1.moved ha, fun w hw => ?_⟩
  have h1 := h.2.2 w hw
  have h2 := XWl_cd w hw
  cases w <;> first | exact va_Nw.same rfl hv h1 | cases h2
theorem hat_of {args : Array Value} {s : State} {L : List Cond} (hts : ∀ w ∈ TBL, w.before args s = true) (hz : ∀ w ∈ XWl, va_Nw w s) (h1 : ∀ w ∈ L.filter goodWord, w ∈ lw_tbl) (h2 : ∀ w ∈ L.filter (fun w => !goodWord w), w ∈ XWl) : ∀ w ∈ L, w.before args s = true :=
  vx_hat (B := XWl) (fun w h => hts w (inT (h1 w h) (List.mem_filter.mp h).2)) h2 (fun w h => by
    have h2 := XWl_cd w h
    have h1 := hz w h
    cases w <;> first | exact va_Nw.use rfl h1 | cases h2)
theorem hat1_159 : ∀ w ∈ (vx_atS RX11 159 "java/lang/IllegalArgumentException" nmsX).filter goodWord, w ∈ lw_tbl := by decide +kernel
theorem hat1_167 : ∀ w ∈ (vx_atS RX11 167 "java/lang/IllegalStateException" nmsX).filter goodWord, w ∈ lw_tbl := by decide +kernel
theorem hat2_136 : ∀ w ∈ (vx_atS RX11 136 "java/util/NoSuchElementException" nmsX).filter (fun w => !goodWord w), w ∈ XWl := fun w h => by
  rw [XWl, List.filter_append]; exact List.mem_append_left _ h
theorem hat2_159 : ∀ w ∈ (vx_atS RX11 159 "java/lang/IllegalArgumentException" nmsX).filter (fun w => !goodWord w), w ∈ XWl := fun w h => by
  rw [XWl, List.filter_append, List.filter_append]; exact List.mem_append_right _ (List.mem_append_left _ h)
theorem hat2_167 : ∀ w ∈ (vx_atS RX11 167 "java/lang/IllegalStateException" nmsX).filter (fun w => !goodWord w), w ∈ XWl := fun w h => by
  rw [XWl, List.filter_append, List.filter_append]; exact List.mem_append_right _ (List.mem_append_right _ h)
def PrX (g : Gh) (M : Mem) : State → Prop := fun U => Pr g M U ∧ ZX g U U.heap
def CqX (g : Gh) (M : Mem) (px : String → Mem → Prop) : String → State → State → Prop := fun E st t => ∃ M' : Mem, px E M' ∧ mle M M' ∧ va_P (gD g) vwCl (mw (gG g) M' (gB g)) t.heap ∧ t.heap.size = mT M' ∧ va_F (gA g) st t
def CtX (l : Launch) (g : Gh) (y : MethodName) (cc : ByteArray) (maxL : Nat) (ret : Option FieldType) (d mc ms : Nat) (av : List Value) (M : Mem) (post : Option Value → Mem → Prop) (px : String → Mem → Prop) : Prop :=
  vx_Met l y (Cond.code y cc maxL ret :: TBL) (rmo d mc ms) (va_Pc av (PrX g M)) (Cq g M post) (CqX g M px) mc ms (gA g)
theorem CtX.of {l : Launch} {g : Gh} {y : MethodName} {cc : ByteArray} {maxL : Nat} {ret : Option FieldType} {d mc ms : Nat} {av : List Value} {M : Mem} {post : Option Value → Mem → Prop} {px : String → Mem → Prop} (hy : plainName y.cls = true) (hlen : (lg_sl av).length ≤ maxL)
    (body : ∀ (p : Program) (e : Env) (s : State) (m : MethodId) (below : List Frame) (meth : Method) (c : Code) (ls : Array Slot), Cx g p s m av.toArray c cc maxL y.cls → (ZX g s s.heap ∧ ∀ x ∈ c.exceptionTable.toList, False) → meth.sig.returnType = ret → meth.locks = false → meth.name = y.name → lv_has ls maxL (lv_args 0 av) → Wd g s M M s.heap [] →
      W p l e (rmo d mc ms) s m av.toArray below meth c s.heap [] 0 0 (vx_MQ below (Cq g M post) (CqX g M px) av.toArray s mc ms (gA g)) (F0 m 0 ls [])) : CtX l g y cc maxL ret d mc ms av M post px := by
  refine vx_ofW (cc := cc) (maxL := maxL) (ret := ret) hy rfl ?_
  intro p e s m args below meth c s₁ B hml hxt hv
  obtain ⟨rfl, ⟨hP, hz, hK, hN, hO, hE, hB⟩, hZ⟩ := hv
  have hts := atoms_spec (ws := Cond.code y cc maxL ret :: TBL) B.pre
  have hl := lv_entry av (n := maxL) hlen
  rw [lg_entry_eq]
  exact body p e s m below meth c _ ⟨⟨B.exec, B.bytes, hml, findClass_of_methodNamed B.named, fun w hw => hts w (List.mem_cons_of_mem _ hw)⟩, hK, hN, hO, hE, hB⟩ ⟨hZ, hxt⟩ B.returns B.notSynchronized (name_of_methodNamed B.named B.method).1 hl ⟨hP, hz, mle_rf M, va_S.rf⟩
theorem r_throw {g : Gh} {p : Program} {l : Launch} {e : Env} {R : Room} {s : State} {m : MethodId} {args : Array Value} {below : List Frame} {meth : Method} {c : Code} {H : Heap} {locs : List Loc} {cells slots : Nat} {cc : ByteArray} {nL pc : Nat} {own : String} {ls : Array Slot} {rest : List Value} {M0 M : Mem} {post : Option Value → Mem → Prop} {px : String → Mem → Prop} {mc ms : Nat} {cls text : String} {ik is ic sa : Nat}
    (C : Cx g p s m args c cc nL own) (hZ : ZX g s s.heap ∧ ∀ x ∈ c.exceptionTable.toList, False) (hst : l.stackTraces = false) (hlk : meth.locks = false) (hw : Wd g s M0 M H locs) (hsz : ls.size = nL) (hfit : Bundle.fit cls = true) (hk : Cond.classLink own ik cls ∈ TBL) (hini : Cond.initialized cls ∈ TBL) (hstr : vk_R own is text sa s)
    (h1 : ∀ w ∈ (vx_atS own ic cls nmsX).filter goodWord, w ∈ lw_tbl) (h2 : ∀ w ∈ (vx_atS own ic cls nmsX).filter (fun w => !goodWord w), w ∈ XWl) (hgood : ∀ w ∈ Cond.classLink own ik cls :: Cond.initialized cls :: vx_atS own ic cls nmsX, vx_ot w = true)
    (d0 : decode cc pc = .ok (.new ik, 3)) (d3 : decode cc (pc + 3) = .ok (.dup, 1)) (d4 : decode cc (pc + 4) = .ok (.ldc is, 2)) (d6 : decode cc (pc + 6) = .ok (.invokespecial ic, 3)) (d9 : decode cc (pc + 9) = .ok (.athrow, 1))
    (hRf : 5 < R.frames) (hRl : (rest.map fun v => v.category).sum + 82 ≤ R.locals) (hRc : cells + 1 ≤ R.cells) (hRs : slots + 6 ≤ R.slots) (hc : cells + 1 ≤ mc) (hs : slots + 6 ≤ ms) (hp : ∀ T, mT M ≤ T → px cls (pad M T)) :
    W p l e R s m args below meth c H locs cells slots (vx_MQ below (Cq g M0 post) (CqX g M0 px) args s mc ms (gA g)) (F0 m pc ls rest) := by
  refine vx_throwS (names := nmsX) C.1.1 C.1.2.1 hst C.1.2.2.2.1 hfit (by decide) (C.1.2.2.2.2 _ hk) (C.1.2.2.2.2 _ hini) hstr (hat_of C.1.2.2.2.2 hZ.1.2.2 h1 h2) hgood hZ.1.1 hZ.1.2.1 hw.2.2.2 (by rw [C.1.2.2.1]; exact hsz) d0 d3 d4 d6 d9 (fun x hx => (hZ.2 x hx).elim) hRf hRl hRc hRs hlk (fun t hal hsz' hkeep => ?_) hw.2.2.2.2.2 hc hs
  have hT : mT M ≤ t.heap.size := by rw [← hw.2.1]; exact hsz'
  refine ⟨pad M t.heap.size, hp _ hT, mle_tr hw.2.2.1 (mle_pad M _ hT), ?_, rfl, ⟨Nat.le_trans hw.2.2.2.1 hsz', fun q h1 h2 => (hkeep q (Nat.lt_of_lt_of_le h1 hw.2.2.2.1)).trans (hw.2.2.2.2.1 q h1 h2)⟩⟩
  rw [mw_pad _ _ _ _ hT]
  exact hw.1.kept fun k x hx => hkeep x.1 ((hw.1 k x hx).lt)
