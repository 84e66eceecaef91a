/-! A THROW WHOSE CONSTRUCTOR CALLS ITS SUPER BY ANOTHER POOL ENTRY THAN 7 (java.util.NoSuchElementException) -/
section THX
variable {p : Program} {l : Launch} {e : Env} {R : Room} {s : State} {m : MethodId} {args : Array Value} {below : List Frame} {meth : Method} {c : Code} {locs : List Loc} {cells slots : Nat}
set_option maxHeartbeats 2000000 in
/-- from the constructor's call to the throw: launches without stack traces; the library has this row for entry 7 alone, and the row for any entry only with stack traces -/
theorem vx_ctorX {W0 : State} (X : Stand p l e R s m args below meth c W0 locs cells slots) (hexec : p.tables.exec = Jvm.exec) (htr : e.platform.stackTraces = false) {own cls : String} {names : List String} {ic : Nat}
    {ix : Nat} {rx : ByteArray} (x0 : decode rx 0 = .ok (.aload_n 0, 1)) (x1 : decode rx 1 = .ok (.aload_n 1, 1)) (x2 : decode rx 2 = .ok (.invokespecial ix, 3)) (x5 : decode rx 5 = .ok (.return_, 1))
    (hown : s.vm.findClass own = some m.cls) (hcls : Bundle.fit cls = true) (hnames : ∀ n ∈ names, Bundle.fit n = true) (h : ∀ w ∈ Bundle.ownAtomsX own ic cls ix rx names, w.before args s = true)
    (hlocs : ∀ x ∈ locs, ∀ cell, s.heap[x.base]? = some cell → cell.vm.isStatics = false)
    {a : Addr} {cX : ClassId} {kX : Class} (hfoundX : s.vm.findClass cls = some cX) (hkX : s.vm.classes[cX]? = some kX) (hcell : W0.heap[a]? = some (freshCell cX kX)) (hnew : s.heap.size ≤ a)
    {msg : Value} (hmsg : msg.isRef = true) {g : JFrame} (hg : g.method = m) (hsize : g.locals.size = c.maxLocals) (hlocked : g.locked = none) (hentered : g.entered = []) {rest : List Value} (hstack : g.stack = msg :: .ref a :: .ref a :: rest)
    (hd6 : decode c.code g.pc = .ok (.invokespecial ic, 3)) (hd9 : decode c.code (g.pc + 3) = .ok (.athrow, 1)) (hout : ∀ x ∈ c.exceptionTable.toList, covers x (g.pc + 3) = false)
    (hRframes : names.length + 3 < R.frames) (hRlocals : 2 * g.monitorRoom + ((Value.ref a :: rest).map fun v => v.category).sum + (13 * (names.length + 1) + 42) ≤ R.locals) (hlocks : meth.locks = false) :
    ∃ U : State, Steps p.tables e below (W0.setTop g) U ∧ U.status = .running ∧ Ended U below (.threw a) ∧ s.WarmedH U.vm ∧ s.sameButNew ({ U with vm := s.vm } : State) locs cells slots ∧
      ∃ ce, U.heap[a]? = some ce ∧ s.vm.findClass cls = some ce.cls ∧ ce.vm = .none := by
  have howns : e.platform.frameOwnsMonitors = true := by rw [X.admits.platform]
  have hfin : e.platform.finalization = false := by rw [X.admits.platform]
  have hpl : e.platform.magicAccessors = ({} : Platform).magicAccessors := by rw [X.admits.platform]
  have a' : ∀ x, x ∈ Bundle.ownAtomsX own ic cls ix rx names → x.holds args s none s [] = true := fun x hx => h x hx
  obtain ⟨T, Z0, L, -, Y⟩ := ThrowableC.of_atoms (args := args) howns hfin hpl (fun x hx => h x (by simp [Bundle.ownAtomsX, hx]))
  obtain ⟨Z, M, LZ, LM, hnZ⟩ := Init0T.ofS_atoms (args := args) hpl L Y (fun x hx => h x (by simp [Bundle.ownAtomsX, hx]))
  obtain ⟨P1, Ps, hlen, L1, hL, hP1m, hlink1, hlink⟩ := Bundle.chainSX (args := args) hpl hnZ x0 x1 x2 x5 names cls hcls hnames (fun x hx => h x (by simp [Bundle.ownAtomsX, hx]))
  have hfound : s.vm.findClass cls = some P1.m.cls := findClass_of_methodNamed hP1m
  cases Option.some.inj (hfoundX.symm.trans hfound)
  obtain ⟨c1, kX', hc1, hk, hord, -, -, hn6⟩ := Cond.instantiable_spec (a' (.instantiable cls 6) (by simp [Bundle.ownAtomsX]))
  cases Option.some.inj (hc1.symm.trans hfound)
  cases Option.some.inj (hkX.symm.trans hk)
  have sel : ∀ (nm : MethodName) (k : MethodId), Cond.selects cls nm nm ∈ Bundle.ownAtomsX own ic cls ix rx names → s.methodNamed? nm = some k → s.methodFound? nm.cls nm.name nm.desc = some k → selectMethod e.platform s.vm P1.m.cls k = .method k := by
    intro nm k hin h1 h2
    obtain ⟨c2, r2, m2, q1, q2, q3, q4, -⟩ := Cond.selects_spec (a' _ hin)
    cases Option.some.inj (q1.symm.trans hfound)
    cases Option.some.inj (q2.symm.trans h2)
    cases Option.some.inj (q3.symm.trans h1)
    rw [Launch.admits_selectMethod X.admits]; exact q4
  have hsel0 := sel _ T.fill0 (by simp [Bundle.ownAtomsX]) Y.fill0 (State.methodFound?_of_named Y.fill0 (by decide))
  have hselF := sel _ T.fill (by simp [Bundle.ownAtomsX]) Y.fill (State.methodFound?_of_named Y.fill (by decide))
  obtain ⟨cellS0, hcS0, hiss⟩ := Y.statics
  obtain ⟨u0, hu0⟩ := Cond.staticRefV Y.unassigned L.unassignedStatic L.statics hcS0 hiss (a' (.isRef (.static Bundle.tN "UNASSIGNED_STACK" Bundle.steD)) (by simp [Bundle.ownAtomsX]))
  obtain ⟨sen, hsen⟩ := Cond.staticRefV Y.sentinel L.sentinelStatic L.statics hcS0 hiss (a' (.isRef (.static Bundle.tN "SUPPRESSED_SENTINEL" Bundle.listD)) (by simp [Bundle.ownAtomsX]))
  obtain ⟨ci198, i198, fB, hk198, hg198, ha198, hsB, -, hnB, htB, hffB⟩ := Cond.ownField (t := .object "java/lang/Object") Y.found L.cls (by decide +kernel) (a' (.fieldLink Bundle.tN 198 Bundle.tN "backtrace" "Ljava/lang/Object;") (by simp [Bundle.ownAtomsX])) (a' (.lays Bundle.tN Bundle.tN "backtrace" "Ljava/lang/Object;") (by simp [Bundle.ownAtomsX])) e.platform hpl
  obtain ⟨cellS, hcS', heS, -, hkeep⟩ := X.same.2.2.2.2.2 T.aS cellS0 hcS0
  have hcellS : W0.heap[T.aS]? = some cellS := hcS'
  have hout' : ∀ i, (⟨T.aS, i⟩ : Loc) ∉ locs := fun i hmem => by
    have := hlocs _ hmem cellS0 hcS0
    rw [hiss] at this; cases this
  have hknownS : cellS.vm ≠ .unknown := by
    rw [heS]; intro hu
    rw [show cellS0.vm = .unknown from hu] at hiss
    cases hiss
  have hneS : T.aS ≠ a := Nat.ne_of_lt (Nat.lt_of_lt_of_le (Array.getElem?_eq_some_iff.mp hcS0).1 hnew)
  obtain ⟨iM, hffM⟩ := Y.msg
  obtain ⟨tyC, dC, hdC, hdnC⟩ := Cond.laysAt hfound hk Y.cause (a' (.lays cls Bundle.tN "cause" "Ljava/lang/Throwable;") (by simp [Bundle.ownAtomsX]))
  obtain ⟨tyS, dS, hdS, hdnS⟩ := Cond.laysAt hfound hk Y.stack (a' (.lays cls Bundle.tN "stackTrace" Bundle.steD) (by simp [Bundle.ownAtomsX]))
  obtain ⟨tyP, dP, hdP, hdnP⟩ := Cond.laysAt hfound hk Y.supp (a' (.lays cls Bundle.tN "suppressedExceptions" Bundle.listD) (by simp [Bundle.ownAtomsX]))
  obtain ⟨tyM, dM, hdM, hdnM⟩ := Cond.laysAt hfound hk hffM (a' (.lays cls Bundle.tN "detailMessage" "Ljava/lang/String;") (by simp [Bundle.ownAtomsX]))
  obtain ⟨tyB, dB, hdB, hdnB⟩ := Cond.laysAt hfound hk hffB (a' (.lays cls Bundle.tN "backtrace" "Ljava/lang/Object;") (by simp [Bundle.ownAtomsX]))
  have bC := Cond.laysApart hdB hdC hdnB hdnC (by rw [hnB, Y.causeName]; decide)
  have bS := Cond.laysApart hdB hdS hdnB hdnS (by rw [hnB, Y.stackName]; decide)
  have bP := Cond.laysApart hdB hdP hdnB hdnP (by rw [hnB, Y.suppName]; decide)
  have hskip : SkipFacts T e.platform s (fun u => u) u0 ((preparedCellV T.toThrowableT (freshCell P1.m.cls kX) a u0 sen).withEntry W0.cur) :=
    ⟨{ ci198 := ci198, i198 := i198, fBack := fB }, ⟨hk198, hg198, ha198, hsB⟩, by
      have := fresh_default (c := P1.m.cls) tyB
      rw [htB] at this
      simpa [preparedCellV, Cell.setSlot, Cell.withEntry, Array.getElem?_setIfInBounds, bC, bS, bP, bC.symm, bS.symm, bP.symm, defaultValue] using this, fun _ _ => rfl⟩
  obtain ⟨tm, methC, cdC, kC, vm₁, hnC, -, -, -, -, -, -, -, hW₁, st1⟩ := Steps.initColdS (tb := p.tables) (e := e) (below := below) (s := s) (U := W0) X.here hexec X.warmed hpl hown (t := Bundle.initS cls) rfl rfl (Bundle.fit_spec hcls).2
    (a' (.methodLink own ic (Bundle.initS cls)) (by simp [Bundle.ownAtomsX])) (h (.instanceMethod (Bundle.initS cls)) (by cases names <;> simp [Bundle.ownAtomsX, Bundle.chainSAtomsX, Bundle.passSAtoms])) (bytes := rx) (maxL := 2) (h (.code (Bundle.initS cls) rx 2 none) (by cases names <;> simp [Bundle.ownAtomsX, Bundle.chainSAtomsX, Bundle.passSAtoms]))
    (f := g) hg (a := a) (msg := msg) (rest := .ref a :: rest) hstack hd6
  cases Option.some.inj (hnC.symm.trans hP1m)
  have X₁ := X.noted hW₁
  obtain ⟨vm₂, X₂, st2⟩ := X₁.ctorMessageOffV hexec (g := { g with stack := .ref a :: rest }) hg hsize T L Z LZ M LM (P1 :: Ps)
    (fun P hP => by rcases List.mem_cons.mp hP with rfl | hP; exact L1; exact hL P hP) ⟨hlink1, hlink⟩ (u0 := u0) (sen := sen) (self := a) hmsg (cell := freshCell P1.m.cls kX) (cellS := cellS)
    hcell (fun _ => by simp) (by simp) rfl rfl hsel0 hselF hcellS hneS hknownS (by rw [hkeep _ (hout' _)]; exact hu0) (by rw [hkeep _ (hout' _)]; exact hsen)
    (Takes.of_laid hk hord tyC (by rw [Y.causeType]; rfl)) (Takes.of_laid hk hord tyS (by rw [Y.stackType]; exact fits_refV_array _ u0)) (Takes.of_laid hk hord tyP (by rw [Y.suppType]; exact fits_refV_object _ sen))
    (Takes.of_laid hk hord tyM (by rw [Y.msgType]; exact fits_refV_object _ ⟨msg, hmsg⟩)) Y.objLocals hskip htr [] hd6
    (by simp only [List.length_cons, hlen]; omega) (by simp only [List.length_cons, hlen]; exact hRlocals)
  obtain ⟨hwalk, hrun, hended, hWU, hsame⟩ := X₂.athrowLeaves hexec (g := { g with stack := .ref a :: rest, pc := g.pc + 3 }) hg hlocked hentered hout (a := a) (rest := rest) rfl hd9
  have hlt : a < ((W0.setVm vm₁).setVm vm₂).heap.size := (Array.getElem?_eq_some_iff.mp hcell).1
  have hU := heapAt_setCell_self (s := (W0.setVm vm₁).setVm vm₂) (plainBareV T.toThrowableT (freshCell P1.m.cls kX) a u0 sen msg) hlt
  refine ⟨_, st1 _ (fun acts => ?_), hrun, hended, hWU, hsame.weaken (fun y hy hlt' => ?_) (Nat.le_refl _) (Nat.le_refl _), _, hU, hfound, rfl⟩
  · rw [doInvoke_state]
    exact st2 _ hwalk
  · rcases List.mem_append.mp hy with h1 | h1
    · exact h1
    · exfalso
      have hb : y.base = a := by
        simp only [List.mem_cons, List.not_mem_nil, or_false] at h1
        rcases h1 with rfl | rfl | rfl | rfl | rfl <;> rfl
      rw [hb] at hlt'
      exact Nat.not_lt.mpr hnew hlt'
end THX
def vx_atX (own : String) (ic : Nat) (X : String) (ix : Nat) (rx : ByteArray) (names : List String) : List Cond := (Bundle.ownAtomsX own ic X ix rx names).filter vx_no
section THY
variable {p : Program} {l : Launch} {e : Env} {R : Room} {s : State} {m : MethodId} {args : Array Value} {below : List Frame} {meth : Method} {c : Code} {H : Heap} {locs : List Loc} {cells slots : Nat} {Q : State → Prop}
variable {mc ms : Nat} {free : Addr → Prop} {A0 A1 : Nat → Prop} {H0 : Heap} {a : Array Value} {ls : Array Slot} {st0 rest : List Value}
variable {Qc : Array Value → State → Outcome → State → Prop} {XC : String → State → State → Prop}
/-- as vx_throwS, the super's pool entry free -/
theorem vx_throwX {cc : ByteArray} {pc : Nat} (hexec : p.tables.exec = Jvm.exec) (hb : c.code = cc) (hl : l.stackTraces = false) {own cls text : String} {names : List String} {ik is ic mc ms sa : Nat} {A : Nat → Prop} {ix : Nat} {rx : ByteArray} (x0 : decode rx 0 = .ok (.aload_n 0, 1)) (x1 : decode rx 1 = .ok (.aload_n 1, 1)) (x2 : decode rx 2 = .ok (.invokespecial ix, 3)) (x5 : decode rx 5 = .ok (.return_, 1))
    (hown : s.vm.findClass own = some m.cls) (hcls : Bundle.fit cls = true) (hnames : ∀ n ∈ names, Bundle.fit n = true)
    (hk : (Cond.classLink own ik cls).before args s = true) (hini : (Cond.initialized cls).before args s = true) (hstr : vk_R own is text sa s) (hat : ∀ w ∈ vx_atX own ic cls ix rx names, w.before args s = true)
    (hgood : ∀ w ∈ Cond.classLink own ik cls :: Cond.initialized cls :: vx_atX own ic cls ix rx names, vx_ot w = true)
    (hU : vx_Zq Bundle.tN "UNASSIGNED_STACK" Bundle.steD A s s.heap) (hN : vx_Zq Bundle.tN "SUPPRESSED_SENTINEL" Bundle.listD A s s.heap) (hS : va_S A s.heap H locs) (hsize : ls.size = c.maxLocals)
    (d0 : decode cc pc = .ok (.new ik, 3)) (d3 : decode cc (pc + 3) = .ok (.dup, 1)) (d4 : decode cc (pc + 4) = .ok (.ldc is, 2)) (d6 : decode cc (pc + 6) = .ok (.invokespecial ic, 3)) (d9 : decode cc (pc + 9) = .ok (.athrow, 1))
    (hout : ∀ x ∈ c.exceptionTable.toList, covers x (pc + 9) = false)
    (hRframes : names.length + 3 < R.frames) (hRlocals : (rest.map fun v => v.category).sum + (13 * (names.length + 1) + 43) ≤ R.locals) (hRcells : cells + 1 ≤ R.cells) (hRslots : slots + 6 ≤ R.slots) (hlocks : meth.locks = false)
    (hx : ∀ t : State, s.vm.Alike t.vm → H.size ≤ t.heap.size → (∀ q : Nat, q < H.size → t.heap[q]? = H[q]?) → XC cls s t)
    (hf : ∀ z ∈ locs, free z.base) (hc : cells + 1 ≤ mc) (hs : slots + 6 ≤ ms) :
    W p l e R s m args below meth c H locs cells slots (vx_MQ below Qc XC args s mc ms free) (F0 m pc ls rest) := by
  intro T hT X
  have htr : e.platform.stackTraces = false := (show e.platform.stackTraces = l.stackTraces by rw [X.admits.platform]).trans hl
  have Y := vx_rebase X (R' := { frames := R.frames, locals := R.locals, cells := 1, slots := 6 }) (Nat.le_refl _) (Nat.le_refl _) hRcells hRslots
  obtain ⟨s', hA⟩ : ∃ z, z = (T.setVm s.vm).setFrames (.invoking m args :: below) := ⟨_, rfl⟩
  rw [← hA] at Y
  have hvm : s'.vm = s.vm := by rw [hA]; rfl
  have hhp : s'.heap = H := by rw [hA]; exact hT
  have hW0 : s.WarmedH s'.vm := by rw [hvm]; exact State.WarmedH.refl s
  have hat' : ∀ w ∈ vx_atX own ic cls ix rx names, w.before args s' = true := fun w hw => vx_ot_at hW0 hvm.symm (hgood w (List.mem_cons_of_mem _ (List.mem_cons_of_mem _ hw))) (hat w hw)
  have hk' : (Cond.classLink own ik cls).before args s' = true := vx_ot_at hW0 hvm.symm (hgood _ List.mem_cons_self) hk
  have hini' : (Cond.initialized cls).before args s' = true := vx_ot_at hW0 hvm.symm (hgood _ (List.mem_cons_of_mem _ List.mem_cons_self)) hini
  have hU' : vx_Zq Bundle.tN "UNASSIGNED_STACK" Bundle.steD A s' s'.heap := by rw [hhp]; exact vx_Zq.moved hW0.alike (hU.kept hS.2.1)
  have hN' : vx_Zq Bundle.tN "SUPPRESSED_SENTINEL" Bundle.listD A s' s'.heap := by rw [hhp]; exact vx_Zq.moved hW0.alike (hN.kept hS.2.1)
  have h : ∀ w ∈ Bundle.ownAtomsX own ic cls ix rx names, w.before args s' = true := vx_own hat' (vx_isRefq hU'.1) (vx_isRefq hN'.1) hU'.2.word hN'.2.word
  have hown' : s'.vm.findClass own = some m.cls := by rw [hvm]; exact hown
  have hins : (Cond.instantiable cls 6).before args s' = true := h _ (by simp [Bundle.ownAtomsX])
  obtain ⟨vm₁, cX, kX, hfX, hkX, -, -, X₁, st1⟩ := Y.newCold hexec (own := own) (C := cls) (index := ik) (n := 6) hown' hk' hins hini'
    (g := F0 m pc ls rest) rfl (by rw [hb]; exact d0) (Nat.le_refl _) (Nat.le_refl _)
  generalize hT1 : (T.setVm vm₁).pushCell { cls := cX, slots := kX.instanceTypes.map defaultValue, vm := .none } = T1 at X₁ st1
  have hcat : (Value.ref T.heap.size).category = 1 := rfl
  have hcellA : T1.heap[T.heap.size]? = some (freshCell cX kX) := by rw [← hT1]; exact State.heap_pushCell_size _ _
  have d3' : decode c.code (pc + 3) = .ok (.dup, 1) := by rw [hb]; exact d3
  have d4' : decode c.code (pc + 4) = .ok (.ldc is, 2) := by rw [hb]; exact d4
  have hstr' : vk_R own is text sa s' := vk_R.warm hW0 hstr
  obtain ⟨U, hsteps, hrun, hend, hW, hsame, ce, hce, hO, hOv⟩ := vx_ctorX X₁ hexec htr x0 x1 x2 x5 (own := own) (cls := cls) (names := names) (ic := ic) hown' hcls hnames h (fun x hx => nomatch hx) hfX hkX hcellA (by rw [hhp, hT]; exact Nat.le_refl _) (msg := .ref sa) rfl
    (g := { method := m, pc := pc + 6, locals := ls, stack := .ref sa :: .ref T.heap.size :: .ref T.heap.size :: rest, locked := none }) rfl hsize rfl rfl (rest := rest) rfl
    (by rw [hb]; exact d6) (by rw [hb]; exact d9) hout hRframes (by simp only [List.map_cons, List.sum_cons, hcat]; omega) hlocks
  obtain ⟨f1, f2⟩ := vx_frame hsame
  rw [hhp] at f1 f2
  have hWs : s.WarmedH U.vm := State.WarmedH.trans hW0 hW
  have hcl : s.vm.findClass cls = some ce.cls := by
    have h9 := hO
    rw [hvm] at h9
    exact h9
  have hall : s.sameButNew ({ U with vm := s.vm } : State) locs mc ms := by
    subst hA
    obtain ⟨e1, e2⟩ := hsame
    rw [State.setFrames_setFrames] at e1
    have h2 : (T.setVm s.vm).sameButNew ({ U with vm := s.vm } : State) [] (0 + 1) (0 + 6) := ⟨e1, e2⟩
    have h3 := X.same.trans h2
    rw [List.append_nil] at h3
    exact h3.mono hc hs
  refine ⟨U, ?_, .threw T.heap.size, hrun, hend, Or.inr ⟨T.heap.size, rfl, cls, ce, locs, hx U hWs.alike f1 (fun q hq => f2 q hq (fun z hz => nomatch hz)), hce, hOv, hcl, hWs, hall, hf⟩⟩
  refine st1 _ ?_
  show Steps p.tables e below (T1.setTop { method := m, pc := pc + 3, locals := ls, stack := .ref T.heap.size :: rest, locked := none }) _
  jvm_step X₁.here [X₁.here.top, hexec, d3', Value.category]
  exact X₁.ldcString hexec (own := own) (text := text) (index := is) (a := sa) hown' hstr'.1 hstr'.2
    (g := { method := m, pc := pc + 4, locals := ls, stack := .ref T.heap.size :: .ref T.heap.size :: rest, locked := none }) rfl d4' _ hsteps
end THY
theorem r_throwN {g : Gh} {p : Program} {l : Launch} {e : Env} {R : Room} {s : State} {m : MethodId} {args : Array Value} {below : List Frame} {meth : Method} {c : Code} {H : Heap} {locs : List Loc} {cells slots : Nat} {cc : ByteArray} {nL pc : Nat} {own : String} {ls : Array Slot} {rest : List Value} {M0 M : Mem} {post : Option Value → Mem → Prop} {px : String → Mem → Prop} {mc ms : Nat} {cls text : String} {ik is ic sa : Nat} {ix : Nat} {rx : ByteArray} (x0 : decode rx 0 = .ok (.aload_n 0, 1)) (x1 : decode rx 1 = .ok (.aload_n 1, 1)) (x2 : decode rx 2 = .ok (.invokespecial ix, 3)) (x5 : decode rx 5 = .ok (.return_, 1))
    (C : Cx g p s m args c cc nL own) (hZ : ZX g s s.heap ∧ ∀ x ∈ c.exceptionTable.toList, False) (hst : l.stackTraces = false) (hlk : meth.locks = false) (hw : Wd g s M0 M H locs) (hsz : ls.size = nL) (hfit : Bundle.fit cls = true) (hk : Cond.classLink own ik cls ∈ TBL) (hini : Cond.initialized cls ∈ TBL) (hstr : vk_R own is text sa s)
    (h1 : ∀ w ∈ (vx_atX own ic cls ix rx nmsX).filter goodWord, w ∈ lw_tbl) (h2 : ∀ w ∈ (vx_atX own ic cls ix rx nmsX).filter (fun w => !goodWord w), w ∈ XWl) (hgood : ∀ w ∈ Cond.classLink own ik cls :: Cond.initialized cls :: vx_atX own ic cls ix rx nmsX, vx_ot w = true)
    (d0 : decode cc pc = .ok (.new ik, 3)) (d3 : decode cc (pc + 3) = .ok (.dup, 1)) (d4 : decode cc (pc + 4) = .ok (.ldc is, 2)) (d6 : decode cc (pc + 6) = .ok (.invokespecial ic, 3)) (d9 : decode cc (pc + 9) = .ok (.athrow, 1))
    (hRf : 5 < R.frames) (hRl : (rest.map fun v => v.category).sum + 82 ≤ R.locals) (hRc : cells + 1 ≤ R.cells) (hRs : slots + 6 ≤ R.slots) (hc : cells + 1 ≤ mc) (hs : slots + 6 ≤ ms) (hp : ∀ T, mT M ≤ T → px cls (pad M T)) :
    W p l e R s m args below meth c H locs cells slots (vx_MQ below (Cq g M0 post) (CqX g M0 px) args s mc ms (gA g)) (F0 m pc ls rest) := by
  refine vx_throwX (names := nmsX) C.1.1 C.1.2.1 hst x0 x1 x2 x5 C.1.2.2.2.1 hfit (by decide) (C.1.2.2.2.2 _ hk) (C.1.2.2.2.2 _ hini) hstr (hat_of C.1.2.2.2.2 hZ.1.2.2 h1 h2) hgood hZ.1.1 hZ.1.2.1 hw.2.2.2 (by rw [C.1.2.2.1]; exact hsz) d0 d3 d4 d6 d9 (fun x hx => (hZ.2 x hx).elim) hRf hRl hRc hRs hlk (fun t hal hsz' hkeep => ?_) hw.2.2.2.2.2 hc hs
  have hT : mT M ≤ t.heap.size := by rw [← hw.2.1]; exact hsz'
  refine ⟨pad M t.heap.size, hp _ hT, mle_tr hw.2.2.1 (mle_pad M _ hT), ?_, rfl, ⟨Nat.le_trans hw.2.2.2.1 hsz', fun q h1 h2 => (hkeep q (Nat.lt_of_lt_of_le h1 hw.2.2.2.1)).trans (hw.2.2.2.2.1 q h1 h2)⟩⟩
  rw [mw_pad _ _ _ _ hT]
  exact hw.1.kept fun k x hx => hkeep x.1 ((hw.1 k x hx).lt)

theorem nx0 : decode prog_29_method_4_code 0 = .ok (.aload_n 0, 1) := by decide +kernel
theorem nx1 : decode prog_29_method_4_code 1 = .ok (.aload_n 1, 1) := by decide +kernel
theorem nx2 : decode prog_29_method_4_code 2 = .ok (.invokespecial 13, 3) := by decide +kernel
theorem nx5 : decode prog_29_method_4_code 5 = .ok (.return_, 1) := by decide +kernel
theorem hat1_136 : ∀ w ∈ (vx_atX RX11 136 "java/util/NoSuchElementException" 13 prog_29_method_4_code nmsX).filter goodWord, w ∈ lw_tbl := by decide +kernel
theorem hat3_136 : ∀ w ∈ (vx_atX RX11 136 "java/util/NoSuchElementException" 13 prog_29_method_4_code nmsX).filter (fun w => !goodWord w), w ∈ XWl := by decide +kernel
theorem w_979 : Cond.classLink "QuizLeague" 132 "java/util/NoSuchElementException" ∈ TBL := inT1 979 (by decide +kernel) (by decide +kernel)
theorem w_25 : Cond.initialized "java/util/NoSuchElementException" ∈ TBL := inT1 25 (by decide +kernel) (by decide +kernel)
set_option maxRecDepth 100000 in
theorem w_1049 : Cond.code ⟨"QuizLeague$Question", "tell", "(I)I"⟩ prog_11_method_6_code 2 (some .int) ∈ TBL := inT1 1049 rfl (by decide +kernel)
theorem w_1046 : Cond.methodLink "QuizLeague" 139 ⟨"QuizLeague$Question", "tell", "(I)I"⟩ ∈ TBL := inT1 1046 (by decide +kernel) (by decide +kernel)
theorem w_1047 : Cond.instanceMethod ⟨"QuizLeague$Question", "tell", "(I)I"⟩ ∈ TBL := inT1 1047 (by decide +kernel) (by decide +kernel)
theorem w_1048 : Cond.selects "QuizLeague$Question" ⟨"QuizLeague$Question", "tell", "(I)I"⟩ ⟨"QuizLeague$Question", "tell", "(I)I"⟩ ∈ TBL := inT1 1048 (by decide +kernel) (by decide +kernel)
theorem w_1141 : Cond.methodLink "QuizLeague" 210 ⟨"QuizLeague$Match", "eventAt", "(I)LQuizLeague$Event;"⟩ ∈ TBL := inT1 1141 (by decide +kernel) (by decide +kernel)
set_option maxRecDepth 100000 in
theorem w_1146 : Cond.code ⟨"QuizLeague$Event", "tell", "(I)I"⟩ prog_2_method_2_code 2 (some .int) ∈ TBL := inT1 1146 rfl (by decide +kernel)
theorem w_1143 : Cond.methodLink "QuizLeague" 216 ⟨"QuizLeague$Event", "tell", "(I)I"⟩ ∈ TBL := inT1 1143 (by decide +kernel) (by decide +kernel)
theorem w_1144 : Cond.instanceMethod ⟨"QuizLeague$Event", "tell", "(I)I"⟩ ∈ TBL := inT1 1144 (by decide +kernel) (by decide +kernel)
theorem w_1145 : Cond.selects "QuizLeague$Event" ⟨"QuizLeague$Event", "tell", "(I)I"⟩ ⟨"QuizLeague$Event", "tell", "(I)I"⟩ ∈ TBL := inT1 1145 (by decide +kernel) (by decide +kernel)
theorem kvX11_139 : LkV RX11 139 RX9 yX9_tell cX9_tell 2 (some .int) 1 := ⟨w_1049, w_18, w_1046, (by decide +kernel), w_1047, w_1048⟩
theorem kvX11_210 : LkV RX11 210 RX6 yX6_eventAt cX6_eventAt 2 (some (.object "QuizLeague$Event")) 1 := ⟨w_895, w_8, w_1141, (by decide +kernel), w_893, w_894⟩
theorem kvX11_216 : LkV RX11 216 RX0 yX0_tell cX0_tell 2 (some .int) 1 := ⟨w_1146, w_9, w_1143, (by decide +kernel), w_1144, w_1145⟩
set_option maxRecDepth 100000 in
def wp_X11_asked  (g : Gh) (M0 : Mem) (a0 : Nat) (p1 : Int32) (p2 : Int32) (post : Int32 ⊕ String → Mem → Prop) : Prop :=
  okc (gB g) M0 a0 11 ∧ (wp_X11_questionAt g M0 a0 p1 (fun v1 M2 => (v1 = none → (∀ T5 : Nat, mT M2 ≤ T5 → post (.inr "java/util/NoSuchElementException") (pad M2 T5))) ∧ (∀ q4, v1 = some q4 → ((p2 < 0) → (∀ T7 : Nat, mT M2 ≤ T7 → post (.inr "java/util/NoSuchElementException") (pad M2 T7))) ∧ (¬ (p2 < 0) → ((p2 ≤ 5) → wp_X9_tell g M2 q4 p2 (fun v9 M10 => post (.inl v9) M10)) ∧ (¬ (p2 ≤ 5) → (∀ T11 : Nat, mT M2 ≤ T11 → post (.inr "java/util/NoSuchElementException") (pad M2 T11)))))))
set_option maxHeartbeats 4000000 in
set_option maxRecDepth 100000 in
theorem ct_X11_asked {l : Launch} (hst : l.stackTraces = false) {g : Gh} {M0 : Mem} {a0 : Nat} {p1 : Int32} {p2 : Int32} {post : Int32 ⊕ String → Mem → Prop} (hq : wp_X11_asked g M0 a0 p1 p2 post) : CtX l g yX11_asked cX11_asked 4 (some .int) 8 1 6 [.ref a0, .int p1, .int p2] M0 (pI (fun v M => post (.inl v) M)) (fun E M => post (.inr E) M) := by
  unfold wp_X11_asked at hq
  obtain ⟨h0, hq⟩ := hq
  refine CtX.of (by decide) (Nat.le_of_ble_eq_true rfl) ?_
  intro p e s m below meth c ls C hZ hr hlk hn hl hw
  have hx := C.1.1
  have hb := C.1.2.1
  have hl : lv_has ls 4 [(0, .ref a0), (1, .int p1), (2, .int p2)] := hl
  refine lv_aload_n hx hb dX11_asked_0 rfl (lv_at hl 0 rfl) ?_
  refine lv_iload_n hx hb dX11_asked_1 rfl (lv_at hl 1 rfl) ?_
  refine r_callV (T := TX11) (N := 11) (ci := 11) (index := 113) (n := 1) (d2 := 0) (mc := 0) (ms := 0) (As := [.int p1]) (rest := []) C hw (ct_X11_questionAt hq) kvX11_113 hq.1 (by decide) rfl ⟨by decide, by decide⟩ ⟨by decide, by decide⟩ rfl hl.1 rfl (Nat.le_of_ble_eq_true rfl) dX11_asked_2 (fun r M2 H locs hp hle hw => ?_)
  obtain ⟨v1, rfl, hq⟩ := hp
  refine W.eq (g2 := F0 m 5 ls [va_rf v1]) rfl ?_
  refine r_astore_n (lv' := [(3, va_rf v1), (0, .ref a0), (1, .int p1), (2, .int p2)]) hx hb dX11_asked_5 rfl hl (by decide) (by first | rfl | simp [va_cat]) (fun ls hl => ?_)
  refine r_aload_n hx hb dX11_asked_6 rfl (lv_at hl 0 rfl) ?_
  rcases v1 with _ | q4
  · refine lv_ifnullN (tgt := 19) hx hb dX11_asked_7 (by decide) ?_
    have hl : lv_has ls 4 [(3, .null), (0, .ref a0), (1, .int p1), (2, .int p2)] := hl
    replace hq := hq.1 rfl
    exact r_throwN nx0 nx1 nx2 nx5 C hZ hst hlk hw hl.1 (by decide) w_979 w_25 (st_9 C.2.2.2.2.1) hat1_136 hat3_136 (by decide +kernel) dX11_asked_19 dX11_asked_22 dX11_asked_23 dX11_asked_25 dX11_asked_28 (by decide) (Nat.le_of_ble_eq_true rfl) (by decide) (by decide) (by decide) (by decide) hq
  · refine lv_ifnull hx hb dX11_asked_7 ?_
    have hl : lv_has ls 4 [(3, .ref q4), (0, .ref a0), (1, .int p1), (2, .int p2)] := hl
    replace hq := hq.2 q4 rfl
    refine lv_iload_n hx hb dX11_asked_10 rfl (lv_at hl 3 rfl) ?_
    refine lv_if_lt (tgt := 19) hx hb dX11_asked_11 (by decide) (fun c6 => ?_) (fun c6 => ?_)
    · replace hq := hq.1 c6
      exact r_throwN nx0 nx1 nx2 nx5 C hZ hst hlk hw hl.1 (by decide) w_979 w_25 (st_9 C.2.2.2.2.1) hat1_136 hat3_136 (by decide +kernel) dX11_asked_19 dX11_asked_22 dX11_asked_23 dX11_asked_25 dX11_asked_28 (by decide) (Nat.le_of_ble_eq_true rfl) (by decide) (by decide) (by decide) (by decide) hq
    · replace hq := hq.2 c6
      refine lv_iload_n hx hb dX11_asked_14 rfl (lv_at hl 3 rfl) ?_
      refine lv_iconst (v := 5) hx hb dX11_asked_15 (by decide) ?_
      refine lv_icmp_le (tgt := 29) hx hb dX11_asked_16 (by decide) (fun c8 => ?_) (fun c8 => ?_)
      · replace hq := hq.1 c8
        refine lv_aload_n hx hb dX11_asked_29 rfl (lv_at hl 0 rfl) ?_
        refine lv_iload_n hx hb dX11_asked_30 rfl (lv_at hl 3 rfl) ?_
        refine r_callV (T := TX9) (N := 6) (ci := 9) (index := 139) (n := 1) (d2 := 1) (mc := 0) (ms := 0) (As := [.int p2]) (rest := []) C hw (ct_X9_tell hq) kvX11_139 hq.1 (by decide) rfl ⟨by decide, by decide⟩ ⟨by decide, by decide⟩ rfl hl.1 rfl (Nat.le_of_ble_eq_true rfl) dX11_asked_31 (fun r M10 H locs hp hle hw => ?_)
        obtain ⟨v9, rfl, hq⟩ := hp
        refine W.eq (g2 := F0 m 34 ls [.int v9]) rfl ?_
        exact vx_ret (r_iret C hr hlk hw dX11_asked_34 (by decide) (by decide) ⟨_, rfl, hq⟩)
      · replace hq := hq.2 c8
        exact r_throwN nx0 nx1 nx2 nx5 C hZ hst hlk hw hl.1 (by decide) w_979 w_25 (st_9 C.2.2.2.2.1) hat1_136 hat3_136 (by decide +kernel) dX11_asked_19 dX11_asked_22 dX11_asked_23 dX11_asked_25 dX11_asked_28 (by decide) (Nat.le_of_ble_eq_true rfl) (by decide) (by decide) (by decide) (by decide) hq

set_option maxRecDepth 100000 in
def wp_X11_event  (g : Gh) (M0 : Mem) (a0 : Nat) (p1 : Int32) (p2 : Int32) (post : Int32 ⊕ String → Mem → Prop) : Prop :=
  okc (gB g) M0 a0 11 ∧ (∃ q1, mR M0 a0 9 = some q1 ∧ (wp_X6_eventAt g M0 q1 p1 (fun v3 M4 => (v3 = none → (∀ T7 : Nat, mT M4 ≤ T7 → post (.inr "java/util/NoSuchElementException") (pad M4 T7))) ∧ (∀ q6, v3 = some q6 → ((p2 < 0) → (∀ T9 : Nat, mT M4 ≤ T9 → post (.inr "java/util/NoSuchElementException") (pad M4 T9))) ∧ (¬ (p2 < 0) → ((p2 ≤ 5) → wp_X0_tell g M4 q6 p2 (fun v11 M12 => post (.inl v11) M12)) ∧ (¬ (p2 ≤ 5) → (∀ T13 : Nat, mT M4 ≤ T13 → post (.inr "java/util/NoSuchElementException") (pad M4 T13))))))))
set_option maxHeartbeats 4000000 in
set_option maxRecDepth 100000 in
theorem ct_X11_event {l : Launch} (hst : l.stackTraces = false) {g : Gh} {M0 : Mem} {a0 : Nat} {p1 : Int32} {p2 : Int32} {post : Int32 ⊕ String → Mem → Prop} (hq : wp_X11_event g M0 a0 p1 p2 post) : CtX l g yX11_event cX11_event 4 (some .int) 8 1 6 [.ref a0, .int p1, .int p2] M0 (pI (fun v M => post (.inl v) M)) (fun E M => post (.inr E) M) := by
  unfold wp_X11_event at hq
  obtain ⟨h0, hq⟩ := hq
  refine CtX.of (by decide) (Nat.le_of_ble_eq_true rfl) ?_
  intro p e s m below meth c ls C hZ hr hlk hn hl hw
  have hx := C.1.1
  have hb := C.1.2.1
  have hl : lv_has ls 4 [(0, .ref a0), (1, .int p1), (2, .int p2)] := hl
  refine lv_aload_n hx hb dX11_event_0 rfl (lv_at hl 0 rfl) ?_
  obtain ⟨q1, e2, hq⟩ := hq
  refine gfX11_65 C hw hw.2.2.1 h0 e2 dX11_event_1 ?_
  refine lv_iload_n hx hb dX11_event_4 rfl (lv_at hl 1 rfl) ?_
  refine r_callV (T := TX6) (N := 9) (ci := 6) (index := 210) (n := 1) (d2 := 0) (mc := 0) (ms := 0) (As := [.int p1]) (rest := []) C hw (ct_X6_eventAt hq) kvX11_210 hq.1 (by decide) rfl ⟨by decide, by decide⟩ ⟨by decide, by decide⟩ rfl hl.1 rfl (Nat.le_of_ble_eq_true rfl) dX11_event_5 (fun r M4 H locs hp hle hw => ?_)
  obtain ⟨v3, rfl, hq⟩ := hp
  refine W.eq (g2 := F0 m 8 ls [va_rf v3]) rfl ?_
  refine r_astore_n (lv' := [(3, va_rf v3), (0, .ref a0), (1, .int p1), (2, .int p2)]) hx hb dX11_event_8 rfl hl (by decide) (by first | rfl | simp [va_cat]) (fun ls hl => ?_)
  refine r_aload_n hx hb dX11_event_9 rfl (lv_at hl 0 rfl) ?_
  rcases v3 with _ | q6
  · refine lv_ifnullN (tgt := 22) hx hb dX11_event_10 (by decide) ?_
    have hl : lv_has ls 4 [(3, .null), (0, .ref a0), (1, .int p1), (2, .int p2)] := hl
    replace hq := hq.1 rfl
    exact r_throwN nx0 nx1 nx2 nx5 C hZ hst hlk hw hl.1 (by decide) w_979 w_25 (st_13 C.2.2.2.2.1) hat1_136 hat3_136 (by decide +kernel) dX11_event_22 dX11_event_25 dX11_event_26 dX11_event_28 dX11_event_31 (by decide) (Nat.le_of_ble_eq_true rfl) (by decide) (by decide) (by decide) (by decide) hq
  · refine lv_ifnull hx hb dX11_event_10 ?_
    have hl : lv_has ls 4 [(3, .ref q6), (0, .ref a0), (1, .int p1), (2, .int p2)] := hl
    replace hq := hq.2 q6 rfl
    refine lv_iload_n hx hb dX11_event_13 rfl (lv_at hl 3 rfl) ?_
    refine lv_if_lt (tgt := 22) hx hb dX11_event_14 (by decide) (fun c8 => ?_) (fun c8 => ?_)
    · replace hq := hq.1 c8
      exact r_throwN nx0 nx1 nx2 nx5 C hZ hst hlk hw hl.1 (by decide) w_979 w_25 (st_13 C.2.2.2.2.1) hat1_136 hat3_136 (by decide +kernel) dX11_event_22 dX11_event_25 dX11_event_26 dX11_event_28 dX11_event_31 (by decide) (Nat.le_of_ble_eq_true rfl) (by decide) (by decide) (by decide) (by decide) hq
    · replace hq := hq.2 c8
      refine lv_iload_n hx hb dX11_event_17 rfl (lv_at hl 3 rfl) ?_
      refine lv_iconst (v := 5) hx hb dX11_event_18 (by decide) ?_
      refine lv_icmp_le (tgt := 32) hx hb dX11_event_19 (by decide) (fun c10 => ?_) (fun c10 => ?_)
      · replace hq := hq.1 c10
        refine lv_aload_n hx hb dX11_event_32 rfl (lv_at hl 0 rfl) ?_
        refine lv_iload_n hx hb dX11_event_33 rfl (lv_at hl 3 rfl) ?_
        refine r_callV (T := TX0) (N := 6) (ci := 0) (index := 216) (n := 1) (d2 := 0) (mc := 0) (ms := 0) (As := [.int p2]) (rest := []) C hw (ct_X0_tell hq) kvX11_216 hq.1 (by decide) rfl ⟨by decide, by decide⟩ ⟨by decide, by decide⟩ rfl hl.1 rfl (Nat.le_of_ble_eq_true rfl) dX11_event_34 (fun r M12 H locs hp hle hw => ?_)
        obtain ⟨v11, rfl, hq⟩ := hp
        refine W.eq (g2 := F0 m 37 ls [.int v11]) rfl ?_
        exact vx_ret (r_iret C hr hlk hw dX11_event_37 (by decide) (by decide) ⟨_, rfl, hq⟩)
      · replace hq := hq.2 c10
        exact r_throwN nx0 nx1 nx2 nx5 C hZ hst hlk hw hl.1 (by decide) w_979 w_25 (st_13 C.2.2.2.2.1) hat1_136 hat3_136 (by decide +kernel) dX11_event_22 dX11_event_25 dX11_event_26 dX11_event_28 dX11_event_31 (by decide) (Nat.le_of_ble_eq_true rfl) (by decide) (by decide) (by decide) (by decide) hq
