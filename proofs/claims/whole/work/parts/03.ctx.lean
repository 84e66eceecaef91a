/-! THE CONTEXT of a method: the words of the tables that are carried along (TBL), the nest words (NKl), the String constants -/
def TBL : List Cond := lw_tbl.filter goodWord
theorem inT {w : Cond} (h : w ∈ lw_tbl) (g : goodWord w = true) : w ∈ TBL := List.mem_filter.mpr ⟨h, g⟩
theorem inT1 {w : Cond} (i : Nat) (h : tables_1[i]? = some w) (g : goodWord w = true) : w ∈ TBL := inT (List.mem_append_right _ (List.mem_of_getElem? h)) g
theorem inT2 {w : Cond} (i : Nat) (h : (k2_sels lw_privs)[i]? = some w) (g : goodWord w = true) : w ∈ TBL := inT (List.mem_append_left _ (List.mem_of_getElem? h)) g
theorem goodT : GoodIn TBL TBL := fun _ h => ⟨h, good_of_word (List.mem_filter.mp h).2⟩
theorem goodC {w : Cond} (h : w ∈ TBL) : GoodIn TBL (w :: TBL) := fun x hx => (List.mem_cons.mp hx).elim (fun e => by rw [e]; exact goodT w h) (fun hx => goodT x hx)
theorem goodV {own C : String} {idx : Nat} {y : MethodName} {w : Cond} (h1 : Cond.methodLink own idx y ∈ TBL) (h2 : Cond.instanceMethod y ∈ TBL) (h3 : Cond.selects C y y ∈ TBL) (h4 : Cond.initialized C ∈ TBL) (h5 : w ∈ TBL) : GoodIn TBL (wsV own idx C y (w :: TBL)) := fun x hx => by
  rcases List.mem_append.mp hx with h | h
  · simp only [List.mem_cons, List.not_mem_nil, or_false] at h
    rcases h with rfl | rfl | rfl | rfl
    · exact goodT _ h1
    · exact goodT _ h2
    · exact goodT _ h3
    · exact goodT _ h4
  · exact goodC h5 x h
theorem goodS {own : String} {idx : Nat} {y : MethodName} {w : Cond} (h1 : Cond.methodLink own idx y ∈ TBL) (h2 : Cond.static y ∈ TBL) (h4 : Cond.initialized own ∈ TBL) (h5 : w ∈ TBL) : GoodIn TBL (wsS own idx y (w :: TBL)) := fun x hx => by
  rcases List.mem_append.mp hx with h | h
  · simp only [List.mem_cons, List.not_mem_nil, or_false] at h
    rcases h with rfl | rfl | rfl
    · exact goodT _ h1
    · exact goodT _ h2
    · exact goodT _ h4
  · exact goodC h5 x h
def NKl : List Cond := [.fieldLinkNest "QuizLeague" 84 "QuizLeague$Tape" "size" "I" "QuizLeague", .fieldLinkNest "QuizLeague$Matcher" 44 "QuizLeague$Tape" "kind" "I" "QuizLeague", .fieldLinkNest "QuizLeague$Law" 52 "QuizLeague$Tape" "kind" "I" "QuizLeague", .fieldLinkNest "QuizLeague$FormReader" 56 "QuizLeague$Tape" "kind" "I" "QuizLeague", .fieldLinkNest "QuizLeague$FormReader" 67 "QuizLeague$Tape" "place" "I" "QuizLeague", .fieldLinkNest "QuizLeague$Law" 63 "QuizLeague$Tape" "place" "I" "QuizLeague", .fieldLinkNest "QuizLeague$FormReader" 59 "QuizLeague$Tape" "value" "J" "QuizLeague", .fieldLinkNest "QuizLeague$Matcher" 47 "QuizLeague$Tape" "value" "J" "QuizLeague", .fieldLinkNest "QuizLeague$Law" 74 "QuizLeague$Tape" "value" "J" "QuizLeague", .fieldLinkNest "QuizLeague" 97 "QuizLeague$FormReader" "fault" "I" "QuizLeague", .fieldLinkNest "QuizLeague" 100 "QuizLeague$FormReader" "place" "I" "QuizLeague", .fieldLinkNest "QuizLeague$Matcher" 77 "QuizLeague$Frame" "formEnds" "[I" "QuizLeague", .fieldLinkNest "QuizLeague" 250 "QuizLeague$Law" "rounds" "I" "QuizLeague", .fieldLinkNest "QuizLeague$Match" 40 "QuizLeague$Law" "wanted" "I" "QuizLeague", .fieldLinkNest "QuizLeague" 152 "QuizLeague$Law" "wanted" "I" "QuizLeague", .fieldLinkNest "QuizLeague$Match" 121 "QuizLeague$Law" "buzzes" "[Z" "QuizLeague", .fieldLinkNest "QuizLeague$Match" 112 "QuizLeague$Law" "rights" "[I" "QuizLeague", .fieldLinkNest "QuizLeague$Match" 109 "QuizLeague$Law" "passes" "[I" "QuizLeague", .fieldLinkNest "QuizLeague$Match" 115 "QuizLeague$Law" "wrongs" "[I" "QuizLeague", .fieldLinkNest "QuizLeague" 150 "QuizLeague$Law" "fault" "I" "QuizLeague", .fieldLinkNest "QuizLeague" 151 "QuizLeague$Law" "place" "I" "QuizLeague", .fieldLinkNest "QuizLeague" 222 "QuizLeague$Packer" "first" "I" "QuizLeague", .fieldLinkNest "QuizLeague" 225 "QuizLeague$Packer" "second" "I" "QuizLeague", .fieldLinkNest "QuizLeague" 183 "QuizLeague$Packer" "size" "I" "QuizLeague", .fieldLinkNest "QuizLeague" 253 "QuizLeague$Packer" "looks" "I" "QuizLeague", .methodLinkNest "QuizLeague$Match" 25 ⟨"QuizLeague$Event", "<init>", "()V"⟩ "QuizLeague", .fieldLinkNest "QuizLeague$Match" 56 "QuizLeague$Event" "question" "I" "QuizLeague", .fieldLinkNest "QuizLeague$Match" 59 "QuizLeague$Event" "kind" "I" "QuizLeague", .fieldLinkNest "QuizLeague$Match" 62 "QuizLeague$Event" "side" "I" "QuizLeague", .fieldLinkNest "QuizLeague$Match" 65 "QuizLeague$Event" "isRight" "Z" "QuizLeague", .fieldLinkNest "QuizLeague$Match" 76 "QuizLeague$Event" "isVoid" "Z" "QuizLeague", .fieldLinkNest "QuizLeague$Match" 96 "QuizLeague$Event" "points" "I" "QuizLeague", .fieldLinkNest "QuizLeague" 125 "QuizLeague$Match" "isOn" "Z" "QuizLeague", .fieldLinkNest "QuizLeague" 195 "QuizLeague$Match" "atHand" "I" "QuizLeague", .fieldLinkNest "QuizLeague" 256 "QuizLeague$League" "ended" "I" "QuizLeague", .fieldLinkNest "QuizLeague$Matcher" 60 "QuizLeague$Form" "kinds" "[B" "QuizLeague", .fieldLinkNest "QuizLeague$Matcher" 64 "QuizLeague$Form" "lows" "[J" "QuizLeague", .fieldLinkNest "QuizLeague$Matcher" 67 "QuizLeague$Form" "highs" "[J" "QuizLeague", .fieldLinkNest "QuizLeague$Packer" 46 "QuizLeague$Question" "theme" "I" "QuizLeague", .fieldLinkNest "QuizLeague" 117 "QuizLeague$Question" "form" "LQuizLeague$Form;" "QuizLeague", .fieldLinkNest "QuizLeague" 129 "QuizLeague$Question" "isStruck" "Z" "QuizLeague", .methodLinkNest "QuizLeague$League" 36 ⟨"QuizLeague", "isTeam", "(I)Z"⟩ "QuizLeague", .castable "[B" "java/lang/Cloneable", .castable "[J" "java/lang/Cloneable"]
def isNst : Cond → Bool
  | .fieldLinkNest _ _ _ _ _ _ => true
  | .methodLinkNest _ _ _ _ => true
  | .castable _ _ => true
  | _ => false
theorem NKl_nst : ∀ w ∈ NKl, isNst w = true := by decide +kernel
theorem NKl_in : ∀ w ∈ NKl, w ∈ lw_tbl := by decide +kernel
def NK (U : State) : Prop := ∀ w ∈ NKl, va_Nw w U
theorem NK.warm {s U : State} (hW : s.WarmedH U.vm) (h : NK s) : NK U := by
  intro w hw
  have h1 := h w hw
  have h2 := NKl_nst w hw
  cases w <;> first | exact va_Nw.warmF hW h1 | exact va_Nw.warmM hW h1 | exact va_Nw.warmC hW h1 | cases h2
theorem NK.same {s U : State} (hv : s.vm = U.vm) (h : NK s) : NK U := by
  intro w hw
  have h1 := h w hw
  have h2 := NKl_nst w hw
  cases w <;> first | exact va_Nw.same rfl hv h1 | cases h2
def AOs (U : State) : Prop := va_AO "QuizLeague$Event" U ∧ va_AO "QuizLeague$Frame" U ∧ va_AO "QuizLeague$Question" U
theorem AOs.moved {s U : State} (h : s.vm.Alike U.vm) (g : AOs s) : AOs U := ⟨g.1.moved h, g.2.1.moved h, g.2.2.moved h⟩
def stn : List (String × Nat × String) := [("QuizLeague$FormReader", 50, "|[](){},."), ("QuizLeague$Matcher", 38, ""), ("QuizLeague$Law", 46, ";"), ("QuizLeague$Law", 64, "round"), ("QuizLeague$Law", 78, "buzz"), ("QuizLeague$Law", 80, "turns"), ("QuizLeague$Law", 82, "right"), ("QuizLeague$Law", 88, "pass"), ("QuizLeague$Law", 90, "wrong"), ("QuizLeague", 134, "no such question, or nothing that is told of it"), ("QuizLeague", 157, "no such teams, or both the same"), ("QuizLeague", 161, "no such bounds of a pack"), ("QuizLeague", 165, "no law, or a match is on"), ("QuizLeague", 214, "no such event, or nothing that is told of it")]
def stl : List Nat := [9, 0, 1, 5, 4, 5, 5, 4, 5, 47, 31, 24, 24, 44]
def stb : List (List Int32) := [[124, 91, 93, 40, 41, 123, 125, 44, 46], [], [59], [114, 111, 117, 110, 100], [98, 117, 122, 122], [116, 117, 114, 110, 115], [114, 105, 103, 104, 116], [112, 97, 115, 115], [119, 114, 111, 110, 103], [110, 111, 32, 115, 117, 99, 104, 32, 113, 117, 101, 115, 116, 105, 111, 110, 44, 32, 111, 114, 32, 110, 111, 116, 104, 105, 110, 103, 32, 116, 104, 97, 116, 32, 105, 115, 32, 116, 111, 108, 100, 32, 111, 102, 32, 105, 116], [110, 111, 32, 115, 117, 99, 104, 32, 116, 101, 97, 109, 115, 44, 32, 111, 114, 32, 98, 111, 116, 104, 32, 116, 104, 101, 32, 115, 97, 109, 101], [110, 111, 32, 115, 117, 99, 104, 32, 98, 111, 117, 110, 100, 115, 32, 111, 102, 32, 97, 32, 112, 97, 99, 107], [110, 111, 32, 108, 97, 119, 44, 32, 111, 114, 32, 97, 32, 109, 97, 116, 99, 104, 32, 105, 115, 32, 111, 110], [110, 111, 32, 115, 117, 99, 104, 32, 101, 118, 101, 110, 116, 44, 32, 111, 114, 32, 110, 111, 116, 104, 105, 110, 103, 32, 116, 104, 97, 116, 32, 105, 115, 32, 116, 111, 108, 100, 32, 111, 102, 32, 105, 116]]
/-- the ghosts: array classes by kind, the classes' numbers and slots, the String constants' addresses and those of their bytes, the first address of our own -/
abbrev Gh : Type := (Nat → ClassId) × va_G × (Nat → Nat) × (Nat → Nat) × Nat
abbrev gG (g : Gh) : Nat → ClassId := g.1
abbrev gD (g : Gh) : va_G := g.2.1
abbrev gK (g : Gh) : Nat → Nat := g.2.2.1
abbrev gV (g : Gh) : Nat → Nat := g.2.2.2.1
abbrev gB (g : Gh) : Nat := g.2.2.2.2
abbrev gA (g : Gh) : Nat → Prop := fun q => gB g ≤ q
def tysG (G : Nat → ClassId) : List (ClassId × FieldType) := [(G 13, .byte), (G 14, .int), (G 15, .long), (G 16, .short), (G 17, .boolean), (G 18, .object "QuizLeague$Event"), (G 19, .object "QuizLeague$Frame"), (G 20, .object "QuizLeague$Question")]
/-- what lies ahead of B and is never written: the String constants, two statics -/
def EX (g : Gh) (U : State) (H : Heap) : Prop := vk_S 14 stl stb (gK g) (gV g) (gA g) U H ∧ (∀ i (x : String × Nat × String), stn[i]? = some x → vk_R x.1 x.2.1 x.2.2 (gK g i) U) ∧ va_Z "java/lang/String" "COMPACT_STRINGS" "Z" (.int 1) (gA g) U H ∧ va_Zq "jdk/internal/util/Preconditions" "SIOOBE_FORMATTER" "Ljava/util/function/BiFunction;" (gA g) U H
theorem EX.kept {g : Gh} {s U : State} {H H1 : Heap} (hW : s.WarmedH U.vm) (hq : ∀ a : Nat, a < H.size → ¬ gA g a → H1[a]? = H[a]?) (h : EX g s H) : EX g U H1 := ⟨(h.1.moved hW.alike).kept hq, fun i x hx => (h.2.1 i x hx).warm hW, (h.2.2.1.moved hW.alike).kept hq, (h.2.2.2.moved hW.alike).kept hq⟩
theorem EX.same {g : Gh} {s U : State} {H : Heap} (hv : s.vm = U.vm) (h : EX g s H) : EX g U H := ⟨h.1.moved (by rw [hv]; exact Vm.Alike.refl _), fun i x hx => (h.2.1 i x hx).same hv.symm, h.2.2.1.moved (by rw [hv]; exact Vm.Alike.refl _), h.2.2.2.moved (by rw [hv]; exact Vm.Alike.refl _)⟩
/-- what a state must be where a method begins, with memory M -/
def Pr (g : Gh) (M : Mem) : State → Prop := fun U => va_P (gD g) vwCl (mw (gG g) M (gB g)) U.heap ∧ U.heap.size = mT M ∧ va_K (gD g) vwCl (tysG (gG g)) U ∧ NK U ∧ AOs U ∧ EX g U U.heap ∧ gB g ≤ U.heap.size
/-- .. and where it ends -/
def Cq (g : Gh) (M : Mem) (post : Option Value → Mem → Prop) : Array Value → State → Outcome → State → Prop := fun _ st oc t => (∃ (r : Option Value) (M' : Mem), oc = .returned r ∧ post r M' ∧ mle M M' ∧ va_P (gD g) vwCl (mw (gG g) M' (gB g)) t.heap ∧ t.heap.size = mT M') ∧ va_F (gA g) st t
def rmo (d mc ms : Nat) : Room := { frames := d, cells := mc, slots := ms, locals := 64 * d }
/-- a method's contract: d levels of calls, at most mc cells of ms slots made; from memory M with arguments av it returns, and 'post' holds of answer and memory -/
def Ct (l : Launch) (g : Gh) (y : MethodName) (cc : ByteArray) (maxL : Nat) (ret : Option FieldType) (d mc ms : Nat) (av : List Value) (M : Mem) (post : Option Value → Mem → Prop) : Prop :=
  Met l y (Cond.code y cc maxL ret :: TBL) (rmo d mc ms) (va_Pc av (Pr g M)) (Cq g M post) mc ms (gA g)
/-- what holds all along a method's walk -/
def Cx (g : Gh) (p : Program) (s : State) (m : MethodId) (args : Array Value) (c : Code) (cc : ByteArray) (nL : Nat) (own : String) : Prop :=
  (p.tables.exec = Jvm.exec ∧ c.code = cc ∧ c.maxLocals = nL ∧ s.vm.findClass own = some m.cls ∧ ∀ w ∈ TBL, w.before args s = true) ∧ va_K (gD g) vwCl (tysG (gG g)) s ∧ NK s ∧ AOs s ∧ EX g s s.heap ∧ gB g ≤ s.heap.size
/-- the memory now: M, begun at M0 -/
def Wd (g : Gh) (s : State) (M0 M : Mem) (H : Heap) (locs : List Loc) : Prop := va_P (gD g) vwCl (mw (gG g) M (gB g)) H ∧ H.size = mT M ∧ mle M0 M ∧ va_S (gA g) s.heap H locs
theorem Ct.of {l : Launch} {g : Gh} {y : MethodName} {cc : ByteArray} {maxL : Nat} {ret : Option FieldType} {d mc ms : Nat} {av : List Value} {M : Mem} {post : Option Value → Mem → Prop} (hy : plainName y.cls = true) (hlen : (lg_sl av).length ≤ maxL)
    (body : ∀ (p : Program) (e : Env) (s : State) (m : MethodId) (below : List Frame) (meth : Method) (c : Code) (ls : Array Slot), Cx g p s m av.toArray c cc maxL y.cls → meth.sig.returnType = ret → meth.locks = false → meth.name = y.name → lv_has ls maxL (lv_args 0 av) → Wd g s M M s.heap [] →
      W p l e (rmo d mc ms) s m av.toArray below meth c s.heap [] 0 0 (MQ below (Cq g M post) av.toArray s mc ms (gA g)) (F0 m 0 ls [])) : Ct l g y cc maxL ret d mc ms av M post := by
  refine Met.ofW (cc := cc) (maxL := maxL) (ret := ret) hy rfl ?_
  intro p e s m args below meth c s₁ B hml hv
  obtain ⟨rfl, hP, hz, hK, hN, hO, hE, hB⟩ := hv
  have hts := atoms_spec (ws := Cond.code y cc maxL ret :: TBL) B.pre
  have hl := lv_entry av (n := maxL) hlen
  rw [lg_entry_eq]
  exact body p e s m below meth c _ ⟨⟨B.exec, B.bytes, hml, findClass_of_methodNamed B.named, fun w hw => hts w (List.mem_cons_of_mem _ hw)⟩, hK, hN, hO, hE, hB⟩ B.returns B.notSynchronized (name_of_methodNamed B.named B.method).1 hl ⟨hP, hz, mle_rf M, va_S.rf⟩
section RowsA
variable {g : Gh} {p : Program} {l : Launch} {e : Env} {R : Room} {s : State} {m : MethodId} {args : Array Value} {below : List Frame} {meth : Method} {c : Code} {H : Heap} {locs : List Loc} {cells slots : Nat} {Q : State → Prop}
variable {cc : ByteArray} {nL pc : Nat} {own : String} {ls : Array Slot} {rest : List Value} {a : Nat} {M0 M : Mem}
theorem r_iret {post : Option Value → Mem → Prop} {mc ms : Nat} {v : Int32} (C : Cx g p s m args c cc nL own) (hr : meth.sig.returnType = some .int) (hlk : meth.locks = false) (hw : Wd g s M0 M H locs) (hd : decode cc pc = .ok (.ireturn, 1)) (hc : cells ≤ mc) (hs : slots ≤ ms) (hp : post (some (.int v)) M) : W p l e R s m args below meth c H locs cells slots (MQ below (Cq g M0 post) args s mc ms (gA g)) (F0 m pc ls [.int v]) := by
  refine W.widen hc hs ?_
  exact W.iret C.1.1 C.1.2.1 hr (fun t ht hW => ⟨⟨_, M, rfl, hp, hw.2.2.1, by rw [ht]; exact hw.1, by rw [ht]; exact hw.2.1⟩, hw.2.2.2.F ht⟩) hw.2.2.2.2.2 hd hlk
theorem r_zret {post : Option Value → Mem → Prop} {mc ms : Nat} {v : Int32} (C : Cx g p s m args c cc nL own) (hr : meth.sig.returnType = some .boolean) (hlk : meth.locks = false) (hw : Wd g s M0 M H locs) (hd : decode cc pc = .ok (.ireturn, 1)) (hc : cells ≤ mc) (hs : slots ≤ ms) (hb : v = 0 ∨ v = 1) (hp : post (some (.int v)) M) : W p l e R s m args below meth c H locs cells slots (MQ below (Cq g M0 post) args s mc ms (gA g)) (F0 m pc ls [.int v]) := by
  refine W.widen hc hs ?_
  have hn : narrow .boolean (.int v) = .int v := by rcases hb with rfl | rfl <;> rfl
  exact W.zret C.1.1 C.1.2.1 hr hn (fun t ht hW => ⟨⟨_, M, rfl, hp, hw.2.2.1, by rw [ht]; exact hw.1, by rw [ht]; exact hw.2.1⟩, hw.2.2.2.F ht⟩) hw.2.2.2.2.2 hd hlk
theorem r_vret {post : Option Value → Mem → Prop} {mc ms : Nat} (C : Cx g p s m args c cc nL own) (hr : meth.sig.returnType = none) (hlk : meth.locks = false) (hw : Wd g s M0 M H locs) (hd : decode cc pc = .ok (.return_, 1)) (hc : cells ≤ mc) (hs : slots ≤ ms) (hp : post none M) : W p l e R s m args below meth c H locs cells slots (MQ below (Cq g M0 post) args s mc ms (gA g)) (F0 m pc ls []) := by
  refine W.widen hc hs ?_
  exact W.vret C.1.1 C.1.2.1 hr (fun t ht hW => ⟨⟨_, M, rfl, hp, hw.2.2.1, by rw [ht]; exact hw.1, by rw [ht]; exact hw.2.1⟩, hw.2.2.2.F ht⟩) hw.2.2.2.2.2 hd hlk
theorem r_aret {post : Option Value → Mem → Prop} {mc ms : Nat} {v : Option Nat} {rt : FieldType} (C : Cx g p s m args c cc nL own) (hr : meth.sig.returnType = some rt) (hrt : (∃ n, rt = .object n) ∨ ∃ t, rt = .array t) (hlk : meth.locks = false) (hw : Wd g s M0 M H locs) (hd : decode cc pc = .ok (.areturn, 1)) (hc : cells ≤ mc) (hs : slots ≤ ms) (hp : post (some (va_rf v)) M) : W p l e R s m args below meth c H locs cells slots (MQ below (Cq g M0 post) args s mc ms (gA g)) (F0 m pc ls [va_rf v]) := by
  refine W.widen hc hs ?_
  exact W.aret C.1.1 C.1.2.1 hr hrt (by cases v with | none => exact Or.inl rfl | some q => exact Or.inr ⟨q, rfl⟩) (fun t ht hW => ⟨⟨_, M, rfl, hp, hw.2.2.1, by rw [ht]; exact hw.1, by rw [ht]; exact hw.2.1⟩, hw.2.2.2.F ht⟩) hw.2.2.2.2.2 hd hlk
end RowsA
/-! ROWS over the memory: fields, arrays, new cells -/
theorem Wd.store {g : Gh} {s : State} {M0 M M' : Mem} {H H1 : Heap} {locs : List Loc} {a kd q k : Nat} {e' : va_E} (hw : Wd g s M0 M H locs) (ha : okc (gB g) M a kd) (hk : kd ≠ 21) (hq : (mw (gG g) M (gB g))[q]? = some (a, mce (gG g) M a)) (hat : va_at (gD g) vwCl (a, e') H1) (z : H1.size = H.size) (oq : ∀ x : Nat, x ≠ a → H1[x]? = H[x]?)
    (hadr : adr M' (gB g) = adr M (gB g)) (hT : mT M' = mT M) (hle : mle M M') (he : ∀ b, va_up (mce (gG g) M) a e' b = mce (gG g) M' b) : Wd g s M0 M' H1 (locs ++ [⟨a, k⟩]) :=
  ⟨by rw [← mw_set ha hk hq hadr he]; exact hw.1.set (mw_D (gG g) M (gB g)) hq hat oq, z.trans (hw.2.1.trans hT.symm), mle_tr hw.2.2.1 hle, hw.2.2.2.put z oq ha.1⟩
theorem Wd.push {g : Gh} {s : State} {M0 M : Mem} {H H1 : Heap} {locs : List Loc} {kd n : Nat} (hw : Wd g s M0 M H locs) (hB : gB g ≤ s.heap.size) (hk : kd ≠ 21) (hat : va_at (gD g) vwCl (mT M, mce (gG g) (nw M kd n) (mT M)) H1) (z : H1.size = H.size + 1) (oq : ∀ x : Nat, x < H.size → H1[x]? = H[x]?) : Wd g s M0 (nw M kd n) H1 locs := by
  have hBT : gB g ≤ mT M := by rw [← hw.2.1]; exact Nat.le_trans hB hw.2.2.2.1
  have hkept : va_P (gD g) vwCl (mw (gG g) M (gB g)) H1 := hw.1.kept fun k x hx => oq x.1 ((hw.1 k x hx).lt)
  have hnin : mT M ∉ adr M (gB g) := fun h => Nat.lt_irrefl _ (adr_mem.mp h).1
  have e2 : mw (gG g) (nw M kd n) (gB g) = mw (gG g) M (gB g) ++ [(mT M, mce (gG g) (nw M kd n) (mT M))] := by
    rw [mw, adr_nw M (gB g) kd n hBT hk, mw, va_pl_push (e := mce (gG g) (nw M kd n) (mT M)) hnin]
    refine va_pl_congr fun b => ?_
    by_cases hb : b = mT M
    · subst hb; rw [va_up_self]
    · rw [va_up_ne _ _ hb, mce_nw _ _ _ _ _ hb]
  refine ⟨?_, by rw [z, hw.2.1]; rfl, mle_tr hw.2.2.1 (mle_nw M kd n), ⟨Nat.le_trans hw.2.2.2.1 (by omega), fun x h1 h2 => (oq x (Nat.lt_of_lt_of_le h1 hw.2.2.2.1)).trans (hw.2.2.2.2.1 x h1 h2), hw.2.2.2.2.2⟩⟩
  rw [e2]
  exact hkept.app fun k x hx => by
    have hz : k < 1 := (List.getElem?_eq_some_iff.mp hx).1
    rw [show k = 0 by omega] at hx
    cases hx
    exact hat
theorem Wd.pushX {g : Gh} {s : State} {M0 M : Mem} {H H1 : Heap} {locs : List Loc} {n : Nat} (hw : Wd g s M0 M H locs) (z : H1.size = H.size + 1) (oq : ∀ x : Nat, x < H.size → H1[x]? = H[x]?) : Wd g s M0 (nw M 21 n) H1 locs := by
  have hkept : va_P (gD g) vwCl (mw (gG g) M (gB g)) H1 := hw.1.kept fun k x hx => oq x.1 ((hw.1 k x hx).lt)
  have e2 : mw (gG g) (nw M 21 n) (gB g) = mw (gG g) M (gB g) := by
    rw [mw, adr_nwX M (gB g) n, mw]
    apply List.map_congr_left
    intro b hb
    have h : b ≠ mT M := Nat.ne_of_lt (adr_mem.mp hb).1
    rw [mce_nw _ _ _ _ _ h]
  exact ⟨by rw [e2]; exact hkept, by rw [z, hw.2.1]; rfl, mle_tr hw.2.2.1 (mle_nw M 21 n), ⟨Nat.le_trans hw.2.2.2.1 (by omega), fun x h1 h2 => (oq x (Nat.lt_of_lt_of_le h1 hw.2.2.2.1)).trans (hw.2.2.2.2.1 x h1 h2), hw.2.2.2.2.2⟩⟩
section RowsB
variable {g : Gh} {p : Program} {l : Launch} {e : Env} {R : Room} {s : State} {m : MethodId} {args : Array Value} {below : List Frame} {meth : Method} {c : Code} {H : Heap} {locs : List Loc} {cells slots : Nat} {Q : State → Prop}
variable {cc : ByteArray} {nL pc : Nat} {own : String} {ls : Array Slot} {rest : List Value} {a : Nat} {M0 M : Mem}
theorem r_get {cn ref host : String} {T : u_T} {N ci k t index : Nat} (C : Cx g p s m args c cc nL own) (hw : Wd g s M0 M H locs) (ha : okc (gB g) M a ci) (hc : vwCl[ci]? = some (cn, T, N)) (h13 : ci < 13) (hin : ∀ w ∈ u_ws cn T N, w ∈ TBL) (hk : k < N) (ht : (shp ci)[k]? = some t)
    (hlink : Cond.fieldLink own index ref (T k).2.1 (T k).2.2.1 ∈ TBL ∨ Cond.fieldLinkNest own index ref (T k).2.1 (T k).2.2.1 host ∈ NKl) (hsame : (T k).1 = ref) (hd : decode cc pc = .ok (.getfield index, 3))
    (kk : W p l e R s m args below meth c H locs cells slots Q (F0 m (pc + 3) ls (fvl M a k t :: rest))) : W p l e R s m args below meth c H locs cells slots Q (F0 m pc ls (.ref a :: rest)) := by
  obtain ⟨q, hq⟩ := mw_get (G := gG g) ha (by omega)
  rw [mce_at_o ha.2.2 h13] at hq
  have hv : (fls M a 0 (shp ci))[k]? = some (fvl M a k t) := by rw [fls_get, ht]; simp
  subst hsame
  rcases hlink with hl | hl
  · exact va_get (D := gD g) (ci := ci) (v := fvl M a k t) (C := cn) (T := T) (N := N) C.1.1 C.1.2.1 C.1.2.2.2.2 hin C.1.2.2.2.1 C.2.1 hw.1 q hq hc k hk (C.1.2.2.2.2 _ hl) (fun _ h => h) hv hd kk
  · exact va_getN (D := gD g) (ci := ci) (v := fvl M a k t) (C := cn) (T := T) (N := N) C.1.1 C.1.2.1 C.1.2.2.2.2 hin C.1.2.2.2.1 C.2.1 hw.1 q hq hc k hk (va_Nw.use rfl (C.2.2.1 _ hl)) (fun _ h => h) hv hd kk
theorem r_put {cn ref host : String} {T : u_T} {N ci k index : Nat} {M' : Mem} {v : Value} {ty : FieldType} (ty0 : Nat → FieldType) (C : Cx g p s m args c cc nL own) (hw : Wd g s M0 M H locs) (ha : okc (gB g) M a ci) (hc : vwCl[ci]? = some (cn, T, N)) (h13 : ci < 13) (hin : ∀ w ∈ u_ws cn T N, w ∈ TBL) (hty : ∀ k, k < N → parseFieldDescriptor (T k).2.2.1 = some (ty0 k)) (hnm : ∀ a, a < N → ∀ b, b < N → a ≠ b → (T a).2.1 ≠ (T b).2.1) (hk : k < N) (hsh : k < (shp ci).length)
    (hlink : (Cond.fieldLink own index ref (T k).2.1 (T k).2.2.1 ∈ TBL ∧ ((T k).2.2.2 = false ∨ (T k).2.2.2 = true ∧ meth.name = "<init>" ∧ (T k).1 = own)) ∨ (Cond.fieldLinkNest own index ref (T k).2.1 (T k).2.2.1 host ∈ NKl ∧ (T k).2.2.2 = false)) (hsame : (T k).1 = ref) (hpd : parseFieldDescriptor (T k).2.2.1 = some ty) (hn : narrow ty v = v) (hfit : fits ty v = true)
    (hadr : adr M' (gB g) = adr M (gB g)) (hT : mT M' = mT M) (hle : mle M M') (he : ∀ b, va_up (mce (gG g) M) a (.inr (ci, (fls M a 0 (shp ci)).set k v)) b = mce (gG g) M' b) (hd : decode cc pc = .ok (.putfield index, 3))
    (kk : ∀ (H1 : Heap) (locs1 : List Loc), Wd g s M0 M' H1 locs1 → W p l e R s m args below meth c H1 locs1 cells slots Q (F0 m (pc + 3) ls rest)) : W p l e R s m args below meth c H locs cells slots Q (F0 m pc ls (v :: .ref a :: rest)) := by
  obtain ⟨q, hq0⟩ := mw_get (G := gG g) ha (by omega)
  have hq := hq0
  rw [mce_at_o ha.2.2 h13] at hq
  have hts := C.1.2.2.2.2
  have hK := C.2.1
  have hap := va_apart (own := own) hts hin ty0 hty hnm hK hc
  obtain ⟨r, h1, cell, q1, q2, q3, q4⟩ := hw.1 q _ hq
  have hr : r = (cn, T, N) := Option.some.inj (h1.symm.trans hc)
  subst hr
  subst hsame
  obtain ⟨hS, hfc, kC, hkC, hkind⟩ := hK.1 ci _ hc
  obtain ⟨cf, kf, fi, f, hi, hsl⟩ := hS k hk
  have hlay := hts _ (hin _ (u_in_lay hk))
  unfold u_lay at hlay
  have hst := (u_facts hfc hkC (u_lays hts hin hk) hi).1
  have done : ∀ (H' : Heap), H'[a]? = some (cell.setSlot f.slot v) → H'.size = H.size → (∀ x, x ≠ a → H'[x]? = H[x]?) → W p l e R s m args below meth c H' (locs ++ [⟨a, f.slot⟩]) cells slots Q (F0 m (pc + 3) ls rest) := by
    intro H' e1 e2 e3
    rw [hsl] at e1
    exact kk H' _ (hw.store ha (by omega) hq0 (e' := .inr (ci, (fls M a 0 (shp ci)).set k v)) ⟨_, hc, t_OB.to (V := updV (vp_V (fls M a 0 (shp ci))) k v) ⟨_, e1, q2, q3, t_set q4 hap hk v⟩ (fun j _ => vp_updV_set (by rw [fls_len]; exact hsh) v j)⟩ e2 e3 hadr hT hle he)
  rcases hlink with ⟨hl, hfin | ⟨hfin, hin2, hdecl⟩⟩ | ⟨hl, hfin⟩
  · rw [if_neg (by rw [hfin]; decide)] at hlay
    have h6 := u_store hfc hkC hkind hlay hi hpd hn hfit
    exact W.putK C.1.1 C.1.2.1 (f := f) ⟨C.1.2.2.2.1, hts _ hl, ⟨_, _, _, hi⟩, hst⟩ (by rw [q2]; exact h6) q1 q3 (by rw [hsl]; exact k2_hasslot (q4 k hk)) rfl rfl hd done
  · rw [if_pos hfin] at hlay
    have hcf : m.cls = cf := by
      obtain ⟨_, _, c', _, _, _, -, -, hf', -, -, -, hown2, -⟩ := Cond.laysFinal_spec hlay
      have e1 : c' = cf := by have := hi.symm.trans hf'; simp at this; exact this.1.symm
      rw [hdecl] at hown2
      rw [← e1]; exact Option.some.inj (C.1.2.2.2.1.symm.trans hown2)
    have h6 := u_fits hfc hkC hkind (Or.inr hlay) hi hpd hn hfit
    exact W.putFinK C.1.1 C.1.2.1 C.1.2.2.2.1 (hts _ hl) hi hst hcf hin2 (by rw [q2]; exact h6) q1 q3 (by rw [hsl]; exact k2_hasslot (q4 k hk)) rfl rfl hd done
  · rw [if_neg (by rw [hfin]; decide)] at hlay
    have h6 := u_store hfc hkC hkind hlay hi hpd hn hfit
    exact va_WputK C.1.1 C.1.2.1 (f := f) C.1.2.2.2.1 (va_Nw.use rfl (C.2.2.1 _ hl)) hi hst (by rw [q2]; exact h6) q1 q3 (by rw [hsl]; exact k2_hasslot (q4 k hk)) rfl rfl hd done
theorem r_iald {i : Int32} (C : Cx g p s m args c cc nL own) (hw : Wd g s M0 M H locs) (ha : okc (gB g) M a 14) (hin : vp_in i (mN M a)) (hd : decode cc pc = .ok (.iaload, 1))
    (kk : W p l e R s m args below meth c H locs cells slots Q (F0 m (pc + 1) ls (.int (mI M a i.toNatClampNeg) :: rest))) : W p l e R s m args below meth c H locs cells slots Q (F0 m pc ls (.int i :: .ref a :: rest)) := by
  obtain ⟨q, hq⟩ := mw_get (G := gG g) ha (by omega)
  rw [mce_at_i ha.2.2 (by omega) (by omega) (by omega)] at hq
  exact va_iald C.1.1 C.1.2.1 C.2.1 hw.1 q 1 hq rfl hin hd kk
theorem r_bald {i : Int32} (C : Cx g p s m args c cc nL own) (hw : Wd g s M0 M H locs) (ha : okc (gB g) M a 13) (hin : vp_in i (mN M a)) (hd : decode cc pc = .ok (.baload, 1))
    (kk : W p l e R s m args below meth c H locs cells slots Q (F0 m (pc + 1) ls (.int (mI M a i.toNatClampNeg) :: rest))) : W p l e R s m args below meth c H locs cells slots Q (F0 m pc ls (.int i :: .ref a :: rest)) := by
  obtain ⟨q, hq⟩ := mw_get (G := gG g) ha (by omega)
  rw [mce_at_i ha.2.2 (by omega) (by omega) (by omega)] at hq
  exact va_bald C.1.1 C.1.2.1 C.2.1 hw.1 q 0 hq rfl hin hd kk
theorem r_zald {i : Int32} (C : Cx g p s m args c cc nL own) (hw : Wd g s M0 M H locs) (ha : okc (gB g) M a 17) (hin : vp_in i (mN M a)) (hd : decode cc pc = .ok (.baload, 1))
    (kk : W p l e R s m args below meth c H locs cells slots Q (F0 m (pc + 1) ls (.int (mI M a i.toNatClampNeg) :: rest))) : W p l e R s m args below meth c H locs cells slots Q (F0 m pc ls (.int i :: .ref a :: rest)) := by
  obtain ⟨q, hq⟩ := mw_get (G := gG g) ha (by omega)
  rw [mce_at_i ha.2.2 (by omega) (by omega) (by omega)] at hq
  exact va_zald C.1.1 C.1.2.1 C.2.1 hw.1 q 4 hq rfl hin hd kk
theorem r_sald {i : Int32} (C : Cx g p s m args c cc nL own) (hw : Wd g s M0 M H locs) (ha : okc (gB g) M a 16) (hin : vp_in i (mN M a)) (hd : decode cc pc = .ok (.saload, 1))
    (kk : W p l e R s m args below meth c H locs cells slots Q (F0 m (pc + 1) ls (.int (mI M a i.toNatClampNeg) :: rest))) : W p l e R s m args below meth c H locs cells slots Q (F0 m pc ls (.int i :: .ref a :: rest)) := by
  obtain ⟨q, hq⟩ := mw_get (G := gG g) ha (by omega)
  rw [mce_at_i ha.2.2 (by omega) (by omega) (by omega)] at hq
  exact va_sald C.1.1 C.1.2.1 C.2.1 hw.1 q 3 hq rfl hin hd kk
theorem r_lald {i : Int32} (C : Cx g p s m args c cc nL own) (hw : Wd g s M0 M H locs) (ha : okc (gB g) M a 15) (hin : vp_in i (mN M a)) (hd : decode cc pc = .ok (.laload, 1))
    (kk : W p l e R s m args below meth c H locs cells slots Q (F0 m (pc + 1) ls (.long (mJ M a i.toNatClampNeg) :: rest))) : W p l e R s m args below meth c H locs cells slots Q (F0 m pc ls (.int i :: .ref a :: rest)) := by
  obtain ⟨q, hq⟩ := mw_get (G := gG g) ha (by omega)
  rw [mce_at_j ha.2.2] at hq
  exact va_lald C.1.1 C.1.2.1 C.2.1 hw.1 q 2 hq rfl hin hd kk
theorem r_aald {i : Int32} {kd : Nat} {E : String} (C : Cx g p s m args c cc nL own) (hw : Wd g s M0 M H locs) (ha : okc (gB g) M a kd) (h18 : 18 ≤ kd) (h21 : kd ≠ 21) (hty : (tysG (gG g))[kd - 13]? = some (gG g kd, .object E)) (hin : vp_in i (mN M a)) (hd : decode cc pc = .ok (.aaload, 1))
    (kk : W p l e R s m args below meth c H locs cells slots Q (F0 m (pc + 1) ls (va_rf (mR M a i.toNatClampNeg) :: rest))) : W p l e R s m args below meth c H locs cells slots Q (F0 m pc ls (.int i :: .ref a :: rest)) := by
  obtain ⟨q, hq⟩ := mw_get (G := gG g) ha h21
  rw [mce_at_r ha.2.2 h18] at hq
  exact va_aldq C.1.1 C.1.2.1 C.2.1 hw.1 q (kd - 13) hq hty hin hd kk
theorem r_alen {kd : Nat} {ty : FieldType} (C : Cx g p s m args c cc nL own) (hw : Wd g s M0 M H locs) (ha : okc (gB g) M a kd) (h13 : 13 ≤ kd) (h21 : kd ≠ 21) (hty : (tysG (gG g))[kd - 13]? = some (gG g kd, ty)) (hd : decode cc pc = .ok (.arraylength, 1))
    (kk : W p l e R s m args below meth c H locs cells slots Q (F0 m (pc + 1) ls (.int (nI (mN M a)) :: rest))) : W p l e R s m args below meth c H locs cells slots Q (F0 m pc ls (.ref a :: rest)) := by
  obtain ⟨q, hq⟩ := mw_get (G := gG g) ha h21
  by_cases h15 : kd = 15
  · subst h15
    rw [mce_at_j ha.2.2] at hq
    exact va_alen C.1.1 C.1.2.1 C.2.1 hw.1 q _ hq hty rfl hd kk
  · by_cases h18 : kd < 18
    · rw [mce_at_i ha.2.2 h13 h18 h15] at hq
      exact va_alen C.1.1 C.1.2.1 C.2.1 hw.1 q _ hq hty rfl hd kk
    · rw [mce_at_r ha.2.2 (by omega)] at hq
      exact va_alen C.1.1 C.1.2.1 C.2.1 hw.1 q _ hq hty rfl hd kk
theorem r_iast {i x : Int32} (C : Cx g p s m args c cc nL own) (hw : Wd g s M0 M H locs) (ha : okc (gB g) M a 14) (hin : vp_in i (mN M a)) (hd : decode cc pc = .ok (.iastore, 1))
    (kk : ∀ (H1 : Heap) (locs1 : List Loc), Wd g s M0 (uI M a i.toNatClampNeg x) H1 locs1 → W p l e R s m args below meth c H1 locs1 cells slots Q (F0 m (pc + 1) ls rest)) : W p l e R s m args below meth c H locs cells slots Q (F0 m pc ls (.int x :: .int i :: .ref a :: rest)) := by
  obtain ⟨q, hq0⟩ := mw_get (G := gG g) ha (by omega)
  have hq := hq0
  rw [mce_at_i ha.2.2 (by omega) (by omega) (by omega)] at hq
  refine W.iast C.1.1 C.1.2.1 (hw.1 q _ hq) ((C.2.1.2 1 _ rfl).1 (mN M a) (fun j => .int (mI M a j))) (fun q => by cases q) (by show ¬ (i < 0 ∨ (arrV _ _ _).slots.size ≤ _); rw [arrV_size]; exact hin) rfl rfl hd fun H1 e z oq => ?_
  refine kk H1 _ (hw.store ha (by omega) hq0 (e' := .inl (gG g 14, mN M a, .inl (upd (mI M a) i.toNatClampNeg x))) ?_ z oq rfl rfl ⟨Nat.le_refl _, fun _ _ => ⟨rfl, rfl⟩⟩ (mce_uI_a (gG g) M a _ x ha.2.2 (by omega) (by omega) (by omega)))
  show H1[a]? = some (vp_cell _ _)
  rw [e, vp_cell_i, vp_cell_i, arrV_store]
  congr 2
  funext j
  by_cases hj : j = i.toNatClampNeg
  · subst hj; simp [updV, upd]
  · simp [updV, upd, hj]
theorem r_bast {i x : Int32} (C : Cx g p s m args c cc nL own) (hw : Wd g s M0 M H locs) (ha : okc (gB g) M a 13) (hin : vp_in i (mN M a)) (hd : decode cc pc = .ok (.bastore, 1))
    (kk : ∀ (H1 : Heap) (locs1 : List Loc), Wd g s M0 (uI M a i.toNatClampNeg (vp_nar .byte x)) H1 locs1 → W p l e R s m args below meth c H1 locs1 cells slots Q (F0 m (pc + 1) ls rest)) : W p l e R s m args below meth c H locs cells slots Q (F0 m pc ls (.int x :: .int i :: .ref a :: rest)) := by
  obtain ⟨q, hq0⟩ := mw_get (G := gG g) ha (by omega)
  have hq := hq0
  rw [mce_at_i ha.2.2 (by omega) (by omega) (by omega)] at hq
  refine W.bast C.1.1 C.1.2.1 (hw.1 q _ hq) ((C.2.1.2 0 _ rfl).1 (mN M a) (fun j => .int (mI M a j))) (fun q => by cases q) (by show ¬ (i < 0 ∨ (arrV _ _ _).slots.size ≤ _); rw [arrV_size]; exact hin) rfl rfl hd fun H1 e z oq => ?_
  refine kk H1 _ (hw.store ha (by omega) hq0 (e' := .inl (gG g 13, mN M a, .inl (upd (mI M a) i.toNatClampNeg (vp_nar .byte x)))) ?_ z oq rfl rfl ⟨Nat.le_refl _, fun _ _ => ⟨rfl, rfl⟩⟩ (mce_uI_a (gG g) M a _ _ ha.2.2 (by omega) (by omega) (by omega)))
  show H1[a]? = some (vp_cell _ _)
  rw [e, vp_cell_i, vp_cell_i, arrV_store]
  congr 2
  funext j
  by_cases hj : j = i.toNatClampNeg
  · subst hj
    simp [updV, upd, vp_nar]
    try rfl
  · simp [updV, upd, hj]
theorem r_zast {i x : Int32} (C : Cx g p s m args c cc nL own) (hw : Wd g s M0 M H locs) (ha : okc (gB g) M a 17) (hin : vp_in i (mN M a)) (hd : decode cc pc = .ok (.bastore, 1))
    (kk : ∀ (H1 : Heap) (locs1 : List Loc), Wd g s M0 (uI M a i.toNatClampNeg (vp_nar .boolean x)) H1 locs1 → W p l e R s m args below meth c H1 locs1 cells slots Q (F0 m (pc + 1) ls rest)) : W p l e R s m args below meth c H locs cells slots Q (F0 m pc ls (.int x :: .int i :: .ref a :: rest)) := by
  obtain ⟨q, hq0⟩ := mw_get (G := gG g) ha (by omega)
  have hq := hq0
  rw [mce_at_i ha.2.2 (by omega) (by omega) (by omega)] at hq
  refine W.zast C.1.1 C.1.2.1 (hw.1 q _ hq) ((C.2.1.2 4 _ rfl).1 (mN M a) (fun j => .int (mI M a j))) (fun q => by cases q) (by show ¬ (i < 0 ∨ (arrV _ _ _).slots.size ≤ _); rw [arrV_size]; exact hin) rfl rfl hd fun H1 e z oq => ?_
  refine kk H1 _ (hw.store ha (by omega) hq0 (e' := .inl (gG g 17, mN M a, .inl (upd (mI M a) i.toNatClampNeg (vp_nar .boolean x)))) ?_ z oq rfl rfl ⟨Nat.le_refl _, fun _ _ => ⟨rfl, rfl⟩⟩ (mce_uI_a (gG g) M a _ _ ha.2.2 (by omega) (by omega) (by omega)))
  show H1[a]? = some (vp_cell _ _)
  rw [e, vp_cell_i, vp_cell_i, arrV_store]
  congr 2
  funext j
  by_cases hj : j = i.toNatClampNeg
  · subst hj
    simp [updV, upd, vp_nar]
    try rfl
  · simp [updV, upd, hj]
theorem r_sast {i x : Int32} (C : Cx g p s m args c cc nL own) (hw : Wd g s M0 M H locs) (ha : okc (gB g) M a 16) (hin : vp_in i (mN M a)) (hd : decode cc pc = .ok (.sastore, 1))
    (kk : ∀ (H1 : Heap) (locs1 : List Loc), Wd g s M0 (uI M a i.toNatClampNeg (vp_nar .short x)) H1 locs1 → W p l e R s m args below meth c H1 locs1 cells slots Q (F0 m (pc + 1) ls rest)) : W p l e R s m args below meth c H locs cells slots Q (F0 m pc ls (.int x :: .int i :: .ref a :: rest)) := by
  obtain ⟨q, hq0⟩ := mw_get (G := gG g) ha (by omega)
  have hq := hq0
  rw [mce_at_i ha.2.2 (by omega) (by omega) (by omega)] at hq
  refine W.sast C.1.1 C.1.2.1 (hw.1 q _ hq) ((C.2.1.2 3 _ rfl).1 (mN M a) (fun j => .int (mI M a j))) (fun q => by cases q) (by show ¬ (i < 0 ∨ (arrV _ _ _).slots.size ≤ _); rw [arrV_size]; exact hin) rfl rfl hd fun H1 e z oq => ?_
  refine kk H1 _ (hw.store ha (by omega) hq0 (e' := .inl (gG g 16, mN M a, .inl (upd (mI M a) i.toNatClampNeg (vp_nar .short x)))) ?_ z oq rfl rfl ⟨Nat.le_refl _, fun _ _ => ⟨rfl, rfl⟩⟩ (mce_uI_a (gG g) M a _ _ ha.2.2 (by omega) (by omega) (by omega)))
  show H1[a]? = some (vp_cell _ _)
  rw [e, vp_cell_i, vp_cell_i, arrV_store]
  congr 2
  funext j
  by_cases hj : j = i.toNatClampNeg
  · subst hj
    simp [updV, upd, vp_nar]
    try rfl
  · simp [updV, upd, hj]
theorem r_last {i : Int32} {x : Int64} (C : Cx g p s m args c cc nL own) (hw : Wd g s M0 M H locs) (ha : okc (gB g) M a 15) (hin : vp_in i (mN M a)) (hd : decode cc pc = .ok (.lastore, 1))
    (kk : ∀ (H1 : Heap) (locs1 : List Loc), Wd g s M0 (uJ M a i.toNatClampNeg x) H1 locs1 → W p l e R s m args below meth c H1 locs1 cells slots Q (F0 m (pc + 1) ls rest)) : W p l e R s m args below meth c H locs cells slots Q (F0 m pc ls (.long x :: .int i :: .ref a :: rest)) := by
  obtain ⟨q, hq0⟩ := mw_get (G := gG g) ha (by omega)
  have hq := hq0
  rw [mce_at_j ha.2.2] at hq
  refine W.last C.1.1 C.1.2.1 (hw.1 q _ hq) ((C.2.1.2 2 _ rfl).1 (mN M a) (fun j => .long (mJ M a j))) (fun q => by cases q) (by show ¬ (i < 0 ∨ (arrV _ _ _).slots.size ≤ _); rw [arrV_size]; exact hin) rfl rfl hd fun H1 e z oq => ?_
  refine kk H1 _ (hw.store ha (by omega) hq0 (e' := .inl (gG g 15, mN M a, .inr (.inl (vp_updL (mJ M a) i.toNatClampNeg x)))) ?_ z oq rfl rfl ⟨Nat.le_refl _, fun _ _ => ⟨rfl, rfl⟩⟩ (mce_uJ_a (gG g) M a _ _ ha.2.2))
  show H1[a]? = some (vp_cell _ _)
  rw [e, vp_cell_l, vp_cell_l, arrV_store]
  congr 2
  funext j
  by_cases hj : j = i.toNatClampNeg
  · subst hj; simp [updV, vp_updL]
  · simp [updV, vp_updL, hj]
theorem r_aast {i : Int32} {kd ci v : Nat} {r : vw_C} (C : Cx g p s m args c cc nL own) (hw : Wd g s M0 M H locs) (ha : okc (gB g) M a kd) (h18 : 18 ≤ kd) (h21 : kd ≠ 21) (hty : (tysG (gG g))[kd - 13]? = some (gG g kd, .object r.1)) (hv : okc (gB g) M v ci) (h13 : ci < 13) (hc : vwCl[ci]? = some r) (hin : vp_in i (mN M a)) (hd : decode cc pc = .ok (.aastore, 1))
    (kk : ∀ (H1 : Heap) (locs1 : List Loc), Wd g s M0 (uR M a i.toNatClampNeg (some v)) H1 locs1 → W p l e R s m args below meth c H1 locs1 cells slots Q (F0 m (pc + 1) ls rest)) : W p l e R s m args below meth c H locs cells slots Q (F0 m pc ls (.ref v :: .int i :: .ref a :: rest)) := by
  obtain ⟨q, hq0⟩ := mw_get (G := gG g) ha h21
  have hq := hq0
  rw [mce_at_r ha.2.2 h18] at hq
  obtain ⟨qk, hqk⟩ := mw_get (G := gG g) hv (by omega)
  rw [mce_at_o hv.2.2 h13] at hqk
  have hlt : i.toNatClampNeg < mN M a := Nat.not_le.mp fun q => hin (Or.inr q)
  have h0 : ¬ i < 0 := fun q => hin (Or.inl q)
  obtain ⟨r', hr', cellV, g1, g2, g3, -⟩ := hw.1 qk _ hqk
  have hcls := (C.2.1.1 ci r hc).2
  obtain ⟨kA, comp, k1, k2, k3, -⟩ := (C.2.1.2 (kd - 13) _ hty).2
  have hcomp : comp = (gD g).1 ci := Option.some.inj (k3.symm.trans hcls.1)
  subst hcomp
  obtain ⟨kC, hkC, -⟩ := hcls.2
  refine W.aast C.1.1 C.1.2.1 (hw.1 q _ hq) (fun q h => by cases h) (fun h => by cases h) k1 k2 rfl hkC ⟨h0, by show _ < (arrV _ _ _).slots.size; rw [arrV_size]; exact hlt⟩ g1 (fun q h => by rw [g3] at h; cases h) (by rw [g2]; exact hkC) (by rw [g2]; exact va_assign hcls) rfl rfl hd fun H1 e z oq => ?_
  refine kk H1 _ (hw.store ha h21 hq0 (e' := .inl (gG g kd, mN M a, .inr (.inr (.inr (.inr (va_up (mR M a) i.toNatClampNeg (some v))))))) ?_ z oq rfl rfl ⟨Nat.le_refl _, fun _ _ => ⟨rfl, rfl⟩⟩ (mce_uR_a (gG g) M a _ _ ha.2.2 h18))
  show H1[a]? = some (vp_cell _ _)
  rw [e, vp_cell_q, vp_cell_q, arrV_store]
  congr 2
  funext j
  by_cases hj : j = i.toNatClampNeg
  · subst hj; simp [updV, va_up, va_rf]
  · simp [updV, va_up, hj]
theorem r_new {cn : String} {T : u_T} {N ci index : Nat} (ty : Nat → FieldType) (C : Cx g p s m args c cc nL own) (hw : Wd g s M0 M H locs) (hc : vwCl[ci]? = some (cn, T, N)) (h13 : ci < 13) (hin : ∀ w ∈ u_ws cn T N, w ∈ TBL) (hty : ∀ k, k < N → parseFieldDescriptor (T k).2.2.1 = some (ty k)) (hcl : Cond.classLink own index cn ∈ TBL) (hinst : Cond.instantiable cn N ∈ TBL) (hini : Cond.initialized cn ∈ TBL)
    (hdf : ∀ (M : Mem) (a : Nat), (∀ j, mI M a j = 0) → (∀ j, mJ M a j = 0) → (∀ j, mR M a j = none) → ∀ j, j < N → defaultValue (ty j) = vp_V (fls M a 0 (shp ci)) j) (hcells : cells + 1 ≤ R.cells) (hslots : slots + N ≤ R.slots) (hd : decode cc pc = .ok (.new index, 3))
    (kk : ∀ (H1 : Heap), Wd g s M0 (nw M ci 0) H1 locs → W p l e R s m args below meth c H1 locs (cells + 1) (slots + N) Q (F0 m (pc + 3) ls (.ref (mT M) :: rest))) : W p l e R s m args below meth c H locs cells slots Q (F0 m pc ls rest) := by
  have hKn := C.2.1.1 ci _ hc
  have hts := C.1.2.2.2.2
  refine W.newcK C.1.1 C.1.2.1 C.1.2.2.2.1 (hts _ hcl) (hts _ hinst) (hts _ hini) rfl hd hcells hslots hKn.2.1 hw.2.1 fun H1 kC hkC e1 z1 o1 => ?_
  refine kk H1 (hw.push C.2.2.2.2.2 (by omega) ?_ (by rw [z1, hw.2.1]) (fun x hx => o1 x (by rw [← hw.2.1]; exact hx)))
  have eK : mK (nw M ci 0) (mT M) = ci := va_up_self _ _ _
  rw [mce_at_o eK h13]
  exact ⟨_, hc, (u_born ty hts hin hKn hkC e1 hty).to (hdf (nw M ci 0) (mT M) (fun j => by show va_up M.1 (mT M) _ (mT M) j = 0; rw [va_up_self]) (fun j => by show va_up M.2.1 (mT M) _ (mT M) j = 0; rw [va_up_self]) (fun j => by show va_up M.2.2.1 (mT M) _ (mT M) j = none; rw [va_up_self]))⟩
theorem r_newa {atype : ArrayType} {ty : FieldType} {kd : Nat} {n : Int32} {N' : Nat} (C : Cx g p s m args c cc nL own) (hw : Wd g s M0 M H locs) (hty : newarray.typeOf atype = ty) (harr : Cond.arrayClass ty ∈ TBL) (ht : (tysG (gG g))[kd - 13]? = some (gG g kd, ty)) (h13 : 13 ≤ kd) (h18 : kd < 18) (hva : s.vm.findClass ("[" ++ ty.toString) = some (gG g kd)) (hcell : vp_cell (gG g kd) (if kd = 15 then (N', .inr (.inl (fun _ => 0))) else (N', .inl (fun _ => 0))) = arrV (gG g kd) N' (fun _ => defaultValue ty))
    (hn : ¬ n < 0) (hN : n.toNatClampNeg = N') (hbytes : N' * componentBytes ty ≤ 536870912) (hcells : cells + 1 ≤ R.cells) (hslots : slots + N' ≤ R.slots) (hd : decode cc pc = .ok (.newarray atype, 2))
    (kk : ∀ (H1 : Heap), Wd g s M0 (nw M kd N') H1 locs → W p l e R s m args below meth c H1 locs (cells + 1) (slots + N') Q (F0 m (pc + 2) ls (.ref (mT M) :: rest))) : W p l e R s m args below meth c H locs cells slots Q (F0 m pc ls (.int n :: rest)) := by
  subst hty
  refine va_newaK C.1.1 C.1.2.1 (C.1.2.2.2.2 _ harr) rfl hd rfl hn hN hbytes hcells hslots hw.2.1 fun H1 cA e1 z1 o1 hAr hNm => ?_
  have ecA : cA = gG g kd := Option.some.inj (hNm.symm.trans hva)
  subst ecA
  refine kk H1 (hw.push C.2.2.2.2.2 (by omega) ?_ (by rw [z1, hw.2.1]) (fun x hx => o1 x (by rw [← hw.2.1]; exact hx)))
  have eK : mK (nw M kd N') (mT M) = kd := va_up_self _ _ _
  have eN : mN (nw M kd N') (mT M) = N' := va_up_self _ _ _
  have eI : mI (nw M kd N') (mT M) = fun _ => 0 := va_up_self _ _ _
  have eJ : mJ (nw M kd N') (mT M) = fun _ => 0 := va_up_self _ _ _
  by_cases h15 : kd = 15
  · subst h15
    rw [mce_at_j eK, eN, eJ]
    show H1[mT M]? = some (vp_cell _ _)
    rw [e1, ← hcell, if_pos rfl]
  · rw [mce_at_i eK h13 h18 h15, eN, eI]
    show H1[mT M]? = some (vp_cell _ _)
    rw [e1, ← hcell, if_neg h15]
theorem r_newq {E : String} {index kd : Nat} {n : Int32} {N' : Nat} (C : Cx g p s m args c cc nL own) (hw : Wd g s M0 M H locs) (hcl : Cond.classLink own index E ∈ TBL) (hover : va_AO E s) (ht : (tysG (gG g))[kd - 13]? = some (gG g kd, .object E)) (h18 : 18 ≤ kd) (h21 : kd ≠ 21)
    (hn : ¬ n < 0) (hN : n.toNatClampNeg = N') (hbytes : N' * 4 ≤ 536870912) (hcells : cells + 1 ≤ R.cells) (hslots : slots + N' ≤ R.slots) (hd : decode cc pc = .ok (.anewarray index, 3))
    (kk : ∀ (H1 : Heap), Wd g s M0 (nw M kd N') H1 locs → W p l e R s m args below meth c H1 locs (cells + 1) (slots + N') Q (F0 m (pc + 3) ls (.ref (mT M) :: rest))) : W p l e R s m args below meth c H locs cells slots Q (F0 m pc ls (.int n :: rest)) := by
  subst hN
  refine W.anew C.1.1 C.1.2.1 C.1.2.2.2.1 (C.1.2.2.2.2 _ hcl) (va_AO.use hover) rfl hd rfl hn hbytes hcells hslots fun cA kA comp f1 f2 f3 f4 => ?_
  obtain ⟨kA', comp', k1, k2, k3, k4⟩ := (C.2.1.2 (kd - 13) _ ht).2
  have ecA : cA = gG g kd := Option.some.inj (f1.symm.trans k4)
  subst ecA
  generalize hH1 : H.push ({ cls := gG g kd, slots := Array.replicate n.toNatClampNeg .null, vm := .none } : Cell) = H1
  have z1 : H1.size = H.size + 1 := by rw [← hH1, Array.size_push]
  have e1 : H1[H.size]? = some (arrV (gG g kd) n.toNatClampNeg (fun _ => .null)) := by rw [← hH1, Array.getElem?_push_size, ← arrV_new]
  have o1 : ∀ q : Nat, q < H.size → H1[q]? = H[q]? := fun q hq => by rw [← hH1, Array.getElem?_push, if_neg (Nat.ne_of_lt hq)]
  have hz := hw.2.1
  rw [hz]
  refine kk H1 (hw.push C.2.2.2.2.2 h21 ?_ z1 o1)
  have eK : mK (nw M kd n.toNatClampNeg) (mT M) = kd := va_up_self _ _ _
  have eN : mN (nw M kd n.toNatClampNeg) (mT M) = n.toNatClampNeg := va_up_self _ _ _
  have eR : mR (nw M kd n.toNatClampNeg) (mT M) = fun _ => none := va_up_self _ _ _
  rw [mce_at_r eK h18, eN, eR]
  show H1[mT M]? = some (vp_cell _ _)
  rw [vp_cell_q, ← hz]
  exact e1
end RowsB
/-! CALLS -/
theorem Pr_blind {g : Gh} {M : Mem} {av : List Value} : FrameBlind (va_Pc av (Pr g M)) := by
  intro a U f mk q
  obtain ⟨q0, h1, h2, h3, h4, h5, h6, h7⟩ := q
  exact ⟨q0, h1, h2, va_K.moved (u := U) (U := U.calling f mk a) (Vm.Alike.refl U.vm) h3, NK.same (s := U) (U := U.calling f mk a) rfl h4, AOs.moved (s := U) (U := U.calling f mk a) (Vm.Alike.refl U.vm) h5, EX.same (s := U) (U := U.calling f mk a) rfl h6, h7⟩
theorem Pr_of {g : Gh} {p : Program} {s : State} {m : MethodId} {args : Array Value} {c : Code} {cc : ByteArray} {nL : Nat} {own : String} {M0 M : Mem} {H : Heap} {locs : List Loc} (C : Cx g p s m args c cc nL own) (hw : Wd g s M0 M H locs) : ∀ U : State, U.heap = H → s.WarmedH U.vm → Pr g M U := by
  intro U hU hW
  subst hU
  exact ⟨hw.1, hw.2.1, va_K.moved hW.alike C.2.1, C.2.2.1.warm hW, C.2.2.2.1.moved hW.alike, C.2.2.2.2.1.kept hW hw.2.2.2.2.1, Nat.le_trans C.2.2.2.2.2 hw.2.2.2.1⟩
def LkV (own : String) (index : Nat) (cn : String) (y : MethodName) (bytes : ByteArray) (maxL : Nat) (ret : Option FieldType) (n : Nat) : Prop :=
  Cond.code y bytes maxL ret ∈ TBL ∧ Cond.initialized y.cls ∈ TBL ∧ Cond.methodLink own index y ∈ TBL ∧ (y.cls ≠ "java/lang/invoke/MethodHandle" ∧ y.cls ≠ "java/lang/invoke/VarHandle" ∧ (parseMethodDescriptor y.desc).map (fun d => d.parameters.length) = some n) ∧ Cond.instanceMethod y ∈ TBL ∧ Cond.selects cn y y ∈ TBL
def LkI (own : String) (index : Nat) (y : MethodName) (bytes : ByteArray) (maxL : Nat) (n : Nat) : Prop :=
  Cond.code y bytes maxL none ∈ TBL ∧ Cond.initialized y.cls ∈ TBL ∧ Cond.methodLink own index y ∈ TBL ∧ (y.cls ≠ "java/lang/invoke/MethodHandle" ∧ y.cls ≠ "java/lang/invoke/VarHandle" ∧ (parseMethodDescriptor y.desc).map (fun d => d.parameters.length) = some n) ∧ Cond.instanceMethod y ∈ TBL ∧ y.name = "<init>"
def LkIN (own : String) (index : Nat) (y : MethodName) (host : String) (bytes : ByteArray) (maxL : Nat) (n : Nat) : Prop :=
  Cond.code y bytes maxL none ∈ TBL ∧ Cond.initialized y.cls ∈ TBL ∧ Cond.methodLinkNest own index y host ∈ NKl ∧ (y.cls ≠ "java/lang/invoke/MethodHandle" ∧ y.cls ≠ "java/lang/invoke/VarHandle" ∧ (parseMethodDescriptor y.desc).map (fun d => d.parameters.length) = some n) ∧ Cond.instanceMethod y ∈ TBL ∧ y.name = "<init>"
def LkS (own : String) (index : Nat) (y : MethodName) (bytes : ByteArray) (maxL : Nat) (ret : Option FieldType) (n : Nat) : Prop :=
  Cond.code y bytes maxL ret ∈ TBL ∧ Cond.initialized y.cls ∈ TBL ∧ Cond.methodLink own index y ∈ TBL ∧ (y.cls ≠ "java/lang/invoke/MethodHandle" ∧ y.cls ≠ "java/lang/invoke/VarHandle" ∧ (parseMethodDescriptor y.desc).map (fun d => d.parameters.length) = some n) ∧ Cond.static y ∈ TBL
def LkSN (own : String) (index : Nat) (y : MethodName) (host : String) (bytes : ByteArray) (maxL : Nat) (ret : Option FieldType) (n : Nat) : Prop :=
  Cond.code y bytes maxL ret ∈ TBL ∧ Cond.initialized y.cls ∈ TBL ∧ Cond.methodLinkNest own index y host ∈ NKl ∧ (y.cls ≠ "java/lang/invoke/MethodHandle" ∧ y.cls ≠ "java/lang/invoke/VarHandle" ∧ (parseMethodDescriptor y.desc).map (fun d => d.parameters.length) = some n) ∧ Cond.static y ∈ TBL
section RowsC
variable {g : Gh} {p : Program} {l : Launch} {e : Env} {R : Room} {s : State} {m : MethodId} {args : Array Value} {below : List Frame} {meth : Method} {c : Code} {H : Heap} {locs : List Loc} {cells slots : Nat} {Q : State → Prop}
variable {cc : ByteArray} {nL pc : Nat} {own : String} {ls : Array Slot} {st0 rest : List Value} {b : Nat} {M0 M : Mem}
variable {y : MethodName} {bytes : ByteArray} {maxL index n d2 mc ms : Nat} {ret : Option FieldType} {As : List Value} {post2 : Option Value → Mem → Prop}
theorem r_after {a : Array Value} (hr : va_Run p l e R s m args below meth c H locs cells slots mc ms (F0 m pc ls st0) rest (Cq g M post2 a) (gA g)) (hw : Wd g s M0 M H locs)
    (kk : ∀ (r : Option Value) (M' : Mem) (H' : Heap) (locs' : List Loc), post2 r M' → mle M M' → Wd g s M0 M' H' locs' → W p l e R s m args below meth c H' locs' (cells + mc) (slots + ms) Q (F0 m (pc + 3) ls (r.toList ++ rest))) : W p l e R s m args below meth c H locs cells slots Q (F0 m pc ls st0) := by
  intro T hT X
  obtain ⟨v, st₀, t, T', L, h0, X', hL, e1, e2, ⟨⟨r, M', hv, hp, hle, hP', hz'⟩, hz, hk⟩, st⟩ := hr T hT X
  cases hv
  rw [h0] at hz hk
  have hS := hw.2.2.2
  obtain ⟨t2, a1, b1⟩ := kk v M' T'.heap (locs ++ L) hp hle ⟨by rw [e1]; exact hP', by rw [e1]; exact hz', mle_tr hw.2.2.1 hle, ⟨Nat.le_trans hS.1 (by rw [e1]; exact hz), fun q h1 h2 => by rw [e1, hk q (Nat.lt_of_lt_of_le h1 hS.1) h2]; exact hS.2.1 q h1 h2, fun q hq => by
      rcases List.mem_append.mp hq with h | h
      · exact hS.2.2 q h
      · exact hL q h⟩⟩ T' rfl X'
  exact ⟨t2, st t2 a1, b1⟩
theorem r_callV {cn : String} {T : u_T} {N ci : Nat} (C : Cx g p s m args c cc nL own) (hw : Wd g s M0 M H locs) (hM : Ct l g y bytes maxL ret d2 mc ms (.ref b :: As) M post2) (k : LkV own index cn y bytes maxL ret n) (hb : okc (gB g) M b ci) (h13 : ci < 13) (hc : vwCl[ci]? = some (cn, T, N))
    (hR : d2 + 1 ≤ R.frames ∧ 8 + (maxL + 11) + 64 * d2 ≤ R.locals) (hf : cells + mc ≤ R.cells ∧ slots + ms ≤ R.slots) (hn : As.length = n) (hsz : ls.size = nL) (hst : st0 = As.reverse ++ .ref b :: rest) (hW : (rest.map fun v => v.category).sum ≤ 8) (hd : decode cc pc = .ok (.invokevirtual index, 3))
    (kk : ∀ (r : Option Value) (M' : Mem) (H' : Heap) (locs' : List Loc), post2 r M' → mle M M' → Wd g s M0 M' H' locs' → W p l e R s m args below meth c H' locs' (cells + mc) (slots + ms) Q (F0 m (pc + 3) ls (r.toList ++ rest))) : W p l e R s m args below meth c H locs cells slots Q (F0 m pc ls st0) := by
  have hts := C.1.2.2.2.2
  obtain ⟨q, hq⟩ := mw_get (G := gG g) hb (by omega)
  rw [mce_at_o hb.2.2 h13] at hq
  exact r_after (va_runV (As := As) (rest := rest) C.1 hM ⟨callB_of n hts (goodC k.1) rfl rfl rfl (hts _ k.2.1) (hts _ k.2.2.1) k.2.2.2.1 hR, hts _ k.2.2.2.2.1, hts _ k.2.2.2.2.2⟩ ⟨Pr_blind, va_recv (q := (cn, T, N)) C.2.1 hw.1 hc hq, fun U hU hW => ⟨rfl, Pr_of C hw U hU hW⟩⟩ rfl hn hsz hst (lv_room hW) hd hf) hw kk
theorem r_callI (C : Cx g p s m args c cc nL own) (hw : Wd g s M0 M H locs) (hM : Ct l g y bytes maxL none d2 mc ms (.ref b :: As) M post2) (k : LkI own index y bytes maxL n)
    (hR : d2 + 1 ≤ R.frames ∧ 8 + (maxL + 11) + 64 * d2 ≤ R.locals) (hf : cells + mc ≤ R.cells ∧ slots + ms ≤ R.slots) (hn : As.length = n) (hsz : ls.size = nL) (hst : st0 = As.reverse ++ .ref b :: rest) (hW : (rest.map fun v => v.category).sum ≤ 8) (hd : decode cc pc = .ok (.invokespecial index, 3))
    (kk : ∀ (r : Option Value) (M' : Mem) (H' : Heap) (locs' : List Loc), post2 r M' → mle M M' → Wd g s M0 M' H' locs' → W p l e R s m args below meth c H' locs' (cells + mc) (slots + ms) Q (F0 m (pc + 3) ls (r.toList ++ rest))) : W p l e R s m args below meth c H locs cells slots Q (F0 m pc ls st0) := by
  have hts := C.1.2.2.2.2
  exact r_after (va_runI (As := As) (rest := rest) C.1 hM ⟨callB_of n hts (goodC k.1) rfl rfl rfl (hts _ k.2.1) (hts _ k.2.2.1) k.2.2.2.1 hR, k.2.2.2.2.2, hts _ k.2.2.2.2.1⟩ ⟨Pr_blind, fun U hU hW => ⟨rfl, Pr_of C hw U hU hW⟩⟩ rfl hn hsz hst (lv_room hW) hd hf) hw kk
theorem r_callIN {host : String} (C : Cx g p s m args c cc nL own) (hw : Wd g s M0 M H locs) (hM : Ct l g y bytes maxL none d2 mc ms (.ref b :: As) M post2) (k : LkIN own index y host bytes maxL n)
    (hR : d2 + 1 ≤ R.frames ∧ 8 + (maxL + 11) + 64 * d2 ≤ R.locals) (hf : cells + mc ≤ R.cells ∧ slots + ms ≤ R.slots) (hn : As.length = n) (hsz : ls.size = nL) (hst : st0 = As.reverse ++ .ref b :: rest) (hW : (rest.map fun v => v.category).sum ≤ 8) (hd : decode cc pc = .ok (.invokespecial index, 3))
    (kk : ∀ (r : Option Value) (M' : Mem) (H' : Heap) (locs' : List Loc), post2 r M' → mle M M' → Wd g s M0 M' H' locs' → W p l e R s m args below meth c H' locs' (cells + mc) (slots + ms) Q (F0 m (pc + 3) ls (r.toList ++ rest))) : W p l e R s m args below meth c H locs cells slots Q (F0 m pc ls st0) := by
  have hts := C.1.2.2.2.2
  exact r_after (va_runIN (As := As) (rest := rest) C.1 hM ⟨va_cnB n hts (goodC k.1) rfl rfl rfl (C.2.2.1 _ k.2.2.1) (hts _ k.2.1) k.2.2.2.1 hR, k.2.2.2.2.2, hts _ k.2.2.2.2.1⟩ ⟨Pr_blind, fun U hU hW => ⟨rfl, Pr_of C hw U hU hW⟩⟩ rfl hn hsz hst (lv_room hW) hd hf) hw kk
theorem r_callS (C : Cx g p s m args c cc nL own) (hw : Wd g s M0 M H locs) (hM : Ct l g y bytes maxL ret d2 mc ms As M post2) (k : LkS own index y bytes maxL ret n)
    (hR : d2 + 1 ≤ R.frames ∧ 8 + (maxL + 11) + 64 * d2 ≤ R.locals) (hf : cells + mc ≤ R.cells ∧ slots + ms ≤ R.slots) (hn : As.length = n) (hsz : ls.size = nL) (hst : st0 = As.reverse ++ rest) (hW : (rest.map fun v => v.category).sum ≤ 8) (hd : decode cc pc = .ok (.invokestatic index, 3))
    (kk : ∀ (r : Option Value) (M' : Mem) (H' : Heap) (locs' : List Loc), post2 r M' → mle M M' → Wd g s M0 M' H' locs' → W p l e R s m args below meth c H' locs' (cells + mc) (slots + ms) Q (F0 m (pc + 3) ls (r.toList ++ rest))) : W p l e R s m args below meth c H locs cells slots Q (F0 m pc ls st0) := by
  have hts := C.1.2.2.2.2
  exact r_after (va_runS (As := As) (rest := rest) C.1 hM ⟨callB_of n hts (goodC k.1) rfl rfl rfl (hts _ k.2.1) (hts _ k.2.2.1) k.2.2.2.1 hR, hts _ k.2.2.2.2⟩ ⟨Pr_blind, fun U hU hW => ⟨rfl, Pr_of C hw U hU hW⟩⟩ rfl hn hsz hst (lv_room hW) hd hf) hw kk
theorem r_callSN {host : String} (C : Cx g p s m args c cc nL own) (hw : Wd g s M0 M H locs) (hM : Ct l g y bytes maxL ret d2 mc ms As M post2) (k : LkSN own index y host bytes maxL ret n)
    (hR : d2 + 1 ≤ R.frames ∧ 8 + (maxL + 11) + 64 * d2 ≤ R.locals) (hf : cells + mc ≤ R.cells ∧ slots + ms ≤ R.slots) (hn : As.length = n) (hsz : ls.size = nL) (hst : st0 = As.reverse ++ rest) (hW : (rest.map fun v => v.category).sum ≤ 8) (hd : decode cc pc = .ok (.invokestatic index, 3))
    (kk : ∀ (r : Option Value) (M' : Mem) (H' : Heap) (locs' : List Loc), post2 r M' → mle M M' → Wd g s M0 M' H' locs' → W p l e R s m args below meth c H' locs' (cells + mc) (slots + ms) Q (F0 m (pc + 3) ls (r.toList ++ rest))) : W p l e R s m args below meth c H locs cells slots Q (F0 m pc ls st0) := by
  have hts := C.1.2.2.2.2
  exact r_after (va_runSN (As := As) (rest := rest) C.1 hM ⟨va_cnB n hts (goodC k.1) rfl rfl rfl (C.2.2.1 _ k.2.2.1) (hts _ k.2.1) k.2.2.2.1 hR, hts _ k.2.2.2.2, trivial⟩ ⟨Pr_blind, fun U hU hW => ⟨rfl, Pr_of C hw U hU hW⟩⟩ rfl hn hsz hst (lv_room hW) hd hf) hw kk
end RowsC
/-! posts by the type of the answer -/
def pI (P : Int32 → Mem → Prop) : Option Value → Mem → Prop := fun r M => ∃ v : Int32, r = some (.int v) ∧ P v M
def pV (P : Mem → Prop) : Option Value → Mem → Prop := fun r M => r = none ∧ P M
def pR (P : Option Nat → Mem → Prop) : Option Value → Mem → Prop := fun r M => ∃ v : Option Nat, r = some (va_rf v) ∧ P v M
theorem Ct.mono {l : Launch} {g : Gh} {y : MethodName} {cc : ByteArray} {maxL : Nat} {ret : Option FieldType} {d mc ms : Nat} {av : List Value} {M : Mem} {P P' : Option Value → Mem → Prop} (h : Ct l g y cc maxL ret d mc ms av M P) (hP : ∀ r M', P r M' → P' r M') : Ct l g y cc maxL ret d mc ms av M P' := by
  intro p e ha hc hk s m args below hf happ hp hK
  obtain ⟨k, o, h1, h2, h3, ⟨⟨r, M', a1, a2, a3⟩, a4⟩, h5⟩ := h p e ha hc hk s m args below hf happ hp hK
  exact ⟨k, o, h1, h2, h3, ⟨⟨r, M', a1, hP r M' a2, a3⟩, a4⟩, h5⟩
