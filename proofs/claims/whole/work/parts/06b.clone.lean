/-! CLONE of an array; arraycopy of longs -/
theorem Wd.pushE {g : Gh} {s : State} {M0 M M' : Mem} {H H1 : Heap} {locs : List Loc} (hw : Wd g s M0 M H locs) (hadr : adr M' (gB g) = adr M (gB g) ++ [mT M]) (hT : mT M' = mT M + 1) (hle : mle M M') (ho : ∀ b, b ≠ mT M → mce (gG g) M' b = mce (gG g) M b) (hat : va_at (gD g) vwCl (mT M, mce (gG g) M' (mT M)) H1) (z : H1.size = H.size + 1) (oq : ∀ x : Nat, x < H.size → H1[x]? = H[x]?) : Wd g s M0 M' H1 locs := by
  have hkept : va_P (gD g) vwCl (mw (gG g) M (gB g)) H1 := hw.1.kept fun k x hx => oq x.1 ((hw.1 k x hx).lt)
  have hnin : mT M ∉ adr M (gB g) := fun h => Nat.lt_irrefl _ (adr_mem.mp h).1
  have e2 : mw (gG g) M' (gB g) = mw (gG g) M (gB g) ++ [(mT M, mce (gG g) M' (mT M))] := by
    rw [mw, hadr, mw, va_pl_push (e := mce (gG g) M' (mT M)) hnin]
    refine va_pl_congr fun b => ?_
    by_cases hb : b = mT M
    · subst hb; rw [va_up_self]
    · rw [va_up_ne _ _ hb, ho b hb]
  refine ⟨?_, by rw [z, hw.2.1, hT], mle_tr hw.2.2.1 hle, ⟨Nat.le_trans hw.2.2.2.1 (by omega), fun x h1 h2 => (oq x (Nat.lt_of_lt_of_le h1 hw.2.2.2.1)).trans (hw.2.2.2.2.1 x h1 h2), hw.2.2.2.2.2⟩⟩
  rw [e2]
  exact hkept.app fun k x hx => by
    have hz : k < 1 := (List.getElem?_eq_some_iff.mp hx).1
    rw [show k = 0 by omega] at hx
    cases hx
    exact hat
theorem mce_wInw (G : Nat → ClassId) (M : Mem) (kd n : Nat) (f : Nat → Int32) (b : Nat) (hb : b ≠ mT M) : mce G (wI (nw M kd n) (mT M) f) b = mce G M b := by
  have hI : mI (wI (nw M kd n) (mT M) f) b = mI (nw M kd n) b := va_up_ne _ _ hb
  have hf : ∀ sh, fls (wI (nw M kd n) (mT M) f) b 0 sh = fls (nw M kd n) b 0 sh := fun sh => fls_congr (fun j t => by simp only [fvl, hI]; rfl) sh 0
  have e : mce G (wI (nw M kd n) (mT M) f) b = mce G (nw M kd n) b := by simp only [mce, hf, hI]; rfl
  rw [e, mce_nw _ _ _ _ _ hb]
theorem mce_wJnw (G : Nat → ClassId) (M : Mem) (kd n : Nat) (f : Nat → Int64) (b : Nat) (hb : b ≠ mT M) : mce G (wJ (nw M kd n) (mT M) f) b = mce G M b := by
  have hI : mJ (wJ (nw M kd n) (mT M) f) b = mJ (nw M kd n) b := va_up_ne _ _ hb
  have hf : ∀ sh, fls (wJ (nw M kd n) (mT M) f) b 0 sh = fls (nw M kd n) b 0 sh := fun sh => fls_congr (fun j t => by simp only [fvl, hI]; rfl) sh 0
  have e : mce G (wJ (nw M kd n) (mT M) f) b = mce G (nw M kd n) b := by simp only [mce, hf, hI]; rfl
  rw [e, mce_nw _ _ _ _ _ hb]
section RowsL
variable {g : Gh} {p : Program} {l : Launch} {e : Env} {R : Room} {s : State} {m : MethodId} {args : Array Value} {below : List Frame} {meth : Method} {c : Code} {H : Heap} {locs : List Loc} {cells slots : Nat} {Q : State → Prop}
variable {cc : ByteArray} {nL pc : Nat} {own ad : String} {ls : Array Slot} {rest : List Value} {a a0 : Nat} {M0 M Mx : Mem}
/-- the heap behind a clone -/
theorem r_clone0 {index : Nat} {cA : ClassId} {x : vp_A} {ty : FieldType} (C : Cx g p s m args c cc nL own) (hsz : ls.size = nL) (hA : ArrOfT s cA ty) (ha : H[a]? = some (vp_cell cA x)) (hlink : Cond.methodLink own index ⟨ad, "clone", "()Ljava/lang/Object;"⟩ ∈ TBL) (hsame : Cond.sameMethod ad "java/lang/Object" "clone" "()Ljava/lang/Object;" ∈ TBL) (hnat : Cond.native ⟨"java/lang/Object", "clone", "()Ljava/lang/Object;"⟩ ∈ TBL) (hinst : Cond.instanceMethod ⟨"java/lang/Object", "clone", "()Ljava/lang/Object;"⟩ ∈ TBL)
    (hsel : Cond.selects ad ⟨ad, "clone", "()Ljava/lang/Object;"⟩ ⟨"java/lang/Object", "clone", "()Ljava/lang/Object;"⟩ ∈ TBL) (hcl : Cond.castable ad "java/lang/Cloneable" ∈ NKl) (hnm : s.vm.findClass ad = some cA) (hfit : ∀ (i : Nat) (v : Value), (vp_cell cA x).slots[i]? = some v → fits ty v = true)
    (hframes : 1 ≤ R.frames) (hlocals : (rest.map fun v => v.category).sum + 14 ≤ R.locals) (hcells : cells + 1 ≤ R.cells) (hslots : slots + x.1 ≤ R.slots) (hd : decode cc pc = .ok (.invokevirtual index, 3))
    (kk : ∀ (H1 : Heap), H1.size = H.size + 1 → H1[H.size]? = some (vp_cell cA x) → (∀ q : Nat, q < H.size → H1[q]? = H[q]?) → W p l e R s m args below meth c H1 locs (cells + 1) (slots + x.1) Q (F0 m (pc + 3) ls (.ref H.size :: rest))) : W p l e R s m args below meth c H locs cells slots Q (F0 m pc ls (.ref a :: rest)) := by
  have hts := C.1.2.2.2.2
  have hszx : (vp_cell cA x).slots.size = x.1 := by
    obtain ⟨n, f | f | f | f | f⟩ := x <;> exact arrV_size _ _ _
  have hvm0 : (vp_cell cA x).vm = .none := by
    obtain ⟨n, f | f | f | f | f⟩ := x <;> rfl
  have hcl0 : (vp_cell cA x).cls = cA := by
    obtain ⟨n, f | f | f | f | f⟩ := x <;> rfl
  have hcellE : ({ cls := (vp_cell cA x).cls, slots := (vp_cell cA x).slots } : Cell) = vp_cell cA x := by
    obtain ⟨n, f | f | f | f | f⟩ := x <;> rfl
  obtain ⟨c0, t0', f1, f2, f3⟩ := Cond.castable_spec (va_Nw.use (A := args) rfl (C.2.2.1 _ hcl))
  cases hnm.symm.trans f1
  intro T hT X
  have hcellT : T.heap[a]? = some (vp_cell cA x) := by rw [hT]; exact ha
  obtain ⟨-, kA, hkA, comp, hkind⟩ := State.isArrayOf_alike X.warmed.alike (hA 0 (fun _ => .null))
  obtain ⟨-, kS, hkS, compS, hkindS⟩ := hA 0 (fun _ => .null)
  obtain ⟨vm', X', st⟩ := X.cloneArray C.1.1 C.1.2.2.2.1 (hts _ hlink) (hts _ hsame) (hts _ hnat) (hts _ hinst) (hts _ hsel) (a := a) (cell := vp_cell cA x) hcellT (fun k h => by rw [hvm0] at h; cases h) (by rw [hvm0]; exact fun h => by cases h) (by rw [hcl0]; exact hnm) f2 (by rw [hcl0]; exact f3)
    (fun i v hv => by
      rw [hcl0]
      have hk' : T.vm.classes[cA]? = some kA := hkA
      simpa [State.fitsSlot, State.slotType?, hk', hkind] using hfit i v hv)
    (g := F0 m pc ls (.ref a :: rest)) rfl (by rw [C.1.2.2.1]; exact hsz) rfl (by rw [C.1.2.1]; exact hd) hframes (by show 2 * 0 + _ + 14 ≤ _; omega) hcells (by rw [hszx]; exact hslots) (hloader := by rw [hcl0]; exact Vm.clonesLoader_of_array hkS hkindS)
  rw [hcellE, hszx] at X'
  generalize hH1 : H.push (vp_cell cA x) = H1
  obtain ⟨t, b1, b2⟩ := kk H1 (by rw [← hH1, Array.size_push]) (by rw [← hH1, Array.getElem?_push_size]) (fun q hq => by rw [← hH1, Array.getElem?_push, if_neg (Nat.ne_of_lt hq)])
    ((T.setVm vm').pushCell (vp_cell cA x)) (by rw [← hH1, ← hT]; rfl) X'
  refine ⟨t, st t ?_, b2⟩
  rw [hcellE, hT]
  exact b1
theorem r_cloneB {index : Nat} (C : Cx g p s m args c cc nL own) (hw : Wd g s M0 M H locs) (hsz : ls.size = nL) (ha : okc (gB g) M a 13) (hlink : Cond.methodLink own index ⟨"[B", "clone", "()Ljava/lang/Object;"⟩ ∈ TBL) (hsame : Cond.sameMethod "[B" "java/lang/Object" "clone" "()Ljava/lang/Object;" ∈ TBL) (hnat : Cond.native ⟨"java/lang/Object", "clone", "()Ljava/lang/Object;"⟩ ∈ TBL) (hinst : Cond.instanceMethod ⟨"java/lang/Object", "clone", "()Ljava/lang/Object;"⟩ ∈ TBL)
    (hsel : Cond.selects "[B" ⟨"[B", "clone", "()Ljava/lang/Object;"⟩ ⟨"java/lang/Object", "clone", "()Ljava/lang/Object;"⟩ ∈ TBL) (hcl : Cond.castable "[B" "java/lang/Cloneable" ∈ NKl) (hfit : ∀ i, i < mN M a → fits .byte (.int (mI M a i)) = true)
    (hframes : 1 ≤ R.frames) (hlocals : (rest.map fun v => v.category).sum + 14 ≤ R.locals) (hcells : cells + 1 ≤ R.cells) (hslots : slots + mN M a ≤ R.slots) (hd : decode cc pc = .ok (.invokevirtual index, 3))
    (kk : ∀ (H1 : Heap), Wd g s M0 (wI (nw M 13 (mN M a)) (mT M) (mI M a)) H1 locs → W p l e R s m args below meth c H1 locs (cells + 1) (slots + mN M a) Q (F0 m (pc + 3) ls (.ref (mT M) :: rest))) : W p l e R s m args below meth c H locs cells slots Q (F0 m pc ls (.ref a :: rest)) := by
  obtain ⟨q, hq⟩ := mw_get (G := gG g) ha (by omega)
  rw [mce_at_i ha.2.2 (by omega) (by omega) (by omega)] at hq
  have hc0 : H[a]? = some (vp_cell (gG g 13) (mN M a, .inl (mI M a))) := hw.1 q _ hq
  refine r_clone0 (x := (mN M a, .inl (mI M a))) C hsz (C.2.1.2 0 _ rfl).1 hc0 hlink hsame hnat hinst hsel hcl (C.2.1.2 0 _ rfl).2 (fun i v hv => ?_) hframes hlocals hcells hslots hd (fun H1 z e1 o1 => ?_)
  · have hv : (arrV (gG g 13) (mN M a) (fun j => .int (mI M a j))).slots[i]? = some v := hv
    have hi : i < mN M a := by
      have := (Array.getElem?_eq_some_iff.mp hv).1
      rwa [arrV_size] at this
    rw [arrV_read _ _ hi] at hv
    cases hv
    exact hfit i hi
  · rw [hw.2.1]
    have hB := hw.B C.2.2.2.2.2
    refine kk H1 (hw.pushE (adr_nw M (gB g) 13 (mN M a) hB (by omega)) rfl (mle_nw M 13 (mN M a)) (fun b hb => mce_wInw _ _ _ _ _ _ hb) ?_ z o1)
    have eK : mK (wI (nw M 13 (mN M a)) (mT M) (mI M a)) (mT M) = 13 := va_up_self _ _ _
    have eN : mN (wI (nw M 13 (mN M a)) (mT M) (mI M a)) (mT M) = mN M a := va_up_self _ _ _
    have eI : mI (wI (nw M 13 (mN M a)) (mT M) (mI M a)) (mT M) = mI M a := va_up_self _ _ _
    rw [mce_at_i eK (by omega) (by omega) (by omega), eN, eI]
    show H1[mT M]? = some (vp_cell _ _)
    rw [← hw.2.1]; exact e1
theorem r_cloneJ {index : Nat} (C : Cx g p s m args c cc nL own) (hw : Wd g s M0 M H locs) (hsz : ls.size = nL) (ha : okc (gB g) M a 15) (hlink : Cond.methodLink own index ⟨"[J", "clone", "()Ljava/lang/Object;"⟩ ∈ TBL) (hsame : Cond.sameMethod "[J" "java/lang/Object" "clone" "()Ljava/lang/Object;" ∈ TBL) (hnat : Cond.native ⟨"java/lang/Object", "clone", "()Ljava/lang/Object;"⟩ ∈ TBL) (hinst : Cond.instanceMethod ⟨"java/lang/Object", "clone", "()Ljava/lang/Object;"⟩ ∈ TBL)
    (hsel : Cond.selects "[J" ⟨"[J", "clone", "()Ljava/lang/Object;"⟩ ⟨"java/lang/Object", "clone", "()Ljava/lang/Object;"⟩ ∈ TBL) (hcl : Cond.castable "[J" "java/lang/Cloneable" ∈ NKl)
    (hframes : 1 ≤ R.frames) (hlocals : (rest.map fun v => v.category).sum + 14 ≤ R.locals) (hcells : cells + 1 ≤ R.cells) (hslots : slots + mN M a ≤ R.slots) (hd : decode cc pc = .ok (.invokevirtual index, 3))
    (kk : ∀ (H1 : Heap), Wd g s M0 (wJ (nw M 15 (mN M a)) (mT M) (mJ M a)) H1 locs → W p l e R s m args below meth c H1 locs (cells + 1) (slots + mN M a) Q (F0 m (pc + 3) ls (.ref (mT M) :: rest))) : W p l e R s m args below meth c H locs cells slots Q (F0 m pc ls (.ref a :: rest)) := by
  obtain ⟨q, hq⟩ := mw_get (G := gG g) ha (by omega)
  rw [mce_at_j ha.2.2] at hq
  have hc0 : H[a]? = some (vp_cell (gG g 15) (mN M a, .inr (.inl (mJ M a)))) := hw.1 q _ hq
  refine r_clone0 (x := (mN M a, .inr (.inl (mJ M a)))) C hsz (C.2.1.2 2 _ rfl).1 hc0 hlink hsame hnat hinst hsel hcl (C.2.1.2 2 _ rfl).2 (fun i v hv => ?_) hframes hlocals hcells hslots hd (fun H1 z e1 o1 => ?_)
  · have hv : (arrV (gG g 15) (mN M a) (fun j => .long (mJ M a j))).slots[i]? = some v := hv
    have hi : i < mN M a := by
      have := (Array.getElem?_eq_some_iff.mp hv).1
      rwa [arrV_size] at this
    rw [arrV_read _ _ hi] at hv
    cases hv
    rfl
  · rw [hw.2.1]
    have hB := hw.B C.2.2.2.2.2
    refine kk H1 (hw.pushE (adr_nw M (gB g) 15 (mN M a) hB (by omega)) rfl (mle_nw M 15 (mN M a)) (fun b hb => mce_wJnw _ _ _ _ _ _ hb) ?_ z o1)
    have eK : mK (wJ (nw M 15 (mN M a)) (mT M) (mJ M a)) (mT M) = 15 := va_up_self _ _ _
    have eN : mN (wJ (nw M 15 (mN M a)) (mT M) (mJ M a)) (mT M) = mN M a := va_up_self _ _ _
    have eJ : mJ (wJ (nw M 15 (mN M a)) (mT M) (mJ M a)) (mT M) = mJ M a := va_up_self _ _ _
    rw [mce_at_j eK, eN, eJ]
    show H1[mT M]? = some (vp_cell _ _)
    rw [← hw.2.1]; exact e1
theorem r_copyl {index : Nat} {sp dp n : Int32} (C : Cx g p s m args c cc nL own) (hw : Wd g s M0 M H locs) (hsz : ls.size = nL) (h0 : okc (gB g) M a0 15) (h1 : okc (gB g) M a 15)
    (hlink : Cond.methodLink own index arraycopyName ∈ TBL) (hnat : Cond.native arraycopyName ∈ TBL) (hstat : Cond.static arraycopyName ∈ TBL) (hini : Cond.initialized "java/lang/System" ∈ TBL)
    (hsp : ¬ sp < 0) (hdp : ¬ dp < 0) (hn : ¬ n < 0) (h4 : sp.toNatClampNeg + n.toNatClampNeg ≤ mN M a0) (h5 : dp.toNatClampNeg + n.toNatClampNeg ≤ mN M a)
    (hframes : 1 ≤ R.frames) (hlocals : (rest.map fun v => v.category).sum + (nativeFrameWords "java/lang/System" "arraycopy" 5 + 11) ≤ R.locals) (hd : decode cc pc = .ok (.invokestatic index, 3))
    (kk : ∀ (H1 : Heap) (locs1 : List Loc), Wd g s M0 (wJ M a (va_cpy (mJ M a0) (mJ M a) sp.toNatClampNeg dp.toNatClampNeg n.toNatClampNeg)) H1 locs1 → W p l e R s m args below meth c H1 locs1 cells slots Q (F0 m (pc + 3) ls rest)) : W p l e R s m args below meth c H locs cells slots Q (F0 m pc ls (.int n :: .int dp :: .ref a :: .int sp :: .ref a0 :: rest)) := by
  obtain ⟨q0, hq0⟩ := mw_get (G := gG g) h0 (by omega)
  obtain ⟨q1, hq1⟩ := mw_get (G := gG g) h1 (by omega)
  have hq1' := hq1
  rw [mce_at_j h0.2.2] at hq0
  rw [mce_at_j h1.2.2] at hq1
  have hts := C.1.2.2.2.2
  intro T hT X
  have hc0 : H[a0]? = some (vp_cell (gG g 15) (mN M a0, .inr (.inl (mJ M a0)))) := hw.1 q0 _ hq0
  have hc1 : H[a]? = some (vp_cell (gG g 15) (mN M a, .inr (.inl (mJ M a)))) := hw.1 q1 _ hq1
  obtain ⟨-, k0, hk0, cm0, hkk0⟩ := (C.2.1.2 2 _ rfl).1 (mN M a0) (fun j => .long (mJ M a0 j))
  obtain ⟨-, k1, hk1, cm1, hkk1⟩ := (C.2.1.2 2 _ rfl).1 (mN M a) (fun j => .long (mJ M a j))
  obtain ⟨vm', X', step⟩ := X.arraycopy C.1.1 C.1.2.2.2.1 (hts _ hlink) (hts _ hnat) (hts _ hstat) (hts _ hini) (src := a0) (dst := a) (cs := vp_cell (gG g 15) (mN M a0, .inr (.inl (mJ M a0)))) (cd := vp_cell (gG g 15) (mN M a, .inr (.inl (mJ M a)))) (srcPos := sp) (destPos := dp) (n := n) (by rw [hT]; exact hc0) (by rw [hT]; exact hc1)
    (fun _ h => by cases h) (fun _ h => by cases h) (fun h => by cases h) (fun h => by cases h) hk0 hk1 hkk0 hkk1 (by simp [refKind]) hsp hdp hn
    (by rw [nn_i sp hsp, nn_i n hn]; show ¬ _ > ((arrV (gG g 15) (mN M a0) (fun j => .long (mJ M a0 j))).slots.size : Int); rw [arrV_size]; omega)
    (by rw [nn_i dp hdp, nn_i n hn]; show ¬ _ > ((arrV (gG g 15) (mN M a) (fun j => .long (mJ M a j))).slots.size : Int); rw [arrV_size]; omega)
    (fun vm₁ _ i hi => by
      have e : (vp_cell (gG g 15) (mN M a0, .inr (.inl (mJ M a0)))).slots.getD (sp.toNatClampNeg + i) .null = .long (mJ M a0 (sp.toNatClampNeg + i)) := by
        show (arrV (gG g 15) (mN M a0) (fun j => .long (mJ M a0 j))).slots.getD _ _ = _
        rw [Array.getD_eq_getD_getElem?, arrV_read _ _ (by omega)]
        rfl
      exact ⟨by rw [e]; rfl, by rw [e]; exact trivial⟩)
    (g := F0 m pc ls (.int n :: .int dp :: .ref a :: .int sp :: .ref a0 :: rest)) rfl (by rw [C.1.2.2.1]; exact hsz) (rest := rest) rfl (by rw [C.1.2.1]; exact hd) hframes (by show 2 * 0 + _ + _ ≤ _; omega)
  have e1 : copied (vp_cell (gG g 15) (mN M a0, .inr (.inl (mJ M a0)))) (vp_cell (gG g 15) (mN M a, .inr (.inl (mJ M a)))) sp dp n = vp_cell (gG g 15) (mN M a, .inr (.inl (va_cpy (mJ M a0) (mJ M a) sp.toNatClampNeg dp.toNatClampNeg n.toNatClampNeg))) := va_copied (fun z => .long z) (gG g 15) (gG g 15) (mJ M a0) (mJ M a) h4
  rw [e1] at X' step
  have hl : a < H.size := (Array.getElem?_eq_some_iff.mp hc1).1
  generalize hcl : vp_cell (gG g 15) (mN M a, .inr (.inl (va_cpy (mJ M a0) (mJ M a) sp.toNatClampNeg dp.toNatClampNeg n.toNatClampNeg))) = cl at X' step
  have hheap : ((T.setVm vm').setCell a cl).heap = H.setIfInBounds a cl := by rw [← hT]; rfl
  obtain ⟨t, a1, b1⟩ := kk (H.setIfInBounds a cl) _ (hw.storeL h1 (by omega) hq1' (e' := .inl (gG g 15, mN M a, .inr (.inl (va_cpy (mJ M a0) (mJ M a) sp.toNatClampNeg dp.toNatClampNeg n.toNatClampNeg)))) (by show (H.setIfInBounds a cl)[a]? = some (vp_cell _ _); rw [hcl]; simp [Array.getElem?_setIfInBounds, hl]) (by simp) (fun x hx => by simp [Array.getElem?_setIfInBounds, Ne.symm hx]) (fun x hx => by
      obtain ⟨z, -, hz⟩ := List.mem_map.mp hx
      rw [← hz]) rfl rfl ⟨Nat.le_refl _, fun _ _ => ⟨rfl, rfl⟩⟩ (mce_wJ_a (gG g) M a _ h1.2.2)) _ hheap X'
  exact ⟨t, step t a1, b1⟩
theorem q_copyl {index : Nat} {sp dp n : Int32} (C : Cx g p s m args c cc nL own) (hw : Wd g s M0 M H locs) (hsz : ls.size = nL) (hx : mle Mx M) (h0 : okc (gB g) Mx a0 15) (h1 : okc (gB g) Mx a 15)
    (hlink : Cond.methodLink own index arraycopyName ∈ TBL) (hnat : Cond.native arraycopyName ∈ TBL) (hstat : Cond.static arraycopyName ∈ TBL) (hini : Cond.initialized "java/lang/System" ∈ TBL)
    (hsp : ¬ sp < 0) (hdp : ¬ dp < 0) (hn : ¬ n < 0) (h4 : sp.toNatClampNeg + n.toNatClampNeg ≤ mN Mx a0) (h5 : dp.toNatClampNeg + n.toNatClampNeg ≤ mN Mx a)
    (hframes : 1 ≤ R.frames) (hlocals : (rest.map fun v => v.category).sum + (nativeFrameWords "java/lang/System" "arraycopy" 5 + 11) ≤ R.locals) (hd : decode cc pc = .ok (.invokestatic index, 3))
    (kk : ∀ (H1 : Heap) (locs1 : List Loc), Wd g s M0 (wJ M a (va_cpy (mJ M a0) (mJ M a) sp.toNatClampNeg dp.toNatClampNeg n.toNatClampNeg)) H1 locs1 → W p l e R s m args below meth c H1 locs1 cells slots Q (F0 m (pc + 3) ls rest)) : W p l e R s m args below meth c H locs cells slots Q (F0 m pc ls (.int n :: .int dp :: .ref a :: .int sp :: .ref a0 :: rest)) :=
  r_copyl C hw hsz (h0.up hx) (h1.up hx) hlink hnat hstat hini hsp hdp hn (by rw [(hx.2 a0 h0.2.1).2]; exact h4) (by rw [(hx.2 a h1.2.1).2]; exact h5) hframes hlocals hd kk
theorem r_castB {index : Nat} (C : Cx g p s m args c cc nL own) (hw : Wd g s M0 M H locs) (ha : okc (gB g) M a 13) (hlink : Cond.classLink own index "[B" ∈ TBL) (hd : decode cc pc = .ok (.checkcast index, 3)) (kk : W p l e R s m args below meth c H locs cells slots Q (F0 m (pc + 3) ls (.ref a :: rest))) : W p l e R s m args below meth c H locs cells slots Q (F0 m pc ls (.ref a :: rest)) := by
  obtain ⟨q, hq⟩ := mw_get (G := gG g) ha (by omega)
  rw [mce_at_i ha.2.2 (by omega) (by omega) (by omega)] at hq
  exact va_castA C.1.1 C.1.2.1 C.1.2.2.2.1 (C.1.2.2.2.2 _ hlink) hw.1 q hq (C.2.1.2 0 _ rfl).2 hd kk
theorem r_castJ {index : Nat} (C : Cx g p s m args c cc nL own) (hw : Wd g s M0 M H locs) (ha : okc (gB g) M a 15) (hlink : Cond.classLink own index "[J" ∈ TBL) (hd : decode cc pc = .ok (.checkcast index, 3)) (kk : W p l e R s m args below meth c H locs cells slots Q (F0 m (pc + 3) ls (.ref a :: rest))) : W p l e R s m args below meth c H locs cells slots Q (F0 m pc ls (.ref a :: rest)) := by
  obtain ⟨q, hq⟩ := mw_get (G := gG g) ha (by omega)
  rw [mce_at_j ha.2.2] at hq
  exact va_castA C.1.1 C.1.2.1 C.1.2.2.2.1 (C.1.2.2.2.2 _ hlink) hw.1 q hq (C.2.1.2 2 _ rfl).2 hd kk
end RowsL
