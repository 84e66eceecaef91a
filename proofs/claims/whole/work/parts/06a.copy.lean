/-! ARRAYCOPY, CLONE: whole rows of an array -/
def wI (M : Mem) (a : Nat) (f : Nat → Int32) : Mem := (va_up M.1 a f, M.2)
def wJ (M : Mem) (a : Nat) (f : Nat → Int64) : Mem := (M.1, va_up M.2.1 a f, M.2.2)
theorem mR_wI (M : Mem) (a : Nat) (f : Nat → Int32) : mR (wI M a f) = mR M := rfl
theorem mR_wJ (M : Mem) (a : Nat) (f : Nat → Int64) : mR (wJ M a f) = mR M := rfl
theorem okc_wI {B : Nat} {M : Mem} {a : Nat} {f : Nat → Int32} {b c : Nat} (h : okc B M b c) : okc B (wI M a f) b c := h
theorem okc_wJ {B : Nat} {M : Mem} {a : Nat} {f : Nat → Int64} {b c : Nat} (h : okc B M b c) : okc B (wJ M a f) b c := h
theorem mce_wI_a (G : Nat → ClassId) (M : Mem) (a : Nat) (f : Nat → Int32) {kd : Nat} (hk : mK M a = kd) (h1 : 13 ≤ kd) (h2 : kd < 18) (h3 : kd ≠ 15) (b : Nat) : va_up (mce G M) a (.inl (G kd, mN M a, .inl f)) b = mce G (wI M a f) b := by
  by_cases hb : b = a
  · subst hb
    have e : mK (wI M b f) b = kd := hk
    rw [va_up_self, mce_at_i e h1 h2 h3]
    have e2 : mI (wI M b f) b = f := va_up_self _ _ _
    rw [e2]; rfl
  · rw [va_up_ne _ _ hb]
    have hI : mI (wI M a f) b = mI M b := va_up_ne _ _ hb
    have hf : ∀ sh, fls (wI M a f) b 0 sh = fls M b 0 sh := fun sh => fls_congr (fun j t => by simp only [fvl, hI]; rfl) sh 0
    simp only [mce, hf, hI]; rfl
theorem mce_wJ_a (G : Nat → ClassId) (M : Mem) (a : Nat) (f : Nat → Int64) (hk : mK M a = 15) (b : Nat) : va_up (mce G M) a (.inl (G 15, mN M a, .inr (.inl f))) b = mce G (wJ M a f) b := by
  by_cases hb : b = a
  · subst hb
    have e : mK (wJ M b f) b = 15 := hk
    rw [va_up_self, mce_at_j e]
    have e2 : mJ (wJ M b f) b = f := va_up_self _ _ _
    rw [e2]; rfl
  · rw [va_up_ne _ _ hb]
    have hI : mJ (wJ M a f) b = mJ M b := va_up_ne _ _ hb
    have hf : ∀ sh, fls (wJ M a f) b 0 sh = fls M b 0 sh := fun sh => fls_congr (fun j t => by simp only [fvl, hI]; rfl) sh 0
    simp only [mce, hf, hI]; rfl
theorem Wd.storeL {g : Gh} {s : State} {M0 M M' : Mem} {H H1 : Heap} {locs L : List Loc} {a kd q : Nat} {e' : va_E} (hw : Wd g s M0 M H locs) (ha : okc (gB g) M a kd) (hk : kd ≠ 21) (hq : (mw (gG g) M (gB g))[q]? = some (a, mce (gG g) M a)) (hat : va_at (gD g) vwCl (a, e') H1) (z : H1.size = H.size) (oq : ∀ x : Nat, x ≠ a → H1[x]? = H[x]?) (hL : ∀ x ∈ L, x.base = a)
    (hadr : adr M' (gB g) = adr M (gB g)) (hT : mT M' = mT M) (hle : mle M M') (he : ∀ b, va_up (mce (gG g) M) a e' b = mce (gG g) M' b) : Wd g s M0 M' H1 (locs ++ L) := by
  have hS := hw.2.2.2
  refine ⟨by rw [← mw_set ha hk hq hadr he]; exact hw.1.set (mw_D (gG g) M (gB g)) hq hat oq, z.trans (hw.2.1.trans hT.symm), mle_tr hw.2.2.1 hle, ⟨by rw [z]; exact hS.1, fun x h1 h2 => ?_, fun x hx => ?_⟩⟩
  · rw [oq x (fun e => h2 (by rw [e]; exact ha.1))]
    exact hS.2.1 x h1 h2
  · rcases List.mem_append.mp hx with h | h
    · exact hS.2.2 x h
    · show gB g ≤ x.base
      rw [hL x h]; exact ha.1
theorem nn_i (z : Int32) (hz : ¬ z < 0) : z.toInt = (z.toNatClampNeg : Int) := by
  have hz0 : (0 : Int) ≤ z.toInt := by
    have := Int32.not_lt.mp hz
    simpa using Int32.le_iff_toInt_le.mp this
  show z.toInt = ((z.toInt.toNat : Nat) : Int)
  omega
section RowsK
variable {g : Gh} {p : Program} {l : Launch} {e : Env} {R : Room} {s : State} {m : MethodId} {args : Array Value} {below : List Frame} {meth : Method} {c : Code} {H : Heap} {locs : List Loc} {cells slots : Nat} {Q : State → Prop}
variable {cc : ByteArray} {nL pc : Nat} {own : String} {ls : Array Slot} {rest : List Value} {a a0 : Nat} {M0 M Mx : Mem}
theorem r_copyi {index kd : Nat} {ty : FieldType} {sp dp n : Int32} (C : Cx g p s m args c cc nL own) (hw : Wd g s M0 M H locs) (hsz : ls.size = nL) (h0 : okc (gB g) M a0 kd) (h1 : okc (gB g) M a kd) (h13 : 13 ≤ kd) (h18 : kd < 18) (h15 : kd ≠ 15) (hty : (tysG (gG g))[kd - 13]? = some (gG g kd, ty)) (hprim : refKind ty = false)
    (hlink : Cond.methodLink own index arraycopyName ∈ TBL) (hnat : Cond.native arraycopyName ∈ TBL) (hstat : Cond.static arraycopyName ∈ TBL) (hini : Cond.initialized "java/lang/System" ∈ TBL)
    (hsp : ¬ sp < 0) (hdp : ¬ dp < 0) (hn : ¬ n < 0) (h4 : sp.toNatClampNeg + n.toNatClampNeg ≤ mN M a0) (h5 : dp.toNatClampNeg + n.toNatClampNeg ≤ mN M a) (hfit : ∀ i, i < n.toNatClampNeg → fits ty (.int (mI M a0 (sp.toNatClampNeg + i))) = true)
    (hframes : 1 ≤ R.frames) (hlocals : (rest.map fun v => v.category).sum + (nativeFrameWords "java/lang/System" "arraycopy" 5 + 11) ≤ R.locals) (hd : decode cc pc = .ok (.invokestatic index, 3))
    (kk : ∀ (H1 : Heap) (locs1 : List Loc), Wd g s M0 (wI M a (va_cpy (mI M a0) (mI M a) sp.toNatClampNeg dp.toNatClampNeg n.toNatClampNeg)) H1 locs1 → W p l e R s m args below meth c H1 locs1 cells slots Q (F0 m (pc + 3) ls rest)) : W p l e R s m args below meth c H locs cells slots Q (F0 m pc ls (.int n :: .int dp :: .ref a :: .int sp :: .ref a0 :: rest)) := by
  obtain ⟨q0, hq0⟩ := mw_get (G := gG g) h0 (by omega)
  obtain ⟨q1, hq1⟩ := mw_get (G := gG g) h1 (by omega)
  have hq1' := hq1
  rw [mce_at_i h0.2.2 h13 h18 h15] at hq0
  rw [mce_at_i h1.2.2 h13 h18 h15] at hq1
  have hts := C.1.2.2.2.2
  intro T hT X
  have hc0 : H[a0]? = some (vp_cell (gG g kd) (mN M a0, .inl (mI M a0))) := hw.1 q0 _ hq0
  have hc1 : H[a]? = some (vp_cell (gG g kd) (mN M a, .inl (mI M a))) := hw.1 q1 _ hq1
  obtain ⟨-, k0, hk0, cm0, hkk0⟩ := (C.2.1.2 (kd - 13) _ hty).1 (mN M a0) (fun j => .int (mI M a0 j))
  obtain ⟨-, k1, hk1, cm1, hkk1⟩ := (C.2.1.2 (kd - 13) _ hty).1 (mN M a) (fun j => .int (mI M a j))
  obtain ⟨vm', X', step⟩ := X.arraycopy C.1.1 C.1.2.2.2.1 (hts _ hlink) (hts _ hnat) (hts _ hstat) (hts _ hini) (src := a0) (dst := a) (cs := vp_cell (gG g kd) (mN M a0, .inl (mI M a0))) (cd := vp_cell (gG g kd) (mN M a, .inl (mI M a))) (srcPos := sp) (destPos := dp) (n := n) (by rw [hT]; exact hc0) (by rw [hT]; exact hc1)
    (fun _ h => by cases h) (fun _ h => by cases h) (fun h => by cases h) (fun h => by cases h) hk0 hk1 hkk0 hkk1 (by simp [hprim]) hsp hdp hn
    (by rw [nn_i sp hsp, nn_i n hn]; show ¬ _ > ((arrV (gG g kd) (mN M a0) (fun j => .int (mI M a0 j))).slots.size : Int); rw [arrV_size]; omega)
    (by rw [nn_i dp hdp, nn_i n hn]; show ¬ _ > ((arrV (gG g kd) (mN M a) (fun j => .int (mI M a j))).slots.size : Int); rw [arrV_size]; omega)
    (fun vm₁ _ i hi => by
      have e : (vp_cell (gG g kd) (mN M a0, .inl (mI M a0))).slots.getD (sp.toNatClampNeg + i) .null = .int (mI M a0 (sp.toNatClampNeg + i)) := by
        show (arrV (gG g kd) (mN M a0) (fun j => .int (mI M a0 j))).slots.getD _ _ = _
        rw [Array.getD_eq_getD_getElem?, arrV_read _ _ (by omega)]
        rfl
      exact ⟨by rw [e]; exact hfit i hi, by rw [e]; exact trivial⟩)
    (g := F0 m pc ls (.int n :: .int dp :: .ref a :: .int sp :: .ref a0 :: rest)) rfl (by rw [C.1.2.2.1]; exact hsz) (rest := rest) rfl (by rw [C.1.2.1]; exact hd) hframes (by show 2 * 0 + _ + _ ≤ _; omega)
  have e1 : copied (vp_cell (gG g kd) (mN M a0, .inl (mI M a0))) (vp_cell (gG g kd) (mN M a, .inl (mI M a))) sp dp n = vp_cell (gG g kd) (mN M a, .inl (va_cpy (mI M a0) (mI M a) sp.toNatClampNeg dp.toNatClampNeg n.toNatClampNeg)) := va_copied (fun z => .int z) (gG g kd) (gG g kd) (mI M a0) (mI M a) h4
  rw [e1] at X' step
  have hl : a < H.size := (Array.getElem?_eq_some_iff.mp hc1).1
  generalize hcl : vp_cell (gG g kd) (mN M a, .inl (va_cpy (mI M a0) (mI M a) sp.toNatClampNeg dp.toNatClampNeg n.toNatClampNeg)) = cl at X' step
  have hheap : ((T.setVm vm').setCell a cl).heap = H.setIfInBounds a cl := by rw [← hT]; rfl
  obtain ⟨t, a1, b1⟩ := kk (H.setIfInBounds a cl) _ (hw.storeL h1 (by omega) hq1' (e' := .inl (gG g kd, mN M a, .inl (va_cpy (mI M a0) (mI M a) sp.toNatClampNeg dp.toNatClampNeg n.toNatClampNeg))) (by show (H.setIfInBounds a cl)[a]? = some (vp_cell _ _); rw [hcl]; simp [Array.getElem?_setIfInBounds, hl]) (by simp) (fun x hx => by simp [Array.getElem?_setIfInBounds, Ne.symm hx]) (fun x hx => by
      obtain ⟨z, -, hz⟩ := List.mem_map.mp hx
      rw [← hz]) rfl rfl ⟨Nat.le_refl _, fun _ _ => ⟨rfl, rfl⟩⟩ (mce_wI_a (gG g) M a _ h1.2.2 h13 h18 h15)) _ hheap X'
  exact ⟨t, step t a1, b1⟩
theorem q_copyi {index kd : Nat} {ty : FieldType} {sp dp n : Int32} (C : Cx g p s m args c cc nL own) (hw : Wd g s M0 M H locs) (hsz : ls.size = nL) (hx : mle Mx M) (h0 : okc (gB g) Mx a0 kd) (h1 : okc (gB g) Mx a kd) (h13 : 13 ≤ kd) (h18 : kd < 18) (h15 : kd ≠ 15) (hty : (tysG (gG g))[kd - 13]? = some (gG g kd, ty)) (hprim : refKind ty = false)
    (hlink : Cond.methodLink own index arraycopyName ∈ TBL) (hnat : Cond.native arraycopyName ∈ TBL) (hstat : Cond.static arraycopyName ∈ TBL) (hini : Cond.initialized "java/lang/System" ∈ TBL)
    (hsp : ¬ sp < 0) (hdp : ¬ dp < 0) (hn : ¬ n < 0) (h4 : sp.toNatClampNeg + n.toNatClampNeg ≤ mN Mx a0) (h5 : dp.toNatClampNeg + n.toNatClampNeg ≤ mN Mx a) (hfit : ∀ i, i < n.toNatClampNeg → fits ty (.int (mI M a0 (sp.toNatClampNeg + i))) = true)
    (hframes : 1 ≤ R.frames) (hlocals : (rest.map fun v => v.category).sum + (nativeFrameWords "java/lang/System" "arraycopy" 5 + 11) ≤ R.locals) (hd : decode cc pc = .ok (.invokestatic index, 3))
    (kk : ∀ (H1 : Heap) (locs1 : List Loc), Wd g s M0 (wI M a (va_cpy (mI M a0) (mI M a) sp.toNatClampNeg dp.toNatClampNeg n.toNatClampNeg)) H1 locs1 → W p l e R s m args below meth c H1 locs1 cells slots Q (F0 m (pc + 3) ls rest)) : W p l e R s m args below meth c H locs cells slots Q (F0 m pc ls (.int n :: .int dp :: .ref a :: .int sp :: .ref a0 :: rest)) :=
  r_copyi C hw hsz (h0.up hx) (h1.up hx) h13 h18 h15 hty hprim hlink hnat hstat hini hsp hdp hn (by rw [(hx.2 a0 h0.2.1).2]; exact h4) (by rw [(hx.2 a h1.2.1).2]; exact h5) hfit hframes hlocals hd kk
end RowsK
