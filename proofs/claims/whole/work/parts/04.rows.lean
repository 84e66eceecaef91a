/-! rows as the generator uses them -/
def lfp {σ : Type} (F : (σ → Prop) → σ → Prop) : Nat → σ → Prop
  | 0, _ => False
  | n + 1, x => F (lfp F n) x
theorem va_cat (v : Option Nat) : (va_rf v).category = 1 := by cases v <;> rfl
theorem Wd.B {g : Gh} {s : State} {M0 M : Mem} {H : Heap} {locs : List Loc} (hw : Wd g s M0 M H locs) (hB : gB g ≤ s.heap.size) : gB g ≤ mT M := by rw [← hw.2.1]; exact Nat.le_trans hB hw.2.2.2.1
theorem w_objInit : Cond.code objectInit ⟨#[0xb1]⟩ 1 none ∈ TBL := inT (by decide +kernel) (by decide +kernel)
section RowsD
variable {g : Gh} {p : Program} {l : Launch} {e : Env} {R : Room} {s : State} {m : MethodId} {args : Array Value} {below : List Frame} {meth : Method} {c : Code} {H : Heap} {locs : List Loc} {cells slots : Nat} {Q : State → Prop}
variable {cc : ByteArray} {nL pc : Nat} {own : String} {ls : Array Slot} {rest : List Value} {a : Nat} {M0 M Mx : Mem}
theorem q_in {i : Int32} {kd : Nat} (hx : mle Mx M) (ha : okc (gB g) Mx a kd) (h : vp_in i (mN Mx a)) : vp_in i (mN M a) := by rw [(hx.2 a ha.2.1).2]; exact h
theorem q_iald {i : Int32} (C : Cx g p s m args c cc nL own) (hw : Wd g s M0 M H locs) (hx : mle Mx M) (ha : okc (gB g) Mx a 14) (hin : vp_in i (mN Mx a)) (hd : decode cc pc = .ok (.iaload, 1)) (kk : W p l e R s m args below meth c H locs cells slots Q (F0 m (pc + 1) ls (.int (mI M a i.toNatClampNeg) :: rest))) : W p l e R s m args below meth c H locs cells slots Q (F0 m pc ls (.int i :: .ref a :: rest)) := r_iald C hw (ha.up hx) (q_in hx ha hin) hd kk
theorem q_bald {i : Int32} (C : Cx g p s m args c cc nL own) (hw : Wd g s M0 M H locs) (hx : mle Mx M) (ha : okc (gB g) Mx a 13) (hin : vp_in i (mN Mx a)) (hd : decode cc pc = .ok (.baload, 1)) (kk : W p l e R s m args below meth c H locs cells slots Q (F0 m (pc + 1) ls (.int (mI M a i.toNatClampNeg) :: rest))) : W p l e R s m args below meth c H locs cells slots Q (F0 m pc ls (.int i :: .ref a :: rest)) := r_bald C hw (ha.up hx) (q_in hx ha hin) hd kk
theorem q_zald {i : Int32} (C : Cx g p s m args c cc nL own) (hw : Wd g s M0 M H locs) (hx : mle Mx M) (ha : okc (gB g) Mx a 17) (hin : vp_in i (mN Mx a)) (hd : decode cc pc = .ok (.baload, 1)) (kk : W p l e R s m args below meth c H locs cells slots Q (F0 m (pc + 1) ls (.int (mI M a i.toNatClampNeg) :: rest))) : W p l e R s m args below meth c H locs cells slots Q (F0 m pc ls (.int i :: .ref a :: rest)) := r_zald C hw (ha.up hx) (q_in hx ha hin) hd kk
theorem q_sald {i : Int32} (C : Cx g p s m args c cc nL own) (hw : Wd g s M0 M H locs) (hx : mle Mx M) (ha : okc (gB g) Mx a 16) (hin : vp_in i (mN Mx a)) (hd : decode cc pc = .ok (.saload, 1)) (kk : W p l e R s m args below meth c H locs cells slots Q (F0 m (pc + 1) ls (.int (mI M a i.toNatClampNeg) :: rest))) : W p l e R s m args below meth c H locs cells slots Q (F0 m pc ls (.int i :: .ref a :: rest)) := r_sald C hw (ha.up hx) (q_in hx ha hin) hd kk
theorem q_lald {i : Int32} (C : Cx g p s m args c cc nL own) (hw : Wd g s M0 M H locs) (hx : mle Mx M) (ha : okc (gB g) Mx a 15) (hin : vp_in i (mN Mx a)) (hd : decode cc pc = .ok (.laload, 1)) (kk : W p l e R s m args below meth c H locs cells slots Q (F0 m (pc + 1) ls (.long (mJ M a i.toNatClampNeg) :: rest))) : W p l e R s m args below meth c H locs cells slots Q (F0 m pc ls (.int i :: .ref a :: rest)) := r_lald C hw (ha.up hx) (q_in hx ha hin) hd kk
theorem q_aald {i : Int32} {kd q : Nat} {E : String} (C : Cx g p s m args c cc nL own) (hw : Wd g s M0 M H locs) (hx : mle Mx M) (ha : okc (gB g) Mx a kd) (h18 : 18 ≤ kd) (h21 : kd ≠ 21) (hty : (tysG (gG g))[kd - 13]? = some (gG g kd, .object E)) (hin : vp_in i (mN Mx a)) (ea : mR M a i.toNatClampNeg = some q) (hd : decode cc pc = .ok (.aaload, 1)) (kk : W p l e R s m args below meth c H locs cells slots Q (F0 m (pc + 1) ls (.ref q :: rest))) : W p l e R s m args below meth c H locs cells slots Q (F0 m pc ls (.int i :: .ref a :: rest)) := r_aald C hw (ha.up hx) h18 h21 hty (q_in hx ha hin) hd (by rw [ea]; exact kk)
theorem q_alen {kd : Nat} {ty : FieldType} (C : Cx g p s m args c cc nL own) (hw : Wd g s M0 M H locs) (hx : mle Mx M) (ha : okc (gB g) Mx a kd) (h13 : 13 ≤ kd) (h21 : kd ≠ 21) (hty : (tysG (gG g))[kd - 13]? = some (gG g kd, ty)) (hd : decode cc pc = .ok (.arraylength, 1)) (kk : W p l e R s m args below meth c H locs cells slots Q (F0 m (pc + 1) ls (.int (nI (mN Mx a)) :: rest))) : W p l e R s m args below meth c H locs cells slots Q (F0 m pc ls (.ref a :: rest)) := r_alen C hw (ha.up hx) h13 h21 hty hd (by rw [(hx.2 a ha.2.1).2]; exact kk)
theorem q_iast {i x : Int32} (C : Cx g p s m args c cc nL own) (hw : Wd g s M0 M H locs) (hx : mle Mx M) (ha : okc (gB g) Mx a 14) (hin : vp_in i (mN Mx a)) (hd : decode cc pc = .ok (.iastore, 1)) (kk : ∀ (H1 : Heap) (locs1 : List Loc), Wd g s M0 (uI M a i.toNatClampNeg x) H1 locs1 → W p l e R s m args below meth c H1 locs1 cells slots Q (F0 m (pc + 1) ls rest)) : W p l e R s m args below meth c H locs cells slots Q (F0 m pc ls (.int x :: .int i :: .ref a :: rest)) := r_iast C hw (ha.up hx) (q_in hx ha hin) hd kk
theorem q_bast {i x : Int32} (C : Cx g p s m args c cc nL own) (hw : Wd g s M0 M H locs) (hx : mle Mx M) (ha : okc (gB g) Mx a 13) (hin : vp_in i (mN Mx a)) (hd : decode cc pc = .ok (.bastore, 1)) (kk : ∀ (H1 : Heap) (locs1 : List Loc), Wd g s M0 (uI M a i.toNatClampNeg (vp_nar .byte x)) H1 locs1 → W p l e R s m args below meth c H1 locs1 cells slots Q (F0 m (pc + 1) ls rest)) : W p l e R s m args below meth c H locs cells slots Q (F0 m pc ls (.int x :: .int i :: .ref a :: rest)) := r_bast C hw (ha.up hx) (q_in hx ha hin) hd kk
theorem q_zast {i x : Int32} (C : Cx g p s m args c cc nL own) (hw : Wd g s M0 M H locs) (hx : mle Mx M) (ha : okc (gB g) Mx a 17) (hin : vp_in i (mN Mx a)) (hd : decode cc pc = .ok (.bastore, 1)) (kk : ∀ (H1 : Heap) (locs1 : List Loc), Wd g s M0 (uI M a i.toNatClampNeg (vp_nar .boolean x)) H1 locs1 → W p l e R s m args below meth c H1 locs1 cells slots Q (F0 m (pc + 1) ls rest)) : W p l e R s m args below meth c H locs cells slots Q (F0 m pc ls (.int x :: .int i :: .ref a :: rest)) := r_zast C hw (ha.up hx) (q_in hx ha hin) hd kk
theorem q_sast {i x : Int32} (C : Cx g p s m args c cc nL own) (hw : Wd g s M0 M H locs) (hx : mle Mx M) (ha : okc (gB g) Mx a 16) (hin : vp_in i (mN Mx a)) (hd : decode cc pc = .ok (.sastore, 1)) (kk : ∀ (H1 : Heap) (locs1 : List Loc), Wd g s M0 (uI M a i.toNatClampNeg (vp_nar .short x)) H1 locs1 → W p l e R s m args below meth c H1 locs1 cells slots Q (F0 m (pc + 1) ls rest)) : W p l e R s m args below meth c H locs cells slots Q (F0 m pc ls (.int x :: .int i :: .ref a :: rest)) := r_sast C hw (ha.up hx) (q_in hx ha hin) hd kk
theorem q_last {i : Int32} {x : Int64} (C : Cx g p s m args c cc nL own) (hw : Wd g s M0 M H locs) (hx : mle Mx M) (ha : okc (gB g) Mx a 15) (hin : vp_in i (mN Mx a)) (hd : decode cc pc = .ok (.lastore, 1)) (kk : ∀ (H1 : Heap) (locs1 : List Loc), Wd g s M0 (uJ M a i.toNatClampNeg x) H1 locs1 → W p l e R s m args below meth c H1 locs1 cells slots Q (F0 m (pc + 1) ls rest)) : W p l e R s m args below meth c H locs cells slots Q (F0 m pc ls (.long x :: .int i :: .ref a :: rest)) := r_last C hw (ha.up hx) (q_in hx ha hin) hd kk
theorem q_aast {i : Int32} {kd ci v : Nat} {r : vw_C} (C : Cx g p s m args c cc nL own) (hw : Wd g s M0 M H locs) (hx : mle Mx M) (ha : okc (gB g) Mx a kd) (h18 : 18 ≤ kd) (h21 : kd ≠ 21) (hty : (tysG (gG g))[kd - 13]? = some (gG g kd, .object r.1)) (hv : okc (gB g) Mx v ci) (h13 : ci < 13) (hc : vwCl[ci]? = some r) (hin : vp_in i (mN Mx a)) (hd : decode cc pc = .ok (.aastore, 1)) (kk : ∀ (H1 : Heap) (locs1 : List Loc), Wd g s M0 (uR M a i.toNatClampNeg (some v)) H1 locs1 → W p l e R s m args below meth c H1 locs1 cells slots Q (F0 m (pc + 1) ls rest)) : W p l e R s m args below meth c H locs cells slots Q (F0 m pc ls (.ref v :: .int i :: .ref a :: rest)) := r_aast C hw (ha.up hx) h18 h21 hty (hv.up hx) h13 hc (q_in hx ha hin) hd kk
theorem r_aload_n {k : Fin 4} {i : Nat} {x : Option Nat} (hx : p.tables.exec = Jvm.exec) (hb : c.code = cc) (hd : decode cc pc = .ok (.aload_n k, 1)) (hi : (k : Nat) = i) (hl : ls[i]? = some (.val (va_rf x))) (kk : W p l e R s m args below meth c H locs cells slots Q (F0 m (pc + 1) ls (va_rf x :: rest))) : W p l e R s m args below meth c H locs cells slots Q (F0 m pc ls rest) := by
  cases x with
  | none => exact lv_aload_nN hx hb hd hi hl kk
  | some q => exact lv_aload_n hx hb hd hi hl kk
theorem r_aload {i : Nat} {x : Option Nat} (hx : p.tables.exec = Jvm.exec) (hb : c.code = cc) (hd : decode cc pc = .ok (.aload i, 2)) (hl : ls[i]? = some (.val (va_rf x))) (kk : W p l e R s m args below meth c H locs cells slots Q (F0 m (pc + 2) ls (va_rf x :: rest))) : W p l e R s m args below meth c H locs cells slots Q (F0 m pc ls rest) := by
  cases x with
  | none => exact lv_aloadN hx hb hd hl kk
  | some q => exact lv_aload hx hb hd hl kk
theorem r_astore_n {k : Fin 4} {i nL : Nat} {x : Option Nat} {lv lv' : List (Nat × Value)} (hx : p.tables.exec = Jvm.exec) (hb : c.code = cc) (hd : decode cc pc = .ok (.astore_n k, 1)) (hi : (k : Nat) = i) (h : lv_has ls nL lv) (hn : i < nL) (hl : (i, va_rf x) :: lv.filter (fun q => !(q.1 == i) && !(q.1 + 1 == i && q.2.category == 2)) = lv') (kk : ∀ ls' : Array Slot, lv_has ls' nL lv' → W p l e R s m args below meth c H locs cells slots Q (F0 m (pc + 1) ls' rest)) : W p l e R s m args below meth c H locs cells slots Q (F0 m pc ls (va_rf x :: rest)) := by
  cases x with
  | none => exact lv_astore_nN hx hb hd hi h hn hl kk
  | some q => exact lv_astore_n hx hb hd hi h hn hl kk
theorem r_astore {i nL : Nat} {x : Option Nat} {lv lv' : List (Nat × Value)} (hx : p.tables.exec = Jvm.exec) (hb : c.code = cc) (hd : decode cc pc = .ok (.astore i, 2)) (h : lv_has ls nL lv) (hn : i < nL) (hl : (i, va_rf x) :: lv.filter (fun q => !(q.1 == i) && !(q.1 + 1 == i && q.2.category == 2)) = lv') (kk : ∀ ls' : Array Slot, lv_has ls' nL lv' → W p l e R s m args below meth c H locs cells slots Q (F0 m (pc + 2) ls' rest)) : W p l e R s m args below meth c H locs cells slots Q (F0 m pc ls (va_rf x :: rest)) := by
  cases x with
  | none => exact lv_astoreN hx hb hd h hn hl kk
  | some q => exact lv_astore hx hb hd h hn hl kk
theorem r_table {dflt lo hi : Int} {offs : Array Int} {len : Nat} {x v : Int32} {off : Int} {tgt : Nat} (hx : p.tables.exec = Jvm.exec) (hb : c.code = cc) (hd : decode cc pc = .ok (.tableswitch dflt lo hi offs, len)) (hv : x = v) (h1 : ¬ v.toInt < lo) (h2 : ¬ hi < v.toInt) (ho : offs[(v.toInt - lo).toNat]? = some off) (ht : (pc : Int) + off = (tgt : Int)) (kk : W p l e R s m args below meth c H locs cells slots Q (F0 m tgt ls rest)) : W p l e R s m args below meth c H locs cells slots Q (F0 m pc ls (.int x :: rest)) := by
  subst hv
  exact lv_tableIn hx hb hd h1 h2 ho ht kk
theorem r_tableOut {dflt hi : Int} {offs : Array Int} {len k : Nat} {x : Int32} {tgt : Nat} (hx : p.tables.exec = Jvm.exec) (hb : c.code = cc) (hd : decode cc pc = .ok (.tableswitch dflt 0 hi offs, len)) (hk : hi = (k : Int) ∧ k < 1000) (hne : ∀ j : Nat, j ≤ k → ¬ x = nI j) (ht : (pc : Int) + dflt = (tgt : Int)) (kk : W p l e R s m args below meth c H locs cells slots Q (F0 m tgt ls rest)) : W p l e R s m args below meth c H locs cells slots Q (F0 m pc ls (.int x :: rest)) := by
  refine lv_tableOut hx hb hd ?_ ht kk
  rcases Int.lt_or_le x.toInt 0 with h | h
  · exact Or.inl h
  · rcases Int.lt_or_le hi x.toInt with h2 | h2
    · exact Or.inr h2
    · exfalso
      have e1 : x = nI x.toInt.toNat := by
        apply Int32.toInt_inj.mp
        rw [nI_toInt (by omega)]
        omega
      exact hne x.toInt.toNat (by omega) e1
theorem r_lookup {dflt : Int} {ps : Array (Int × Int)} {len : Nat} {x v : Int32} {off : Int} {tgt : Nat} (hx : p.tables.exec = Jvm.exec) (hb : c.code = cc) (hd : decode cc pc = .ok (.lookupswitch dflt ps, len)) (hp : (ps.toList.zip (ps.toList.drop 1)).all (fun (a, next) => a.1 < next.1) = true) (hv : x = v) (ho : Op.lookupswitch.offset ps.toList dflt v.toInt = off) (ht : (pc : Int) + off = (tgt : Int)) (kk : W p l e R s m args below meth c H locs cells slots Q (F0 m tgt ls rest)) : W p l e R s m args below meth c H locs cells slots Q (F0 m pc ls (.int x :: rest)) := by
  subst hv
  exact lv_lookup hx hb hd hp ho ht kk
end RowsD
theorem inX0 : ∀ w ∈ wsX00, w ∈ TBL := by decide +kernel
theorem inX1 : ∀ w ∈ wsX10, w ∈ TBL := by decide +kernel
theorem inX2 : ∀ w ∈ wsX20, w ∈ TBL := by decide +kernel
theorem inX3 : ∀ w ∈ wsX30, w ∈ TBL := by decide +kernel
theorem inX4 : ∀ w ∈ wsX40, w ∈ TBL := by decide +kernel
theorem inX5 : ∀ w ∈ wsX50, w ∈ TBL := by decide +kernel
theorem inX6 : ∀ w ∈ wsX60, w ∈ TBL := by decide +kernel
theorem inX7 : ∀ w ∈ wsX70, w ∈ TBL := by decide +kernel
theorem inX8 : ∀ w ∈ wsX80, w ∈ TBL := by decide +kernel
theorem inX9 : ∀ w ∈ wsX90, w ∈ TBL := by decide +kernel
theorem inX10 : ∀ w ∈ wsX100, w ∈ TBL := by decide +kernel
theorem inX11 : ∀ w ∈ wsX110, w ∈ TBL := by decide +kernel
theorem inX12 : ∀ w ∈ wsX120, w ∈ TBL := by decide +kernel
