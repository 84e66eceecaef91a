/-! PURE: question: a form is copied -/
theorem gr_uR {P R : Nat → Nat → Prop} {M M1 : Mem} (h : GrX P R M M1) {q k : Nat} {v : Option Nat} (hq : mT M ≤ q ∨ R q k) : GrX P R M (uR M1 q k v) := by
  refine ⟨h.1, fun a ha => ?_⟩
  obtain ⟨h1, h2, h3, h4, h5⟩ := h.2 a ha
  refine ⟨h1, h2, fun j hj => ?_, h4, h5⟩
  rw [uR_ne]
  · exact h3 j hj
  · by_cases e : a = q
    · subst e
      right; intro hx; subst hx
      exact hq.elim (fun hx => by omega) hj
    · exact Or.inl e
theorem gr_uI {P R : Nat → Nat → Prop} {M M1 : Mem} (h : GrX P R M M1) {q k : Nat} {v : Int32} (hq : mT M ≤ q ∨ P q k) : GrX P R M (uI M1 q k v) := by
  refine ⟨h.1, fun a ha => ?_⟩
  obtain ⟨h1, h2, h3, h4, h5⟩ := h.2 a ha
  refine ⟨fun j hj => ?_, h2, h3, h4, h5⟩
  rw [s_II]
  by_cases e : a = q
  · rw [if_pos e]
    have hk : ¬ j = k := fun hx => by subst hx; subst e; exact hq.elim (fun hx => by omega) hj
    rw [if_neg hk]; exact h1 j hj
  · rw [if_neg e]; exact h1 j hj
theorem uR_eq (M : Mem) (a k : Nat) (v : Option Nat) : mR (uR M a k v) a k = v := by
  show up2 M.2.2.1 a k v a k = v
  simp [up2]
/-- a form of its own: at q, of the items L -/
def NF (g : Gh) (M : Mem) (lo q : Nat) (L : List Itm) : Prop := okc (gB g) M q 1 ∧ ∃ ka la ha, (mR M q 0 = some ka ∧ mR M q 1 = some la ∧ mR M q 2 = some ha) ∧ (okc (gB g) M ka 13 ∧ okc (gB g) M la 15 ∧ okc (gB g) M ha 15) ∧ (lo ≤ ka ∧ lo ≤ la ∧ lo ≤ ha) ∧ (mN M ka = L.length ∧ mN M la = L.length ∧ mN M ha = L.length) ∧ ∀ i x, L[i]? = some x → mI M ka i = nI x.1 ∧ mJ M la i = x.2.1 ∧ mJ M ha i = x.2.2
def gN : Nat → Nat → Prop := fun _ _ => False
theorem GrX.mono {P R P' R' : Nat → Nat → Prop} {M M' : Mem} (h : GrX P R M M') (hp : ∀ a k, P a k → P' a k) (hr : ∀ a k, R a k → R' a k) : GrX P' R' M M' := by
  refine ⟨h.1, fun a ha => ?_⟩
  obtain ⟨h1, h2, h3, h4, h5⟩ := h.2 a ha
  exact ⟨fun k hk => h1 k (fun hx => hk (hp a k hx)), h2, fun k hk => h3 k (fun hx => hk (hr a k hx)), h4, h5⟩
theorem GrX.n {P R : Nat → Nat → Prop} {M M' : Mem} (h : GrX gN gN M M') : GrX P R M M' := h.mono (fun _ _ hx => hx.elim) (fun _ _ hx => hx.elim)
theorem Lay.gn {g : Gh} {M M' : Mem} (h : Lay g M) (f : GrX gN gN M M') : Lay g M' := h.gr (nq := 0) f.n
theorem ItC.gr {g : Gh} {M M' : Mem} {L : List Itm} (hl : Lay g M) (f : GrX gN gN M M') (h : ItC g M L) : ItC g M' L := by
  have ht := hl.1
  refine ⟨?_, fun i x hx => ?_⟩
  · rw [(f.2 (gB g + 3) (by omega)).1 3 (fun hx => hx)]; exact h.1
  · rw [(f.2 (gB g + 4) (by omega)).1 i (fun hx => hx), (f.2 (gB g + 5) (by omega)).2.1 i, (f.2 (gB g + 6) (by omega)).2.1 i]
    exact h.2 i x hx
theorem sp_copyForm {g : Gh} {M : Mem} (h1 : Lay g M) {L : List Itm} (hI : ItC g M L) (hl : L.length ≤ 200) (hk : ∀ x ∈ L, x.1 < 128) {post : Option Nat → Mem → Prop} (hq : ∀ M', GrX gN gN M M' → NF g M' (mT M) (mT M) L → post (some (mT M)) M') : wp_X2_copyOfForm g M (gB g + 3) post := by
  have hB : gB g + 234 ≤ mT M := h1.1
  refine ⟨lk_3 h1, ?_⟩
  rintro q2 M3 rfl rfl
  have f3 : GrX gN gN M (nw M 1 0) := gr_nw M 1 0
  have w3 := nw_new M 1 0
  have o3 : okc (gB g) (nw M 1 0) (mT M) 1 := ⟨by omega, by rw [w3.2.2]; omega, w3.1⟩
  have t3 : mT (nw M 1 0) = mT M + 1 := w3.2.2
  generalize nw M 1 0 = M3 at f3 o3 t3 ⊢
  have l3 := h1.gn f3
  have i3 := hI.gr h1 f3
  refine ⟨_, lr_3_0 l3, ?_⟩
  rw [i3.1]
  refine sp_copyB (P := gN) (R := gN) (by omega) (lk_4 l3) (ln_4 l3) hl (fun i hi => ?_) (fun M10 f10 o10 n10 v10 t10 => ⟨_, lr_3_1 (l3.gn f10), ?_⟩)
  · rw [(i3.2 i _ (List.getElem?_eq_getElem hi)).1]
    exact fit_b _ (hk _ (List.getElem_mem hi))
  have l10 := l3.gn f10
  have i10 := i3.gr l3 f10
  rw [i10.1]
  refine sp_copyJ (P := gN) (R := gN) (by omega) (lk_5 l10) (ln_5 l10) hl (fun M15 f15 o15 n15 v15 t15 => ⟨_, lr_3_2 (l10.gn f15), ?_⟩)
  have l15 := l10.gn f15
  have i15 := i10.gr l10 f15
  rw [i15.1]
  refine sp_copyJ (P := gN) (R := gN) (by omega) (lk_6 l15) (ln_6 l15) hl (fun M20 f20 o20 n20 v20 t20 => ⟨_, rfl, _, rfl, _, rfl, ?_⟩)
  have f320 := f10.tr (f15.tr f20)
  refine ⟨f320.ok o3, ?_⟩
  rintro M22 rfl M24 rfl M26 rfl
  have f26 : GrX gN gN M (uR (uR (uR M20 (mT M) 0 (some (mT M3))) (mT M) 1 (some (mT M10))) (mT M) 2 (some (mT M15))) := gr_uR (gr_uR (gr_uR (f3.tr f320) (Or.inl (Nat.le_refl _))) (Or.inl (Nat.le_refl _))) (Or.inl (Nat.le_refl _))
  have f1520 := f15.tr f20
  refine hq _ f26 ⟨f320.ok o3, mT M3, mT M10, mT M15, ⟨?_, ?_, ?_⟩, ⟨f1520.ok o10, f20.ok o15, o20⟩, ⟨by omega, by omega, by omega⟩, ⟨?_, ?_, n20⟩, fun i x hx => ?_⟩
  · rw [uR_ne _ _ _ _ (Or.inr (by decide)), uR_ne _ _ _ _ (Or.inr (by decide)), uR_eq]
  · rw [uR_ne _ _ _ _ (Or.inr (by decide)), uR_eq]
  · rw [uR_eq]
  · exact (f1520.2 (mT M3) (by omega)).2.2.2.2.trans n10
  · exact (f20.2 (mT M10) (by omega)).2.2.2.2.trans n15
  · obtain ⟨hi, hx'⟩ := List.getElem?_eq_some_iff.mp hx
    refine ⟨?_, ?_, ?_⟩
    · show mI M20 (mT M3) i = _
      rw [(f1520.2 (mT M3) (by omega)).1 i (fun hx => hx), v10 i hi]
      exact (i3.2 i x hx).1
    · show mJ M20 (mT M10) i = _
      rw [(f20.2 (mT M10) (by omega)).2.1 i, v15 i hi]
      exact (i10.2 i x hx).2.1
    · show mJ M20 (mT M15) i = _
      rw [v20 i hi]
      exact (i15.2 i x hx).2.2
