/-! PURE: cells are made: what holds goes on -/
/-- older cells are as before, save ints in P and references in R -/
def GrX (P R : Nat → Nat → Prop) (M M' : Mem) : Prop := mT M ≤ mT M' ∧ ∀ a, a < mT M → (∀ k, ¬ P a k → mI M' a k = mI M a k) ∧ (∀ k, mJ M' a k = mJ M a k) ∧ (∀ k, ¬ R a k → mR M' a k = mR M a k) ∧ mK M' a = mK M a ∧ mN M' a = mN M a
theorem GrX.rf {P R : Nat → Nat → Prop} {M : Mem} : GrX P R M M := ⟨Nat.le_refl _, fun _ _ => ⟨fun _ _ => rfl, fun _ => rfl, fun _ _ => rfl, rfl, rfl⟩⟩
theorem GrX.tr {P R : Nat → Nat → Prop} {A B C : Mem} (h : GrX P R A B) (k : GrX P R B C) : GrX P R A C := by
  refine ⟨Nat.le_trans h.1 k.1, fun a ha => ?_⟩
  obtain ⟨h1, h2, h3, h4, h5⟩ := h.2 a ha
  obtain ⟨k1, k2, k3, k4, k5⟩ := k.2 a (Nat.lt_of_lt_of_le ha h.1)
  exact ⟨fun j hj => (k1 j hj).trans (h1 j hj), fun j => (k2 j).trans (h2 j), fun j hj => (k3 j hj).trans (h3 j hj), k4.trans h4, k5.trans h5⟩
theorem GrX.ok {P R : Nat → Nat → Prop} {M M' : Mem} (h : GrX P R M M') {B a kd : Nat} (ho : okc B M a kd) : okc B M' a kd := ⟨ho.1, Nat.lt_of_lt_of_le ho.2.1 h.1, (h.2 a ho.2.1).2.2.2.1.trans ho.2.2⟩
theorem gr_nw {P R : Nat → Nat → Prop} (M : Mem) (kd n : Nat) : GrX P R M (nw M kd n) := by
  refine ⟨Nat.le_succ _, fun a ha => ?_⟩
  have hne : a ≠ mT M := Nat.ne_of_lt ha
  refine ⟨fun k _ => ?_, fun k => ?_, fun k _ => ?_, va_up_ne _ _ hne, va_up_ne _ _ hne⟩
  · show va_up M.1 (mT M) (fun _ => 0) a k = _; rw [va_up_ne _ _ hne]; rfl
  · show va_up M.2.1 (mT M) (fun _ => 0) a k = _; rw [va_up_ne _ _ hne]; rfl
  · show va_up M.2.2.1 (mT M) (fun _ => none) a k = _; rw [va_up_ne _ _ hne]; rfl
/-- the ints and longs alone -/
def hyb (M M' : Mem) : Mem := (M'.1, M'.2.1, M.2.2)
theorem GrX.hy {P R : Nat → Nat → Prop} {M M' : Mem} (h : GrX P R M M') : Fr (fun a k => P a k ∨ mT M ≤ a) (fun a _ => mT M ≤ a) M (hyb M M') := by
  refine ⟨fun a k hh => ?_, fun a k hh => ?_, rfl⟩
  · have ha : a < mT M := Nat.lt_of_not_le (fun hx => hh (Or.inr hx))
    exact (h.2 a ha).1 k (fun hx => hh (Or.inl hx))
  · exact (h.2 a (Nat.lt_of_not_le hh)).2.1 k
def gP (g : Gh) : Nat → Nat → Prop := fun a k => a = (gB g) ∧ k = 4
def gR (g : Gh) (nq : Nat) : Nat → Nat → Prop := fun a k => a = (gB g + 48) ∧ k = nq
theorem rt_48 : ∀ r ∈ RT, r.1 ≠ 48 := by decide +kernel
theorem rt_lt : ∀ r ∈ RT, r.1 < 234 := by decide +kernel
theorem Lay.gr {g : Gh} {M M' : Mem} {nq : Nat} (h : Lay g M) (f : GrX (gP g) (gR g nq) M M') : Lay g M' := by
  refine ⟨Nat.le_trans h.1 f.1, fun i hi => ?_, fun r hr => ?_⟩
  · have := f.2 (gB g + (i)) (by have := h.1; omega)
    exact ⟨this.2.2.2.1.trans (h.2.1 i hi).1, this.2.2.2.2.trans (h.2.1 i hi).2⟩
  · have hlt := rt_lt r hr
    have hne := rt_48 r hr
    rw [(f.2 (gB g + (r.1)) (by have := h.1; omega)).2.2.1 _ (fun hx => by have := hx.1; omega)]
    exact h.2.2 r hr
theorem IMo.hy {g : Gh} {M M' : Mem} {r : Nat} {L : LawT} {np n : Nat} {ev : Nat → EvT} (h : IMo g (hyb M M') r L np n ev) (hr : mR M' (gB g + 67) 1 = mR M (gB g + 67) 1) : IMo g M' r L np n ev := by
  obtain ⟨h1, h2, h3, h4, h5⟩ := h
  exact ⟨h1, h2, h3, by rw [hr]; exact h4, h5⟩
theorem gr_rest {g : Gh} {M M' : Mem} {nq : Nat} {r : Nat} {L : LawT} {np : Nat} {pn : Nat → Nat} {on : Bool} {bs : Nat → Nat} (hl : Lay g M) (f : GrX (gP g) (gR g nq) M M') (h5 : ILw g M r L) (h6 : IP g M nq np pn) (h7 : IM g M r L np on) (h8 : IL g M) (hT : TX g M bs) : ILw g M' r L ∧ IP g M' nq np pn ∧ IM g M' r L np on ∧ IL g M' ∧ TX g M' bs := by
  have hy := f.hy
  have ht := hl.1
  have hr := h5.1.1
  have hp : ∀ a k, (gP g a k ∨ mT M ≤ a) → (a = (gB g) ∧ k = 4) ∨ (gB g + 234) ≤ a := fun a k hh => hh.elim Or.inl (fun hx => Or.inr (by omega))
  have a5 := h5.fr hy (fun a k hh => by have := hp a k hh; omega)
  have a7 := h7.fr hy (fun a k hh => by have := hp a k hh; omega)
  have a6 : IP g (hyb M M') nq np pn := h6.fr hy (fun a k hh => by have := hp a k hh; omega)
  have a8 : IL g (hyb M M') := h8.fr hy (fun a k hh => by have := hp a k hh; omega)
  have aT : TX g (hyb M M') bs := hT.fr hy (fun a k hh => by have := hp a k hh; omega)
  have eR : ∀ i k, i < 234 → i ≠ 48 → mR M' (gB g + (i)) k = mR M (gB g + (i)) k := fun i k hi hn => (f.2 _ (by omega)).2.2.1 _ (fun hx => by have := hx.1; omega)
  refine ⟨⟨a5.1, a5.2.1, ?_, ?_⟩, a6, ⟨a7.1, a7.2.1, a7.2.2.1, fun ho => ?_⟩, a8, aT⟩
  · exact (eR 0 5 (by decide) (by decide)).trans h5.2.2.1
  · exact (eR 0 6 (by decide) (by decide)).trans h5.2.2.2
  · obtain ⟨n, ev, hm⟩ := a7.2.2.2 ho
    exact ⟨n, ev, hm.hy (eR 67 1 (by decide) (by decide))⟩
theorem gr_nd {g : Gh} {M M' : Mem} {nq : Nat} (hl : Lay g M) (f : GrX (gP g) (gR g nq) M M') : ndM g M' = ndM g M := by
  have ht := hl.1
  have e : ∀ i, 197 ≤ i → i ≤ 199 → mI M' (gB g + (i)) = mI M (gB g + (i)) := fun i i1 i2 => funext fun k => (f.2 _ (by omega)).1 k (fun hx => by have := hx.1; omega)
  have e2 : ∀ i, 200 ≤ i → i ≤ 201 → mJ M' (gB g + (i)) = mJ M (gB g + (i)) := fun i i1 i2 => funext fun k => (f.2 _ (by omega)).2.1 k
  unfold ndM
  rw [e 197 (by decide) (by decide), e 198 (by decide) (by decide), e 199 (by decide) (by decide), e2 200 (by decide) (by decide), e2 201 (by decide) (by decide)]
theorem QOK.gr {g : Gh} {M M' : Mem} {c nq q a : Nat} (hl : Lay g M) (f : GrX (gP g) (gR g nq) M M') (hq : q < nq) (h : QOK g M c q a) : QOK g M' c q a := by
  have ht := hl.1
  obtain ⟨h1, h2, h3, ⟨fa, f1, f2, F, ka, la, ha, d1, d2, d3, d4, d5, d6, d7, d8⟩, h5, h6, h7, h8, h9⟩ := h
  have ea : ∀ k, mI M' a k = mI M a k := fun k => (f.2 a h2.2.1).1 k (fun hx => by have := hx.1; omega)
  have em : ∀ i, 202 ≤ i → i ≤ 206 → mI M' (gB g + (i)) q = mI M (gB g + (i)) q := fun i i1 i2 => (f.2 _ (by omega)).1 _ (fun hx => by have := hx.1; omega)
  have rR : ∀ b k, b < mT M → ¬ b = (gB g + 48) → mR M' b k = mR M b k := fun b k hb hn => (f.2 b hb).2.2.1 k (fun hx => hn hx.1)
  have fa48 : ¬ fa = (gB g + 48) := fun hx => by
    have := f2.2.2; rw [hx, (lk_48 hl).2.2] at this; exact absurd this (by decide)
  refine ⟨?_, f.ok h2, h3, ⟨fa, (rR a 1 h2.2.1 (by omega)).trans f1, f.ok f2, F, ka, la, ha, d1, d2, ⟨(rR fa 0 f2.2.1 fa48).trans d3.1, (rR fa 1 f2.2.1 fa48).trans d3.2.1, (rR fa 2 f2.2.1 fa48).trans d3.2.2⟩, ⟨f.ok d4.1, f.ok d4.2.1, f.ok d4.2.2⟩, d5, ⟨(f.2 ka d4.1.2.1).2.2.2.2.trans d6.1, (f.2 la d4.2.1.2.1).2.2.2.2.trans d6.2.1, (f.2 ha d4.2.2.2.1).2.2.2.2.trans d6.2.2⟩, fun i x hx => ?_, ?_⟩, ?_, ?_, ?_, ?_, ?_⟩
  · rw [(f.2 (gB g + 48) (by omega)).2.2.1 q (fun hx => by have := hx.2; omega)]; exact h1
  · rw [(f.2 ka d4.1.2.1).1 i (fun hx => by have := hx.1; omega), (f.2 la d4.2.1.2.1).2.1 i, (f.2 ha d4.2.2.2.1).2.1 i]
    exact d7 i x hx
  · rw [gr_nd hl f]; exact d8
  · rw [ea, em 202 (by decide) (by decide)]; exact h5
  · rw [ea, em 203 (by decide) (by decide)]; exact h6
  · rw [ea, em 204 (by decide) (by decide)]; exact h7
  · rw [ea, em 206 (by decide) (by decide)]; exact h8
  · rw [ea, em 205 (by decide) (by decide)]; exact h9
