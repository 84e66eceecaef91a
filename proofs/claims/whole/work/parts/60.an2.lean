/-! PURE: takes and answer -/
theorem ndM_fr {g : Gh} {M M' : Mem} {P Q : Nat → Nat → Prop} (f : Fr P Q M M') (hp : ∀ a k, P a k → ¬ ((gB g + 197) ≤ a ∧ a ≤ (gB g + 199))) (hq : ∀ a k, Q a k → ¬ ((gB g + 200) ≤ a ∧ a ≤ (gB g + 201))) : ndM g M' = ndM g M := by
  have e : ∀ i, 197 ≤ i → i ≤ 199 → mI M' (gB g + (i)) = mI M (gB g + (i)) := fun i i1 i2 => funext fun k => f.1 _ _ (fun hh => by have := hp _ _ hh; omega)
  have e2 : ∀ i, 200 ≤ i → i ≤ 201 → mJ M' (gB g + (i)) = mJ M (gB g + (i)) := fun i i1 i2 => funext fun k => f.2.1 _ _ (fun hh => by have := hq _ _ hh; omega)
  unfold ndM
  rw [e 197 (by decide) (by decide), e 198 (by decide) (by decide), e 199 (by decide) (by decide), e2 200 (by decide) (by decide), e2 201 (by decide) (by decide)]
theorem an_ok (bs : Nat → Nat) (n : Nat) : okN (anF bs n 21 0 0 a0A).2.1 (anF bs n 21 0 0 a0A).2.2 ∧ (anF bs n 21 0 0 a0A).2.1 ≤ 20 := by
  have := anF_ok (bs := bs) (n := n) 21 0 0 a0A (by omega) (fun j hj => by omega) (by omega)
  exact ⟨this.1, this.2.1⟩
set_option maxHeartbeats 1000000 in
theorem m_takes {g : Gh} {M : Mem} {c : Nat} (h : Inv g M c) (p : Int32) {Z : Int32 → Int32 → Mem → Prop} (hz : ∀ v M', Inv g M' (c + 1) → Z v v M') : wp_X11_takes g M (gB g) p (fun v M1 => wp_X12_takes g M1 (gB g + 195) p (fun w M2 => Z v w M2)) := by
  obtain ⟨nq, qa, r, L, np, pn, on, h⟩ := h
  obtain ⟨n, bs, h2⟩ := h.2.1
  have h1 := h.1
  refine ⟨lk_0 h1, _, lr_0_2 h1, _, lr_0_0 h1, ?_⟩
  refine sp_rdC h h2 (fun M1 f1 w1 t1 a1 => ?_)
  have m2 : mI M1 (gB g + 195) 2 = nI n := by rw [f1.1 _ _ (by unfold PRc; omega)]; exact h2.2.2.1
  have l1 := w1.1
  obtain ⟨hok, hN⟩ := an_ok bs n
  generalize hR : anF bs n 21 0 0 a0A = R at a1 hok hN ⊢
  have h60 := w1.2.2.1.1
  -- the reference reads
  have ref : ∀ (Mc : Mem) (v : Int32), Fr (PX g 12) nQ M1 Mc → (∀ M2, Fr (PRm g) (QAm g) Mc M2 → Iw g M2 c nq qa r L np pn on → TX g M2 bs → mI M2 (gB g + 195) 2 = 0 → (R.1 = true → AM g M2 R.2.1 R.2.2) → wp_X12_isQuestion g M2 (gB g + 195) p (fun v5 M6 => ((v5 = 0) → Z v (-1) M6) ∧ (¬ (v5 = 0) → ((bI R.1 = 0) → Z v (-1) M6) ∧ (¬ (bI R.1 = 0) → wp_X12_isTaken g M6 (gB g + 195) p (fun v9 M10 => ((v9 = 0) → Z v 0 M10) ∧ (¬ (v9 = 0) → Z v 1 M10)))))) → wp_X12_takes g Mc (gB g + 195) p (fun w M2 => Z v w M2) := by
    intro Mc v fc hh
    have wc : Iw g Mc c nq qa r L np pn on := w1.fr fc (fun a k hh => by unfold PX at hh; unfold TRw; omega) (fun a k hh => (hh : False).elim)
    have tc : TX g Mc bs := t1.fr fc (fun a k hh => by unfold PX at hh; omega)
    have mc : mI Mc (gB g + 195) 2 = nI n := by rw [fc.1 _ _ (by unfold PX; omega)]; exact m2
    have := sp_rdM (post := fun v3 M4 => wp_X12_isQuestion g M4 (gB g + 195) p (fun v5 M6 => ((v5 = 0) → Z v (-1) M6) ∧ (¬ (v5 = 0) → ((v3 = 0) → Z v (-1) M6) ∧ (¬ (v3 = 0) → wp_X12_isTaken g M6 (gB g + 195) p (fun v9 M10 => ((v9 = 0) → Z v 0 M10) ∧ (¬ (v9 = 0) → Z v 1 M10)))))) wc.1 h2.1 tc mc (fun M2 f2 t2 z2 a2 => by
      rw [hR] at a2 ⊢
      exact hh M2 f2 (wc.fr f2 (fun a k hh => by unfold PRm at hh; unfold TRw; omega) (fun a k hh => by unfold QAm at hh; unfold TQw; omega)) t2 z2 a2)
    exact this
  have fin : ∀ (v : Int32) (M2 : Mem), Iw g M2 c nq qa r L np pn on → TX g M2 bs → mI M2 (gB g + 195) 2 = 0 → Z v v M2 := fun v M2 w t z => hz v M2 (w.v (t.it z)).up.ex
  refine sp_qAt l1 w1.2.2.1 p (fun ho => ⟨fun _ => ?_, fun q hx => (nomatch hx)⟩) (fun q hq e => ⟨fun hx => (nomatch hx), ?_⟩)
  · refine ref M1 _ Fr.rf (fun M2 f2 w2 t2 z2 a2 => ?_)
    exact sp_isQ w2.1 w2.2.2.1 p (fun _ => ⟨fun _ => fin _ M2 w2 t2 z2, fun hx => absurd rfl hx⟩) (fun q hq e => by rw [e] at ho; exact (nI_out hq (by omega) ho).elim)
  · subst e
    rintro q14 hq14
    obtain rfl : qa q = q14 := Option.some.inj hq14
    have nout : ∀ {P : Prop}, (nI q < 0 ∨ nI nq ≤ nI q) → P := fun ho => (nI_out hq (by omega) ho).elim
    cases hA : R.1 with
    | false =>
      refine ⟨fun _ => ref M1 _ Fr.rf (fun M2 f2 w2 t2 z2 a2 => ?_), fun hx => absurd rfl hx⟩
      rw [hA]
      exact sp_isQ w2.1 w2.2.2.1 _ nout (fun q hq e => ⟨fun hx => absurd hx (by decide), fun _ => ⟨fun _ => fin _ M2 w2 t2 z2, fun hx => absurd rfl hx⟩⟩)
    | true =>
      obtain ⟨b1, b2, b3, ⟨f, c1, c2, F, ka, la, ha', d1, d2, d3, d4, d5, d6, d7, d8⟩, _⟩ := w1.2.2.1.2.2.2.1 q hq
      have ko := (h.2.2.2.1.2.2.2.1 q hq).2.1
      refine ⟨fun hx => absurd hx (by decide), fun _ => ⟨_, lr_0_2 l1, ko, f, c1, ?_⟩⟩
      -- the reference takes it, or not
      have both : ∀ (Mc : Mem) (v : Int32), Fr (PX g 12) nQ M1 Mc → ((v = 1 ∧ rF (rP R.2.1 R.2.2 6) F 0 R.2.1) ∨ (v = 0 ∧ ¬ rF (rP R.2.1 R.2.2 6) F 0 R.2.1)) → wp_X12_takes g Mc (gB g + 195) (nI q) (fun w M2 => Z v w M2) := by
        intro Mc v fc hv
        refine ref Mc v fc (fun M2 f2 w2 t2 z2 a2 => ?_)
        rw [hA]
        refine sp_isQ w2.1 w2.2.2.1 _ nout (fun _ _ _ => ⟨fun hx => absurd hx (by decide), fun _ => ⟨fun hx => absurd hx (by decide), fun _ => ?_⟩⟩)
        have en : ndM g M2 = ndM g M1 := (ndM_fr f2 (fun a k hh => by unfold PRm at hh; omega) (fun a k hh => by unfold QAm at hh; omega)).trans (ndM_fr fc (fun a k hh => by unfold PX at hh; omega) (fun a k hh => (hh : False).elim))
        have done : ∀ M3, Fr (PLd g 0) nQ M2 M3 → Z v v M3 := fun M3 f3 => fin v M3 (w2.fr f3 (fun a k hh => by unfold PLd at hh; unfold TRw; omega) (fun a k hh => (hh : False).elim)) (t2.fr f3 (fun a k hh => by unfold PLd at hh; omega)) (by rw [f3.1 _ _ (by unfold PLd; omega)]; exact z2)
        refine sp_isTakenM w2.1 (a2 hA) hN hok (q := q) (by omega) d1 (by rw [en]; exact d8) (fun M3 f3 _ hy => ?_) (fun M3 f3 _ hn => ?_)
        · rcases hv with ⟨rfl, _⟩ | ⟨_, hx⟩
          · exact ⟨fun hx => absurd hx (by decide), fun _ => done M3 f3⟩
          · exact absurd hy hx
        · rcases hv with ⟨_, hx⟩ | ⟨rfl, _⟩
          · exact absurd hx hn
          · exact ⟨fun _ => done M3 f3, fun hx => absurd rfl hx⟩
      refine sp_accepts l1 (a1 hA) hN hok c2 d1 d2 d3 d4 d5.1 d6 d7 (fun M2 f2 hy => ⟨fun hx => absurd hx (by decide), fun _ => both M2 1 f2 (Or.inl ⟨rfl, hy⟩)⟩) (fun M2 f2 hn => ⟨fun _ => both M2 0 f2 (Or.inr ⟨rfl, hn⟩), fun hx => absurd rfl hx⟩)
