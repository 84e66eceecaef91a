/-! PURE: finish -/
theorem m_finish {g : Gh} {M : Mem} {c : Nat} (h : Inv g M c) (hcc : c ≤ 512) {Z : Int32 → Int32 → Mem → Prop} (hz : ∀ v M', Inv g M' (c + 1) → Z v v M') : wp_X11_finish g M (gB g) (fun v M1 => wp_X12_finish g M1 (gB g + 195) (fun w M2 => Z v w M2)) := by
  obtain ⟨nq, qa, r, L, np, pn, on, h⟩ := h
  have hz' := fun v => hz v _ (h.z 0).up.ex
  have hi := h.z 0
  obtain ⟨h1, h2, h3, h4, h5, h6, h7, h8⟩ := id h
  have h48 := h6.1
  have h60 := h4.1
  refine ⟨lk_0 h1, _, lr_0_9 h1, lk_67 h1, ?_⟩
  rw [h7.1]
  cases on with
  | false =>
    refine ⟨fun _ => ⟨lk_195 h1, ?_⟩, fun hx => absurd rfl hx⟩
    rintro M1 rfl
    rw [hi.2.2.2.2.2.2.1.2.1]
    exact ⟨fun _ => hz' 0, fun hx => absurd rfl hx⟩
  | true =>
    obtain ⟨n, ev, hm⟩ := h7.2.2.2 rfl
    have hm' : IMo g (uI M (gB g + 195) 0 0) r L np n ev := hm.fr (frz 0) (fun a k hh => by omega)
    obtain ⟨m1, m2, m3, m4, m5, m6, m7, m8, m9, m10⟩ := id hm
    have hc : MC g M r L := ⟨h1, m4, h5.1⟩
    have hW := h5.1.2.1.W
    have hle := thr_le (ev := ev) n (fun j hj => (m6 j hj).2.2)
    have hws := WS_thr (L := L) (ev := ev) n (fun j hj => (m6 j hj).2.2)
    refine ⟨fun hx => absurd hx (by decide), fun _ => sp_X6_isOver hc m7.1 (by omega) ?_⟩
    by_cases hlt : sH (thr L ev n) < lW L
    · rw [if_pos hlt]
      refine ⟨fun _ => ⟨lk_195 h1, ?_⟩, fun hx => absurd rfl hx⟩
      rintro M1 rfl
      rw [hi.2.2.2.2.2.2.1.2.1, hm'.2.2.2.2.2.2.2.1.2.1]
      exact ⟨fun hx => absurd hx (by decide), fun _ => ⟨fun hx => absurd hx (nI_lt3 hws hlt).1, fun _ => hz' 0⟩⟩
    rw [if_neg hlt]
    obtain ⟨ta, tb, t1, t2, t3, t4, t5, t6⟩ := h6.2.2.2.2.1 m5.2
    refine ⟨fun hx => absurd hx (by decide), fun _ => ⟨_, lr_0_10 h1, _, lr_0_8 h1, lk_61 h1, _, lr_0_9 h1, sp_X6_pointsOf0 h1 ⟨_, lr_0_9 h1, sp_X6_pointsOf1 h1 ⟨lk_190 h1, ?_⟩⟩⟩⟩
    rintro M1 rfl
    rw [t3, t4, m7.2.2.2.1, m7.2.2.2.2.1]
    -- the league, in the class
    let lf : Nat → Nat → Int32 := fun j t => mI M (gB g + (191 + j)) t
    have g0 : LG g M 191 lf := fun j t _ _ => rfl
    have g0m : LG g M 229 lf := by
      intro j t hj ht
      have := h8.1 t ht
      rcases (show j = 0 ∨ j = 1 ∨ j = 2 ∨ j = 3 by omega) with rfl | rfl | rfl | rfl
      · exact this.1.symm
      · exact this.2.1.symm
      · exact this.2.2.1.symm
      · exact this.2.2.2.symm
    have fe : Fr (fun a k => (a = (gB g + 190) ∧ k = 4) ∨ ((gB g + 191) ≤ a ∧ a ≤ (gB g + 194))) nQ M (uI M (gB g + 190) 4 (mI M (gB g + 190) 4 + 1)) := Fr.rf.uI (by omega)
    have ee : mI (uI M (gB g + 190) 4 (mI M (gB g + 190) 4 + 1)) (gB g + 190) 4 = mI M (gB g + 190) 4 + 1 := by rw [s_II, if_pos rfl, if_pos rfl]
    have g1 : LG g (uI M (gB g + 190) 4 (mI M (gB g + 190) 4 + 1)) 191 lf := g0.fr (P := fun a k => a = (gB g + 190)) (Q := nQ) (Fr.rf.uI rfl) (fun a k hh => by omega)
    generalize uI M (gB g + 190) 4 (mI M (gB g + 190) 4 + 1) = M1 at fe ee g1 ⊢
    refine sp_addSide (fe.lay h1) g1 t1 _ _ (fun M2 f2 g2 => ?_)
    have fe2 : Fr (fun a k => (a = (gB g + 190) ∧ k = 4) ∨ ((gB g + 191) ≤ a ∧ a ≤ (gB g + 194))) nQ M M2 := fe.tr (f2.mono (fun a k hh => Or.inr hh) (fun _ _ hh => hh))
    refine sp_addSide (fe2.lay h1) g2 t2 _ _ (fun M3 f3 g3 => ?_)
    have fe3 : Fr (fun a k => (a = (gB g + 190) ∧ k = 4) ∨ ((gB g + 191) ≤ a ∧ a ≤ (gB g + 194))) nQ M M3 := fe2.tr (f3.mono (fun a k hh => Or.inr hh) (fun _ _ hh => hh))
    have ee3 : mI M3 (gB g + 190) 4 = mI M (gB g + 190) 4 + 1 := by rw [f3.1 _ _ (by omega), f2.1 _ _ (by omega)]; exact ee
    -- the numbers of the questions
    have hQ := h4.2.2.2.1
    let q0 : Nat → Nat × Nat × Nat := fun q => ((mI M (gB g + 203) q).toNatClampNeg, (mI M (gB g + 204) q).toNatClampNeg, (mI M (gB g + 205) q).toNatClampNeg)
    have hq0 : ∀ q, q < nq → ((q0 q).1 ≤ 48 * c ∧ (q0 q).2.1 ≤ 48 * c ∧ (q0 q).2.2 < 4096) ∧ (mI M (qa q) 2 = nI (q0 q).1 ∧ mI M (qa q) 3 = nI (q0 q).2.1 ∧ mI M (qa q) 5 = nI (q0 q).2.2) ∧ (mI M (gB g + 203) q = nI (q0 q).1 ∧ mI M (gB g + 204) q = nI (q0 q).2.1 ∧ mI M (gB g + 205) q = nI (q0 q).2.2) := by
      intro q hq
      obtain ⟨_, _, _, _, _, ⟨a, a1, a2, a3⟩, ⟨b, b1, b2, b3⟩, _, s, s1, s2, s3⟩ := hQ q hq
      have ea : (q0 q).1 = a := by show (mI M (gB g + 203) q).toNatClampNeg = a; rw [a3, nI_cl a (by omega)]
      have eb : (q0 q).2.1 = b := by show (mI M (gB g + 204) q).toNatClampNeg = b; rw [b3, nI_cl b (by omega)]
      have es : (q0 q).2.2 = s := by show (mI M (gB g + 205) q).toNatClampNeg = s; rw [s3, nI_cl s (by omega)]
      rw [ea, eb, es]
      exact ⟨⟨a1, b1, s1⟩, ⟨a2, b2, s2⟩, ⟨a3, b3, s3⟩⟩
    generalize q0 = q0 at hq0
    have hpq : ∀ a k, PFq nq qa a k → (gB g + 234) ≤ a := by
      rintro a k ⟨⟨q, hq, rfl⟩, _⟩; exact (hQ q hq).2.2.1
    have hqge : ∀ q, q < nq → (gB g + 234) ≤ qa q := fun q hq => (hQ q hq).2.2.1
    refine sp_finC (ev := ev) (vd := fun j => vdE L (thr L ev j) (ev j)) (W := lW L) (q0 := q0) (ta := ta) (tb := tb) (nq := nq) (qa := qa) (np := np) (pn := pn) (n := n) h1 (fe3.lay h1) h60 (by rw [fe3.1 _ _ (by omega)]; exact h4.2.1) (fun q hq => by rw [fe3.R]; exact (hQ q hq).1) (fun q hq => ⟨hqge q hq, fe3.oc (hQ q hq).2.1⟩) h4.2.2.2.2 (h6.fr fe3 (fun a k hh => by omega)) t1 t2 (by rw [fe3.1 _ _ (by omega)]; exact t3) (by rw [fe3.1 _ _ (by omega)]; exact t4) m1 (by rw [fe3.1 _ _ (by omega)]; exact m2) (fun j hj => ⟨(m6 j hj).1.fr fe3 (fun k hk hh => by omega), (m6 j hj).2.2.1, by rw [fe3.1 _ _ (by omega)]; exact (m9 j hj).1⟩) (by omega) (fun q hq => ?_) (fun M4 f4 c4 => ⟨lk_195 (f4.lay (fe3.lay h1)), ?_⟩)
    · have := hqge q hq
      rw [fe3.1 _ _ (by omega), fe3.1 _ _ (by omega), fe3.1 _ _ (by omega)]; exact (hq0 q hq).2.1
    rintro M55 rfl
    have f6 : Fr (fun a k => PFq nq qa a k ∨ (a < (gB g + 234) ∧ ((a = (gB g + 190) ∧ k = 4) ∨ ((gB g + 191) ≤ a ∧ a ≤ (gB g + 194)) ∨ (a = (gB g + 67) ∧ (k = 0 ∨ k = 3)) ∨ (a = (gB g + 195) ∧ k = 0)))) nQ M (uI (uI (uI M4 (gB g + 67) 0 0) (gB g + 67) 3 0) (gB g + 195) 0 0) :=
      ((((fe3.mono (fun a k hh => Or.inr (by omega)) (fun _ _ hh => hh)).tr (f4.mono (fun a k hh => Or.inl hh) (fun _ _ hh => hh))).uI (Or.inr (by omega))).uI (Or.inr (by omega))).uI (Or.inr (by omega))
    have c6 : QC (uI (uI (uI M4 (gB g + 67) 0 0) (gB g + 67) 3 0) (gB g + 195) 0 0) nq qa (qst pn (fun k => kno ev (fun j => vdE L (thr L ev j) (ev j)) k n) (2 ^ ta ||| 2 ^ tb) q0 np) := by
      intro q hq
      have := hqge q hq
      simp only [s_II, if_neg (show qa q ≠ (gB g + 195) by omega), if_neg (show qa q ≠ (gB g + 67) by omega)]
      exact c4 q hq
    have g6 : LG g (uI (uI (uI M4 (gB g + 67) 0 0) (gB g + 67) 3 0) (gB g + 195) 0 0) 191 (lgUp (lgUp lf ta (sP (thr L ev n)) (sQ (thr L ev n))) tb (sQ (thr L ev n)) (sP (thr L ev n))) := by
      intro j t hj ht
      rw [s_II, if_neg (by omega), s_II, if_neg (by omega), s_II, if_neg (by omega), f4.1 _ _ (fun hh => by have := hpq _ _ hh; omega)]
      exact g3 j t hj ht
    have z6 : mI (uI (uI (uI M4 (gB g + 67) 0 0) (gB g + 67) 3 0) (gB g + 195) 0 0) (gB g + 67) 0 = 0 ∧ mI (uI (uI (uI M4 (gB g + 67) 0 0) (gB g + 67) 3 0) (gB g + 195) 0 0) (gB g + 67) 3 = 0 := by
      constructor
      · rw [s_II, if_neg (by omega), s_II, if_pos rfl, if_neg (by decide), s_II, if_pos rfl, if_pos rfl]
      · rw [s_II, if_neg (by omega), s_II, if_pos rfl, if_pos rfl]
    have ee6 : mI (uI (uI (uI M4 (gB g + 67) 0 0) (gB g + 67) 3 0) (gB g + 195) 0 0) (gB g + 190) 4 = mI M (gB g + 190) 4 + 1 := by
      rw [s_II, if_neg (by omega), s_II, if_neg (by omega), s_II, if_neg (by omega), f4.1 _ _ (fun hh => by have := hpq _ _ hh; omega)]; exact ee3
    have l5 : Lay g (uI (uI M4 (gB g + 67) 0 0) (gB g + 67) 3 0) := f4.lay (fe3.lay h1)
    generalize uI (uI M4 (gB g + 67) 0 0) (gB g + 67) 3 0 = M5 at l5 f6 c6 g6 z6 ee6 ⊢
    have fp : ∀ a k, a < (gB g + 234) → ¬ ((a = (gB g + 190) ∧ k = 4) ∨ ((gB g + 191) ≤ a ∧ a ≤ (gB g + 194)) ∨ (a = (gB g + 67) ∧ (k = 0 ∨ k = 3)) ∨ (a = (gB g + 195) ∧ k = 0)) → mI (uI M5 (gB g + 195) 0 0) a k = mI M a k := fun a k h1 h2 => f6.1 a k (fun hh => hh.elim (fun hx => by have := hpq _ _ hx; omega) (fun hx => h2 hx.2))
    rw [fp (gB g + 195) 48 (by omega) (by omega), fp (gB g + 195) 51 (by omega) (by omega), fp (gB g + 195) 46 (by omega) (by omega), fp (gB g + 195) 53 (by omega) (by omega), fp (gB g + 195) 54 (by omega) (by omega), h7.2.1, m8.2.1, t5, m8.2.2.2.1, m8.2.2.2.2.1]
    refine ⟨fun hx => absurd hx (by decide), fun _ => ⟨fun _ => ?_, fun hx => absurd (show (3 : Int32) ≤ _ by rw [hws.2 (by omega)]; decide) hx⟩⟩
    have l6 := f6.lay h1
    have gm6 : LG g (uI M5 (gB g + 195) 0 0) 229 lf := g0m.fr f6 (fun a k hh => hh.elim (fun hx => by have := hpq _ _ hx; omega) (fun hx => by omega))
    refine sp_counts l6 gm6 t1 _ _ (fun M7 f7 g7 => ?_)
    rw [f7.1 (gB g + 195) 47 (by omega), f7.1 (gB g + 195) 54 (by omega), f7.1 (gB g + 195) 53 (by omega), fp (gB g + 195) 47 (by omega) (by omega), fp (gB g + 195) 53 (by omega) (by omega), fp (gB g + 195) 54 (by omega) (by omega), t6, m8.2.2.2.1, m8.2.2.2.2.1]
    refine sp_counts (f7.lay l6) g7 t2 _ _ (fun M8 f8 g8 => ?_)
    have f68 : Fr (fun a _ => (gB g + 229) ≤ a ∧ a ≤ (gB g + 232)) nQ (uI M5 (gB g + 195) 0 0) M8 := f7.tr f8
    have fp8 : ∀ a k, a < (gB g + 234) → ¬ ((a = (gB g + 190) ∧ k = 4) ∨ ((gB g + 191) ≤ a ∧ a ≤ (gB g + 194)) ∨ (a = (gB g + 67) ∧ (k = 0 ∨ k = 3)) ∨ (a = (gB g + 195) ∧ k = 0) ∨ ((gB g + 229) ≤ a ∧ a ≤ (gB g + 232))) → mI M8 a k = mI M a k := fun a k h1 h2 => by rw [f68.1 _ _ (by omega)]; exact fp a k h1 (by omega)
    have l8 := f68.lay l6
    have f8M : Fr (fun a k => PFq nq qa a k ∨ (a < (gB g + 234) ∧ ((a = (gB g + 190) ∧ k = 4) ∨ ((gB g + 191) ≤ a ∧ a ≤ (gB g + 194)) ∨ (a = (gB g + 67) ∧ (k = 0 ∨ k = 3)) ∨ (a = (gB g + 195) ∧ k = 0) ∨ ((gB g + 229) ≤ a ∧ a ≤ (gB g + 232))))) nQ M M8 := (f6.mono (fun a k hh => hh.elim Or.inl (fun hx => Or.inr (by omega))) (fun _ _ hh => hh)).tr (f68.mono (fun a k hh => Or.inr (by omega)) (fun _ _ hh => hh))
    refine lfp_up (fun i s => ∃ M', s = (nI i, M') ∧ Fr (PGm g) nQ M8 M' ∧ QM g M' nq (qst pn (fun k => kno ev (fun j => vdE L (thr L ev j) (ev j)) k n) (2 ^ ta ||| 2 ^ tb) q0 i)) np ?_ ?_ 0 _ (by omega) ⟨M8, rfl, Fr.rf, fun q hq => ?_⟩
    · rintro bk s ⟨M', rfl, f, hqm⟩
      show bd_X12_finish_56 g M5 (gB g + 195) _ bk (nI np) M'
      unfold bd_X12_finish_56
      rw [f.1 (gB g + 195) 44 (by unfold PGm; omega), fp8 (gB g + 195) 44 (by omega) (by omega), h6.2.2.1]
      refine pk_le np np (fun _ => ?_) (fun hx => by omega)
      rintro M9 rfl M10 rfl
      refine hz 1 _ ?_
      rw [show mI (uI M' (gB g + 195) 48 0) (gB g + 195) 66 = mI M (gB g + 195) 66 by rw [s_II, if_pos rfl, if_neg (by decide), f.1 (gB g + 195) 66 (by unfold PGm; omega)]; exact fp8 (gB g + 195) 66 (by omega) (by omega)]
      have f9 : Fr (fun a k => PFq nq qa a k ∨ (a < (gB g + 234) ∧ ((a = (gB g + 190) ∧ k = 4) ∨ ((gB g + 191) ≤ a ∧ a ≤ (gB g + 194)) ∨ (a = (gB g + 67) ∧ (k = 0 ∨ k = 3)) ∨ (a = (gB g + 195) ∧ (k = 0 ∨ k = 48 ∨ k = 66)) ∨ ((gB g + 229) ≤ a ∧ a ≤ (gB g + 232)) ∨ ((gB g + 203) ≤ a ∧ a ≤ (gB g + 205))))) nQ M (uI (uI M' (gB g + 195) 48 0) (gB g + 195) 66 (mI M (gB g + 195) 66 + 1)) :=
        (((f8M.mono (fun a k hh => hh.elim Or.inl (fun hx => Or.inr (by omega))) (fun _ _ hh => hh)).tr (f.mono (fun a k hh => Or.inr (by unfold PGm at hh; omega)) (fun _ _ hh => hh))).uI (Or.inr (by omega))).uI (Or.inr (by omega))
      have fl : Fr (fun a k => (a = (gB g + 195) ∧ (k = 48 ∨ k = 66)) ∨ ((gB g + 203) ≤ a ∧ a ≤ (gB g + 205))) nQ M8 (uI (uI M' (gB g + 195) 48 0) (gB g + 195) 66 (mI M (gB g + 195) 66 + 1)) := ((f.mono (fun a k hh => by unfold PGm at hh; omega) (fun _ _ hh => hh)).uI (by omega)).uI (by omega)
      refine Iv.ex (on := false) (nq := nq) (qa := qa) (r := r) (L := L) (np := np) (pn := pn) ⟨f9.lay h1, h2.fr f9 (fun a k hh => hh.elim (fun hx => by have := hpq _ _ hx; omega) (fun hx => by omega)), h3.fr f9 (fun a k hh => hh.elim (fun hx => by have := hpq _ _ hx; omega) (fun hx => by omega)), ⟨h60, ?_, ?_, fun q hq => ?_, h4.2.2.2.2⟩, h5.fr f9 (fun a k hh => hh.elim (fun hx => by have := hpq _ _ hx; have := h5.1.1; omega) (fun hx => by have := h5.1.1; omega)), h6.fr f9 (fun a k hh => hh.elim (fun hx => by have := hpq _ _ hx; omega) (fun hx => by omega)), ⟨?_, ?_, fun _ => ?_, fun hx => absurd hx (by decide)⟩, ⟨fun t ht => ?_, ?_⟩⟩
      · rw [f9.1 _ _ (fun hh => hh.elim (fun hx => by have := hpq _ _ hx; omega) (fun hx => by omega))]; exact h4.2.1
      · rw [f9.1 _ _ (fun hh => hh.elim (fun hx => by have := hpq _ _ hx; omega) (fun hx => by omega))]; exact h4.2.2.1
      · obtain ⟨q1, q2, q3, ⟨fo, fo1, fo2, fo3⟩, q5, q6, q7, q8, q9⟩ := hQ q hq
        have hb := qst_le (pn := pn) (kn := fun k => kno ev (fun j => vdE L (thr L ev j) (ev j)) k n) (q0 := q0) t1 t2 (hq0 q hq).1 np
        have hcq := c6 q hq
        have hmq := hqm q hq
        have a9 : ∀ k, mI (uI (uI M' (gB g + 195) 48 0) (gB g + 195) 66 (mI M (gB g + 195) 66 + 1)) (qa q) k = mI (uI M5 (gB g + 195) 0 0) (qa q) k := fun k => by rw [fl.1 _ _ (by omega), f68.1 _ _ (by omega)]
        have b9 : ∀ i, 203 ≤ i → i ≤ 205 → mI (uI (uI M' (gB g + 195) 48 0) (gB g + 195) 66 (mI M (gB g + 195) 66 + 1)) (gB g + (i)) q = mI M' (gB g + (i)) q := fun i i1 i2 => by rw [s_II, if_neg (by omega), s_II, if_neg (by omega)]
        refine ⟨by rw [f9.R]; exact q1, f9.oc q2, q3, ⟨fo, by rw [f9.R]; exact fo1, f9.oc fo2, fo3.fr f9 (fun a k hh => ⟨fun h234 => ⟨9, by decide, ?_⟩, ?_⟩) (fun a k hh => (hh : False).elim)⟩, ?_, ⟨_, Nat.le_trans hb.1 (by omega), by rw [a9]; exact hcq.1, by rw [b9 203 (by decide) (by decide)]; exact hmq.1⟩, ⟨_, Nat.le_trans hb.2.1 (by omega), by rw [a9]; exact hcq.2.1, by rw [b9 204 (by decide) (by decide)]; exact hmq.2.1⟩, ?_, ⟨_, hb.2.2, by rw [a9]; exact hcq.2.2, by rw [b9 205 (by decide) (by decide)]; exact hmq.2.2⟩⟩
        · rcases hh with ⟨⟨q', hq', rfl⟩, _⟩ | hx
          · exact (hQ q' hq').2.1
          · omega
        · rcases hh with hx | hx
          · have := hpq _ _ hx; omega
          · omega
        · rw [f9.1 _ _ (fun hh => hh.elim (fun hx => by have := hx.2; omega) (fun hx => by omega)), f9.1 _ _ (fun hh => hh.elim (fun hx => by have := hpq _ _ hx; omega) (fun hx => by omega))]; exact q5
        · rw [f9.1 _ _ (fun hh => hh.elim (fun hx => by have := hx.2; omega) (fun hx => by omega)), f9.1 _ _ (fun hh => hh.elim (fun hx => by have := hpq _ _ hx; omega) (fun hx => by omega))]; exact q8
      · rw [fl.1 _ _ (by omega), f68.1 _ _ (by omega)]; exact z6.1
      · rw [s_II, if_pos rfl, if_neg (by decide), s_II, if_pos rfl, if_pos rfl]; rfl
      · rw [fl.1 _ _ (by omega), f68.1 _ _ (by omega)]; exact z6.2
      · have a9 : ∀ j, j < 4 → mI (uI (uI M' (gB g + 195) 48 0) (gB g + 195) 66 (mI M (gB g + 195) 66 + 1)) (gB g + (191 + j)) t = mI (uI (uI M' (gB g + 195) 48 0) (gB g + 195) 66 (mI M (gB g + 195) 66 + 1)) (gB g + (229 + j)) t := fun j hj => by
          rw [fl.1 _ _ (by omega), fl.1 _ _ (by omega), f68.1 _ _ (by omega), g6 j t hj ht, g8 j t hj ht]
        exact ⟨a9 0 (by decide), a9 1 (by decide), a9 2 (by decide), a9 3 (by decide)⟩
      · rw [fl.1 _ _ (by omega), f68.1 _ _ (by omega), ee6, s_II, if_pos rfl, if_pos rfl, h8.2]
    · rintro bk i s hi2 ⟨M', rfl, f, hqm⟩ hbk
      show bd_X12_finish_56 g M5 (gB g + 195) _ bk (nI i) M'
      unfold bd_X12_finish_56
      have l' := f.lay l8
      have fp' : ∀ a k, a < (gB g + 234) → ¬ ((a = (gB g + 190) ∧ k = 4) ∨ ((gB g + 191) ≤ a ∧ a ≤ (gB g + 194)) ∨ (a = (gB g + 67) ∧ (k = 0 ∨ k = 3)) ∨ (a = (gB g + 195) ∧ k = 0) ∨ ((gB g + 229) ≤ a ∧ a ≤ (gB g + 232)) ∨ ((gB g + 203) ≤ a ∧ a ≤ (gB g + 205))) → mI M' a k = mI M a k := fun a k h1 h2 => by rw [f.1 _ _ (by unfold PGm; omega)]; exact fp8 a k h1 (by omega)
      have hpi := h6.2.2.2.2.2 i hi2
      rw [fp' (gB g + 195) 44 (by omega) (by omega), h6.2.2.1]
      refine pk_le np i (fun hx => by omega) (fun _ => ?_)
      refine sp_finK (ev := ev) (vd := fun j => vdE L (thr L ev j) (ev j)) (L := L) (n := n) l5 l' m1 (by rw [fp' _ _ (by omega) (by omega)]; exact m3) (by omega) (fun j hj => ⟨⟨?_, ?_, ?_, ?_⟩, (m6 j hj).2.2, ?_⟩) (by omega) ?_
      · rw [fp' _ _ (by omega) (by omega)]; exact (m6 j hj).2.1.1
      · rw [fp' _ _ (by omega) (by omega)]; exact (m6 j hj).2.1.2.1
      · rw [fp' _ _ (by omega) (by omega)]; exact (m6 j hj).2.1.2.2.1
      · rw [fp' _ _ (by omega) (by omega)]; exact (m6 j hj).2.1.2.2.2
      · rw [fp' _ _ (by omega) (by omega)]; exact (m10 j hj).1
      · exact sp_finP (kn := fun k => kno ev (fun j => vdE L (thr L ev j) (ev j)) k n) l5 l' h60 h48 t1 t2 hi2 hpi.1 (by rw [fp' _ _ (by omega) (by omega)]; exact hpi.2.1) (by rw [fp' _ _ (by omega) (by omega)]; exact t5) (by rw [fp' _ _ (by omega) (by omega)]; exact t6) hqm (fun M2 f2 c2 => hbk _ ⟨M2, rfl, f.tr f2, c2⟩)
    · rw [fp8 _ _ (by omega) (by omega), fp8 _ _ (by omega) (by omega), fp8 _ _ (by omega) (by omega)]; exact (hq0 q hq).2.2
