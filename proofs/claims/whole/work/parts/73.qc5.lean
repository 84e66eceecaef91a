/-! PURE: the class reads a form: behind a part -/
theorem fo_bar {g : Gh} {Mz M0 M : Mem} {post : Mem → Prop} {n : Nat} {bs : Nat → Nat} {q : Nat} {T : Tk} {e st : Nat} {L : List Itm} {ES CS : Nat → Nat} (h : QT g M0 M n bs q T e st L ES CS) (hs1 : 1 ≤ st) (hst : st < 3) (hT : T.1 = 124) (hk : ∀ M', QS g M0 M' n bs (q + 1) (nxF bs n T) e 0 (L ++ [(124, 0, 0)]) ES CS → Wc g Mz post (q + 1) M') : wp_X2_faultOf g M (gB g + 3) (nI T.1) (vX T.1 T.2.2.1) (SPc g Mz post (fun z => Wc g Mz post (q + 1) z.2) q) := by
  refine fo_else h hst (by rw [hT]; rfl) (fun hx => by omega) (fun _ => ?_)
  obtain ⟨h0, h1, h2, h3, h4, h5, h6, h7⟩ := h
  have h200 := tk_200 h3 (by omega) (by omega)
  refine fb_cases h1 (by omega) (fun hx => by omega) (fun hx => by omega) (fun hx => by omega) (fun hx => by omega) (fun _ => ?_) (fun hx => absurd hT (fun e => hx (by omega)))
  rw [hT]
  refine sp_addItem h1 h6 (by omega) (by omega) (fun M1 f1 i1 => ?_)
  rintro M2 rfl
  have f2 : Fr (fun a k => a = (gB g + 3) ∧ k = 7) nQ M1 (uI M1 (gB g + 3) 7 0) := Fr.rf.uI ⟨rfl, rfl⟩
  have f12 : Fr (fun a k => (a = (gB g + 3) ∧ (k = 3 ∨ k = 7)) ∨ a = (gB g + 4)) (fun a _ => a = (gB g + 5) ∨ a = (gB g + 6)) M (uI M1 (gB g + 3) 7 0) := (f1.mono (fun a k hh => by omega) (fun _ _ hh => hh)).tr (f2.mono (fun a k hh => by omega) (fun a k hh => (hh : False).elim))
  exact SPc_next (h0.tr (f12.mono (fun a k hh => by unfold PQc; omega) (fun a k hh => by unfold QQc; omega))) (f12.lay h1) (h2.fr f12 (fun a k hh => by omega)) h3 (h4.fr f12 (fun a k hh => by omega) (fun a k hh => by omega)) (by omega) (by omega) h5.1 (by rw [List.length_append]; show L.length + 1 ≤ _; omega) (i1.fr f2 (fun a k hh => by omega) (fun a k hh => (hh : False).elim)) ((h7.fr f1 (fun a k hh => by omega)).st rfl) hk
theorem fo_dots {g : Gh} {Mz M0 M : Mem} {post : Mem → Prop} {n : Nat} {bs : Nat → Nat} {q : Nat} {T : Tk} {e : Nat} {L : List Itm} {ES CS : Nat → Nat} (h : QT g M0 M n bs q T e 2 L ES CS) (hT : T.1 = 46) (hk : ∀ M', QS g M0 M' n bs (q + 1) (nxF bs n T) e 3 L ES CS → Wc g Mz post (q + 1) M') : wp_X2_faultOf g M (gB g + 3) (nI T.1) (vX T.1 T.2.2.1) (SPc g Mz post (fun z => Wc g Mz post (q + 1) z.2) q) := by
  refine fo_else h (by omega) (by rw [hT]; rfl) (fun hx => by omega) (fun _ => ?_)
  obtain ⟨h0, h1, h2, h3, h4, h5, h6, h7⟩ := h
  refine fb_cases h1 (by omega) (fun hx => by omega) (fun hx => by omega) (fun hx => by omega) (fun _ => ⟨fun _ => ?_, fun hx => absurd h7.2.2.1 hx⟩) (fun hx => by omega) (fun hx => absurd hT (fun e => hx (by omega)))
  rintro M1 rfl
  have f2 : Fr (fun a k => a = (gB g + 3) ∧ k = 7) nQ M (uI M (gB g + 3) 7 3) := Fr.rf.uI ⟨rfl, rfl⟩
  exact SPc_next (h0.tr (f2.mono (fun a k hh => by unfold PQc; omega) (fun a k hh => (hh : False).elim))) (f2.lay h1) (h2.fr f2 (fun a k hh => by omega)) h3 (h4.fr f2 (fun a k hh => by omega) (fun a k hh => (hh : False).elim)) (by omega) (by omega) h5.1 (by omega) (h6.fr f2 (fun a k hh => by omega) (fun a k hh => (hh : False).elim)) (h7.st rfl) hk
theorem fo_comma {g : Gh} {Mz M0 M : Mem} {post : Mem → Prop} {n : Nat} {bs : Nat → Nat} {q : Nat} {T : Tk} {e st : Nat} {L : List Itm} {ES CS : Nat → Nat} (hz : Lay g Mz) (h : QT g M0 M n bs q T e st L ES CS) (hs1 : 1 ≤ st) (hst : st < 3) (hT : T.1 = 44) (he : 0 < e) (hE : ES (e - 1) = 125) (hk : CS (e - 1) < 5 → ∀ M', QS g M0 M' n bs (q + 1) (nxF bs n T) e 0 (L ++ [(44, 0, 0)]) ES (upN CS (e - 1) (CS (e - 1) + 1)) → Wc g Mz post (q + 1) M') (hf : CS (e - 1) = 5 → ∀ M', Fr (PQc g) (QQc g) M0 M' → mI M' (gB g + 3) 8 = nI 3 → mI M' (gB g + 3) 9 = nI T.2.1 → post M') : wp_X2_faultOf g M (gB g + 3) (nI T.1) (vX T.1 T.2.2.1) (SPc g Mz post (fun z => Wc g Mz post (q + 1) z.2) q) := by
  refine fo_else h hst (by rw [hT]; rfl) (fun hx => by omega) (fun _ => ?_)
  obtain ⟨h0, h1, h2, h3, h4, h5, h6, h7⟩ := h
  have h200 := tk_200 h3 (by omega) (by omega)
  have he6 := h7.1
  have hcs := h7.2.2.2 (e - 1) (by omega)
  refine fb_cases h1 (by omega) (fun hx => by omega) (fun hx => by omega) (fun _ => ⟨lk_3 h1, ?_⟩) (fun hx => by omega) (fun hx => by omega) (fun hx => absurd hT (fun e => hx (by omega)))
  refine sp_inner h1 h7 (c := 125) (by omega) (fun _ _ => ⟨fun hx => absurd hx (by decide), fun _ => ⟨_, lr_3_5 h1, lk_8 h1, ?_⟩⟩) (fun hx => absurd hx (by omega))
  rw [h7.2.1, show nI e - 1 = nI (e - 1) by rw [show (1 : Int32) = nI 1 from rfl, pk_sub (by omega)], nI_cl _ (by omega), ln_8 h1, hcs.2.1, nI_1]
  refine ⟨pk_in (e - 1) 6 (by omega), pk_lt (CS (e - 1)) 5 (fun hlt => ?_) (fun hlt => ?_)⟩
  · rintro M1 rfl
    rw [hT]
    have f1 : Fr (fun a k => a = (gB g + 8) ∧ k = e - 1) nQ M (uI M (gB g + 8) (e - 1) (nI (CS (e - 1) + 1))) := Fr.rf.uI ⟨rfl, rfl⟩
    have s1 : StC g (uI M (gB g + 8) (e - 1) (nI (CS (e - 1) + 1))) e st ES (upN CS (e - 1) (CS (e - 1) + 1)) := by
      refine ⟨h7.1, by rw [f1.1 _ _ (by omega)]; exact h7.2.1, by rw [f1.1 _ _ (by omega)]; exact h7.2.2.1, fun i hi => ?_⟩
      by_cases hie : i = e - 1
      · rw [hie, upN_s]
        exact ⟨by rw [f1.1 _ _ (by omega)]; exact hcs.1, by rw [s_II, if_pos rfl, if_pos rfl], hcs.2.2.1, by omega⟩
      · rw [upN_n _ _ hie, f1.1 _ _ (by omega), f1.1 _ _ (by omega)]; exact h7.2.2.2 i hi
    have i1 := h6.fr f1 (fun a k hh => by omega) (fun a k hh => (hh : False).elim)
    generalize uI M (gB g + 8) (e - 1) (nI (CS (e - 1) + 1)) = M1 at f1 s1 i1 ⊢
    refine sp_addItem (f1.lay h1) i1 (by omega) (by omega) (fun M2 f2 i2 => ?_)
    rintro M3 rfl
    have f3 : Fr (fun a k => a = (gB g + 3) ∧ k = 7) nQ M2 (uI M2 (gB g + 3) 7 0) := Fr.rf.uI ⟨rfl, rfl⟩
    have f13 : Fr (fun a k => (a = (gB g + 3) ∧ (k = 3 ∨ k = 7)) ∨ a = (gB g + 4) ∨ a = (gB g + 8)) (fun a _ => a = (gB g + 5) ∨ a = (gB g + 6)) M (uI M2 (gB g + 3) 7 0) := (f1.mono (fun a k hh => by omega) (fun a k hh => (hh : False).elim)).tr ((f2.mono (fun a k hh => by omega) (fun _ _ hh => hh)).tr (f3.mono (fun a k hh => by omega) (fun a k hh => (hh : False).elim)))
    exact SPc_next (h0.tr (f13.mono (fun a k hh => by unfold PQc; omega) (fun a k hh => by unfold QQc; omega))) (f13.lay h1) (h2.fr f13 (fun a k hh => by omega)) h3 (h4.fr f13 (fun a k hh => by omega) (fun a k hh => by omega)) (by omega) (by omega) h5.1 (by rw [List.length_append]; show L.length + 1 ≤ _; omega) (i2.fr f3 (fun a k hh => by omega) (fun a k hh => (hh : False).elim)) ((s1.fr f2 (fun a k hh => by omega)).st rfl) (hk hlt)
  · exact SPc_bad hz h4 (k := 3) (by omega) (by omega) (fun M' f e8 e9 => hf (by omega) M' (h0.tr (f.mono (fun a k hh => by unfold PQc; omega) (fun a k hh => (hh : False).elim))) e8 e9)
theorem fo_close {g : Gh} {Mz M0 M : Mem} {post : Mem → Prop} {n : Nat} {bs : Nat → Nat} {q : Nat} {T : Tk} {e st : Nat} {L : List Itm} {ES CS : Nat → Nat} (h : QT g M0 M n bs q T (e + 1) st L ES CS) (hs1 : 1 ≤ st) (hst : st < 3) {b : Nat} (hb : b ≤ 2) (hT : T.1 = cls b) (hE : ES e = cls b) (hk : ∀ M', QS g M0 M' n bs (q + 1) (nxF bs n T) e 1 (L ++ [(cls b, 0, 0)]) ES CS → Wc g Mz post (q + 1) M') : wp_X2_faultOf g M (gB g + 3) (nI T.1) (vX T.1 T.2.2.1) (SPc g Mz post (fun z => Wc g Mz post (q + 1) z.2) q) := by
  have hcb : cls b = 93 ∨ cls b = 41 ∨ cls b = 125 := by
    rcases (show b = 0 ∨ b = 1 ∨ b = 2 by omega) with rfl | rfl | rfl <;> decide
  have hnp : isPt T.1 = false := decide_eq_false (by omega)
  refine fo_else h hst hnp (fun hx => by omega) (fun _ => ?_)
  obtain ⟨h0, h1, h2, h3, h4, h5, h6, h7⟩ := h
  have h200 := tk_200 h3 (by omega) (by omega)
  have he6 := h7.1
  refine fb_cases h1 (by omega) (fun hx => by omega) (fun _ => ⟨lk_3 h1, ?_⟩) (fun hx => by omega) (fun hx => by omega) (fun hx => by omega) (fun hx => absurd hT (fun e => hx (by omega)))
  rw [hT]
  refine sp_inner h1 h7 (by omega) (fun _ _ => ⟨fun hx => absurd hx (by decide), fun _ => ?_⟩) (fun hx => absurd hx (by rw [Nat.add_sub_cancel]; omega))
  rintro M1 rfl
  rw [h7.2.1, show nI (e + 1) - 1 = nI e from nI_pred e]
  have f1 : Fr (fun a k => a = (gB g + 3) ∧ k = 6) nQ M (uI M (gB g + 3) 6 (nI e)) := Fr.rf.uI ⟨rfl, rfl⟩
  have s1 : StC g (uI M (gB g + 3) 6 (nI e)) e st ES CS := by
    refine ⟨by omega, by rw [s_II, if_pos rfl, if_pos rfl], by rw [f1.1 _ _ (by omega)]; exact h7.2.2.1, fun i hi => ?_⟩
    rw [f1.1 _ _ (by omega), f1.1 _ _ (by omega)]; exact h7.2.2.2 i (by omega)
  have i1 := h6.fr f1 (fun a k hh => by omega) (fun a k hh => (hh : False).elim)
  generalize uI M (gB g + 3) 6 (nI e) = M1 at f1 s1 i1 ⊢
  refine sp_addItem (f1.lay h1) i1 (by omega) (by omega) (fun M2 f2 i2 => ?_)
  rintro M3 rfl
  have f3 : Fr (fun a k => a = (gB g + 3) ∧ k = 7) nQ M2 (uI M2 (gB g + 3) 7 1) := Fr.rf.uI ⟨rfl, rfl⟩
  have f13 : Fr (fun a k => (a = (gB g + 3) ∧ (k = 3 ∨ k = 6 ∨ k = 7)) ∨ a = (gB g + 4)) (fun a _ => a = (gB g + 5) ∨ a = (gB g + 6)) M (uI M2 (gB g + 3) 7 1) := (f1.mono (fun a k hh => by omega) (fun a k hh => (hh : False).elim)).tr ((f2.mono (fun a k hh => by omega) (fun _ _ hh => hh)).tr (f3.mono (fun a k hh => by omega) (fun a k hh => (hh : False).elim)))
  exact SPc_next (h0.tr (f13.mono (fun a k hh => by unfold PQc; omega) (fun a k hh => by unfold QQc; omega))) (f13.lay h1) (h2.fr f13 (fun a k hh => by omega)) h3 (h4.fr f13 (fun a k hh => by omega) (fun a k hh => by omega)) (by omega) (by omega) h5.1 (by rw [List.length_append]; show L.length + 1 ≤ _; omega) (i2.fr f3 (fun a k hh => by omega) (fun a k hh => (hh : False).elim)) ((s1.fr f2 (fun a k hh => by omega)).st rfl) hk
/-- a token that may not come there -/
theorem fo_bad {g : Gh} {Mz M0 M : Mem} {post : Mem → Prop} {n : Nat} {bs : Nat → Nat} {q : Nat} {T : Tk} {e st : Nat} {L : List Itm} {ES CS : Nat → Nat} (hz : Lay g Mz) (h : QT g M0 M n bs q T e st L ES CS) (hst : st < 3) (hT : isPt T.1 = false) (hc : st = 0 ∨ ((st = 2 → T.1 ≠ 46) ∧ T.1 ≠ 124 ∧ (T.1 = 0 → e ≠ 0) ∧ (T.1 = 44 → e = 0 ∨ ES (e - 1) ≠ 125) ∧ (T.1 = 41 ∨ T.1 = 93 ∨ T.1 = 125 → e = 0 ∨ ES (e - 1) ≠ T.1))) (hf : ∀ M', Fr (PQc g) (QQc g) M0 M' → mI M' (gB g + 3) 8 = nI 1 → mI M' (gB g + 3) 9 = nI T.2.1 → post M') : wp_X2_faultOf g M (gB g + 3) (nI T.1) (vX T.1 T.2.2.1) (SPc g Mz post (fun z => Wc g Mz post (q + 1) z.2) q) := by
  have bad : SPc g Mz post (fun z => Wc g Mz post (q + 1) z.2) q 1 M := SPc_bad hz h.2.2.2.2.1 (k := 1) (by omega) (by omega) (fun M' f e8 e9 => hf M' (h.1.tr (f.mono (fun a k hh => by unfold PQc; omega) (fun a k hh => (hh : False).elim))) e8 e9)
  refine fo_else h hst hT (fun _ => bad) (fun hs => ?_)
  obtain ⟨h0, h1, h2, h3, h4, h5, h6, h7⟩ := h
  have h256 := (tc_lt h2.2.2.2.2.2.2.2 h3).1
  have he6 := h7.1
  obtain ⟨c1, c2, c3, c4, c5⟩ := hc.resolve_left hs
  refine fb_cases h1 h256 (fun hx => ?_) (fun hx => ⟨lk_3 h1, ?_⟩) (fun hx => ⟨lk_3 h1, ?_⟩) (fun hx => ?_) (fun hx => absurd hx c2) (fun _ => bad)
  · rw [h7.2.1]
    exact pk_eq e 0 (fun he => absurd he (c3 hx)) (fun _ => bad)
  · exact sp_inner h1 h7 h256 (fun a1 a2 => absurd (c5 hx) (by omega)) (fun _ => ⟨fun _ => bad, fun hx => absurd rfl hx⟩)
  · exact sp_inner h1 h7 (c := 125) (by omega) (fun a1 a2 => absurd (c4 hx) (by omega)) (fun _ => ⟨fun _ => bad, fun hx => absurd rfl hx⟩)
  · rw [h7.2.2.1]
    exact pk_eq st 2 (fun hs2 => absurd hx (c1 hs2)) (fun _ => bad)
/-- the end -/
theorem fo_end {g : Gh} {Mz M0 M : Mem} {post : Mem → Prop} {n : Nat} {bs : Nat → Nat} {q : Nat} {T : Tk} {st : Nat} {L : List Itm} {ES CS : Nat → Nat} (h : QT g M0 M n bs q T 0 st L ES CS) (hs1 : 1 ≤ st) (hst : st < 3) (hT : T.1 = 0) (hk : ∀ M', Fr (PQc g) (QQc g) M0 M' → mI M' (gB g + 3) 8 = 0 → ItC g M' L → L.length ≤ 200 → post M') : wp_X2_faultOf g M (gB g + 3) (nI T.1) (vX T.1 T.2.2.1) (SPc g Mz post (fun z => Wc g Mz post (q + 1) z.2) q) := by
  refine fo_else h hst (by rw [hT]; rfl) (fun hx => by omega) (fun _ => ?_)
  obtain ⟨h0, h1, h2, h3, h4, h5, h6, h7⟩ := h
  refine fb_cases h1 (by omega) (fun _ => ⟨fun _ => ?_, fun hx => absurd h7.2.1 hx⟩) (fun hx => by omega) (fun hx => by omega) (fun hx => by omega) (fun hx => by omega) (fun hx => absurd hT (fun e => hx (by omega)))
  exact SPc_end h4 hT (fun M' f e8 => hk M' (h0.tr (f.mono (fun a k hh => by unfold PQc; omega) (fun a k hh => (hh : False).elim))) e8 (h6.fr f (fun a k hh => by omega) (fun a k hh => (hh : False).elim)) (by omega))
