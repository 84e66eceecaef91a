/-! PURE: the class reads a form: one token -/
theorem StC.st {g : Gh} {M : Mem} {e st : Nat} {ES CS : Nat → Nat} (h : StC g M e st ES CS) {v : Int32} {s' : Nat} (hv : v = nI s') : StC g (uI M (gB g + 3) 7 v) e s' ES CS := by
  have f : Fr (fun a k => a = (gB g + 3) ∧ k = 7) nQ M (uI M (gB g + 3) 7 v) := Fr.rf.uI ⟨rfl, rfl⟩
  refine ⟨h.1, by rw [f.1 _ _ (by omega)]; exact h.2.1, by rw [s_II, if_pos rfl, if_pos rfl]; exact hv, fun i hi => ?_⟩
  rw [f.1 _ _ (by omega), f.1 _ _ (by omega)]; exact h.2.2.2 i hi
theorem sp_inner {g : Gh} {M : Mem} (h1 : Lay g M) {e st : Nat} {ES CS : Nat → Nat} (h : StC g M e st ES CS) {c : Nat} (hc : c < 256) {post : Int32 → Mem → Prop} (hy : 0 < e → ES (e - 1) = c → post 1 M) (hn : (e = 0 ∨ ES (e - 1) ≠ c) → post 0 M) : wp_X2_isInnermost g M (gB g + 3) (nI c) post := by
  have h6 := h.1
  refine ⟨lk_3 h1, ?_⟩
  rw [h.2.1]
  refine ⟨fun hx => ?_, fun hx => ⟨fun hx2 => ?_, fun _ => ?_⟩⟩
  · rcases Nat.eq_zero_or_pos e with h0 | h0
    · exact hn (Or.inl h0)
    · exact absurd hx (Int32.not_lt.mpr (show nI 1 ≤ nI e from nI_le (by omega) (by omega)))
  · exact absurd hx2 (Int32.not_lt.mpr (show nI e ≤ nI 6 from nI_le (by omega) (by omega)))
  · have h0 : 0 < e := by
      rcases Nat.eq_zero_or_pos e with h0 | h0
      · exact absurd (by rw [h0]; decide) hx
      · exact h0
    refine ⟨_, lr_3_4 h1, lk_7 h1, ?_⟩
    rw [show nI e - 1 = nI (e - 1) by rw [show (1 : Int32) = nI 1 from rfl, pk_sub (by omega)], nI_cl _ (by omega), ln_7 h1, (h.2.2.2 (e - 1) (by omega)).1]
    have he := (h.2.2.2 (e - 1) (by omega)).2.2.1
    exact ⟨pk_in (e - 1) 6 (by omega), pk_eq (ES (e - 1)) c (fun hx => hy h0 hx) (fun hx => hn (Or.inr hx))⟩
/-- a leaf's first token -/
theorem fo_leaf {g : Gh} {Mz M0 M : Mem} {post : Mem → Prop} {n : Nat} {bs : Nat → Nat} {q : Nat} {T : Tk} {e st : Nat} {L : List Itm} {ES CS : Nat → Nat} (h : QT g M0 M n bs q T e st L ES CS) (hst : st < 3) (hT : T.1 = 1 ∨ T.1 = 2) (hk : ∀ M', QS g M0 M' n bs (q + 1) (nxF bs n T) e T.1 (L ++ [(T.1, vX T.1 T.2.2.1, vX T.1 T.2.2.1)]) ES CS → Wc g Mz post (q + 1) M') : wp_X2_faultOf g M (gB g + 3) (nI T.1) (vX T.1 T.2.2.1) (SPc g Mz post (fun z => Wc g Mz post (q + 1) z.2) q) := by
  obtain ⟨h0, h1, h2, h3, h4, h5, h6, h7⟩ := h
  have h200 := tk_200 h3 (by omega) (by omega)
  refine ⟨lk_3 h1, ?_⟩
  rw [h7.2.2.1]
  refine pk_eq st 3 (fun hx => by omega) (fun _ => ?_)
  have fin : ∀ M1 v, Fr (fun a k => (a = (gB g + 3) ∧ k = 3) ∨ a = (gB g + 4)) (fun a _ => a = (gB g + 5) ∨ a = (gB g + 6)) M M1 → ItC g M1 (L ++ [(T.1, vX T.1 T.2.2.1, vX T.1 T.2.2.1)]) → v = nI T.1 → ∀ M2, M2 = uI M1 (gB g + 3) 7 v → SPc g Mz post (fun z => Wc g Mz post (q + 1) z.2) q 0 M2 := by
    rintro M1 v f1 i1 hv M2 rfl
    have f2 : Fr (fun a k => a = (gB g + 3) ∧ k = 7) nQ M1 (uI M1 (gB g + 3) 7 v) := Fr.rf.uI ⟨rfl, rfl⟩
    have f12 : Fr (fun a k => (a = (gB g + 3) ∧ (k = 3 ∨ k = 7)) ∨ a = (gB g + 4)) (fun a _ => a = (gB g + 5) ∨ a = (gB g + 6)) M (uI M1 (gB g + 3) 7 v) := (f1.mono (fun a k hh => by omega) (fun _ _ hh => hh)).tr (f2.mono (fun a k hh => by omega) (fun a k hh => (hh : False).elim))
    refine SPc_next (h0.tr (f12.mono (fun a k hh => by unfold PQc; omega) (fun a k hh => by unfold QQc; omega))) (f12.lay h1) (h2.fr f12 (fun a k hh => by omega)) h3 (h4.fr f12 (fun a k hh => by omega) (fun a k hh => by omega)) (by omega) (by omega) h5.1 (by rw [List.length_append]; show L.length + 1 ≤ _; omega) (i1.fr f2 (fun a k hh => by omega) (fun a k hh => (hh : False).elim)) ((h7.fr f1 (fun a k hh => by omega)).st hv) hk
  rcases hT with hT | hT
  · rw [hT] at fin ⊢
    exact ⟨fun _ => sp_addItem h1 h6 (by omega) (by omega) (fun M1 f1 i1 => fin M1 1 f1 i1 rfl), fun hx => absurd hx (by decide), fun hx => absurd hx (by decide), fun hx => absurd hx (by decide), fun hx => absurd hx (by decide), fun hx => absurd rfl hx.1⟩
  · rw [hT] at fin ⊢
    exact ⟨fun hx => absurd hx (by decide), fun _ => sp_addItem h1 h6 (by omega) (by omega) (fun M1 f1 i1 => fin M1 2 f1 i1 rfl), fun hx => absurd hx (by decide), fun hx => absurd hx (by decide), fun hx => absurd hx (by decide), fun hx => absurd rfl hx.2.1⟩
/-- the end of a range -/
theorem fo_range {g : Gh} {Mz M0 M : Mem} {post : Mem → Prop} {n : Nat} {bs : Nat → Nat} {q : Nat} {T : Tk} {e : Nat} {L : List Itm} {ES CS : Nat → Nat} {lo : Nat} (hz : Lay g Mz) (hlo : lo < 2 ^ 60) (h : QT g M0 M n bs q T e 3 (L ++ [(2, lN lo, lN lo)]) ES CS) (hk : T.1 = 2 → lo ≤ T.2.2.1 → ∀ M', QS g M0 M' n bs (q + 1) (nxF bs n T) e 1 (L ++ [(2, lN lo, lN T.2.2.1)]) ES CS → Wc g Mz post (q + 1) M') (he : ∀ k, ((k = 2 ∧ T.1 = 2 ∧ ¬ lo ≤ T.2.2.1) ∨ (k = 1 ∧ ¬ T.1 = 2)) → ∀ M', Fr (PQc g) (QQc g) M0 M' → mI M' (gB g + 3) 8 = nI k → mI M' (gB g + 3) 9 = nI T.2.1 → post M') : wp_X2_faultOf g M (gB g + 3) (nI T.1) (vX T.1 T.2.2.1) (SPc g Mz post (fun z => Wc g Mz post (q + 1) z.2) q) := by
  obtain ⟨h0, h1, h2, h3, h4, h5, h6, h7⟩ := h
  have hLl : L.length + 1 ≤ q := by have := h5.2.2; rw [List.length_append] at this; exact this
  have h256 := (tc_lt h2.2.2.2.2.2.2.2 h3).1
  refine ⟨lk_3 h1, ?_⟩
  rw [h7.2.2.1]
  refine ⟨fun _ => sp_closeRange h1 hlo h6 (by omega) h256 (fun hc => (tk_val (Or.inl rfl) h3 (Or.inr hc)).1) (fun M1 hc hle f1 i1 s1 => ?_) (fun hc hlt => ?_) (fun hc => ?_), fun hx => absurd rfl hx⟩
  · refine SPc_next (h0.tr (f1.mono (fun a k hh => by unfold PQc; omega) (fun a k hh => by unfold QQc; omega))) (f1.lay h1) (h2.fr f1 (fun a k hh => by omega)) h3 (h4.fr f1 (fun a k hh => by omega) (fun a k hh => by omega)) (by omega) (by omega) h5.1 (by rw [List.length_append]; show L.length + 1 ≤ _; omega) i1 ⟨h7.1, by rw [f1.1 _ _ (by omega)]; exact h7.2.1, s1, fun i hi => by rw [f1.1 _ _ (by omega), f1.1 _ _ (by omega)]; exact h7.2.2.2 i hi⟩ (hk hc hle)
  · exact SPc_bad hz h4 (k := 2) (by omega) (by omega) (fun M' f e8 e9 => he 2 (Or.inl ⟨rfl, hc, by omega⟩) M' (h0.tr (f.mono (fun a k hh => by unfold PQc; omega) (fun a k hh => (hh : False).elim))) e8 e9)
  · exact SPc_bad hz h4 (k := 1) (by omega) (by omega) (fun M' f e8 e9 => he 1 (Or.inr ⟨rfl, hc⟩) M' (h0.tr (f.mono (fun a k hh => by unfold PQc; omega) (fun a k hh => (hh : False).elim))) e8 e9)
