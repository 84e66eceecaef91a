/-! PURE: the class reads a form: signs -/
theorem opn_c {b : Nat} (hb : b ≤ 2) : opn b < 128 ∧ 3 < opn b ∧ cls b < 256 ∧ (opn b = 91 ∨ opn b = 40 ∨ opn b = 123) := by
  rcases (show b = 0 ∨ b = 1 ∨ b = 2 by omega) with rfl | rfl | rfl <;> decide
theorem sp_openB {g : Gh} {M : Mem} (h1 : Lay g M) {e st : Nat} {ES CS : Nat → Nat} (h7 : StC g M e st ES CS) {L : List Itm} (h6 : ItC g M L) (hl : L.length < 200) {b : Nat} (hb : b ≤ 2) {post : Int32 → Mem → Prop} (hq : e < 6 → ∀ M', Fr (PQc g) (QQc g) M M' → Fr (fun a k => (a = (gB g + 3) ∧ (k = 3 ∨ k = 6 ∨ k = 7)) ∨ a = (gB g + 4) ∨ a = (gB g + 7) ∨ a = (gB g + 8)) (fun a _ => a = (gB g + 5) ∨ a = (gB g + 6)) M M' → ItC g M' (L ++ [(opn b, 0, 0)]) → StC g M' (e + 1) 0 (upN ES e (cls b)) (upN CS e 1) → post 0 M') (hn : e = 6 → post 3 M) : wp_X2_openBracket g M (gB g + 3) (nI (opn b)) (nI (cls b)) post := by
  have hob := opn_c hb
  have he6 := h7.1
  refine ⟨lk_3 h1, ?_⟩
  rw [h7.2.1]
  refine pk_lt e 6 (fun he => ⟨_, lr_3_4 h1, lk_7 h1, by rw [ln_7 h1]; exact pk_in e 6 he, ?_⟩) (fun he => hn (by omega))
  rintro M1 rfl
  rw [nI_cl _ (by omega)]
  have e1 : mI (uI M (gB g + 7) e (nI (cls b))) (gB g + 3) 6 = nI e := by rw [s_II, if_neg (by omega)]; exact h7.2.1
  rw [e1]
  refine ⟨_, lr_3_5 (g := g) h1, lk_8 h1, by rw [ln_8 h1]; exact pk_in e 6 he, ?_⟩
  rintro M2 rfl
  rw [nI_cl _ (by omega)]
  rintro M3 rfl
  have e2 : mI (uI (uI M (gB g + 7) e (nI (cls b))) (gB g + 8) e 1) (gB g + 3) 6 = nI e := by rw [s_II, if_neg (by omega)]; exact e1
  rw [e2, nI_1]
  have f3 : Fr (fun a k => (a = (gB g + 3) ∧ k = 6) ∨ (a = (gB g + 7) ∧ k = e) ∨ (a = (gB g + 8) ∧ k = e)) nQ M (uI (uI (uI M (gB g + 7) e (nI (cls b))) (gB g + 8) e 1) (gB g + 3) 6 (nI (e + 1))) := ((Fr.rf.uI (by omega)).uI (by omega)).uI (by omega)
  have s3 : StC g (uI (uI (uI M (gB g + 7) e (nI (cls b))) (gB g + 8) e 1) (gB g + 3) 6 (nI (e + 1))) (e + 1) st (upN ES e (cls b)) (upN CS e 1) := by
    refine ⟨by omega, by rw [s_II, if_pos rfl, if_pos rfl], by rw [f3.1 _ _ (by omega)]; exact h7.2.2.1, fun i hi => ?_⟩
    by_cases hie : i = e
    · subst hie
      rw [upN_s, upN_s]
      refine ⟨?_, ?_, hob.2.2.1, by omega⟩
      · rw [s_II, if_neg (by omega), s_II, if_neg (by omega), s_II, if_pos rfl, if_pos rfl]
      · rw [s_II, if_neg (by omega), s_II, if_pos rfl, if_pos rfl]; rfl
    · rw [upN_n _ _ hie, upN_n _ _ hie, f3.1 _ _ (by omega), f3.1 _ _ (by omega)]
      exact h7.2.2.2 i (by omega)
  have i3 := h6.fr f3 (fun a k hh => by omega) (fun a k hh => (hh : False).elim)
  generalize uI (uI (uI M (gB g + 7) e (nI (cls b))) (gB g + 8) e 1) (gB g + 3) 6 (nI (e + 1)) = M3 at f3 s3 i3 ⊢
  refine sp_addItem (f3.lay h1) i3 hl hob.1 (fun M4 f4 i4 => ?_)
  rintro M5 rfl
  have f5 : Fr (fun a k => a = (gB g + 3) ∧ k = 7) nQ M4 (uI M4 (gB g + 3) 7 0) := Fr.rf.uI ⟨rfl, rfl⟩
  have fall : Fr (fun a k => (a = (gB g + 3) ∧ (k = 3 ∨ k = 6 ∨ k = 7)) ∨ a = (gB g + 4) ∨ a = (gB g + 7) ∨ a = (gB g + 8)) (fun a _ => a = (gB g + 5) ∨ a = (gB g + 6)) M (uI M4 (gB g + 3) 7 0) := (f3.mono (fun a k hh => by omega) (fun a k hh => (hh : False).elim)).tr ((f4.mono (fun a k hh => by omega) (fun _ _ hh => hh)).tr (f5.mono (fun a k hh => by omega) (fun a k hh => (hh : False).elim)))
  exact hq he _ (fall.mono (fun a k hh => by unfold PQc; omega) (fun a k hh => by unfold QQc; omega)) fall (i4.fr f5 (fun a k hh => by omega) (fun a k hh => (hh : False).elim)) ((s3.fr f4 (fun a k hh => by omega)).st rfl)
theorem fo_open {g : Gh} {Mz M0 M : Mem} {post : Mem → Prop} {n : Nat} {bs : Nat → Nat} {q : Nat} {T : Tk} {e st : Nat} {L : List Itm} {ES CS : Nat → Nat} (hz : Lay g Mz) (h : QT g M0 M n bs q T e st L ES CS) (hst : st < 3) {b : Nat} (hb : b ≤ 2) (hT : T.1 = opn b) (hk : e < 6 → ∀ M', QS g M0 M' n bs (q + 1) (nxF bs n T) (e + 1) 0 (L ++ [(opn b, 0, 0)]) (upN ES e (cls b)) (upN CS e 1) → Wc g Mz post (q + 1) M') (he : e = 6 → ∀ M', Fr (PQc g) (QQc g) M0 M' → mI M' (gB g + 3) 8 = nI 3 → mI M' (gB g + 3) 9 = nI T.2.1 → post M') : wp_X2_faultOf g M (gB g + 3) (nI T.1) (vX T.1 T.2.2.1) (SPc g Mz post (fun z => Wc g Mz post (q + 1) z.2) q) := by
  obtain ⟨h0, h1, h2, h3, h4, h5, h6, h7⟩ := h
  have hob := opn_c hb
  have h200 := tk_200 h3 (by omega) (by omega)
  refine ⟨lk_3 h1, ?_⟩
  rw [h7.2.2.1]
  refine pk_eq st 3 (fun hx => by omega) (fun _ => ?_)
  have fin : wp_X2_openBracket g M (gB g + 3) (nI (opn b)) (nI (cls b)) (SPc g Mz post (fun z => Wc g Mz post (q + 1) z.2) q) := by
    refine sp_openB h1 h7 h6 (by omega) hb (fun he6 M1 fq f1 i1 s1 => ?_) (fun he6 => ?_)
    · exact SPc_next (h0.tr fq) (f1.lay h1) (h2.fr f1 (fun a k hh => by omega)) h3 (h4.fr f1 (fun a k hh => by omega) (fun a k hh => by omega)) (by omega) (by omega) h5.1 (by rw [List.length_append]; show L.length + 1 ≤ _; omega) i1 s1 (hk he6)
    · exact SPc_bad hz h4 (k := 3) (by omega) (by omega) (fun M' f e8 e9 => he he6 M' (h0.tr (f.mono (fun a k hh => by unfold PQc; omega) (fun a k hh => (hh : False).elim))) e8 e9)
  rw [hT]
  rcases (show b = 0 ∨ b = 1 ∨ b = 2 by omega) with rfl | rfl | rfl
  · exact ⟨fun hx => absurd hx (by decide), fun hx => absurd hx (by decide), fun hx => absurd hx (by decide), fun _ => fin, fun hx => absurd hx (by decide), fun hx => absurd rfl hx.2.2.2.1⟩
  · exact ⟨fun hx => absurd hx (by decide), fun hx => absurd hx (by decide), fun _ => fin, fun hx => absurd hx (by decide), fun hx => absurd hx (by decide), fun hx => absurd rfl hx.2.2.1⟩
  · exact ⟨fun hx => absurd hx (by decide), fun hx => absurd hx (by decide), fun hx => absurd hx (by decide), fun hx => absurd hx (by decide), fun _ => fin, fun hx => absurd rfl hx.2.2.2.2⟩
/-- a token that begins no part -/
theorem fo_else {g : Gh} {M0 M : Mem} {n : Nat} {bs : Nat → Nat} {q : Nat} {T : Tk} {e st : Nat} {L : List Itm} {ES CS : Nat → Nat} {S : Int32 → Mem → Prop} {v : Int64} (h : QT g M0 M n bs q T e st L ES CS) (hst : st < 3) (hT : isPt T.1 = false) (h0 : st = 0 → S 1 M) (h1 : st ≠ 0 → wp_X2_faultBehindPart g M (gB g + 3) (nI T.1) S) : wp_X2_faultOf g M (gB g + 3) (nI T.1) v S := by
  obtain ⟨_, l1, h2, h3, h4, h5, h6, h7⟩ := h
  have h256 := (tc_lt h2.2.2.2.2.2.2.2 h3).1
  have hp := of_decide_eq_false hT
  have ne : ∀ c, c < 256 → ¬ T.1 = c → nI T.1 = nI c → False := fun c hc hx hy => hx ((nI_eq (by omega) (by omega)).mp hy)
  refine ⟨lk_3 l1, ?_⟩
  rw [h7.2.2.1]
  refine pk_eq st 3 (fun hx => by omega) (fun _ => ⟨fun hx => (ne 1 (by omega) (by omega) hx).elim, fun hx => (ne 2 (by omega) (by omega) hx).elim, fun hx => (ne 40 (by omega) (by omega) hx).elim, fun hx => (ne 91 (by omega) (by omega) hx).elim, fun hx => (ne 123 (by omega) (by omega) hx).elim, fun _ => pk_eq st 0 (fun hx => h0 hx) (fun hx => h1 hx)⟩)
/-- the cases behind a part -/
theorem fb_cases {g : Gh} {M : Mem} (h1 : Lay g M) {c : Nat} (hc : c < 256) {S : Int32 → Mem → Prop} (a0 : c = 0 → (((mI M (gB g + 3) 6) = 0) → S 0 M) ∧ (¬ ((mI M (gB g + 3) 6) = 0) → S 1 M)) (a41 : c = 41 ∨ c = 93 ∨ c = 125 → wp_X2_closeBracket g M (gB g + 3) (nI c) S) (a44 : c = 44 → wp_X2_nextOfSet g M (gB g + 3) (nI c) S) (a46 : c = 46 → (((mI M (gB g + 3) 7) = 2) → ∀ M8, M8 = uI M (gB g + 3) 7 3 → (S 0 M8)) ∧ (¬ ((mI M (gB g + 3) 7) = 2) → S 1 M)) (a124 : c = 124 → wp_X2_addItem g M (gB g + 3) (nI c) 0 (fun M11 => ∀ M12, M12 = uI M11 (gB g + 3) 7 0 → (S 0 M12))) (ae : ¬ (c = 0 ∨ c = 41 ∨ c = 44 ∨ c = 46 ∨ c = 93 ∨ c = 124 ∨ c = 125) → S 1 M) : wp_X2_faultBehindPart g M (gB g + 3) (nI c) S := by
  have eq : ∀ d, d < 256 → nI c = nI d → c = d := fun d hd hx => (nI_eq (by omega) (by omega)).mp hx
  refine ⟨lk_3 h1, fun hx => a0 (eq 0 (by omega) hx), fun hx => a41 (Or.inl (eq 41 (by omega) hx)), fun hx => a44 (eq 44 (by omega) hx), fun hx => a46 (eq 46 (by omega) hx), fun hx => a41 (Or.inr (Or.inl (eq 93 (by omega) hx))), fun hx => a124 (eq 124 (by omega) hx), fun hx => a41 (Or.inr (Or.inr (eq 125 (by omega) hx))), fun hx => ae (fun hy => ?_)⟩
  obtain ⟨x1, x2, x3, x4, x5, x6, x7⟩ := hx
  rcases hy with rfl | rfl | rfl | rfl | rfl | rfl | rfl
  · exact x1 rfl
  · exact x2 rfl
  · exact x3 rfl
  · exact x4 rfl
  · exact x5 rfl
  · exact x6 rfl
  · exact x7 rfl
