/-! PURE: the class looks for a pack -/
def RC (g : Gh) (M : Mem) (s : PS) : Prop := mI M (gB g + 61) 9 = nI (pN s) ∧ mI M (gB g + 61) 3 = nI (pL s) ∧ mI M (gB g + 61) 11 = pH s ∧ (∀ j, j < pN s → mI M (gB g + 65) j = nI (pK s j)) ∧ ∀ t, t < 8 → mI M (gB g + 66) t = pT s t
def SC (g : Gh) (M : Mem) (A : PA) : Prop := Lay g M ∧ (aF A ≤ 60 ∧ aW A ≤ 48 ∧ 1 ≤ aW A ∧ aK A ≤ 100000) ∧ mI M (gB g + 61) 7 = nI (aF A) ∧ mI M (gB g + 61) 12 = aM A ∧ mI M (gB g + 61) 13 = aLo A ∧ mI M (gB g + 61) 14 = aHi A ∧ ∀ i, i < aF A → aT A i < 8 ∧ mI M (gB g + 63) i = nI (aT A i) ∧ mI M (gB g + 64) i = aH A i
def PSr (g : Gh) : Nat → Nat → Prop := fun a k => (a = (gB g + 61) ∧ (k = 3 ∨ k = 9 ∨ k = 11)) ∨ a = (gB g + 65) ∨ a = (gB g + 66)
theorem SC.fr {g : Gh} {M M' : Mem} {A : PA} (h : SC g M A) (f : Fr (PSr g) nQ M M') : SC g M' A := by
  obtain ⟨h1, h2, h3, h4, h5, h6, h7⟩ := h
  refine ⟨f.lay h1, h2, ?_, ?_, ?_, ?_, fun i hi => ⟨(h7 i hi).1, ?_, ?_⟩⟩
  · rw [f.1 _ _ (by unfold PSr; omega)]; exact h3
  · rw [f.1 _ _ (by unfold PSr; omega)]; exact h4
  · rw [f.1 _ _ (by unfold PSr; omega)]; exact h5
  · rw [f.1 _ _ (by unfold PSr; omega)]; exact h6
  · rw [f.1 _ _ (by unfold PSr; omega)]; exact (h7 i hi).2.1
  · rw [f.1 _ _ (by unfold PSr; omega)]; exact (h7 i hi).2.2
theorem sp_nwr {g : Gh} {M : Mem} {A : PA} {s : PS} (h : SC g M A) (hr : RC g M s) (hF : pF s ≤ aF A) {post : Int32 → Mem → Prop} (hq : post (nI (nwr A (pT s) (aF A - pF s) (pF s))) M) : wp_X8_nextWithRoom g M (gB g + 61) (nI (pF s)) post := by
  obtain ⟨h1, h2, h3, h4, h5, h6, h7⟩ := h
  refine ⟨lk_61 h1, ?_⟩
  refine lfp_up (fun i z => z = (nI i, M) ∧ nwr A (pT s) (aF A - i) i = nwr A (pT s) (aF A - pF s) (pF s)) (aF A) ?_ ?_ (pF s) _ hF ⟨rfl, rfl⟩
  · rintro bk z ⟨rfl, e⟩
    show bd_X8_nextWithRoom_2 g M (gB g + 61) _ post bk (nI (aF A)) M
    unfold bd_X8_nextWithRoom_2
    rw [h3]
    rw [Nat.sub_self] at e
    have e : aF A = _ := e
    rw [← e] at hq
    exact ⟨fun hx => absurd hx (nI_pos (by omega)), fun _ => pk_le (aF A) (aF A) (fun _ => hq) (fun hx => by omega)⟩
  · rintro bk i z hi ⟨rfl, e⟩ hb
    show bd_X8_nextWithRoom_2 g M (gB g + 61) _ post bk (nI i) M
    unfold bd_X8_nextWithRoom_2
    obtain ⟨a1, a2, a3⟩ := h7 i hi
    rw [h3]
    refine ⟨fun hx => absurd hx (nI_pos (by omega)), fun _ => pk_le (aF A) i (fun hx => by omega) (fun _ => ⟨_, lr_61_5 h1, lk_63 h1, ?_⟩)⟩
    rw [ln_63 h1, nI_cl i (by omega), a2]
    refine pk_le 60 i (fun hx => by omega) (fun _ => ⟨pk_in i 60 (by omega), fun hx => absurd hx (nI_pos (by omega)), fun _ => pk_le 8 (aT A i) (fun hx => by omega) (fun _ => ⟨_, lr_61_10 h1, lk_66 h1, by rw [ln_66 h1]; exact pk_in (aT A i) 8 a1, ?_⟩)⟩)
    rw [nI_cl (aT A i) (by omega), h4, hr.2.2.2.2 _ a1]
    have en : nwr A (pT s) (aF A - i) i = if aM A ≤ pT s (aT A i) then nwr A (pT s) (aF A - (i + 1)) (i + 1) else i := by
      rw [show aF A - i = (aF A - (i + 1)) + 1 by omega]; rfl
    refine ⟨fun hx => ?_, fun hx => ?_⟩
    · rw [if_pos hx] at en
      show bk _
      rw [nI_1]
      exact hb _ ⟨rfl, by rw [← en]; exact e⟩
    · rw [if_neg hx] at en
      rw [← e, en] at hq; exact hq
theorem sp_weigh {g : Gh} {M : Mem} {A : PA} (h : SC g M A) {i : Nat} (hi : i < aF A) (tm hs : Int32) {pt : Nat → Int32} (h11 : mI M (gB g + 61) 11 = hs) (h66 : ∀ t, t < 8 → mI M (gB g + 66) t = pt t) {post : Mem → Prop} (hq : ∀ M', Fr (fun a k => (a = (gB g + 61) ∧ k = 11) ∨ a = (gB g + 66)) nQ M M' → mI M' (gB g + 61) 11 = hs + tm * aH A i → (∀ t, t < 8 → mI M' (gB g + 66) t = upN pt (aT A i) (pt (aT A i) + tm) t) → post M') : wp_X8_weigh g M (gB g + 61) (nI i) tm post := by
  obtain ⟨h1, h2, h3, h4, h5, h6, h7⟩ := h
  obtain ⟨a1, a2, a3⟩ := h7 i hi
  refine ⟨lk_61 h1, fun hx => absurd hx (nI_pos (by omega)), fun _ => ⟨_, lr_61_5 h1, lk_63 h1, ?_⟩⟩
  rw [ln_63 h1, nI_cl i (by omega), a2]
  refine pk_le 60 i (fun hx => by omega) (fun _ => ⟨pk_in i 60 (by omega), fun hx => absurd hx (nI_pos (by omega)), fun _ => pk_le 8 (aT A i) (fun hx => by omega) (fun _ => ⟨_, lr_61_10 h1, lk_66 h1, by rw [ln_66 h1]; exact pk_in (aT A i) 8 a1, ?_⟩)⟩)
  rintro M13 rfl
  rw [nI_cl (aT A i) (by omega), h66 _ a1]
  refine ⟨_, lr_61_6 h1, lk_64 h1, by rw [ln_64 h1]; exact pk_in i 60 (by omega), ?_⟩
  rintro M19 rfl
  rw [show mI (uI M (gB g + 66) (aT A i) (pt (aT A i) + tm)) (gB g + 61) 11 = hs by rw [s_II, if_neg (by omega)]; exact h11, show mI (uI M (gB g + 66) (aT A i) (pt (aT A i) + tm)) (gB g + 64) i = aH A i by rw [s_II, if_neg (by omega)]; exact a3]
  refine hq _ ((Fr.rf.uI (by omega)).uI (by omega)) ?_ (fun t ht => ?_)
  · rw [s_II, if_pos rfl, if_pos rfl]
  · rw [s_II, if_neg (by omega), s_II, if_pos rfl]
    by_cases hte : t = aT A i
    · subst hte; rw [if_pos rfl, upN_s]
    · rw [if_neg hte, upN_n _ _ hte]; exact h66 t ht
theorem sp_putIn {g : Gh} {M : Mem} {A : PA} {s : PS} (h : SC g M A) (hr : RC g M s) (ho : okS A s) (hW : pN s < aW A) {i : Nat} (hi : i < aF A) {post : Mem → Prop} (hq : ∀ M', Fr (PSr g) nQ M M' → RC g M' (putP A s i) → post M') : wp_X8_putIn g M (gB g + 61) (nI i) post := by
  have h1 := h.1
  have h2 := h.2.1
  have ho1 := ho.2.2.1
  refine ⟨lk_61 h1, _, lr_61_8 h1, lk_65 h1, ?_⟩
  rw [ln_65 h1, hr.1]
  refine pk_le 48 (pN s) (fun hx => by omega) (fun _ => ?_)
  rintro M5 rfl
  rw [hr.2.1, nI_1]
  have e9 : mI (uI M (gB g + 61) 3 (nI (pL s + 1))) (gB g + 61) 9 = nI (pN s) := by rw [s_II, if_pos rfl, if_neg (by decide)]; exact hr.1
  rw [e9]
  refine ⟨pk_in (pN s) 48 (by omega), ?_⟩
  rintro M8 rfl M10 rfl
  rw [nI_cl (pN s) (by omega), show mI (uI (uI M (gB g + 61) 3 (nI (pL s + 1))) (gB g + 65) (pN s) (nI i)) (gB g + 61) 9 = nI (pN s) by rw [s_II, if_neg (by omega)]; exact e9, nI_1]
  have f : Fr (fun a k => (a = (gB g + 61) ∧ (k = 3 ∨ k = 9)) ∨ a = (gB g + 65)) nQ M (uI (uI (uI M (gB g + 61) 3 (nI (pL s + 1))) (gB g + 65) (pN s) (nI i)) (gB g + 61) 9 (nI (pN s + 1))) := ((Fr.rf.uI (by omega)).uI (by omega)).uI (by omega)
  have e1 : mI (uI (uI (uI M (gB g + 61) 3 (nI (pL s + 1))) (gB g + 65) (pN s) (nI i)) (gB g + 61) 9 (nI (pN s + 1))) (gB g + 61) 9 = nI (pN s + 1) := by rw [s_II, if_pos rfl, if_pos rfl]
  have e3 : mI (uI (uI (uI M (gB g + 61) 3 (nI (pL s + 1))) (gB g + 65) (pN s) (nI i)) (gB g + 61) 9 (nI (pN s + 1))) (gB g + 61) 3 = nI (pL s + 1) := by rw [s_II, if_pos rfl, if_neg (by decide), s_II, if_neg (by omega), s_II, if_pos rfl, if_pos rfl]
  have e65 : ∀ j, j < pN s + 1 → mI (uI (uI (uI M (gB g + 61) 3 (nI (pL s + 1))) (gB g + 65) (pN s) (nI i)) (gB g + 61) 9 (nI (pN s + 1))) (gB g + 65) j = nI (upN (pK s) (pN s) i j) := by
    intro j hj
    rw [s_II, if_neg (by omega), s_II, if_pos rfl]
    by_cases hjn : j = pN s
    · subst hjn; rw [if_pos rfl, upN_s]
    · rw [if_neg hjn, upN_n _ _ hjn, s_II, if_neg (by omega)]; exact hr.2.2.2.1 j (by omega)
  generalize uI (uI (uI M (gB g + 61) 3 (nI (pL s + 1))) (gB g + 65) (pN s) (nI i)) (gB g + 61) 9 (nI (pN s + 1)) = M1 at f e1 e3 e65 ⊢
  have fS : Fr (PSr g) nQ M M1 := f.mono (fun a k hh => by unfold PSr; omega) (fun _ _ hh => hh)
  refine sp_weigh (h.fr fS) hi 1 (pH s) (by rw [f.1 _ _ (by omega)]; exact hr.2.2.1) (fun t ht => by rw [f.1 _ _ (by omega)]; exact hr.2.2.2.2 t ht) (fun M2 f2 w2 v2 => hq M2 (fS.tr (f2.mono (fun a k hh => by unfold PSr; omega) (fun _ _ hh => hh))) ⟨?_, ?_, ?_, fun j hj => ?_, v2⟩)
  · rw [f2.1 _ _ (by omega)]; exact e1
  · rw [f2.1 _ _ (by omega)]; exact e3
  · rw [w2, Int32.one_mul]; rfl
  · rw [f2.1 _ _ (by omega)]; exact e65 j hj
theorem sp_takeOut {g : Gh} {M : Mem} {A : PA} {s : PS} (h : SC g M A) (hr : RC g M s) (ho : okS A s) (h0 : pN s ≠ 0) {post : Int32 → Mem → Prop} (hq : ∀ M', Fr (PSr g) nQ M M' → RC g M' (takP A s) → post (nI (pK s (pN s - 1))) M') : wp_X8_takeOut g M (gB g + 61) post := by
  have h1 := h.1
  have h2 := h.2.1
  have ho1 := ho.1
  have hk := ho.2.2.2.2 (pN s - 1) (by omega)
  refine ⟨lk_61 h1, ?_⟩
  rw [hr.1]
  refine pk_lt (pN s) 1 (fun hx => by omega) (fun _ => ⟨_, lr_61_8 h1, lk_65 h1, ?_⟩)
  rw [ln_65 h1]
  refine pk_le (pN s) 48 (fun _ => ?_) (fun hx => by omega)
  rintro M6 rfl
  rw [show nI (pN s) - 1 = nI (pN s - 1) from pk_sub (b := 1) (by omega)]
  have f : Fr (fun a k => a = (gB g + 61) ∧ k = 9) nQ M (uI M (gB g + 61) 9 (nI (pN s - 1))) := Fr.rf.uI ⟨rfl, rfl⟩
  have e9 : mI (uI M (gB g + 61) 9 (nI (pN s - 1))) (gB g + 61) 9 = nI (pN s - 1) := by rw [s_II, if_pos rfl, if_pos rfl]
  generalize uI M (gB g + 61) 9 (nI (pN s - 1)) = M1 at f e9 ⊢
  rw [e9]
  have fS : Fr (PSr g) nQ M M1 := f.mono (fun a k hh => by unfold PSr; omega) (fun _ _ hh => hh)
  have e65 : mI M1 (gB g + 65) (pN s - 1) = nI (pK s (pN s - 1)) := by rw [f.1 _ _ (by omega)]; exact hr.2.2.2.1 _ (by omega)
  refine ⟨pk_in (pN s - 1) 48 (by omega), ?_⟩
  rw [nI_cl (pN s - 1) (by omega), e65]
  refine sp_weigh (pt := pT s) (h.fr fS) hk (-1) (pH s) (by rw [f.1 _ _ (by omega)]; exact hr.2.2.1) (fun t ht => by rw [f.1 _ _ (by omega)]; exact hr.2.2.2.2 t ht) (fun M2 f2 w2 v2 => ⟨_, lr_61_8 (f2.lay (fS.lay h1)), lk_65 h1, ?_, ?_⟩)
  · rw [ln_65 h1, f2.1 _ _ (by omega), e9]; exact pk_in (pN s - 1) 48 (by omega)
  · rw [f2.1 (gB g + 61) 9 (by omega), e9, nI_cl (pN s - 1) (by omega), f2.1 (gB g + 65) _ (by omega), e65]
    refine hq M2 (fS.tr (f2.mono (fun a k hh => by unfold PSr; omega) (fun _ _ hh => hh))) ⟨?_, ?_, ?_, fun j hj => ?_, fun t ht => ?_⟩
    · rw [f2.1 _ _ (by omega)]; exact e9
    · rw [f2.1 _ _ (by omega), f.1 _ _ (by omega)]; exact hr.2.1
    · rw [w2, neg1mul]; rfl
    · rw [f2.1 _ _ (by omega), f.1 _ _ (by omega)]
      exact hr.2.2.2.1 j (by have hj : j < pN s - 1 := hj; omega)
    · rw [v2 t ht]
      show _ = upN (pT s) (aT A (pK s (pN s - 1))) (pT s (aT A (pK s (pN s - 1))) - 1) t
      rw [Int32.sub_eq_add_neg]
theorem sp_fill8 {g : Gh} {M : Mem} (h1 : Lay g M) {post : Mem → Prop} (hq : ∀ M', Fr (fun a _ => a = (gB g + 66)) nQ M M' → (∀ t, t < 8 → mI M' (gB g + 66) t = 0) → post M') : wp_J7_fill_53178 g M (gB g + 66) 0 post := by
  refine ⟨lk_66 h1, ?_⟩
  rw [ln_66 h1]
  refine lfp_up (fun i z => ∃ M', z = (nI i, nI 8, M') ∧ Fr (fun a _ => a = (gB g + 66)) nQ M M' ∧ ∀ t, t < i → mI M' (gB g + 66) t = 0) 8 ?_ ?_ 0 _ (by omega) ⟨M, rfl, Fr.rf, fun t ht => by omega⟩
  · rintro bk z ⟨M', rfl, f, e⟩
    exact pk_le 8 8 (fun _ => hq M' f e) (fun hx => by omega)
  · rintro bk i z hi ⟨M', rfl, f, e⟩ hb
    show bd_J7_fill_53178_5 g M (gB g + 66) 0 post bk (nI i) (nI 8) M'
    unfold bd_J7_fill_53178_5
    refine pk_le 8 i (fun hx => by omega) (fun _ => ⟨lk_66 h1, by rw [ln_66 h1]; exact pk_in i 8 hi, ?_⟩)
    rintro M4 rfl
    rw [nI_1, nI_cl i (by omega)]
    refine hb _ ⟨_, rfl, f.uI rfl, fun t ht => ?_⟩
    rw [s_II, if_pos rfl]
    by_cases hti : t = i
    · rw [if_pos hti]
    · rw [if_neg hti]; exact e t (by omega)
def s0P : PS := (0, 0, 0, 0, fun _ => 0, fun _ => 0)
theorem sp_search {g : Gh} {M : Mem} {A : PA} (h : SC g M A) {F : Nat} (hF : muP A s0P < F) {post : Int32 → Mem → Prop} (hq : ∀ (M' : Mem), Fr (PSr g) nQ M M' → RC g M' (run A F s0P).2 → okS A (run A F s0P).2 → ((run A F s0P).1 = 0 → pN (run A F s0P).2 = aW A) → (run A F s0P).1 ≤ 2 → post (nI (run A F s0P).1) (if (run A F s0P).1 = 0 then uI M' (gB g + 61) 2 (nI (pN (run A F s0P).2)) else M')) : wp_X8_search g M (gB g + 61) (nI (aW A)) (nI (aK A)) post := by
  have h1 := h.1
  have h2 := h.2.1
  refine ⟨lk_61 h1, ?_⟩
  rintro M22 rfl M24 rfl M26 rfl
  have f0 : Fr (PSr g) nQ M (uI (uI (uI M (gB g + 61) 9 0) (gB g + 61) 11 0) (gB g + 61) 3 0) := ((Fr.rf.uI (by unfold PSr; omega)).uI (by unfold PSr; omega)).uI (by unfold PSr; omega)
  have z9 : mI (uI (uI (uI M (gB g + 61) 9 0) (gB g + 61) 11 0) (gB g + 61) 3 0) (gB g + 61) 9 = nI 0 ∧ mI (uI (uI (uI M (gB g + 61) 9 0) (gB g + 61) 11 0) (gB g + 61) 3 0) (gB g + 61) 3 = nI 0 ∧ mI (uI (uI (uI M (gB g + 61) 9 0) (gB g + 61) 11 0) (gB g + 61) 3 0) (gB g + 61) 11 = 0 := by
    refine ⟨?_, ?_, ?_⟩ <;> simp [s_II, nI_0]
  generalize uI (uI (uI M (gB g + 61) 9 0) (gB g + 61) 11 0) (gB g + 61) 3 0 = M1 at f0 z9 ⊢
  refine ⟨_, lr_61_10 (f0.lay h1), sp_fill8 (f0.lay h1) (fun M2 f2 z2 => ?_)⟩
  have f02 : Fr (PSr g) nQ M M2 := f0.tr (f2.mono (fun a k hh => by unfold PSr; omega) (fun _ _ hh => hh))
  have r0 : RC g M2 s0P := by
    refine ⟨?_, ?_, ?_, fun j hj => absurd hj (by show ¬ j < 0; omega), z2⟩
    · rw [f2.1 _ _ (by omega)]; exact z9.1
    · rw [f2.1 _ _ (by omega)]; exact z9.2.1
    · rw [f2.1 _ _ (by omega)]; exact z9.2.2
  have ok0 : okS A s0P := ⟨Nat.zero_le _, Nat.zero_le _, Nat.zero_le _, Nat.zero_le _, fun j hj => absurd hj (by show ¬ j < 0; omega)⟩
  generalize hR : run A F s0P = R at hq
  refine lfp_ms (fun z => ∃ (s : PS) (M' : Mem) (k : Nat), z = (nI (pF s), nI (2 * pL s - pN s), M') ∧ Fr (PSr g) nQ M M' ∧ RC g M' s ∧ okS A s ∧ muP A s < k ∧ run A k s = R) (fun z => (aK A - (mI z.2.2 (gB g + 61) 3).toNatClampNeg) * 100 + (mI z.2.2 (gB g + 61) 9).toNatClampNeg) ?_ _ ⟨s0P, M2, F, rfl, f02, r0, ok0, hF, hR⟩
  rintro bk z ⟨s, M', k, rfl, f, hr, ho, hk, e⟩ hb
  have hS := h.fr f
  have l' := hS.1
  obtain ⟨o1, o2, o3, o4, o5⟩ := id ho
  obtain ⟨k, rfl⟩ : ∃ k', k = k' + 1 := ⟨k - 1, by omega⟩
  have er : run A (k + 1) s = if pN s = aW A ∧ ¬ pH s < aLo A ∧ ¬ aHi A < pH s then (0, s) else if nxI A s < aF A then (if pL s = aK A then (2, s) else run A k (putP A s (nxI A s))) else if pN s = 0 then (1, s) else run A k (takP A s) := rfl
  rw [er] at e
  have mz : ∀ s' M'', RC g M'' s' → okS A s' → (aK A - (mI M'' (gB g + 61) 3).toNatClampNeg) * 100 + (mI M'' (gB g + 61) 9).toNatClampNeg = muP A s' := by
    intro s' M'' r' o'
    have a1 := o'.1
    have a2 := o'.2.2.1
    rw [r'.2.1, r'.1, nI_cl _ (by omega), nI_cl _ (by omega)]; rfl
  show bd_X8_search_28 g M (gB g + 61) (nI (aW A)) (nI (aK A)) post bk (nI (pF s)) (nI (2 * pL s - pN s)) M'
  unfold bd_X8_search_28
  rw [show (2 : Int32) = nI 2 from rfl, pk_mul, hr.1]
  refine pk_lt (2 * aK A) (2 * pL s - pN s) (fun hx => by omega) (fun _ => ?_)
  -- behind the look at whether it is full
  have k117 : ∀ v, v = nI (nxI A s) → ¬ (pN s = aW A ∧ ¬ pH s < aLo A ∧ ¬ aHi A < pH s) → lb_X8_search_117 g M (gB g + 61) (nI (aW A)) (nI (aK A)) post bk (nI (2 * pL s - pN s)) v M' := by
    rintro v rfl hnf
    rw [if_neg hnf] at e
    have hnx : nxI A s ≤ aF A := by
      unfold nxI; split
      · exact Nat.le_refl _
      · have := (nwr_le A (pT s) (aF A - pF s) (pF s)).2; omega
    unfold lb_X8_search_117
    rw [hS.2.2.1, hr.1, hr.2.1]
    refine pk_le (aF A) (nxI A s) (fun hx => ?_) (fun hx => ?_)
    · rw [if_neg (by omega)] at e
      refine pk_le (pN s) 0 (fun h0 => ?_) (fun h0 => ?_)
      · rw [if_pos (by omega)] at e
        have := hq M' f (by rw [← e]; exact hr) (by rw [← e]; exact ho) (by rw [← e]; intro hx; exact absurd (show (1 : Nat) = 0 from hx) (by decide)) (by rw [← e]; show 1 ≤ 2; decide)
        rw [← e] at this
        exact this
      · rw [if_neg (by omega)] at e
        refine sp_takeOut hS hr ho (by omega) (fun M3 f3 r3 => ?_)
        have o3' := okS_tak ho (show pN s ≠ 0 by omega)
        show bk _
        rw [nI_1, nI_1]
        refine hb _ ⟨takP A s, M3, k, ?_, f.tr f3, r3, o3', Nat.lt_of_lt_of_le (mu_tak (by omega)) (by omega), e⟩ ?_
        · show _ = (nI (pK s (pN s - 1) + 1), nI (2 * pL s - (pN s - 1)), M3)
          rw [show 2 * pL s - pN s + 1 = 2 * pL s - (pN s - 1) by omega]
        · show (aK A - (mI M3 (gB g + 61) 3).toNatClampNeg) * 100 + (mI M3 (gB g + 61) 9).toNatClampNeg < (aK A - (mI M' (gB g + 61) 3).toNatClampNeg) * 100 + (mI M' (gB g + 61) 9).toNatClampNeg
          rw [mz _ _ r3 o3', mz _ _ hr ho]; exact mu_tak (by omega)
    · rw [if_pos hx] at e
      refine pk_lt (pL s) (aK A) (fun hl => ?_) (fun hl => ?_)
      · rw [if_neg (by omega)] at e
        have hNW := nx_lt hx
        refine sp_putIn hS hr ho (by omega) hx (fun M3 f3 r3 => ?_)
        have o3' := okS_put ho (by omega) (by omega) hx
        show bk _
        rw [nI_1, nI_1]
        have hmu := mu_put ho (show pL s ≠ aK A by omega) (nxI A s)
        refine hb _ ⟨putP A s (nxI A s), M3, k, ?_, f.tr f3, r3, o3', Nat.lt_of_lt_of_le hmu (by omega), e⟩ ?_
        · show _ = (nI (nxI A s + 1), nI (2 * (pL s + 1) - (pN s + 1)), M3)
          rw [show 2 * pL s - pN s + 1 = 2 * (pL s + 1) - (pN s + 1) by omega]
        · show (aK A - (mI M3 (gB g + 61) 3).toNatClampNeg) * 100 + (mI M3 (gB g + 61) 9).toNatClampNeg < (aK A - (mI M' (gB g + 61) 3).toNatClampNeg) * 100 + (mI M' (gB g + 61) 9).toNatClampNeg
          rw [mz _ _ r3 o3', mz _ _ hr ho]; exact hmu
      · rw [if_pos (by omega)] at e
        have := hq M' f (by rw [← e]; exact hr) (by rw [← e]; exact ho) (by rw [← e]; intro hx; exact absurd (show (2 : Nat) = 0 from hx) (by decide)) (by rw [← e]; show 2 ≤ 2; decide)
        rw [← e] at this
        exact this
  refine pk_le (aW A) (pN s) (fun hfull => ?_) (fun hnf => ⟨_, lr_61_8 l', lk_65 h1, ?_⟩)
  · have hW : pN s = aW A := by omega
    have k100 : ¬ (¬ pH s < aLo A ∧ ¬ aHi A < pH s) → lb_X8_search_100 g M (gB g + 61) (nI (aW A)) (nI (aK A)) post bk (nI (pF s)) (nI (2 * pL s - pN s)) 1 M' := by
      intro hn
      refine ⟨fun hx => absurd hx (by decide), fun _ => ?_⟩
      refine k117 _ ?_ (fun hx => hn hx.2)
      rw [hS.2.2.1]; unfold nxI; rw [if_pos hW]
    refine ⟨fun hx => absurd hx (by decide), fun _ => ?_⟩
    rw [hr.2.2.1, hS.2.2.2.2.1, hS.2.2.2.2.2.1]
    refine ⟨fun hlo => k100 (fun hx => hx.1 hlo), fun hlo => ⟨fun hhi => k100 (fun hx => hx.2 hhi), fun hhi => ?_⟩⟩
    rintro M11 rfl
    rw [if_pos ⟨hW, hlo, hhi⟩] at e
    have := hq M' f (by rw [← e]; exact hr) (by rw [← e]; exact ho) (by rw [← e]; intro _; exact hW) (by rw [← e]; show 0 ≤ 2; decide)
    rw [← e] at this
    rw [hr.1]
    exact this
  · rw [ln_65 h1]
    refine pk_lt (pN s) 48 (fun _ => ?_) (fun hx => by omega)
    refine ⟨fun _ => ⟨fun _ => sp_nwr hS hr o4 (k117 _ ?_ (fun hx => by omega)), fun hx => absurd rfl hx⟩, fun hx => absurd rfl hx⟩
    unfold nxI; rw [if_neg (by omega)]
