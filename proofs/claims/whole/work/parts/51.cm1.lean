/-! PURE: the class's frames -/
theorem lk_fr {g : Gh} {M : Mem} (h : Lay g M) {e : Nat} (he : e < 7) : (okc (gB g) M (gB g + (12 + 5 * e)) 3 ∧ okc (gB g) M (gB g + (13 + 5 * e)) 14 ∧ okc (gB g) M (gB g + (14 + 5 * e)) 14 ∧ okc (gB g) M (gB g + (15 + 5 * e)) 14 ∧ okc (gB g) M (gB g + (16 + 5 * e)) 14) ∧ (mN M (gB g + (13 + 5 * e)) = 21 ∧ mN M (gB g + (14 + 5 * e)) = 21 ∧ mN M (gB g + (15 + 5 * e)) = 105 ∧ mN M (gB g + (16 + 5 * e)) = 32) ∧ mR M (gB g + 11) e = some (gB g + (12 + 5 * e)) ∧ mR M (gB g + (12 + 5 * e)) 0 = some (gB g + (13 + 5 * e)) ∧ mR M (gB g + (12 + 5 * e)) 1 = some (gB g + (14 + 5 * e)) ∧ mR M (gB g + (12 + 5 * e)) 2 = some (gB g + (15 + 5 * e)) ∧ mR M (gB g + (12 + 5 * e)) 4 = some (gB g + (16 + 5 * e)) := by
  obtain ⟨k1, k2, k3, k4, k5⟩ := kt_fr1 e he
  exact ⟨⟨h.ok (by omega) (by rw [k1]), h.ok (by omega) (by rw [k2]), h.ok (by omega) (by rw [k3]), h.ok (by omega) (by rw [k4]), h.ok (by omega) (by rw [k5])⟩, ⟨h.ln (by omega) (by rw [k2]), h.ln (by omega) (by rw [k3]), h.ln (by omega) (by rw [k4]), h.ln (by omega) (by rw [k5])⟩, h.2.2 _ (kt_fr2 e he).1, h.2.2 _ (kt_fr2 e he).2, h.2.2 _ (kt_fr3 e he).1, h.2.2 _ (kt_fr3 e he).2, h.2.2 _ (kt_fr4 e he)⟩
/-- row i of ints holds, for each start up to N, the set of ends that A tells -/
def RowIs (g : Gh) (M : Mem) (i N : Nat) (A : Nat → Nat → Prop) : Prop := ∀ s, s ≤ N → ∀ j, j < 32 → (bt (mI M (gB g + (i)) s) j = true ↔ A s j)
theorem RowIs.fr {g : Gh} {M M' : Mem} {i N : Nat} {A : Nat → Nat → Prop} {P Q : Nat → Nat → Prop} (h : RowIs g M i N A) (f : Fr P Q M M') (hp : ∀ a k, P a k → ¬ a = (gB g + (i))) : RowIs g M' i N A := fun s hs j hj => by rw [f.1 _ _ (fun hh => hp _ _ hh rfl)]; exact h s hs j hj
theorem RowIs.iff {g : Gh} {M : Mem} {i N : Nat} {A B : Nat → Nat → Prop} (h : RowIs g M i N A) (hi : ∀ s, s ≤ N → ∀ j, j < 32 → (A s j ↔ B s j)) : RowIs g M i N B := fun s hs j hj => (h s hs j hj).trans (hi s hs j hj)
theorem pr_13 {g : Gh} {M : Mem} {e : Nat} (_ : e < 7) {i s : Nat} {X Y : Int32} : mI (uI (uI M (gB g + (14 + 5 * e)) i X) (gB g + (13 + 5 * e)) i Y) (gB g + (13 + 5 * e)) s = if s = i then Y else mI M (gB g + (13 + 5 * e)) s := by
  have h1 : mI (uI M (gB g + (14 + 5 * e)) i X) (gB g + (13 + 5 * e)) s = mI M (gB g + (13 + 5 * e)) s := by rw [s_II, if_neg (by omega)]
  rw [s_II, if_pos rfl, h1]
theorem pr_14 {g : Gh} {M : Mem} {e : Nat} (_ : e < 7) {i s : Nat} {X Y : Int32} : mI (uI (uI M (gB g + (14 + 5 * e)) i X) (gB g + (13 + 5 * e)) i Y) (gB g + (14 + 5 * e)) s = if s = i then X else mI M (gB g + (14 + 5 * e)) s := by
  have h1 : mI (uI M (gB g + (14 + 5 * e)) i X) (gB g + (14 + 5 * e)) s = if s = i then X else mI M (gB g + (14 + 5 * e)) s := by rw [s_II, if_pos rfl]
  rw [s_II, if_neg (by omega), h1]
theorem sp_restartForm {g : Gh} {M : Mem} (h1 : Lay g M) {e : Nat} (he : e < 7) {N : Nat} (hN : N ≤ 20) {post : Mem → Prop} (hq : ∀ M', Fr (fun a _ => a = (gB g + (13 + 5 * e)) ∨ a = (gB g + (14 + 5 * e))) nQ M M' → RowIs g M' (13 + 5 * e) N (fun s j => s = j) → RowIs g M' (14 + 5 * e) N (fun _ _ => False) → post M') : wp_X3_restartForm g M (gB g + (12 + 5 * e)) post := by
  have hf := lk_fr h1 he
  refine ⟨hf.1.1, ?_⟩
  refine lfp_up (fun i z => ∃ M', z = (nI i, M') ∧ Fr (fun a _ => a = (gB g + (13 + 5 * e)) ∨ a = (gB g + (14 + 5 * e))) nQ M M' ∧ ∀ s, s < i → mI M' (gB g + (13 + 5 * e)) s = 1 <<< (nI s &&& 31) ∧ mI M' (gB g + (14 + 5 * e)) s = 0) 21 ?_ ?_ 0 _ (by omega) ⟨M, rfl, Fr.rf, fun s hs => by omega⟩
  · rintro bk z ⟨M', rfl, f, hv⟩
    refine pk_le 21 21 (fun _ => hq M' f (fun s hs j hj => ?_) (fun s hs j hj => ?_)) (fun hx => by omega)
    · rw [(hv s (by omega)).1, bt_one s (by omega) j hj, decide_eq_true_eq]; exact eq_comm
    · rw [(hv s (by omega)).2, bt_0]; simp
  · rintro bk i z hi ⟨M', rfl, f, hv⟩ hb
    have hf' := lk_fr (f.lay h1) he
    show bd_X3_restartForm_2 g M (gB g + (12 + 5 * e)) post bk (nI i) M'
    unfold bd_X3_restartForm_2
    refine pk_le 21 i (fun hx => by omega) (fun _ => ⟨_, hf'.2.2.2.2.1, hf.1.2.2.1, by rw [hf.2.1.2.1]; exact pk_in i 21 hi, ?_⟩)
    rintro M6 rfl
    refine ⟨_, hf'.2.2.2.1, hf.1.2.1, by rw [hf.2.1.1]; exact pk_in i 21 hi, ?_⟩
    rintro M12 rfl
    rw [nI_cl i (by omega), nI_1]
    refine hb _ ⟨_, rfl, (f.uI (Or.inr rfl)).uI (Or.inl rfl), fun s hs => ?_⟩
    rw [pr_13 he, pr_14 he]
    by_cases hsi : s = i
    · subst hsi; rw [if_pos rfl, if_pos rfl]; exact ⟨rfl, rfl⟩
    · rw [if_neg hsi, if_neg hsi]; exact hv s (by omega)
theorem sp_restart {g : Gh} {M : Mem} (h1 : Lay g M) {e : Nat} (he : e < 7) {N : Nat} (hN : N ≤ 20) {post : Mem → Prop} (hq : ∀ M', Fr (fun a k => (a = (gB g + (12 + 5 * e)) ∧ k = 3) ∨ a = (gB g + (13 + 5 * e)) ∨ a = (gB g + (14 + 5 * e))) nQ M M' → mI M' (gB g + (12 + 5 * e)) 3 = nI 0 → RowIs g M' (13 + 5 * e) N (fun s j => s = j) → RowIs g M' (14 + 5 * e) N (fun _ _ => False) → post M') : wp_X3_restart g M (gB g + (12 + 5 * e)) post := by
  refine ⟨(lk_fr h1 he).1.1, ?_⟩
  rintro M1 rfl
  refine sp_restartForm (M := uI M (gB g + (12 + 5 * e)) 3 0) h1 he hN (fun M' f r1 r2 => hq M' ?_ ?_ r1 r2)
  · exact (Fr.rf.uI (P := fun a k => (a = (gB g + (12 + 5 * e)) ∧ k = 3) ∨ a = (gB g + (13 + 5 * e)) ∨ a = (gB g + (14 + 5 * e))) (Or.inl ⟨rfl, rfl⟩)).tr (f.mono (fun a k hh => Or.inr hh) (fun _ _ hh => hh))
  · rw [f.1 _ _ (by omega), s_II, if_pos rfl, if_pos rfl]; rfl
theorem sp_closeRow {g : Gh} {M : Mem} (h1 : Lay g M) {e : Nat} (he : e < 7) {N : Nat} (hN : N ≤ 20) {A B : Nat → Nat → Prop} (hA : RowIs g M (13 + 5 * e) N A) (hB : RowIs g M (14 + 5 * e) N B) {post : Mem → Prop} (hq : ∀ M', Fr (fun a _ => a = (gB g + (13 + 5 * e)) ∨ a = (gB g + (14 + 5 * e))) nQ M M' → RowIs g M' (13 + 5 * e) N (fun s j => s = j) → RowIs g M' (14 + 5 * e) N (fun s j => B s j ∨ A s j) → post M') : wp_X3_closeRow g M (gB g + (12 + 5 * e)) post := by
  have hf := lk_fr h1 he
  refine ⟨hf.1.1, ?_⟩
  refine lfp_up (fun i z => ∃ M', z = (nI i, M') ∧ Fr (fun a _ => a = (gB g + (13 + 5 * e)) ∨ a = (gB g + (14 + 5 * e))) nQ M M' ∧ (∀ s, s < i → mI M' (gB g + (13 + 5 * e)) s = 1 <<< (nI s &&& 31) ∧ mI M' (gB g + (14 + 5 * e)) s = (mI M (gB g + (14 + 5 * e)) s ||| mI M (gB g + (13 + 5 * e)) s)) ∧ ∀ s, i ≤ s → mI M' (gB g + (13 + 5 * e)) s = mI M (gB g + (13 + 5 * e)) s ∧ mI M' (gB g + (14 + 5 * e)) s = mI M (gB g + (14 + 5 * e)) s) 21 ?_ ?_ 0 _ (by omega) ⟨M, rfl, Fr.rf, fun s hs => by omega, fun s hs => ⟨rfl, rfl⟩⟩
  · rintro bk z ⟨M', rfl, f, hv, hw⟩
    refine pk_le 21 21 (fun _ => hq M' f (fun s hs j hj => ?_) (fun s hs j hj => ?_)) (fun hx => by omega)
    · rw [(hv s (by omega)).1, bt_one s (by omega) j hj, decide_eq_true_eq]; exact eq_comm
    · rw [(hv s (by omega)).2, bt_or, Bool.or_eq_true, hB s hs j hj, hA s hs j hj]
  · rintro bk i z hi ⟨M', rfl, f, hv, hw⟩ hb
    have hf' := lk_fr (f.lay h1) he
    show bd_X3_closeRow_2 g M (gB g + (12 + 5 * e)) post bk (nI i) M'
    unfold bd_X3_closeRow_2
    refine pk_le 21 i (fun hx => by omega) (fun _ => ⟨_, hf'.2.2.2.2.1, hf.1.2.2.1, by rw [hf.2.1.2.1]; exact pk_in i 21 hi, _, hf'.2.2.2.1, hf.1.2.1, by rw [hf.2.1.1]; exact pk_in i 21 hi, ?_⟩)
    rintro M10 rfl M12 rfl
    rw [nI_cl i (by omega), nI_1, (hw i (by omega)).1, (hw i (by omega)).2]
    refine hb _ ⟨_, rfl, (f.uI (Or.inr rfl)).uI (Or.inl rfl), fun s hs => ?_, fun s hs => ?_⟩
    · rw [pr_13 he, pr_14 he]
      by_cases hsi : s = i
      · subst hsi; rw [if_pos rfl, if_pos rfl]; exact ⟨rfl, rfl⟩
      · rw [if_neg hsi, if_neg hsi]; exact hv s (by omega)
    · rw [pr_13 he, pr_14 he, if_neg (by omega), if_neg (by omega)]
      exact hw s (by omega)
/-- the forms that a frame keeps -/
def KpIs (g : Gh) (M : Mem) (e N m : Nat) (K : Nat → Nat → Nat → Prop) : Prop := mI M (gB g + (12 + 5 * e)) 3 = nI m ∧ ∀ f, f < m → ∀ s, s ≤ N → ∀ j, j < 32 → (bt (mI M (gB g + (15 + 5 * e)) (21 * f + s)) j = true ↔ K f s j)
theorem KpIs.fr {g : Gh} {M M' : Mem} {e N m : Nat} {K : Nat → Nat → Nat → Prop} {P Q : Nat → Nat → Prop} (h : KpIs g M e N m K) (f : Fr P Q M M') (hp : ∀ a k, P a k → ¬ (a = (gB g + (12 + 5 * e)) ∧ k = 3) ∧ ¬ a = (gB g + (15 + 5 * e))) : KpIs g M' e N m K := by
  refine ⟨?_, fun i hi s hs j hj => ?_⟩
  · rw [f.1 _ _ (fun hh => by have := hp _ _ hh; omega)]; exact h.1
  · rw [f.1 _ _ (fun hh => by have := hp _ _ hh; omega)]; exact h.2 i hi s hs j hj
theorem sp_keepForm {g : Gh} {M : Mem} (h1 : Lay g M) {e : Nat} (he : e < 7) {N m : Nat} (hN : N ≤ 20) (hm : m < 5) {K : Nat → Nat → Nat → Prop} {B : Nat → Nat → Prop} (hK : KpIs g M e N m K) (hB : RowIs g M (14 + 5 * e) N B) {post : Mem → Prop} (hq : ∀ M', Fr (fun a k => (a = (gB g + (12 + 5 * e)) ∧ k = 3) ∨ a = (gB g + (13 + 5 * e)) ∨ a = (gB g + (14 + 5 * e)) ∨ a = (gB g + (15 + 5 * e))) nQ M M' → KpIs g M' e N (m + 1) (upN K m B) → RowIs g M' (13 + 5 * e) N (fun s j => s = j) → RowIs g M' (14 + 5 * e) N (fun _ _ => False) → post M') : wp_X3_keepForm g M (gB g + (12 + 5 * e)) post := by
  have hf := lk_fr h1 he
  refine ⟨hf.1.1, ?_⟩
  rw [hK.1]
  refine pk_le 5 m (fun hx => by omega) (fun _ => ⟨_, hf.2.2.2.2.1, _, hf.2.2.2.2.2.1, hf.1.2.2.1, hf.1.2.2.2.1, ?_, ?_⟩)
  · rw [show (21 : Int32) = nI 21 from rfl, pk_mul, nI_cl _ (by omega), nI_cl _ (by omega), hf.2.1.2.1, hf.2.1.2.2.1]
    refine ⟨by decide, nI_pos (by omega), by decide, ?_, by omega⟩
    show 0 + 21 ≤ 21; omega
  · rintro M11 rfl M13 rfl
    rw [show (21 : Int32) = nI 21 from rfl, pk_mul, nI_cl _ (by omega), nI_cl _ (by omega), show Int32.toNatClampNeg 0 = 0 from rfl]
    have fw : Fr (fun a _ => a = (gB g + (15 + 5 * e))) nQ M (wI M (gB g + (15 + 5 * e)) (va_cpy (mI M (gB g + (14 + 5 * e))) (mI M (gB g + (15 + 5 * e))) 0 (m * 21) 21)) := by
      refine ⟨fun a k hh => ?_, fun _ _ _ => rfl, rfl⟩
      rw [mI_wI_n _ _ _ hh]
    have vw : mI (wI M (gB g + (15 + 5 * e)) (va_cpy (mI M (gB g + (14 + 5 * e))) (mI M (gB g + (15 + 5 * e))) 0 (m * 21) 21)) (gB g + (15 + 5 * e)) = va_cpy (mI M (gB g + (14 + 5 * e))) (mI M (gB g + (15 + 5 * e))) 0 (m * 21) 21 := mI_wI_s _ _ _
    generalize wI M (gB g + (15 + 5 * e)) (va_cpy (mI M (gB g + (14 + 5 * e))) (mI M (gB g + (15 + 5 * e))) 0 (m * 21) 21) = M1 at fw vw ⊢
    rw [fw.1 _ _ (by omega), hK.1, nI_1]
    have f2 : Fr (fun a k => (a = (gB g + (12 + 5 * e)) ∧ k = 3) ∨ a = (gB g + (13 + 5 * e)) ∨ a = (gB g + (14 + 5 * e)) ∨ a = (gB g + (15 + 5 * e))) nQ M (uI M1 (gB g + (12 + 5 * e)) 3 (nI (m + 1))) := (fw.mono (fun a k hh => Or.inr (Or.inr (Or.inr hh))) (fun _ _ hh => hh)).uI (Or.inl ⟨rfl, rfl⟩)
    refine sp_restartForm (f2.lay h1) he hN (fun M' f r1 r2 => hq M' (f2.tr (f.mono (fun a k hh => by omega) (fun _ _ hh => hh))) ⟨?_, fun i hi s hs j hj => ?_⟩ r1 r2)
    · rw [f.1 _ _ (by omega), s_II, if_pos rfl, if_pos rfl]
    · rw [f.1 _ _ (by omega), s_II, if_neg (by omega), vw]
      by_cases him : i = m
      · subst him
        rw [upN_s, pk_cpy_in (by omega) (by omega), show 0 + (21 * i + s - i * 21) = s by omega]
        exact hB s hs j hj
      · rw [upN_n _ _ him, pk_cpy_out (by omega)]
        exact hK.2 i (by omega) s hs j hj
/-- the ends behind a set of starts -/
theorem sp_endsBehind {g : Gh} {M : Mem} {st : Int32} {i fr len N : Nat} (hN : N ≤ 20) (ho : okc (gB g) M (gB g + (i)) 14) (hl : mN M (gB g + (i)) = len) (hlen : len ≤ 105) (hfr : fr + 20 < len) {post : Int32 → Mem → Prop} (hq : ∀ v, ((∀ k, bt st k = true → k ≤ N) → ∀ j, j < 32 → (bt v j = true ↔ ∃ s, bt st s = true ∧ bt (mI M (gB g + (i)) (fr + s)) j = true)) → post v M) : wp_X3_endsBehind g M st (gB g + (i)) (nI fr) post := by
  refine lfp_up (fun t z => ∃ v, z = (v, nI t, M) ∧ ∀ j, j < 32 → (bt v j = true ↔ ∃ s, s < t ∧ bt st s = true ∧ bt (mI M (gB g + (i)) (fr + s)) j = true)) 21 ?_ ?_ 0 _ (by omega) ⟨0, rfl, fun j hj => by rw [bt_0]; simp⟩
  · rintro bk z ⟨v, rfl, hv⟩
    refine pk_le 21 21 (fun _ => hq v (fun hst j hj => ?_)) (fun hx => by omega)
    rw [hv j hj]
    constructor
    · rintro ⟨s, _, h2⟩; exact ⟨s, h2⟩
    · rintro ⟨s, h2, h3⟩; exact ⟨s, by have := hst s h2; omega, h2, h3⟩
  · rintro bk t z ht ⟨v, rfl, hv⟩ hb
    show bd_X3_endsBehind_5 g M st (gB g + (i)) (nI fr) post bk v (nI t) M
    unfold bd_X3_endsBehind_5
    refine pk_le 21 t (fun hx => by omega) (fun _ => ⟨fun h0 => hq v (fun _ j hj => ?_), fun _ => ?_⟩)
    · rw [hv j hj]
      constructor
      · rintro ⟨s, _, h2⟩; exact ⟨s, h2⟩
      · rintro ⟨s, h2, h3⟩
        refine ⟨s, ?_, h2, h3⟩
        rcases Nat.lt_or_ge s t with hx | hx
        · exact hx
        · rw [bt_sr0 (by omega) h0 hx] at h2; cases h2
    · rw [bt_test st (by omega)]
      refine ⟨fun hS => ?_, fun hS => ?_⟩
      · rw [nI_add]
        refine ⟨fun hx => absurd hx (nI_pos (by omega)), fun _ => ⟨ho, ?_⟩⟩
        rw [hl]
        refine pk_le len (fr + t) (fun hx => by omega) (fun _ => ⟨pk_in (fr + t) len (by omega), ?_⟩)
        show bk _
        rw [nI_1, nI_cl _ (by omega)]
        refine hb _ ⟨_, rfl, fun j hj => ?_⟩
        rw [bt_or, Bool.or_eq_true, hv j hj]
        constructor
        · rintro (⟨s, h1, h2⟩ | h2)
          · exact ⟨s, by omega, h2⟩
          · exact ⟨t, by omega, hS, h2⟩
        · rintro ⟨s, h1, h2⟩
          by_cases hst' : s = t
          · subst hst'; exact Or.inr h2.2
          · exact Or.inl ⟨s, by omega, h2⟩
      · show bk _
        rw [nI_1]
        refine hb _ ⟨v, rfl, fun j hj => ?_⟩
        rw [hv j hj]
        constructor
        · rintro ⟨s, h1, h2⟩; exact ⟨s, by omega, h2⟩
        · rintro ⟨s, h1, h2⟩
          refine ⟨s, ?_, h2⟩
          rcases (show s < t ∨ s = t by omega) with hx | rfl
          · exact hx
          · exact absurd h2.1 hS
theorem sp_stepPart {g : Gh} {M : Mem} (h1 : Lay g M) {e : Nat} (he : e < 7) {N : Nat} (hN : N ≤ 20) {A R : Nat → Nat → Prop} (hA : RowIs g M (13 + 5 * e) N A) (hAN : ∀ s j, s ≤ N → A s j → j ≤ N) (hR : RowIs g M 47 N R) {post : Mem → Prop} (hq : ∀ M', Fr (fun a _ => a = (gB g + (13 + 5 * e))) nQ M M' → RowIs g M' (13 + 5 * e) N (fun s j => ∃ i, A s i ∧ R i j) → post M') : wp_X3_stepPart g M (gB g + (12 + 5 * e)) (gB g + 47) post := by
  have hf := lk_fr h1 he
  refine ⟨hf.1.1, ?_⟩
  refine lfp_up (fun i z => ∃ M', z = (nI i, M') ∧ Fr (fun a _ => a = (gB g + (13 + 5 * e))) nQ M M' ∧ (∀ s, s < i → s ≤ N → ∀ j, j < 32 → (bt (mI M' (gB g + (13 + 5 * e)) s) j = true ↔ ∃ i, A s i ∧ R i j)) ∧ ∀ s, i ≤ s → mI M' (gB g + (13 + 5 * e)) s = mI M (gB g + (13 + 5 * e)) s) 21 ?_ ?_ 0 _ (by omega) ⟨M, rfl, Fr.rf, fun s hs => by omega, fun s hs => rfl⟩
  · rintro bk z ⟨M', rfl, f, hv, hw⟩
    exact pk_le 21 21 (fun _ => hq M' f (fun s hs j hj => hv s (by omega) hs j hj)) (fun hx => by omega)
  · rintro bk i z hi ⟨M', rfl, f, hv, hw⟩ hb
    have hf' := lk_fr (f.lay h1) he
    show bd_X3_stepPart_2 g M (gB g + (12 + 5 * e)) (gB g + 47) post bk (nI i) M'
    unfold bd_X3_stepPart_2
    refine pk_le 21 i (fun hx => by omega) (fun _ => ⟨_, hf'.2.2.2.1, hf.1.2.1, by rw [hf.2.1.1]; exact pk_in i 21 hi, ?_⟩)
    rw [nI_cl i (by omega), hw i (by omega)]
    have fin : ∀ v, (i ≤ N → ∀ j, j < 32 → (bt v j = true ↔ ∃ k, A i k ∧ R k j)) → bk (nI i + 1, uI M' (gB g + (13 + 5 * e)) i v) := by
      intro v hvv
      rw [nI_1]
      refine hb _ ⟨_, rfl, f.uI rfl, fun s hs hsN j hj => ?_, fun s hs => ?_⟩
      · rw [s_II, if_pos rfl]
        by_cases hsi : s = i
        · subst hsi; rw [if_pos rfl]; exact hvv hsN j hj
        · rw [if_neg hsi]; exact hv s (by omega) hsN j hj
      · rw [s_II, if_pos rfl, if_neg (by omega)]; exact hw s (by omega)
    refine sp_endsBehind (N := N) (fr := 0) (len := 21) hN (lk_47 (f.lay h1)) (ln_47 (f.lay h1)) (by omega) (by omega) (fun v hv2 => ?_)
    rintro M8 rfl
    refine fin v (fun hiN j hj => ?_)
    have hsub : ∀ k, bt (mI M (gB g + (13 + 5 * e)) i) k = true → k ≤ N := by
      intro k hk
      rcases Nat.lt_or_ge k 32 with h32 | h32
      · exact hAN i k hiN ((hA i hiN k h32).mp hk)
      · rw [bt_ge _ h32] at hk; cases hk
    rw [hv2 hsub j hj]
    constructor
    · rintro ⟨k, h2, h3⟩
      have hkN := hsub k h2
      rw [Nat.zero_add, f.1 _ _ (by omega)] at h3
      exact ⟨k, (hA i hiN k (by omega)).mp h2, (hR k hkN j hj).mp h3⟩
    · rintro ⟨k, h2, h3⟩
      have hkN := hAN i k hiN h2
      refine ⟨k, (hA i hiN k (by omega)).mpr h2, ?_⟩
      rw [Nat.zero_add, f.1 _ _ (by omega)]
      exact (hR k hkN j hj).mpr h3
