/-! PURE: the class reads a form: all of it -/
theorem row_end {α : Type} {pp : Tk → Rs α} : ∀ (f : Nat) (T T' : Tk) (l : List α), pRow pp f T = .ok (T', l) → isPt T'.1 = false ∧ l ≠ []
  | 0, T, T', l, e => by cases e
  | f + 1, T, T', l, e => by
    cases hp : pp T with
    | error e' => rw [pRow_e hp] at e; cases e
    | ok y =>
      obtain ⟨T1, y⟩ := y
      cases hpt : isPt T1.1 with
      | false => rw [pRow_1 hp hpt] at e; cases e; exact ⟨hpt, by simp⟩
      | true =>
        cases hr : pRow pp f T1 with
        | error e' => rw [pRow_2e hp hpt hr] at e; cases e
        | ok z => obtain ⟨T2, z⟩ := z; rw [pRow_2 hp hpt hr] at e; cases e; exact ⟨(row_end f T1 _ _ hr).1, by simp⟩
theorem form_end {α : Type} {nx : Tk → Tk} {pp : Tk → Rs α} (h : ∀ T T' x, pp T = .ok (T', x) → isPt T'.1 = false) : ∀ (f : Nat) (T T' : Tk) (l : List α), pForm nx pp f T = .ok (T', l) → (isPt T'.1 = false ∧ T'.1 ≠ 124) ∧ l ≠ []
  | 0, T, T', l, e => by cases e
  | f + 1, T, T', l, e => by
    cases hp : pp T with
    | error e' => rw [pForm_e hp] at e; cases e
    | ok y =>
      obtain ⟨T1, y⟩ := y
      by_cases hpt : T1.1 = 124
      · cases hr : pForm nx pp f (nx T1) with
        | error e' => rw [pForm_2e hp hpt hr] at e; cases e
        | ok z => obtain ⟨T2, z⟩ := z; rw [pForm_2 hp hpt hr] at e; cases e; exact ⟨(form_end h f _ _ _ hr).1, by simp⟩
      · rw [pForm_1 hp hpt] at e; cases e; exact ⟨⟨h T _ _ hp, hpt⟩, by simp⟩
theorem set_end {α : Type} {nx : Tk → Tk} {pp : Tk → Rs α} {b : Bool} (h : ∀ T T' x, pp T = .ok (T', x) → isPt T'.1 = false ∧ T'.1 ≠ 124) : ∀ (f : Nat) (T T' : Tk) (l : List α), pSet nx pp b f T = .ok (T', l) → ((isPt T'.1 = false ∧ T'.1 ≠ 124) ∧ ¬ (b = true ∧ T'.1 = 44)) ∧ l ≠ [] ∧ l.length ≤ f ∧ (b = false → l.length = 1)
  | 0, T, T', l, e => by cases e
  | f + 1, T, T', l, e => by
    cases hp : pp T with
    | error e' => rw [pSet_e hp] at e; cases e
    | ok y =>
      obtain ⟨T1, y⟩ := y
      by_cases hpt : b = true ∧ T1.1 = 44
      · by_cases hf : f = 0
        · subst hf; rw [pSet_3 hp hpt] at e; cases e
        · cases hr : pSet nx pp b f (nx T1) with
          | error e' => rw [pSet_2e hp hpt hf hr] at e; cases e
          | ok z =>
            obtain ⟨T2, z⟩ := z; rw [pSet_2 hp hpt hf hr] at e; cases e
            have ih := set_end h f _ _ _ hr
            exact ⟨ih.1, by simp, by simp only [List.length_cons]; omega, fun hb => by rw [hb] at hpt; cases hpt.1⟩
      · rw [pSet_1 hp hpt] at e; cases e; exact ⟨⟨h T _ _ hp, hpt⟩, by simp, by simp, fun _ => rfl⟩
theorem sepL_cons {s : Itm} {x : List Itm} {l : List (List Itm)} (h : l ≠ []) : sepL s (x :: l) = x ++ s :: sepL s l := by
  cases l with
  | nil => exact absurd rfl h
  | cons y r => rfl
def AF (st : Nat) (T : Tk) : Prop := st = 1 ∨ (st = 2 ∧ T.1 ≠ 46)
theorem AF.b {st : Nat} {T : Tk} (h : AF st T) : 1 ≤ st ∧ st < 3 ∧ (st = 2 → T.1 ≠ 46) := by
  rcases h with rfl | ⟨rfl, h⟩
  · exact ⟨by omega, by omega, fun hx => by omega⟩
  · exact ⟨by omega, by omega, fun _ => h⟩
/-- how it ends with a fault -/
def KE {α : Type} (g : Gh) (M0 : Mem) (post : Mem → Prop) (r : Rs α) : Prop := ∀ k T', r = .error (k, T') → ∀ M', Fr (PQc g) (QQc g) M0 M' → mI M' (gB g + 3) 8 = nI k → mI M' (gB g + 3) 9 = nI T'.2.1 → post M'
/-- the class reads what pp reads -/
def CpOK {α : Type} (g : Gh) (Mz M0 : Mem) (post : Mem → Prop) (n : Nat) (bs : Nat → Nat) (pp : Tk → Rs α) (lin : α → List Itm) (e : Nat) : Prop := ∀ (M : Mem) (q : Nat) (T : Tk) (st : Nat) (L : List Itm) (ES CS : Nat → Nat), QS g M0 M n bs q T e st L ES CS → (st = 0 ∨ (isPt T.1 = true ∧ st < 3)) → (∀ T' x, pp T = .ok (T', x) → ∀ M' q' st', QS g M0 M' n bs q' T' e st' (L ++ lin x) ES CS → AF st' T' → Wc g Mz post q' M') → KE g M0 post (pp T) → Wc g Mz post q M
theorem QS.is {g : Gh} {M0 M : Mem} {n : Nat} {bs : Nat → Nat} {q : Nat} {T : Tk} {e st : Nat} {L : List Itm} {ES CS : Nat → Nat} (h : QS g M0 M n bs q T e st L ES CS) : IsTk sgF bs n T := by
  obtain ⟨p, p1, p2, _⟩ := h.2.2.2.1
  exact ⟨p, p1, p2⟩
theorem cp_leaf {g : Gh} {Mz M0 M : Mem} {post : Mem → Prop} {n : Nat} {bs : Nat → Nat} {q : Nat} {T : Tk} {e st : Nat} {L : List Itm} {ES CS : Nat → Nat} (hz : Lay g Mz) (h : QS g M0 M n bs q T e st L ES CS) (hst : st < 3) (hT : T.1 = 1 ∨ T.1 = 2) (hk : ∀ T' x, pLeaf (nxF bs n) T = .ok (T', x) → ∀ M' q' st', QS g M0 M' n bs q' T' e st' (L ++ [lfI x]) ES CS → AF st' T' → Wc g Mz post q' M') (he : KE g M0 post (pLeaf (nxF bs n) T)) : Wc g Mz post q M := by
  have hv := tk_val (Or.inl rfl) h.is hT
  refine qc_step hz h (fun M6 t6 => fo_leaf t6 hst hT (fun M7 s7 => ?_))
  rcases hT with hT | hT
  · rw [hT] at s7
    exact hk _ (true, T.2.2.1, T.2.2.1) (by unfold pLeaf; rw [if_pos hT]) M7 (q + 1) 1 s7 (Or.inl rfl)
  · rw [hT] at s7
    have s7 : QS g M0 M7 n bs (q + 1) (nxF bs n T) e 2 (L ++ [(2, lN T.2.2.1, lN T.2.2.1)]) ES CS := s7
    have pl : pLeaf (nxF bs n) T = pNum (nxF bs n) T := by unfold pLeaf; rw [if_neg (by omega)]
    by_cases c46 : (nxF bs n T).1 = 46
    · refine qc_step hz s7 (fun M8 t8 => fo_dots t8 c46 (fun M9 s9 => qc_step hz s9 (fun M10 t10 => fo_range hz hv.1 t10 (fun t2 hle M11 s11 => ?_) (fun k hc M' f e8 e9 => he k _ ?_ M' f e8 e9))))
      · exact hk _ (false, T.2.2.1, (nxF bs n (nxF bs n T)).2.2.1) (by rw [pl]; unfold pNum; rw [if_pos c46, if_pos t2, if_pos hle]) M11 _ 1 s11 (Or.inl rfl)
      · rw [pl]; unfold pNum
        rcases hc with ⟨rfl, t2, hle⟩ | ⟨rfl, t2⟩
        · rw [if_pos c46, if_pos t2, if_neg hle]
        · rw [if_pos c46, if_neg t2]
    · exact hk _ (false, T.2.2.1, T.2.2.1) (by rw [pl]; unfold pNum; rw [if_neg c46]) M7 (q + 1) 2 s7 (Or.inr ⟨rfl, c46⟩)
theorem cp_row {α : Type} {g : Gh} {Mz M0 : Mem} {post : Mem → Prop} {n : Nat} {bs : Nat → Nat} {pp : Tk → Rs α} {lin : α → List Itm} {e : Nat} (ha : AdvR bs n pp) (hp : CpOK g Mz M0 post n bs pp lin e) : ∀ (f : Nat) (M : Mem) (q : Nat) (T : Tk) (st : Nat) (L : List Itm) (ES CS : Nat → Nat), n < T.2.2.2 + f → QS g M0 M n bs q T e st L ES CS → (st = 0 ∨ (isPt T.1 = true ∧ st < 3)) → (∀ T' x, pRow pp f T = .ok (T', x) → ∀ M' q' st', QS g M0 M' n bs q' T' e st' (L ++ (x.map lin).flatten) ES CS → AF st' T' → Wc g Mz post q' M') → KE g M0 post (pRow pp f T) → Wc g Mz post q M
  | 0, M, q, T, st, L, ES, CS, hf, h, _, _, _ => by
    have := (tc_lt h.2.2.1.2.2.2.2.2.2.2 h.is).2.2
    omega
  | f + 1, M, q, T, st, L, ES, CS, hf, h, hs, hk, he => by
    refine hp M q T st L ES CS h hs (fun T1 x hx M1 q1 st1 s1 af => ?_) (fun k T' hx => he k T' (pRow_e hx))
    cases hpt : isPt T1.1 with
    | false => exact hk T1 [x] (pRow_1 hx hpt) M1 q1 st1 (by simpa using s1) af
    | true =>
      have hne := isPt_ne hpt
      have hlt := (ha T T1 x h.is hx).ge.2.2 hne.1 hne.2
      refine cp_row ha hp f M1 q1 T1 st1 (L ++ lin x) ES CS (by omega) s1 (Or.inr ⟨hpt, af.b.2.1⟩) (fun T2 r hr M2 q2 st2 s2 af2 => hk T2 (x :: r) (pRow_2 hx hpt hr) M2 q2 st2 ?_ af2) (fun k T' hr => he k T' (pRow_2e hx hpt hr))
      rw [List.map_cons, List.flatten_cons, ← List.append_assoc]; exact s2
theorem cp_form {α : Type} {g : Gh} {Mz M0 : Mem} {post : Mem → Prop} {n : Nat} {bs : Nat → Nat} {pp : Tk → Rs α} {lin : α → List Itm} {e : Nat} (hz : Lay g Mz) (ha : AdvR bs n pp) (hend : ∀ T T' x, pp T = .ok (T', x) → isPt T'.1 = false) (hp : CpOK g Mz M0 post n bs pp lin e) : ∀ (f : Nat) (M : Mem) (q : Nat) (T : Tk) (st : Nat) (L : List Itm) (ES CS : Nat → Nat), n < T.2.2.2 + f → QS g M0 M n bs q T e st L ES CS → (st = 0 ∨ (isPt T.1 = true ∧ st < 3)) → (∀ T' x, pForm (nxF bs n) pp f T = .ok (T', x) → ∀ M' q' st', QS g M0 M' n bs q' T' e st' (L ++ sepL (124, 0, 0) (x.map lin)) ES CS → AF st' T' → Wc g Mz post q' M') → KE g M0 post (pForm (nxF bs n) pp f T) → Wc g Mz post q M
  | 0, M, q, T, st, L, ES, CS, hf, h, _, _, _ => by
    have := (tc_lt h.2.2.1.2.2.2.2.2.2.2 h.is).2.2
    omega
  | f + 1, M, q, T, st, L, ES, CS, hf, h, hs, hk, he => by
    refine hp M q T st L ES CS h hs (fun T1 x hx M1 q1 st1 s1 af => ?_) (fun k T' hx => he k T' (pForm_e hx))
    by_cases hpt : T1.1 = 124
    · have a1 := ha T T1 x h.is hx
      have hlt := a1.ge.2.2 (by omega) (by omega)
      have hgx := (adv_nx a1.is).ge
      refine qc_step hz s1 (fun M6 t6 => fo_bar t6 af.b.1 af.b.2.1 hpt (fun M7 s7 => ?_))
      refine cp_form hz ha hend hp f M7 (q1 + 1) (nxF bs n T1) 0 (L ++ lin x ++ [(124, 0, 0)]) ES CS (by omega) s7 (Or.inl rfl) (fun T2 r hr M2 q2 st2 s2 af2 => hk T2 (x :: r) (pForm_2 hx hpt hr) M2 q2 st2 ?_ af2) (fun k T' hr => he k T' (pForm_2e hx hpt hr))
      have hne := (form_end hend f _ _ _ hr).2
      rw [List.map_cons, sepL_cons (fun hx => hne (List.map_eq_nil_iff.mp hx))]
      rw [List.append_assoc, List.append_assoc] at s2
      exact s2
    · exact hk T1 [x] (pForm_1 hx hpt) M1 q1 st1 s1 af
