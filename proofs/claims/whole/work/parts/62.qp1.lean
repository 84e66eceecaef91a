/-! PURE: a form is read: what both make of the tokens -/
abbrev Rs (α : Type) : Type := Except (Nat × Tk) (Tk × α)
def nxF (bs : Nat → Nat) (n : Nat) (T : Tk) : Tk := tk sgF bs n T.2.2.2
def isPt (c : Nat) : Bool := decide (c = 1 ∨ c = 2 ∨ c = 91 ∨ c = 40 ∨ c = 123)
def pRow {α : Type} (pp : Tk → Rs α) : Nat → Tk → Rs (List α)
  | 0, T => .error (9, T)
  | f + 1, T => match pp T with
    | .error e => .error e
    | .ok (T1, x) => if isPt T1.1 = true then (match pRow pp f T1 with
      | .error e => .error e
      | .ok (T2, r) => .ok (T2, x :: r)) else .ok (T1, [x])
def pForm {α : Type} (nx : Tk → Tk) (pr : Tk → Rs α) : Nat → Tk → Rs (List α)
  | 0, T => .error (9, T)
  | f + 1, T => match pr T with
    | .error e => .error e
    | .ok (T1, x) => if T1.1 = 124 then (match pForm nx pr f (nx T1) with
      | .error e => .error e
      | .ok (T2, r) => .ok (T2, x :: r)) else .ok (T1, [x])
def pSet {α : Type} (nx : Tk → Tk) (pf : Tk → Rs α) (b : Bool) : Nat → Tk → Rs (List α)
  | 0, T => .error (9, T)
  | j + 1, T => match pf T with
    | .error e => .error e
    | .ok (T1, x) => if b = true ∧ T1.1 = 44 then (if j = 0 then .error (3, T1) else (match pSet nx pf b j (nx T1) with
      | .error e => .error e
      | .ok (T2, r) => .ok (T2, x :: r))) else .ok (T1, [x])
def pNum (nx : Tk → Tk) (T : Tk) : Rs Lf := if (nx T).1 = 46 then (if (nx (nx T)).1 = 2 then (if T.2.2.1 ≤ (nx (nx T)).2.2.1 then .ok (nx (nx (nx T)), (false, T.2.2.1, (nx (nx T)).2.2.1)) else .error (2, nx (nx T))) else .error (1, nx (nx T))) else .ok (nx T, (false, T.2.2.1, T.2.2.1))
def bOf (c : Nat) : Nat := if c = 91 then 0 else if c = 40 then 1 else 2
def mpR {α β : Type} (f : α → β) : Rs α → Rs β
  | .error e => .error e
  | .ok (T, x) => .ok (T, f x)
/-- what is read of a leaf, if it is one -/
def pLeaf (nx : Tk → Tk) (T : Tk) : Rs Lf := if T.1 = 1 then .ok (nx T, (true, T.2.2.1, T.2.2.1)) else pNum nx T
def pBr {α : Type} (nx : Tk → Tk) (ps : Tk → Rs (List α)) (T : Tk) : Rs (Nat × List α) := match ps (nx T) with
  | .error e => .error e
  | .ok (T1, fs) => if T1.1 = cls (bOf T.1) then .ok (nx T1, (bOf T.1, fs)) else .error (1, T1)
def pPart (nx : Tk → Tk) (ff : Nat) : (d : Nat) → Tk → Rs (Prt d)
  | 0, T => if T.1 = 1 ∨ T.1 = 2 then pLeaf nx T else if isPt T.1 = true then .error (3, T) else .error (1, T)
  | d + 1, T => if T.1 = 1 ∨ T.1 = 2 then mpR (fun x => (Sum.inl x : Lf ⊕ (Nat × List (List (List (Prt d)))))) (pLeaf nx T) else if isPt T.1 = true then mpR (fun x => (Sum.inr x : Lf ⊕ (Nat × List (List (List (Prt d)))))) (pBr nx (pSet nx (pForm nx (pRow (pPart nx ff d) ff) ff) (decide (T.1 = 123)) 5) T) else .error (1, T)
def pTop (nx : Tk → Tk) (ff : Nat) (T : Tk) : Rs (List (List (Prt 6))) := match pForm nx (pRow (pPart nx ff 6) ff) ff T with
  | .error e => .error e
  | .ok (T1, F) => if T1.1 = 0 then .ok (T1, F) else .error (1, T1)
/-! tokens go on -/
def Adv (bs : Nat → Nat) (n : Nat) (T T' : Tk) : Prop := ∃ p, T.2.2.2 ≤ p ∧ p ≤ n ∧ T' = tk sgF bs n p
theorem tk_st {sg : Nat → Bool} {bs : Nat → Nat} {n p : Nat} (h : p ≤ n) : p ≤ (tk sg bs n p).2.1 ∨ (tk sg bs n p).2.1 = 200 := by
  have hs := skip_le bs h
  unfold tk
  generalize skip bs n p = q at hs
  unfold tkAt
  split
  · split
    · exact Or.inl (by show p ≤ n; omega)
    · exact Or.inr rfl
  · split
    · rw [(tkRun_c (bs := bs) (q := q) (e := rend bs n q)).1]; exact Or.inl (by omega)
    · rw [(tkSign_le (sg := sg) (bs := bs) (n := n) (q := q) (by omega)).2.2]; exact Or.inl (by omega)
theorem tk_beg {sg : Nat → Bool} {bs : Nat → Nat} {n p : Nat} (h : p ≤ n) (h0 : (tk sg bs n p).1 ≠ 0) (h3 : (tk sg bs n p).1 ≠ 3) : (tk sg bs n p).2.1 < (tk sg bs n p).2.2.2 := by
  have hs := skip_le bs h
  revert h0 h3
  unfold tk
  generalize skip bs n p = q at hs
  unfold tkAt
  split
  · split
    · exact fun hx => absurd rfl hx
    · exact fun _ hx => absurd rfl hx
  · split
    · next h1 h2 =>
      have hc := tkRun_c (bs := bs) (q := q) (e := rend bs n q)
      have hr := rend_le bs (n := n) (p := q) (by omega)
      have hl := rend_lt (i := q) hr.1 (by omega) h2
      intros
      rw [hc.1, hc.2.1]; omega
    · have hc := tkSign_le (sg := sg) (bs := bs) (n := n) (q := q) (by omega)
      intros
      rw [hc.2.2]; exact hc.2.1
theorem Adv.is {bs : Nat → Nat} {n : Nat} {T T' : Tk} (h : Adv bs n T T') : IsTk sgF bs n T' := by
  obtain ⟨p, _, h2, h3⟩ := h; exact ⟨p, h2, h3⟩
theorem Adv.ge {bs : Nat → Nat} {n : Nat} {T T' : Tk} (h : Adv bs n T T') : T.2.2.2 ≤ T'.2.2.2 ∧ T'.2.2.2 ≤ n ∧ (T'.1 ≠ 0 → T'.1 ≠ 3 → T.2.2.2 < T'.2.2.2) := by
  obtain ⟨p, h1, h2, rfl⟩ := h
  have := tk_le (sg := sgF) (bs := bs) h2
  exact ⟨by omega, this.1, fun a b => by have := this.2.2.1 a b; omega⟩
theorem Adv.tr {bs : Nat → Nat} {n : Nat} {T T' T'' : Tk} (h : Adv bs n T T') (h' : Adv bs n T' T'') : Adv bs n T T'' := by
  have := h.ge
  obtain ⟨p, h1, h2, h3⟩ := h'
  exact ⟨p, by omega, h2, h3⟩
theorem Adv.st {bs : Nat → Nat} {n : Nat} {T T' : Tk} (h : Adv bs n T T') (hT : IsTk sgF bs n T) (h0 : T.1 ≠ 0) (h3 : T.1 ≠ 3) : T.2.1 + 1 ≤ T'.2.1 := by
  obtain ⟨q, q1, rfl⟩ := hT
  obtain ⟨p, h1, h2, rfl⟩ := h
  have b := tk_beg q1 h0 h3
  have l := (tk_le (sg := sgF) (bs := bs) q1).2.2.2.2 h0 h3
  rcases tk_st (sg := sgF) (bs := bs) h2 with e | e <;> omega
theorem adv_nx {bs : Nat → Nat} {n : Nat} {T : Tk} (hT : IsTk sgF bs n T) : Adv bs n T (nxF bs n T) := by
  obtain ⟨q, q1, rfl⟩ := hT
  exact ⟨_, Nat.le_refl _, (tk_le q1).1, rfl⟩
theorem tk_200 {bs : Nat → Nat} {n : Nat} {T : Tk} (hT : IsTk sgF bs n T) (h0 : T.1 ≠ 0) (h3 : T.1 ≠ 3) : T.2.1 < 200 := by
  obtain ⟨q, q1, rfl⟩ := hT
  exact (tk_le (sg := sgF) (bs := bs) q1).2.2.2.2 h0 h3
theorem isPt_ne {c : Nat} (h : isPt c = true) : c ≠ 0 ∧ c ≠ 3 := by
  have := of_decide_eq_true h; omega
/-! a reader goes on -/
def AdvR {α : Type} (bs : Nat → Nat) (n : Nat) (pp : Tk → Rs α) : Prop := ∀ T T' x, IsTk sgF bs n T → pp T = .ok (T', x) → Adv bs n T T'
theorem adv_row {α : Type} {bs : Nat → Nat} {n : Nat} {pp : Tk → Rs α} (h : AdvR bs n pp) : ∀ f, AdvR bs n (pRow pp f)
  | 0, T, T', x, hT, e => by cases e
  | f + 1, T, T', x, hT, e => by
    unfold pRow at e
    cases hp : pp T with
    | error e' => rw [hp] at e; cases e
    | ok y =>
      obtain ⟨T1, y⟩ := y
      have a1 := h T T1 y hT hp
      rw [hp] at e
      simp only at e
      split at e
      · cases hr : pRow pp f T1 with
        | error e' => rw [hr] at e; cases e
        | ok z =>
          obtain ⟨T2, z⟩ := z
          rw [hr] at e
          cases e
          exact a1.tr (adv_row h f T1 _ _ a1.is hr)
      · cases e; exact a1
theorem adv_form {α : Type} {bs : Nat → Nat} {n : Nat} {pp : Tk → Rs α} (h : AdvR bs n pp) : ∀ f, AdvR bs n (pForm (nxF bs n) pp f)
  | 0, T, T', x, hT, e => by cases e
  | f + 1, T, T', x, hT, e => by
    unfold pForm at e
    cases hp : pp T with
    | error e' => rw [hp] at e; cases e
    | ok y =>
      obtain ⟨T1, y⟩ := y
      have a1 := h T T1 y hT hp
      rw [hp] at e
      simp only at e
      split at e
      · have a2 := a1.tr (adv_nx a1.is)
        cases hr : pForm (nxF bs n) pp f (nxF bs n T1) with
        | error e' => rw [hr] at e; cases e
        | ok z =>
          obtain ⟨T2, z⟩ := z
          rw [hr] at e
          cases e
          exact a2.tr (adv_form h f _ _ _ a2.is hr)
      · cases e; exact a1
theorem adv_set {α : Type} {bs : Nat → Nat} {n : Nat} {pp : Tk → Rs α} {b : Bool} (h : AdvR bs n pp) : ∀ f, AdvR bs n (pSet (nxF bs n) pp b f)
  | 0, T, T', x, hT, e => by cases e
  | f + 1, T, T', x, hT, e => by
    unfold pSet at e
    cases hp : pp T with
    | error e' => rw [hp] at e; cases e
    | ok y =>
      obtain ⟨T1, y⟩ := y
      have a1 := h T T1 y hT hp
      rw [hp] at e
      simp only at e
      split at e
      · split at e
        · cases e
        · have a2 := a1.tr (adv_nx a1.is)
          cases hr : pSet (nxF bs n) pp b f (nxF bs n T1) with
          | error e' => rw [hr] at e; cases e
          | ok z =>
            obtain ⟨T2, z⟩ := z
            rw [hr] at e
            cases e
            exact a2.tr (adv_set h f _ _ _ a2.is hr)
      · cases e; exact a1
theorem adv_leaf {bs : Nat → Nat} {n : Nat} : AdvR bs n (pLeaf (nxF bs n)) := by
  intro T T' x hT e
  have a1 := adv_nx hT
  unfold pLeaf at e
  split at e
  · cases e; exact a1
  · unfold pNum at e
    have a2 := adv_nx a1.is
    split at e
    · split at e
      · split at e
        · cases e; exact a1.tr (a2.tr (adv_nx a2.is))
        · cases e
      · cases e
    · cases e; exact a1
theorem mpR_ok {α β : Type} {f : α → β} {r : Rs α} {T : Tk} {y : β} (h : mpR f r = .ok (T, y)) : ∃ x, r = .ok (T, x) ∧ y = f x := by
  cases r with
  | error e => cases h
  | ok z => obtain ⟨T1, z⟩ := z; cases h; exact ⟨z, rfl, rfl⟩
theorem adv_part {bs : Nat → Nat} {n ff : Nat} : ∀ d, AdvR bs n (pPart (nxF bs n) ff d)
  | 0, T, T', x, hT, e => by
    have e : (if T.1 = 1 ∨ T.1 = 2 then pLeaf (nxF bs n) T else if isPt T.1 = true then .error (3, T) else .error (1, T) : Rs Lf) = .ok (T', (show Lf from x)) := e
    by_cases h1 : T.1 = 1 ∨ T.1 = 2
    · rw [if_pos h1] at e; exact adv_leaf T T' _ hT e
    · rw [if_neg h1] at e
      by_cases h2 : isPt T.1 = true
      · rw [if_pos h2] at e; cases e
      · rw [if_neg h2] at e; cases e
  | d + 1, T, T', x, hT, e => by
    have e : (if T.1 = 1 ∨ T.1 = 2 then mpR (fun x => (Sum.inl x : Lf ⊕ (Nat × List (List (List (Prt d)))))) (pLeaf (nxF bs n) T) else if isPt T.1 = true then mpR (fun x => (Sum.inr x : Lf ⊕ (Nat × List (List (List (Prt d)))))) (pBr (nxF bs n) (pSet (nxF bs n) (pForm (nxF bs n) (pRow (pPart (nxF bs n) ff d) ff) ff) (decide (T.1 = 123)) 5) T) else .error (1, T) : Rs (Lf ⊕ (Nat × List (List (List (Prt d)))))) = .ok (T', (show Lf ⊕ (Nat × List (List (List (Prt d)))) from x)) := e
    by_cases h1 : T.1 = 1 ∨ T.1 = 2
    · rw [if_pos h1] at e
      obtain ⟨y, h1, _⟩ := mpR_ok e
      exact adv_leaf T T' y hT h1
    · rw [if_neg h1] at e
      by_cases h2 : isPt T.1 = true
      · rw [if_pos h2] at e
        obtain ⟨y, h1, _⟩ := mpR_ok e
        unfold pBr at h1
        have a1 := adv_nx hT
        cases hr : pSet (nxF bs n) (pForm (nxF bs n) (pRow (pPart (nxF bs n) ff d) ff) ff) (decide (T.1 = 123)) 5 (nxF bs n T) with
        | error e' => rw [hr] at h1; cases h1
        | ok z =>
          obtain ⟨T2, z⟩ := z
          rw [hr] at h1
          simp only at h1
          have a2 := a1.tr (adv_set (adv_form (adv_row (adv_part d) ff) ff) 5 _ T2 z a1.is hr)
          split at h1
          · cases h1; exact a2.tr (adv_nx a2.is)
          · cases h1
      · rw [if_neg h2] at e; cases e
