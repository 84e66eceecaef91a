/-! PURE: forms, as trees of a depth -/
/-- a word or a number: whether a word, from, to -/
abbrev Lf : Type := Bool × Nat × Nat
/-- a part with at most d brackets within each other: a leaf, or a bracket (0 [ ], 1 ( ), 2 { }) with its forms (rows of parts) -/
def Prt : Nat → Type
  | 0 => Lf
  | d + 1 => Lf ⊕ (Nat × List (List (List (Prt d))))
abbrev Itm : Type := Nat × Int64 × Int64
def lfI (p : Lf) : Itm := if p.1 = true then (1, -(lN p.2.1), -(lN p.2.2)) else (2, lN p.2.1, lN p.2.2)
def sepL (s : Itm) : List (List Itm) → List Itm
  | [] => []
  | x :: r => match r with
    | [] => x
    | _ :: _ => x ++ s :: sepL s r
/-- a form's items: rows with | between -/
def linF {α : Type} (f : α → List Itm) (F : List (List α)) : List Itm := sepL (124, 0, 0) (F.map (fun r => (r.map f).flatten))
def opn (b : Nat) : Nat := if b = 0 then 91 else if b = 1 then 40 else 123
def cls (b : Nat) : Nat := if b = 0 then 93 else if b = 1 then 41 else 125
def linS (b : Nat) (xs : List (List Itm)) : List Itm := (opn b, 0, 0) :: (sepL (44, 0, 0) xs ++ [(cls b, 0, 0)])
def linP : (d : Nat) → Prt d → List Itm
  | 0, p => [lfI p]
  | d + 1, p => match (show Lf ⊕ (Nat × List (List (List (Prt d)))) from p) with
    | .inl q => [lfI q]
    | .inr q => linS q.1 (q.2.map (linF (linP d)))
/-- the reference's nodes: kinds, children, nexts, lows, highs -/
abbrev NdT : Type := (Nat → Int32) × (Nat → Int32) × (Nat → Int32) × (Nat → Int64) × (Nat → Int64)
def chn {α : Type} (lo hi : Nat) (X : Nat → Int32) (P : Nat → α → Prop) : Int32 → List α → Prop
  | s, [] => s = -1
  | s, a :: r => ∃ n : Nat, lo ≤ n ∧ n < hi ∧ s = nI n ∧ P n a ∧ chn lo hi X P (X n) r
def encL (N : NdT) (n : Nat) (p : Lf) : Prop := (if p.1 = true then N.1 n = 2 else (N.1 n = 3 ∨ N.1 n = 4)) ∧ N.2.2.2.1 n = lN p.2.1 ∧ N.2.2.2.2 n = lN p.2.2
def encR {α : Type} (lo hi : Nat) (N : NdT) (P : Nat → α → Prop) (n : Nat) (r : List α) : Prop := N.1 n = 1 ∧ chn lo hi N.2.2.1 P (N.2.1 n) r
def encF {α : Type} (lo hi : Nat) (N : NdT) (P : Nat → α → Prop) (n : Nat) (F : List (List α)) : Prop := N.1 n = 0 ∧ chn lo hi N.2.2.1 (encR lo hi N P) (N.2.1 n) F
def encP (lo hi : Nat) (N : NdT) : (d : Nat) → Nat → Prt d → Prop
  | 0, n, p => encL N n p
  | d + 1, n, p => match (show Lf ⊕ (Nat × List (List (List (Prt d)))) from p) with
    | .inl q => encL N n q
    | .inr q => N.1 n = nI (5 + q.1) ∧ chn lo hi N.2.2.1 (encF lo hi N (encP lo hi N d)) (N.2.1 n) q.2
/-- a leaf's numbers are small; brackets 0 to 2; { } has 1 to 5 forms, others one; no row and no form is empty -/
def okL (p : Lf) : Prop := p.2.1 ≤ p.2.2 ∧ p.2.2 < 2 ^ 60 ∧ (p.1 = true → p.2.1 = p.2.2 ∧ 0 < p.2.1)
def okF {α : Type} (P : α → Prop) (F : List (List α)) : Prop := F ≠ [] ∧ ∀ r ∈ F, r ≠ [] ∧ ∀ p ∈ r, P p
def okP : (d : Nat) → Prt d → Prop
  | 0, p => okL p
  | d + 1, p => match (show Lf ⊕ (Nat × List (List (List (Prt d)))) from p) with
    | .inl q => okL q
    | .inr q => q.1 ≤ 2 ∧ 1 ≤ q.2.length ∧ q.2.length ≤ 5 ∧ (q.1 ≤ 1 → q.2.length = 1) ∧ ∀ F ∈ q.2, okF (okP d) F
/-- the nodes as they stand in memory -/
def ndM (g : Gh) (M : Mem) : NdT := (mI M (gB g + 197), mI M (gB g + 198), mI M (gB g + 199), mJ M (gB g + 200), mJ M (gB g + 201))
/-- question q: the class's form at f and the reference's nodes are of one tree -/
def FQ (g : Gh) (M : Mem) (q f : Nat) : Prop := ∃ (F : List (List (Prt 6))) (ka la ha : Nat), okF (okP 6) F ∧ (linF (linP 6) F).length ≤ 200 ∧ (mR M f 0 = some ka ∧ mR M f 1 = some la ∧ mR M f 2 = some ha) ∧ (okc (gB g) M ka 13 ∧ okc (gB g) M la 15 ∧ okc (gB g) M ha 15) ∧ ((gB g + 234) ≤ ka ∧ (gB g + 234) ≤ la ∧ (gB g + 234) ≤ ha) ∧ (mN M ka = (linF (linP 6) F).length ∧ mN M la = (linF (linP 6) F).length ∧ mN M ha = (linF (linP 6) F).length) ∧ (∀ i x, (linF (linP 6) F)[i]? = some x → mI M ka i = nI x.1 ∧ mJ M la i = x.2.1 ∧ mJ M ha i = x.2.2) ∧ encF (420 * q) (420 * q + 420) (ndM g M) (encP (420 * q) (420 * q + 420) (ndM g M) 6) (420 * q) F
/-! frames of trees -/
def ndE (lo hi : Nat) (N N' : NdT) : Prop := ∀ n, lo ≤ n → n < hi → N'.1 n = N.1 n ∧ N'.2.1 n = N.2.1 n ∧ N'.2.2.1 n = N.2.2.1 n ∧ N'.2.2.2.1 n = N.2.2.2.1 n ∧ N'.2.2.2.2 n = N.2.2.2.2 n
theorem chn_fr {α : Type} {lo hi : Nat} {X X' : Nat → Int32} {P P' : Nat → α → Prop} (hX : ∀ n, lo ≤ n → n < hi → X' n = X n) (hP : ∀ n a, lo ≤ n → n < hi → P n a → P' n a) : ∀ (l : List α) (s : Int32), chn lo hi X P s l → chn lo hi X' P' s l
  | [], _, h => h
  | a :: r, s, ⟨n, h1, h2, h3, h4, h5⟩ => ⟨n, h1, h2, h3, hP n a h1 h2 h4, by rw [hX n h1 h2]; exact chn_fr hX hP r _ h5⟩
theorem encL_fr {lo hi : Nat} {N N' : NdT} (h : ndE lo hi N N') {n : Nat} {p : Lf} (h1 : lo ≤ n) (h2 : n < hi) (e : encL N n p) : encL N' n p := by
  have := h n h1 h2
  unfold encL; rw [this.1, this.2.2.2.1, this.2.2.2.2]; exact e
theorem encF_fr {α : Type} {lo hi : Nat} {N N' : NdT} (h : ndE lo hi N N') {P P' : Nat → α → Prop} (hP : ∀ n a, lo ≤ n → n < hi → P n a → P' n a) {n : Nat} {F : List (List α)} (h1 : lo ≤ n) (h2 : n < hi) (e : encF lo hi N P n F) : encF lo hi N' P' n F := by
  have hn := h n h1 h2
  refine ⟨by rw [hn.1]; exact e.1, ?_⟩
  rw [hn.2.1]
  refine chn_fr (fun k k1 k2 => (h k k1 k2).2.2.1) (fun k a k1 k2 ek => ?_) _ _ e.2
  have hk := h k k1 k2
  refine ⟨by rw [hk.1]; exact ek.1, ?_⟩
  rw [hk.2.1]
  exact chn_fr (fun k k1 k2 => (h k k1 k2).2.2.1) hP _ _ ek.2
theorem encP_fr {lo hi : Nat} {N N' : NdT} (h : ndE lo hi N N') : ∀ (d n : Nat) (p : Prt d), lo ≤ n → n < hi → encP lo hi N d n p → encP lo hi N' d n p
  | 0, n, p, h1, h2, e => encL_fr h h1 h2 e
  | d + 1, n, p, h1, h2, e => by
    have hn := h n h1 h2
    unfold encP at e ⊢
    revert e
    cases (show Lf ⊕ (Nat × List (List (List (Prt d)))) from p) with
    | inl q => exact fun e => encL_fr h h1 h2 e
    | inr q =>
      intro e
      refine ⟨by rw [hn.1]; exact e.1, ?_⟩
      rw [hn.2.1]
      exact chn_fr (fun k k1 k2 => (h k k1 k2).2.2.1) (fun k a k1 k2 ek => encF_fr h (fun n a n1 n2 => encP_fr h d n a n1 n2) k1 k2 ek) _ _ e.2
theorem FQ.fr {g : Gh} {M M' : Mem} {q f : Nat} {P Q : Nat → Nat → Prop} (h : FQ g M q f) (fr : Fr P Q M M') (hp : ∀ a k, P a k → ((gB g + 234) ≤ a → ∃ c, c ≠ 13 ∧ okc (gB g) M a c) ∧ ¬ ((gB g + 197) ≤ a ∧ a ≤ (gB g + 199) ∧ 420 * q ≤ k ∧ k < 420 * q + 420)) (hq : ∀ a k, Q a k → a < (gB g + 234) ∧ ¬ ((gB g + 200) ≤ a ∧ a ≤ (gB g + 201) ∧ 420 * q ≤ k ∧ k < 420 * q + 420)) : FQ g M' q f := by
  obtain ⟨F, ka, la, ha, h1, h2, h3, h4, h5, h6, h7, h8⟩ := h
  have hN : ndE (420 * q) (420 * q + 420) (ndM g M) (ndM g M') := by
    intro n n1 n2
    refine ⟨fr.1 _ _ (fun hh => ?_), fr.1 _ _ (fun hh => ?_), fr.1 _ _ (fun hh => ?_), fr.2.1 _ _ (fun hh => ?_), fr.2.1 _ _ (fun hh => ?_)⟩
    · have := (hp _ _ hh).2; omega
    · have := (hp _ _ hh).2; omega
    · have := (hp _ _ hh).2; omega
    · have := (hq _ _ hh).2; omega
    · have := (hq _ _ hh).2; omega
  refine ⟨F, ka, la, ha, h1, h2, by rw [fr.R]; exact h3, ⟨fr.oc h4.1, fr.oc h4.2.1, fr.oc h4.2.2⟩, h5, by rw [fr.N]; exact h6, fun i x hx => ?_, ?_⟩
  · rw [fr.1 ka i (fun hh => by obtain ⟨c, c1, c2⟩ := (hp _ _ hh).1 h5.1; exact c1 (c2.2.2.symm.trans h4.1.2.2)), fr.2.1 la i (fun hh => by have := hq _ _ hh; omega), fr.2.1 ha i (fun hh => by have := hq _ _ hh; omega)]
    exact h7 i x hx
  · exact encF_fr hN (fun n a n1 n2 => encP_fr hN 6 n a n1 n2) (Nat.le_refl _) (by omega) h8
