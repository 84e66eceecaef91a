/-! PURE: bits of a set, and what a form takes, as a relation -/
theorem lfp_ix {σ : Type} {F : (σ → Prop) → σ → Prop} (I : Nat → σ → Prop) (hs : ∀ (n : Nat) (bk : σ → Prop) (s : σ), I n s → (∀ m s', m < n → I m s' → bk s') → F bk s) (n : Nat) (s : σ) (h : I n s) : ∃ k, lfp F k s := by
  have key : ∀ (N n : Nat) (s : σ), n ≤ N → I n s → ∀ k, n < k → lfp F k s := by
    intro N
    induction N with
    | zero =>
      intro n s hn h k hk
      obtain ⟨k, rfl⟩ : ∃ k', k = k' + 1 := ⟨k - 1, by omega⟩
      exact hs n _ s h (fun m s' hm => by omega)
    | succ N ih =>
      intro n s hn h k hk
      obtain ⟨k, rfl⟩ : ∃ k', k = k' + 1 := ⟨k - 1, by omega⟩
      exact hs n _ s h (fun m s' hm h' => ih m s' (by omega) h' k (by omega))
  exact ⟨n + 1, key n n s (Nat.le_refl _) h (n + 1) (by omega)⟩
def bt (x : Int32) (k : Nat) : Bool := x.toBitVec.getLsbD k
theorem bt_or (a b : Int32) (k : Nat) : bt (a ||| b) k = (bt a k || bt b k) := by
  unfold bt; rw [Int32.toBitVec_or, BitVec.getLsbD_or]
theorem bt_and (a b : Int32) (k : Nat) : bt (a &&& b) k = (bt a k && bt b k) := by
  unfold bt; rw [Int32.toBitVec_and, BitVec.getLsbD_and]
theorem bt_0 (k : Nat) : bt 0 k = false := by
  unfold bt; simp
theorem bt_ge (a : Int32) {k : Nat} (h : 32 ≤ k) : bt a k = false := by
  unfold bt; exact BitVec.getLsbD_of_ge _ _ h
theorem bt_one : ∀ s, s < 32 → ∀ k, k < 32 → bt ((1 : Int32) <<< (nI s &&& 31)) k = decide (k = s) := by decide +kernel
theorem bt_two : ∀ s, s < 31 → ∀ k, k < 32 → bt ((2 : Int32) <<< (nI s &&& 31)) k = decide (k = s + 1) := by decide +kernel
theorem bt_1 : ∀ k, k < 32 → bt 1 k = decide (k = 0) := by decide +kernel
theorem sh_amt : ∀ k, k < 32 → ((nI k &&& 31).toBitVec.smod 32).toNat = k := by decide +kernel
theorem bt_shl (x : Int32) {k : Nat} (hk : k < 32) : bt (x <<< ((1 : Int32) &&& 31)) k = (decide (1 ≤ k) && bt x (k - 1)) := by
  unfold bt
  rw [Int32.toBitVec_shiftLeft]
  have e : ((1 : Int32) &&& 31).toBitVec.smod 32 = 1#32 := by decide
  rw [e]
  simp [BitVec.getLsbD_shiftLeft, hk]
  cases k with
  | zero => simp
  | succ k =>
    simp
    rw [BitVec.getLsbD_eq_getElem (by omega)]
theorem bt_sr (x : Int32) {s k : Nat} (hs : s < 32) (hk : s + k < 32) : bt (x >>> (nI s &&& 31)) k = bt x (s + k) := by
  unfold bt
  rw [Int32.toBitVec_shiftRight]
  show (x.toBitVec.sshiftRight ((nI s &&& 31).toBitVec.smod 32).toNat).getLsbD k = _
  rw [sh_amt s hs, BitVec.getLsbD_sshiftRight, if_pos hk]
  simp [show ¬ 32 ≤ k by omega]
theorem bt_test (x : Int32) {k : Nat} (hk : k < 32) : ((x >>> (nI k &&& 31)) &&& 1) = 1 ↔ bt x k = true := by
  have h := bt_sr x hk (k := 0) (by omega)
  rw [Nat.add_zero] at h
  rw [← h]
  generalize x >>> (nI k &&& 31) = y
  have hb := bt_and y 1 0
  rw [bt_1 0 (by decide)] at hb
  simp at hb
  rw [← hb]
  constructor
  · intro e; rw [e]; decide
  · intro e
    rcases and01 y with h0 | h0
    · rw [h0] at e; exact absurd e (by decide)
    · exact h0
theorem bt_sr0 {x : Int32} {s : Nat} (hs : s < 32) (h : x >>> (nI s &&& 31) = 0) {k : Nat} (hk : s ≤ k) : bt x k = false := by
  rcases Nat.lt_or_ge k 32 with h32 | h32
  · have := bt_sr x hs (k := k - s) (by omega)
    rw [h, bt_0, show s + (k - s) = k by omega] at this
    exact this.symm
  · exact bt_ge x h32
theorem sb_test : ∀ s, s < 32 → ∀ f, f < 5 → (((nI s >>> (nI f &&& 31)) &&& 1) = 0 ↔ s.testBit f = false) := by decide +kernel
theorem sb_or : ∀ s, s < 32 → ∀ f, f < 5 → s.testBit f = false → s < s ||| 2 ^ f ∧ s ||| 2 ^ f < 32 ∧ (s ||| 2 ^ f).testBit f = true := by decide +kernel
/-- a leaf takes one token -/
def rL (N : Nat) (a : AnT) (p : Lf) (k j : Nat) : Prop := k < N ∧ j = k + 1 ∧ a.1 k = p.1 ∧ p.2.1 ≤ a.2 k ∧ a.2 k ≤ p.2.2
def rR {α : Type} (R : α → Nat → Nat → Prop) : List α → Nat → Nat → Prop
  | [], k, j => k = j
  | p :: r, k, j => ∃ i, R p k i ∧ rR R r i j
def rF {α : Type} (R : α → Nat → Nat → Prop) (F : List (List α)) (k j : Nat) : Prop := ∃ row ∈ F, rR R row k j
/-- forms used (bits of s) in whatever order, from a start -/
def reS (m : Nat) (rel : Nat → Nat → Nat → Prop) (St : Nat → Prop) (s j : Nat) : Prop := ∀ P : Nat → Nat → Prop, (∀ j, St j → P 0 j) → (∀ s f i j, f < m → s < 2 ^ m → s.testBit f = false → P s i → rel f i j → P (s ||| 2 ^ f) j) → P s j
theorem reS_0 {m : Nat} {rel : Nat → Nat → Nat → Prop} {St : Nat → Prop} {j : Nat} (h : St j) : reS m rel St 0 j := fun P h0 _ => h0 j h
theorem reS_s {m : Nat} {rel : Nat → Nat → Nat → Prop} {St : Nat → Prop} {s f i j : Nat} (hf : f < m) (hs : s < 2 ^ m) (hb : s.testBit f = false) (h : reS m rel St s i) (hr : rel f i j) : reS m rel St (s ||| 2 ^ f) j := fun P h0 h1 => h1 s f i j hf hs hb (h P h0 h1) hr
theorem reS_inv {m : Nat} {rel : Nat → Nat → Nat → Prop} {St : Nat → Prop} {s j : Nat} (h : reS m rel St s j) : (s = 0 ∧ St j) ∨ ∃ s' f i, s = s' ||| 2 ^ f ∧ f < m ∧ s' < 2 ^ m ∧ s'.testBit f = false ∧ reS m rel St s' i ∧ rel f i j := by
  have := h (fun s j => ((s = 0 ∧ St j) ∨ ∃ s' f i, s = s' ||| 2 ^ f ∧ f < m ∧ s' < 2 ^ m ∧ s'.testBit f = false ∧ reS m rel St s' i ∧ rel f i j) ∧ reS m rel St s j) (fun j hj => ⟨Or.inl ⟨rfl, hj⟩, reS_0 hj⟩) (fun s f i j hf hs hb hp hr => ⟨Or.inr ⟨s, f, i, rfl, hf, hs, hb, hp.2, hr⟩, reS_s hf hs hb hp.2 hr⟩)
  exact this.1
theorem reS_lin {m : Nat} {rel : Nat → Nat → Nat → Prop} {St : Nat → Prop} {s j : Nat} : reS m rel St s j ↔ ∃ k, St k ∧ reS m rel (fun i => i = k) s j := by
  constructor
  · intro h
    exact h (fun s j => ∃ k, St k ∧ reS m rel (fun i => i = k) s j) (fun j hj => ⟨j, hj, reS_0 rfl⟩) (fun s f i j hf hs hb ⟨k, hk, hp⟩ hr => ⟨k, hk, reS_s hf hs hb hp hr⟩)
  · rintro ⟨k, hk, h⟩
    exact h (fun s j => reS m rel St s j) (fun j hj => by rw [hj]; exact reS_0 hk) (fun s f i j hf hs hb hp hr => reS_s hf hs hb hp hr)
def rP (N : Nat) (a : AnT) : (d : Nat) → Prt d → Nat → Nat → Prop
  | 0, p, k, j => rL N a p k j
  | d + 1, p, k, j => match (show Lf ⊕ (Nat × List (List (List (Prt d)))) from p) with
    | .inl q => rL N a q k j
    | .inr q => if q.1 = 0 then (k = j ∨ rF (rP N a d) (q.2.getD 0 []) k j) else if q.1 = 1 then rF (rP N a d) (q.2.getD 0 []) k j else reS q.2.length (fun f => rF (rP N a d) (q.2.getD f [])) (fun i => i = k) (2 ^ q.2.length - 1) j
theorem rR_le {α : Type} {R : α → Nat → Nat → Prop} {N : Nat} (h : ∀ p k j, k ≤ N → R p k j → j ≤ N) : ∀ (r : List α) (k j : Nat), k ≤ N → rR R r k j → j ≤ N
  | [], k, j, hk, e => by have e : k = j := e; omega
  | p :: r, k, j, hk, ⟨i, h1, h2⟩ => rR_le h r i j (h p k i hk h1) h2
theorem rF_le {α : Type} {R : α → Nat → Nat → Prop} {N : Nat} (h : ∀ p k j, k ≤ N → R p k j → j ≤ N) {F : List (List α)} {k j : Nat} (hk : k ≤ N) (e : rF R F k j) : j ≤ N := by
  obtain ⟨row, _, hr⟩ := e
  exact rR_le h row k j hk hr
theorem rP_le (N : Nat) (a : AnT) : ∀ (d : Nat) (p : Prt d) (k j : Nat), k ≤ N → rP N a d p k j → j ≤ N
  | 0, p, k, j, hk, h => by have h : rL N a p k j := h
                            have := h.1; have := h.2.1; omega
  | d + 1, p, k, j, hk, h => by
    unfold rP at h
    revert h
    cases (show Lf ⊕ (Nat × List (List (List (Prt d)))) from p) with
    | inl q => intro h
               have h : rL N a q k j := h
               have := h.1; have := h.2.1; omega
    | inr q =>
      intro h
      have ih := fun p k j => rP_le N a d p k j
      have h : if q.1 = 0 then (k = j ∨ rF (rP N a d) (q.2.getD 0 []) k j) else if q.1 = 1 then rF (rP N a d) (q.2.getD 0 []) k j else reS q.2.length (fun f => rF (rP N a d) (q.2.getD f [])) (fun i => i = k) (2 ^ q.2.length - 1) j := h
      split at h
      · rcases h with h | h
        · omega
        · exact rF_le ih hk h
      · split at h
        · exact rF_le ih hk h
        · exact h (fun _ j => j ≤ N) (fun j hj => by omega) (fun s f i j _ _ _ hi hr => rF_le ih hi hr)
/-! the subset walk: what is there when s is come to, and its forms ahead of f were used -/
def duS (m : Nat) (rel : Nat → Nat → Nat → Prop) (St : Nat → Prop) (c fc t j : Nat) : Prop := (t = 0 ∧ St j) ∨ ∃ s f i, t = s ||| 2 ^ f ∧ f < m ∧ s < 2 ^ m ∧ s.testBit f = false ∧ (s < c ∨ (s = c ∧ f < fc)) ∧ reS m rel St s i ∧ rel f i j
theorem duS_re {m : Nat} {rel : Nat → Nat → Nat → Prop} {St : Nat → Prop} {c t j : Nat} (hm : m ≤ 5) (h : t ≤ c) : duS m rel St c 0 t j ↔ reS m rel St t j := by
  constructor
  · rintro (⟨rfl, hj⟩ | ⟨s, f, i, rfl, h1, h2, h3, h4, h5, h6⟩)
    · exact reS_0 hj
    · exact reS_s h1 h2 h3 h5 h6
  · intro hr
    rcases reS_inv hr with ⟨rfl, hj⟩ | ⟨s, f, i, rfl, h1, h2, h3, h5, h6⟩
    · exact Or.inl ⟨rfl, hj⟩
    · have h32 : s < 32 := Nat.lt_of_lt_of_le h2 (Nat.pow_le_pow_right (n := 2) (by decide) hm)
      have := sb_or s h32 f (by omega) h3
      exact Or.inr ⟨s, f, i, rfl, h1, h2, h3, Or.inl (by omega), h5, h6⟩
theorem duS_next {m : Nat} {rel : Nat → Nat → Nat → Prop} {St : Nat → Prop} {c t j : Nat} : duS m rel St c m t j ↔ duS m rel St (c + 1) 0 t j := by
  constructor
  · rintro (h | ⟨s, f, i, e, h1, h2, h3, h4, h5⟩)
    · exact Or.inl h
    · exact Or.inr ⟨s, f, i, e, h1, h2, h3, Or.inl (by omega), h5⟩
  · rintro (h | ⟨s, f, i, e, h1, h2, h3, h4, h5⟩)
    · exact Or.inl h
    · exact Or.inr ⟨s, f, i, e, h1, h2, h3, by omega, h5⟩
theorem duS_0 {m : Nat} {rel : Nat → Nat → Nat → Prop} {St : Nat → Prop} {t j : Nat} : duS m rel St 0 0 t j ↔ (t = 0 ∧ St j) := by
  constructor
  · rintro (h | ⟨s, f, i, e, h1, h2, h3, h4, h5⟩)
    · exact h
    · omega
  · exact Or.inl
/-- one more form, used or not -/
theorem duS_f {m : Nat} {rel : Nat → Nat → Nat → Prop} {St : Nat → Prop} {c fc t j : Nat} (hm : m ≤ 5) (hc : c < 2 ^ m) (hf : fc < m) : duS m rel St c (fc + 1) t j ↔ duS m rel St c fc t j ∨ (c.testBit fc = false ∧ t = c ||| 2 ^ fc ∧ ∃ i, duS m rel St c 0 c i ∧ rel fc i j) := by
  constructor
  · rintro (h | ⟨s, f, i, e, h1, h2, h3, h4, h5, h6⟩)
    · exact Or.inl (Or.inl h)
    · by_cases hx : s = c ∧ f = fc
      · obtain ⟨rfl, rfl⟩ := hx
        exact Or.inr ⟨h3, e, i, (duS_re hm (Nat.le_refl _)).mpr h5, h6⟩
      · exact Or.inl (Or.inr ⟨s, f, i, e, h1, h2, h3, by omega, h5, h6⟩)
  · rintro (h | ⟨h3, e, i, h5, h6⟩)
    · rcases h with h | ⟨s, f, i, e, h1, h2, h3, h4, h5⟩
      · exact Or.inl h
      · exact Or.inr ⟨s, f, i, e, h1, h2, h3, by omega, h5⟩
    · exact Or.inr ⟨c, fc, i, e, hf, hc, h3, Or.inr ⟨rfl, by omega⟩, (duS_re hm (Nat.le_refl _)).mp h5, h6⟩
theorem duS_skip {m : Nat} {rel : Nat → Nat → Nat → Prop} {St : Nat → Prop} {c t j : Nat} (hm : m ≤ 5) (fc : Nat) (hn : ∀ i, ¬ duS m rel St c 0 c i) : duS m rel St (c + 1) 0 t j ↔ duS m rel St c fc t j := by
  constructor
  · rintro (h | ⟨s, f, i, e, h1, h2, h3, h4, h5, h6⟩)
    · exact Or.inl h
    · by_cases hx : s = c
      · subst hx; exact absurd ((duS_re hm (Nat.le_refl _)).mpr h5) (hn i)
      · exact Or.inr ⟨s, f, i, e, h1, h2, h3, Or.inl (by omega), h5, h6⟩
  · rintro (h | ⟨s, f, i, e, h1, h2, h3, h4, h5⟩)
    · exact Or.inl h
    · exact Or.inr ⟨s, f, i, e, h1, h2, h3, Or.inl (by omega), h5⟩
