/-! PURE: a pack is looked for, in numbers -/
/-- how many free ones are ahead of q -/
def ixN (fre : Nat → Bool) : Nat → Nat
  | 0 => 0
  | q + 1 => if fre q = true then ixN fre q + 1 else ixN fre q
theorem ixN_le (fre : Nat → Bool) : ∀ q, ixN fre q ≤ q
  | 0 => Nat.le_refl _
  | q + 1 => by have := ixN_le fre q; unfold ixN; split <;> omega
theorem ixN_mono (fre : Nat → Bool) : ∀ {a b : Nat}, a ≤ b → ixN fre a ≤ ixN fre b := by
  intro a b h
  induction b with
  | zero => have : a = 0 := by omega
            subst this; exact Nat.le_refl _
  | succ b ih =>
    rcases (show a ≤ b ∨ a = b + 1 by omega) with h1 | h1
    · have := ih h1
      have e : ixN fre (b + 1) = if fre b = true then ixN fre b + 1 else ixN fre b := rfl
      rw [e]; split <;> omega
    · subst h1; exact Nat.le_refl _
theorem ixN_lt {fre : Nat → Bool} {a b : Nat} (h : a < b) (hf : fre a = true) : ixN fre a < ixN fre b := by
  have h1 := ixN_mono fre (show a + 1 ≤ b from h)
  have e : ixN fre (a + 1) = ixN fre a + 1 := if_pos hf
  omega
theorem ixN_sur (fre : Nat → Bool) : ∀ (nq i : Nat), i < ixN fre nq → ∃ q, q < nq ∧ fre q = true ∧ ixN fre q = i
  | 0, i, h => by have : ixN fre 0 = 0 := rfl
                  omega
  | nq + 1, i, h => by
    have e : ixN fre (nq + 1) = if fre nq = true then ixN fre nq + 1 else ixN fre nq := rfl
    by_cases hf : fre nq = true
    · rw [e, if_pos hf] at h
      rcases (show i < ixN fre nq ∨ i = ixN fre nq by omega) with h1 | h1
      · obtain ⟨q, a, b⟩ := ixN_sur fre nq i h1
        exact ⟨q, by omega, b⟩
      · exact ⟨nq, by omega, hf, h1.symm⟩
    · rw [e, if_neg hf] at h
      obtain ⟨q, a, b⟩ := ixN_sur fre nq i h
      exact ⟨q, by omega, b⟩
theorem nu_ex (fre : Nat → Bool) (nq : Nat) : ∃ nu : Nat → Nat, ∀ i, i < ixN fre nq → nu i < nq ∧ fre (nu i) = true ∧ ixN fre (nu i) = i := by
  have h : ∀ i, ∃ q, i < ixN fre nq → q < nq ∧ fre q = true ∧ ixN fre q = i := fun i => by
    by_cases hi : i < ixN fre nq
    · obtain ⟨q, hq⟩ := ixN_sur fre nq i hi
      exact ⟨q, fun _ => hq⟩
    · exact ⟨0, fun hx => absurd hx hi⟩
  exact ⟨fun i => Classical.choose (h i), fun i hi => Classical.choose_spec (h i) hi⟩
/-- how many are in, where to look from, looks, hards, which are in, how many of a theme -/
abbrev PS : Type := Nat × Nat × Nat × Int32 × (Nat → Nat) × (Nat → Int32)
def pN (s : PS) : Nat := s.1
def pF (s : PS) : Nat := s.2.1
def pL (s : PS) : Nat := s.2.2.1
def pH (s : PS) : Int32 := s.2.2.2.1
def pK (s : PS) : Nat → Nat := s.2.2.2.2.1
def pT (s : PS) : Nat → Int32 := s.2.2.2.2.2
/-- what the looking goes by: free ones, their themes and hards; most; wanted; low; high; looks allowed -/
abbrev PA : Type := Nat × (Nat → Nat) × (Nat → Int32) × Int32 × Nat × Int32 × Int32 × Nat
def aF (A : PA) : Nat := A.1
def aT (A : PA) : Nat → Nat := A.2.1
def aH (A : PA) : Nat → Int32 := A.2.2.1
def aM (A : PA) : Int32 := A.2.2.2.1
def aW (A : PA) : Nat := A.2.2.2.2.1
def aLo (A : PA) : Int32 := A.2.2.2.2.2.1
def aHi (A : PA) : Int32 := A.2.2.2.2.2.2.1
def aK (A : PA) : Nat := A.2.2.2.2.2.2.2
/-- the next with room, from i on: n more to look at -/
def nwr (A : PA) (t : Nat → Int32) : Nat → Nat → Nat
  | 0, i => i
  | n + 1, i => if aM A ≤ t (aT A i) then nwr A t n (i + 1) else i
def nxI (A : PA) (s : PS) : Nat := if pN s = aW A then aF A else nwr A (pT s) (aF A - pF s) (pF s)
def upN {α : Type} (f : Nat → α) (k : Nat) (v : α) : Nat → α := fun j => if j = k then v else f j
theorem upN_s {α : Type} (f : Nat → α) (k : Nat) (v : α) : upN f k v k = v := if_pos rfl
theorem upN_n {α : Type} (f : Nat → α) {k j : Nat} (v : α) (h : j ≠ k) : upN f k v j = f j := if_neg h
def putP (A : PA) (s : PS) (i : Nat) : PS := (pN s + 1, i + 1, pL s + 1, pH s + aH A i, upN (pK s) (pN s) i, upN (pT s) (aT A i) (pT s (aT A i) + 1))
def takP (A : PA) (s : PS) : PS := (pN s - 1, pK s (pN s - 1) + 1, pL s, pH s - aH A (pK s (pN s - 1)), pK s, upN (pT s) (aT A (pK s (pN s - 1))) (pT s (aT A (pK s (pN s - 1))) - 1))
/-- the end: 0 found, 1 none, 2 spent -/
def run (A : PA) : Nat → PS → Nat × PS
  | 0, s => (9, s)
  | k + 1, s =>
    if pN s = aW A ∧ ¬ pH s < aLo A ∧ ¬ aHi A < pH s then (0, s)
    else if nxI A s < aF A then (if pL s = aK A then (2, s) else run A k (putP A s (nxI A s)))
    else if pN s = 0 then (1, s) else run A k (takP A s)
def muP (A : PA) (s : PS) : Nat := (aK A - pL s) * 100 + pN s
def okS (A : PA) (s : PS) : Prop := pN s ≤ aW A ∧ pN s ≤ pL s ∧ pL s ≤ aK A ∧ pF s ≤ aF A ∧ ∀ j, j < pN s → pK s j < aF A
theorem nwr_le (A : PA) (t : Nat → Int32) : ∀ n i, i ≤ nwr A t n i ∧ nwr A t n i ≤ i + n
  | 0, i => ⟨Nat.le_refl _, Nat.le_refl _⟩
  | n + 1, i => by
    have ih := nwr_le A t n (i + 1)
    unfold nwr
    split <;> omega
theorem okS_put {A : PA} {s : PS} (h : okS A s) (hW : pN s < aW A) (hL : pL s ≠ aK A) {i : Nat} (hi : i < aF A) : okS A (putP A s i) := by
  obtain ⟨h1, h2, h3, h4, h5⟩ := h
  refine ⟨?_, ?_, ?_, ?_, fun j hj => ?_⟩
  · show pN s + 1 ≤ _; omega
  · show pN s + 1 ≤ pL s + 1; omega
  · show pL s + 1 ≤ _; omega
  · show i + 1 ≤ _; omega
  · show upN (pK s) (pN s) i j < _
    have hj : j < pN s + 1 := hj
    by_cases hjn : j = pN s
    · subst hjn; rw [upN_s]; exact hi
    · rw [upN_n _ _ hjn]; exact h5 j (by omega)
theorem okS_tak {A : PA} {s : PS} (h : okS A s) (h0 : pN s ≠ 0) : okS A (takP A s) := by
  obtain ⟨h1, h2, h3, h4, h5⟩ := h
  have := h5 (pN s - 1) (by omega)
  refine ⟨?_, ?_, h3, ?_, fun j hj => h5 j ?_⟩
  · show pN s - 1 ≤ _; omega
  · show pN s - 1 ≤ pL s; omega
  · show pK s (pN s - 1) + 1 ≤ _; omega
  · have hj : j < pN s - 1 := hj
    omega
theorem mu_put {A : PA} {s : PS} (h : okS A s) (hL : pL s ≠ aK A) (i : Nat) : muP A (putP A s i) < muP A s := by
  have h3 := h.2.2.1
  show (aK A - (pL s + 1)) * 100 + (pN s + 1) < (aK A - pL s) * 100 + pN s
  omega
theorem mu_tak {A : PA} {s : PS} (h0 : pN s ≠ 0) : muP A (takP A s) < muP A s := by
  show (aK A - pL s) * 100 + (pN s - 1) < (aK A - pL s) * 100 + pN s
  omega
theorem nx_lt {A : PA} {s : PS} (h : nxI A s < aF A) : pN s ≠ aW A := by
  intro he; unfold nxI at h; rw [if_pos he] at h; omega
theorem neg1mul (a h : Int32) : a + (-1) * h = a - h := by
  rw [Int32.sub_eq_add_neg, Int32.neg_mul, Int32.one_mul]
theorem and01 (x : Int32) : x &&& 1 = 0 ∨ x &&& 1 = 1 := by
  obtain ⟨j, hj, e⟩ := pk_andE x (m := 1) 1 (by decide)
  rw [e]
  rcases (show j = 0 ∨ j = 1 by omega) with rfl | rfl
  · exact Or.inl rfl
  · exact Or.inr rfl
theorem and_n1 {x : Int32} : (¬ x &&& 1 = 1) ↔ x &&& 1 = 0 := by
  rcases and01 x with h | h <;> rw [h] <;> decide
def hdI (a k : Int32) : Int32 := if a = 0 then 50 else 100 * k / a
theorem sp_hardC {g : Gh} {M : Mem} {c q a : Nat} (hc : c ≤ 512) (h : QOK g M c q a) {post : Int32 → Mem → Prop} (hq : post (hdI (mI M (gB g + 203) q) (mI M (gB g + 204) q)) M) : wp_X9_hard g M a post := by
  obtain ⟨_, q2, _, _, _, ⟨n, n1, n2, n3⟩, ⟨m, m1, m2, m3⟩, _⟩ := h
  rw [n3, m3] at hq
  unfold hdI at hq
  refine ⟨q2, ?_⟩
  rw [n2, m2]
  refine pk_le n 0 (fun h0 => ?_) (fun h0 => ⟨nI_ne0 h0 (by omega), ?_⟩)
  · have : n = 0 := by omega
    subst this
    rw [if_pos nI_0] at hq; exact hq
  · rw [if_neg (nI_ne0 h0 (by omega)), Int32.mul_comm] at hq; exact hq
theorem sp_hardM {g : Gh} {M : Mem} (h1 : Lay g M) {q : Nat} (hq60 : q < 60) {post : Int32 → Mem → Prop} (hq : post (hdI (mI M (gB g + 203) q) (mI M (gB g + 204) q)) M) : wp_X12_hard g M (gB g + 195) (nI q) post := by
  have cq : Int32.toNatClampNeg (nI q) = q := nI_cl q (by omega)
  refine ⟨lk_195 h1, _, lr_195_20 h1, lk_203 h1, by rw [ln_203 h1]; exact pk_in q 60 hq60, ?_⟩
  rw [cq]
  unfold hdI at hq
  refine ⟨fun h0 => ?_, fun h0 => ⟨_, lr_195_21 h1, lk_204 h1, by rw [ln_204 h1]; exact pk_in q 60 hq60, h0, ?_⟩⟩
  · rw [if_pos h0] at hq; exact hq
  · (try rw [cq])
    rw [if_neg h0] at hq; exact hq
/-! what a throw does to memory -/
theorem okc_pad {B : Nat} {M : Mem} {a c T : Nat} (h : mT M ≤ T) (k : okc B M a c) : okc B (pad M T) a c := k.up (mle_pad M T h)
theorem lay_pad {g : Gh} {M : Mem} {T : Nat} (h : mT M ≤ T) (l : Lay g M) : Lay g (pad M T) := by
  refine ⟨Nat.le_trans l.1 h, fun i hi => ?_, l.2.2⟩
  have hlt : gB g + i < mT M := by have := l.1; omega
  have e : mK (pad M T) (gB g + i) = mK M (gB g + i) := if_pos hlt
  rw [e]; exact l.2.1 i hi
theorem fq_pad {g : Gh} {M : Mem} {q f T : Nat} (h : mT M ≤ T) (k : FQ g M q f) : FQ g (pad M T) q f := by
  obtain ⟨F, ka, la, ha, h1, h2, h3, h4, h5, h6, h7, h8⟩ := k
  exact ⟨F, ka, la, ha, h1, h2, h3, ⟨okc_pad h h4.1, okc_pad h h4.2.1, okc_pad h h4.2.2⟩, h5, h6, h7, h8⟩
theorem Iv.pad {g : Gh} {M : Mem} {c nq : Nat} {qa : Nat → Nat} {r : Nat} {L : LawT} {np : Nat} {pn : Nat → Nat} {on : Bool} (h : Iv g M c nq qa r L np pn on) {T : Nat} (hT : mT M ≤ T) : Iv g (pad M T) c nq qa r L np pn on := by
  obtain ⟨h1, h2, h3, h4, h5, h6, h7, h8⟩ := h
  refine ⟨lay_pad hT h1, h2, h3, ⟨h4.1, h4.2.1, h4.2.2.1, fun q hq => ?_, h4.2.2.2.2⟩, h5, h6, h7, h8⟩
  obtain ⟨q1, q2, q3, ⟨f, f1, f2, f3⟩, q5⟩ := h4.2.2.2.1 q hq
  exact ⟨q1, okc_pad hT q2, q3, ⟨f, f1, okc_pad hT f2, fq_pad hT f3⟩, q5⟩
