/-! PURE: small laws of the memory -/
theorem s_II (M : Mem) (a k : Nat) (v : Int32) (b j : Nat) : mI (uI M a k v) b j = if b = a then (if j = k then v else mI M b j) else mI M b j := rfl
theorem s_IJ (M : Mem) (a k : Nat) (v : Int64) : mI (uJ M a k v) = mI M := rfl
theorem s_IR (M : Mem) (a k : Nat) (v : Option Nat) : mI (uR M a k v) = mI M := rfl
theorem s_JJ (M : Mem) (a k : Nat) (v : Int64) (b j : Nat) : mJ (uJ M a k v) b j = if b = a then (if j = k then v else mJ M b j) else mJ M b j := rfl
theorem s_JI (M : Mem) (a k : Nat) (v : Int32) : mJ (uI M a k v) = mJ M := rfl
theorem s_JR (M : Mem) (a k : Nat) (v : Option Nat) : mJ (uR M a k v) = mJ M := rfl
theorem s_RI (M : Mem) (a k : Nat) (v : Int32) : mR (uI M a k v) = mR M := rfl
theorem s_RJ (M : Mem) (a k : Nat) (v : Int64) : mR (uJ M a k v) = mR M := rfl
theorem s_NI (M : Mem) (a k : Nat) (v : Int32) : mN (uI M a k v) = mN M := rfl
theorem s_NJ (M : Mem) (a k : Nat) (v : Int64) : mN (uJ M a k v) = mN M := rfl
theorem s_TI (M : Mem) (a k : Nat) (v : Int32) : mT (uI M a k v) = mT M := rfl
theorem s_TJ (M : Mem) (a k : Nat) (v : Int64) : mT (uJ M a k v) = mT M := rfl
theorem s_oI (B : Nat) (M : Mem) (a k : Nat) (v : Int32) (b c : Nat) : okc B (uI M a k v) b c = okc B M b c := rfl
theorem s_oJ (B : Nat) (M : Mem) (a k : Nat) (v : Int64) (b c : Nat) : okc B (uJ M a k v) b c = okc B M b c := rfl
theorem mem_ext {M M' : Mem} (h1 : ∀ a k, mI M a k = mI M' a k) (h2 : ∀ a k, mJ M a k = mJ M' a k) (h3 : M.2.2 = M'.2.2) : M = M' := by
  obtain ⟨i, j, r⟩ := M
  obtain ⟨i', j', r'⟩ := M'
  have e1 : i = i' := funext fun a => funext fun k => h1 a k
  have e2 : j = j' := funext fun a => funext fun k => h2 a k
  have e3 : r = r' := h3
  rw [e1, e2, e3]
theorem uI_same {M : Mem} {a k : Nat} {v : Int32} (h : mI M a k = v) : uI M a k v = M := by
  refine mem_ext (fun b j => ?_) (fun _ _ => rfl) rfl
  rw [s_II]
  split
  · split
    · subst_vars; rfl
    · rfl
  · rfl
theorem uJ_same {M : Mem} {a k : Nat} {v : Int64} (h : mJ M a k = v) : uJ M a k v = M := by
  refine mem_ext (fun _ _ => rfl) (fun b j => ?_) rfl
  rw [s_JJ]
  split
  · split
    · subst_vars; rfl
    · rfl
  · rfl
theorem uI_uI (M : Mem) (a k : Nat) (v w : Int32) : uI (uI M a k v) a k w = uI M a k w := by
  refine mem_ext (fun b j => ?_) (fun _ _ => rfl) rfl
  simp only [s_II]
  split
  · split <;> rfl
  · rfl
/-- two addresses of unlike kinds -/
theorem okc_ne {B : Nat} {M : Mem} {a b c d : Nat} (h : okc B M a c) (k : okc B M b d) (hcd : c ≠ d) : a ≠ b := fun e => hcd (by rw [← h.2.2, ← k.2.2, e])
/-! PURE: the tokens of a tape -/
def isL (c : Nat) : Bool := decide (97 ≤ c) && decide (c ≤ 122)
def isD (c : Nat) : Bool := decide (48 ≤ c) && decide (c ≤ 57)
def isA (c : Nat) : Bool := isL c || isD c
theorem isL_iff (c : Nat) : isL c = true ↔ 97 ≤ c ∧ c ≤ 122 := by simp [isL]
theorem isD_iff (c : Nat) : isD c = true ↔ 48 ≤ c ∧ c ≤ 57 := by simp [isD]
/-- behind the blanks -/
def skp (bs : Nat → Nat) (n : Nat) : Nat → Nat → Nat
  | 0, p => p
  | f + 1, p => if p < n ∧ bs p = 32 then skp bs n f (p + 1) else p
def skip (bs : Nat → Nat) (n p : Nat) : Nat := skp bs n (n - p) p
theorem skip_step {bs : Nat → Nat} {n p : Nat} (h : p < n) (h2 : bs p = 32) : skip bs n p = skip bs n (p + 1) := by
  unfold skip
  rw [show n - p = (n - (p + 1)) + 1 by omega]
  show (if p < n ∧ bs p = 32 then _ else _) = _
  rw [if_pos ⟨h, h2⟩]
theorem skip_stop {bs : Nat → Nat} {n p : Nat} (h : ¬ (p < n ∧ bs p = 32)) : skip bs n p = p := by
  unfold skip
  cases n - p with
  | zero => rfl
  | succ k => show (if p < n ∧ bs p = 32 then _ else _) = _; rw [if_neg h]
theorem skp_le (bs : Nat → Nat) (n : Nat) : ∀ (f p : Nat), p ≤ n → p ≤ skp bs n f p ∧ skp bs n f p ≤ n
  | 0, p, h => ⟨Nat.le_refl _, h⟩
  | f + 1, p, h => by
    show p ≤ (if p < n ∧ bs p = 32 then _ else _) ∧ (if p < n ∧ bs p = 32 then _ else _) ≤ n
    by_cases hc : p < n ∧ bs p = 32
    · rw [if_pos hc]
      have := skp_le bs n f (p + 1) hc.1
      omega
    · rw [if_neg hc]; omega
theorem skip_le (bs : Nat → Nat) {n p : Nat} (h : p ≤ n) : p ≤ skip bs n p ∧ skip bs n p ≤ n := skp_le bs n _ p h
/-- the end of a run of letters and digits -/
def rnp (bs : Nat → Nat) (n : Nat) : Nat → Nat → Nat
  | 0, p => p
  | f + 1, p => if p < n ∧ isA (bs p) = true then rnp bs n f (p + 1) else p
def rend (bs : Nat → Nat) (n p : Nat) : Nat := rnp bs n (n - p) p
theorem rend_step {bs : Nat → Nat} {n p : Nat} (h : p < n) (h2 : isA (bs p) = true) : rend bs n p = rend bs n (p + 1) := by
  unfold rend
  rw [show n - p = (n - (p + 1)) + 1 by omega]
  show (if p < n ∧ isA (bs p) = true then _ else _) = _
  rw [if_pos ⟨h, h2⟩]
theorem rend_stop {bs : Nat → Nat} {n p : Nat} (h : ¬ (p < n ∧ isA (bs p) = true)) : rend bs n p = p := by
  unfold rend
  cases n - p with
  | zero => rfl
  | succ k => show (if p < n ∧ isA (bs p) = true then _ else _) = _; rw [if_neg h]
theorem rnp_le (bs : Nat → Nat) (n : Nat) : ∀ (f p : Nat), p ≤ n → p ≤ rnp bs n f p ∧ rnp bs n f p ≤ n
  | 0, p, h => ⟨Nat.le_refl _, h⟩
  | f + 1, p, h => by
    show p ≤ (if p < n ∧ isA (bs p) = true then _ else _) ∧ (if p < n ∧ isA (bs p) = true then _ else _) ≤ n
    by_cases hc : p < n ∧ isA (bs p) = true
    · rw [if_pos hc]
      have := rnp_le bs n f (p + 1) hc.1
      omega
    · rw [if_neg hc]; omega
theorem rend_le (bs : Nat → Nat) {n p : Nat} (h : p ≤ n) : p ≤ rend bs n p ∧ rend bs n p ≤ n := rnp_le bs n _ p h
/-- letters, digits, and their values, in the k bytes from q on -/
def cL (bs : Nat → Nat) (q : Nat) : Nat → Nat
  | 0 => 0
  | k + 1 => if isL (bs (q + k)) = true then cL bs q k + 1 else cL bs q k
def cD (bs : Nat → Nat) (q : Nat) : Nat → Nat
  | 0 => 0
  | k + 1 => if isD (bs (q + k)) = true then cD bs q k + 1 else cD bs q k
def wL (bs : Nat → Nat) (q : Nat) : Nat → Nat
  | 0 => 0
  | k + 1 => if isL (bs (q + k)) = true then wL bs q k * 27 + (bs (q + k) - 96) else wL bs q k
def wD (bs : Nat → Nat) (q : Nat) : Nat → Nat
  | 0 => 0
  | k + 1 => if isD (bs (q + k)) = true then wD bs q k * 10 + (bs (q + k) - 48) else wD bs q k
theorem isLD {c : Nat} (h : isL c = true) : ¬ isD c = true := by
  rw [isL_iff] at h; rw [isD_iff]; omega
theorem cL_le (bs : Nat → Nat) (q : Nat) : ∀ k, cL bs q k ≤ k
  | 0 => Nat.le_refl _
  | k + 1 => by
    have := cL_le bs q k
    show (if isL (bs (q + k)) = true then _ else _) ≤ _
    split <;> omega
theorem cD_le (bs : Nat → Nat) (q : Nat) : ∀ k, cD bs q k ≤ k
  | 0 => Nat.le_refl _
  | k + 1 => by
    have := cD_le bs q k
    show (if isD (bs (q + k)) = true then _ else _) ≤ _
    split <;> omega
theorem wD_lt (bs : Nat → Nat) (q : Nat) : ∀ k, wD bs q k < 10 ^ cD bs q k
  | 0 => by decide
  | k + 1 => by
    have h := wD_lt bs q k
    by_cases hc : isD (bs (q + k)) = true
    · have e1 : wD bs q (k + 1) = wD bs q k * 10 + (bs (q + k) - 48) := if_pos hc
      have e2 : cD bs q (k + 1) = cD bs q k + 1 := if_pos hc
      rw [e1, e2, Nat.pow_succ]
      rw [isD_iff] at hc
      omega
    · have e1 : wD bs q (k + 1) = wD bs q k := if_neg hc
      have e2 : cD bs q (k + 1) = cD bs q k := if_neg hc
      rw [e1, e2]; exact h
theorem wL_lt (bs : Nat → Nat) (q : Nat) : ∀ k, wL bs q k < 27 ^ cL bs q k
  | 0 => by decide
  | k + 1 => by
    have h := wL_lt bs q k
    by_cases hc : isL (bs (q + k)) = true
    · have e1 : wL bs q (k + 1) = wL bs q k * 27 + (bs (q + k) - 96) := if_pos hc
      have e2 : cL bs q (k + 1) = cL bs q k + 1 := if_pos hc
      rw [e1, e2, Nat.pow_succ]
      rw [isL_iff] at hc
      omega
    · have e1 : wL bs q (k + 1) = wL bs q k := if_neg hc
      have e2 : cL bs q (k + 1) = cL bs q k := if_neg hc
      rw [e1, e2]; exact h
/-- a token: code (0 the end, 1 a word, 2 a number, 3 none, else its sign), place, value, where the next one is looked for; sg: the signs -/
def tkRun (bs : Nat → Nat) (q e : Nat) : Nat × Nat × Nat × Nat :=
  if cD bs q (e - q) = 0 ∧ cL bs q (e - q) ≤ 12 then (1, q, wL bs q (e - q), e)
  else if cL bs q (e - q) = 0 ∧ cD bs q (e - q) ≤ 6 then (2, q, wD bs q (e - q), e)
  else (3, q, 0, e)
def tkSign (sg : Nat → Bool) (bs : Nat → Nat) (n q : Nat) : Nat × Nat × Nat × Nat :=
  if bs q = 46 then (if q + 1 < n ∧ bs (q + 1) = 46 then (if sg 46 = true then (46, q, 0, q + 2) else (3, q, 0, q + 2)) else (3, q, 0, q + 1))
  else if sg (bs q) = true then (bs q, q, 0, q + 1) else (3, q, 0, q + 1)
def tkAt (sg : Nat → Bool) (bs : Nat → Nat) (n q : Nat) : Nat × Nat × Nat × Nat :=
  if n ≤ q ∨ 200 ≤ q then (if n ≤ 200 then (0, n, 0, q) else (3, 200, 0, q))
  else if isA (bs q) = true then tkRun bs q (rend bs n q)
  else tkSign sg bs n q
def tk (sg : Nat → Bool) (bs : Nat → Nat) (n p : Nat) : Nat × Nat × Nat × Nat := tkAt sg bs n (skip bs n p)
/-! the class's tape -/
def TP (g : Gh) (M : Mem) (t b n : Nat) (bs : Nat → Nat) : Prop := okc (gB g) M t 10 ∧ mR M t 0 = some b ∧ okc (gB g) M b 16 ∧ mN M b = 260 ∧ mI M t 1 = nI n ∧ n ≤ 260 ∧ (∀ i, i < 260 → mI M b i = nI (bs i)) ∧ (∀ i, bs i < 256)
theorem TP.ne {g : Gh} {M : Mem} {t b n : Nat} {bs : Nat → Nat} (h : TP g M t b n bs) : b ≠ t := okc_ne h.2.2.1 h.1 (by decide)
theorem TP.uI {g : Gh} {M : Mem} {t b n : Nat} {bs : Nat → Nat} (h : TP g M t b n bs) (k : Nat) (v : Int32) (hk : k ≠ 1) : TP g (uI M t k v) t b n bs := by
  refine ⟨h.1, h.2.1, h.2.2.1, h.2.2.2.1, ?_, h.2.2.2.2.2.1, fun i hi => ?_, h.2.2.2.2.2.2.2⟩
  · rw [s_II, if_pos rfl, if_neg (Ne.symm hk)]; exact h.2.2.2.2.1
  · rw [s_II, if_neg h.ne]; exact h.2.2.2.2.2.2.1 i hi
theorem TP.uJ {g : Gh} {M : Mem} {t b n : Nat} {bs : Nat → Nat} (h : TP g M t b n bs) (k : Nat) (v : Int64) : TP g (uJ M t k v) t b n bs := h
theorem sp_X10_byteAt {g : Gh} {M : Mem} {t b n : Nat} {bs : Nat → Nat} (h : TP g M t b n bs) (p : Nat) (hp : p < 2 ^ 31) {post : Int32 → Mem → Prop} (hq : post (if p < n then nI (bs p) else (-1)) M) : wp_X10_byteAt g M t (nI p) post := by
  refine ⟨h.1, fun c => absurd c (nI_pos hp), fun _ => ?_⟩
  have hn := h.2.2.2.2.2.1
  rw [h.2.2.2.2.1]
  refine pk_le n p (fun hc => ?_) (fun hc => ⟨b, h.2.1, h.2.2.1, ?_⟩)
  · rw [if_neg (by omega)] at hq; exact hq
  · rw [h.2.2.2.1]
    refine pk_le 260 p (fun hc2 => by omega) (fun hc2 => ⟨pk_in p 260 (by omega), ?_⟩)
    rw [pk_cl p, h.2.2.2.2.2.2.1 p (by omega)]
    rw [if_pos hc] at hq
    exact hq
theorem sp_X10_isLetter {g : Gh} {M : Mem} (c : Nat) (hc : c < 256) {post : Int32 → Mem → Prop} (hq : post (if isL c = true then 1 else 0) M) : wp_X10_isLetter g M (nI c) post := by
  rw [show (isL c = true) = (97 ≤ c ∧ c ≤ 122) from propext (isL_iff c)] at hq
  refine pk_lt c 97 (fun h => ?_) (fun h => pk_lt 122 c (fun h2 => ?_) (fun h2 => ?_))
  · rw [if_neg (by omega)] at hq; exact hq
  · rw [if_neg (by omega)] at hq; exact hq
  · rw [if_pos (by omega)] at hq; exact hq
theorem sp_X10_isDigit {g : Gh} {M : Mem} (c : Nat) (hc : c < 256) {post : Int32 → Mem → Prop} (hq : post (if isD c = true then 1 else 0) M) : wp_X10_isDigit g M (nI c) post := by
  rw [show (isD c = true) = (48 ≤ c ∧ c ≤ 57) from propext (isD_iff c)] at hq
  refine pk_lt c 48 (fun h => ?_) (fun h => pk_lt 57 c (fun h2 => ?_) (fun h2 => ?_))
  · rw [if_neg (by omega)] at hq; exact hq
  · rw [if_neg (by omega)] at hq; exact hq
  · rw [if_pos (by omega)] at hq; exact hq
theorem sp_X10_skipBlanks {g : Gh} {M : Mem} {t b n p : Nat} {bs : Nat → Nat} (h : TP g M t b n bs) (hp : mI M t 5 = nI p) (hpn : p ≤ n) {post : Mem → Prop} (hq : post (uI M t 5 (nI (skip bs n p)))) : wp_X10_skipBlanks g M t post := by
  refine ⟨h.1, ?_⟩
  have hn := h.2.2.2.2.2.1
  refine lfp_ms (fun s => ∃ i, i ≤ n ∧ s = uI M t 5 (nI i) ∧ skip bs n i = skip bs n p) (fun s => n - (mI s t 5).toNatClampNeg) ?_ M ⟨p, hpn, (uI_same hp).symm, rfl⟩
  rintro bk s ⟨i, hi, rfl, hs⟩ hb
  have h' := h.uI 5 (nI i) (by decide)
  have e5 : mI (uI M t 5 (nI i)) t 5 = nI i := by simp [s_II]
  have e1 : mI (uI M t 5 (nI i)) t 1 = nI n := h'.2.2.2.2.1
  show bd_X10_skipBlanks_0 g M t post bk (uI M t 5 (nI i))
  unfold bd_X10_skipBlanks_0
  rw [e5, e1]
  refine pk_le n i (fun hc => ?_) (fun hc => ?_)
  · rw [← hs, skip_stop (by omega)] at hq; exact hq
  · refine sp_X10_byteAt h' i (by omega) ?_
    rw [if_pos hc]
    have hb8 := h.2.2.2.2.2.2.2 i
    refine pk_eq (bs i) 32 (fun hc2 => ?_) (fun hc2 => ?_)
    · rintro M5 rfl
      rw [e5, nI_1, uI_uI]
      refine hb _ ⟨i + 1, by omega, rfl, ?_⟩ ?_
      · rw [← hs, skip_step hc hc2]
      · have e6 : mI (uI M t 5 (nI (i + 1))) t 5 = nI (i + 1) := by simp [s_II]
        show n - (mI (uI M t 5 (nI (i + 1))) t 5).toNatClampNeg < n - (mI (uI M t 5 (nI i)) t 5).toNatClampNeg
        rw [e5, e6, nI_clamp (by omega), nI_clamp (by omega)]
        omega
    · rw [← hs, skip_stop (by omega)] at hq; exact hq
