/-! PURE: small laws of the memory -/
theorem s_II (M : Mem) (a k : Nat) (v : Int32) (b j : Nat) : mI (uI M a k v) b j = if b = a then (if j = k then v else mI M b j) else mI M b j := rfl
theorem s_IJ (M : Mem) (a k : Nat) (v : Int64) : mI (uJ M a k v) = mI M := rfl
theorem s_IR (M : Mem) (a k : Nat) (v : Option Nat) : mI (uR M a k v) = mI M := rfl
theorem s_JJ (M : Mem) (a k : Nat) (v : Int64) (b j : Nat) : mJ (uJ M a k v) b j = if b = a then (if j = k then v else mJ M b j) else mJ M b j := rfl
theorem s_JI (M : Mem) (a k : Nat) (v : Int32) : mJ (uI M a k v) = mJ M := rfl
theorem s_JR (M : Mem) (a k : Nat) (v : Option Nat) : mJ (uR M a k v) = mJ M := rfl
theorem s_RI (M : Mem) (a k : Nat) (v : Int32) : mR (uI M a k v) = mR M := rfl
theorem s_RJ (M : Mem) (a k : Nat) (v : Int64) : mR (uJ M a k v) = mR M := rfl
theorem s_NI (M : Mem) (a k : Nat) (v : Int32) : mN (uI M a k v) = mN M := rfl
theorem s_NJ (M : Mem) (a k : Nat) (v : Int64) : mN (uJ M a k v) = mN M := rfl
theorem s_TI (M : Mem) (a k : Nat) (v : Int32) : mT (uI M a k v) = mT M := rfl
theorem s_TJ (M : Mem) (a k : Nat) (v : Int64) : mT (uJ M a k v) = mT M := rfl
theorem s_oI (B : Nat) (M : Mem) (a k : Nat) (v : Int32) (b c : Nat) : okc B (uI M a k v) b c = okc B M b c := rfl
theorem s_oJ (B : Nat) (M : Mem) (a k : Nat) (v : Int64) (b c : Nat) : okc B (uJ M a k v) b c = okc B M b c := rfl
theorem mem_ext {M M' : Mem} (h1 : ∀ a k, mI M a k = mI M' a k) (h2 : ∀ a k, mJ M a k = mJ M' a k) (h3 : M.2.2 = M'.2.2) : M = M' := by
  obtain ⟨i, j, r⟩ := M
  obtain ⟨i', j', r'⟩ := M'
  have e1 : i = i' := funext fun a => funext fun k => h1 a k
  have e2 : j = j' := funext fun a => funext fun k => h2 a k
  have e3 : r = r' := h3
  rw [e1, e2, e3]
theorem uI_same {M : Mem} {a k : Nat} {v : Int32} (h : mI M a k = v) : uI M a k v = M := by
  refine mem_ext (fun b j => ?_) (fun _ _ => rfl) rfl
  rw [s_II]
  split
  · split
    · subst_vars; rfl
    · rfl
  · rfl
theorem uJ_same {M : Mem} {a k : Nat} {v : Int64} (h : mJ M a k = v) : uJ M a k v = M := by
  refine mem_ext (fun _ _ => rfl) (fun b j => ?_) rfl
  rw [s_JJ]
  split
  · split
    · subst_vars; rfl
    · rfl
  · rfl
theorem uI_uI (M : Mem) (a k : Nat) (v w : Int32) : uI (uI M a k v) a k w = uI M a k w := by
  refine mem_ext (fun b j => ?_) (fun _ _ => rfl) rfl
  simp only [s_II]
  split
  · split <;> rfl
  · rfl
/-- two addresses of unlike kinds -/
theorem okc_ne {B : Nat} {M : Mem} {a b c d : Nat} (h : okc B M a c) (k : okc B M b d) (hcd : c ≠ d) : a ≠ b := fun e => hcd (by rw [← h.2.2, ← k.2.2, e])
/-! PURE: the tokens of a tape -/
def isL (c : Nat) : Bool := decide (97 ≤ c) && decide (c ≤ 122)
def isD (c : Nat) : Bool := decide (48 ≤ c) && decide (c ≤ 57)
def isA (c : Nat) : Bool := isL c || isD c
theorem isL_iff (c : Nat) : isL c = true ↔ 97 ≤ c ∧ c ≤ 122 := by simp [isL]
theorem isD_iff (c : Nat) : isD c = true ↔ 48 ≤ c ∧ c ≤ 57 := by simp [isD]
/-- behind the blanks -/
def skp (bs : Nat → Nat) (n : Nat) : Nat → Nat → Nat
  | 0, p => p
  | f + 1, p => if p < n ∧ bs p = 32 then skp bs n f (p + 1) else p
def skip (bs : Nat → Nat) (n p : Nat) : Nat := skp bs n (n - p) p
theorem skip_step {bs : Nat → Nat} {n p : Nat} (h : p < n) (h2 : bs p = 32) : skip bs n p = skip bs n (p + 1) := by
  unfold skip
  rw [show n - p = (n - (p + 1)) + 1 by omega]
  show (if p < n ∧ bs p = 32 then _ else _) = _
  rw [if_pos ⟨h, h2⟩]
theorem skip_stop {bs : Nat → Nat} {n p : Nat} (h : ¬ (p < n ∧ bs p = 32)) : skip bs n p = p := by
  unfold skip
  cases n - p with
  | zero => rfl
  | succ k => show (if p < n ∧ bs p = 32 then _ else _) = _; rw [if_neg h]
theorem skp_le (bs : Nat → Nat) (n : Nat) : ∀ (f p : Nat), p ≤ n → p ≤ skp bs n f p ∧ skp bs n f p ≤ n
  | 0, p, h => ⟨Nat.le_refl _, h⟩
  | f + 1, p, h => by
    show p ≤ (if p < n ∧ bs p = 32 then _ else _) ∧ (if p < n ∧ bs p = 32 then _ else _) ≤ n
    by_cases hc : p < n ∧ bs p = 32
    · rw [if_pos hc]
      have := skp_le bs n f (p + 1) hc.1
      omega
    · rw [if_neg hc]; omega
theorem skip_le (bs : Nat → Nat) {n p : Nat} (h : p ≤ n) : p ≤ skip bs n p ∧ skip bs n p ≤ n := skp_le bs n _ p h
/-- the end of a run of letters and digits -/
def rnp (bs : Nat → Nat) (n : Nat) : Nat → Nat → Nat
  | 0, p => p
  | f + 1, p => if p < n ∧ isA (bs p) = true then rnp bs n f (p + 1) else p
def rend (bs : Nat → Nat) (n p : Nat) : Nat := rnp bs n (n - p) p
theorem rend_step {bs : Nat → Nat} {n p : Nat} (h : p < n) (h2 : isA (bs p) = true) : rend bs n p = rend bs n (p + 1) := by
  unfold rend
  rw [show n - p = (n - (p + 1)) + 1 by omega]
  show (if p < n ∧ isA (bs p) = true then _ else _) = _
  rw [if_pos ⟨h, h2⟩]
theorem rend_stop {bs : Nat → Nat} {n p : Nat} (h : ¬ (p < n ∧ isA (bs p) = true)) : rend bs n p = p := by
  unfold rend
  cases n - p with
  | zero => rfl
  | succ k => show (if p < n ∧ isA (bs p) = true then _ else _) = _; rw [if_neg h]
theorem rnp_le (bs : Nat → Nat) (n : Nat) : ∀ (f p : Nat), p ≤ n → p ≤ rnp bs n f p ∧ rnp bs n f p ≤ n
  | 0, p, h => ⟨Nat.le_refl _, h⟩
  | f + 1, p, h => by
    show p ≤ (if p < n ∧ isA (bs p) = true then _ else _) ∧ (if p < n ∧ isA (bs p) = true then _ else _) ≤ n
    by_cases hc : p < n ∧ isA (bs p) = true
    · rw [if_pos hc]
      have := rnp_le bs n f (p + 1) hc.1
      omega
    · rw [if_neg hc]; omega
theorem rend_le (bs : Nat → Nat) {n p : Nat} (h : p ≤ n) : p ≤ rend bs n p ∧ rend bs n p ≤ n := rnp_le bs n _ p h
/-- letters, digits, and their values, in the k bytes from q on -/
def cL (bs : Nat → Nat) (q : Nat) : Nat → Nat
  | 0 => 0
  | k + 1 => if isL (bs (q + k)) = true then cL bs q k + 1 else cL bs q k
def cD (bs : Nat → Nat) (q : Nat) : Nat → Nat
  | 0 => 0
  | k + 1 => if isD (bs (q + k)) = true then cD bs q k + 1 else cD bs q k
def wL (bs : Nat → Nat) (q : Nat) : Nat → Nat
  | 0 => 0
  | k + 1 => if isL (bs (q + k)) = true then wL bs q k * 27 + (bs (q + k) - 96) else wL bs q k
def wD (bs : Nat → Nat) (q : Nat) : Nat → Nat
  | 0 => 0
  | k + 1 => if isD (bs (q + k)) = true then wD bs q k * 10 + (bs (q + k) - 48) else wD bs q k
theorem isLD {c : Nat} (h : isL c = true) : ¬ isD c = true := by
  rw [isL_iff] at h; rw [isD_iff]; omega
theorem cL_le (bs : Nat → Nat) (q : Nat) : ∀ k, cL bs q k ≤ k
  | 0 => Nat.le_refl _
  | k + 1 => by
    have := cL_le bs q k
    show (if isL (bs (q + k)) = true then _ else _) ≤ _
    split <;> omega
theorem cD_le (bs : Nat → Nat) (q : Nat) : ∀ k, cD bs q k ≤ k
  | 0 => Nat.le_refl _
  | k + 1 => by
    have := cD_le bs q k
    show (if isD (bs (q + k)) = true then _ else _) ≤ _
    split <;> omega
theorem wD_lt (bs : Nat → Nat) (q : Nat) : ∀ k, wD bs q k < 10 ^ cD bs q k
  | 0 => by simp [wD, cD]
  | k + 1 => by
    have h := wD_lt bs q k
    by_cases hc : isD (bs (q + k)) = true
    · have e1 : wD bs q (k + 1) = wD bs q k * 10 + (bs (q + k) - 48) := if_pos hc
      have e2 : cD bs q (k + 1) = cD bs q k + 1 := if_pos hc
      rw [e1, e2, Nat.pow_succ]
      rw [isD_iff] at hc
      omega
    · have e1 : wD bs q (k + 1) = wD bs q k := if_neg hc
      have e2 : cD bs q (k + 1) = cD bs q k := if_neg hc
      rw [e1, e2]; exact h
theorem wL_lt (bs : Nat → Nat) (q : Nat) : ∀ k, wL bs q k < 27 ^ cL bs q k
  | 0 => by simp [wL, cL]
  | k + 1 => by
    have h := wL_lt bs q k
    by_cases hc : isL (bs (q + k)) = true
    · have e1 : wL bs q (k + 1) = wL bs q k * 27 + (bs (q + k) - 96) := if_pos hc
      have e2 : cL bs q (k + 1) = cL bs q k + 1 := if_pos hc
      rw [e1, e2, Nat.pow_succ]
      rw [isL_iff] at hc
      omega
    · have e1 : wL bs q (k + 1) = wL bs q k := if_neg hc
      have e2 : cL bs q (k + 1) = cL bs q k := if_neg hc
      rw [e1, e2]; exact h
/-- a token: code (0 the end, 1 a word, 2 a number, 3 none, else its sign), place, value, where the next one is looked for; sg: the signs -/
def tkRun (bs : Nat → Nat) (q e : Nat) : Nat × Nat × Nat × Nat :=
  if cD bs q (e - q) = 0 ∧ cL bs q (e - q) ≤ 12 then (1, q, wL bs q (e - q), e)
  else if cL bs q (e - q) = 0 ∧ cD bs q (e - q) ≤ 6 then (2, q, wD bs q (e - q), e)
  else (3, q, 0, e)
def tkSign (sg : Nat → Bool) (bs : Nat → Nat) (n q : Nat) : Nat × Nat × Nat × Nat :=
  if bs q = 46 then (if q + 1 < n ∧ bs (q + 1) = 46 then (if sg 46 = true then (46, q, 0, q + 2) else (3, q, 0, q + 2)) else (3, q, 0, q + 1))
  else if sg (bs q) = true then (bs q, q, 0, q + 1) else (3, q, 0, q + 1)
def tkAt (sg : Nat → Bool) (bs : Nat → Nat) (n q : Nat) : Nat × Nat × Nat × Nat :=
  if n ≤ q ∨ 200 ≤ q then (if n ≤ 200 then (0, n, 0, q) else (3, 200, 0, q))
  else if isA (bs q) = true then tkRun bs q (rend bs n q)
  else tkSign sg bs n q
def tk (sg : Nat → Bool) (bs : Nat → Nat) (n p : Nat) : Nat × Nat × Nat × Nat := tkAt sg bs n (skip bs n p)
/-! the class's tape -/
def TP (g : Gh) (M : Mem) (t b n : Nat) (bs : Nat → Nat) : Prop := okc (gB g) M t 10 ∧ mR M t 0 = some b ∧ okc (gB g) M b 16 ∧ mN M b = 260 ∧ mI M t 1 = nI n ∧ n ≤ 260 ∧ (∀ i, i < 260 → mI M b i = nI (bs i)) ∧ (∀ i, bs i < 256)
theorem TP.ne {g : Gh} {M : Mem} {t b n : Nat} {bs : Nat → Nat} (h : TP g M t b n bs) : b ≠ t := okc_ne h.2.2.1 h.1 (by decide)
theorem TP.uI {g : Gh} {M : Mem} {t b n : Nat} {bs : Nat → Nat} (h : TP g M t b n bs) (k : Nat) (v : Int32) (hk : k ≠ 1) : TP g (uI M t k v) t b n bs := by
  refine ⟨h.1, h.2.1, h.2.2.1, h.2.2.2.1, ?_, h.2.2.2.2.2.1, fun i hi => ?_, h.2.2.2.2.2.2.2⟩
  · rw [s_II, if_pos rfl, if_neg (Ne.symm hk)]; exact h.2.2.2.2.1
  · rw [s_II, if_neg h.ne]; exact h.2.2.2.2.2.2.1 i hi
theorem TP.uJ {g : Gh} {M : Mem} {t b n : Nat} {bs : Nat → Nat} (h : TP g M t b n bs) (k : Nat) (v : Int64) : TP g (uJ M t k v) t b n bs := h
theorem sp_X10_byteAt {g : Gh} {M : Mem} {t b n : Nat} {bs : Nat → Nat} (h : TP g M t b n bs) (p : Nat) (hp : p < 2 ^ 31) {post : Int32 → Mem → Prop} (hq : post (if p < n then nI (bs p) else (-1)) M) : wp_X10_byteAt g M t (nI p) post := by
  refine ⟨h.1, fun c => absurd c (nI_pos hp), fun _ => ?_⟩
  have hn := h.2.2.2.2.2.1
  rw [h.2.2.2.2.1]
  refine pk_le n p (fun hc => ?_) (fun hc => ⟨b, h.2.1, h.2.2.1, ?_⟩)
  · rw [if_neg (by omega)] at hq; exact hq
  · rw [h.2.2.2.1]
    refine pk_le 260 p (fun hc2 => by omega) (fun hc2 => ⟨pk_in p 260 (by omega), ?_⟩)
    rw [pk_cl p, h.2.2.2.2.2.2.1 p (by omega)]
    rw [if_pos hc] at hq
    exact hq
theorem sp_X10_isLetter {g : Gh} {M : Mem} (c : Nat) (hc : c < 256) {post : Int32 → Mem → Prop} (hq : post (if isL c = true then 1 else 0) M) : wp_X10_isLetter g M (nI c) post := by
  simp only [isL_iff] at hq
  refine pk_lt c 97 (fun h => ?_) (fun h => pk_lt 122 c (fun h2 => ?_) (fun h2 => ?_))
  · rw [if_neg (by omega)] at hq; exact hq
  · rw [if_neg (by omega)] at hq; exact hq
  · rw [if_pos (by omega)] at hq; exact hq
theorem sp_X10_isDigit {g : Gh} {M : Mem} (c : Nat) (hc : c < 256) {post : Int32 → Mem → Prop} (hq : post (if isD c = true then 1 else 0) M) : wp_X10_isDigit g M (nI c) post := by
  simp only [isD_iff] at hq
  refine pk_lt c 48 (fun h => ?_) (fun h => pk_lt 57 c (fun h2 => ?_) (fun h2 => ?_))
  · rw [if_neg (by omega)] at hq; exact hq
  · rw [if_neg (by omega)] at hq; exact hq
  · rw [if_pos (by omega)] at hq; exact hq
theorem sp_X10_skipBlanks {g : Gh} {M : Mem} {t b n p : Nat} {bs : Nat → Nat} (h : TP g M t b n bs) (hp : mI M t 5 = nI p) (hpn : p ≤ n) {post : Mem → Prop} (hq : post (uI M t 5 (nI (skip bs n p)))) : wp_X10_skipBlanks g M t post := by
  refine ⟨h.1, ?_⟩
  have hn := h.2.2.2.2.2.1
  refine lfp_ms (fun s => ∃ i, i ≤ n ∧ s = uI M t 5 (nI i) ∧ skip bs n i = skip bs n p) (fun s => n - (mI s t 5).toNatClampNeg) ?_ M ⟨p, hpn, (uI_same hp).symm, rfl⟩
  rintro bk s ⟨i, hi, rfl, hs⟩ hb
  have h' := h.uI 5 (nI i) (by decide)
  have e5 : mI (uI M t 5 (nI i)) t 5 = nI i := by simp [s_II]
  have e1 : mI (uI M t 5 (nI i)) t 1 = nI n := h'.2.2.2.2.1
  show bd_X10_skipBlanks_0 g M t post bk (uI M t 5 (nI i))
  unfold bd_X10_skipBlanks_0
  rw [e5, e1]
  refine pk_le n i (fun hc => ?_) (fun hc => ?_)
  · rw [← hs, skip_stop (by omega)] at hq; exact hq
  · refine sp_X10_byteAt h' i (by omega) ?_
    rw [if_pos hc]
    have hb8 := h.2.2.2.2.2.2.2 i
    refine pk_eq (bs i) 32 (fun hc2 => ?_) (fun hc2 => ?_)
    · rintro M5 rfl
      rw [e5, nI_1, uI_uI]
      refine hb _ ⟨i + 1, by omega, rfl, ?_⟩ ?_
      · rw [← hs, skip_step hc hc2]
      · have e6 : mI (uI M t 5 (nI (i + 1))) t 5 = nI (i + 1) := by simp [s_II]
        show n - (mI (uI M t 5 (nI (i + 1))) t 5).toNatClampNeg < n - (mI (uI M t 5 (nI i)) t 5).toNatClampNeg
        rw [e5, e6, nI_clamp (by omega), nI_clamp (by omega)]
        omega
    · rw [← hs, skip_stop (by omega)] at hq; exact hq

/-- what the class's tape tells of a token -/
def tset (M : Mem) (t : Nat) (k p : Int32) (v : Int64) (n : Int32) : Mem := uI (uJ (uI (uI M t 2 k) t 3 p) t 4 v) t 5 n
def vX (c v : Nat) : Int64 := if c = 1 then -(lN v) else lN v
theorem lN_step (v c d : Nat) : lN v * lN d + lN c = lN (v * d + c) := by
  simp only [lN, Int64.ofNat_add, Int64.ofNat_mul]
theorem tset_of {M M' : Mem} {t : Nat} {k p n : Int32} {v : Int64} (h2 : mI M' t 2 = k) (h3 : mI M' t 3 = p) (h4 : mJ M' t 4 = v) (h5 : mI M' t 5 = n) (hi : ∀ b j, ¬ (b = t ∧ (j = 2 ∨ j = 3 ∨ j = 5)) → mI M' b j = mI M b j) (hj : ∀ b j, ¬ (b = t ∧ j = 4) → mJ M' b j = mJ M b j) (hr : M'.2.2 = M.2.2) : M' = tset M t k p v n := by
  refine mem_ext (fun b j => ?_) (fun b j => ?_) hr
  · simp only [tset, s_II, s_IJ]
    by_cases hb : b = t
    · subst hb
      rcases (show j = 2 ∨ j = 3 ∨ j = 5 ∨ (j ≠ 2 ∧ j ≠ 3 ∧ j ≠ 5) by omega) with rfl | rfl | rfl | ⟨a1, a2, a3⟩
      · simp [h2]
      · simp [h3]
      · simp [h5]
      · simp [a1, a2, a3, hi b j (by omega)]
    · simp [hb, hi b j (by simp [hb])]
  · simp only [tset, s_JJ, s_JI]
    by_cases hb : b = t
    · subst hb
      by_cases h : j = 4
      · subst h; simp [h4]
      · simp [h, hj b j (by simp [h])]
    · simp [hb, hj b j (by simp [hb])]
theorem tset_at {M M' : Mem} {t : Nat} {k p n : Int32} {v : Int64} {post : Mem → Prop} (hq : post (tset M t k p v n)) (h2 : mI M' t 2 = k) (h3 : mI M' t 3 = p) (h4 : mJ M' t 4 = v) (h5 : mI M' t 5 = n) (hi : ∀ b j, ¬ (b = t ∧ (j = 2 ∨ j = 3 ∨ j = 5)) → mI M' b j = mI M b j) (hj : ∀ b j, ¬ (b = t ∧ j = 4) → mJ M' b j = mJ M b j) (hr : M'.2.2 = M.2.2) : post M' := by
  rw [tset_of h2 h3 h4 h5 hi hj hr]; exact hq
theorem sp_X10_setRun {g : Gh} {M : Mem} {t : Nat} (h : okc (gB g) M t 10) (l d : Nat) (w : Int64) (v : Int32) (hl : l < 2 ^ 31) (hd : d < 2 ^ 31) {post : Mem → Prop} (h1 : d = 0 → l ≤ 12 → post (uJ (uI M t 2 1) t 4 (-w))) (h2 : l = 0 → d ≤ 6 → ¬ (d = 0 ∧ l ≤ 12) → post (uJ (uI M t 2 2) t 4 v.toInt64)) (h3 : ¬ (d = 0 ∧ l ≤ 12) → ¬ (l = 0 ∧ d ≤ 6) → post (uI M t 2 3)) : wp_X10_setRun g M t (nI l) (nI d) w v post := by
  have key : ¬ (d = 0 ∧ l ≤ 12) → lb_X10_setRun_24 g M t (nI l) (nI d) w v post M := by
    intro hn
    refine pk_eq l 0 (fun c => pk_lt 6 d (fun c2 => ?_) (fun c2 => ?_)) (fun c => ?_)
    · rintro M5 rfl; exact h3 hn (by omega)
    · rintro M5 rfl M6 rfl; exact h2 c c2 hn
    · rintro M5 rfl; exact h3 hn (by omega)
  refine ⟨h, pk_eq d 0 (fun c => pk_lt 12 l (fun c2 => key (by omega)) (fun c2 => ?_)) (fun c => key (by omega))⟩
  rintro M5 rfl M6 rfl
  exact h1 c c2
theorem rl_of {c : Nat} (h : isA c = true) (h2 : ¬ isL c = true) : isD c = true := by
  simp only [isA, Bool.or_eq_true] at h
  exact h.resolve_left h2
theorem cLD (bs : Nat → Nat) (q : Nat) : ∀ k, (∀ i, i < k → isA (bs (q + i)) = true) → cL bs q k + cD bs q k = k
  | 0, _ => rfl
  | k + 1, h => by
    have ih := cLD bs q k (fun i hi => h i (by omega))
    have ha := h k (by omega)
    by_cases hc : isL (bs (q + k)) = true
    · have e1 : cL bs q (k + 1) = cL bs q k + 1 := if_pos hc
      have e2 : cD bs q (k + 1) = cD bs q k := if_neg (isLD hc)
      omega
    · have e1 : cL bs q (k + 1) = cL bs q k := if_neg hc
      have e2 : cD bs q (k + 1) = cD bs q k + 1 := if_pos (rl_of ha hc)
      omega
theorem rend_all (bs : Nat → Nat) (n : Nat) : ∀ (f q : Nat), n - q ≤ f → ∀ i, q ≤ i → i < rend bs n q → isA (bs i) = true := by
  intro f
  induction f with
  | zero =>
    intro q hf i hi h
    rw [rend_stop (by omega)] at h; omega
  | succ f ih =>
    intro q hf i hi h
    by_cases hc : q < n ∧ isA (bs q) = true
    · rw [rend_step hc.1 hc.2] at h
      by_cases he : i = q
      · subst he; exact hc.2
      · exact ih (q + 1) (by omega) i (by omega) h
    · rw [rend_stop hc] at h; omega
theorem rend_max (bs : Nat → Nat) (n : Nat) : ∀ (f q0 : Nat), n - q0 ≤ f → ¬ (rend bs n q0 < n ∧ isA (bs (rend bs n q0)) = true) := by
  intro f
  induction f with
  | zero => intro q0 hf hh; rw [rend_stop (by omega)] at hh; omega
  | succ f ih =>
    intro q0 hf hh
    by_cases hc3 : q0 < n ∧ isA (bs q0) = true
    · rw [rend_step hc3.1 hc3.2] at hh; exact ih (q0 + 1) (by omega) hh
    · rw [rend_stop hc3] at hh; exact hc3 hh
theorem rend_lt {bs : Nat → Nat} {n q i : Nat} (h : i ≤ rend bs n q) (hn : i < n) (ha : isA (bs i) = true) : i < rend bs n q := by
  rcases Nat.lt_or_ge i (rend bs n q) with hx | hx
  · exact hx
  · exact absurd (show rend bs n q < n ∧ isA (bs (rend bs n q)) = true by rw [show rend bs n q = i by omega]; exact ⟨hn, ha⟩) (rend_max bs n (n - q) q (by omega))
theorem nI_dg {c : Nat} (h : isD c = true) : nI c - 48 = nI (c - 48) := by
  rw [isD_iff] at h
  exact pk_sub (b := 48) (by omega)
theorem nI_lt27 {c : Nat} (h : isL c = true) : (nI c - 97) + 1 = nI (c - 96) := by
  rw [isL_iff] at h
  rw [show (97 : Int32) = nI 97 from rfl, pk_sub (by omega), nI_1]
  congr 1; omega
theorem sp_X10_readRun {g : Gh} {M : Mem} {t b n q : Nat} {bs : Nat → Nat} (h : TP g M t b n bs) (hp : mI M t 3 = nI q) (hqn : q ≤ n) (hv : mJ M t 4 = 0) {post : Mem → Prop} (hq : post (tset M t (nI (tkRun bs q (rend bs n q)).1) (nI q) (vX (tkRun bs q (rend bs n q)).1 (tkRun bs q (rend bs n q)).2.2.1) (nI (rend bs n q)))) : wp_X10_readRun g M t post := by
  refine ⟨h.1, ?_⟩
  have hn := h.2.2.2.2.2.1
  have he := rend_le bs hqn
  have hal := rend_all bs n (n - q) q (by omega)
  have fin : ∀ k, q + k = rend bs n q → lb_X10_readRun_91 g M t post (nI (cL bs q k)) (nI (cD bs q k)) (lN (wL bs q k)) (nI (wD bs q k)) M := by
    intro k hk
    have hLD := cLD bs q k (fun i hi => hal (q + i) (by omega) (by omega))
    rintro M1 rfl
    have hek : rend bs n q - q = k := by omega
    have e5 : mI M t 3 + nI (cL bs q k) + nI (cD bs q k) = nI (rend bs n q) := by
      rw [hp, nI_add, nI_add]; congr 1; omega
    rw [e5]
    have hcl := cL_le bs q k
    have hcd := cD_le bs q k
    refine sp_X10_setRun (show okc (gB g) (uI M t 5 (nI (rend bs n q))) t 10 from h.1) (cL bs q k) (cD bs q k) _ _ (by omega) (by omega) (fun c1 c2 => ?_) (fun c1 c2 c3 => ?_) (fun c1 c2 => ?_)
    · have e : tkRun bs q (rend bs n q) = (1, q, wL bs q k, rend bs n q) := by unfold tkRun; rw [hek, if_pos ⟨c1, c2⟩]
      rw [e] at hq
      refine tset_at hq ?_ ?_ ?_ ?_ ?_ ?_ rfl
      · simp [s_II, s_IJ]; rfl
      · simp [s_II, s_IJ, hp]
      · simp [s_JJ, s_JI, vX]
      · simp [s_II, s_IJ]
      · intro b j hbj; simp only [s_II, s_IJ]; by_cases hb : b = t <;> simp [hb]; simp [hb] at hbj; simp [hbj]
      · intro b j hbj; simp only [s_JJ, s_JI]; by_cases hb : b = t <;> simp [hb]; simp [hb] at hbj; simp [hbj]
    · have e : tkRun bs q (rend bs n q) = (2, q, wD bs q k, rend bs n q) := by unfold tkRun; rw [hek, if_neg c3, if_pos ⟨c1, c2⟩]
      rw [e] at hq
      have hw : wD bs q k < 2 ^ 31 := Nat.lt_of_lt_of_le (wD_lt bs q k) (Nat.le_trans (Nat.pow_le_pow_right (by decide) c2) (by decide))
      refine tset_at hq ?_ ?_ ?_ ?_ ?_ ?_ rfl
      · simp [s_II, s_IJ]; rfl
      · simp [s_II, s_IJ, hp]
      · simp [s_JJ, s_JI, vX]; exact nI_l hw
      · simp [s_II, s_IJ]
      · intro b j hbj; simp only [s_II, s_IJ]; by_cases hb : b = t <;> simp [hb]; simp [hb] at hbj; simp [hbj]
      · intro b j hbj; simp only [s_JJ, s_JI]; by_cases hb : b = t <;> simp [hb]; simp [hb] at hbj; simp [hbj]
    · have e : tkRun bs q (rend bs n q) = (3, q, 0, rend bs n q) := by unfold tkRun; rw [hek, if_neg c1, if_neg c2]
      rw [e] at hq
      refine tset_at hq ?_ ?_ ?_ ?_ ?_ ?_ rfl
      · simp [s_II, s_IJ]; rfl
      · simp [s_II, s_IJ, hp]
      · simp [s_JJ, s_JI, vX, hv]; rfl
      · simp [s_II, s_IJ]
      · intro b j hbj; simp only [s_II, s_IJ]; by_cases hb : b = t <;> simp [hb]; simp [hb] at hbj; simp [hbj]
      · intro b j hbj; simp only [s_JJ, s_JI]
  rw [hp]
  refine lfp_ms (fun s => ∃ k, q + k ≤ rend bs n q ∧ s = (nI (cL bs q k), nI (cD bs q k), lN (wL bs q k), nI (wD bs q k), nI (q + k), M)) (fun s => n - s.2.2.2.2.1.toNatClampNeg) ?_ _ ⟨0, by omega, rfl⟩
  rintro bk s ⟨k, hk, rfl⟩ hb
  show bd_X10_readRun_15 g M t post bk _ _ _ _ _ _
  unfold bd_X10_readRun_15
  rw [h.2.2.2.2.1]
  have hb8 := h.2.2.2.2.2.2.2 (q + k)
  refine pk_le n (q + k) (fun hc => fin k (by omega)) (fun hc => ?_)
  refine sp_X10_byteAt h (q + k) (by omega) ?_
  rw [if_pos hc]
  refine sp_X10_isLetter _ hb8 ?_
  by_cases hL : isL (bs (q + k)) = true
  · rw [if_pos hL]
    refine ⟨fun hc2 => absurd hc2 (by decide), fun _ => ?_⟩
    have ha : isA (bs (q + k)) = true := by simp [isA, hL]
    have hlt : q + k < rend bs n q := rend_lt hk hc ha
    show bk _
    refine hb _ ⟨k + 1, by omega, ?_⟩ ?_
    · have e1 : cL bs q (k + 1) = cL bs q k + 1 := if_pos hL
      have e2 : cD bs q (k + 1) = cD bs q k := if_neg (isLD hL)
      have e3 : wL bs q (k + 1) = wL bs q k * 27 + (bs (q + k) - 96) := if_pos hL
      have e4 : wD bs q (k + 1) = wD bs q k := if_neg (isLD hL)
      rw [e1, e2, e3, e4, nI_lt27 hL, nI_l (by omega), nI_1, nI_1, ← lN_step]
      rfl
    · show n - (nI (q + k) + 1).toNatClampNeg < n - (nI (q + k)).toNatClampNeg
      rw [nI_1, nI_clamp (by omega), nI_clamp (by omega)]; omega
  · rw [if_neg hL]
    refine ⟨fun _ => ?_, fun hc2 => absurd rfl hc2⟩
    refine sp_X10_isDigit _ hb8 ?_
    by_cases hD : isD (bs (q + k)) = true
    · rw [if_pos hD]
      refine ⟨fun hc2 => absurd hc2 (by decide), fun _ => ?_⟩
      have ha : isA (bs (q + k)) = true := by simp [isA, hD]
      have hlt : q + k < rend bs n q := rend_lt hk hc ha
      show bk _
      refine hb _ ⟨k + 1, by omega, ?_⟩ ?_
      · have e1 : cL bs q (k + 1) = cL bs q k := if_neg hL
        have e2 : cD bs q (k + 1) = cD bs q k + 1 := if_pos hD
        have e3 : wL bs q (k + 1) = wL bs q k := if_neg hL
        have e4 : wD bs q (k + 1) = wD bs q k * 10 + (bs (q + k) - 48) := if_pos hD
        rw [e1, e2, e3, e4, nI_dg hD, nI_1, nI_1, show (10 : Int32) = nI 10 from rfl, pk_mul, nI_add]
        rfl
      · show n - (nI (q + k) + 1).toNatClampNeg < n - (nI (q + k)).toNatClampNeg
        rw [nI_1, nI_clamp (by omega), nI_clamp (by omega)]; omega
    · rw [if_neg hD]
      refine ⟨fun _ => ?_, fun hc2 => absurd rfl hc2⟩
      have hx : rend bs n q = q + k := by
        rcases Nat.lt_or_ge (q + k) (rend bs n q) with hx | hx
        · exact absurd (hal (q + k) (by omega) hx) (by simp [isA, hL, hD])
        · omega
      exact fin k hx.symm
