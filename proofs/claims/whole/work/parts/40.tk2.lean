/-! PURE: tokens as both have them; words and numbers of a law -/
abbrev Tk : Type := Nat × Nat × Nat × Nat
def IsTk (sg : Nat → Bool) (bs : Nat → Nat) (n : Nat) (T : Tk) : Prop := ∃ p, p ≤ n ∧ T = tk sg bs n p
theorem tkSign_le {sg : Nat → Bool} {bs : Nat → Nat} {n q : Nat} (h : q < n) : (tkSign sg bs n q).2.2.2 ≤ n ∧ q < (tkSign sg bs n q).2.2.2 ∧ (tkSign sg bs n q).2.1 = q := by
  unfold tkSign
  split
  · split
    · split
      · exact ⟨by show q + 2 ≤ n; omega, by show q < q + 2; omega, rfl⟩
      · exact ⟨by show q + 2 ≤ n; omega, by show q < q + 2; omega, rfl⟩
    · exact ⟨by show q + 1 ≤ n; omega, by show q < q + 1; omega, rfl⟩
  · split
    · exact ⟨by show q + 1 ≤ n; omega, by show q < q + 1; omega, rfl⟩
    · exact ⟨by show q + 1 ≤ n; omega, by show q < q + 1; omega, rfl⟩
theorem tkRun_c {bs : Nat → Nat} {q e : Nat} : (tkRun bs q e).2.1 = q ∧ (tkRun bs q e).2.2.2 = e ∧ 1 ≤ (tkRun bs q e).1 ∧ (tkRun bs q e).1 ≤ 3 := by
  unfold tkRun; split
  · exact ⟨rfl, rfl, by simp, by simp⟩
  · split <;> exact ⟨rfl, rfl, by simp, by simp⟩
theorem tk_le {sg : Nat → Bool} {bs : Nat → Nat} {n p : Nat} (h : p ≤ n) : (tk sg bs n p).2.2.2 ≤ n ∧ p ≤ (tk sg bs n p).2.2.2 ∧ ((tk sg bs n p).1 ≠ 0 → (tk sg bs n p).1 ≠ 3 → p < (tk sg bs n p).2.2.2) ∧ (tk sg bs n p).2.1 ≤ 260 + n ∧ (((tk sg bs n p).1 ≠ 0 → (tk sg bs n p).1 ≠ 3 → (tk sg bs n p).2.1 < 200)) := by
  have hs := skip_le bs h
  unfold tk
  generalize skip bs n p = q at hs
  unfold tkAt
  split
  · split
    · exact ⟨by show q ≤ n; omega, by show p ≤ q; omega, fun hx => absurd rfl hx, by show n ≤ _; omega, fun hx => absurd rfl hx⟩
    · exact ⟨by show q ≤ n; omega, by show p ≤ q; omega, fun _ hx => absurd rfl hx, by show 200 ≤ _; omega, fun _ hx => absurd rfl hx⟩
  · split
    · next h1 h2 =>
      have hc := tkRun_c (bs := bs) (q := q) (e := rend bs n q)
      have hr := rend_le bs (n := n) (p := q) (by omega)
      have hl := rend_lt (i := q) hr.1 (by omega) h2
      rw [hc.1, hc.2.1]
      exact ⟨by omega, by omega, fun _ _ => by omega, by omega, fun _ _ => by omega⟩
    · have hc := tkSign_le (sg := sg) (bs := bs) (n := n) (q := q) (by omega)
      rw [hc.2.2]
      exact ⟨hc.1, by omega, fun _ _ => by omega, by omega, fun _ _ => by omega⟩
theorem cD_none {bs : Nat → Nat} {q : Nat} : ∀ k, cD bs q k = 0 → ∀ i, i < k → ¬ isD (bs (q + i)) = true
  | 0, _, i, hi => by omega
  | k + 1, h, i, hi => by
    have e : cD bs q (k + 1) = if isD (bs (q + k)) = true then cD bs q k + 1 else cD bs q k := rfl
    by_cases hd : isD (bs (q + k)) = true
    · rw [e, if_pos hd] at h; omega
    · rw [e, if_neg hd] at h
      rcases (show i < k ∨ i = k by omega) with hx | rfl
      · exact cD_none k h i hx
      · exact hd
theorem tkSign_n12 {sg : Nat → Bool} {bs : Nat → Nat} {n q : Nat} (hs : sg = sgF ∨ sg = sgW ∨ sg = sgA) : (tkSign sg bs n q).1 = 3 ∨ 40 ≤ (tkSign sg bs n q).1 := by
  unfold tkSign
  split
  · split
    · split <;> simp
    · simp
  · split
    · next h =>
      right
      show 40 ≤ bs q
      rcases hs with rfl | rfl | rfl
      · rw [sgF_or] at h; omega
      · rw [sgW_or] at h; omega
      · simp [sgA] at h
    · simp
theorem tk_word {sg : Nat → Bool} {bs : Nat → Nat} {n : Nat} {T : Tk} (hs : sg = sgF ∨ sg = sgW ∨ sg = sgA) (h : IsTk sg bs n T) (h1 : T.1 = 1) : T.2.2.2 ≤ n ∧ T.2.1 < T.2.2.2 ∧ (∀ i, i < T.2.2.2 - T.2.1 → isL (bs (T.2.1 + i)) = true) ∧ T.2.2.1 = wL bs T.2.1 (T.2.2.2 - T.2.1) ∧ T.2.2.2 - T.2.1 ≤ 12 ∧ T.2.2.1 < 27 ^ 12 := by
  obtain ⟨p, hp, rfl⟩ := h
  have hsk := skip_le bs hp
  revert h1
  unfold tk
  generalize skip bs n p = q at hsk
  unfold tkAt
  split
  · split
    · intro h; exact absurd (show (0 : Nat) = 1 from h) (by decide)
    · intro h; exact absurd (show (3 : Nat) = 1 from h) (by decide)
  · split
    · next h2 h3 =>
      intro h
      have hr := rend_le bs (n := n) (p := q) (by omega)
      have hl := rend_lt (i := q) hr.1 (by omega) h3
      have hal := rend_all bs n (n - q) q (by omega)
      unfold tkRun at h ⊢
      split at h
      · next hc =>
        have hLD := cLD bs q (rend bs n q - q) (fun i hi => hal (q + i) (by omega) (by omega))
        rw [if_pos hc]
        refine ⟨hr.2, hl, fun i hi => ?_, rfl, by show rend bs n q - q ≤ 12; omega, ?_⟩
        · have hi : i < rend bs n q - q := hi
          have ha := hal (q + i) (by omega) (by omega)
          have hd := cD_none _ hc.1 i hi
          show isL (bs (q + i)) = true
          simp only [isA, Bool.or_eq_true] at ha
          exact ha.resolve_right hd
        · exact Nat.lt_of_lt_of_le (wL_lt bs q _) (Nat.pow_le_pow_right (by decide) hc.2)
      · split at h
        · exact absurd (show (2 : Nat) = 1 from h) (by decide)
        · exact absurd (show (3 : Nat) = 1 from h) (by decide)
    · intro h
      have := tkSign_n12 (bs := bs) (n := n) (q := q) hs
      omega
theorem tk_num {sg : Nat → Bool} {bs : Nat → Nat} {n : Nat} {T : Tk} (hs : sg = sgF ∨ sg = sgW ∨ sg = sgA) (h : IsTk sg bs n T) (h1 : T.1 = 2) : T.2.2.1 < 1000000 := by
  obtain ⟨p, hp, rfl⟩ := h
  revert h1
  unfold tk
  generalize skip bs n p = q
  unfold tkAt
  split
  · split
    · intro h; exact absurd (show (0 : Nat) = 2 from h) (by decide)
    · intro h; exact absurd (show (3 : Nat) = 2 from h) (by decide)
  · split
    · intro h
      unfold tkRun at h ⊢
      split at h
      · exact absurd (show (1 : Nat) = 2 from h) (by decide)
      · next hn =>
        split at h
        · next hc =>
          rw [if_neg hn, if_pos hc]
          exact Nat.lt_of_lt_of_le (wD_lt bs q _) (Nat.pow_le_pow_right (by decide) hc.2)
        · exact absurd (show (3 : Nat) = 2 from h) (by decide)
    · intro h
      have := tkSign_n12 (bs := bs) (n := n) (q := q) hs
      omega
/-- words of unlike letters have unlike values -/
theorem wL_inj {a b : Nat → Nat} {q r : Nat} : ∀ (k l : Nat), (∀ i, i < k → isL (a (q + i)) = true) → (∀ i, i < l → isL (b (r + i)) = true) → wL a q k = wL b r l → k = l ∧ ∀ i, i < k → a (q + i) = b (r + i)
  | 0, 0, _, _, _ => ⟨rfl, fun i hi => by omega⟩
  | k + 1, 0, ha, _, h => by
    have e : wL a q (k + 1) = wL a q k * 27 + (a (q + k) - 96) := if_pos (ha k (by omega))
    have h1 := ha k (by omega)
    rw [isL_iff] at h1
    have h : wL a q (k + 1) = 0 := h
    omega
  | 0, l + 1, _, hb, h => by
    have e : wL b r (l + 1) = wL b r l * 27 + (b (r + l) - 96) := if_pos (hb l (by omega))
    have h1 := hb l (by omega)
    rw [isL_iff] at h1
    have h : 0 = wL b r (l + 1) := h
    omega
  | k + 1, l + 1, ha, hb, h => by
    have e1 : wL a q (k + 1) = wL a q k * 27 + (a (q + k) - 96) := if_pos (ha k (by omega))
    have e2 : wL b r (l + 1) = wL b r l * 27 + (b (r + l) - 96) := if_pos (hb l (by omega))
    have h1 := ha k (by omega)
    have h2 := hb l (by omega)
    rw [isL_iff] at h1 h2
    rw [e1, e2] at h
    have ih := wL_inj k l (fun i hi => ha i (by omega)) (fun i hi => hb i (by omega)) (by omega)
    obtain ⟨rfl, ih⟩ := ih
    refine ⟨rfl, fun i hi => ?_⟩
    rcases (show i < k ∨ i = k by omega) with hx | rfl
    · exact ih i hx
    · omega
/-- the letters of a String constant, and its value as a word -/
def stc (i k : Nat) : Nat := ((stb.getD i []).getD k 0).toNatClampNeg
def stv (i : Nat) : Nat := wL (stc i) 0 (stl.getD i 0)
theorem stc_ok : ∀ i, i < 9 → 3 ≤ i → ∀ k, k < stl.getD i 0 → isL (stc i k) = true ∧ stl.getD i 0 ≤ 5 ∧ (Int32.toUInt32 (((stb.getD i []).getD k 0) &&& 255) % 65536).toInt32 = nI (stc i k) := by decide +kernel
theorem stl_ok : ∀ i, i < 9 → 3 ≤ i → stl.getD i 0 ≤ 5 ∧ 1 ≤ stl.getD i 0 := by decide +kernel
/-- the class's token -/
def CT (g : Gh) (M : Mem) (T : Tk) : Prop := mI M (gB g + 1) 2 = nI T.1 ∧ mI M (gB g + 1) 3 = nI T.2.1 ∧ mJ M (gB g + 1) 4 = vX T.1 T.2.2.1 ∧ mI M (gB g + 1) 5 = nI T.2.2.2
/-- the reference's -/
def MT (g : Gh) (M : Mem) (T : Tk) : Prop := mI M (gB g + 195) 6 = nI (km T.1) ∧ mI M (gB g + 195) 5 = nI T.2.1 ∧ (T.1 ≠ 3 → mI M (gB g + 195) 4 = nI T.2.2.2) ∧ (¬ T.1 ≤ 3 → mI M (gB g + 195) 7 = nI T.1) ∧ (T.1 = 1 ∨ T.1 = 2 → mJ M (gB g + 195) 8 = lN T.2.2.1)
def isK (i : Nat) (T : Tk) : Bool := decide (T.1 = 1) && decide (T.2.2.1 = stv i)
theorem CT.fr {g : Gh} {M M' : Mem} {T : Tk} {P Q : Nat → Nat → Prop} (h : CT g M T) (f : Fr P Q M M') (hp : ∀ a k, P a k → ¬ (a = (gB g + 1) ∧ 2 ≤ k ∧ k ≤ 5)) (hq : ∀ a k, Q a k → ¬ (a = (gB g + 1) ∧ k = 4)) : CT g M' T := by
  unfold CT
  rw [f.1 _ _ (fun hh => by have := hp _ _ hh; omega), f.1 _ _ (fun hh => by have := hp _ _ hh; omega), f.1 _ _ (fun hh => by have := hp _ _ hh; omega), f.2.1 _ _ (fun hh => hq _ _ hh ⟨rfl, rfl⟩)]; exact h
theorem MT.fr {g : Gh} {M M' : Mem} {T : Tk} {P Q : Nat → Nat → Prop} (h : MT g M T) (f : Fr P Q M M') (hp : ∀ a k, P a k → ¬ (a = (gB g + 195) ∧ 4 ≤ k ∧ k ≤ 7)) (hq : ∀ a k, Q a k → ¬ (a = (gB g + 195) ∧ k = 8)) : MT g M' T := by
  unfold MT
  rw [f.1 _ _ (fun hh => by have := hp _ _ hh; omega), f.1 _ _ (fun hh => by have := hp _ _ hh; omega), f.1 _ _ (fun hh => by have := hp _ _ hh; omega), f.1 _ _ (fun hh => by have := hp _ _ hh; omega), f.2.1 _ _ (fun hh => hq _ _ hh ⟨rfl, rfl⟩)]; exact h
theorem TP.fr {g : Gh} {M M' : Mem} {n : Nat} {bs : Nat → Nat} {P Q : Nat → Nat → Prop} (h : TP g M (gB g + 1) (gB g + 2) n bs) (f : Fr P Q M M') (hp : ∀ a k, P a k → ¬ (a = (gB g + 1) ∧ k = 1) ∧ ¬ a = (gB g + 2)) : TP g M' (gB g + 1) (gB g + 2) n bs := by
  refine ⟨f.oc h.1, by rw [f.R]; exact h.2.1, f.oc h.2.2.1, by rw [f.N]; exact h.2.2.2.1, ?_, h.2.2.2.2.2.1, fun i hi => ?_, h.2.2.2.2.2.2.2⟩
  · rw [f.1 _ _ (fun hh => by have := hp _ _ hh; omega)]; exact h.2.2.2.2.1
  · rw [f.1 _ _ (fun hh => by have := hp _ _ hh; omega)]; exact h.2.2.2.2.2.2.1 i hi
theorem TM.fr {g : Gh} {M M' : Mem} {n : Nat} {bs : Nat → Nat} {P Q : Nat → Nat → Prop} (h : TM g M (gB g + 195) (gB g + 196) n bs) (f : Fr P Q M M') (hp : ∀ a k, P a k → ¬ (a = (gB g + 195) ∧ k = 3) ∧ ¬ a = (gB g + 196)) : TM g M' (gB g + 195) (gB g + 196) n bs := by
  refine ⟨f.oc h.1, by rw [f.R]; exact h.2.1, f.oc h.2.2.1, by rw [f.N]; exact h.2.2.2.1, ?_, h.2.2.2.2.2.1, fun i hi => ?_, h.2.2.2.2.2.2.2⟩
  · rw [f.1 _ _ (fun hh => by have := hp _ _ hh; omega)]; exact h.2.2.2.2.1
  · rw [f.1 _ _ (fun hh => by have := hp _ _ hh; omega)]; exact h.2.2.2.2.2.2.1 i hi
def PTc (g : Gh) : Nat → Nat → Prop := fun a k => a = (gB g + 1) ∧ 2 ≤ k ∧ k ≤ 5
def QTc (g : Gh) : Nat → Nat → Prop := fun a k => a = (gB g + 1) ∧ k = 4
def PTm (g : Gh) : Nat → Nat → Prop := fun a k => a = (gB g + 195) ∧ 4 ≤ k ∧ k ≤ 7
def QTm (g : Gh) : Nat → Nat → Prop := fun a k => a = (gB g + 195) ∧ k = 8
theorem tset_fr {g : Gh} {M : Mem} {k p n : Int32} {v : Int64} : Fr (PTc g) (QTc g) M (tset M (gB g + 1) k p v n) := by
  unfold tset
  exact ((((Fr.rf (M := M)).uI (by unfold PTc; omega)).uI (by unfold PTc; omega)).uJ ⟨rfl, rfl⟩).uI (by unfold PTc; omega)
theorem sp_nextC {g : Gh} {M : Mem} {n i p : Nat} {bs : Nat → Nat} {sg : Nat → Bool} (h : TP g M (gB g + 1) (gB g + 2) n bs) (hs : SG i sg) (h5 : mI M (gB g + 1) 5 = nI p) (hpn : p ≤ n) {post : Mem → Prop} (hq : ∀ M', Fr (PTc g) (QTc g) M M' → TP g M' (gB g + 1) (gB g + 2) n bs → CT g M' (tk sg bs n p) → post M') : wp_X10_readNext g M (gB g + 1) (gK g i) post := by
  refine sp_X10_readNext h hs h5 hpn (hq _ tset_fr (h.fr (tset_fr (g := g)) (fun a k hh => by unfold PTc at hh; omega)) ?_)
  unfold CT tset
  refine ⟨?_, ?_, ?_, ?_⟩ <;> simp [s_II, s_IJ, s_JJ, s_JI]
theorem sp_goM {g : Gh} {M : Mem} {n p : Nat} {bs : Nat → Nat} {f : Int32} {sg : Nat → Bool} (h : TM g M (gB g + 195) (gB g + 196) n bs) (hs : sgs f sg) (h4 : mI M (gB g + 195) 4 = nI p) (hpn : p ≤ n) {post : Mem → Prop} (hq : ∀ M', Fr (PTm g) (QTm g) M M' → TM g M' (gB g + 195) (gB g + 196) n bs → MT g M' (tk sg bs n p) → post M') : wp_X12_go g M (gB g + 195) f post := by
  refine sp_X12_go h hs h4 hpn (fun to' sg' v' a1 a2 a3 => hq _ gset_fr (h.fr (gset_fr (g := g)) (fun a k hh => by omega)) ⟨gset_v.2.2.1, gset_v.2.1, fun hx => by rw [gset_v.1]; exact a1 hx, fun hx => by rw [gset_v.2.2.2.1]; exact a2 hx, fun hx => by rw [gset_v.2.2.2.2]; exact a3 hx⟩)
theorem sp_isWord {g : Gh} {M : Mem} {n : Nat} {bs : Nat → Nat} {sg : Nat → Bool} {T : Tk} (h : TP g M (gB g + 1) (gB g + 2) n bs) (hsg : sg = sgF ∨ sg = sgW ∨ sg = sgA) (hT : IsTk sg bs n T) (hc : CT g M T) {i : Nat} (hi : i < 9) (hi3 : 3 ≤ i) {post : Int32 → Mem → Prop} (hq : post (bI (isK i T)) M) : wp_X10_isWord g M (gB g + 1) (gK g i) post := by
  have hn := h.2.2.2.2.2.1
  have hl := stl_ok i hi hi3
  have q0 : isK i T = false → post 0 M := fun e => by rw [e] at hq; exact hq
  have q1 : isK i T = true → post 1 M := fun e => by rw [e] at hq; exact hq
  have T3 : T.1 < 2 ^ 31 := by
    obtain ⟨p, hp, rfl⟩ := hT
    have hb8 := h.2.2.2.2.2.2.2
    unfold tk tkAt
    split
    · split <;> simp
    · split
      · have := (tkRun_c (bs := bs) (q := skip bs n p) (e := rend bs n (skip bs n p))).2.2.2; omega
      · unfold tkSign
        split
        · split
          · split <;> simp
          · simp
        · split
          · have := hb8 (skip bs n p)
            show bs _ < _; omega
          · simp
  have len : ∀ {M' : Mem} {P : Int32 → Mem → Prop}, P (nI (stl.getD i 0)) M' → wp_J0_length_8abf5 g M' i P := by
    intro M' P hP
    refine ⟨by omega, by omega, fun hx => absurd hx (by decide), fun _ => ?_⟩
    show P (nI (stl.getD i 0) >>> ((0 : Int32) &&& 31)) M'
    rw [sc_shr0 (by omega)]; exact hP
  refine ⟨h.1, ?_⟩
  rw [hc.1]
  refine pk_eq T.1 1 (fun h1 => ⟨i, rfl, len ?_⟩) (fun h1 => q0 (by simp [isK, h1]))
  obtain ⟨w1, w2, w3, w4, w5, w6⟩ := tk_word hsg hT h1
  rw [hc.2.2.2, hc.2.1, pk_sub (by omega)]
  have hst : ∀ k, k < stl.getD i 0 → isL (stc i k) = true := fun k hk => (stc_ok i hi hi3 k hk).1
  refine pk_eq (T.2.2.2 - T.2.1) (stl.getD i 0) (fun hlen => ?_) (fun hlen => q0 ?_)
  · refine lfp_up (fun k s => s = (nI k, M) ∧ ∀ j, j < k → bs (T.2.1 + j) = stc i j) (stl.getD i 0) ?_ ?_ 0 _ (by omega) ⟨rfl, fun j hj => by omega⟩
    · rintro bk s ⟨rfl, hf⟩
      refine ⟨i, rfl, len (pk_le (stl.getD i 0) (stl.getD i 0) (fun _ => q1 ?_) (fun hx => by omega))⟩
      have : T.2.2.1 = stv i := by
        rw [w4, hlen]
        unfold stv
        have : ∀ k, k ≤ stl.getD i 0 → wL bs T.2.1 k = wL (stc i) 0 k := by
          intro k
          induction k with
          | zero => intro _; rfl
          | succ k ih =>
            intro hk
            unfold wL
            rw [hf k (by omega), Nat.zero_add, ih (by omega)]
        exact this _ (Nat.le_refl _)
      simp [isK, h1, this]
    · rintro bk k s hk ⟨rfl, hf⟩ hb
      obtain ⟨c1, c2, c3⟩ := stc_ok i hi hi3 k hk
      show bd_X10_isWord_28 g M (gB g + 1) (gK g i) post bk (nI k) M
      unfold bd_X10_isWord_28
      refine ⟨i, rfl, len (pk_le (stl.getD i 0) k (fun hx => by omega) (fun _ => ?_))⟩
      rw [hc.2.1, nI_add]
      refine sp_X10_byteAt h (T.2.1 + k) (by omega) ⟨i, rfl, by omega, by omega, fun hx => absurd hx (by decide), fun _ => ⟨fun _ => ⟨fun hx => absurd hx (by decide), fun _ => ?_⟩, fun hx => absurd rfl hx⟩⟩
      rw [if_pos (show T.2.1 + k < n by omega)]
      refine ⟨by omega, fun r => ⟨fun hx => absurd hx (nI_pos (by omega)), fun _ => pk_lt k (stl.getD i 0) (fun _ => ⟨pk_in k (stl.getD i 0) hk, ?_⟩) (fun hx => by omega)⟩⟩
      rw [nI_cl k (by omega), c3]
      rw [isL_iff] at c1
      have hb8 := h.2.2.2.2.2.2.2 (T.2.1 + k)
      refine ⟨(pk_charN (by omega)).1, pk_eq (bs (T.2.1 + k)) (stc i k) (fun he => hb _ ⟨by rw [nI_1], fun j hj => ?_⟩) (fun he => q0 ?_)⟩
      · rcases (show j < k ∨ j = k by omega) with hx | rfl
        · exact hf j hx
        · exact he
      · have : ¬ T.2.2.1 = stv i := by
          intro hv
          rw [w4] at hv
          have := (wL_inj (a := bs) (b := stc i) (q := T.2.1) (r := 0) _ _ w3 (fun j hj => by rw [Nat.zero_add]; exact hst j hj) hv).2 k (by omega)
          rw [Nat.zero_add] at this
          exact he this
        simp [isK, this]
  · have : ¬ T.2.2.1 = stv i := by
      intro hv
      rw [w4] at hv
      exact hlen (wL_inj (a := bs) (b := stc i) (q := T.2.1) (r := 0) _ _ w3 (fun j hj => by rw [Nat.zero_add]; exact hst j hj) hv).1
    simp [isK, this]
theorem lN_eq60 {a b : Nat} (ha : a < 2 ^ 63) (hb : b < 2 ^ 63) : lN a = lN b ↔ a = b := pk_lEQ ha hb
theorem km_eq {c : Nat} : (km c = 2 ↔ c = 1) ∧ (km c = 3 ↔ c = 2) ∧ (km c = 0 ↔ c = 0) ∧ (km c = 1 ↔ c = 3) ∧ (km c = 4 ↔ ¬ c ≤ 3) ∧ km c < 5 := by
  unfold km
  split
  · omega
  · split
    · omega
    · split
      · omega
      · split <;> omega
/-- a key of the reference: its value is that of String constant i -/
theorem sp_key95 {g : Gh} {M0 M : Mem} {n : Nat} {bs : Nat → Nat} {sg : Nat → Bool} {T : Tk} (hsg : sg = sgF ∨ sg = sgW ∨ sg = sgA) (hT : IsTk sg bs n T) (hm : MT g M T) {i : Nat} (hv : stv i < 2 ^ 60) {p1 p2 p3 p4 p5 : Int32} {x : Int64} (hx : x = lN (stv i)) {post : Int32 → Mem → Prop} (hq : post (bI (isK i T)) M) : lb_X12_isKey_95 g M0 (gB g + 195) p1 p2 p3 p4 p5 post x M := by
  subst hx
  have k5 := (km_eq (c := T.1)).2.2.2.2.2
  have q0 : isK i T = false → post 0 M := fun e => by rw [e] at hq; exact hq
  have q1 : isK i T = true → post 1 M := fun e => by rw [e] at hq; exact hq
  unfold lb_X12_isKey_95
  rw [hm.1, lg_cmp_eq]
  refine pk_eq (km T.1) 2 (fun h2 => ?_) (fun h2 => q0 ?_)
  · have h1 : T.1 = 1 := km_eq.1.mp h2
    have hw := (tk_word hsg hT h1).2.2.2.2.2
    rw [hm.2.2.2.2 (Or.inl h1)]
    have hp : (27 : Nat) ^ 12 < 2 ^ 60 := by decide
    refine ⟨fun he => q1 ?_, fun he => q0 ?_⟩
    · have := (lN_eq60 (by omega) (by omega)).mp he
      simp [isK, h1, this]
    · have : ¬ T.2.2.1 = stv i := fun hh => he (by rw [hh])
      simp [isK, this]
  · have : ¬ T.1 = 1 := fun hh => h2 (km_eq.1.mpr hh)
    simp [isK, this]
theorem stv_lt : ∀ i, i < 9 → stv i < 2 ^ 60 := by decide +kernel
theorem sp_kRound {g : Gh} {M : Mem} {n : Nat} {bs : Nat → Nat} {sg : Nat → Bool} {T : Tk} (h1 : Lay g M) (hsg : sg = sgF ∨ sg = sgW ∨ sg = sgA) (hT : IsTk sg bs n T) (hm : MT g M T) {post : Int32 → Mem → Prop} (hq : post (bI (isK 3 T)) M) : wp_X12_isKey g M (gB g + 195) 114 111 117 110 100 post :=
  ⟨lk_195 h1, fun hx => absurd hx (by decide), fun _ => ⟨fun hx => absurd hx (by decide), fun _ => ⟨fun hx => absurd hx (by decide), fun _ => ⟨fun hx => absurd hx (by decide), fun _ => ⟨fun hx => absurd hx (by decide), fun _ => sp_key95 hsg hT hm (stv_lt 3 (by decide)) (by decide +kernel) hq⟩⟩⟩⟩⟩
theorem sp_kBuzz {g : Gh} {M : Mem} {n : Nat} {bs : Nat → Nat} {sg : Nat → Bool} {T : Tk} (h1 : Lay g M) (hsg : sg = sgF ∨ sg = sgW ∨ sg = sgA) (hT : IsTk sg bs n T) (hm : MT g M T) {post : Int32 → Mem → Prop} (hq : post (bI (isK 4 T)) M) : wp_X12_isKey g M (gB g + 195) 98 117 122 122 0 post :=
  ⟨lk_195 h1, fun hx => absurd hx (by decide), fun _ => ⟨fun hx => absurd hx (by decide), fun _ => ⟨fun hx => absurd hx (by decide), fun _ => ⟨fun hx => absurd hx (by decide), fun _ => ⟨fun _ => sp_key95 hsg hT hm (stv_lt 4 (by decide)) (by decide +kernel) hq, fun hx => absurd (by decide) hx⟩⟩⟩⟩⟩
theorem sp_kTurns {g : Gh} {M : Mem} {n : Nat} {bs : Nat → Nat} {sg : Nat → Bool} {T : Tk} (h1 : Lay g M) (hsg : sg = sgF ∨ sg = sgW ∨ sg = sgA) (hT : IsTk sg bs n T) (hm : MT g M T) {post : Int32 → Mem → Prop} (hq : post (bI (isK 5 T)) M) : wp_X12_isKey g M (gB g + 195) 116 117 114 110 115 post :=
  ⟨lk_195 h1, fun hx => absurd hx (by decide), fun _ => ⟨fun hx => absurd hx (by decide), fun _ => ⟨fun hx => absurd hx (by decide), fun _ => ⟨fun hx => absurd hx (by decide), fun _ => ⟨fun hx => absurd hx (by decide), fun _ => sp_key95 hsg hT hm (stv_lt 5 (by decide)) (by decide +kernel) hq⟩⟩⟩⟩⟩
theorem sp_kRight {g : Gh} {M : Mem} {n : Nat} {bs : Nat → Nat} {sg : Nat → Bool} {T : Tk} (h1 : Lay g M) (hsg : sg = sgF ∨ sg = sgW ∨ sg = sgA) (hT : IsTk sg bs n T) (hm : MT g M T) {post : Int32 → Mem → Prop} (hq : post (bI (isK 6 T)) M) : wp_X12_isKey g M (gB g + 195) 114 105 103 104 116 post :=
  ⟨lk_195 h1, fun hx => absurd hx (by decide), fun _ => ⟨fun hx => absurd hx (by decide), fun _ => ⟨fun hx => absurd hx (by decide), fun _ => ⟨fun hx => absurd hx (by decide), fun _ => ⟨fun hx => absurd hx (by decide), fun _ => sp_key95 hsg hT hm (stv_lt 6 (by decide)) (by decide +kernel) hq⟩⟩⟩⟩⟩
theorem sp_kPass {g : Gh} {M : Mem} {n : Nat} {bs : Nat → Nat} {sg : Nat → Bool} {T : Tk} (h1 : Lay g M) (hsg : sg = sgF ∨ sg = sgW ∨ sg = sgA) (hT : IsTk sg bs n T) (hm : MT g M T) {post : Int32 → Mem → Prop} (hq : post (bI (isK 7 T)) M) : wp_X12_isKey g M (gB g + 195) 112 97 115 115 0 post :=
  ⟨lk_195 h1, fun hx => absurd hx (by decide), fun _ => ⟨fun hx => absurd hx (by decide), fun _ => ⟨fun hx => absurd hx (by decide), fun _ => ⟨fun hx => absurd hx (by decide), fun _ => ⟨fun _ => sp_key95 hsg hT hm (stv_lt 7 (by decide)) (by decide +kernel) hq, fun hx => absurd (by decide) hx⟩⟩⟩⟩⟩
theorem sp_kWrong {g : Gh} {M : Mem} {n : Nat} {bs : Nat → Nat} {sg : Nat → Bool} {T : Tk} (h1 : Lay g M) (hsg : sg = sgF ∨ sg = sgW ∨ sg = sgA) (hT : IsTk sg bs n T) (hm : MT g M T) {post : Int32 → Mem → Prop} (hq : post (bI (isK 8 T)) M) : wp_X12_isKey g M (gB g + 195) 119 114 111 110 103 post :=
  ⟨lk_195 h1, fun hx => absurd hx (by decide), fun _ => ⟨fun hx => absurd hx (by decide), fun _ => ⟨fun hx => absurd hx (by decide), fun _ => ⟨fun hx => absurd hx (by decide), fun _ => ⟨fun hx => absurd hx (by decide), fun _ => sp_key95 hsg hT hm (stv_lt 8 (by decide)) (by decide +kernel) hq⟩⟩⟩⟩⟩
