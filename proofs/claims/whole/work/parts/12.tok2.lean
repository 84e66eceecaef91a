/-! PURE: signs, and the class's next token -/
theorem sp_indexOf {g : Gh} {M : Mem} (i L : Nat) (hi : i < 14) (hL : stl.getD i 0 = L) (hL2 : L < 1000) (c : Nat) (hc : c < 256) {post : Int32 → Mem → Prop} (h1 : ∀ k, k < L → (stb.getD i []).getD k 0 = sb_b c → ∀ v : Int32, ¬ v < 0 → post v M) (h0 : (∀ k, k < L → ¬ (stb.getD i []).getD k 0 = sb_b c) → post (-1) M) : wp_J0_indexOf_0f7a4 g M i (nI c) post := by
  refine ⟨hi, hi, hi, fun h => absurd h (by decide), fun _ => ⟨fun _ => ⟨fun h => absurd h (by decide), fun _ => ?_⟩, fun h => absurd rfl h⟩⟩
  refine ⟨hi, hi, fun h => absurd h (by decide), fun _ => ?_⟩
  show wp_J1_indexOf_4cfef g M i (nI c) 0 (nI (stl.getD i 0) >>> (0 &&& 31)) _
  rw [hL, sc_shr0 (by omega)]
  refine ⟨hi, fun h => absurd h (nI_pos (by omega)), fun _ => ⟨fun h => absurd (show nI 255 < nI c from h) (nI_nlt (by omega) (by omega)), fun _ => ⟨fun h => absurd h (by decide), fun _ => ?_⟩⟩⟩
  rw [hL, if_neg (show ¬ (0 : Int32) < 0 by decide), if_neg (nI_nlt (Nat.le_refl L) (by omega))]
  refine pk_lt 0 L (fun hp => ?_) (fun hp => h0 (fun k hk => by omega))
  refine ⟨hi, ?_⟩
  refine lfp_ms (fun s => ∃ j, j ≤ L ∧ s = (sb_b c, nI j, M) ∧ ∀ k, k < j → ¬ (stb.getD i []).getD k 0 = sb_b c) (fun s => L - s.2.1.toNatClampNeg) ?_ _ ⟨0, by omega, rfl, fun k hk => by omega⟩
  rintro bk s ⟨j, hj, rfl, hn⟩ hb
  show bd_J1_indexOfChar_4cfef_7 g M i (nI c) 0 (nI L) _ bk _ _ _
  unfold bd_J1_indexOfChar_4cfef_7
  refine pk_le L j (fun hc2 => h0 (fun k hk => hn k (by omega))) (fun hc2 => ⟨?_, ?_⟩)
  · rw [hL]; exact pk_in j L hc2
  · rw [pk_cl j]
    refine ⟨fun he => h1 j hc2 he _ (nI_pos (by omega)), fun he => hb _ ⟨j + 1, by omega, by rw [nI_1], fun k hk => ?_⟩ ?_⟩
    · rcases (show k < j ∨ k = j by omega) with h | rfl
      · exact hn k h
      · exact he
    · show L - (nI j + 1).toNatClampNeg < L - (nI j).toNatClampNeg
      rw [nI_1, nI_clamp (by omega), nI_clamp (by omega)]; omega
def sgF (c : Nat) : Bool := [124, 91, 93, 40, 41, 123, 125, 44, 46].contains c
def sgA (_ : Nat) : Bool := false
def sgW (c : Nat) : Bool := [59].contains c
/-- which string has which signs -/
def SG (i : Nat) (sg : Nat → Bool) : Prop := (i = 0 ∧ sg = sgF) ∨ (i = 1 ∧ sg = sgA) ∨ (i = 2 ∧ sg = sgW)
theorem sgF_1 : ∀ c, c < 256 → ∀ k, k < 9 → (stb.getD 0 []).getD k 0 = sb_b c → sgF c = true := by decide +kernel
theorem sgF_0 : ∀ c, c < 256 → (∀ k, k < 9 → ¬ (stb.getD 0 []).getD k 0 = sb_b c) → sgF c = false := by decide +kernel
theorem sgW_1 : ∀ c, c < 256 → ∀ k, k < 1 → (stb.getD 2 []).getD k 0 = sb_b c → sgW c = true := by decide +kernel
theorem sgW_0 : ∀ c, c < 256 → (∀ k, k < 1 → ¬ (stb.getD 2 []).getD k 0 = sb_b c) → sgW c = false := by decide +kernel
theorem sp_signs {g : Gh} {M : Mem} {i : Nat} {sg : Nat → Bool} (hs : SG i sg) (c : Nat) (hc : c < 256) {post : Int32 → Mem → Prop} (h1 : sg c = true → ∀ v : Int32, ¬ v < 0 → post v M) (h0 : sg c = false → post (-1) M) : wp_J0_indexOf_0f7a4 g M i (nI c) post := by
  rcases hs with ⟨rfl, rfl⟩ | ⟨rfl, rfl⟩ | ⟨rfl, rfl⟩
  · exact sp_indexOf 0 9 (by decide) rfl (by decide) c hc (fun k hk he => h1 (sgF_1 c hc k hk he)) (fun h => h0 (sgF_0 c hc h))
  · exact sp_indexOf 1 0 (by decide) rfl (by decide) c hc (fun k hk => by omega) (fun h => h0 rfl)
  · exact sp_indexOf 2 1 (by decide) rfl (by decide) c hc (fun k hk he => h1 (sgW_1 c hc k hk he)) (fun h => h0 (sgW_0 c hc h))
theorem sp_X10_readSign {g : Gh} {M : Mem} {t b n q i : Nat} {bs : Nat → Nat} {sg : Nat → Bool} (h : TP g M t b n bs) (hs : SG i sg) (hp : mI M t 3 = nI q) (hqn : q < n) (hv : mJ M t 4 = 0) {post : Mem → Prop} (hq : post (tset M t (nI (tkSign sg bs n q).1) (nI q) 0 (nI (tkSign sg bs n q).2.2.2))) : wp_X10_readSign g M t (gK g i) post := by
  have hn := h.2.2.2.2.2.1
  have hb8 := h.2.2.2.2.2.2.2 q
  have hb9 := h.2.2.2.2.2.2.2 (q + 1)
  refine ⟨h.1, ?_⟩
  rw [hp]
  refine sp_X10_byteAt h q (by omega) ?_
  rw [if_pos hqn]
  -- the end: kind k, and 2 or 1 bytes
  have fin : ∀ (x3 k : Int32) (kn d : Nat), k = nI kn → (tkSign sg bs n q).1 = kn → (tkSign sg bs n q).2.2.2 = q + d → (d = 2 ∧ bs q = 46 ∧ x3 = 0 ∨ d = 1 ∧ (bs q ≠ 46 ∨ ¬ x3 = 0)) → lb_X10_readSign_67 g M t (gK g i) post (nI (bs q)) x3 t k M := by
    intro x3 k kn d hk e1 e2 hd
    rw [e1, e2] at hq
    refine ⟨h.1, ?_⟩
    rintro M2 rfl
    have e3 : mI (uI M t 2 k) t 3 = nI q := by simp [s_II, hp]
    rw [e3]
    have go : ∀ d' : Nat, d' = d → post (uI (uI M t 2 k) t 5 (nI q + nI d')) := by
      rintro d' rfl
      rw [nI_add]
      refine tset_at hq ?_ ?_ ?_ ?_ ?_ ?_ rfl
      · simp [s_II, hk]
      · simp [s_II, hp]
      · simp [s_JI, hv]
      · simp [s_II]
      · intro b j hbj; simp only [s_II]; by_cases hb : b = t <;> simp [hb]; simp [hb] at hbj; simp [hbj]
      · intro b j hbj; rfl
    refine pk_eq (bs q) 46 (fun c => ⟨fun c2 => ?_, fun c2 => ?_⟩) (fun c => ?_)
    · rintro M10 rfl
      refine go 2 ?_
      rcases hd with ⟨h1, _⟩ | ⟨_, h1 | h1⟩
      · exact h1.symm
      · exact absurd c h1
      · exact absurd c2 h1
    · rintro M10 rfl
      refine go 1 ?_
      rcases hd with ⟨_, _, h1⟩ | ⟨h1, _⟩
      · exact absurd h1 c2
      · exact h1.symm
    · rintro M10 rfl
      refine go 1 ?_
      rcases hd with ⟨_, h1, _⟩ | ⟨h1, _⟩
      · exact absurd h1 c
      · exact h1.symm
  have hch : ((nI (bs q)).toUInt32 % 65536).toInt32 = nI (bs q) := (sb_byte (bs q) hb8).2.1
  refine pk_eq (bs q) 46 (fun c => ?_) (fun c => ?_)
  · rw [hp, nI_1]
    refine sp_X10_byteAt h (q + 1) (by omega) ?_
    by_cases h2 : q + 1 < n ∧ bs (q + 1) = 46
    · rw [if_pos h2.1, h2.2]
      refine ⟨fun _ => ?_, fun hh => absurd rfl hh⟩
      refine ⟨fun _ => ⟨i, rfl, ?_⟩, fun hh => absurd rfl hh⟩
      rw [hch]
      refine sp_signs hs (bs q) hb8 (fun hg v hvv => ⟨fun hh => absurd hh hvv, fun _ => ⟨fun hh => absurd hh (by decide), fun _ => ?_⟩⟩) (fun hg => ⟨fun _ => ⟨fun _ => ?_, fun hh => absurd rfl hh⟩, fun hh => absurd (show (-1 : Int32) < 0 by decide) hh⟩)
      · exact fin 0 (nI (bs q)) 46 2 (by rw [c]) (by unfold tkSign; rw [if_pos c, if_pos h2, ← c, if_pos hg, c]) (by unfold tkSign; rw [if_pos c, if_pos h2, ← c, if_pos hg]) (Or.inl ⟨rfl, c, rfl⟩)
      · exact fin 0 3 3 2 rfl (by unfold tkSign; rw [if_pos c, if_pos h2, ← c, if_neg (by rw [hg]; decide)]) (by unfold tkSign; rw [if_pos c, if_pos h2, ← c, if_neg (by rw [hg]; decide)]) (Or.inl ⟨rfl, c, rfl⟩)
    · have hne : ¬ (if q + 1 < n then nI (bs (q + 1)) else (-1)) = (46 : Int32) := by
        split
        · next hx => exact fun he => h2 ⟨hx, (nI_eq (a := bs (q + 1)) (b := 46) (by omega) (by decide)).mp he⟩
        · decide
      refine ⟨fun hh => absurd hh hne, fun _ => ⟨fun hh => absurd hh (by decide), fun _ => ⟨fun _ => ?_, fun hh => absurd rfl hh⟩⟩⟩
      exact fin 1 3 3 1 rfl (by unfold tkSign; rw [if_pos c, if_neg h2]) (by unfold tkSign; rw [if_pos c, if_neg h2]) (Or.inr ⟨rfl, Or.inr (by decide)⟩)
  · refine ⟨fun _ => ⟨i, rfl, ?_⟩, fun hh => absurd rfl hh⟩
    rw [hch]
    refine sp_signs hs (bs q) hb8 (fun hg v hvv => ⟨fun hh => absurd hh hvv, fun _ => ⟨fun hh => absurd hh (by decide), fun _ => ?_⟩⟩) (fun hg => ⟨fun _ => ⟨fun _ => ?_, fun hh => absurd rfl hh⟩, fun hh => absurd (show (-1 : Int32) < 0 by decide) hh⟩)
    · exact fin 0 (nI (bs q)) (bs q) 1 rfl (by unfold tkSign; rw [if_neg c, if_pos hg]) (by unfold tkSign; rw [if_neg c, if_pos hg]) (Or.inr ⟨rfl, Or.inl c⟩)
    · exact fin 0 3 3 1 rfl (by unfold tkSign; rw [if_neg c, if_neg (by rw [hg]; decide)]) (by unfold tkSign; rw [if_neg c, if_neg (by rw [hg]; decide)]) (Or.inr ⟨rfl, Or.inl c⟩)
theorem tset_tset (M : Mem) (t : Nat) (k p n k' p' n' : Int32) (v v' : Int64) : tset (tset M t k p v n) t k' p' v' n' = tset M t k' p' v' n' := by
  refine mem_ext (fun b j => ?_) (fun b j => ?_) rfl
  · simp only [tset, s_II, s_IJ]
    by_cases hb : b = t
    · simp only [hb, if_true]
      rcases (show j = 2 ∨ j = 3 ∨ j = 5 ∨ (j ≠ 2 ∧ j ≠ 3 ∧ j ≠ 5) by omega) with rfl | rfl | rfl | ⟨a1, a2, a3⟩ <;> simp [*]
    · simp [hb]
  · simp only [tset, s_JJ, s_JI]
    by_cases hb : b = t
    · simp only [hb, if_true]
      split <;> rfl
    · simp [hb]
theorem sp_X10_readNext {g : Gh} {M : Mem} {t b n p i : Nat} {bs : Nat → Nat} {sg : Nat → Bool} (h : TP g M t b n bs) (hs : SG i sg) (hp : mI M t 5 = nI p) (hpn : p ≤ n) {post : Mem → Prop} (hq : post (tset M t (nI (tk sg bs n p).1) (nI (tk sg bs n p).2.1) (vX (tk sg bs n p).1 (tk sg bs n p).2.2.1) (nI (tk sg bs n p).2.2.2))) : wp_X10_readNext g M t (gK g i) post := by
  have hn := h.2.2.2.2.2.1
  refine ⟨h.1, sp_X10_skipBlanks h hp hpn ?_⟩
  rintro M14 rfl
  unfold tk at hq
  have hsk := skip_le bs hpn
  generalize skip bs n p = q at hq hsk ⊢
  have h' : TP g (uJ (uI M t 5 (nI q)) t 4 0) t b n bs := h.uI 5 _ (by decide)
  have e1 : mI (uJ (uI M t 5 (nI q)) t 4 0) t 1 = nI n := h'.2.2.2.2.1
  have e5 : mI (uJ (uI M t 5 (nI q)) t 4 0) t 5 = nI q := by simp [s_II, s_IJ]
  have e4 : mJ (uJ (uI M t 5 (nI q)) t 4 0) t 4 = 0 := by simp [s_JJ]
  have fi : ∀ b j, ¬ (b = t ∧ (j = 2 ∨ j = 3 ∨ j = 5)) → mI (uJ (uI M t 5 (nI q)) t 4 0) b j = mI M b j := by
    intro b j hbj; simp only [s_II, s_IJ]; by_cases hb : b = t <;> simp [hb]; simp [hb] at hbj; simp [hbj]
  have fj : ∀ b j, ¬ (b = t ∧ j = 4) → mJ (uJ (uI M t 5 (nI q)) t 4 0) b j = mJ M b j := by
    intro b j hbj; simp only [s_JJ, s_JI]; by_cases hb : b = t <;> simp [hb]; simp [hb] at hbj; simp [hbj]
  have fr : (uJ (uI M t 5 (nI q)) t 4 0).2.2 = M.2.2 := rfl
  generalize uJ (uI M t 5 (nI q)) t 4 0 = M14 at h' e1 e5 e4 fi fj fr ⊢
  have key : ∀ k p' v n', tset M14 t k p' v n' = tset M t k p' v n' := by
    intro k p' v n'
    refine tset_of ?_ ?_ ?_ ?_ ?_ ?_ fr
    · simp [tset, s_II, s_IJ]
    · simp [tset, s_II, s_IJ]
    · simp [tset, s_JJ, s_JI]
    · simp [tset, s_II, s_IJ]
    · intro b j hbj
      have := fi b j hbj
      simp only [tset, s_II, s_IJ]; by_cases hb : b = t <;> simp [hb]
      · simp [hb] at hbj; simp [hbj]; rw [hb] at this; exact this
      · exact this
    · intro b j hbj
      have := fj b j hbj
      simp only [tset, s_JJ, s_JI]; by_cases hb : b = t <;> simp [hb]
      · simp [hb] at hbj; simp [hbj]; rw [hb] at this; exact this
      · exact this
  have hend : (n ≤ q ∨ 200 ≤ q) → lb_X10_readNext_30 g M t (gK g i) post M14 := by
    intro hc
    rw [show tkAt sg bs n q = (if n ≤ 200 then (0, n, 0, q) else (3, 200, 0, q)) from if_pos hc] at hq
    unfold lb_X10_readNext_30
    rw [e1]
    refine pk_le n 200 (fun h2 => ⟨h.1, ?_⟩) (fun h2 => ⟨h.1, ?_⟩)
    · rintro M4 rfl
      have e6 : mI (uI M14 t 2 0) t 1 = nI n := by simp [s_II, e1]
      rw [e6]
      refine pk_le n 200 (fun _ => ?_) (fun h3 => by omega)
      rintro M7 rfl
      rw [if_pos h2] at hq
      refine tset_at hq ?_ ?_ ?_ ?_ ?_ ?_ fr
      · simp [s_II]; rfl
      · simp [s_II]
      · simp [s_JI, e4, vX]; rfl
      · simp [s_II, e5]
      · intro b j hbj
        have := fi b j hbj
        simp only [s_II]; by_cases hb : b = t <;> simp [hb]
        · simp [hb] at hbj; simp [hbj]; rw [hb] at this; exact this
        · exact this
      · exact fj
    · rintro M4 rfl
      have e6 : mI (uI M14 t 2 3) t 1 = nI n := by simp [s_II, e1]
      rw [e6]
      refine pk_le n 200 (fun h3 => by omega) (fun _ => ?_)
      rintro M7 rfl
      rw [if_neg (by omega)] at hq
      refine tset_at hq ?_ ?_ ?_ ?_ ?_ ?_ fr
      · simp [s_II]; rfl
      · simp [s_II]; rfl
      · simp [s_JI, e4, vX]; rfl
      · simp [s_II, e5]
      · intro b j hbj
        have := fi b j hbj
        simp only [s_II]; by_cases hb : b = t <;> simp [hb]
        · simp [hb] at hbj; simp [hbj]; rw [hb] at this; exact this
        · exact this
      · exact fj
  rw [e1, e5]
  refine pk_le n q (fun hc => hend (Or.inl hc)) (fun hc => pk_lt q 200 (fun hc2 => ?_) (fun hc2 => hend (Or.inr hc2)))
  rintro M18 rfl
  have h18 : TP g (uI M14 t 3 (nI q)) t b n bs := h'.uI 3 _ (by decide)
  have e3 : mI (uI M14 t 3 (nI q)) t 3 = nI q := by simp [s_II]
  have e4' : mJ (uI M14 t 3 (nI q)) t 4 = 0 := e4
  have key3 : ∀ k p' v n', tset (uI M14 t 3 (nI q)) t k p' v n' = tset M t k p' v n' := by
    intro k p' v n'
    rw [← key]
    refine mem_ext (fun b j => ?_) (fun b j => rfl) rfl
    simp only [tset, s_II, s_IJ]
    by_cases hb : b = t
    · simp only [hb, if_true]
      rcases (show j = 2 ∨ j = 3 ∨ j = 5 ∨ (j ≠ 2 ∧ j ≠ 3 ∧ j ≠ 5) by omega) with rfl | rfl | rfl | ⟨a1, a2, a3⟩ <;> simp [*]
    · simp [hb]
  generalize uI M14 t 3 (nI q) = M18 at h18 e3 e4' key3 ⊢
  have hb8 := h.2.2.2.2.2.2.2 q
  rw [e3]
  refine sp_X10_byteAt h18 q (by omega) ?_
  rw [if_pos hc]
  refine sp_X10_isLetter _ hb8 ?_
  have hat : tkAt sg bs n q = if isA (bs q) = true then tkRun bs q (rend bs n q) else tkSign sg bs n q := if_neg (by omega)
  rw [hat] at hq
  have run : isA (bs q) = true → wp_X10_readRun g M18 t (fun M => post M) := by
    intro ha
    rw [if_pos ha] at hq
    refine sp_X10_readRun h18 e3 (by omega) e4' ?_
    rw [key3]
    have e2 : (tkRun bs q (rend bs n q)).2.1 = q ∧ (tkRun bs q (rend bs n q)).2.2.2 = rend bs n q := by
      unfold tkRun; split
      · exact ⟨rfl, rfl⟩
      · split <;> exact ⟨rfl, rfl⟩
    rw [e2.1, e2.2] at hq
    exact hq
  by_cases hL : isL (bs q) = true
  · rw [if_pos hL]
    exact ⟨fun hh => absurd hh (by decide), fun _ => run (by simp [isA, hL])⟩
  · rw [if_neg hL]
    refine ⟨fun _ => ?_, fun hh => absurd rfl hh⟩
    rw [e3]
    refine sp_X10_byteAt h18 q (by omega) ?_
    rw [if_pos hc]
    refine sp_X10_isDigit _ hb8 ?_
    by_cases hD : isD (bs q) = true
    · rw [if_pos hD]
      exact ⟨fun hh => absurd hh (by decide), fun _ => run (by simp [isA, hD])⟩
    · rw [if_neg hD]
      refine ⟨fun _ => ?_, fun hh => absurd rfl hh⟩
      rw [if_neg (by simp [isA, hL, hD])] at hq
      refine sp_X10_readSign h18 hs e3 hc e4' ?_
      rw [key3]
      have e2 : (tkSign sg bs n q).2.1 = q ∧ (tkSign sg bs n q).2.2.1 = 0 ∧ (tkSign sg bs n q).1 ≠ 1 := by
        unfold tkSign
        split
        · split
          · split <;> exact ⟨rfl, rfl, by simp⟩
          · exact ⟨rfl, rfl, by simp⟩
        · split
          · next hg =>
            refine ⟨rfl, rfl, fun he => ?_⟩
            have he : bs q = 1 := he
            rw [he] at hg
            rcases hs with ⟨_, rfl⟩ | ⟨_, rfl⟩ | ⟨_, rfl⟩ <;> revert hg <;> decide
          · exact ⟨rfl, rfl, by simp⟩
      rw [e2.1, e2.2.1, vX, if_neg e2.2.2] at hq
      exact hq
