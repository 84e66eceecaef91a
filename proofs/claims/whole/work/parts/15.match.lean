/-! PURE: a law, and a match that goes by it, in numbers -/
/-- rounds, questions wanted; of each round how many, whether buzz, right, pass, wrong -/
abbrev LawT : Type := Nat × Nat × (Nat → Nat) × (Nat → Bool) × (Nat → Int32) × (Nat → Int32) × (Nat → Int32)
def lR (L : LawT) : Nat := L.1
def lW (L : LawT) : Nat := L.2.1
def lS (L : LawT) : Nat → Nat := L.2.2.1
def lB (L : LawT) : Nat → Bool := L.2.2.2.1
def lg (L : LawT) : Nat → Int32 := L.2.2.2.2.1
def lP (L : LawT) : Nat → Int32 := L.2.2.2.2.2.1
def lw (L : LawT) : Nat → Int32 := L.2.2.2.2.2.2
/-- how many are in the rounds ahead of round k -/
def pre (f : Nat → Nat) : Nat → Nat
  | 0 => 0
  | k + 1 => pre f k + f k
theorem pre_mono (f : Nat → Nat) : ∀ (j k : Nat), j ≤ k → pre f j ≤ pre f k := by
  intro j k h
  induction k with
  | zero => have : j = 0 := by omega
            subst this; exact Nat.le_refl _
  | succ k ih =>
    rcases Nat.lt_or_ge j (k + 1) with h1 | h1
    · have := ih (by omega)
      show pre f j ≤ pre f k + f k
      omega
    · have : j = k + 1 := by omega
      subst this; exact Nat.le_refl _
theorem pre_le8 (f : Nat → Nat) (R : Nat) (h : ∀ k, k < R → f k ≤ 8) : ∀ j, j ≤ R → pre f j ≤ 8 * j
  | 0, _ => Nat.le_refl _
  | j + 1, hj => by
    have := pre_le8 f R h j (by omega)
    have := h j (by omega)
    show pre f j + f j ≤ _
    omega
def LawOK (L : LawT) : Prop := lR L ≤ 6 ∧ (∀ k, k < lR L → 1 ≤ lS L k ∧ lS L k ≤ 8) ∧ lW L = pre (lS L) (lR L)
theorem LawOK.W {L : LawT} (h : LawOK L) : lW L ≤ 48 := by
  have := pre_le8 (lS L) (lR L) (fun k hk => (h.2.1 k hk).2) (lR L) (Nat.le_refl _)
  have := h.1
  rw [h.2.2]; omega
/-- the round of question k -/
def rdF (f : Nat → Nat) : Nat → Nat → Nat → Nat
  | 0, _, _ => 0
  | n + 1, r, k => if k < pre f (r + 1) then r else rdF f n (r + 1) k
def rd (L : LawT) (k : Nat) : Nat := rdF (lS L) (lR L) 0 k
theorem rdF_is (f : Nat → Nat) : ∀ (n r k : Nat), pre f r ≤ k → k < pre f (r + n) → r ≤ rdF f n r k ∧ rdF f n r k < r + n ∧ pre f (rdF f n r k) ≤ k ∧ k < pre f (rdF f n r k + 1)
  | 0, r, k, h1, h2 => absurd h2 (by rw [Nat.add_zero]; omega)
  | n + 1, r, k, h1, h2 => by
    show r ≤ (if k < pre f (r + 1) then r else rdF f n (r + 1) k) ∧ (if k < pre f (r + 1) then r else rdF f n (r + 1) k) < r + (n + 1) ∧ pre f (if k < pre f (r + 1) then r else rdF f n (r + 1) k) ≤ k ∧ k < pre f ((if k < pre f (r + 1) then r else rdF f n (r + 1) k) + 1)
    by_cases hc : k < pre f (r + 1)
    · simp only [if_pos hc]; exact ⟨Nat.le_refl _, by omega, h1, hc⟩
    · simp only [if_neg hc]
      have := rdF_is f n (r + 1) k (by omega) (by rw [show r + 1 + n = r + (n + 1) by omega]; exact h2)
      exact ⟨by omega, by omega, this.2.2⟩
theorem rd_is {L : LawT} (h : LawOK L) {k : Nat} (hk : k < lW L) : rd L k < lR L ∧ pre (lS L) (rd L k) ≤ k ∧ k < pre (lS L) (rd L k + 1) := by
  have := rdF_is (lS L) (lR L) 0 k (Nat.zero_le _) (by rw [Nat.zero_add, ← h.2.2]; exact hk)
  rw [Nat.zero_add] at this
  exact this.2
theorem rd_uniq {L : LawT} {k r : Nat} (h : LawOK L) (hk : k < lW L) (h1 : pre (lS L) r ≤ k) (h2 : k < pre (lS L) (r + 1)) : r = rd L k := by
  have hr := rd_is h hk
  rcases Nat.lt_trichotomy r (rd L k) with h3 | h3 | h3
  · have := pre_mono (lS L) (r + 1) (rd L k) h3; omega
  · exact h3
  · have := pre_mono (lS L) (rd L k + 1) r h3; omega
theorem rd_6 {L : LawT} (h : LawOK L) {k : Nat} (hk : k < lW L) : rd L k < 6 := Nat.lt_of_lt_of_le (rd_is h hk).1 h.1
/-- the law in the class's object r (49 or 55) -/
def LC (g : Gh) (M : Mem) (r : Nat) (L : LawT) : Prop := (r = 49 ∨ r = 55) ∧ LawOK L ∧ mI M (gB g + (r)) 0 = nI (lR L) ∧ mI M (gB g + (r)) 1 = nI (lW L) ∧ ∀ k, k < lR L → mI M (gB g + (r + 1)) k = nI (lS L k) ∧ mI M (gB g + (r + 2)) k = bI (lB L k) ∧ mI M (gB g + (r + 3)) k = lg L k ∧ mI M (gB g + (r + 4)) k = lP L k ∧ mI M (gB g + (r + 5)) k = lw L k
/-- the law in the reference -/
def LM (g : Gh) (M : Mem) (L : LawT) : Prop := LawOK L ∧ mI M (gB g + 195) 39 = nI (lR L) ∧ mI M (gB g + 195) 40 = nI (lW L) ∧ ∀ k, k < lR L → mI M (gB g + 210) k = nI (lS L k) ∧ mI M (gB g + 214) k = bI (lB L k) ∧ mI M (gB g + 211) k = lg L k ∧ mI M (gB g + 212) k = lP L k ∧ mI M (gB g + 213) k = lw L k
theorem lk_law {g : Gh} {M : Mem} (h : Lay g M) {r : Nat} (hr : r = 49 ∨ r = 55) : okc (gB g) M (gB g + (r)) 4 ∧ mR M (gB g + (r)) 2 = some (gB g + (r + 1)) ∧ mR M (gB g + (r)) 3 = some (gB g + (r + 2)) ∧ mR M (gB g + (r)) 4 = some (gB g + (r + 3)) ∧ mR M (gB g + (r)) 5 = some (gB g + (r + 4)) ∧ mR M (gB g + (r)) 6 = some (gB g + (r + 5)) := by
  rcases hr with rfl | rfl
  · exact ⟨lk_49 h, lr_49_2 h, lr_49_3 h, lr_49_4 h, lr_49_5 h, lr_49_6 h⟩
  · exact ⟨lk_55 h, lr_55_2 h, lr_55_3 h, lr_55_4 h, lr_55_5 h, lr_55_6 h⟩
theorem ln_law {g : Gh} {M : Mem} (h : Lay g M) {r : Nat} (hr : r = 49 ∨ r = 55) : (okc (gB g) M (gB g + (r + 1)) 14 ∧ mN M (gB g + (r + 1)) = 6) ∧ (okc (gB g) M (gB g + (r + 2)) 17 ∧ mN M (gB g + (r + 2)) = 6) ∧ (okc (gB g) M (gB g + (r + 3)) 14 ∧ mN M (gB g + (r + 3)) = 6) ∧ (okc (gB g) M (gB g + (r + 4)) 14 ∧ mN M (gB g + (r + 4)) = 6) ∧ (okc (gB g) M (gB g + (r + 5)) 14 ∧ mN M (gB g + (r + 5)) = 6) := by
  rcases hr with rfl | rfl
  · exact ⟨⟨lk_50 h, ln_50 h⟩, ⟨lk_51 h, ln_51 h⟩, ⟨lk_52 h, ln_52 h⟩, ⟨lk_53 h, ln_53 h⟩, ⟨lk_54 h, ln_54 h⟩⟩
  · exact ⟨⟨lk_56 h, ln_56 h⟩, ⟨lk_57 h, ln_57 h⟩, ⟨lk_58 h, ln_58 h⟩, ⟨lk_59 h, ln_59 h⟩, ⟨lk_60 h, ln_60 h⟩⟩
theorem sp_X4_roundOf {g : Gh} {M : Mem} {r : Nat} {L : LawT} (hl : Lay g M) (h : LC g M r L) {k : Nat} (hk : k < lW L) {post : Int32 → Mem → Prop} (hq : post (nI (rd L k)) M) : wp_X4_roundOf g M (gB g + (r)) (nI k) post := by
  have hW := h.2.1.W
  have hO := h.2.1
  have hb := lk_law hl h.1
  have hn := ln_law hl h.1
  refine ⟨hb.1, ?_⟩
  refine lfp_ms (fun s => ∃ j, j ≤ rd L k ∧ s = (nI (pre (lS L) j), nI j, M)) (fun s => 6 - s.2.1.toNatClampNeg) ?_ _ ⟨0, by omega, rfl⟩
  rintro bk s ⟨j, hj, rfl⟩ hbk
  have hr := rd_is hO hk
  have hR := hO.1
  show bd_X4_roundOf_4 g M (gB g + (r)) (nI k) _ bk _ _ _
  unfold bd_X4_roundOf_4
  rw [h.2.2.1]
  refine pk_le (lR L) j (fun hc => by omega) (fun hc => pk_le 6 j (fun hc2 => by omega) (fun hc2 => ⟨_, hb.2.1, hn.1.1, ?_, ?_⟩))
  · rw [hn.1.2]; exact pk_in j 6 (by omega)
  · rw [pk_cl j, (h.2.2.2.2 j hc).1, nI_add]
    have e : pre (lS L) j + lS L j = pre (lS L) (j + 1) := rfl
    have h8 := pre_le8 (lS L) (lR L) (fun k hk => (hO.2.1 k hk).2) (j + 1) (by omega)
    rw [e]
    refine pk_le (pre (lS L) (j + 1)) k (fun hc3 => ?_) (fun hc3 => ?_)
    · rw [nI_1]
      refine hbk _ ⟨j + 1, ?_, rfl⟩ ?_
      · rcases Nat.lt_or_ge j (rd L k) with hx | hx
        · exact hx
        · have : j = rd L k := by omega
          subst this; omega
      · show 6 - (nI (j + 1)).toNatClampNeg < 6 - (nI j).toNatClampNeg
        rw [nI_clamp (by omega), nI_clamp (by omega)]; omega
    · have : j = rd L k := by
        rcases Nat.lt_or_ge j (rd L k) with hx | hx
        · have := pre_mono (lS L) (j + 1) (rd L k) hx; omega
        · omega
      rw [this]; exact hq
theorem sp_X12_roundOf {g : Gh} {M : Mem} {L : LawT} (hl : Lay g M) (h : LM g M L) {k : Nat} (hk : k < lW L) {post : Int32 → Mem → Prop} (hq : post (nI (rd L k)) M) : wp_X12_roundOf g M (gB g + 195) (nI k) post := by
  have hW := h.1.W
  have hO := h.1
  refine ⟨lk_195 hl, ?_⟩
  refine lfp_ms (fun s => ∃ j, j ≤ rd L k ∧ s = (nI j, nI (k - pre (lS L) j), M)) (fun s => 6 - s.1.toNatClampNeg) ?_ _ ⟨0, by omega, rfl⟩
  rintro bk s ⟨j, hj, rfl⟩ hbk
  have hr := rd_is hO hk
  have hR := hO.1
  have hpj := pre_mono (lS L) j (rd L k) hj
  show bd_X12_roundOf_4 g M (gB g + 195) (nI k) _ bk _ _ _
  unfold bd_X12_roundOf_4
  refine ⟨_, lr_195_29 hl, lk_210 hl, ?_, ?_⟩
  · rw [ln_210 hl]; exact pk_in j 6 (by omega)
  · rw [pk_cl j, (h.2.2.2 j (by omega)).1]
    have e : pre (lS L) (j + 1) = pre (lS L) j + lS L j := rfl
    have h8 := (hO.2.1 j (by omega)).2
    refine pk_lt (k - pre (lS L) j) (lS L j) (fun hc3 => ?_) (fun hc3 => ?_)
    · have : j = rd L k := by
        rcases Nat.lt_or_ge j (rd L k) with hx | hx
        · have := pre_mono (lS L) (j + 1) (rd L k) hx; omega
        · omega
      rw [this]; exact hq
    · rw [nI_1, pk_sub hc3]
      refine hbk _ ⟨j + 1, ?_, ?_⟩ ?_
      · rcases Nat.lt_or_ge j (rd L k) with hx | hx
        · exact hx
        · have : j = rd L k := by omega
          subst this; omega
      · rw [e, Nat.sub_sub]
      · show 6 - (nI (j + 1)).toNatClampNeg < 6 - (nI j).toNatClampNeg
        rw [nI_clamp (by omega), nI_clamp (by omega)]; omega
