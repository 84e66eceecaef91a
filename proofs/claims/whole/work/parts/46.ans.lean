/-! PURE: an answer is read -/
abbrev AnT : Type := (Nat → Bool) × (Nat → Nat)
/-- tokens from p on, k of them there: whether it is an answer, how many, words, values -/
def anF (bs : Nat → Nat) (n : Nat) : Nat → Nat → Nat → AnT → Bool × Nat × AnT
  | 0, _, k, a => (false, k, a)
  | f + 1, p, k, a => if (tk sgA bs n p).1 = 0 then (decide (0 < k), k, a) else if ((tk sgA bs n p).1 = 1 ∨ (tk sgA bs n p).1 = 2) ∧ k < 20 then anF bs n f (tk sgA bs n p).2.2.2 (k + 1) (upN a.1 k (decide ((tk sgA bs n p).1 = 1)), upN a.2 k (tk sgA bs n p).2.2.1) else (false, k, a)
def a0A : AnT := (fun _ => false, fun _ => 0)
def okN (k : Nat) (a : AnT) : Prop := ∀ j, j < k → a.2 j < 2 ^ 60 ∧ (a.1 j = true → 0 < a.2 j)
theorem tk_val {sg : Nat → Bool} {bs : Nat → Nat} {n : Nat} {T : Tk} (hs : sg = sgF ∨ sg = sgW ∨ sg = sgA) (h : IsTk sg bs n T) (h12 : T.1 = 1 ∨ T.1 = 2) : T.2.2.1 < 2 ^ 60 ∧ (T.1 = 1 → 0 < T.2.2.1) := by
  rcases h12 with h1 | h2
  · obtain ⟨w1, w2, w3, w4, w5, w6⟩ := tk_word hs h h1
    refine ⟨Nat.lt_trans w6 (by decide), fun _ => ?_⟩
    rw [w4, show T.2.2.2 - T.2.1 = (T.2.2.2 - T.2.1 - 1) + 1 by omega]
    have hL := w3 (T.2.2.2 - T.2.1 - 1) (by omega)
    have e : wL bs T.2.1 ((T.2.2.2 - T.2.1 - 1) + 1) = wL bs T.2.1 (T.2.2.2 - T.2.1 - 1) * 27 + (bs (T.2.1 + (T.2.2.2 - T.2.1 - 1)) - 96) := if_pos hL
    rw [isL_iff] at hL
    omega
  · exact ⟨Nat.lt_trans (tk_num hs h h2) (by decide), fun hx => by omega⟩
theorem anF_ok {bs : Nat → Nat} {n : Nat} : ∀ (f p k : Nat) (a : AnT), p ≤ n → okN k a → k ≤ 20 → okN (anF bs n f p k a).2.1 (anF bs n f p k a).2.2 ∧ (anF bs n f p k a).2.1 ≤ 20 ∧ (200 < n → (anF bs n f p k a).1 = false)
  | 0, p, k, a, hp, h, hk => ⟨h, hk, fun _ => rfl⟩
  | f + 1, p, k, a, hp, h, hk => by
    unfold anF
    split
    · next h0 =>
      refine ⟨h, hk, fun hn => ?_⟩
      exfalso
      revert h0
      have hs := skip_le bs hp
      unfold tk
      generalize skip bs n p = q at hs
      unfold tkAt
      split
      · rw [if_neg (by omega)]; intro hx; exact absurd (show (3 : Nat) = 0 from hx) (by decide)
      · split
        · intro hx; have := (tkRun_c (bs := bs) (q := q) (e := rend bs n q)).2.2.1; omega
        · intro hx; have := tkSign_n12 (sg := sgA) (bs := bs) (n := n) (q := q) (Or.inr (Or.inr rfl)); omega
    · split
      · next h0 h1 =>
        have hv := tk_val (Or.inr (Or.inr rfl)) ⟨p, hp, rfl⟩ h1.1
        refine anF_ok f _ _ _ (tk_le hp).1 (fun j hj => ?_) (by omega)
        by_cases hjk : j = k
        · subst hjk
          show upN a.2 j _ j < _ ∧ (upN a.1 j _ j = true → 0 < upN a.2 j _ j)
          rw [upN_s, upN_s]
          exact ⟨hv.1, fun hx => hv.2 (of_decide_eq_true hx)⟩
        · show upN a.2 k _ j < _ ∧ (upN a.1 k _ j = true → 0 < upN a.2 k _ j)
          rw [upN_n _ _ hjk, upN_n _ _ hjk]; exact h j (by omega)
      · exact ⟨h, hk, fun _ => rfl⟩
/-- the class's tokens of an answer -/
def AC (g : Gh) (M : Mem) (k : Nat) (a : AnT) : Prop := mI M (gB g + 9) 1 = nI k ∧ ∀ j, j < k → mJ M (gB g + 10) j = (if a.1 j = true then -(lN (a.2 j)) else lN (a.2 j))
def AM (g : Gh) (M : Mem) (k : Nat) (a : AnT) : Prop := mI M (gB g + 195) 26 = nI k ∧ ∀ j, j < k → mI M (gB g + 207) j = bI (a.1 j) ∧ mJ M (gB g + 208) j = lN (a.2 j)
def PAc (g : Gh) : Nat → Nat → Prop := fun a k => (a = (gB g + 1) ∧ 2 ≤ k ∧ k ≤ 5) ∨ (a = (gB g + 9) ∧ k = 1)
def QAc (g : Gh) : Nat → Nat → Prop := fun a k => (a = (gB g + 1) ∧ k = 4) ∨ a = (gB g + 10)
theorem sp_ansC {g : Gh} {M : Mem} {n : Nat} {bs : Nat → Nat} (h1 : Lay g M) (hT : TP g M (gB g + 1) (gB g + 2) n bs) {post : Int32 → Mem → Prop} (hq : ∀ M', Fr (PAc g) (QAc g) M M' → ((anF bs n 21 0 0 a0A).1 = true → AC g M' (anF bs n 21 0 0 a0A).2.1 (anF bs n 21 0 0 a0A).2.2) → post (bI (anF bs n 21 0 0 a0A).1) M') : wp_X7_readFrom g M (gB g + 9) (gB g + 1) post := by
  have hb := hT.2.2.2.2.2.2.2
  refine ⟨lk_9 h1, ?_⟩
  rintro M20 rfl
  refine ⟨lk_1 h1, ?_⟩
  rintro M2 rfl M3 rfl M5 rfl M7 rfl
  have f1 : Fr (PAc g) (QAc g) M (uI (uJ (uI (uI (uI M (gB g + 9) 1 0) (gB g + 1) 2 3) (gB g + 1) 3 0) (gB g + 1) 4 0) (gB g + 1) 5 0) := ((((Fr.rf.uI (by unfold PAc; omega)).uI (by unfold PAc; omega)).uI (by unfold PAc; omega)).uJ (by unfold QAc; omega)).uI (by unfold PAc; omega)
  have z5 : mI (uI (uJ (uI (uI (uI M (gB g + 9) 1 0) (gB g + 1) 2 3) (gB g + 1) 3 0) (gB g + 1) 4 0) (gB g + 1) 5 0) (gB g + 1) 5 = nI 0 := by rw [s_II, if_pos rfl, if_pos rfl]; rfl
  have z9 : mI (uI (uJ (uI (uI (uI M (gB g + 9) 1 0) (gB g + 1) 2 3) (gB g + 1) 3 0) (gB g + 1) 4 0) (gB g + 1) 5 0) (gB g + 9) 1 = nI 0 := by simp [s_II, s_IJ, nI_0]
  generalize uI (uJ (uI (uI (uI M (gB g + 9) 1 0) (gB g + 1) 2 3) (gB g + 1) 3 0) (gB g + 1) 4 0) (gB g + 1) 5 0 = M1 at f1 z5 z9 ⊢
  have hT1 : TP g M1 (gB g + 1) (gB g + 2) n bs := hT.fr f1 (fun a k hh => by unfold PAc at hh; omega)
  generalize hR : anF bs n 21 0 0 a0A = R at hq
  refine lfp_ms (fun s => ∃ (k p : Nat) (a : AnT) (M' : Mem), s = (nI k, M') ∧ k ≤ 20 ∧ p ≤ n ∧ Fr (PAc g) (QAc g) M M' ∧ TP g M' (gB g + 1) (gB g + 2) n bs ∧ mI M' (gB g + 1) 5 = nI p ∧ AC g M' k a ∧ anF bs n (21 - k) p k a = R) (fun s => 21 - s.1.toNatClampNeg) ?_ _ ⟨0, 0, a0A, M1, rfl, by omega, by omega, f1, hT1, z5, ⟨z9, fun j hj => by omega⟩, hR⟩
  rintro bk s ⟨k, p, a, M', rfl, hk, hp, f, t, h5, hc, hrun⟩ hbk
  rw [show 21 - k = (20 - k) + 1 by omega] at hrun
  unfold anF at hrun
  show bd_X7_readFrom_11 g M (gB g + 9) (gB g + 1) post bk (nI k) M'
  unfold bd_X7_readFrom_11
  refine pk_lt 20 k (fun hx => by omega) (fun _ => sp_nextC t (i := 1) (sg := sgA) (Or.inr (Or.inl ⟨rfl, rfl⟩)) h5 hp (fun M2 f2 t2 c2 => ⟨lk_1 h1, ?_⟩))
  have hIs : IsTk sgA bs n (tk sgA bs n p) := ⟨p, hp, rfl⟩
  have ht := tc_lt hb hIs
  have g2 : Fr (PAc g) (QAc g) M M2 := f.tr (f2.mono (fun a k hh => by unfold PTc at hh; unfold PAc; omega) (fun a k hh => by unfold QTc at hh; unfold QAc; omega))
  have ac2 : AC g M2 k a := by
    refine ⟨by rw [f2.1 _ _ (by unfold PTc; omega)]; exact hc.1, fun j hj => by rw [f2.2.1 _ _ (by unfold QTc; omega)]; exact hc.2 j hj⟩
  rw [c2.1]
  have no : R = (false, k, a) → post 0 M2 := by
    intro e
    have := hq M2 g2 (fun hx => by rw [e] at hx; cases hx)
    rw [e] at this; exact this
  have k64 : ((tk sgA bs n p).1 = 1 ∨ (tk sgA bs n p).1 = 2) → (tk sgA bs n p).1 ≠ 0 → lb_X7_readFrom_64 g M (gB g + 9) (gB g + 1) post bk (nI k) 1 M2 := by
    intro h12 h0
    rw [if_neg h0] at hrun
    refine ⟨fun hx => absurd hx (by decide), fun _ => ?_⟩
    rw [ac2.1]
    refine pk_lt k 20 (fun h20 => ⟨_, lr_9_0 (g2.lay h1), lk_1 h1, lk_10 h1, by rw [ln_10 h1]; exact pk_in k 20 h20, ?_⟩) (fun h20 => ?_)
    · rintro M8 rfl M10 rfl
      rw [if_pos ⟨h12, h20⟩] at hrun
      rw [nI_cl k (by omega), show mI (uJ M2 (gB g + 10) k (mJ M2 (gB g + 1) 4)) (gB g + 9) 1 = nI k from ac2.1, nI_1, c2.2.2.1]
      refine hbk _ ⟨k + 1, (tk sgA bs n p).2.2.2, _, _, rfl, by omega, (tk_le hp).1, (g2.uJ (by unfold QAc; omega)).uI (by unfold PAc; omega), t2.fr (P := fun a k => a = (gB g + 9) ∧ k = 1) (Q := fun a k => a = (gB g + 10)) ((Fr.rf.uJ (by rfl)).uI (by exact ⟨rfl, rfl⟩)) (fun a k hh => by omega), ?_, ⟨?_, fun j hj => ?_⟩, by rw [show 21 - (k + 1) = 20 - k by omega]; exact hrun⟩ ?_
      · rw [s_II, if_neg (by omega)]; exact c2.2.2.2
      · rw [s_II, if_pos rfl, if_pos rfl]
      · rw [s_JI, s_JJ, if_pos rfl]
        show _ = if upN a.1 k _ j = true then -(lN (upN a.2 k _ j)) else lN (upN a.2 k _ j)
        by_cases hjk : j = k
        · subst hjk
          rw [if_pos rfl, upN_s, upN_s]
          unfold vX
          by_cases h11 : (tk sgA bs n p).1 = 1
          · rw [if_pos h11, if_pos (decide_eq_true h11)]
          · rw [if_neg h11, if_neg (by simp [h11])]
        · rw [if_neg hjk, upN_n _ _ hjk, upN_n _ _ hjk]; exact ac2.2 j (by omega)
      · show 21 - (nI (k + 1)).toNatClampNeg < 21 - (nI k).toNatClampNeg
        rw [nI_cl _ (by omega), nI_cl _ (by omega)]; omega
    · rw [if_neg (by omega)] at hrun
      exact no hrun.symm
  refine pk_eq (tk sgA bs n p).1 0 (fun h0 => ?_) (fun h0 => pk_eq (tk sgA bs n p).1 1 (fun h1' => k64 (Or.inl h1') h0) (fun h1' => pk_eq (tk sgA bs n p).1 2 (fun h2' => k64 (Or.inr h2') h0) (fun h2' => ⟨fun _ => ?_, fun hx => absurd rfl hx⟩)))
  · rw [if_pos h0] at hrun
    unfold lb_X7_readFrom_30
    rw [ac2.1]
    refine pk_le k 0 (fun hx => ?_) (fun hx => ?_)
    · exact no (by rw [← hrun]; simp [show ¬ 0 < k by omega])
    · have e : R = (true, k, a) := by rw [← hrun]; simp [show 0 < k by omega]
      have := hq M2 g2 (fun _ => by rw [e]; exact ac2)
      rw [e] at this; exact this
  · rw [if_neg h0, if_neg (by omega)] at hrun
    exact no hrun.symm
def PAm (g : Gh) : Nat → Nat → Prop := fun a k => (a = (gB g + 195) ∧ ((2 ≤ k ∧ k ≤ 7) ∨ k = 26)) ∨ a = (gB g + 207)
def QAm (g : Gh) : Nat → Nat → Prop := fun a k => (a = (gB g + 195) ∧ k = 8) ∨ a = (gB g + 208)
theorem sp_ansM {g : Gh} {M : Mem} {n : Nat} {bs : Nat → Nat} (h1 : Lay g M) (h2 : mI M (gB g + 195) 2 = nI n) (hn : n ≤ 260) (h196 : ∀ i, i < 260 → mI M (gB g + 196) i = nI (bs i)) (hb : ∀ i, bs i < 256) {post : Int32 → Mem → Prop} (hq : ∀ M', Fr (PAm g) (QAm g) M M' → mI M' (gB g + 195) 2 = 0 → ((anF bs n 21 0 0 a0A).1 = true → AM g M' (anF bs n 21 0 0 a0A).2.1 (anF bs n 21 0 0 a0A).2.2) → post (bI (anF bs n 21 0 0 a0A).1) M') : wp_X12_readAnswer g M (gB g + 195) post := by
  refine ⟨lk_195 h1, ?_⟩
  rintro M52 rfl M54 rfl M56 rfl M58 rfl
  rw [h2]
  have f1 : Fr (PAm g) (QAm g) M (uI (uI (uI (uI M (gB g + 195) 3 (nI n)) (gB g + 195) 2 0) (gB g + 195) 4 0) (gB g + 195) 26 0) := (((Fr.rf.uI (by unfold PAm; omega)).uI (by unfold PAm; omega)).uI (by unfold PAm; omega)).uI (by unfold PAm; omega)
  have z : mI (uI (uI (uI (uI M (gB g + 195) 3 (nI n)) (gB g + 195) 2 0) (gB g + 195) 4 0) (gB g + 195) 26 0) (gB g + 195) 3 = nI n ∧ mI (uI (uI (uI (uI M (gB g + 195) 3 (nI n)) (gB g + 195) 2 0) (gB g + 195) 4 0) (gB g + 195) 26 0) (gB g + 195) 4 = nI 0 ∧ mI (uI (uI (uI (uI M (gB g + 195) 3 (nI n)) (gB g + 195) 2 0) (gB g + 195) 4 0) (gB g + 195) 26 0) (gB g + 195) 26 = nI 0 ∧ mI (uI (uI (uI (uI M (gB g + 195) 3 (nI n)) (gB g + 195) 2 0) (gB g + 195) 4 0) (gB g + 195) 26 0) (gB g + 195) 2 = 0 := by
    refine ⟨?_, ?_, ?_, ?_⟩ <;> simp [s_II, nI_0]
  generalize uI (uI (uI (uI M (gB g + 195) 3 (nI n)) (gB g + 195) 2 0) (gB g + 195) 4 0) (gB g + 195) 26 0 = M1 at f1 z ⊢
  have l1 := f1.lay h1
  have tm1 : TM g M1 (gB g + 195) (gB g + 196) n bs := ⟨lk_195 l1, lr_195_1 l1, lk_196 l1, ln_196 l1, z.1, hn, fun i hi => by rw [f1.1 _ _ (by unfold PAm; omega)]; exact h196 i hi, hb⟩
  have hok := anF_ok (bs := bs) (n := n) 21 0 0 a0A (Nat.zero_le _) (fun j hj => by omega) (by omega)
  rw [z.1]
  generalize hR : anF bs n 21 0 0 a0A = R at hq hok
  refine pk_le n 200 (fun h200 => ?_) (fun h200 => ?_)
  · refine lfp_ms (fun s => ∃ (k p : Nat) (a : AnT), k ≤ 20 ∧ p ≤ n ∧ Fr (PAm g) (QAm g) M s ∧ mI s (gB g + 195) 2 = 0 ∧ TM g s (gB g + 195) (gB g + 196) n bs ∧ mI s (gB g + 195) 4 = nI p ∧ AM g s k a ∧ anF bs n (21 - k) p k a = R) (fun s => n - (mI s (gB g + 195) 4).toNatClampNeg) ?_ M1 ⟨0, 0, a0A, by omega, by omega, f1, z.2.2.2, tm1, z.2.1, ⟨z.2.2.1, fun j hj => by omega⟩, hR⟩
    rintro bk M' ⟨k, p, a, hk, hp, f, n2, t, h4, hc, hrun⟩ hbk
    have l' := f.lay h1
    show bd_X12_readAnswer_35 g M (gB g + 195) post bk M'
    have no : ∀ M2, Fr (PAm g) (QAm g) M M2 → mI M2 (gB g + 195) 2 = 0 → R.1 = false → post 0 M2 := by
      intro M2 g2 m2 e
      have := hq M2 g2 m2 (fun hx => by rw [e] at hx; cases hx)
      rw [e] at this; exact this
    have hrun' := hrun
    rw [show 21 - k = (20 - k) + 1 by omega] at hrun
    unfold anF at hrun
    have k73 : ¬ (p < n ∧ bs p = 32) → lb_X12_readAnswer_73 g M (gB g + 195) post bk M' := by
      intro hnb
      have hsk : skip bs n p = p := skip_stop hnb
      have etk : tk sgA bs n p = tkAt sgA bs n p := by unfold tk; rw [hsk]
      unfold lb_X12_readAnswer_73
      rw [h4, t.2.2.2.2.1]
      refine pk_lt p n (fun hpn => ?_) (fun hpn => ?_)
      · rintro M27 rfl
        have hat : tkAt sgA bs n p = if isA (bs p) = true then tkRun bs p (rend bs n p) else tkSign sgA bs n p := if_neg (by omega)
        have f3 : Fr (PAm g) (QAm g) M (uI M' (gB g + 195) 5 (nI p)) := f.uI (by unfold PAm; omega)
        have e26 : mI (uI M' (gB g + 195) 5 (nI p)) (gB g + 195) 26 = nI k := by rw [s_II, if_pos rfl, if_neg (by decide)]; exact hc.1
        have e4 : mI (uI M' (gB g + 195) 5 (nI p)) (gB g + 195) 4 = nI p := by rw [s_II, if_pos rfl, if_neg (by decide)]; exact h4
        have e5 : mI (uI M' (gB g + 195) 5 (nI p)) (gB g + 195) 5 = nI p := by rw [s_II, if_pos rfl, if_pos rfl]
        have e2 : mI (uI M' (gB g + 195) 5 (nI p)) (gB g + 195) 2 = 0 := by rw [s_II, if_pos rfl, if_neg (by decide)]; exact n2
        have t3 : TM g (uI M' (gB g + 195) 5 (nI p)) (gB g + 195) (gB g + 196) n bs := t.uI 5 _ (by decide)
        have a3 : AM g (uI M' (gB g + 195) 5 (nI p)) k a := ⟨e26, fun j hj => ⟨by rw [s_II, if_neg (by omega)]; exact (hc.2 j hj).1, (hc.2 j hj).2⟩⟩
        generalize uI M' (gB g + 195) 5 (nI p) = M3 at f3 e26 e4 e5 e2 t3 a3 ⊢
        have l3 := f3.lay h1
        rw [e26]
        have hIs : IsTk sgA bs n (tk sgA bs n p) := ⟨p, hp, rfl⟩
        have hne0 : (tk sgA bs n p).1 ≠ 0 := by
          rw [etk, hat]; split
          · have := (tkRun_c (bs := bs) (q := p) (e := rend bs n p)).2.2.1; omega
          · have := tkSign_n12 (sg := sgA) (bs := bs) (n := n) (q := p) (Or.inr (Or.inr rfl)); omega
        rw [if_neg hne0] at hrun
        refine pk_eq k 20 (fun h20 => no _ f3 e2 ?_) (fun h20 => ⟨(gB g + 196), t3.2.1, lk_196 h1, ?_, ?_⟩)
        · rw [if_neg (by omega)] at hrun; rw [← hrun]
        · rw [e4, ln_196 h1]; exact pk_in p 260 (by omega)
        rw [e4, nI_cl p (by omega), t3.2.2.2.2.2.2.1 p (by omega)]
        have hb8 := hb p
        have k146 : isA (bs p) = true → lb_X12_readAnswer_146 g M (gB g + 195) post bk M3 := by
          intro ha
          rw [if_pos ha] at hat
          rw [← etk] at hat
          refine sp_X12_readWord t3 e4 e5 hpn ha (fun v hv => ?_)
          rw [← hat] at hv ⊢
          have ec := tkRun_c (bs := bs) (q := p) (e := rend bs n p)
          rw [← hat] at ec
          have fg := gset_fr (g := g) (M := M3) (to := nI (rend bs n p)) (fr := nI p) (kd := nI (km (tk sgA bs n p).1)) (sg := mI M3 (gB g + 195) 7) (v := v)
          have gv := gset_v (M := M3) (m := (gB g + 195)) (to := nI (rend bs n p)) (fr := nI p) (kd := nI (km (tk sgA bs n p).1)) (sg := mI M3 (gB g + 195) 7) (v := v)
          have t4 : TM g (gset M3 (gB g + 195) (nI (rend bs n p)) (nI p) (nI (km (tk sgA bs n p).1)) (mI M3 (gB g + 195) 7) v) (gB g + 195) (gB g + 196) n bs := t3.fr fg (fun a k hh => by omega)
          generalize gset M3 (gB g + 195) (nI (rend bs n p)) (nI p) (nI (km (tk sgA bs n p).1)) (mI M3 (gB g + 195) 7) v = M4 at fg gv t4 ⊢
          have f4 : Fr (PAm g) (QAm g) M M4 := f3.tr (fg.mono (fun a k hh => by unfold PAm; omega) (fun a k hh => by unfold QAm; omega))
          have a4 : AM g M4 k a := ⟨by rw [fg.1 _ _ (by omega)]; exact a3.1, fun j hj => ⟨by rw [fg.1 _ _ (by omega)]; exact (a3.2 j hj).1, by rw [fg.2.1 _ _ (by omega)]; exact (a3.2 j hj).2⟩⟩
          have m42 : mI M4 (gB g + 195) 2 = 0 := by rw [fg.1 _ _ (by omega)]; exact e2
          have k5 := (km_eq (c := (tk sgA bs n p).1)).2.2.2.2.2
          have hre := rend_le bs (n := n) (p := p) (by omega)
          have hlt := rend_lt (i := p) hre.1 hpn ha
          rw [gv.2.2.1, gv.1, t4.2.2.2.2.1]
          refine pk_eq (km (tk sgA bs n p).1) 1 (fun h3 => no _ f4 m42 ?_) (fun h3 => ?_)
          · have := km_eq.2.2.2.1.mp h3
            rw [if_neg (by omega)] at hrun; rw [← hrun]
          have h12 : (tk sgA bs n p).1 = 1 ∨ (tk sgA bs n p).1 = 2 := by
            have : (tk sgA bs n p).1 ≠ 3 := fun hx => h3 (km_eq.2.2.2.1.mpr hx)
            omega
          have h20' : k < 20 := by omega
          rw [if_pos ⟨h12, h20'⟩, ec.2.1] at hrun
          have vv : v = lN (tk sgA bs n p).2.2.1 := hv (by omega)
          have k185 : lb_X12_readAnswer_185 g M (gB g + 195) post bk M4 := by
            have l4 := f4.lay h1
            have k206 : ∀ s2, s2 = bI (decide ((tk sgA bs n p).1 = 1)) → lb_X12_readAnswer_206 g M (gB g + 195) post bk (gB g + 207) (mI M4 (gB g + 195) 26) s2 M4 := by
              rintro s2 rfl
              rw [a4.1]
              refine ⟨lk_207 h1, by rw [ln_207 h1]; exact pk_in k 20 h20', ?_⟩
              rintro M5 rfl
              rw [nI_cl k (by omega), nb_b]
              have e265 : mI (uI M4 (gB g + 207) k (bI (decide ((tk sgA bs n p).1 = 1)))) (gB g + 195) 26 = nI k := by rw [s_II, if_neg (by omega)]; exact a4.1
              refine ⟨_, lr_195_25 l4, lk_208 h1, by rw [ln_208 h1, e265]; exact pk_in k 20 h20', ?_⟩
              rintro M9 rfl M11 rfl
              rw [e265, nI_cl k (by omega), show mJ (uI M4 (gB g + 207) k (bI (decide ((tk sgA bs n p).1 = 1)))) (gB g + 195) 8 = lN (tk sgA bs n p).2.2.1 by rw [s_JI, gv.2.2.2.2, vv]]
              rw [show mI (uJ (uI M4 (gB g + 207) k (bI (decide ((tk sgA bs n p).1 = 1)))) (gB g + 208) k (lN (tk sgA bs n p).2.2.1)) (gB g + 195) 26 = nI k from e265, nI_1]
              have fz : Fr (fun a j => a = (gB g + 207) ∨ (a = (gB g + 195) ∧ j = 26)) (fun a _ => a = (gB g + 208)) M4 (uI (uJ (uI M4 (gB g + 207) k (bI (decide ((tk sgA bs n p).1 = 1)))) (gB g + 208) k (lN (tk sgA bs n p).2.2.1)) (gB g + 195) 26 (nI (k + 1))) := ((Fr.rf.uI (by omega)).uJ (by rfl)).uI (by omega)
              refine hbk _ ⟨k + 1, rend bs n p, _, by omega, hre.2, f4.tr (fz.mono (fun a j hh => by unfold PAm; omega) (fun a j hh => Or.inr hh)), by rw [fz.1 _ _ (by omega)]; exact m42, t4.fr fz (fun a j hh => by omega), by rw [fz.1 _ _ (by omega)]; exact gv.1, ⟨by rw [s_II, if_pos rfl, if_pos rfl], fun j hj => ?_⟩, by rw [show 21 - (k + 1) = 20 - k by omega]; exact hrun⟩ ?_
              · show _ = bI (upN a.1 k _ j) ∧ _ = lN (upN a.2 k _ j)
                rw [s_II, if_neg (by omega), s_IJ, s_II, if_pos rfl, s_JI, s_JJ, if_pos rfl]
                by_cases hjk : j = k
                · subst hjk; rw [if_pos rfl, if_pos rfl, upN_s, upN_s]; exact ⟨rfl, rfl⟩
                · rw [if_neg hjk, if_neg hjk, upN_n _ _ hjk, upN_n _ _ hjk]; exact a4.2 j (by omega)
              · show n - (mI (uI (uJ (uI M4 (gB g + 207) k (bI (decide ((tk sgA bs n p).1 = 1)))) (gB g + 208) k (lN (tk sgA bs n p).2.2.1)) (gB g + 195) 26 (nI (k + 1))) (gB g + 195) 4).toNatClampNeg < n - (mI M' (gB g + 195) 4).toNatClampNeg
                rw [fz.1 _ _ (by omega), gv.1, h4, nI_cl _ (by omega), nI_cl _ (by omega)]; omega
            refine ⟨_, lr_195_24 l4, ?_⟩
            rw [gv.2.2.1]
            refine pk_eq (km (tk sgA bs n p).1) 2 (fun h2' => k206 1 ?_) (fun h2' => k206 0 ?_)
            · rw [decide_eq_true (km_eq.1.mp h2')]; rfl
            · rw [decide_eq_false (fun hx => h2' (km_eq.1.mpr hx))]; rfl
          refine pk_le n (rend bs n p) (fun hx => k185) (fun hx => ⟨(gB g + 196), t4.2.1, lk_196 h1, by rw [ln_196 h1]; exact pk_in (rend bs n p) 260 (by omega), ?_⟩)
          have hb9 := hb (rend bs n p)
          rw [nI_cl (rend bs n p) (by omega), t4.2.2.2.2.2.2.1 _ (by omega)]
          refine pk_eq (bs (rend bs n p)) 32 (fun _ => k185) (fun h32 => no _ f4 m42 ?_)
          -- what follows is no token
          rw [← hrun]
          have e1 : tk sgA bs n (rend bs n p) = tkSign sgA bs n (rend bs n p) := by
            unfold tk
            rw [skip_stop (by omega)]
            unfold tkAt
            rw [if_neg (by omega), if_neg]
            intro hx
            exact rend_max bs n (n - p) p (by omega) ⟨by omega, hx⟩
          have e2' : (tkSign sgA bs n (rend bs n p)).1 = 3 := by
            unfold tkSign
            split
            · split
              · rfl
              · rfl
            · rfl
          rw [show 20 - k = (20 - (k + 1)) + 1 by omega]
          unfold anF
          rw [e1, if_neg (by omega), if_neg (by omega)]
        refine sp_X12_isLetter _ hb8 ?_
        by_cases hL : isL (bs p) = true
        · rw [if_pos hL]
          exact ⟨fun hx => absurd hx (by decide), fun _ => k146 (by simp [isA, hL])⟩
        · rw [if_neg hL]
          refine ⟨fun _ => ⟨(gB g + 196), t3.2.1, lk_196 h1, ?_, ?_⟩, fun hx => absurd rfl hx⟩
          · rw [e4, ln_196 h1]; exact pk_in p 260 (by omega)
          rw [e4, nI_cl p (by omega), t3.2.2.2.2.2.2.1 p (by omega)]
          refine sp_X12_isDigit _ hb8 ?_
          by_cases hD : isD (bs p) = true
          · rw [if_pos hD]
            exact ⟨fun hx => absurd hx (by decide), fun _ => k146 (by simp [isA, hD])⟩
          · rw [if_neg hD]
            refine ⟨fun _ => no _ f3 e2 ?_, fun hx => absurd rfl hx⟩
            rw [if_neg (by simp [isA, hL, hD])] at hat
            have e2' : (tkSign sgA bs n p).1 = 3 := by
              unfold tkSign
              split
              · split
                · rfl
                · rfl
              · rfl
            rw [if_neg (by rw [etk, hat]; omega)] at hrun
            rw [← hrun]
      · have e0 : (tk sgA bs n p).1 = 0 := by
          rw [etk]; unfold tkAt; rw [if_pos (Or.inl hpn), if_pos h200]
        rw [if_pos e0] at hrun
        unfold lb_X12_readAnswer_84
        rw [hc.1]
        refine pk_le k 0 (fun hx => no _ f n2 ?_) (fun hx => ?_)
        · rw [← hrun]; simp [show ¬ 0 < k by omega]
        · have e : R = (true, k, a) := by rw [← hrun]; simp [show 0 < k by omega]
          have := hq M' f n2 (fun _ => by rw [e]; exact hc)
          rw [e] at this; exact this
    unfold bd_X12_readAnswer_35
    rw [h4, t.2.2.2.2.1]
    refine pk_le n p (fun hx => k73 (by omega)) (fun hx => ⟨(gB g + 196), t.2.1, lk_196 h1, by rw [ln_196 h1]; exact pk_in p 260 (by omega), ?_⟩)
    have hb8 := hb p
    rw [nI_cl p (by omega), t.2.2.2.2.2.2.1 p (by omega)]
    refine pk_eq (bs p) 32 (fun h32 => ?_) (fun h32 => k73 (by omega))
    rintro M50 rfl
    rw [nI_1]
    have esk : tk sgA bs n (p + 1) = tk sgA bs n p := by unfold tk; rw [← skip_step hx h32]
    refine hbk _ ⟨k, p + 1, a, hk, by omega, f.uI (by unfold PAm; omega), ?_, t.uI 4 _ (by decide), ?_, ⟨?_, fun j hj => ⟨?_, (hc.2 j hj).2⟩⟩, ?_⟩ ?_
    · rw [s_II, if_pos rfl, if_neg (by decide)]; exact n2
    · rw [s_II, if_pos rfl, if_pos rfl]
    · rw [s_II, if_pos rfl, if_neg (by decide)]; exact hc.1
    · rw [s_II, if_neg (by omega)]; exact (hc.2 j hj).1
    · rw [show 21 - k = (20 - k) + 1 by omega]
      unfold anF
      rw [esk]; exact hrun
    · show n - (mI (uI M' (gB g + 195) 4 (nI (p + 1))) (gB g + 195) 4).toNatClampNeg < n - (mI M' (gB g + 195) 4).toNatClampNeg
      rw [h4, show mI (uI M' (gB g + 195) 4 (nI (p + 1))) (gB g + 195) 4 = nI (p + 1) by rw [s_II, if_pos rfl, if_pos rfl], nI_cl _ (by omega), nI_cl _ (by omega)]; omega
  · have e := hok.2.2 h200
    have := hq M1 f1 z.2.2.2 (fun hx => by rw [e] at hx; cases hx)
    rw [e] at this; exact this
