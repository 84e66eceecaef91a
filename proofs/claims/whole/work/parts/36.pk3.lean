/-! PURE: the class gathers the free ones -/
def freB (g : Gh) (M : Mem) (ta tb q : Nat) : Bool := decide (mI M (gB g + 206) q = 0) && (decide (¬ (((mI M (gB g + 205) q) >>> (nI ta &&& 31)) &&& 1) = 1) && decide (¬ (((mI M (gB g + 205) q) >>> (nI tb &&& 31)) &&& 1) = 1))
theorem freB_iff (g : Gh) (M : Mem) (ta tb q : Nat) : freB g M ta tb q = true ↔ FRq g M ta tb q := by
  simp [freB, FRq]
def PGa (g : Gh) : Nat → Nat → Prop := fun a k => (a = (gB g + 61) ∧ (k ≤ 2 ∨ k = 7)) ∨ a = (gB g + 62) ∨ a = (gB g + 63) ∨ a = (gB g + 64)
theorem sp_gather {g : Gh} {M : Mem} {c nq : Nat} {qa : Nat → Nat} (hc : c ≤ 512) (h1 : Lay g M) (h4 : IQ g M c nq qa) (ta tb : Nat) {post : Mem → Prop} (hq : ∀ M', Fr (PGa g) nQ M M' → mI M' (gB g + 61) 0 = nI ta → mI M' (gB g + 61) 1 = nI tb → mI M' (gB g + 61) 2 = 0 → mI M' (gB g + 61) 7 = nI (ixN (freB g M ta tb) nq) → (∀ q, q < nq → freB g M ta tb q = true → mI M' (gB g + 62) (ixN (freB g M ta tb) q) = nI q ∧ mI M' (gB g + 63) (ixN (freB g M ta tb) q) = mI M (gB g + 202) q ∧ mI M' (gB g + 64) (ixN (freB g M ta tb) q) = hdI (mI M (gB g + 203) q) (mI M (gB g + 204) q)) → post M') : wp_X8_gather g M (gB g + 61) (gB g + 48) (nI nq) (nI ta) (nI tb) post := by
  have h60 := h4.1
  refine ⟨lk_61 h1, ?_⟩
  rintro M38 rfl M40 rfl M42 rfl M44 rfl
  generalize hfr : freB g M ta tb = fre at hq
  refine lfp_up (fun q z => ∃ M', z = (nI q, M') ∧ Fr (PGa g) nQ M M' ∧ (mI M' (gB g + 61) 0 = nI ta ∧ mI M' (gB g + 61) 1 = nI tb ∧ mI M' (gB g + 61) 2 = 0 ∧ mI M' (gB g + 61) 7 = nI (ixN fre q)) ∧ ∀ q', q' < q → fre q' = true → mI M' (gB g + 62) (ixN fre q') = nI q' ∧ mI M' (gB g + 63) (ixN fre q') = mI M (gB g + 202) q' ∧ mI M' (gB g + 64) (ixN fre q') = hdI (mI M (gB g + 203) q') (mI M (gB g + 204) q')) nq ?_ ?_ 0 _ (by omega) ⟨_, rfl, ?_, ?_, fun q' hq' => by omega⟩
  · rintro bk z ⟨M', rfl, f, ⟨e0, e1, e2, e7⟩, hv⟩
    exact pk_le nq nq (fun _ => hq M' f e0 e1 e2 e7 hv) (fun hx => by omega)
  · rintro bk q z hqn ⟨M', rfl, f, ⟨e0, e1, e2, e7⟩, hv⟩ hb
    have hix := ixN_le fre q
    have l' := f.lay h1
    have i4 : IQ g M' c nq qa := h4.fr f (fun a k hh => by unfold PGa at hh; omega) (fun a k hh => (hh : False).elim)
    have hQ := i4.2.2.2.1 q hqn
    have c205 : ∀ i, 202 ≤ i → i ≤ 206 → mI M' (gB g + (i)) q = mI M (gB g + (i)) q := fun i i1 i2 => f.1 _ _ (by unfold PGa; omega)
    have es : ixN fre (q + 1) = if fre q = true then ixN fre q + 1 else ixN fre q := rfl
    have hFR : FRq g M' ta tb q ↔ fre q = true := by
      rw [← hfr, freB_iff]; unfold FRq; rw [c205 206 (by decide) (by decide), c205 205 (by decide) (by decide)]
    show bd_X8_gather_24 g M (gB g + 61) (gB g + 48) (nI nq) (nI ta) (nI tb) post bk (nI q) M'
    unfold bd_X8_gather_24
    refine pk_le nq q (fun hx => by omega) (fun _ => ⟨lk_48 h1, ?_⟩)
    rw [ln_48 h1, e7]
    refine pk_le 60 q (fun hx => by omega) (fun _ => ⟨_, lr_61_4 l', lk_62 h1, ?_⟩)
    rw [ln_62 h1]
    refine pk_le 60 (ixN fre q) (fun hx => by omega) (fun _ => ⟨pk_in q 60 (by omega), qa q, by rw [nI_cl q (by omega)]; exact hQ.1, ?_⟩)
    refine sp_isFree hQ ta tb (fun hF => ⟨fun hx => absurd hx (by decide), fun _ => ?_⟩) (fun hF => ⟨fun _ => ?_, fun hx => absurd rfl hx⟩)
    · have hfq := hFR.mp hF
      rw [if_pos hfq] at es
      have hin : vp_in (nI (ixN fre q)) 60 := pk_in (ixN fre q) 60 (by omega)
      have ci : Int32.toNatClampNeg (nI (ixN fre q)) = ixN fre q := nI_cl _ (by omega)
      refine ⟨_, lr_61_4 l', lk_62 h1, by rw [ln_62 h1, e7]; exact hin, ?_⟩
      rintro M29 rfl
      rw [e7, ci]
      have g7 : mI (uI M' (gB g + 62) (ixN fre q) (nI q)) (gB g + 61) 7 = nI (ixN fre q) := by rw [s_II, if_neg (by omega)]; exact e7
      have hqge := hQ.2.2.1
      refine ⟨_, lr_61_5 l', (h4.2.2.2.1 q hqn).2.1, lk_63 h1, by rw [ln_63 h1, g7]; exact hin, ?_⟩
      rintro M36 rfl
      rw [g7, ci]
      have gth : mI (uI M' (gB g + 62) (ixN fre q) (nI q)) (qa q) 0 = mI M (gB g + 202) q := by
        obtain ⟨t, t1, t2, t3⟩ := hQ.2.2.2.2.1
        rw [s_II, if_neg (by omega), t2, ← c205 202 (by decide) (by decide), t3]
      rw [gth]
      have f36 : Fr (PGa g) nQ M (uI (uI M' (gB g + 62) (ixN fre q) (nI q)) (gB g + 63) (ixN fre q) (mI M (gB g + 202) q)) := (f.uI (by unfold PGa; omega)).uI (by unfold PGa; omega)
      have j4 : IQ g (uI (uI M' (gB g + 62) (ixN fre q) (nI q)) (gB g + 63) (ixN fre q) (mI M (gB g + 202) q)) c nq qa := h4.fr f36 (fun a k hh => by unfold PGa at hh; omega) (fun a k hh => (hh : False).elim)
      have k7 : mI (uI (uI M' (gB g + 62) (ixN fre q) (nI q)) (gB g + 63) (ixN fre q) (mI M (gB g + 202) q)) (gB g + 61) 7 = nI (ixN fre q) := by rw [s_II, if_neg (by omega)]; exact g7
      have v62 : ∀ j, mI (uI (uI M' (gB g + 62) (ixN fre q) (nI q)) (gB g + 63) (ixN fre q) (mI M (gB g + 202) q)) (gB g + 62) j = if j = ixN fre q then nI q else mI M' (gB g + 62) j := fun j => by rw [s_II, if_neg (by omega), s_II, if_pos rfl]
      have v63 : ∀ j, mI (uI (uI M' (gB g + 62) (ixN fre q) (nI q)) (gB g + 63) (ixN fre q) (mI M (gB g + 202) q)) (gB g + 63) j = if j = ixN fre q then mI M (gB g + 202) q else mI M' (gB g + 63) j := fun j => by
        have e : mI (uI M' (gB g + 62) (ixN fre q) (nI q)) (gB g + 63) j = mI M' (gB g + 63) j := by rw [s_II, if_neg (by omega)]
        rw [s_II, if_pos rfl, e]
      have v64 : ∀ a j, a ≠ (gB g + 62) → a ≠ (gB g + 63) → mI (uI (uI M' (gB g + 62) (ixN fre q) (nI q)) (gB g + 63) (ixN fre q) (mI M (gB g + 202) q)) a j = mI M' a j := fun a j h1 h2 => by rw [s_II, if_neg h2, s_II, if_neg h1]
      generalize uI (uI M' (gB g + 62) (ixN fre q) (nI q)) (gB g + 63) (ixN fre q) (mI M (gB g + 202) q) = M3 at f36 j4 k7 v62 v63 v64 ⊢
      refine ⟨_, lr_61_6 (f36.lay h1), sp_hardC hc (j4.2.2.2.1 q hqn) ⟨lk_64 h1, by rw [ln_64 h1, k7]; exact hin, ?_⟩⟩
      rintro M7 rfl M9 rfl
      rw [k7, ci, f36.1 (gB g + 203) q (by unfold PGa; omega), f36.1 (gB g + 204) q (by unfold PGa; omega)]
      rw [show mI (uI M3 (gB g + 64) (ixN fre q) (hdI (mI M (gB g + 203) q) (mI M (gB g + 204) q))) (gB g + 61) 7 = nI (ixN fre q) by rw [s_II, if_neg (by omega)]; exact k7, nI_1, nI_1]
      have w62 : ∀ j, mI (uI (uI M3 (gB g + 64) (ixN fre q) (hdI (mI M (gB g + 203) q) (mI M (gB g + 204) q))) (gB g + 61) 7 (nI (ixN fre q + 1))) (gB g + 62) j = if j = ixN fre q then nI q else mI M' (gB g + 62) j := fun j => by rw [s_II, if_neg (by omega), s_II, if_neg (by omega)]; exact v62 j
      have w63 : ∀ j, mI (uI (uI M3 (gB g + 64) (ixN fre q) (hdI (mI M (gB g + 203) q) (mI M (gB g + 204) q))) (gB g + 61) 7 (nI (ixN fre q + 1))) (gB g + 63) j = if j = ixN fre q then mI M (gB g + 202) q else mI M' (gB g + 63) j := fun j => by rw [s_II, if_neg (by omega), s_II, if_neg (by omega)]; exact v63 j
      have w64 : ∀ j, mI (uI (uI M3 (gB g + 64) (ixN fre q) (hdI (mI M (gB g + 203) q) (mI M (gB g + 204) q))) (gB g + 61) 7 (nI (ixN fre q + 1))) (gB g + 64) j = if j = ixN fre q then hdI (mI M (gB g + 203) q) (mI M (gB g + 204) q) else mI M' (gB g + 64) j := fun j => by rw [s_II, if_neg (by omega), s_II, if_pos rfl, v64 _ _ (by omega) (by omega)]
      refine hb _ ⟨_, rfl, (f36.uI (by unfold PGa; omega)).uI (by unfold PGa; omega), ⟨?_, ?_, ?_, ?_⟩, fun q' hq' hf' => ?_⟩
      · rw [s_II, if_pos rfl, if_neg (by decide), s_II, if_neg (by omega), v64 _ _ (by omega) (by omega)]; exact e0
      · rw [s_II, if_pos rfl, if_neg (by decide), s_II, if_neg (by omega), v64 _ _ (by omega) (by omega)]; exact e1
      · rw [s_II, if_pos rfl, if_neg (by decide), s_II, if_neg (by omega), v64 _ _ (by omega) (by omega)]; exact e2
      · rw [s_II, if_pos rfl, if_pos rfl, es]
      · rw [w62, w63, w64]
        rcases (show q' < q ∨ q' = q by omega) with hlt | rfl
        · have := ixN_lt hlt hf'
          rw [if_neg (by omega), if_neg (by omega), if_neg (by omega)]
          exact hv q' hlt hf'
        · rw [if_pos rfl, if_pos rfl, if_pos rfl]; exact ⟨rfl, rfl, rfl⟩
    · have hfq : ¬ fre q = true := fun hx => hF (hFR.mpr hx)
      rw [if_neg hfq] at es
      rw [nI_1]
      refine hb _ ⟨M', rfl, f, ⟨e0, e1, e2, by rw [es]; exact e7⟩, fun q' hq' hf' => ?_⟩
      rcases (show q' < q ∨ q' = q by omega) with hlt | rfl
      · exact hv q' hlt hf'
      · exact absurd hf' hfq
  · exact (((Fr.rf.uI (by unfold PGa; omega)).uI (by unfold PGa; omega)).uI (by unfold PGa; omega)).uI (by unfold PGa; omega)
  · refine ⟨?_, ?_, ?_, ?_⟩ <;> simp [s_II, ixN, nI_0]
/-! the reference looks for a pack -/
def PMk (g : Gh) : Nat → Nat → Prop := fun a k => (a = (gB g + 195) ∧ (44 ≤ k ∧ k ≤ 47)) ∨ ((gB g + 220) ≤ a ∧ a ≤ (gB g + 222))
def RMk (g : Gh) (M : Mem) (nu : Nat → Nat) (s : PS) : Prop := mI M (gB g + 195) 45 = nI (pL s) ∧ (∀ j, j < pN s → mI M (gB g + 221) j = nI (nu (pK s j))) ∧ ∀ t, t < 8 → mI M (gB g + 222) t = pT s t
/-- what stands fast: nq, wanted; themes, hards, which are free, and their numbers -/
def SMk (g : Gh) (M : Mem) (nq : Nat) (fre : Nat → Bool) (nu th : Nat → Nat) (hd : Nat → Int32) (ta tb : Nat) (A : PA) : Prop := Lay g M ∧ nq ≤ 60 ∧ (aF A = ixN fre nq ∧ aW A ≤ 48 ∧ 1 ≤ aW A ∧ aK A ≤ 100000) ∧ mI M (gB g + 195) 16 = nI nq ∧ mI M (gB g + 195) 40 = nI (aW A) ∧ (∀ q, q < nq → th q < 8 ∧ mI M (gB g + 202) q = nI (th q) ∧ hdI (mI M (gB g + 203) q) (mI M (gB g + 204) q) = hd q ∧ (FRq g M ta tb q ↔ fre q = true)) ∧ (∀ i, i < ixN fre nq → nu i < nq ∧ fre (nu i) = true ∧ ixN fre (nu i) = i ∧ aT A i = th (nu i) ∧ aH A i = hd (nu i))
theorem SMk.fr {g : Gh} {M M' : Mem} {nq : Nat} {fre : Nat → Bool} {nu th : Nat → Nat} {hd : Nat → Int32} {ta tb : Nat} {A : PA} (h : SMk g M nq fre nu th hd ta tb A) (f : Fr (PMk g) nQ M M') : SMk g M' nq fre nu th hd ta tb A := by
  obtain ⟨h1, h2, h3, h4, h5, h6, h7⟩ := h
  have e : ∀ i q, 202 ≤ i → i ≤ 206 → mI M' (gB g + (i)) q = mI M (gB g + (i)) q := fun i q i1 i2 => f.1 _ _ (by unfold PMk; omega)
  refine ⟨f.lay h1, h2, h3, ?_, ?_, fun q hq => ?_, h7⟩
  · rw [f.1 _ _ (by unfold PMk; omega)]; exact h4
  · rw [f.1 _ _ (by unfold PMk; omega)]; exact h5
  · unfold FRq
    rw [e 202 q (by decide) (by decide), e 203 q (by decide) (by decide), e 204 q (by decide) (by decide), e 205 q (by decide) (by decide), e 206 q (by decide) (by decide)]
    exact h6 q hq
theorem ix_nu {fre : Nat → Bool} {a b : Nat} (ha : fre a = true) (hb : fre b = true) (h : ixN fre a = ixN fre b) : a = b := by
  rcases Nat.lt_trichotomy a b with h1 | h1 | h1
  · have := ixN_lt h1 ha; omega
  · exact h1
  · have := ixN_lt h1 hb; omega
theorem sp_mayComeM {g : Gh} {M : Mem} {nq : Nat} {fre : Nat → Bool} {nu th : Nat → Nat} {hd : Nat → Int32} {ta tb : Nat} {A : PA} (h : SMk g M nq fre nu th hd ta tb A) {s : PS} (hr : RMk g M nu s) {q : Nat} (hq60 : q < nq) {post : Int32 → Mem → Prop} (hy : fre q = true → ¬ aM A ≤ pT s (th q) → post 1 M) (hn : ¬ (fre q = true ∧ ¬ aM A ≤ pT s (th q)) → post 0 M) : wp_X12_mayCome g M (gB g + 195) (nI q) (nI ta) (nI tb) (aM A) post := by
  obtain ⟨h1, h2, h3, h4, h5, h6, h7⟩ := h
  obtain ⟨t1, t2, t3, t4⟩ := h6 q hq60
  have cq : Int32.toNatClampNeg (nI q) = q := nI_cl q (by omega)
  have hin : ∀ {b : Nat}, mN M b = 60 → vp_in (nI q) (mN M b) := fun e => by rw [e]; exact pk_in q 60 (by omega)
  refine ⟨lk_195 h1, _, lr_195_23 h1, lk_206 h1, hin (ln_206 h1), ?_⟩
  rw [cq]
  refine ⟨fun s0 => ⟨_, lr_195_22 h1, lk_205 h1, hin (ln_205 h1), ?_⟩, fun s0 => hn (fun hx => s0 (t4.mpr hx.1).1)⟩
  (try rw [cq])
  refine ⟨fun s1 => ⟨fun s2 => ⟨_, lr_195_43 h1, _, lr_195_19 h1, lk_202 h1, hin (ln_202 h1), lk_222 h1, ?_, ?_⟩, fun s2 => hn (fun hx => s2 (and_n1.mp (t4.mpr hx.1).2.2))⟩, fun s1 => hn (fun hx => s1 (and_n1.mp (t4.mpr hx.1).2.1))⟩
  · (try rw [cq])
    rw [t2, ln_222 h1]; exact pk_in (th q) 8 t1
  · (try rw [cq])
    rw [t2, nI_cl (th q) (by omega), hr.2.2 _ t1]
    have hf : fre q = true := t4.mp ⟨s0, and_n1.mpr s1, and_n1.mpr s2⟩
    exact ⟨fun hx => hn (fun hy => hy.2 hx), fun hx => hy hf hx⟩
