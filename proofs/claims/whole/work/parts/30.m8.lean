/-! PURE: finish, the two loops -/
theorem sp_qAt0 {g : Gh} {M : Mem} {nq : Nat} {qa : Nat → Nat} (h1 : Lay g M) (h60 : nq ≤ 60) (e4 : mI M (gB g) 4 = nI nq) (hr : ∀ q, q < nq → mR M (gB g + 48) q = some (qa q)) {q : Nat} (hq : q < nq) {post : Option Nat → Mem → Prop} (hs : post (some (qa q)) M) : wp_X11_questionAt g M (gB g) (nI q) post := by
  refine ⟨lk_0 h1, fun hc => absurd hc (nI_pos (by omega)), fun hc => ?_⟩
  rw [e4]
  refine pk_le nq q (fun hx => by omega) (fun _ => ⟨_, lr_0_3 h1, lk_48 h1, ?_⟩)
  rw [ln_48 h1]
  refine pk_le 60 q (fun hx => by omega) (fun _ => ⟨pk_in q 60 (by omega), qa q, ?_, hs⟩)
  rw [pk_cl q]; exact hr q hq
/-- three numbers of each question, as the class has them -/
def QC (M : Mem) (nq : Nat) (qa : Nat → Nat) (v : Nat → Nat × Nat × Nat) : Prop := ∀ q, q < nq → mI M (qa q) 2 = nI (v q).1 ∧ mI M (qa q) 3 = nI (v q).2.1 ∧ mI M (qa q) 5 = nI (v q).2.2
def QM (g : Gh) (M : Mem) (nq : Nat) (v : Nat → Nat × Nat × Nat) : Prop := ∀ q, q < nq → mI M (gB g + 203) q = nI (v q).1 ∧ mI M (gB g + 204) q = nI (v q).2.1 ∧ mI M (gB g + 205) q = nI (v q).2.2
def PFq (nq : Nat) (qa : Nat → Nat) : Nat → Nat → Prop := fun a k => (∃ q, q < nq ∧ a = qa q) ∧ (k = 2 ∨ k = 3 ∨ k = 5)
theorem sp_addPlay {g : Gh} {M : Mem} {nq : Nat} {qa : Nat → Nat} {pn : Nat → Nat} {kn : Nat → Bool} {q0 : Nat → Nat × Nat × Nat} {i ta tb : Nat} (ha : ta < 12) (hb : tb < 12) (hi : pn i < nq) (ho : okc (gB g) M (qa (pn i)) 9) (hj : ∀ q q', q < nq → q' < nq → qa q = qa q' → q = q') (h : QC M nq qa (qst pn kn (2 ^ ta ||| 2 ^ tb) q0 i)) {post : Mem → Prop} (hq : ∀ M', Fr (PFq nq qa) nQ M M' → QC M' nq qa (qst pn kn (2 ^ ta ||| 2 ^ tb) q0 (i + 1)) → post M') : wp_X9_addPlay g M (qa (pn i)) (bI (kn i)) (nI ta) (nI tb) post := by
  have hv := h _ hi
  have es : ∀ q, qst pn kn (2 ^ ta ||| 2 ^ tb) q0 (i + 1) q = if q = pn i then ((qst pn kn (2 ^ ta ||| 2 ^ tb) q0 i q).1 + 1, (qst pn kn (2 ^ ta ||| 2 ^ tb) q0 i q).2.1 + (if kn i = true then 1 else 0), (qst pn kn (2 ^ ta ||| 2 ^ tb) q0 i q).2.2 ||| (2 ^ ta ||| 2 ^ tb)) else qst pn kn (2 ^ ta ||| 2 ^ tb) q0 i q := fun q => rfl
  have p2 : ∀ k, (k = 2 ∨ k = 3 ∨ k = 5) → PFq nq qa (qa (pn i)) k := fun k hk => ⟨⟨_, hi, rfl⟩, hk⟩
  have hne : ∀ q, q < nq → q ≠ pn i → qa q ≠ qa (pn i) := fun q hq2 hne he => hne (hj q _ hq2 hi he)
  refine ⟨ho, ?_⟩
  rintro M3 rfl
  rw [hv.1, nI_1]
  cases hk : kn i with
  | false =>
    refine ⟨fun _ => ?_, fun hx => absurd rfl hx⟩
    rintro M1 rfl
    rw [show mI (uI M (qa (pn i)) 2 (nI ((qst pn kn (2 ^ ta ||| 2 ^ tb) q0 i (pn i)).1 + 1))) (qa (pn i)) 5 = nI (qst pn kn (2 ^ ta ||| 2 ^ tb) q0 i (pn i)).2.2 by rw [s_II, if_pos rfl, if_neg (by decide)]; exact hv.2.2, msk ha hb]
    refine hq _ ((Fr.rf.uI (p2 2 (by omega))).uI (p2 5 (by omega))) (fun q hq2 => ?_)
    rw [es q]
    by_cases hqe : q = pn i
    · subst hqe
      rw [if_pos rfl, hk]
      refine ⟨?_, ?_, ?_⟩
      · rw [s_II, if_pos rfl, if_neg (by decide), s_II, if_pos rfl, if_pos rfl]
      · rw [s_II, if_pos rfl, if_neg (by decide), s_II, if_pos rfl, if_neg (by decide)]; exact hv.2.1
      · rw [s_II, if_pos rfl, if_pos rfl]
    · rw [if_neg hqe]
      have hn := hne q hq2 hqe
      simp only [s_II, if_neg hn]
      exact h q hq2
  | true =>
    refine ⟨fun hx => absurd hx (by decide), fun _ => ?_⟩
    rintro M6 rfl M1 rfl
    rw [show mI (uI M (qa (pn i)) 2 (nI ((qst pn kn (2 ^ ta ||| 2 ^ tb) q0 i (pn i)).1 + 1))) (qa (pn i)) 3 = nI (qst pn kn (2 ^ ta ||| 2 ^ tb) q0 i (pn i)).2.1 by rw [s_II, if_pos rfl, if_neg (by decide)]; exact hv.2.1, nI_1]
    rw [show mI (uI (uI M (qa (pn i)) 2 (nI ((qst pn kn (2 ^ ta ||| 2 ^ tb) q0 i (pn i)).1 + 1))) (qa (pn i)) 3 (nI ((qst pn kn (2 ^ ta ||| 2 ^ tb) q0 i (pn i)).2.1 + 1))) (qa (pn i)) 5 = nI (qst pn kn (2 ^ ta ||| 2 ^ tb) q0 i (pn i)).2.2 by rw [s_II, if_pos rfl, if_neg (by decide), s_II, if_pos rfl, if_neg (by decide)]; exact hv.2.2, msk ha hb]
    refine hq _ (((Fr.rf.uI (p2 2 (by omega))).uI (p2 3 (by omega))).uI (p2 5 (by omega))) (fun q hq2 => ?_)
    rw [es q]
    by_cases hqe : q = pn i
    · subst hqe
      rw [if_pos rfl, hk]
      refine ⟨?_, ?_, ?_⟩
      · rw [s_II, if_pos rfl, if_neg (by decide), s_II, if_pos rfl, if_neg (by decide), s_II, if_pos rfl, if_pos rfl]
      · rw [s_II, if_pos rfl, if_neg (by decide), s_II, if_pos rfl, if_pos rfl]; rfl
      · rw [s_II, if_pos rfl, if_pos rfl]
    · rw [if_neg hqe]
      have hn := hne q hq2 hqe
      simp only [s_II, if_neg hn]
      exact h q hq2
/-- the class's loop of finish -/
theorem sp_finC {g : Gh} {M0 M : Mem} {nq : Nat} {qa : Nat → Nat} {np : Nat} {pn : Nat → Nat} {n : Nat} {ev : Nat → EvT} {vd : Nat → Bool} {W ta tb : Nat} {q0 : Nat → Nat × Nat × Nat} (l0 : Lay g M0) (h1 : Lay g M) (h60 : nq ≤ 60) (e4 : mI M (gB g) 4 = nI nq) (hr : ∀ q, q < nq → mR M (gB g + 48) q = some (qa q)) (hqa : ∀ q, q < nq → (gB g + 234) ≤ qa q ∧ okc (gB g) M (qa q) 9) (hj : ∀ q q', q < nq → q' < nq → qa q = qa q' → q = q') (h6 : IP g M nq np pn) (ha : ta < 12) (hb : tb < 12) (t3 : mI M (gB g + 61) 0 = nI ta) (t4 : mI M (gB g + 61) 1 = nI tb) (hn : n ≤ 120) (h3 : mI M (gB g + 67) 3 = nI n) (he : ∀ j, j < n → CE g M j (ev j) ∧ eQ (ev j) < W ∧ mI M (gB g + (69 + j)) 4 = bI (vd j)) (hW : W < 1000) (hv : QC M nq qa q0) {post : Int32 → Mem → Prop} (hq : ∀ M', Fr (PFq nq qa) nQ M M' → QC M' nq qa (qst pn (fun k => kno ev vd k n) (2 ^ ta ||| 2 ^ tb) q0 np) → post 1 (uI (uI M' (gB g + 67) 0 0) (gB g + 67) 3 0)) : ∃ k : Nat, lfp (fun bk z => bd_X11_finish_61 g M0 (gB g) post bk z.1 z.2) k (0, M) := by
  have h48 := h6.1
  have hpq : ∀ a k, PFq nq qa a k → (gB g + 234) ≤ a := by
    rintro a k ⟨⟨q, hq, rfl⟩, _⟩; exact (hqa q hq).1
  refine lfp_up (fun i s => ∃ M', s = (nI i, M') ∧ Fr (PFq nq qa) nQ M M' ∧ QC M' nq qa (qst pn (fun k => kno ev vd k n) (2 ^ ta ||| 2 ^ tb) q0 i)) np ?_ ?_ 0 _ (by omega) ⟨M, rfl, Fr.rf, hv⟩
  · rintro bk s ⟨M', rfl, f, hc⟩
    have l' := f.lay h1
    refine ⟨_, lr_0_8 l', lk_61 l0, ?_⟩
    show ((mI M' (gB g + 61) 2 ≤ nI np → _) ∧ _)
    rw [f.1 _ _ (fun hh => by have := hpq _ _ hh; omega), h6.2.1]
    refine pk_le np np (fun _ => ⟨_, lr_0_9 l', lk_67 l', ?_⟩) (fun hx => by omega)
    rintro M1 rfl M3 rfl
    exact hq M' f hc
  · rintro bk i s hi ⟨M', rfl, f, hc⟩ hbk
    have l' := f.lay h1
    have p' : IP g M' nq np pn := h6.fr f (fun a k hh => by have := hpq _ _ hh; omega)
    have hpi := (h6.2.2.2.2.2 i hi).1
    refine ⟨_, lr_0_8 l', lk_61 l0, ?_⟩
    show ((mI M' (gB g + 61) 2 ≤ nI i → _) ∧ _)
    rw [f.1 _ _ (fun hh => by have := hpq _ _ hh; omega), h6.2.1]
    refine pk_le np i (fun hx => by omega) (fun _ => sp_numAt l' p' (nI i) (fun hx => (nI_out hi (by omega) hx).elim) (fun k hk e => ?_))
    have : i = k := (nI_eq (by omega) (by omega)).mp e
    subst this
    refine sp_qAt0 l' h60 (by rw [f.1 _ _ (fun hh => by have := hpq _ _ hh; omega)]; exact e4) (fun q hq => by rw [f.R]; exact hr q hq) hpi ⟨fun hx => absurd hx (by simp), fun q14 hq14 => ?_⟩
    cases hq14
    refine ⟨_, lr_0_9 l', ?_⟩
    refine sp_isKnown (ev := ev) (vd := vd) (W := W) l' hn (by rw [f.1 _ _ (fun hh => by have := hpq _ _ hh; omega)]; exact h3) (fun j hj2 => ⟨(he j hj2).1.fr f (fun k hk hh => by have := hpq _ _ hh; omega), (he j hj2).2.1, by rw [f.1 _ _ (fun hh => by have := hpq _ _ hh; omega)]; exact (he j hj2).2.2⟩) hW (by omega) ?_
    refine ⟨_, lr_0_8 l', lk_61 l0, ?_⟩
    rw [f.1 _ _ (fun hh => by have := hpq _ _ hh; omega), f.1 _ _ (fun hh => by have := hpq _ _ hh; omega), t3, t4]
    exact sp_addPlay (kn := fun k => kno ev vd k n) ha hb hpi (f.oc (hqa _ hpi).2) hj hc (fun M2 f2 c2 => hbk _ ⟨M2, by rw [nI_1], f.tr f2, c2⟩)
/-- the reference's inner loop -/
theorem sp_finK {g : Gh} {M0 M : Mem} {n : Nat} {ev : Nat → EvT} {vd : Nat → Bool} {L : LawT} (l0 : Lay g M0) (h1 : Lay g M) (hn : n ≤ 120) (h49 : mI M (gB g + 195) 49 = nI n) (hW : lW L < 1000) (he : ∀ j, j < n → ME g M j (ev j) ∧ EvOK L (ev j) ∧ mI M (gB g + 228) j = bI (vd j)) {i : Nat} (hi : i < 1000) {post : Int32 → Mem → Prop} {bk56 : Int32 × Mem → Prop} (hq : lb_X12_finish_129 g M0 (gB g + 195) post bk56 (nI i) (bI (kno ev vd i n)) M) : ∃ k : Nat, lfp (fun bk z => bd_X12_finish_68 g M0 (gB g + 195) post bk56 bk z.1 z.2.1 z.2.2.1 z.2.2.2) k (nI i, 0, 0, M) := by
  refine lfp_up (fun j s => s = (nI i, bI (kno ev vd i j), nI j, M)) n ?_ ?_ 0 _ (by omega) rfl
  · rintro bk s rfl
    show bd_X12_finish_68 g M0 (gB g + 195) post bk56 bk (nI i) (bI (kno ev vd i n)) (nI n) M
    unfold bd_X12_finish_68
    rw [h49]
    exact pk_le n n (fun _ => hq) (fun hx => by omega)
  · rintro bk j s hj rfl hb
    show bd_X12_finish_68 g M0 (gB g + 195) post bk56 bk (nI i) (bI (kno ev vd i j)) (nI j) M
    unfold bd_X12_finish_68
    rw [h49]
    obtain ⟨me, hE, v1⟩ := he j hj
    have hE1 := hE.1
    have cj : Int32.toNatClampNeg (nI j) = j := nI_cl j (by omega)
    have nx : ∀ v, v = bI (kno ev vd i (j + 1)) → lb_X12_finish_123 g M0 (gB g + 195) post bk56 bk (nI i) v (nI j) M := by
      rintro v rfl
      refine hb _ ?_
      rw [nI_1]
    have es : kno ev vd i (j + 1) = (kno ev vd i j || (decide (eQ (ev j) = i) && (eR (ev j) && !vd j))) := rfl
    refine pk_le n j (fun hx => by omega) (fun _ => ?_)
    cases hk : kno ev vd i j with
    | true => exact ⟨fun hx => absurd hx (by decide), fun _ => nx 1 (by rw [es, hk]; rfl)⟩
    | false =>
      rw [hk] at es
      refine ⟨fun _ => ⟨_, lr_195_56 h1, lk_223 l0, by rw [ln_223 l0]; exact pk_in j 120 (by omega), ?_⟩, fun hx => absurd rfl hx⟩
      rw [cj, me.1]
      refine pk_eq (eQ (ev j)) i (fun hx => ⟨_, lr_195_57 h1, lk_224 l0, by rw [ln_224 l0]; exact pk_in j 120 (by omega), ?_⟩) (fun hx => nx 0 (by rw [es]; simp [hx, bI]))
      (try rw [cj])
      rw [me.2.1]
      refine ⟨fun h0 => ⟨_, lr_195_60 h1, lk_227 l0, by rw [ln_227 l0]; exact pk_in j 120 (by omega), ?_⟩, fun h0 => nx 0 ?_⟩
      · (try rw [cj])
        rw [me.2.2.2]
        cases hR : eR (ev j) with
        | false => exact ⟨fun _ => nx 0 (by rw [es, hR]; simp [bI]), fun hy => absurd rfl hy⟩
        | true =>
          refine ⟨fun hy => absurd hy (by decide), fun _ => ⟨_, lr_195_61 h1, lk_228 l0, by rw [ln_228 l0]; exact pk_in j 120 (by omega), ?_⟩⟩
          (try rw [cj])
          rw [v1]
          cases hV : vd j with
          | true => exact ⟨fun hy => absurd hy (by decide), fun _ => nx 0 (by rw [es, hV]; simp [bI])⟩
          | false => exact ⟨fun _ => nx 1 (by rw [es, hR, hV]; simp [bI, hx]), fun hy => absurd rfl hy⟩
      · have : eR (ev j) = false := by
          rcases hE.2 with h3 | h3
          · exact h3.2.2
          · rcases h3.1 with h4 | h4
            · exact absurd h4 h0
            · exact h4.2
        rw [es, this]; simp [bI]
def PGm (g : Gh) : Nat → Nat → Prop := fun a _ => a = (gB g + 203) ∨ a = (gB g + 204) ∨ a = (gB g + 205)
theorem sp_finP {g : Gh} {M0 M : Mem} {nq : Nat} {np : Nat} {pn : Nat → Nat} {kn : Nat → Bool} {q0 : Nat → Nat × Nat × Nat} {i ta tb : Nat} (l0 : Lay g M0) (h1 : Lay g M) (h60 : nq ≤ 60) (h48 : np ≤ 48) (ha : ta < 12) (hb : tb < 12) (hi2 : i < np) (hi : pn i < nq) (e220 : mI M (gB g + 220) i = nI (pn i)) (t5 : mI M (gB g + 195) 46 = nI ta) (t6 : mI M (gB g + 195) 47 = nI tb) (h : QM g M nq (qst pn kn (2 ^ ta ||| 2 ^ tb) q0 i)) {post : Int32 → Mem → Prop} {bk56 : Int32 × Mem → Prop} (hq : ∀ M', Fr (PGm g) nQ M M' → QM g M' nq (qst pn kn (2 ^ ta ||| 2 ^ tb) q0 (i + 1)) → bk56 (nI (i + 1), M')) : lb_X12_finish_129 g M0 (gB g + 195) post bk56 (nI i) (bI (kn i)) M := by
  have ci : Int32.toNatClampNeg (nI i) = i := nI_cl i (by omega)
  have cp : Int32.toNatClampNeg (nI (pn i)) = pn i := nI_cl _ (by omega)
  have hv := h _ hi
  have es : ∀ q, qst pn kn (2 ^ ta ||| 2 ^ tb) q0 (i + 1) q = if q = pn i then ((qst pn kn (2 ^ ta ||| 2 ^ tb) q0 i q).1 + 1, (qst pn kn (2 ^ ta ||| 2 ^ tb) q0 i q).2.1 + (if kn i = true then 1 else 0), (qst pn kn (2 ^ ta ||| 2 ^ tb) q0 i q).2.2 ||| (2 ^ ta ||| 2 ^ tb)) else qst pn kn (2 ^ ta ||| 2 ^ tb) q0 i q := fun q => rfl
  have hin : ∀ {M' : Mem} {b : Nat}, mN M' b = 60 → vp_in (nI (pn i)) (mN M' b) := fun e => by rw [e]; exact pk_in (pn i) 60 (by omega)
  refine ⟨_, lr_195_20 h1, _, lr_195_41 h1, lk_220 l0, by rw [ln_220 l0]; exact pk_in i 48 (by omega), lk_203 l0, ?_, ?_⟩
  · rw [ci, e220]; exact hin (ln_203 l0)
  rintro M23 rfl
  rw [ci, e220, cp, hv.1, nI_1]
  have f1 : Fr (PGm g) nQ M (uI M (gB g + 203) (pn i) (nI ((qst pn kn (2 ^ ta ||| 2 ^ tb) q0 i (pn i)).1 + 1))) := Fr.rf.uI (Or.inl rfl)
  have g1 : mI (uI M (gB g + 203) (pn i) (nI ((qst pn kn (2 ^ ta ||| 2 ^ tb) q0 i (pn i)).1 + 1))) (gB g + 203) (pn i) = nI ((qst pn kn (2 ^ ta ||| 2 ^ tb) q0 i (pn i)).1 + 1) := by rw [s_II, if_pos rfl, if_pos rfl]
  have g2 : ∀ q, q ≠ pn i → mI (uI M (gB g + 203) (pn i) (nI ((qst pn kn (2 ^ ta ||| 2 ^ tb) q0 i (pn i)).1 + 1))) (gB g + 203) q = mI M (gB g + 203) q := fun q hq => by rw [s_II, if_pos rfl, if_neg hq]
  have g3 : ∀ a q, a ≠ (gB g + 203) → mI (uI M (gB g + 203) (pn i) (nI ((qst pn kn (2 ^ ta ||| 2 ^ tb) q0 i (pn i)).1 + 1))) a q = mI M a q := fun a q ha => by rw [s_II, if_neg ha]
  generalize uI M (gB g + 203) (pn i) (nI ((qst pn kn (2 ^ ta ||| 2 ^ tb) q0 i (pn i)).1 + 1)) = M1 at f1 g1 g2 g3 ⊢
  have l1 := f1.lay h1
  have k163 : ∀ M2 (K : Nat), Fr (PGm g) nQ M M2 → mI M2 (gB g + 203) (pn i) = nI ((qst pn kn (2 ^ ta ||| 2 ^ tb) q0 i (pn i)).1 + 1) → mI M2 (gB g + 204) (pn i) = nI K → K = (qst pn kn (2 ^ ta ||| 2 ^ tb) q0 i (pn i)).2.1 + (if kn i = true then 1 else 0) → mI M2 (gB g + 205) (pn i) = nI (qst pn kn (2 ^ ta ||| 2 ^ tb) q0 i (pn i)).2.2 → (∀ q, q ≠ pn i → mI M2 (gB g + 203) q = mI M (gB g + 203) q ∧ mI M2 (gB g + 204) q = mI M (gB g + 204) q ∧ mI M2 (gB g + 205) q = mI M (gB g + 205) q) → lb_X12_finish_163 g M0 (gB g + 195) post bk56 (nI i) M2 := by
    intro M2 K f2 a1 a2 hK a3 a4
    have l2 := f2.lay h1
    have e2 : mI M2 (gB g + 220) i = nI (pn i) := by rw [f2.1 _ _ (by unfold PGm; omega)]; exact e220
    refine ⟨_, lr_195_22 l2, _, lr_195_41 l2, lk_220 l0, by rw [ln_220 l0]; exact pk_in i 48 (by omega), lk_205 l0, ?_, ?_⟩
    · rw [ci, e2]; exact hin (ln_205 l0)
    rintro M13 rfl
    rw [ci, e2, cp, a3, f2.1 (gB g + 195) 46 (by unfold PGm; omega), f2.1 (gB g + 195) 47 (by unfold PGm; omega), t5, t6, msk ha hb, nI_1]
    refine hq _ (f2.uI (Or.inr (Or.inr rfl))) (fun q hq2 => ?_)
    rw [es q]
    by_cases hqe : q = pn i
    · subst hqe
      rw [if_pos rfl, ← hK]
      refine ⟨?_, ?_, ?_⟩
      · rw [s_II, if_neg (by omega)]; exact a1
      · rw [s_II, if_neg (by omega)]; exact a2
      · rw [s_II, if_pos rfl, if_pos rfl]
    · rw [if_neg hqe]
      refine ⟨?_, ?_, ?_⟩
      · rw [s_II, if_neg (by omega), (a4 q hqe).1]; exact (h q hq2).1
      · rw [s_II, if_neg (by omega), (a4 q hqe).2.1]; exact (h q hq2).2.1
      · rw [s_II, if_pos rfl, if_neg hqe, (a4 q hqe).2.2]; exact (h q hq2).2.2
  cases hk : kn i with
  | false =>
    refine ⟨fun _ => k163 M1 _ f1 g1 (by rw [g3 _ _ (by omega)]; exact hv.2.1) (by rw [hk]; rfl) (by rw [g3 _ _ (by omega)]; exact hv.2.2) (fun q hq => ⟨g2 q hq, g3 _ _ (by omega), g3 _ _ (by omega)⟩), fun hx => absurd rfl hx⟩
  | true =>
    have e1 : mI M1 (gB g + 220) i = nI (pn i) := by rw [g3 _ _ (by omega)]; exact e220
    refine ⟨fun hx => absurd hx (by decide), fun _ => ⟨_, lr_195_21 l1, lk_204 l0, ?_, ?_⟩⟩
    · rw [e1]; exact hin (ln_204 l0)
    rintro M30 rfl
    rw [e1, cp, g3 (gB g + 204) _ (by omega), hv.2.1, nI_1]
    refine k163 _ _ (f1.uI (Or.inr (Or.inl rfl))) ?_ (by rw [s_II, if_pos rfl, if_pos rfl]) (by rw [hk]; rfl) ?_ (fun q hq => ⟨?_, ?_, ?_⟩)
    · rw [s_II, if_neg (by omega)]; exact g1
    · rw [s_II, if_neg (by omega), g3 _ _ (by omega)]; exact hv.2.2
    · rw [s_II, if_neg (by omega)]; exact g2 q hq
    · rw [s_II, if_pos rfl, if_neg hq]; exact g3 _ _ (by omega)
    · rw [s_II, if_neg (by omega)]; exact g3 _ _ (by omega)
