/-! PURE: finish -/
def gvI (own oth : Int32) : Int32 := if own = oth then 1 else if own ≤ oth then 0 else 2
def lgUp (f : Nat → Nat → Int32) (t : Nat) (own oth : Int32) : Nat → Nat → Int32 := fun j u => if u = t then f j u + (if j = 0 then gvI own oth else if j = 1 then 1 else if j = 2 then own else oth) else f j u
/-- a table of four rows from address i on -/
def LG (g : Gh) (M : Mem) (i : Nat) (f : Nat → Nat → Int32) : Prop := ∀ j t, j < 4 → t < 12 → mI M (gB g + (i + j)) t = f j t
theorem LG.fr {g : Gh} {M M' : Mem} {i : Nat} {f : Nat → Nat → Int32} {P Q : Nat → Nat → Prop} (h : LG g M i f) (fr : Fr P Q M M') (hp : ∀ a k, P a k → ¬ ((gB g + (i)) ≤ a ∧ a ≤ (gB g + (i + 3)))) : LG g M' i f := fun j t hj ht => by rw [fr.1 _ _ (fun hh => by have := hp _ _ hh; omega)]; exact h j t hj ht
theorem lg_mem {g : Gh} {M : Mem} {i t : Nat} {f : Nat → Nat → Int32} {own oth : Int32} (h : LG g M i f) : LG g (uI (uI (uI (uI M (gB g + (i)) t (f 0 t + gvI own oth)) (gB g + (i + 1)) t (f 1 t + 1)) (gB g + (i + 2)) t (f 2 t + own)) (gB g + (i + 3)) t (f 3 t + oth)) i (lgUp f t own oth) := by
  intro j u hj hu
  unfold lgUp
  have hju := h j u hj hu
  rcases (show j = 0 ∨ j = 1 ∨ j = 2 ∨ j = 3 by omega) with rfl | rfl | rfl | rfl
  · rw [s_II, if_neg (by omega), s_II, if_neg (by omega), s_II, if_neg (by omega), s_II, if_pos (by omega)]
    by_cases hut : u = t
    · subst hut; rw [if_pos rfl, if_pos rfl]; simp
    · rw [if_neg hut, if_neg hut]; exact hju
  · rw [s_II, if_neg (by omega), s_II, if_neg (by omega), s_II, if_pos rfl]
    by_cases hut : u = t
    · subst hut; rw [if_pos rfl, if_pos rfl]; simp
    · rw [if_neg hut, if_neg hut, s_II, if_neg (by omega)]; exact hju
  · rw [s_II, if_neg (by omega), s_II, if_pos rfl]
    by_cases hut : u = t
    · subst hut; rw [if_pos rfl, if_pos rfl]; simp
    · rw [if_neg hut, if_neg hut, s_II, if_neg (by omega), s_II, if_neg (by omega)]; exact hju
  · rw [s_II, if_pos rfl]
    by_cases hut : u = t
    · subst hut; rw [if_pos rfl, if_pos rfl]; simp
    · rw [if_neg hut, if_neg hut, s_II, if_neg (by omega), s_II, if_neg (by omega), s_II, if_neg (by omega)]; exact hju
theorem sp_addSide {g : Gh} {M : Mem} {f : Nat → Nat → Int32} (h1 : Lay g M) (h : LG g M 191 f) {t : Nat} (ht : t < 12) (own oth : Int32) {post : Mem → Prop} (hq : ∀ M', Fr (fun a _ => (gB g + 191) ≤ a ∧ a ≤ (gB g + 194)) nQ M M' → LG g M' 191 (lgUp f t own oth) → post M') : wp_X5_addSide g M (gB g + 190) (nI t) own oth post := by
  have ct : Int32.toNatClampNeg (nI t) = t := nI_cl t (by omega)
  have hin : ∀ {M' : Mem} {b : Nat}, mN M' b = 12 → vp_in (nI t) (mN M' b) := fun e => by rw [e]; exact pk_in t 12 ht
  have k37 : ∀ v, v = gvI own oth → lb_X5_addSide_37 g M (gB g + 190) (nI t) own oth post (gB g + 191) (nI t) (mI M (gB g + 191) (Int32.toNatClampNeg (nI t))) v M := by
    rintro v rfl
    refine ⟨lk_191 h1, hin (ln_191 h1), ?_⟩
    rintro M3 rfl
    refine ⟨_, lr_190_1 h1, lk_192 h1, hin (ln_192 h1), ?_⟩
    rintro M9 rfl
    refine ⟨_, lr_190_2 h1, lk_193 h1, hin (ln_193 h1), ?_⟩
    rintro M15 rfl
    refine ⟨_, lr_190_3 h1, lk_194 h1, hin (ln_194 h1), ?_⟩
    rintro M21 rfl
    rw [ct, s_II, if_neg (by omega), s_II, if_neg (by omega), s_II, if_neg (by omega), s_II, if_neg (by omega), s_II, if_neg (by omega), s_II, if_neg (by omega), h 0 t (by decide) ht, h 1 t (by decide) ht, h 2 t (by decide) ht, h 3 t (by decide) ht]
    exact hq _ ((((Fr.rf.uI (by omega)).uI (by omega)).uI (by omega)).uI (by omega)) (lg_mem h)
  have k17 : ∀ v, (¬ own = oth → v = gvI own oth) → lb_X5_addSide_17 g M (gB g + 190) (nI t) own oth post v M := by
    intro v hv
    refine ⟨_, lr_190_0 h1, lk_191 h1, hin (ln_191 h1), fun he => k37 1 ?_, fun he => k37 v (hv he)⟩
    unfold gvI; rw [if_pos he]
  refine ⟨lk_190 h1, sp_team (nI t) (fun hx => (nI_out ht (by decide) hx).elim) (fun _ _ _ => ⟨fun hx => absurd hx (by decide), fun _ => ⟨fun hc => k17 0 (fun hne => ?_), fun hc => k17 2 (fun hne => ?_)⟩⟩)⟩
  · unfold gvI; rw [if_neg hne, if_pos hc]
  · unfold gvI; rw [if_neg hne, if_neg hc]
theorem sp_counts {g : Gh} {M : Mem} {f : Nat → Nat → Int32} (h1 : Lay g M) (h : LG g M 229 f) {t : Nat} (ht : t < 12) (own oth : Int32) {post : Mem → Prop} (hq : ∀ M', Fr (fun a _ => (gB g + 229) ≤ a ∧ a ≤ (gB g + 232)) nQ M M' → LG g M' 229 (lgUp f t own oth) → post M') : wp_X12_counts g M (gB g + 195) (nI t) own oth post := by
  have ct : Int32.toNatClampNeg (nI t) = t := nI_cl t (by omega)
  have hin : ∀ {M' : Mem} {b : Nat}, mN M' b = 12 → vp_in (nI t) (mN M' b) := fun e => by rw [e]; exact pk_in t 12 ht
  have k26 : ∀ v, v = gvI own oth → lb_X12_counts_26 g M (gB g + 195) (nI t) own oth post (gB g + 229) (nI t) (mI M (gB g + 229) (Int32.toNatClampNeg (nI t))) v M := by
    rintro v rfl
    refine ⟨lk_229 h1, hin (ln_229 h1), ?_⟩
    rintro M3 rfl
    refine ⟨_, lr_195_63 h1, lk_230 h1, hin (ln_230 h1), ?_⟩
    rintro M9 rfl
    refine ⟨_, lr_195_64 h1, lk_231 h1, hin (ln_231 h1), ?_⟩
    rintro M15 rfl
    refine ⟨_, lr_195_65 h1, lk_232 h1, hin (ln_232 h1), ?_⟩
    rintro M21 rfl
    rw [ct, s_II, if_neg (by omega), s_II, if_neg (by omega), s_II, if_neg (by omega), s_II, if_neg (by omega), s_II, if_neg (by omega), s_II, if_neg (by omega), h 0 t (by decide) ht, h 1 t (by decide) ht, h 2 t (by decide) ht, h 3 t (by decide) ht]
    exact hq _ ((((Fr.rf.uI (by omega)).uI (by omega)).uI (by omega)).uI (by omega)) (lg_mem h)
  refine ⟨lk_195 h1, _, lr_195_62 h1, lk_229 h1, hin (ln_229 h1), fun hc => ⟨fun he => k26 1 ?_, fun he => k26 0 ?_⟩, fun hc => k26 2 ?_⟩
  · unfold gvI; rw [if_pos he]
  · unfold gvI; rw [if_neg he, if_pos hc]
  · unfold gvI; rw [if_neg (fun he => hc (by rw [he]; exact Int32.le_refl _)), if_neg hc]
/-- whether question k is known, by the first so many events -/
def kno (ev : Nat → EvT) (vd : Nat → Bool) (k : Nat) : Nat → Bool
  | 0 => false
  | j + 1 => kno ev vd k j || (decide (eQ (ev j) = k) && (eR (ev j) && !vd j))
theorem kno_mono {ev : Nat → EvT} {vd : Nat → Bool} {k : Nat} : ∀ {n i : Nat}, i ≤ n → kno ev vd k i = true → kno ev vd k n = true := by
  intro n
  induction n with
  | zero => intro i hi h; have : i = 0 := by omega
            subst this; exact h
  | succ n ih =>
    intro i hi h
    rcases (show i ≤ n ∨ i = n + 1 by omega) with hx | rfl
    · have := ih hx h
      show (kno ev vd k n || _) = true
      rw [this]; rfl
    · exact h
theorem sp_isKnown {g : Gh} {M : Mem} {n : Nat} {ev : Nat → EvT} {vd : Nat → Bool} {W : Nat} (h1 : Lay g M) (hn : n ≤ 120) (h3 : mI M (gB g + 67) 3 = nI n) (he : ∀ j, j < n → CE g M j (ev j) ∧ eQ (ev j) < W ∧ mI M (gB g + (69 + j)) 4 = bI (vd j)) (hW : W < 1000) {k : Nat} (hk : k < 1000) {post : Int32 → Mem → Prop} (hq : post (bI (kno ev vd k n)) M) : wp_X6_isKnown g M (gB g + 67) (nI k) post := by
  refine ⟨lk_67 h1, ?_⟩
  refine lfp_up (fun i s => s = (nI i, M) ∧ kno ev vd k i = false) n ?_ ?_ 0 _ (by omega) ⟨rfl, rfl⟩
  · rintro bk s ⟨rfl, hf⟩
    show bd_X6_isKnown_2 g M (gB g + 67) (nI k) post bk (nI n) M
    unfold bd_X6_isKnown_2
    rw [h3]
    rw [hf] at hq
    exact pk_le n n (fun _ => hq) (fun hx => by omega)
  · rintro bk i s hi ⟨rfl, hf⟩ hb
    show bd_X6_isKnown_2 g M (gB g + 67) (nI k) post bk (nI i) M
    unfold bd_X6_isKnown_2
    rw [h3]
    obtain ⟨ce, q1, v1⟩ := he i hi
    refine pk_le n i (fun hx => by omega) (fun _ => pk_le 120 i (fun hx => by omega) (fun _ => ⟨_, lr_67_2 h1, lk_68 h1, by rw [ln_68 h1]; exact pk_in i 120 (by omega), (gB g + (69 + i)), ?_, lk_ev h1 (by omega), ?_⟩))
    · rw [pk_cl i]; exact lr_ev h1 (by omega)
    · rw [ce.1, ce.2.2.2, v1]
      have es : kno ev vd k (i + 1) = (kno ev vd k i || (decide (eQ (ev i) = k) && (eR (ev i) && !vd i))) := rfl
      rw [hf] at es
      have nx : kno ev vd k (i + 1) = false → bk (nI i + 1, M) := fun hx => hb _ ⟨by rw [nI_1], hx⟩
      refine pk_eq (eQ (ev i)) k (fun hx => ?_) (fun hx => nx (by rw [es]; simp [hx]))
      cases hR : eR (ev i) with
      | false => exact ⟨fun _ => nx (by rw [es, hR]; simp), fun hy => absurd rfl hy⟩
      | true =>
        refine ⟨fun hy => absurd hy (by decide), fun _ => ?_⟩
        cases hV : vd i with
        | true => exact ⟨fun hy => absurd hy (by decide), fun _ => nx (by rw [es, hV]; simp)⟩
        | false =>
          refine ⟨fun _ => ?_, fun hy => absurd rfl hy⟩
          have : kno ev vd k n = true := kno_mono (i := i + 1) (by omega) (by rw [es, hR, hV]; simp [hx])
          rw [this] at hq; exact hq
theorem nI_or (a b : Nat) : nI a ||| nI b = nI (a ||| b) := by
  apply Int32.toBitVec_inj.mp
  show BitVec.ofNat 32 a ||| BitVec.ofNat 32 b = BitVec.ofNat 32 (a ||| b)
  apply BitVec.eq_of_getLsbD_eq
  intro i hi
  simp [hi]
theorem sh_12 : ∀ t, t < 12 → (1 : Int32) <<< (nI t &&& 31) = nI (2 ^ t) := by decide +kernel
theorem msk {ta tb : Nat} (ha : ta < 12) (hb : tb < 12) (s : Nat) : nI s ||| ((1 <<< (nI ta &&& 31)) ||| (1 <<< (nI tb &&& 31))) = nI (s ||| (2 ^ ta ||| 2 ^ tb)) := by
  rw [sh_12 ta ha, sh_12 tb hb, nI_or, nI_or]
theorem msk_lt {ta tb s : Nat} (ha : ta < 12) (hb : tb < 12) (hs : s < 4096) : s ||| (2 ^ ta ||| 2 ^ tb) < 4096 := by
  have h1 : 2 ^ ta < 2 ^ 12 := Nat.pow_lt_pow_right (by decide) ha
  have h2 : 2 ^ tb < 2 ^ 12 := Nat.pow_lt_pow_right (by decide) hb
  exact Nat.or_lt_two_pow (n := 12) hs (Nat.or_lt_two_pow h1 h2)
/-- what the questions have after the first so many of the pack -/
def qst (pn : Nat → Nat) (kn : Nat → Bool) (m : Nat) (q0 : Nat → Nat × Nat × Nat) : Nat → Nat → Nat × Nat × Nat
  | 0, q => q0 q
  | i + 1, q => if q = pn i then ((qst pn kn m q0 i q).1 + 1, (qst pn kn m q0 i q).2.1 + (if kn i = true then 1 else 0), (qst pn kn m q0 i q).2.2 ||| m) else qst pn kn m q0 i q
theorem qst_le {pn : Nat → Nat} {kn : Nat → Bool} {ta tb : Nat} {q0 : Nat → Nat × Nat × Nat} (ha : ta < 12) (hb : tb < 12) {B q : Nat} (h : (q0 q).1 ≤ B ∧ (q0 q).2.1 ≤ B ∧ (q0 q).2.2 < 4096) : ∀ i, (qst pn kn (2 ^ ta ||| 2 ^ tb) q0 i q).1 ≤ B + i ∧ (qst pn kn (2 ^ ta ||| 2 ^ tb) q0 i q).2.1 ≤ B + i ∧ (qst pn kn (2 ^ ta ||| 2 ^ tb) q0 i q).2.2 < 4096
  | 0 => h
  | i + 1 => by
    have ih := qst_le (pn := pn) (kn := kn) ha hb h i
    unfold qst
    split
    · refine ⟨by show _ + 1 ≤ _; omega, ?_, msk_lt ha hb ih.2.2⟩
      show _ + (if kn i = true then 1 else 0) ≤ _
      split <;> omega
    · exact ⟨by omega, by omega, ih.2.2⟩
