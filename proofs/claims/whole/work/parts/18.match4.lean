/-! PURE: all events gone through, by the class -/
def z0 : MS := (0, 0, false, 0, 0, 0)
def thr (L : LawT) (ev : Nat → EvT) : Nat → MS
  | 0 => gT L 0 z0
  | k + 1 => apE L (thr L ev k) (ev k)
theorem apE_le {L : LawT} {s : MS} {e : EvT} (hE : EvOK L e) (h : sH s ≤ lW L) : sH (apE L s e) ≤ lW L := by
  have h1 : sH (s1T L s e) ≤ lW L ∧ eQ e ≤ sH (s1T L s e) := by
    unfold s1T
    split
    · exact ⟨Nat.le_of_lt hE.1, Nat.le_refl _⟩
    · exact ⟨h, by omega⟩
  unfold apE
  generalize s1T L s e = t at h1
  unfold apT
  split
  · exact h1.1
  · next hv =>
    have hv2 : ¬ eQ e < sH t := by
      intro hx; apply hv; simp [vdT, hx]
    have := hE.1
    unfold nxT
    split
    · show sH t ≤ _; omega
    · show sH t + 1 ≤ _; omega
theorem thr_le {L : LawT} {ev : Nat → EvT} : ∀ n, (∀ j, j < n → EvOK L (ev j)) → sH (thr L ev n) ≤ lW L
  | 0, _ => Nat.zero_le _
  | n + 1, h => apE_le (h n (by omega)) (thr_le n (fun j hj => h j (by omega)))
theorem thr_congr {L : LawT} {ev ev' : Nat → EvT} : ∀ n, (∀ j, j < n → ev j = ev' j) → thr L ev n = thr L ev' n
  | 0, _ => rfl
  | n + 1, h => by
    show apE L (thr L ev n) (ev n) = apE L (thr L ev' n) (ev' n)
    rw [thr_congr n (fun j hj => h j (by omega)), h n (by omega)]
def PXr (g : Gh) : Nat → Nat → Prop := fun a k => (a = (gB g + 67) ∧ 4 ≤ k ∧ k ≤ 7) ∨ a = (gB g + 189) ∨ ((gB g + 69) ≤ a ∧ a < (gB g + 189) ∧ (k = 4 ∨ k = 5))
theorem pxe_pxr (g : Gh) {j : Nat} (hj : j < 120) : ∀ a k, PXe g j a k → PXr g a k := by
  intro a k h; unfold PXe at h; unfold PXr; omega
theorem pxr_r (g : Gh) : ∀ a k, PXr g a k → a < (gB g + 49) ∨ (gB g + 60) < a := by
  intro a k h; unfold PXr at h; omega
theorem pxr_e (g : Gh) : ∀ i k, k < 4 → i < 120 → ¬ PXr g (gB g + (69 + i)) k := by
  intro i k h hi hh; unfold PXr at hh; omega
theorem sp_X6_replay {g : Gh} {M : Mem} {r : Nat} {L : LawT} (h : MC g M r L) {n : Nat} {ev : Nat → EvT} (hn : n ≤ 120) (h3 : mI M (gB g + 67) 3 = nI n) (he : ∀ j, j < n → CE g M j (ev j) ∧ EvOK L (ev j)) {post : Mem → Prop} (hq : ∀ M', Fr (PXr g) nQ M M' → CM g M' (thr L ev n) → (∀ j, j < n → mI M' (gB g + (69 + j)) 4 = bI (vdE L (thr L ev j) (ev j)) ∧ mI M' (gB g + (69 + j)) 5 = ptE L (thr L ev j) (ev j)) → post M') : wp_X6_replay g M (gB g + 67) post := by
  have hW := h.2.2.2.1.W
  refine ⟨lk_67 h.1, ?_⟩
  rintro M11 rfl
  refine ⟨_, lr_67_8 h.1, lk_189 h.1, ?_, ?_⟩
  · rw [ln_189 h.1]; exact pk_in 0 2 (by decide)
  rintro M17 rfl
  refine ⟨by rw [ln_189 h.1]; exact pk_in 1 2 (by decide), ?_⟩
  rintro M20 rfl
  rw [show Int32.toNatClampNeg 0 = 0 from rfl, show Int32.toNatClampNeg 1 = 1 from rfl]
  have hM : MC g (uI (uI (uI M (gB g + 67) 4 0) (gB g + 189) 0 0) (gB g + 189) 1 0) r L := ((h.u (by decide)).u (by decide)).u (by decide)
  refine sp_X6_goTo (k := 0) hM (by decide) ?_
  refine lfp_up (fun i s => ∃ M', s = (nI i, M') ∧ Fr (PXr g) nQ M M' ∧ CM g M' (thr L ev i) ∧ ∀ j, j < i → mI M' (gB g + (69 + j)) 4 = bI (vdE L (thr L ev j) (ev j)) ∧ mI M' (gB g + (69 + j)) 5 = ptE L (thr L ev j) (ev j)) n ?_ ?_ 0 _ (by omega) ?_
  · rintro bk s ⟨M', rfl, f, hc, hj⟩
    show bd_X6_replay_26 g M (gB g + 67) _ bk _ _
    unfold bd_X6_replay_26
    rw [f.1 _ _ (by unfold PXr; omega), h3]
    exact pk_le n n (fun _ => hq M' f hc hj) (fun hx => by omega)
  · rintro bk i s hi ⟨M', rfl, f, hc, hj⟩ hb
    show bd_X6_replay_26 g M (gB g + 67) _ bk _ _
    unfold bd_X6_replay_26
    rw [f.1 _ _ (by unfold PXr; omega), h3]
    refine pk_le n i (fun hx => by omega) (fun _ => pk_le 120 i (fun hx => by omega) (fun _ => ?_))
    have h' := h.fr f (pxr_r g)
    refine ⟨_, lr_67_2 h'.1, lk_68 h.1, ?_, (gB g + (69 + i)), ?_, ?_⟩
    · rw [ln_68 h.1]; exact pk_in i 120 (by omega)
    · rw [pk_cl i]; exact lr_ev h'.1 (by omega)
    · have hle := thr_le (ev := ev) i (fun j hj => (he j (by omega)).2)
      refine sp_X6_apply h' (by omega) hc ((he i hi).1.fr f (fun k hk => pxr_e g i k hk (by omega))) (he i hi).2 (by omega) (fun M2 f2 c2 v2 p2 => hb _ ⟨M2, by rw [nI_1], f.tr (f2.mono (pxe_pxr g (by omega)) (fun _ _ h => h)), c2, fun j hj2 => ?_⟩)
      rcases (show j < i ∨ j = i by omega) with hx | rfl
      · rw [f2.1 _ 4 (by unfold PXe; omega), f2.1 _ 5 (by unfold PXe; omega)]; exact hj j hx
      · exact ⟨v2, p2⟩
  · refine ⟨_, rfl, ?_, ?_, fun j hj => by omega⟩
    · refine ((((((Fr.rf.uI ?_).uI ?_).uI ?_).uI ?_).uI ?_).uI ?_)
      · exact Or.inl ⟨rfl, by decide, by decide⟩
      · exact Or.inr (Or.inl rfl)
      · exact Or.inr (Or.inl rfl)
      · exact Or.inl ⟨rfl, by decide, by decide⟩
      · exact Or.inl ⟨rfl, by decide, by decide⟩
      · exact Or.inl ⟨rfl, by decide, by decide⟩
    · exact CM.mk (by simp [s_II, thr, gT, sH]) (by simp [s_II, thr, gT, sW]) (by simp [s_II, thr, gT, sS, bI]) (by simp [s_II, thr, gT, sP, z0]) (by simp [s_II, thr, gT, sQ, z0]) (by simp [s_II, thr, gT, sV, z0])
/-! PURE: all events gone through, by the reference -/
def MX (g : Gh) (M : Mem) (L : LawT) : Prop := Lay g M ∧ LM g M L ∧ mI M (gB g + 195) 44 = nI (lW L)
def MM (g : Gh) (M : Mem) (s : MS) : Prop := mI M (gB g + 195) 50 = nI (sH s) ∧ mI M (gB g + 195) 51 = sW s ∧ mI M (gB g + 195) 52 = bI (sS s) ∧ mI M (gB g + 195) 53 = sP s ∧ mI M (gB g + 195) 54 = sQ s ∧ mI M (gB g + 195) 55 = sV s
def ME (g : Gh) (M : Mem) (j : Nat) (e : EvT) : Prop := mI M (gB g + 223) j = nI (eQ e) ∧ mI M (gB g + 224) j = eK e ∧ mI M (gB g + 225) j = eS e ∧ mI M (gB g + 227) j = bI (eR e)
def PMe (g : Gh) (j : Nat) : Nat → Nat → Prop := fun a k => (a = (gB g + 195) ∧ 50 ≤ k ∧ k ≤ 55) ∨ ((a = (gB g + 226) ∨ a = (gB g + 228)) ∧ k = j)
def PMr (g : Gh) : Nat → Nat → Prop := fun a k => (a = (gB g + 195) ∧ 50 ≤ k ∧ k ≤ 55) ∨ a = (gB g + 226) ∨ a = (gB g + 228)
theorem LM.fr {g : Gh} {M M' : Mem} {L : LawT} {P Q : Nat → Nat → Prop} (h : LM g M L) (f : Fr P Q M M') (hp : ∀ a k, P a k → ¬ ((gB g + 210) ≤ a ∧ a ≤ (gB g + 214)) ∧ ¬ (a = (gB g + 195) ∧ 39 ≤ k ∧ k ≤ 40)) : LM g M' L := by
  have e : ∀ i k, 210 ≤ i → i ≤ 214 → mI M' (gB g + (i)) k = mI M (gB g + (i)) k := fun i k h1 h2 => f.1 _ _ (fun hh => by have := hp _ _ hh; omega)
  refine ⟨h.1, ?_, ?_, fun k hk => ?_⟩
  · rw [f.1 _ _ (fun hh => by have := hp _ _ hh; omega)]; exact h.2.1
  · rw [f.1 _ _ (fun hh => by have := hp _ _ hh; omega)]; exact h.2.2.1
  · rw [e 210 k (by decide) (by decide), e 211 k (by decide) (by decide), e 212 k (by decide) (by decide), e 213 k (by decide) (by decide), e 214 k (by decide) (by decide)]
    exact h.2.2.2 k hk
theorem MX.fr {g : Gh} {M M' : Mem} {L : LawT} {P Q : Nat → Nat → Prop} (h : MX g M L) (f : Fr P Q M M') (hp : ∀ a k, P a k → ¬ ((gB g + 210) ≤ a ∧ a ≤ (gB g + 214)) ∧ ¬ (a = (gB g + 195) ∧ 39 ≤ k ∧ k ≤ 40) ∧ ¬ (a = (gB g + 195) ∧ k = 44)) : MX g M' L := ⟨f.lay h.1, h.2.1.fr f (fun a k hh => ⟨(hp a k hh).1, (hp a k hh).2.1⟩), by rw [f.1 _ _ (fun hh => (hp _ _ hh).2.2 ⟨rfl, rfl⟩)]; exact h.2.2⟩
theorem MX.u {g : Gh} {M : Mem} {L : LawT} (h : MX g M L) {k : Nat} {v : Int32} (hk : 50 ≤ k) : MX g (uI M (gB g + 195) k v) L :=
  h.fr (P := fun a j => a = (gB g + 195) ∧ j = k) (Q := nQ) (Fr.rf.uI ⟨rfl, rfl⟩) (fun a k hh => by omega)
theorem MX.w {g : Gh} {M : Mem} {L : LawT} (h : MX g M L) {i k : Nat} {v : Int32} (hk : 214 < i) : MX g (uI M (gB g + (i)) k v) L :=
  h.fr (P := fun a j => a = (gB g + (i))) (Q := nQ) (Fr.rf.uI rfl) (fun a k hh => by omega)
theorem pme_x (g : Gh) (j : Nat) : ∀ a k, PMe g j a k → ¬ ((gB g + 210) ≤ a ∧ a ≤ (gB g + 214)) ∧ ¬ (a = (gB g + 195) ∧ 39 ≤ k ∧ k ≤ 40) ∧ ¬ (a = (gB g + 195) ∧ k = 44) := by
  intro a k h; unfold PMe at h; omega
theorem pmr_x (g : Gh) : ∀ a k, PMr g a k → ¬ ((gB g + 210) ≤ a ∧ a ≤ (gB g + 214)) ∧ ¬ (a = (gB g + 195) ∧ 39 ≤ k ∧ k ≤ 40) ∧ ¬ (a = (gB g + 195) ∧ k = 44) := by
  intro a k h; unfold PMr at h; omega
theorem pme_pmr (g : Gh) (j : Nat) : ∀ a k, PMe g j a k → PMr g a k := by
  intro a k h; unfold PMe at h; unfold PMr; omega
theorem ME.fr {g : Gh} {M M' : Mem} {j : Nat} {e : EvT} {P Q : Nat → Nat → Prop} (h : ME g M j e) (f : Fr P Q M M') (hp : ∀ a, (a = (gB g + 223) ∨ a = (gB g + 224) ∨ a = (gB g + 225) ∨ a = (gB g + 227)) → ¬ P a j) : ME g M' j e := by
  unfold ME
  rw [f.1 _ _ (hp (gB g + 223) (by omega)), f.1 _ _ (hp (gB g + 224) (by omega)), f.1 _ _ (hp (gB g + 225) (by omega)), f.1 _ _ (hp (gB g + 227) (by omega))]
  exact h
theorem pme_e (g : Gh) (j i : Nat) : ∀ a, (a = (gB g + 223) ∨ a = (gB g + 224) ∨ a = (gB g + 225) ∨ a = (gB g + 227)) → ¬ PMe g j a i := by
  intro a h hh; unfold PMe at hh; omega
theorem pmr_e (g : Gh) (i : Nat) : ∀ a, (a = (gB g + 223) ∨ a = (gB g + 224) ∨ a = (gB g + 225) ∨ a = (gB g + 227)) → ¬ PMr g a i := by
  intro a h hh; unfold PMr at hh; omega
theorem MM.mk {g : Gh} {M : Mem} {s : MS} (h5 : mI M (gB g + 195) 50 = nI (sH s)) (h6 : mI M (gB g + 195) 51 = sW s) (h7 : mI M (gB g + 195) 52 = bI (sS s)) (h0 : mI M (gB g + 195) 53 = sP s) (h1 : mI M (gB g + 195) 54 = sQ s) (h4 : mI M (gB g + 195) 55 = sV s) : MM g M s := ⟨h5, h6, h7, h0, h1, h4⟩
theorem MM.w {g : Gh} {M : Mem} {s : MS} (h : MM g M s) {i k : Nat} {v : Int32} (hi : i ≠ 195) : MM g (uI M (gB g + (i)) k v) s := by
  have e : ∀ j, mI (uI M (gB g + (i)) k v) (gB g + 195) j = mI M (gB g + 195) j := fun j => by rw [s_II, if_neg (by omega)]
  unfold MM; rw [e, e, e, e, e, e]; exact h
theorem nb_1 : vp_nar .boolean 1 = 1 := rfl
theorem nb_0 : vp_nar .boolean 0 = 0 := rfl
theorem sp_X12_hands {g : Gh} {M : Mem} {L : LawT} (h : MX g M L) {k : Nat} (hk : k < 1000) {post : Mem → Prop} (hq : post (uI (uI (uI M (gB g + 195) 50 (nI k)) (gB g + 195) 52 0) (gB g + 195) 51 (whoT L k))) : wp_X12_hands g M (gB g + 195) (nI k) post := by
  have hW := h.2.1.1.W
  refine ⟨lk_195 h.1, ?_⟩
  rintro M1 rfl M3 rfl
  have h3 : MX g (uI (uI M (gB g + 195) 50 (nI k)) (gB g + 195) 52 0) L := (h.u (by decide)).u (by decide)
  rw [h3.2.2]
  unfold whoT at hq
  refine pk_lt k (lW L) (fun hc => ⟨_, lr_195_33 h.1, sp_X12_roundOf h3.1 h3.2.1 hc ?_⟩) (fun hc => ?_)
  · have h6 := rd_6 h.2.1.1 hc
    refine ⟨lk_214 h.1, by rw [ln_214 h.1]; exact pk_in (rd L k) 6 h6, ?_⟩
    rw [pk_cl (rd L k), (h3.2.1.2.2.2 _ (rd_is h.2.1.1 hc).1).2.1]
    rw [if_pos hc] at hq
    by_cases hb : lB L (rd L k) = true
    · rw [if_pos hb] at hq
      rw [hb]
      exact ⟨fun hh => absurd hh (by decide), fun _ M13 e => by rw [e]; exact hq⟩
    · rw [if_neg hb] at hq
      rw [Bool.not_eq_true] at hb
      rw [hb]
      exact ⟨fun _ M11 e => by rw [e, r2 (by omega)]; exact hq, fun hh => absurd rfl hh⟩
  · rw [if_neg (by omega)] at hq
    rintro M17 rfl; exact hq
