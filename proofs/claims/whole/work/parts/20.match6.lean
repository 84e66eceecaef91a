/-! PURE: the reference goes through all events -/
theorem th_114 {g : Gh} {M M0 : Mem} {L : LawT} (h : MX g M L) (h0 : Lay g M0) {s : MS} {e : EvT} {j : Nat} (hj : j < 120) (hs : MM g M s) (he : ME g M j e) (hE : EvOK L e) (hle : eQ e ≤ sH s) (hp0 : mI M (gB g + 226) j = 0) {v : Int32} (hv : v = bI (vdT s e)) {post : Mem → Prop} {bk : Int32 × Mem → Prop} (hq : ∀ M', Fr (PMe g j) nQ M M' → MM g M' (apT L s e) → mI M' (gB g + 228) j = bI (vdT s e) → mI M' (gB g + 226) j = (if vdT s e = true then 0 else ptT L s e) → bk (nI (j + 1), M')) : lb_X12_through_114 g M0 (gB g + 195) post bk (nI j) (gB g + 228) (nI j) v M := by
  subst hv
  refine ⟨lk_228 h0, by rw [ln_228 h0]; exact pk_in j 120 hj, ?_⟩
  rintro M3 rfl
  rw [pk_cl j, show vp_nar .boolean (bI (vdT s e)) = bI (vdT s e) by cases vdT s e <;> rfl]
  have h3 : MX g (uI M (gB g + 228) j (bI (vdT s e))) L := h.w (by decide)
  have f3 : Fr (PMe g j) nQ M (uI M (gB g + 228) j (bI (vdT s e))) := Fr.rf.uI (Or.inr ⟨Or.inr rfl, rfl⟩)
  have s3 : MM g (uI M (gB g + 228) j (bI (vdT s e))) s := hs.w (by decide)
  have e3 : ME g (uI M (gB g + 228) j (bI (vdT s e))) j e := he.fr f3 (pme_e g j j)
  have p3 : mI (uI M (gB g + 228) j (bI (vdT s e))) (gB g + 226) j = 0 := by rw [s_II, if_neg (by omega)]; exact hp0
  have v3 : mI (uI M (gB g + 228) j (bI (vdT s e))) (gB g + 228) j = bI (vdT s e) := by simp [s_II]
  generalize uI M (gB g + 228) j (bI (vdT s e)) = M1 at h3 f3 s3 e3 p3 v3 ⊢
  refine ⟨_, lr_195_61 h3.1, lk_228 h0, by rw [ln_228 h0]; exact pk_in j 120 hj, ?_⟩
  rw [v3, s3.1]
  cases hv : vdT s e with
  | true =>
    refine ⟨fun hy => absurd hy (by decide), fun _ => ?_⟩
    rintro M14 rfl
    rw [nI_1, s3.2.2.2.2.2]
    have ea : apT L s e = (sH s, sW s, sS s, sP s, sQ s, sV s + 1) := by unfold apT; rw [if_pos hv]
    refine hq _ (f3.uI (Or.inl ⟨rfl, by decide, by decide⟩)) ?_ ?_ ?_
    · rw [ea]
      exact MM.mk (by simp [s_II, s3.1, sH]) (by simp [s_II, s3.2.1, sW]) (by simp [s_II, s3.2.2.1, sS]) (by simp [s_II, s3.2.2.2.1, sP]) (by simp [s_II, s3.2.2.2.2.1, sQ]) (by simp [s_II, sV])
    · rw [s_II, if_neg (by omega)]; exact v3
    · rw [s_II, if_neg (by omega), hv]; exact p3
  | false =>
    refine ⟨fun _ => ?_, fun hy => absurd rfl hy⟩
    have hv2 : ¬ eQ e < sH s := by
      intro hx
      have : vdT s e = true := by simp [vdT, hx]
      rw [this] at hv; cases hv
    have hE1 := hE.1
    refine sp_X12_roundOf h3.1 h3.2.1 (by omega) ?_
    refine sp_X12_happens h3 hj s3 e3 hE (by omega) p3 (fun M' f4 s4 p4 v4 => ?_)
    rw [nI_1]
    refine hq M' (f3.tr f4) ?_ ?_ ?_
    · unfold apT; rw [hv]; exact s4
    · rw [v4, v3]
    · rw [p4, hv]; rfl
theorem th_60 {g : Gh} {M M0 : Mem} {L : LawT} (h : MX g M L) (h0 : Lay g M0) {s : MS} {e : EvT} {j : Nat} (hj : j < 120) (hs : MM g M s) (he : ME g M j e) (hE : EvOK L e) (hle : eQ e ≤ sH s) (hh : sH s < 1000) (hp0 : mI M (gB g + 226) j = 0) {post : Mem → Prop} {bk : Int32 × Mem → Prop} (hq : ∀ M', Fr (PMe g j) nQ M M' → MM g M' (apT L s e) → mI M' (gB g + 228) j = bI (vdT s e) → mI M' (gB g + 226) j = (if vdT s e = true then 0 else ptT L s e) → bk (nI (j + 1), M')) : lb_X12_through_60 g M0 (gB g + 195) post bk (nI j) M := by
  have k := fun v hv => th_114 (M0 := M0) h h0 hj hs he hE hle hp0 (v := v) hv (post := post) hq
  refine ⟨_, lr_195_61 h.1, _, lr_195_56 h.1, lk_223 h0, by rw [ln_223 h0]; exact pk_in j 120 hj, ?_⟩
  rw [pk_cl j, he.1, hs.1]
  refine pk_lt (eQ e) (sH s) (fun hc => k 1 (by simp [vdT, hc, bI])) (fun hc => ⟨_, lr_195_57 h.1, lk_224 h0, by rw [ln_224 h0]; exact pk_in j 120 hj, ?_⟩)
  have hc' : ¬ eQ e < sH s := by omega
  rw [he.2.1]
  refine ⟨fun hy => k 0 ?_, fun hy => ?_⟩
  · have : eK e = 2 := by
      rcases hE.2 with h3 | h3
      · exact h3.1
      · rcases h3.1 with h4 | h4
        · rw [h4] at hy; exact absurd hy (by decide)
        · rw [h4.1] at hy; exact absurd hy (by decide)
    simp [vdT, hc', this, bI]
  · have h2 : ¬ eK e = 2 := fun hx => hy (by rw [hx]; decide)
    rw [hs.2.1]
    refine ⟨fun hz => k 0 (by simp [vdT, hc', hz, bI]), fun hz => ⟨_, lr_195_58 h.1, lk_225 h0, by rw [ln_225 h0]; exact pk_in j 120 hj, ?_⟩⟩
    (try rw [pk_cl j]); rw [he.2.2.1]
    exact ⟨fun hw => k 0 (by simp [vdT, hc', hw, bI]), fun hw => k 1 (by simp [vdT, hz, hw, h2, bI])⟩
theorem sp_X12_through {g : Gh} {M : Mem} {L : LawT} (h : MX g M L) {n : Nat} {ev : Nat → EvT} (hn : n ≤ 120) (h49 : mI M (gB g + 195) 49 = nI n) (he : ∀ j, j < n → ME g M j (ev j) ∧ EvOK L (ev j)) {post : Mem → Prop} (hq : ∀ M', Fr (PMr g) nQ M M' → MM g M' (thr L ev n) → (∀ j, j < n → mI M' (gB g + 228) j = bI (vdE L (thr L ev j) (ev j)) ∧ mI M' (gB g + 226) j = ptE L (thr L ev j) (ev j)) → post M') : wp_X12_through g M (gB g + 195) post := by
  have hW := h.2.1.1.W
  refine ⟨lk_195 h.1, sp_X12_hands (k := 0) h (by decide) ?_⟩
  rintro M50 rfl M52 rfl M54 rfl
  refine lfp_up (fun i s => ∃ M', s = (nI i, M') ∧ Fr (PMr g) nQ M M' ∧ MM g M' (thr L ev i) ∧ ∀ j, j < i → mI M' (gB g + 228) j = bI (vdE L (thr L ev j) (ev j)) ∧ mI M' (gB g + 226) j = ptE L (thr L ev j) (ev j)) n ?_ ?_ 0 _ (by omega) ?_
  · rintro bk s ⟨M', rfl, f, hc, hj⟩
    show bd_X12_through_22 g M (gB g + 195) _ bk _ _
    unfold bd_X12_through_22
    rw [f.1 _ _ (by unfold PMr; omega), h49]
    exact pk_le n n (fun _ => hq M' f hc hj) (fun hx => by omega)
  · rintro bk i s hi ⟨M', rfl, f, hc, hj⟩ hb
    show bd_X12_through_22 g M (gB g + 195) _ bk _ _
    unfold bd_X12_through_22
    rw [f.1 _ _ (by unfold PMr; omega), h49]
    have h' := h.fr f (pmr_x g)
    have hi120 : i < 120 := by omega
    refine pk_le n i (fun hx => by omega) (fun _ => ⟨_, lr_195_59 h'.1, lk_226 h.1, by rw [ln_226 h.1]; exact pk_in i 120 hi120, ?_⟩)
    rintro M39 rfl
    rw [pk_cl i]
    have h3 : MX g (uI M' (gB g + 226) i 0) L := h'.w (by decide)
    have f3 : Fr (PMe g i) nQ M' (uI M' (gB g + 226) i 0) := Fr.rf.uI (Or.inr ⟨Or.inl rfl, rfl⟩)
    have s3 : MM g (uI M' (gB g + 226) i 0) (thr L ev i) := hc.w (by decide)
    have e3 : ME g (uI M' (gB g + 226) i 0) i (ev i) := ((he i hi).1.fr f (pmr_e g i)).fr f3 (pme_e g i i)
    have p3 : mI (uI M' (gB g + 226) i 0) (gB g + 226) i = 0 := by simp [s_II]
    generalize uI M' (gB g + 226) i 0 = M1 at h3 f3 s3 e3 p3 ⊢
    have hle := thr_le (ev := ev) i (fun j hj => (he j (by omega)).2)
    have hE := (he i hi).2
    have hE1 := hE.1
    refine ⟨_, lr_195_56 h3.1, lk_223 h.1, by rw [ln_223 h.1]; exact pk_in i 120 hi120, ?_⟩
    rw [e3.1, s3.1]
    have fin : ∀ M2, Fr (PMe g i) nQ M' M2 → MM g M2 (apE L (thr L ev i) (ev i)) → mI M2 (gB g + 228) i = bI (vdE L (thr L ev i) (ev i)) → mI M2 (gB g + 226) i = ptE L (thr L ev i) (ev i) → bk (nI (i + 1), M2) := by
      intro M2 f2 c2 v2 p2
      refine hb _ ⟨M2, rfl, f.tr (f2.mono (pme_pmr g i) (fun _ _ h => h)), c2, fun j hj2 => ?_⟩
      rcases (show j < i ∨ j = i by omega) with hx | rfl
      · rw [f2.1 (gB g + 228) j (by unfold PMe; omega), f2.1 (gB g + 226) j (by unfold PMe; omega)]; exact hj j hx
      · exact ⟨v2, p2⟩
    unfold apE vdE ptE vdE at fin
    refine pk_le (eQ (ev i)) (sH (thr L ev i)) (fun hx => ?_) (fun hx => ?_)
    · have e1 : s1T L (thr L ev i) (ev i) = thr L ev i := if_neg (by omega)
      rw [e1] at fin
      exact th_60 h3 h.1 hi120 s3 e3 hE hx (by omega) p3 (fun M2 f2 => fin M2 (f3.tr f2))
    · have e1 : s1T L (thr L ev i) (ev i) = gT L (eQ (ev i)) (thr L ev i) := if_pos hx
      rw [e1] at fin
      refine sp_X12_hands h3 (by omega) ?_
      have f4 : Fr (PMe g i) nQ M1 (uI (uI (uI M1 (gB g + 195) 50 (nI (eQ (ev i)))) (gB g + 195) 52 0) (gB g + 195) 51 (whoT L (eQ (ev i)))) := ((Fr.rf.uI (Or.inl ⟨rfl, by decide, by decide⟩)).uI (Or.inl ⟨rfl, by decide, by decide⟩)).uI (Or.inl ⟨rfl, by decide, by decide⟩)
      refine th_60 (s := gT L (eQ (ev i)) (thr L ev i)) (h3.fr f4 (pme_x g i)) h.1 hi120 ?_ (e3.fr f4 (pme_e g i i)) hE (Nat.le_refl _) (show eQ (ev i) < 1000 by omega) ?_ (fun M2 f2 => fin M2 (f3.tr (f4.tr f2)))
      · exact MM.mk (by simp [s_II, gT, sH]) (by simp [s_II, gT, sW]) (by simp [s_II, gT, sS, bI]) (by simp [s_II, s3.2.2.2.1, gT, sP]) (by simp [s_II, s3.2.2.2.2.1, gT, sQ]) (by simp [s_II, s3.2.2.2.2.2, gT, sV])
      · simp only [s_II]; rw [if_neg (by omega), if_neg (by omega), if_neg (by omega)]; exact p3
  · refine ⟨_, rfl, ?_, ?_, fun j hj => by omega⟩
    · refine ((((((Fr.rf.uI ?_).uI ?_).uI ?_).uI ?_).uI ?_).uI ?_)
      · exact Or.inl ⟨rfl, by decide, by decide⟩
      · exact Or.inl ⟨rfl, by decide, by decide⟩
      · exact Or.inl ⟨rfl, by decide, by decide⟩
      · exact Or.inl ⟨rfl, by decide, by decide⟩
      · exact Or.inl ⟨rfl, by decide, by decide⟩
      · exact Or.inl ⟨rfl, by decide, by decide⟩
    · exact MM.mk (by simp [s_II, thr, gT, sH]) (by simp [s_II, thr, gT, sW]) (by simp [s_II, thr, gT, sS, bI]) (by simp [s_II, thr, gT, sP, z0]) (by simp [s_II, thr, gT, sQ, z0]) (by simp [s_II, thr, gT, sV, z0])
