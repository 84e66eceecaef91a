/-! PURE: the class goes through an event, and through all -/
theorem CM.mk {g : Gh} {M : Mem} {s : MS} (h5 : mI M (gB g + 67) 5 = nI (sH s)) (h6 : mI M (gB g + 67) 6 = sW s) (h7 : mI M (gB g + 67) 7 = bI (sS s)) (h0 : mI M (gB g + 189) 0 = sP s) (h1 : mI M (gB g + 189) 1 = sQ s) (h4 : mI M (gB g + 67) 4 = sV s) : CM g M s := ⟨h5, h6, h7, h0, h1, h4⟩
theorem CE.fr {g : Gh} {M M' : Mem} {j : Nat} {e : EvT} {P Q : Nat → Nat → Prop} (h : CE g M j e) (f : Fr P Q M M') (hp : ∀ k, k < 4 → ¬ P (gB g + (69 + j)) k) : CE g M' j e := by
  unfold CE
  rw [f.1 _ 0 (hp 0 (by decide)), f.1 _ 1 (hp 1 (by decide)), f.1 _ 2 (hp 2 (by decide)), f.1 _ 3 (hp 3 (by decide))]
  exact h
theorem pxe_r (g : Gh) (j : Nat) : ∀ a k, PXe g j a k → a < (gB g + 49) ∨ (gB g + 60) < a := by
  intro a k h; unfold PXe at h; omega
theorem pxe_e (g : Gh) {j : Nat} (hj : j < 120) : ∀ i k, k < 4 → i < 120 → ¬ PXe g j (gB g + (69 + i)) k := by
  intro i k h hi hh; unfold PXe at hh; omega
theorem ap_128 {g : Gh} {M M0 : Mem} {r : Nat} {L : LawT} (h : MC g M r L) (h0 : Lay g M0) {s : MS} {e : EvT} {j : Nat} (hj : j < 120) (hs : CM g M s) (he : CE g M j e) (hh : sH s < lW L) {post : Mem → Prop} (hq : ∀ M', Fr (PXe g j) nQ M M' → CM g M' (nxT L (otT L s e) s e) → mI M' (gB g + (69 + j)) 4 = mI M (gB g + (69 + j)) 4 → mI M' (gB g + (69 + j)) 5 = mI M (gB g + (69 + j)) 5 → post M') : lb_X6_apply_128 g M0 (gB g + 67) (gB g + (69 + j)) post M := by
  have hW := h.2.2.2.1.W
  refine sp_X6_goesToOther h hj hs he hh ?_
  cases ho : otT L s e with
  | true =>
    refine ⟨fun hx => absurd hx (by decide), fun _ => ?_⟩
    rintro M6 rfl
    refine ⟨lk_ev h0 hj, ?_⟩
    rintro M9 rfl
    rw [ho] at hq
    refine hq _ ((Fr.rf.uI ?_).uI ?_) ?_ ?_ ?_
    · exact Or.inl ⟨rfl, by decide, by decide⟩
    · exact Or.inl ⟨rfl, by decide, by decide⟩
    · have : mI (uI M (gB g + 67) 7 1) (gB g + (69 + j)) 2 = eS e := by rw [s_II, if_neg (by omega)]; exact he.2.2.1
      rw [this]
      exact CM.mk (by simp [s_II, hs.1, nxT, sH]) (by simp [s_II, nxT, sW]) (by simp [s_II, nxT, sS, bI]) (by simp [s_II, hs.2.2.2.1, nxT, sP]) (by simp [s_II, hs.2.2.2.2.1, nxT, sQ]) (by simp [s_II, hs.2.2.2.2.2, nxT, sV])
    · rw [s_II, if_neg (by omega), s_II, if_neg (by omega)]
    · rw [s_II, if_neg (by omega), s_II, if_neg (by omega)]
  | false =>
    refine ⟨fun _ => ?_, fun hx => absurd rfl hx⟩
    rw [hs.1, nI_1]
    rw [ho] at hq
    refine sp_X6_goTo h (by omega) (hq _ (((Fr.rf.uI ?_).uI ?_).uI ?_) ?_ ?_ ?_)
    · exact Or.inl ⟨rfl, by decide, by decide⟩
    · exact Or.inl ⟨rfl, by decide, by decide⟩
    · exact Or.inl ⟨rfl, by decide, by decide⟩
    · exact CM.mk (by simp [s_II, nxT, gT, sH]) (by simp [s_II, nxT, gT, sW]) (by simp [s_II, nxT, gT, sS, bI]) (by simp [s_II, hs.2.2.2.1, nxT, gT, sP]) (by simp [s_II, hs.2.2.2.2.1, nxT, gT, sQ]) (by simp [s_II, hs.2.2.2.2.2, nxT, gT, sV])
    · simp only [s_II]; rw [if_neg (by omega), if_neg (by omega), if_neg (by omega)]
    · simp only [s_II]; rw [if_neg (by omega), if_neg (by omega), if_neg (by omega)]
theorem ap_19 {g : Gh} {M M0 : Mem} {r : Nat} {L : LawT} (h : MC g M r L) (h0 : Lay g M0) {s : MS} {e : EvT} {j : Nat} (hj : j < 120) (hs : CM g M s) (he : CE g M j e) (hE : EvOK L e) (hh : eQ e ≤ sH s) (hh2 : sH s < 1000) {post : Mem → Prop} (hq : ∀ M', Fr (PXe g j) nQ M M' → CM g M' (apT L s e) → mI M' (gB g + (69 + j)) 4 = bI (vdT s e) → mI M' (gB g + (69 + j)) 5 = (if vdT s e = true then 0 else ptT L s e) → post M') : lb_X6_apply_19 g M0 (gB g + 67) (gB g + (69 + j)) post M := by
  have hW := h.2.2.2.1.W
  refine ⟨lk_ev h0 hj, ?_⟩
  rintro M33 rfl
  have h3 : MC g (uI M (gB g + (69 + j)) 5 0) r L := h.u (by omega)
  have f3 : Fr (PXe g j) nQ M (uI M (gB g + (69 + j)) 5 0) := Fr.rf.uI (Or.inr (Or.inr ⟨rfl, Or.inr rfl⟩))
  have s3 : CM g (uI M (gB g + (69 + j)) 5 0) s := by
    refine CM.mk ?_ ?_ ?_ ?_ ?_ ?_
    · rw [s_II, if_neg (by omega)]; exact hs.1
    · rw [s_II, if_neg (by omega)]; exact hs.2.1
    · rw [s_II, if_neg (by omega)]; exact hs.2.2.1
    · rw [s_II, if_neg (by omega)]; exact hs.2.2.2.1
    · rw [s_II, if_neg (by omega)]; exact hs.2.2.2.2.1
    · rw [s_II, if_neg (by omega)]; exact hs.2.2.2.2.2
  have e3 : CE g (uI M (gB g + (69 + j)) 5 0) j e := he.fr f3 (fun k hk => pxe_e g hj j k hk hj)
  have p3 : mI (uI M (gB g + (69 + j)) 5 0) (gB g + (69 + j)) 5 = 0 := by simp [s_II]
  generalize uI M (gB g + (69 + j)) 5 0 = M1 at h3 f3 s3 e3 p3 ⊢
  -- void
  have kv : vdT s e = true → lb_X6_apply_67 g M0 (gB g + 67) (gB g + (69 + j)) post (gB g + (69 + j)) 1 M1 := by
    intro hv
    refine ⟨lk_ev h0 hj, Or.inr rfl, ?_⟩
    rintro M20 rfl
    refine ⟨lk_ev h0 hj, ?_⟩
    rw [show mI (uI M1 (gB g + (69 + j)) 4 1) (gB g + (69 + j)) 4 = 1 by simp [s_II]]
    refine ⟨fun hx => absurd hx (by decide), fun _ => ?_⟩
    rintro M30 rfl
    have e4 : mI (uI M1 (gB g + (69 + j)) 4 1) (gB g + 67) 4 = sV s := by rw [s_II, if_neg (by omega)]; exact s3.2.2.2.2.2
    rw [e4]
    have ea : apT L s e = (sH s, sW s, sS s, sP s, sQ s, sV s + 1) := by unfold apT; rw [if_pos hv]
    refine hq _ ((f3.uI (Or.inr (Or.inr ⟨rfl, Or.inl rfl⟩))).uI (Or.inl ⟨rfl, by decide, by decide⟩)) ?_ ?_ ?_
    · rw [ea]
      refine CM.mk ?_ ?_ ?_ ?_ ?_ ?_
      · rw [s_II, if_pos rfl, if_neg (by decide), s_II, if_neg (by omega)]; exact s3.1
      · rw [s_II, if_pos rfl, if_neg (by decide), s_II, if_neg (by omega)]; exact s3.2.1
      · rw [s_II, if_pos rfl, if_neg (by decide), s_II, if_neg (by omega)]; exact s3.2.2.1
      · simp only [s_II]; rw [if_neg (by omega), if_neg (by omega)]; exact s3.2.2.2.1
      · simp only [s_II]; rw [if_neg (by omega), if_neg (by omega)]; exact s3.2.2.2.2.1
      · simp [s_II, sV]
    · simp only [s_II]; rw [if_neg (by omega), hv]; simp [bI]
    · simp only [s_II]; rw [if_neg (by omega), if_pos hv]; simp [p3]
  -- not void
  have kn : vdT s e = false → sH s < lW L → lb_X6_apply_67 g M0 (gB g + 67) (gB g + (69 + j)) post (gB g + (69 + j)) 0 M1 := by
    intro hv hlt
    refine ⟨lk_ev h0 hj, Or.inl rfl, ?_⟩
    rintro M20 rfl
    refine ⟨lk_ev h0 hj, ?_⟩
    rw [show mI (uI M1 (gB g + (69 + j)) 4 0) (gB g + (69 + j)) 4 = 0 by simp [s_II]]
    refine ⟨fun _ => ?_, fun hx => absurd rfl hx⟩
    have h4 : MC g (uI M1 (gB g + (69 + j)) 4 0) r L := h3.u (by omega)
    have f4 : Fr (PXe g j) nQ M (uI M1 (gB g + (69 + j)) 4 0) := f3.uI (Or.inr (Or.inr ⟨rfl, Or.inl rfl⟩))
    have s4 : CM g (uI M1 (gB g + (69 + j)) 4 0) s := by
      refine CM.mk ?_ ?_ ?_ ?_ ?_ ?_
      · rw [s_II, if_neg (by omega)]; exact s3.1
      · rw [s_II, if_neg (by omega)]; exact s3.2.1
      · rw [s_II, if_neg (by omega)]; exact s3.2.2.1
      · rw [s_II, if_neg (by omega)]; exact s3.2.2.2.1
      · rw [s_II, if_neg (by omega)]; exact s3.2.2.2.2.1
      · rw [s_II, if_neg (by omega)]; exact s3.2.2.2.2.2
    have e4 : CE g (uI M1 (gB g + (69 + j)) 4 0) j e := he.fr f4 (fun k hk => pxe_e g hj j k hk hj)
    have v4 : mI (uI M1 (gB g + (69 + j)) 4 0) (gB g + (69 + j)) 4 = 0 := by simp [s_II]
    generalize uI M1 (gB g + (69 + j)) 4 0 = M2 at h4 f4 s4 e4 v4 ⊢
    refine sp_X6_worthOf h4 hj s4 e4 hlt ?_
    rintro M26 rfl
    have h5 : MC g (uI M2 (gB g + (69 + j)) 5 (ptT L s e)) r L := h4.u (by omega)
    have f5 : Fr (PXe g j) nQ M (uI M2 (gB g + (69 + j)) 5 (ptT L s e)) := f4.uI (Or.inr (Or.inr ⟨rfl, Or.inr rfl⟩))
    have s5 : CM g (uI M2 (gB g + (69 + j)) 5 (ptT L s e)) s := by
      refine CM.mk ?_ ?_ ?_ ?_ ?_ ?_
      · rw [s_II, if_neg (by omega)]; exact s4.1
      · rw [s_II, if_neg (by omega)]; exact s4.2.1
      · rw [s_II, if_neg (by omega)]; exact s4.2.2.1
      · rw [s_II, if_neg (by omega)]; exact s4.2.2.2.1
      · rw [s_II, if_neg (by omega)]; exact s4.2.2.2.2.1
      · rw [s_II, if_neg (by omega)]; exact s4.2.2.2.2.2
    have e5 : CE g (uI M2 (gB g + (69 + j)) 5 (ptT L s e)) j e := he.fr f5 (fun k hk => pxe_e g hj j k hk hj)
    have v5 : mI (uI M2 (gB g + (69 + j)) 5 (ptT L s e)) (gB g + (69 + j)) 4 = 0 := by simp [s_II, v4]
    have p5 : mI (uI M2 (gB g + (69 + j)) 5 (ptT L s e)) (gB g + (69 + j)) 5 = ptT L s e := by simp [s_II]
    generalize uI M2 (gB g + (69 + j)) 5 (ptT L s e) = M3 at h5 f5 s5 e5 v5 p5 ⊢
    rw [e5.2.2.1]
    have ea : apT L s e = nxT L (otT L s e) (adT s e (ptT L s e)) e := by unfold apT; rw [hv]; rfl
    have fin : ∀ M4, Fr (PXe g j) nQ M M4 → MC g M4 r L → CM g M4 (adT s e (ptT L s e)) → mI M4 (gB g + (69 + j)) 4 = 0 → mI M4 (gB g + (69 + j)) 5 = ptT L s e → lb_X6_apply_128 g M0 (gB g + 67) (gB g + (69 + j)) post M4 := by
      intro M4 f6 h6 s6 v6 p6
      have eo : otT L (adT s e (ptT L s e)) e = otT L s e := rfl
      refine ap_128 h6 h0 hj s6 (he.fr f6 (fun k hk => pxe_e g hj j k hk hj)) hlt (fun M' f7 s7 v7 p7 => hq M' (f6.tr f7) ?_ ?_ ?_)
      · rw [ea]; rw [eo] at s7; exact s7
      · rw [v7, v6, hv]; rfl
      · rw [p7, p6, hv]; rfl
    have k112 : ∀ i : Nat, i < 2 → eS e = nI i → lb_X6_apply_112 g M0 (gB g + 67) (gB g + (69 + j)) post M3 := by
      intro i hi hs'
      refine ⟨_, lr_67_8 h5.1, lk_ev h0 hj, lk_189 h0, ?_, ?_⟩
      · rw [ln_189 h0, e5.2.2.1, hs']; exact pk_in i 2 hi
      · rintro M16 rfl
        rw [e5.2.2.1, hs', pk_cl i, p5]
        refine fin _ (f5.uI (Or.inr (Or.inl rfl))) (h5.u (by decide)) ?_ ?_ ?_
        · refine CM.mk ?_ ?_ ?_ ?_ ?_ ?_
          · rw [s_II, if_neg (by omega)]; exact s5.1
          · rw [s_II, if_neg (by omega)]; exact s5.2.1
          · rw [s_II, if_neg (by omega)]; exact s5.2.2.1
          · rw [s_II, if_pos rfl]
            rcases (show i = 0 ∨ i = 1 by omega) with rfl | rfl
            · rw [if_pos rfl, s5.2.2.2.1]
              show _ = (if eS e = 0 then _ else _)
              rw [if_pos (show eS e = 0 from hs')]
            · rw [if_neg (by decide), s5.2.2.2.1]
              show _ = (if eS e = 0 then _ else _)
              rw [if_neg (by rw [hs']; decide)]
          · rw [s_II, if_pos rfl]
            rcases (show i = 0 ∨ i = 1 by omega) with rfl | rfl
            · rw [if_neg (by decide), s5.2.2.2.2.1]
              show _ = (if eS e = 1 then _ else _)
              rw [if_neg (by rw [hs']; decide)]
            · rw [if_pos rfl, s5.2.2.2.2.1]
              show _ = (if eS e = 1 then _ else _)
              rw [if_pos (show eS e = 1 from hs')]
          · rw [s_II, if_neg (by omega)]; exact s5.2.2.2.2.2
        · rw [s_II, if_neg (by omega)]; exact v5
        · rw [s_II, if_neg (by omega)]; exact p5
    refine ⟨fun hc => k112 0 (by decide) hc, fun hc => ⟨fun hc2 => k112 1 (by decide) hc2, fun hc2 => ?_⟩⟩
    refine fin _ f5 h5 ?_ v5 p5
    refine CM.mk s5.1 s5.2.1 s5.2.2.1 ?_ ?_ s5.2.2.2.2.2
    · show _ = (if eS e = 0 then _ else _)
      rw [if_neg hc]; exact s5.2.2.2.1
    · show _ = (if eS e = 1 then _ else _)
      rw [if_neg hc2]; exact s5.2.2.2.2.1
  rw [e3.1, s3.1]
  refine pk_lt (eQ e) (sH s) (fun hc => kv (by simp [vdT, hc])) (fun hc => ?_) (hb := by omega)
  have heq : eQ e = sH s := by omega
  have hlt : sH s < lW L := by rw [← heq]; exact hE.1
  refine sp_X6_isOver h3 s3.1 hh2 ?_
  rw [if_pos hlt]
  refine ⟨fun _ => ?_, fun hx => absurd rfl hx⟩
  rw [e3.2.1]
  refine ⟨fun hk => kn (by simp [vdT, hk, heq]) hlt, fun hk => ?_⟩
  rw [e3.2.2.1]
  refine sp_X6_isFor h3.1 s3.2.1 ?_
  by_cases hf : sW s = 2 ∨ sW s = eS e
  · rw [if_pos hf]
    refine ⟨fun hx => absurd hx (by decide), fun _ => kn ?_ hlt⟩
    rcases hf with hf | hf <;> simp [vdT, heq, hf]
  · rw [if_neg hf]
    refine ⟨fun _ => kv ?_, fun hx => absurd rfl hx⟩
    have h1 : ¬ sW s = 2 := fun hx => hf (Or.inl hx)
    have h2 : ¬ sW s = eS e := fun hx => hf (Or.inr hx)
    simp [vdT, heq, hk, h1, h2]
theorem sp_X6_apply {g : Gh} {M : Mem} {r : Nat} {L : LawT} (h : MC g M r L) {s : MS} {e : EvT} {j : Nat} (hj : j < 120) (hs : CM g M s) (he : CE g M j e) (hE : EvOK L e) (hh2 : sH s < 1000) {post : Mem → Prop} (hq : ∀ M', Fr (PXe g j) nQ M M' → CM g M' (apE L s e) → mI M' (gB g + (69 + j)) 4 = bI (vdE L s e) → mI M' (gB g + (69 + j)) 5 = ptE L s e → post M') : wp_X6_apply g M (gB g + 67) (gB g + (69 + j)) post := by
  have hW := h.2.2.2.1.W
  have hE1 := hE.1
  refine ⟨lk_67 h.1, lk_ev h.1 hj, ?_⟩
  rw [he.1, hs.1]
  refine pk_le (eQ e) (sH s) (fun hc => ?_) (fun hc => ?_)
  · have e1 : s1T L s e = s := if_neg (by omega)
    unfold apE vdE ptE vdE at hq
    rw [e1] at hq
    exact ap_19 h h.1 hj hs he hE hc hh2 hq
  · have e1 : s1T L s e = gT L (eQ e) s := if_pos hc
    unfold apE vdE ptE vdE at hq
    rw [e1] at hq
    refine sp_X6_goTo h (by omega) ?_
    have f1 : Fr (PXe g j) nQ M (uI (uI (uI M (gB g + 67) 5 (nI (eQ e))) (gB g + 67) 7 0) (gB g + 67) 6 (whoT L (eQ e))) := ((Fr.rf.uI (Or.inl ⟨rfl, by decide, by decide⟩)).uI (Or.inl ⟨rfl, by decide, by decide⟩)).uI (Or.inl ⟨rfl, by decide, by decide⟩)
    refine ap_19 (s := gT L (eQ e) s) (h.fr f1 (pxe_r g j)) h.1 hj ?_ (he.fr f1 (fun k hk => pxe_e g hj j k hk hj)) hE (Nat.le_refl _) (show eQ e < 1000 by omega) (fun M' f2 => hq M' (f1.tr f2))
    exact CM.mk (by simp [s_II, gT, sH]) (by simp [s_II, gT, sW]) (by simp [s_II, gT, sS, bI]) (by simp [s_II, hs.2.2.2.1, gT, sP]) (by simp [s_II, hs.2.2.2.2.1, gT, sQ]) (by simp [s_II, hs.2.2.2.2.2, gT, sV])
