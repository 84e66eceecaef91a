/-! PURE: the reference goes through an event -/
theorem hp_hands {g : Gh} {M : Mem} {L : LawT} (h : MX g M L) {s : MS} {j : Nat} (hs : MM g M s) (hh : sH s < 999) {post : Mem → Prop} (hq : ∀ M', Fr (PMe g j) nQ M M' → MM g M' (gT L (sH s + 1) s) → mI M' (gB g + 226) j = mI M (gB g + 226) j → mI M' (gB g + 228) j = mI M (gB g + 228) j → post M') : wp_X12_hands g M (gB g + 195) ((mI M (gB g + 195) 50) + 1) post := by
  rw [hs.1, nI_1]
  refine sp_X12_hands h (by omega) (hq _ (((Fr.rf.uI ?_).uI ?_).uI ?_) ?_ ?_ ?_)
  · exact Or.inl ⟨rfl, by decide, by decide⟩
  · exact Or.inl ⟨rfl, by decide, by decide⟩
  · exact Or.inl ⟨rfl, by decide, by decide⟩
  · exact MM.mk (by simp [s_II, gT, sH]) (by simp [s_II, gT, sW]) (by simp [s_II, gT, sS, bI]) (by simp [s_II, hs.2.2.2.1, gT, sP]) (by simp [s_II, hs.2.2.2.2.1, gT, sQ]) (by simp [s_II, hs.2.2.2.2.2, gT, sV])
  · simp only [s_II]; rw [if_neg (by omega), if_neg (by omega), if_neg (by omega)]
  · simp only [s_II]; rw [if_neg (by omega), if_neg (by omega), if_neg (by omega)]
theorem EvOK.k01 {L : LawT} {e : EvT} (h : EvOK L e) (h2 : ¬ eK e = 2) : (eK e = 0 ∨ (eK e = 1 ∧ eR e = false)) ∧ (eS e = 0 ∨ eS e = 1) := by
  rcases h.2 with h3 | h3
  · exact absurd h3.1 h2
  · exact h3
theorem hp_188 {g : Gh} {M M0 : Mem} {L : LawT} (h : MX g M L) (h0 : Lay g M0) {s : MS} {e : EvT} {j : Nat} (hj : j < 120) (hs : MM g M s) (he : ME g M j e) (hE : EvOK L e) (h2 : ¬ eK e = 2) (hh : sH s < lW L) {post : Mem → Prop} (hq : ∀ M', Fr (PMe g j) nQ M M' → MM g M' (nxT L (otT L s e) s e) → mI M' (gB g + 226) j = mI M (gB g + 226) j → mI M' (gB g + 228) j = mI M (gB g + 228) j → post M') : lb_X12_happens_188 g M0 (gB g + 195) (nI j) (nI (rd L (sH s))) post (bI (eR e)) M := by
  have hW := h.2.1.1.W
  have hk := hE.k01 h2
  have hr := rd_is h.2.1.1 hh
  have h6 := rd_6 h.2.1.1 hh
  have cj : Int32.toNatClampNeg (nI j) = j := nI_cl j (by omega)
  have cr : Int32.toNatClampNeg (nI (rd L (sH s))) = rd L (sH s) := nI_cl _ (by omega)
  have hx := h.2.1.2.2.2 _ hr.1
  have k219 : otT L s e = false → lb_X12_happens_219 g M0 (gB g + 195) (nI j) (nI (rd L (sH s))) post M := by
    intro ho
    rw [ho] at hq
    exact hp_hands h hs (by omega) hq
  have k232 : otT L s e = true → lb_X12_happens_232 g M0 (gB g + 195) (nI j) (nI (rd L (sH s))) post M := by
    intro ho
    rw [ho] at hq
    rintro M1 rfl
    refine ⟨_, lr_195_58 h.1, lk_225 h0, by rw [ln_225 h0]; exact pk_in j 120 hj, ?_⟩
    rintro M7 rfl
    (try rw [cj]); rw [show mI (uI M (gB g + 195) 52 1) (gB g + 225) j = eS e by rw [s_II, if_neg (by omega)]; exact he.2.2.1]
    refine hq _ ((Fr.rf.uI ?_).uI ?_) ?_ ?_ ?_
    · exact Or.inl ⟨rfl, by decide, by decide⟩
    · exact Or.inl ⟨rfl, by decide, by decide⟩
    · exact MM.mk (by simp [s_II, hs.1, nxT, sH]) (by simp [s_II, nxT, sW]) (by simp [s_II, nxT, sS, bI]) (by simp [s_II, hs.2.2.2.1, nxT, sP]) (by simp [s_II, hs.2.2.2.2.1, nxT, sQ]) (by simp [s_II, hs.2.2.2.2.2, nxT, sV])
    · simp only [s_II]; rw [if_neg (by omega), if_neg (by omega)]
    · simp only [s_II]; rw [if_neg (by omega), if_neg (by omega)]
  unfold lb_X12_happens_188
  rw [hs.2.2.1]
  cases h3 : eR e with
  | true => exact ⟨fun hy => absurd hy (by decide), fun _ => k219 (by simp [otT, h3])⟩
  | false =>
    refine ⟨fun _ => ?_, fun hy => absurd rfl hy⟩
    cases h4 : sS s with
    | true => exact ⟨fun _ => k219 (by simp [otT, h4]), fun hy => absurd rfl hy⟩
    | false =>
      refine ⟨fun hy => absurd hy (by decide), fun _ => ⟨_, lr_195_33 h.1, lk_214 h0, by rw [ln_214 h0]; exact pk_in (rd L (sH s)) 6 h6, ?_⟩⟩
      (try rw [cr]); rw [hx.2.1]
      cases h5 : lB L (rd L (sH s)) with
      | true => exact ⟨fun hy => absurd hy (by decide), fun _ => k232 (by simp [otT, h3, h4, h5, h2])⟩
      | false =>
        refine ⟨fun _ => ⟨_, lr_195_31 h.1, lk_212 h0, by rw [ln_212 h0]; exact pk_in (rd L (sH s)) 6 h6, ?_⟩, fun hy => absurd rfl hy⟩
        (try rw [cr]); rw [hx.2.2.2.1]
        exact ⟨fun hy => k219 (by simp [otT, h5, hy]), fun hy => k232 (by simp [otT, h3, h4, h2, hy])⟩
theorem hp_145 {g : Gh} {M M0 : Mem} {L : LawT} (h : MX g M L) (h0 : Lay g M0) {s : MS} {e : EvT} {j : Nat} (hj : j < 120) (hs : MM g M s) (he : ME g M j e) (hE : EvOK L e) (h2 : ¬ eK e = 2) (hh : sH s < lW L) {v : Int32} (hv : v = ptT L s e) {post : Mem → Prop} (hq : ∀ M', Fr (PMe g j) nQ M M' → MM g M' (nxT L (otT L s e) (adT s e (ptT L s e)) e) → mI M' (gB g + 226) j = ptT L s e → mI M' (gB g + 228) j = mI M (gB g + 228) j → post M') : lb_X12_happens_145 g M0 (gB g + 195) (nI j) (nI (rd L (sH s))) post (bI (eR e)) (gB g + 226) (nI j) v M := by
  subst hv
  have cj : Int32.toNatClampNeg (nI j) = j := nI_cl j (by omega)
  refine ⟨lk_226 h0, by rw [ln_226 h0]; exact pk_in j 120 hj, ?_⟩
  rintro M25 rfl
  try rw [cj]
  have h3 : MX g (uI M (gB g + 226) j (ptT L s e)) L := h.w (by decide)
  have f3 : Fr (PMe g j) nQ M (uI M (gB g + 226) j (ptT L s e)) := Fr.rf.uI (Or.inr ⟨Or.inl rfl, rfl⟩)
  have s3 : MM g (uI M (gB g + 226) j (ptT L s e)) s := hs.w (by decide)
  have e3 : ME g (uI M (gB g + 226) j (ptT L s e)) j e := he.fr f3 (pme_e g j j)
  have p3 : mI (uI M (gB g + 226) j (ptT L s e)) (gB g + 226) j = ptT L s e := by simp [s_II]
  have v3 : mI (uI M (gB g + 226) j (ptT L s e)) (gB g + 228) j = mI M (gB g + 228) j := by rw [s_II, if_neg (by omega)]
  generalize uI M (gB g + 226) j (ptT L s e) = M1 at h3 f3 s3 e3 p3 v3 ⊢
  refine ⟨_, lr_195_58 h3.1, lk_225 h0, by rw [ln_225 h0]; exact pk_in j 120 hj, ?_⟩
  (try rw [cj]); rw [e3.2.2.1]
  have eo : otT L (adT s e (ptT L s e)) e = otT L s e := rfl
  have fin : ∀ k v, (k = 53 ∨ k = 54) → MM g (uI M1 (gB g + 195) k v) (adT s e (ptT L s e)) → lb_X12_happens_188 g M0 (gB g + 195) (nI j) (nI (rd L (sH s))) post (bI (eR e)) (uI M1 (gB g + 195) k v) := by
    intro k v hk s4
    have f4 : Fr (PMe g j) nQ M (uI M1 (gB g + 195) k v) := f3.uI (Or.inl ⟨rfl, by omega, by omega⟩)
    refine hp_188 (s := adT s e (ptT L s e)) (h3.u (by omega)) h0 hj s4 (he.fr f4 (pme_e g j j)) hE h2 hh (fun M' f5 s5 p5 v5 => hq M' (f4.tr f5) ?_ ?_ ?_)
    · rw [eo] at s5; exact s5
    · rw [p5, s_II, if_neg (by omega)]; exact p3
    · rw [v5, s_II, if_neg (by omega)]; exact v3
  refine ⟨fun hc => ⟨_, lr_195_59 h3.1, lk_226 h0, by rw [ln_226 h0]; exact pk_in j 120 hj, ?_⟩, fun hc => ⟨_, lr_195_59 h3.1, lk_226 h0, by rw [ln_226 h0]; exact pk_in j 120 hj, ?_⟩⟩
  · rintro M42 rfl
    try rw [cj]
    rw [p3]
    refine fin 53 _ (Or.inl rfl) ?_
    have h1 : ¬ eS e = 1 := by rw [hc]; decide
    exact MM.mk (by simp [s_II, s3.1, adT, sH]) (by simp [s_II, s3.2.1, adT, sW]) (by simp [s_II, s3.2.2.1, adT, sS]) (by simp [s_II, s3.2.2.2.1, adT, sP, hc]) (by simp [s_II, s3.2.2.2.2.1, adT, sQ, h1]) (by simp [s_II, s3.2.2.2.2.2, adT, sV])
  · rintro M36 rfl
    try rw [cj]
    rw [p3]
    refine fin 54 _ (Or.inr rfl) ?_
    have h1 : eS e = 1 := (hE.k01 h2).2.resolve_left hc
    exact MM.mk (by simp [s_II, s3.1, adT, sH]) (by simp [s_II, s3.2.1, adT, sW]) (by simp [s_II, s3.2.2.1, adT, sS]) (by simp [s_II, s3.2.2.2.1, adT, sP, hc]) (by simp [s_II, s3.2.2.2.2.1, adT, sQ, h1]) (by simp [s_II, s3.2.2.2.2.2, adT, sV])
theorem sp_X12_happens {g : Gh} {M : Mem} {L : LawT} (h : MX g M L) {s : MS} {e : EvT} {j : Nat} (hj : j < 120) (hs : MM g M s) (he : ME g M j e) (hE : EvOK L e) (hh : sH s < lW L) (hp0 : mI M (gB g + 226) j = 0) {post : Mem → Prop} (hq : ∀ M', Fr (PMe g j) nQ M M' → MM g M' (nxT L (otT L s e) (adT s e (ptT L s e)) e) → mI M' (gB g + 226) j = ptT L s e → mI M' (gB g + 228) j = mI M (gB g + 228) j → post M') : wp_X12_happens g M (gB g + 195) (nI j) (nI (rd L (sH s))) post := by
  have hW := h.2.1.1.W
  have hr := rd_is h.2.1.1 hh
  have h6 := rd_6 h.2.1.1 hh
  have cj : Int32.toNatClampNeg (nI j) = j := nI_cl j (by omega)
  have cr : Int32.toNatClampNeg (nI (rd L (sH s))) = rd L (sH s) := nI_cl _ (by omega)
  have hx := h.2.1.2.2.2 _ hr.1
  refine ⟨lk_195 h.1, _, lr_195_57 h.1, lk_224 h.1, by rw [ln_224 h.1]; exact pk_in j 120 hj, ?_⟩
  (try rw [cj]); rw [he.2.1]
  refine ⟨fun h2 => ?_, fun h2 => ?_⟩
  · have hd : eS e = -1 := by
      rcases hE.2 with h3 | h3
      · exact h3.2.1
      · rcases h3.1 with h4 | h4
        · rw [h2] at h4; exact absurd h4 (by decide)
        · rw [h2] at h4; exact absurd h4.1 (by decide)
    have e1 : ptT L s e = 0 := if_neg (by rw [h2]; decide)
    have e2 : adT s e 0 = (sH s, sW s, sS s, sP s, sQ s, sV s) := by
      unfold adT; rw [if_neg (by rw [hd]; decide), if_neg (by rw [hd]; decide)]
    have e3 : otT L s e = false := by simp [otT, h2]
    rw [e1, e2, e3] at hq
    exact hp_hands h hs (by omega) (fun M' f s' p v => hq M' f s' (p.trans hp0) v)
  have hk := hE.k01 h2
  have k84 : ∀ b : Bool, (b = decide (eK e = 0 ∧ eR e = false ∧ ¬ (sS s = true ∧ lB L (rd L (sH s)) = false))) → lb_X12_happens_84 g M (gB g + 195) (nI j) (nI (rd L (sH s))) post (bI (eR e)) (bI b) M := by
    intro b hb
    refine ⟨_, lr_195_59 h.1, ?_⟩
    cases h3 : eR e with
    | true =>
      have h0 : eK e = 0 := by
        rcases hk.1 with h4 | h4
        · exact h4
        · rw [h3] at h4; exact absurd h4.2 (by decide)
      refine ⟨fun hy => absurd hy (by decide), fun _ => ⟨_, lr_195_33 h.1, lk_214 h.1, by rw [ln_214 h.1]; exact pk_in (rd L (sH s)) 6 h6, ?_⟩⟩
      (try rw [cr]); rw [hx.2.1, hs.2.2.1]
      have q145 : ∀ v, v = ptT L s e → lb_X12_happens_145 g M (gB g + 195) (nI j) (nI (rd L (sH s))) post 1 (gB g + 226) (nI j) v M := by
        intro v hv
        have := hp_145 h h.1 hj hs he hE h2 hh hv hq
        rw [h3] at this; exact this
      cases h5 : lB L (rd L (sH s)) with
      | true =>
        refine ⟨fun hy => absurd hy (by decide), fun _ => ⟨_, lr_195_30 h.1, lk_211 h.1, by rw [ln_211 h.1]; exact pk_in (rd L (sH s)) 6 h6, q145 _ ?_⟩⟩
        (try rw [cr]); rw [hx.2.2.1]; simp [ptT, h0, h3, h5]
      | false =>
        refine ⟨fun _ => ?_, fun hy => absurd rfl hy⟩
        cases h4 : sS s with
        | false =>
          refine ⟨fun _ => ⟨_, lr_195_30 h.1, lk_211 h.1, by rw [ln_211 h.1]; exact pk_in (rd L (sH s)) 6 h6, q145 _ ?_⟩, fun hy => absurd rfl hy⟩
          (try rw [cr]); rw [hx.2.2.1]; simp [ptT, h0, h3, h4]
        | true =>
          refine ⟨fun hy => absurd hy (by decide), fun _ => ⟨_, lr_195_31 h.1, lk_212 h.1, by rw [ln_212 h.1]; exact pk_in (rd L (sH s)) 6 h6, q145 _ ?_⟩⟩
          (try rw [cr]); rw [hx.2.2.2.1]; simp [ptT, h0, h3, h4, h5]
    | false =>
      have q145 : ∀ v, v = ptT L s e → lb_X12_happens_145 g M (gB g + 195) (nI j) (nI (rd L (sH s))) post 0 (gB g + 226) (nI j) v M := by
        intro v hv
        have := hp_145 h h.1 hj hs he hE h2 hh hv hq
        rw [h3] at this; exact this
      refine ⟨fun _ => ?_, fun hy => absurd rfl hy⟩
      cases b with
      | false =>
        refine ⟨fun _ => q145 _ ?_, fun hy => absurd rfl hy⟩
        have hb2 := of_decide_eq_false hb.symm
        unfold ptT
        by_cases h0 : eK e = 0
        · rw [if_pos h0, h3, if_neg (by decide), if_pos]
          exact Classical.byContradiction (fun hn => hb2 ⟨h0, h3, hn⟩)
        · rw [if_neg h0]
      | true =>
        have hb2 := of_decide_eq_true hb.symm
        refine ⟨fun hy => absurd hy (by decide), fun _ => ⟨_, lr_195_32 h.1, lk_213 h.1, by rw [ln_213 h.1]; exact pk_in (rd L (sH s)) 6 h6, q145 _ ?_⟩⟩
        (try rw [cr]); rw [hx.2.2.2.2]
        unfold ptT
        rw [if_pos hb2.1, h3, if_neg (by decide), if_neg hb2.2.2]
  have k44 : ∀ x, x = bI (eR e) → lb_X12_happens_44 g M (gB g + 195) (nI j) (nI (rd L (sH s))) post x M := by
    rintro x rfl
    refine ⟨_, lr_195_57 h.1, lk_224 h.1, by rw [ln_224 h.1]; exact pk_in j 120 hj, ?_⟩
    (try rw [cj]); rw [he.2.1]
    refine ⟨fun h0 => ⟨_, lr_195_60 h.1, lk_227 h.1, by rw [ln_227 h.1]; exact pk_in j 120 hj, ?_⟩, fun h0 => k84 false (by simp [h0])⟩
    (try rw [cj]); rw [he.2.2.2]
    have k84t := k84 true
    have k84f := k84 false
    cases h3 : eR e with
    | true => rw [h3] at k84f; exact ⟨fun hy => absurd hy (by decide), fun _ => k84f (by simp)⟩
    | false =>
      rw [h3] at k84f k84t
      refine ⟨fun _ => ⟨_, lr_195_33 h.1, lk_214 h.1, by rw [ln_214 h.1]; exact pk_in (rd L (sH s)) 6 h6, ?_⟩, fun hy => absurd rfl hy⟩
      (try rw [cr]); rw [hx.2.1, hs.2.2.1]
      cases h5 : lB L (rd L (sH s)) with
      | true => exact ⟨fun hy => absurd hy (by decide), fun _ => k84t (by simp [h0, h5])⟩
      | false =>
        refine ⟨fun _ => ?_, fun hy => absurd rfl hy⟩
        cases h4 : sS s with
        | false => exact ⟨fun _ => k84t (by simp [h0, h4]), fun hy => absurd rfl hy⟩
        | true => exact ⟨fun hy => absurd hy (by decide), fun _ => k84f (by simp [h4, h5])⟩
  refine ⟨fun h0 => ⟨_, lr_195_60 h.1, lk_227 h.1, by rw [ln_227 h.1]; exact pk_in j 120 hj, ?_⟩, fun h0 => k44 0 ?_⟩
  · (try rw [cj]); rw [he.2.2.2]
    cases h3 : eR e with
    | true => rw [h3] at k44; exact ⟨fun hy => absurd hy (by decide), fun _ => k44 1 rfl⟩
    | false => rw [h3] at k44; exact ⟨fun _ => k44 0 rfl, fun hy => absurd rfl hy⟩
  · rcases hk.1 with h4 | h4
    · exact absurd h4 h0
    · rw [h4.2]; rfl
