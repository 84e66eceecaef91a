/-! PURE: law -/
theorem sp_readLawM {g : Gh} {M : Mem} {n : Nat} {bs : Nat → Nat} {T0 : Tk} (h : ML g M n bs T0) {post : Int32 → Mem → Prop} (hq : ∀ M', Fr (fun a k => PLm g a k ∨ (a = (gB g + 195) ∧ k = 39)) (QTm g) M M' → ((lawF (nxW bs n) 7 0 T0 a0T).1 = 0 → mI M' (gB g + 195) 39 = nI (lawF (nxW bs n) 7 0 T0 a0T).2.2.1 ∧ mI M' (gB g + 195) 9 = mI M (gB g + 195) 9 ∧ DM g M' (lawF (nxW bs n) 7 0 T0 a0T).2.2.1 (lawF (nxW bs n) 7 0 T0 a0T).2.2.2) → ((lawF (nxW bs n) 7 0 T0 a0T).1 ≠ 0 → mI M' (gB g + 195) 39 = mI M (gB g + 195) 39 ∧ mI M' (gB g + 195) 9 = nI (lawF (nxW bs n) 7 0 T0 a0T).1 ∧ mI M' (gB g + 195) 10 = nI (lawF (nxW bs n) 7 0 T0 a0T).2.1.2.1) → post (bI (decide ((lawF (nxW bs n) 7 0 T0 a0T).1 = 0))) M') : wp_X12_readLaw g M (gB g + 195) post := by
  refine ⟨lk_195 h.1, ?_⟩
  generalize hR : lawF (nxW bs n) 7 0 T0 a0T = R at hq
  refine lfp_ms (fun s => ∃ (k : Nat) (T : Tk) (a : AcT) (M' : Mem), s = (nI k, M') ∧ k ≤ 6 ∧ Fr (PLm g) (QTm g) M M' ∧ mI M' (gB g + 195) 9 = mI M (gB g + 195) 9 ∧ ML g M' n bs T ∧ DM g M' k a ∧ lawF (nxW bs n) (7 - k) k T a = R) (fun s => 7 - s.1.toNatClampNeg) ?_ _ ⟨0, T0, a0T, M, rfl, by omega, Fr.rf, rfl, h, fun j hj => by omega, hR⟩
  rintro bk s ⟨k, T, a, M', rfl, hk, f, h9, hc, hd, hrun⟩ hbk
  have ck : Int32.toNatClampNeg (nI k) = k := nI_cl k (by omega)
  have l0 := h.1
  rw [show 7 - k = (6 - k) + 1 by omega] at hrun
  have er : lawF (nxW bs n) ((6 - k) + 1) k T a = if (rnd (nxW bs n) k T).1 = 0 then (if (rnd (nxW bs n) k T).2.1.1 = 0 then (0, (rnd (nxW bs n) k T).2.1, k + 1, acU a k (rnd (nxW bs n) k T)) else lawF (nxW bs n) (6 - k) (k + 1) (rnd (nxW bs n) k T).2.1 (acU a k (rnd (nxW bs n) k T))) else ((rnd (nxW bs n) k T).1, (rnd (nxW bs n) k T).2.1, k, a) := rfl
  rw [er] at hrun
  have hrl := rnd_le (nxW bs n) k T
  -- a fault ends it
  have bad : ∀ M4, Fr (PLm g) (QTm g) M M4 → FM g M4 (rnd (nxW bs n) k T) → (rnd (nxW bs n) k T).1 ≠ 0 → post 0 M4 := by
    intro M4 f4 fm hne
    rw [if_neg hne] at hrun
    have hne2 : R.1 ≠ 0 := by rw [← hrun]; exact hne
    have := hq M4 (f4.mono (fun _ _ hh => Or.inl hh) (fun _ _ hh => hh)) (fun hx => absurd hx hne2) (fun _ => ⟨f4.1 _ _ (by unfold PLm; omega), by rw [← hrun]; exact fm.1, by rw [← hrun]; exact fm.2⟩)
    rw [decide_eq_false hne2] at this
    exact this
  show bd_X12_readLaw_2 g M (gB g + 195) post bk (nI k) M'
  refine sp_kRound hc.1 (Or.inr (Or.inl rfl)) hc.2.2.1 hc.2.2.2 ?_
  have bad1 : ∀ (T1 : Tk) (M1 : Mem) (kk : Nat), (kk = 1 ∨ T1.1 ≠ 3) → kk ≠ 0 → ML g M1 n bs T1 → Fr (PLm g) (QTm g) M M1 → (rnd (nxW bs n) k T).1 = kk → (rnd (nxW bs n) k T).2.1 = T1 → wp_X12_bad g M1 (gB g + 195) (nI kk) (fun v3 M4 => (v3 = 0 ∨ v3 = 1) ∧ post v3 M4) := by
    intro T1 M1 kk h3 hk0 c1 f1 e1 e2
    refine sp_rBad c1 c1.1 c1.2.2.2 kk h3 (fun M2 f2 e9 e10 => bad M2 (f1.tr (f2.mono (pbd_l g) (fun a k hh => (hh : False).elim))) ⟨by rw [e1]; exact e9, by rw [e2]; exact e10⟩ (by rw [e1]; exact hk0))
  cases hK : isK 3 T with
  | false =>
    have eh : hdF (nxW bs n) k T = (1, T, 0, false) := by unfold hdF; rw [hK]; rfl
    have e : rnd (nxW bs n) k T = (1, T, 0, false, 0, -1, 0) := by unfold rnd; rw [eh]; rfl
    exact ⟨fun _ => bad1 T M' 1 (Or.inl rfl) (by decide) hc f (by rw [e]) (by rw [e]), fun hx => absurd rfl hx⟩
  | true =>
    refine ⟨fun hx => absurd hx (by decide), fun _ => pk_eq k 6 (fun h6 => ?_) (fun h6 => sp_goW hc (isK_ne3 hK) (fun M1 f1 c1 => ⟨_, lr_195_34 c1.1, ?_⟩))⟩
    · have eh : hdF (nxW bs n) k T = (3, T, 0, false) := by unfold hdF; rw [if_pos hK, if_pos h6]
      have e : rnd (nxW bs n) k T = (3, T, 0, false, 0, -1, 0) := by unfold rnd; rw [eh]; rfl
      exact bad1 T M' 3 (Or.inr (isK_ne3 hK)) (by decide) hc f (by rw [e]) (by rw [e])
    have hk6 : k < 6 := by omega
    have eh : hdF (nxW bs n) k T = if pnum (nxW bs n T) 1 8 = 0 then (if isK 4 (nxW bs n (nxW bs n T)) = true ∨ isK 5 (nxW bs n (nxW bs n T)) = true then (0, nxW bs n (nxW bs n (nxW bs n T)), (nxW bs n T).2.2.1, isK 4 (nxW bs n (nxW bs n T))) else (1, nxW bs n (nxW bs n T), 0, false)) else (pnum (nxW bs n T) 1 8, nxW bs n T, 0, false) := by
      unfold hdF; rw [if_pos hK, if_neg h6]
    have g1 : Fr (PLm g) (QTm g) M M1 := f.tr (f1.mono (ptm_l g) (fun _ _ hh => hh))
    have s1 : ∀ i, 215 ≤ i → i ≤ 219 → ∀ j, mI M1 (gB g + (i)) j = mI M' (gB g + (i)) j := fun i i1 i2 j => f1.1 _ _ (by unfold PTm; omega)
    have n91 : mI M1 (gB g + 195) 9 = mI M (gB g + 195) 9 := by rw [f1.1 _ _ (by unfold PTm; omega)]; exact h9
    refine sp_num c1 1 8 (by decide) (by decide) (fun M2 h0 f2 c2 => ⟨lk_215 l0, by rw [ln_215 l0]; exact pk_in k 6 hk6, ?_⟩) (fun M2 h0 f2 e9 e10 => ⟨lk_215 l0, by rw [ln_215 l0]; exact pk_in k 6 hk6, ?_⟩)
    · rintro M117 rfl
      have hv := (pnum_0 h0).2.2
      rw [if_pos h0] at eh
      try rw [ck]
      have g2 := g1.tr (f2.mono (ptm_l g) (fun _ _ hh => hh))
      have n92 : mI M2 (gB g + 195) 9 = mI M (gB g + 195) 9 := by rw [f2.1 _ _ (by unfold PTm; omega)]; exact n91
      have f3 : Fr (fun a j => a = (gB g + 215) ∧ j = k) nQ M2 (uI M2 (gB g + 215) k (nI (nxW bs n T).2.2.1)) := Fr.rf.uI ⟨rfl, rfl⟩
      have z3 : mI (uI M2 (gB g + 215) k (nI (nxW bs n T).2.2.1)) (gB g + 215) k = nI (nxW bs n T).2.2.1 := by rw [s_II, if_pos rfl, if_pos rfl]
      have c3 : ML g (uI M2 (gB g + 215) k (nI (nxW bs n T).2.2.1)) n bs (nxW bs n (nxW bs n T)) := c2.fr f3 (fun a k hh => by omega) (fun a k hh => (hh : False).elim)
      generalize uI M2 (gB g + 215) k (nI (nxW bs n T).2.2.1) = M3 at f3 z3 c3 ⊢
      have g3 : Fr (PLm g) (QTm g) M M3 := g2.tr (f3.mono (fun a j hh => by unfold PLm; omega) (fun a k hh => (hh : False).elim))
      have n93 : mI M3 (gB g + 195) 9 = mI M (gB g + 195) 9 := by rw [f3.1 _ _ (by omega)]; exact n92
      have s3 : ∀ i, 215 ≤ i → i ≤ 219 → ∀ j, ¬ (i = 215 ∧ j = k) → mI M3 (gB g + (i)) j = mI M' (gB g + (i)) j := fun i i1 i2 j hj => by rw [f3.1 _ _ (by omega), f2.1 _ _ (by unfold PTm; omega)]; exact s1 i i1 i2 j
      refine ⟨_, lr_195_34 c3.1, lk_215 l0, by rw [ln_215 l0]; exact pk_in k 6 hk6, ?_⟩
      rw [z3]
      refine ⟨fun hx => absurd (show nI (nxW bs n T).2.2.1 < 0 by rw [hx]; decide) (nI_pos (by omega)), fun _ => ⟨_, lr_195_38 c3.1, ?_⟩⟩
      refine sp_kBuzz c3.1 (Or.inr (Or.inl rfl)) c3.2.2.1 c3.2.2.2 ⟨lk_219 l0, by rw [ln_219 l0]; exact pk_in k 6 hk6, ?_⟩
      rintro M130 rfl
      try rw [ck]
      rw [nb_b]
      have f4 : Fr (fun a j => a = (gB g + 219) ∧ j = k) nQ M3 (uI M3 (gB g + 219) k (bI (isK 4 (nxW bs n (nxW bs n T))))) := Fr.rf.uI ⟨rfl, rfl⟩
      have z4 : mI (uI M3 (gB g + 219) k (bI (isK 4 (nxW bs n (nxW bs n T))))) (gB g + 219) k = bI (isK 4 (nxW bs n (nxW bs n T))) := by rw [s_II, if_pos rfl, if_pos rfl]
      have c4 : ML g (uI M3 (gB g + 219) k (bI (isK 4 (nxW bs n (nxW bs n T))))) n bs (nxW bs n (nxW bs n T)) := c3.fr f4 (fun a k hh => by omega) (fun a k hh => (hh : False).elim)
      generalize uI M3 (gB g + 219) k (bI (isK 4 (nxW bs n (nxW bs n T)))) = M4 at f4 z4 c4 ⊢
      have g4 : Fr (PLm g) (QTm g) M M4 := g3.tr (f4.mono (fun a j hh => by unfold PLm; omega) (fun a k hh => (hh : False).elim))
      have n94 : mI M4 (gB g + 195) 9 = mI M (gB g + 195) 9 := by rw [f4.1 _ _ (by omega)]; exact n93
      have z43 : mI M4 (gB g + 215) k = nI (nxW bs n T).2.2.1 := by rw [f4.1 _ _ (by omega)]; exact z3
      have s4 : ∀ i, 215 ≤ i → i ≤ 219 → ∀ j, ¬ ((i = 215 ∨ i = 219) ∧ j = k) → mI M4 (gB g + (i)) j = mI M' (gB g + (i)) j := fun i i1 i2 j hj => by rw [f4.1 _ _ (by omega)]; exact s3 i i1 i2 j (by omega)
      refine ⟨_, lr_195_38 c4.1, lk_219 l0, by rw [ln_219 l0]; exact pk_in k 6 hk6, ?_⟩
      try rw [ck]
      rw [z4]
      -- behind the head
      have k118 : (isK 4 (nxW bs n (nxW bs n T)) = true ∨ isK 5 (nxW bs n (nxW bs n T)) = true) → lb_X12_readLaw_118 g M (gB g + 195) post bk (nI k) M4 := by
        intro hor
        rw [if_pos hor] at eh
        have erd : rnd (nxW bs n) k T = stR (nxW bs n) (nxW bs n (nxW bs n (nxW bs n T))) (nxW bs n T).2.2.1 (isK 4 (nxW bs n (nxW bs n T))) := by unfold rnd; rw [eh]; rfl
        have h3 : (nxW bs n (nxW bs n T)).1 ≠ 3 := by rcases hor with hx | hx <;> exact isK_ne3 hx
        refine sp_goW c4 h3 (fun M5 f5 c5 => sp_kRight c5.1 (Or.inr (Or.inl rfl)) c5.2.2.1 c5.2.2.2 ?_)
        have g5 := g4.tr (f5.mono (ptm_l g) (fun _ _ hh => hh))
        cases hK6 : isK 6 (nxW bs n (nxW bs n (nxW bs n T))) with
        | false =>
          have e : stR (nxW bs n) (nxW bs n (nxW bs n (nxW bs n T))) (nxW bs n T).2.2.1 (isK 4 (nxW bs n (nxW bs n T))) = (1, nxW bs n (nxW bs n (nxW bs n T)), (nxW bs n T).2.2.1, isK 4 (nxW bs n (nxW bs n T)), 0, -1, 0) := by unfold stR; rw [hK6]; rfl
          exact ⟨fun _ => bad1 _ M5 1 (Or.inl rfl) (by decide) c5 g5 (by rw [erd, e]) (by rw [erd, e]), fun hx => absurd rfl hx⟩
        | true =>
          have e : stR (nxW bs n) (nxW bs n (nxW bs n (nxW bs n T))) (nxW bs n T).2.2.1 (isK 4 (nxW bs n (nxW bs n T))) = if pnum (nxW bs n (nxW bs n (nxW bs n (nxW bs n T)))) 0 20 = 0 then stP (nxW bs n) (nxW bs n (nxW bs n (nxW bs n (nxW bs n (nxW bs n T))))) (nxW bs n T).2.2.1 (isK 4 (nxW bs n (nxW bs n T))) (nI (nxW bs n (nxW bs n (nxW bs n (nxW bs n T)))).2.2.1) else (pnum (nxW bs n (nxW bs n (nxW bs n (nxW bs n T)))) 0 20, nxW bs n (nxW bs n (nxW bs n (nxW bs n T))), (nxW bs n T).2.2.1, isK 4 (nxW bs n (nxW bs n T)), 0, -1, 0) := by unfold stR; rw [if_pos hK6]
          refine ⟨fun hx => absurd hx (by decide), fun _ => sp_goW c5 (isK_ne3 hK6) (fun M6 f6 c6 => ⟨_, lr_195_35 c6.1, ?_⟩)⟩
          have g6 := g5.tr (f6.mono (ptm_l g) (fun _ _ hh => hh))
          generalize hT4 : nxW bs n (nxW bs n (nxW bs n (nxW bs n T))) = T4 at c6 e
          refine sp_num c6 0 20 (by decide) (by decide) (fun M7 h07 f7 c7 => ⟨lk_216 l0, by rw [ln_216 l0]; exact pk_in k 6 hk6, ?_⟩) (fun M7 h07 f7 e9 e10 => ⟨lk_216 l0, by rw [ln_216 l0]; exact pk_in k 6 hk6, ?_⟩)
          · rintro M70 rfl
            rw [if_pos h07] at e
            have hv7 := (pnum_0 h07).2.2
            try rw [ck]
            have g7 := g6.tr (f7.mono (ptm_l g) (fun _ _ hh => hh))
            have f8 : Fr (fun a j => a = (gB g + 216) ∧ j = k) nQ M7 (uI M7 (gB g + 216) k (nI T4.2.2.1)) := Fr.rf.uI ⟨rfl, rfl⟩
            have z8 : mI (uI M7 (gB g + 216) k (nI T4.2.2.1)) (gB g + 216) k = nI T4.2.2.1 := by rw [s_II, if_pos rfl, if_pos rfl]
            have c8 : ML g (uI M7 (gB g + 216) k (nI T4.2.2.1)) n bs (nxW bs n T4) := c7.fr f8 (fun a k hh => by omega) (fun a k hh => (hh : False).elim)
            generalize uI M7 (gB g + 216) k (nI T4.2.2.1) = M8 at f8 z8 c8 ⊢
            refine ⟨_, lr_195_35 c8.1, lk_216 l0, by rw [ln_216 l0]; exact pk_in k 6 hk6, ?_⟩
            rw [z8]
            refine ⟨fun hx => absurd (show nI T4.2.2.1 < 0 by rw [hx]; decide) (nI_pos (by omega)), fun _ => ⟨_, lr_195_36 c8.1, lk_217 l0, by rw [ln_217 l0]; exact pk_in k 6 hk6, ?_⟩⟩
            rintro M81 rfl
            try rw [ck]
            have f9 : Fr (fun a j => a = (gB g + 217) ∧ j = k) nQ M8 (uI M8 (gB g + 217) k (-1)) := Fr.rf.uI ⟨rfl, rfl⟩
            have z9 : mI (uI M8 (gB g + 217) k (-1)) (gB g + 217) k = -1 := by rw [s_II, if_pos rfl, if_pos rfl]
            have c9 : ML g (uI M8 (gB g + 217) k (-1)) n bs (nxW bs n T4) := c8.fr f9 (fun a k hh => by omega) (fun a k hh => (hh : False).elim)
            generalize uI M8 (gB g + 217) k (-1) = M9 at f9 z9 c9 ⊢
            have f89 : Fr (fun a j => (a = (gB g + 216) ∨ a = (gB g + 217)) ∧ j = k) nQ M7 M9 := (f8.mono (fun a j hh => by omega) (fun _ _ hh => hh)).tr (f9.mono (fun a j hh => by omega) (fun _ _ hh => hh))
            have g9 : Fr (PLm g) (QTm g) M M9 := g7.tr (f89.mono (fun a j hh => by unfold PLm; omega) (fun a k hh => (hh : False).elim))
            have s9 : ∀ i, 215 ≤ i → i ≤ 219 → ∀ j, ¬ ((i = 216 ∨ i = 217) ∧ j = k) → mI M9 (gB g + (i)) j = mI M4 (gB g + (i)) j := fun i i1 i2 j hj => by rw [f89.1 _ _ (by omega), f7.1 _ _ (by unfold PTm; omega), f6.1 _ _ (by unfold PTm; omega), f5.1 _ _ (by unfold PTm; omega)]
            have n99 : mI M9 (gB g + 195) 9 = mI M (gB g + 195) 9 := by rw [f89.1 _ _ (by omega), f7.1 _ _ (by unfold PTm; omega), f6.1 _ _ (by unfold PTm; omega), f5.1 _ _ (by unfold PTm; omega)]; exact n94
            refine ⟨_, lr_195_38 c9.1, lk_219 l0, by rw [ln_219 l0]; exact pk_in k 6 hk6, ?_⟩
            have eP : rnd (nxW bs n) k T = stP (nxW bs n) (nxW bs n T4) (nxW bs n T).2.2.1 (isK 4 (nxW bs n (nxW bs n T))) (nI T4.2.2.1) := by rw [erd, e]
            have szP : (rnd (nxW bs n) k T).2.2.1 = (nxW bs n T).2.2.1 := by rw [eP]; exact stP_sz.1
            have bzP : (rnd (nxW bs n) k T).2.2.2.1 = isK 4 (nxW bs n (nxW bs n T)) ∧ (rnd (nxW bs n) k T).2.2.2.2.1 = nI T4.2.2.1 := by
              rw [eP]
              unfold stP stW stF
              repeat' split
              all_goals exact ⟨rfl, rfl⟩
            refine sp_192M (sz := (nxW bs n T).2.2.1) (bz := isK 4 (nxW bs n (nxW bs n T))) (rt := nI T4.2.2.1) l0 c9 hk6 (by rw [s9 219 (by decide) (by decide) k (by omega)]; exact z4) z9 (fun M10 h010 f10 n10 c10 s10 w10 x10 => ?_) (fun M10 h010 f10 fm => bad M10 (g9.tr f10) (by rw [eP]; exact fm) (by rw [eP]; exact h010))
            rw [← eP] at h010 c10 w10 x10
            rw [← eP]
            rw [if_pos h010] at hrun
            have f10L : Fr (PLm g) (QTm g) M M10 := g9.tr f10
            have dm10 : DM g M10 (k + 1) (acU a k (rnd (nxW bs n) k T)) := by
              intro j hj
              show _ = nI (upN a.1 k (rnd (nxW bs n) k T).2.2.1 j) ∧ _ = bI (upN a.2.1 k (rnd (nxW bs n) k T).2.2.2.1 j) ∧ _ = upN a.2.2.1 k (rnd (nxW bs n) k T).2.2.2.2.1 j ∧ _ = upN a.2.2.2.1 k (rnd (nxW bs n) k T).2.2.2.2.2.1 j ∧ _ = upN a.2.2.2.2 k (rnd (nxW bs n) k T).2.2.2.2.2.2 j
              by_cases hjk : j = k
              · subst hjk
                rw [upN_s, upN_s, upN_s, upN_s, upN_s, szP, bzP.1, bzP.2]
                refine ⟨?_, ?_, ?_, w10, x10⟩
                · rw [s10 215 (by decide) (by decide) j (by omega), s9 215 (by decide) (by decide) j (by omega)]; exact z43
                · rw [s10 219 (by decide) (by decide) j (by omega), s9 219 (by decide) (by decide) j (by omega)]; exact z4
                · rw [s10 216 (by decide) (by decide) j (by omega), f9.1 _ _ (by omega)]; exact z8
              · rw [upN_n _ _ hjk, upN_n _ _ hjk, upN_n _ _ hjk, upN_n _ _ hjk, upN_n _ _ hjk]
                have ss : ∀ i, 215 ≤ i → i ≤ 219 → mI M10 (gB g + (i)) j = mI M' (gB g + (i)) j := fun i i1 i2 => by rw [s10 i i1 i2 j (by omega), s9 i i1 i2 j (by omega)]; exact s4 i i1 i2 j (by omega)
                rw [ss 215 (by decide) (by decide), ss 216 (by decide) (by decide), ss 217 (by decide) (by decide), ss 218 (by decide) (by decide), ss 219 (by decide) (by decide)]
                exact hd j (by omega)
            have n910 : mI M10 (gB g + 195) 9 = mI M (gB g + 195) 9 := n10.trans n99
            refine ⟨fun hT0 => ?_, fun hT0 => ?_⟩
            · rw [if_pos hT0] at hrun
              have hR0 : R.1 = 0 := by rw [← hrun]
              have := hq (uI M10 (gB g + 195) 39 (nI (k + 1))) ((f10L.mono (fun _ _ hh => Or.inl hh) (fun _ _ hh => hh)).uI (Or.inr ⟨rfl, rfl⟩)) (fun _ => ?_) (fun hx => absurd hR0 hx)
              · rw [decide_eq_true hR0] at this; exact this
              · rw [← hrun]
                refine ⟨by rw [s_II, if_pos rfl, if_pos rfl], by rw [s_II, if_pos rfl, if_neg (by decide)]; exact n910, fun j hj => ?_⟩
                rw [s_II, if_neg (by omega), s_II, if_neg (by omega), s_II, if_neg (by omega), s_II, if_neg (by omega), s_II, if_neg (by omega)]
                exact dm10 j hj
            · rw [if_neg hT0] at hrun
              refine hbk _ ⟨k + 1, _, _, M10, rfl, by omega, f10L, n910, c10, dm10, by rw [show 7 - (k + 1) = 6 - k by omega]; exact hrun⟩ ?_
              show 7 - (nI (k + 1)).toNatClampNeg < 7 - (nI k).toNatClampNeg
              rw [nI_cl _ (by omega), nI_cl _ (by omega)]; omega
          · rintro M70 rfl
            try rw [ck]
            rw [if_neg h07] at e
            refine ⟨_, by rw [show mR (uI M7 (gB g + 216) k (-1)) = mR M7 from rfl, f7.R]; exact lr_195_35 c6.1, lk_216 l0, by rw [ln_216 l0]; exact pk_in k 6 hk6, ?_⟩
            rw [show mI (uI M7 (gB g + 216) k (-1)) (gB g + 216) k = -1 by rw [s_II, if_pos rfl, if_pos rfl]]
            refine ⟨fun _ => bad _ ((g6.tr (f7.mono (pbd_l g) (fun a k hh => (hh : False).elim))).uI (by unfold PLm; omega)) ⟨?_, ?_⟩ ?_, fun hx => absurd rfl hx⟩
            · rw [s_II, if_neg (by omega), erd, e]; exact e9
            · rw [s_II, if_neg (by omega), erd, e]; exact e10
            · rw [erd, e]; exact h07
      cases h4 : isK 4 (nxW bs n (nxW bs n T)) with
      | true => exact ⟨fun hx => absurd hx (by decide), fun _ => k118 (Or.inl h4)⟩
      | false =>
        refine ⟨fun _ => sp_kTurns c4.1 (Or.inr (Or.inl rfl)) c4.2.2.1 c4.2.2.2 ?_, fun hx => absurd rfl hx⟩
        cases h5 : isK 5 (nxW bs n (nxW bs n T)) with
        | true => exact ⟨fun hx => absurd hx (by decide), fun _ => k118 (Or.inr h5)⟩
        | false =>
          rw [if_neg (by simp [h4, h5])] at eh
          have e : rnd (nxW bs n) k T = (1, nxW bs n (nxW bs n T), 0, false, 0, -1, 0) := by unfold rnd; rw [eh]; rfl
          exact ⟨fun _ => bad1 _ M4 1 (Or.inl rfl) (by decide) c4 g4 (by rw [e]) (by rw [e]), fun hx => absurd rfl hx⟩
    · rintro M117 rfl
      try rw [ck]
      rw [if_neg h0] at eh
      have e : rnd (nxW bs n) k T = (pnum (nxW bs n T) 1 8, nxW bs n T, 0, false, 0, -1, 0) := by unfold rnd; rw [eh, if_neg h0]
      refine ⟨_, by rw [show mR (uI M2 (gB g + 215) k (-1)) = mR M2 from rfl, f2.R]; exact lr_195_34 c1.1, lk_215 l0, by rw [ln_215 l0]; exact pk_in k 6 hk6, ?_⟩
      rw [show mI (uI M2 (gB g + 215) k (-1)) (gB g + 215) k = -1 by rw [s_II, if_pos rfl, if_pos rfl]]
      refine ⟨fun _ => bad _ ((g1.tr (f2.mono (pbd_l g) (fun a k hh => (hh : False).elim))).uI (by unfold PLm; omega)) ⟨?_, ?_⟩ ?_, fun hx => absurd rfl hx⟩
      · rw [s_II, if_neg (by omega), e]; exact e9
      · rw [s_II, if_neg (by omega), e]; exact e10
      · rw [e]; exact h0
