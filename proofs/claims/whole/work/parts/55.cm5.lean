/-! PURE: the class's matcher closes a part -/
theorem KpIs.iff {g : Gh} {M : Mem} {e N m : Nat} {K L : Nat → Nat → Nat → Prop} (h : KpIs g M e N m K) (hi : ∀ f, f < m → ∀ s, s ≤ N → ∀ j, j < 32 → (K f s j ↔ L f s j)) : KpIs g M e N m L := ⟨h.1, fun f hf s hs j hj => (h.2 f hf s hs j hj).trans (hi f hf s hs j hj)⟩
set_option maxHeartbeats 1000000 in
theorem sp_close {g : Gh} {M : Mem} {e N : Nat} {a : AnT} (h : CX g M (e + 1) N a) (hN : N ≤ 20) (he : e < 6) {b m : Nat} (hb : b ≤ 2) (hm : m < 5) (hbm : b ≤ 1 → m = 0) {A0 A B : Nat → Nat → Prop} {K : Nat → Nat → Nat → Prop} (hA0 : RowIs g M (13 + 5 * e) N A0) (hA0N : ∀ s j, s ≤ N → A0 s j → j ≤ N) (hA : RowIs g M (13 + 5 * (e + 1)) N A) (hB : RowIs g M (14 + 5 * (e + 1)) N B) (hK : KpIs g M (e + 1) N m K) (hKl : ∀ s, s ≤ N → ∀ j, j < 32 → ((B s j ∨ A s j) ↔ K m s j)) (hKN : ∀ f k j, k ≤ N → K f k j → j ≤ N) {post : Mem → Prop} (hq : ∀ M', Fr (PXw g e) nQ M M' → mI M' (gB g + 9) 3 = nI e → RowIs g M' (13 + 5 * e) N (fun s j => ∃ i, A0 s i ∧ rB b (m + 1) K i j) → post M') : wp_X7_closeFrame g M (gB g + 9) (nI (cls b)) post := by
  have h1 := h.1
  have he7 : e + 1 < 7 := by omega
  have loop : ∀ M1, Fr (PX g (17 + 5 * e)) nQ M M1 → mI M1 (gB g + 9) 3 = nI (e + 1) → (b = 2 → KpIs g M1 (e + 1) N (m + 1) K) → (b ≤ 1 → RowIs g M1 (14 + 5 * (e + 1)) N (K 0)) → ∃ n : Nat, lfp (fun bk z => bd_X7_closeFrame_47 g M (gB g + 9) (nI (cls b)) post bk z.1 z.2.1 z.2.2) n ((gB g + (12 + 5 * (e + 1))), 0, M1) := by
    intro M1 f1 z1 k2 k01
    have hAC1 : AC g M1 N a := h.2.2.fr f1 (fun b k hh => by unfold PX at hh; omega) (fun a k hh => (hh : False).elim)
    refine lfp_up (fun s z => ∃ M', z = ((gB g + (12 + 5 * (e + 1))), nI s, M') ∧ Fr (fun a _ => a = (gB g + 47) ∨ a = (gB g + (16 + 5 * (e + 1)))) nQ M1 M' ∧ ∀ t, t < s → t ≤ N → ∀ j, j < 32 → (bt (mI M' (gB g + 47) t) j = true ↔ rB b (m + 1) K t j)) 21 ?_ ?_ 0 _ (by omega) ⟨M1, rfl, Fr.rf, fun t ht => by omega⟩
    · rintro bk z ⟨M', rfl, f, hv⟩
      have hl := f.lay (f1.lay h1)
      show bd_X7_closeFrame_47 g M (gB g + 9) (nI (cls b)) post bk (gB g + (12 + 5 * (e + 1))) (nI 21) M'
      unfold bd_X7_closeFrame_47
      refine ⟨_, lr_9_4 hl, lk_47 h1, ?_⟩
      rw [ln_47 h1]
      refine pk_le 21 21 (fun _ => ?_) (fun hx => by omega)
      rintro M2 rfl
      have r3 : mI M' (gB g + 9) 3 = nI (e + 1) := by rw [f.1 _ _ (by omega)]; exact z1
      rw [r3, show nI (e + 1) - 1 = nI e from nI_pred e]
      have g2 : Fr (PXw g e) nQ M (uI M' (gB g + 9) 3 (nI e)) := ((f1.tr (f.mono (fun b k hh => by unfold PX; omega) (fun _ _ hh => hh))).mono (fun b k hh => Or.inl hh) (fun _ _ hh => hh)).uI (Or.inl (Or.inl ⟨rfl, rfl⟩))
      have g2' : Fr (PX g (17 + 5 * e)) nQ M (uI M' (gB g + 9) 3 (nI e)) := (f1.tr (f.mono (fun b k hh => by unfold PX; omega) (fun _ _ hh => hh))).uI (Or.inl ⟨rfl, rfl⟩)
      have r4 : mI (uI M' (gB g + 9) 3 (nI e)) (gB g + 9) 3 = nI e := by rw [s_II, if_pos rfl, if_pos rfl]
      have v47 : RowIs g (uI M' (gB g + 9) 3 (nI e)) 47 N (rB b (m + 1) K) := fun s hs j hj => by
        rw [s_II, if_neg (by omega)]; exact hv s (by omega) hs j hj
      generalize uI M' (gB g + 9) 3 (nI e) = M2 at g2 g2' r4 v47 ⊢
      rw [r4, nI_cl e (by omega)]
      have h2 := g2.lay h1
      refine ⟨_, lr_9_2 h2, lk_11 h1, by rw [ln_11 h1]; exact pk_in e 7 (by omega), _, (lk_fr h2 (show e < 7 by omega)).2.2.1, _, lr_9_4 h2, ?_⟩
      refine sp_stepPart h2 (show e < 7 by omega) hN (hA0.fr g2' (fun b k hh => by unfold PX at hh; omega)) hA0N v47 (fun M3 f3 r5 => hq M3 (g2.tr (f3.mono (fun b k hh => Or.inr hh) (fun _ _ hh => hh))) ?_ r5)
      rw [f3.1 _ _ (by omega)]; exact r4
    · rintro bk s z hs ⟨M', rfl, f, hv⟩ hbk
      have hl := f.lay (f1.lay h1)
      show bd_X7_closeFrame_47 g M (gB g + 9) (nI (cls b)) post bk (gB g + (12 + 5 * (e + 1))) (nI s) M'
      unfold bd_X7_closeFrame_47
      refine ⟨_, lr_9_4 hl, lk_47 h1, ?_⟩
      rw [ln_47 h1]
      refine pk_le 21 s (fun hx => by omega) (fun _ => ?_)
      refine sp_endsOf hl (hAC1.fr f (fun b k hh => by omega) (fun a k hh => (hh : False).elim)) hN he7 hb (m := m + 1) hKN (fun hb2 => ⟨by omega, by omega, (k2 hb2).fr f (fun b k hh => by omega)⟩) (fun hb1 => (k01 hb1).fr f (fun b k hh => by omega)) hs (fun v M2 f2 hv2 => ⟨pk_in s 21 hs, ?_⟩)
      rintro M3 rfl
      rw [nI_1, nI_cl s (by omega)]
      refine hbk _ ⟨_, rfl, (f.tr (f2.mono (fun b k hh => Or.inr hh) (fun _ _ hh => hh))).uI (Or.inl rfl), fun t ht htN j hj => ?_⟩
      rw [s_II, if_pos rfl]
      by_cases hts : t = s
      · subst hts; rw [if_pos rfl]; exact hv2 htN j hj
      · rw [if_neg hts, f2.1 _ _ (by omega)]; exact hv t (by omega) htN j hj
  refine ⟨lk_9 h1, ?_⟩
  rw [h.2.1]
  refine ⟨fun hx => absurd hx (Int32.not_lt.mpr (show nI 1 ≤ nI (e + 1) from nI_le (by omega) (by omega))), fun _ => ⟨_, lr_9_2 h1, lk_11 h1, ?_⟩⟩
  rw [ln_11 h1, nI_cl _ (by omega)]
  refine ⟨fun _ => ⟨pk_in (e + 1) 7 he7, _, (lk_fr h1 he7).2.2.1, ?_⟩, fun hx => absurd (nI_lt he7 (by omega)) hx⟩
  refine sp_closeRow h1 he7 hN hA hB (fun M1 f1 r1 r2 => ?_)
  have g1 : Fr (PX g (17 + 5 * e)) nQ M M1 := f1.mono (fun b k hh => by unfold PX; omega) (fun _ _ hh => hh)
  rw [(cls_ne hb).1]
  refine ⟨fun hb2 => ?_, fun hb2 => loop M1 g1 (by rw [f1.1 _ _ (by omega)]; exact h.2.1) (fun hx => absurd hx hb2) (fun hx => ?_)⟩
  · refine sp_keepForm (f1.lay h1) he7 hN hm (hK.fr f1 (fun b k hh => by omega)) r2 (fun M2 f2 k2 r3 r4 => loop M2 (g1.tr (f2.mono (fun b k hh => by unfold PX; omega) (fun _ _ hh => hh))) (by rw [f2.1 _ _ (by omega), f1.1 _ _ (by omega)]; exact h.2.1) (fun _ => k2.iff (fun i hi s hs j hj => ?_)) (fun hx => by omega))
    by_cases him : i = m
    · subst him; rw [upN_s]; exact hKl s hs j hj
    · rw [upN_n _ _ him]
  · have := hbm hx
    subst this
    exact r2.iff (fun s hs j hj => hKl s hs j hj)
