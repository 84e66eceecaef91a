/-! PURE: the reference's loop of pack -/
theorem sp_pkCopy {g : Gh} {M0 M : Mem} (l0 : Lay g M0) (h1 : Lay g M) {n : Nat} (hn : n ≤ 48) {p1 p2 p3 p4 p5 p6 : Int32} {v : Nat → Nat} (hv : ∀ j, j < n → mI M (gB g + 221) j = nI (v j)) {post : Int32 → Mem → Prop} (hq : ∀ M', Fr (fun a k => a = (gB g + 220) ∨ (a = (gB g + 195) ∧ (k = 46 ∨ k = 47))) nQ M M' → (∀ j, j < n → mI M' (gB g + 220) j = nI (v j)) → mI M' (gB g + 195) 46 = p1 → mI M' (gB g + 195) 47 = p2 → post 0 M') : lb_X12_pack_310 g M0 (gB g + 195) p1 p2 p3 p4 p5 p6 post (nI n) M := by
  refine lfp_up (fun i z => ∃ M', z = (nI n, nI i, M') ∧ Fr (fun a k => a = (gB g + 220)) nQ M M' ∧ ∀ j, j < i → mI M' (gB g + 220) j = nI (v j)) n ?_ ?_ 0 _ (by omega) ⟨M, rfl, Fr.rf, fun j hj => by omega⟩
  · rintro bk z ⟨M', rfl, f, e⟩
    refine pk_le n n (fun _ => ?_) (fun hx => by omega)
    rintro M1 rfl M3 rfl
    refine hq _ (((f.mono (fun a k hh => Or.inl hh) (fun _ _ hh => hh)).uI (by omega)).uI (by omega)) (fun j hj => ?_) ?_ ?_
    · rw [s_II, if_neg (by omega), s_II, if_neg (by omega)]; exact e j hj
    · rw [s_II, if_pos rfl, if_neg (by decide), s_II, if_pos rfl, if_pos rfl]
    · rw [s_II, if_pos rfl, if_pos rfl]
  · rintro bk i z hi ⟨M', rfl, f, e⟩ hb
    have l' := f.lay h1
    show bd_X12_pack_313 g M0 (gB g + 195) p1 p2 p3 p4 p5 p6 post bk (nI n) (nI i) M'
    unfold bd_X12_pack_313
    refine pk_le n i (fun hx => by omega) (fun _ => ⟨_, lr_195_41 l', _, lr_195_42 l', lk_221 l0, by rw [ln_221 l0]; exact pk_in i 49 (by omega), lk_220 l0, by rw [ln_220 l0]; exact pk_in i 48 (by omega), ?_⟩)
    rintro M14 rfl
    rw [nI_1, nI_cl i (by omega), f.1 (gB g + 221) i (by omega), hv i hi]
    refine hb _ ⟨_, rfl, f.uI rfl, fun j hj => ?_⟩
    rw [s_II, if_pos rfl]
    by_cases hji : j = i
    · subst hji; rw [if_pos rfl]
    · rw [if_neg hji]; exact e j (by omega)
theorem sp_packM {g : Gh} {M0 M : Mem} {nq : Nat} {fre : Nat → Bool} {nu th : Nat → Nat} {hd : Nat → Int32} {ta tb : Nat} {A : PA} (l0 : Lay g M0) (h : SMk g M nq fre nu th hd ta tb A) (h45 : mI M (gB g + 195) 45 = 0) (h222 : ∀ t, t < 8 → mI M (gB g + 222) t = 0) {F : Nat} (hF : muP A s0P < F) {p6 : Int32} (hp6 : p6 = nI (aK A)) {post : Int32 → Mem → Prop} (hq : ∀ M', Fr (PMk g) nQ M M' → mI M' (gB g + 195) 45 = nI (pL (run A F s0P).2) → okS A (run A F s0P).2 → ((run A F s0P).1 ≠ 0 → mI M' (gB g + 195) 44 = mI M (gB g + 195) 44) → ((run A F s0P).1 = 0 → pN (run A F s0P).2 = aW A ∧ mI M' (gB g + 195) 44 = nI (aW A) ∧ mI M' (gB g + 195) 46 = nI ta ∧ mI M' (gB g + 195) 47 = nI tb ∧ ∀ j, j < aW A → mI M' (gB g + 220) j = nI (nu (pK (run A F s0P).2 j))) → post (nI (run A F s0P).1) M') : lb_X12_pack_121 g M0 (gB g + 195) (nI ta) (nI tb) (aM A) (aLo A) (aHi A) p6 post M := by
  subst hp6
  have h1 := h.1
  have r0 : RMk g M nu s0P := ⟨h45, fun j hj => absurd hj (by show ¬ j < 0; omega), h222⟩
  have ok0 : okS A s0P := ⟨Nat.zero_le _, Nat.zero_le _, Nat.zero_le _, Nat.zero_le _, fun j hj => absurd hj (by show ¬ j < 0; omega)⟩
  generalize hR : run A F s0P = R at hq
  refine lfp_ms (fun z => ∃ (s : PS) (q : Nat) (M' : Mem) (k : Nat), z = (nI (pN s), nI q, pH s, M') ∧ q ≤ nq ∧ Fr (fun a k => PMk g a k ∧ ¬ (a = (gB g + 195) ∧ k = 44)) nQ M M' ∧ RMk g M' nu s ∧ okS A s ∧ muP A s < k ∧ run A k s = R ∧ (pN s ≠ aW A → nwr A (pT s) (aF A - pF s) (pF s) = nwr A (pT s) (aF A - ixN fre q) (ixN fre q))) (fun z => (aK A - (mI z.2.2.2 (gB g + 195) 45).toNatClampNeg) * 10000 + z.1.toNatClampNeg * 100 + (60 - z.2.1.toNatClampNeg)) ?_ _ ⟨s0P, 0, M, F, rfl, Nat.zero_le _, Fr.rf, r0, ok0, hF, hR, fun _ => rfl⟩
  rintro bk z ⟨s, q, M', k, rfl, hqn, f0, hr, ho, hk, e, hnx⟩ hb
  have f : Fr (PMk g) nQ M M' := f0.mono (fun a k hh => hh.1) (fun _ _ hh => hh)
  have h44 : mI M' (gB g + 195) 44 = mI M (gB g + 195) 44 := f0.1 _ _ (fun hh => hh.2 ⟨rfl, rfl⟩)
  have hS := h.fr f
  obtain ⟨l', n60, ⟨aFe, aW48, aW1, aK1⟩, e16, e40, hth, hnu⟩ := id hS
  obtain ⟨o1, o2, o3, o4, o5⟩ := id ho
  obtain ⟨k, rfl⟩ : ∃ k', k = k' + 1 := ⟨k - 1, by omega⟩
  have er : run A (k + 1) s = if pN s = aW A ∧ ¬ pH s < aLo A ∧ ¬ aHi A < pH s then (0, s) else if nxI A s < aF A then (if pL s = aK A then (2, s) else run A k (putP A s (nxI A s))) else if pN s = 0 then (1, s) else run A k (takP A s) := rfl
  have e' := e
  rw [er] at e
  have hFix : aF A ≤ 60 := by rw [aFe]; have := ixN_le fre nq; omega
  have mz : ∀ (s' : PS) (q' : Nat) (M'' : Mem), RMk g M'' nu s' → okS A s' → q' ≤ nq → (aK A - (mI M'' (gB g + 195) 45).toNatClampNeg) * 10000 + (nI (pN s')).toNatClampNeg * 100 + (60 - (nI q').toNatClampNeg) = (aK A - pL s') * 10000 + pN s' * 100 + (60 - q') := by
    intro s' q' M'' r' o' q1
    have a1 := o'.1
    have a2 := o'.2.2.1
    rw [r'.1, nI_cl _ (by omega), nI_cl _ (by omega), nI_cl _ (by omega)]
  show bd_X12_pack_130 g M0 (gB g + 195) (nI ta) (nI tb) (aM A) (aLo A) (aHi A) (nI (aK A)) post bk (nI (pN s)) (nI q) (pH s) M'
  unfold bd_X12_pack_130
  rw [e40]
  -- one is taken out, or there is none
  have k252 : nxI A s = aF A → ¬ (pN s = aW A ∧ ¬ pH s < aLo A ∧ ¬ aHi A < pH s) → lb_X12_pack_252 g M0 (gB g + 195) (nI ta) (nI tb) (aM A) (aLo A) (aHi A) (nI (aK A)) post bk (nI (pN s)) (pH s) M' := by
    intro hx hnf
    rw [if_neg hnf, if_neg (by omega)] at e
    refine pk_eq (pN s) 0 (fun h0 => ?_) (fun h0 => ?_)
    · rw [if_pos h0] at e
      have := hq M' f (by rw [← e]; exact hr.1) (by rw [← e]; exact ho) (fun _ => h44) (by rw [← e]; intro hx; exact absurd (show (1 : Nat) = 0 from hx) (by decide))
      rw [← e] at this
      exact this
    · rw [if_neg h0] at e
      have hkk := o5 (pN s - 1) (by omega)
      have hnk := hnu (pK s (pN s - 1)) (by omega)
      have hqk := hth _ hnk.1
      have e1 : nI (pN s) + (-1) = nI (pN s - 1) := by
        rw [show pN s = (pN s - 1) + 1 by omega, pk_m1]; rfl
      rw [e1]
      have c1 : Int32.toNatClampNeg (nI (pN s - 1)) = pN s - 1 := nI_cl _ (by omega)
      have v221 : mI M' (gB g + 221) (pN s - 1) = nI (nu (pK s (pN s - 1))) := hr.2.1 _ (by omega)
      have cq : Int32.toNatClampNeg (nI (nu (pK s (pN s - 1)))) = nu (pK s (pN s - 1)) := nI_cl _ (by omega)
      have ct : Int32.toNatClampNeg (nI (th (nu (pK s (pN s - 1))))) = th (nu (pK s (pN s - 1))) := nI_cl _ (by omega)
      refine ⟨_, lr_195_42 l', lk_221 l0, by rw [ln_221 l0]; exact pk_in (pN s - 1) 49 (by omega), _, lr_195_43 l', _, lr_195_19 l', lk_202 l0, ?_, lk_222 l0, ?_, ?_⟩
      · rw [c1, v221, ln_202 l0]; exact pk_in (nu (pK s (pN s - 1))) 60 (by omega)
      · rw [c1, v221, cq, hqk.2.1, ln_222 l0]; exact pk_in (th (nu (pK s (pN s - 1)))) 8 hqk.1
      rintro M29 rfl
      rw [c1, v221, cq, hqk.2.1, ct, hr.2.2 _ hqk.1]
      have f3 : Fr (fun a k => PMk g a k ∧ ¬ (a = (gB g + 195) ∧ k = 44)) nQ M (uI M' (gB g + 222) (th (nu (pK s (pN s - 1)))) (pT s (th (nu (pK s (pN s - 1)))) - 1)) := f0.uI (by unfold PMk; omega)
      have r3 : RMk g (uI M' (gB g + 222) (th (nu (pK s (pN s - 1)))) (pT s (th (nu (pK s (pN s - 1)))) - 1)) nu (takP A s) := by
        refine ⟨?_, fun j hj => ?_, fun t ht => ?_⟩
        · rw [s_II, if_neg (by omega)]; exact hr.1
        · rw [s_II, if_neg (by omega)]; exact hr.2.1 j (by have hj : j < pN s - 1 := hj; omega)
        · rw [s_II, if_pos rfl]
          show _ = upN (pT s) (aT A (pK s (pN s - 1))) (pT s (aT A (pK s (pN s - 1))) - 1) t
          rw [hnk.2.2.2.1]
          by_cases htt : t = th (nu (pK s (pN s - 1)))
          · subst htt; rw [if_pos rfl, upN_s]
          · rw [if_neg htt, upN_n _ _ htt]; exact hr.2.2 t ht
      have o3' := okS_tak ho h0
      generalize uI M' (gB g + 222) (th (nu (pK s (pN s - 1)))) (pT s (th (nu (pK s (pN s - 1)))) - 1) = M3 at f3 r3 ⊢
      refine sp_hardM (f3.lay h1) (by omega) ?_
      rw [f3.1 (gB g + 203) _ (by unfold PMk; omega), f3.1 (gB g + 204) _ (by unfold PMk; omega)]
      have hh := (h.2.2.2.2.2.1 _ hnk.1).2.2.1
      rw [hh, nI_1]
      have ei : ixN fre (nu (pK s (pN s - 1)) + 1) = pK s (pN s - 1) + 1 := by
        show (if fre (nu (pK s (pN s - 1))) = true then _ else _) = _
        rw [if_pos hnk.2.1, hnk.2.2.1]
      refine hb _ ⟨takP A s, nu (pK s (pN s - 1)) + 1, M3, k, ?_, by omega, f3, r3, o3', Nat.lt_of_lt_of_le (mu_tak h0) (by omega), e, fun _ => by rw [ei]; rfl⟩ ?_
      · show _ = (nI (pN s - 1), _, pH s - aH A (pK s (pN s - 1)), M3)
        rw [hnk.2.2.2.2]
      · show (aK A - (mI M3 (gB g + 195) 45).toNatClampNeg) * 10000 + (nI (pN s - 1)).toNatClampNeg * 100 + (60 - (nI (nu (pK s (pN s - 1)) + 1)).toNatClampNeg) < (aK A - (mI M' (gB g + 195) 45).toNatClampNeg) * 10000 + (nI (pN s)).toNatClampNeg * 100 + (60 - (nI q).toNatClampNeg)
        have z1 := mz (takP A s) (nu (pK s (pN s - 1)) + 1) M3 r3 o3' (by omega)
        have z2 := mz s q M' hr ho hqn
        have z1 : (aK A - (mI M3 (gB g + 195) 45).toNatClampNeg) * 10000 + (nI (pN s - 1)).toNatClampNeg * 100 + (60 - (nI (nu (pK s (pN s - 1)) + 1)).toNatClampNeg) = (aK A - pL s) * 10000 + (pN s - 1) * 100 + (60 - (nu (pK s (pN s - 1)) + 1)) := z1
        rw [z1, z2]
        omega
  have k156 : ¬ (pN s = aW A ∧ ¬ pH s < aLo A ∧ ¬ aHi A < pH s) → lb_X12_pack_156 g M0 (gB g + 195) (nI ta) (nI tb) (aM A) (aLo A) (aHi A) (nI (aK A)) post bk (nI (pN s)) (nI q) (pH s) M' := by
    intro hnf
    unfold lb_X12_pack_156
    rw [e40, e16]
    refine pk_le (aW A) (pN s) (fun hf => k252 (by unfold nxI; rw [if_pos (by omega)]) hnf) (fun hf => pk_le nq q (fun hqq => k252 ?_ hnf) (fun hqq => ?_))
    · have : q = nq := by omega
      subst this
      unfold nxI
      rw [if_neg (by omega), hnx (by omega), ← aFe, Nat.sub_self]; rfl
    have hNW : pN s ≠ aW A := by omega
    have hnxI : nxI A s = nwr A (pT s) (aF A - ixN fre q) (ixN fre q) := by unfold nxI; rw [if_neg hNW]; exact hnx hNW
    have es : ixN fre (q + 1) = if fre q = true then ixN fre q + 1 else ixN fre q := rfl
    have skip : (nwr A (pT s) (aF A - ixN fre q) (ixN fre q) = nwr A (pT s) (aF A - ixN fre (q + 1)) (ixN fre (q + 1))) → bk (nI (pN s), nI q + 1, pH s, M') := by
      intro hsk
      rw [nI_1]
      refine hb _ ⟨s, q + 1, M', k + 1, rfl, by omega, f0, hr, ho, hk, e', fun _ => (hnx hNW).trans hsk⟩ ?_
      show (aK A - (mI M' (gB g + 195) 45).toNatClampNeg) * 10000 + (nI (pN s)).toNatClampNeg * 100 + (60 - (nI (q + 1)).toNatClampNeg) < (aK A - (mI M' (gB g + 195) 45).toNatClampNeg) * 10000 + (nI (pN s)).toNatClampNeg * 100 + (60 - (nI q).toNatClampNeg)
      rw [mz s (q + 1) M' hr ho (by omega), mz s q M' hr ho (by omega)]; omega
    refine sp_mayComeM hS hr hqq (fun hfq hroom => ⟨fun hx => absurd hx (by decide), fun _ => ?_⟩) (fun hno => ⟨fun _ => skip ?_, fun hx => absurd rfl hx⟩)
    · have hixlt : ixN fre q < aF A := by rw [aFe]; exact ixN_lt hqq hfq
      have hni := hnu (ixN fre q) (by omega)
      have hnuq : nu (ixN fre q) = q := ix_nu hni.2.1 hfq hni.2.2.1
      have hTq : aT A (ixN fre q) = th q := by rw [hni.2.2.2.1, hnuq]
      have hHq : aH A (ixN fre q) = hd q := by rw [hni.2.2.2.2, hnuq]
      have hnxq : nxI A s = ixN fre q := by
        rw [hnxI, show aF A - ixN fre q = (aF A - (ixN fre q + 1)) + 1 by omega]
        show (if aM A ≤ pT s (aT A (ixN fre q)) then _ else _) = _
        rw [hTq, if_neg hroom]
      rw [if_neg hnf, if_pos (by omega), hnxq] at e
      rw [hr.1]
      refine pk_eq (pL s) (aK A) (fun hl => ?_) (fun hl => ?_)
      · rw [if_pos hl] at e
        have := hq M' f (by rw [← e]; exact hr.1) (by rw [← e]; exact ho) (fun _ => h44) (by rw [← e]; intro hx; exact absurd (show (2 : Nat) = 0 from hx) (by decide))
        rw [← e] at this
        exact this
      · rw [if_neg hl] at e
        rintro M51 rfl
        rw [nI_1]
        have cn : Int32.toNatClampNeg (nI (pN s)) = pN s := nI_cl _ (by omega)
        refine ⟨_, lr_195_42 l', lk_221 l0, by rw [ln_221 l0]; exact pk_in (pN s) 49 (by omega), ?_⟩
        rintro M57 rfl
        rw [cn]
        have tq := hth q hqq
        have cq : Int32.toNatClampNeg (nI q) = q := nI_cl q (by omega)
        have ct : Int32.toNatClampNeg (nI (th q)) = th q := nI_cl _ (by omega)
        have v202 : mI (uI (uI M' (gB g + 195) 45 (nI (pL s + 1))) (gB g + 221) (pN s) (nI q)) (gB g + 202) q = nI (th q) := by rw [s_II, if_neg (by omega), s_II, if_neg (by omega)]; exact tq.2.1
        have v222 : mI (uI (uI M' (gB g + 195) 45 (nI (pL s + 1))) (gB g + 221) (pN s) (nI q)) (gB g + 222) (th q) = pT s (th q) := by rw [s_II, if_neg (by omega), s_II, if_neg (by omega)]; exact hr.2.2 _ tq.1
        refine ⟨_, lr_195_43 l', _, lr_195_19 l', lk_202 l0, by rw [ln_202 l0]; exact pk_in q 60 (by omega), lk_222 l0, ?_, ?_⟩
        · rw [cq, v202, ln_222 l0]; exact pk_in (th q) 8 tq.1
        rintro M41 rfl
        rw [cq, v202, ct, v222]
        have f3 : Fr (fun a k => PMk g a k ∧ ¬ (a = (gB g + 195) ∧ k = 44)) nQ M (uI (uI (uI M' (gB g + 195) 45 (nI (pL s + 1))) (gB g + 221) (pN s) (nI q)) (gB g + 222) (th q) (pT s (th q) + 1)) := ((f0.uI (by unfold PMk; omega)).uI (by unfold PMk; omega)).uI (by unfold PMk; omega)
        have r3 : RMk g (uI (uI (uI M' (gB g + 195) 45 (nI (pL s + 1))) (gB g + 221) (pN s) (nI q)) (gB g + 222) (th q) (pT s (th q) + 1)) nu (putP A s (ixN fre q)) := by
          refine ⟨?_, fun j hj => ?_, fun t ht => ?_⟩
          · rw [s_II, if_neg (by omega), s_II, if_neg (by omega), s_II, if_pos rfl, if_pos rfl]; rfl
          · have hj : j < pN s + 1 := hj
            show _ = nI (nu (upN (pK s) (pN s) (ixN fre q) j))
            rw [s_II, if_neg (by omega), s_II, if_pos rfl]
            by_cases hjn : j = pN s
            · subst hjn; rw [if_pos rfl, upN_s, hnuq]
            · rw [if_neg hjn, upN_n _ _ hjn, s_II, if_neg (by omega)]; exact hr.2.1 j (by omega)
          · show _ = upN (pT s) (aT A (ixN fre q)) (pT s (aT A (ixN fre q)) + 1) t
            rw [s_II, if_pos rfl, hTq]
            by_cases htt : t = th q
            · subst htt; rw [if_pos rfl, upN_s]
            · rw [if_neg htt, upN_n _ _ htt, s_II, if_neg (by omega), s_II, if_neg (by omega)]; exact hr.2.2 t ht
        have o3' := okS_put ho (by omega) hl hixlt
        have hmu := mu_put ho hl (ixN fre q)
        generalize uI (uI (uI M' (gB g + 195) 45 (nI (pL s + 1))) (gB g + 221) (pN s) (nI q)) (gB g + 222) (th q) (pT s (th q) + 1) = M3 at f3 r3 ⊢
        refine sp_hardM (f3.lay h1) (by omega) ?_
        rw [f3.1 (gB g + 203) _ (by unfold PMk; omega), f3.1 (gB g + 204) _ (by unfold PMk; omega), (h.2.2.2.2.2.1 q hqq).2.2.1, nI_1, nI_1]
        refine hb _ ⟨putP A s (ixN fre q), q + 1, M3, k, ?_, by omega, f3, r3, o3', Nat.lt_of_lt_of_le hmu (by omega), e, fun _ => by rw [es, if_pos hfq]; rfl⟩ ?_
        · show _ = (nI (pN s + 1), _, pH s + aH A (ixN fre q), M3)
          rw [hHq]
        · show (aK A - (mI M3 (gB g + 195) 45).toNatClampNeg) * 10000 + (nI (pN s + 1)).toNatClampNeg * 100 + (60 - (nI (q + 1)).toNatClampNeg) < (aK A - (mI M' (gB g + 195) 45).toNatClampNeg) * 10000 + (nI (pN s)).toNatClampNeg * 100 + (60 - (nI q).toNatClampNeg)
          have z1 : (aK A - (mI M3 (gB g + 195) 45).toNatClampNeg) * 10000 + (nI (pN s + 1)).toNatClampNeg * 100 + (60 - (nI (q + 1)).toNatClampNeg) = (aK A - (pL s + 1)) * 10000 + (pN s + 1) * 100 + (60 - (q + 1)) := mz (putP A s (ixN fre q)) (q + 1) M3 r3 o3' (by omega)
          rw [z1, mz s q M' hr ho hqn]; omega
    · by_cases hfq : fre q = true
      · rw [es, if_pos hfq]
        have hixlt : ixN fre q < aF A := by rw [aFe]; exact ixN_lt hqq hfq
        have hni := hnu (ixN fre q) (by omega)
        have hnuq : nu (ixN fre q) = q := ix_nu hni.2.1 hfq hni.2.2.1
        have hTq : aT A (ixN fre q) = th q := by rw [hni.2.2.2.1, hnuq]
        rw [show aF A - ixN fre q = (aF A - (ixN fre q + 1)) + 1 by omega]
        show (if aM A ≤ pT s (aT A (ixN fre q)) then _ else _) = _
        rw [hTq, if_pos (Classical.byContradiction (fun hx => hno ⟨hfq, hx⟩))]
      · rw [es, if_neg hfq]
  refine pk_eq (pN s) (aW A) (fun hW => ⟨fun hlo => k156 (fun hx => hx.2.1 hlo), fun hlo => ⟨fun hhi => k156 (fun hx => hx.2.2 hhi), fun hhi => ?_⟩⟩) (fun hW => k156 (fun hx => hW hx.1))
  rw [if_pos ⟨hW, hlo, hhi⟩] at e
  rintro M59 rfl
  have f5 : Fr (PMk g) nQ M (uI M' (gB g + 195) 44 (nI (pN s))) := f.uI (by unfold PMk; omega)
  refine sp_pkCopy (v := fun j => nu (pK s j)) l0 (f5.lay h1) (by omega) (fun j hj => by rw [s_II, if_neg (by omega)]; exact hr.2.1 j hj) (fun M6 f6 v6 w6 x6 => ?_)
  have := hq M6 (f5.tr (f6.mono (fun a k hh => by unfold PMk; omega) (fun _ _ hh => hh))) (by rw [← e, f6.1 _ _ (by omega), s_II, if_pos rfl, if_neg (by decide)]; exact hr.1) (by rw [← e]; exact ho) (by rw [← e]; intro hx; exact absurd rfl hx) (by
    rw [← e]; intro _
    refine ⟨hW, ?_, w6, x6, fun j hj => v6 j (by omega)⟩
    rw [f6.1 _ _ (by omega), s_II, if_pos rfl, if_pos rfl, hW])
  rw [← e] at this
  exact this
