/-! PURE: the reference reads a whole form -/
set_option maxHeartbeats 1000000 in
theorem rd_leafP {g : Gh} {n : Nat} {bs : Nat → Nat} {nq cnt dp q : Nat} {w : Gh → Mem → Nat → (Int32 → Mem → Prop) → Prop} {M : Mem} {T : Tk} {post : Int32 → Mem → Prop} (hdp : dp ≤ 6) (h : QRd g M n bs nq cnt dp T) (hT : T.1 = 1 ∨ T.1 = 2) (hq1 : q ≤ 200) (hq2 : q ≤ T.2.1) (hc : cnt ≤ 2 * q + dp + 2) (hok : ∀ M' T' x cnt' q', pLeaf (nxF bs n) T = .ok (T', x) → Fr (PQm g (420 * nq + cnt) (420 * nq + 420)) (QQm g (420 * nq + cnt) (420 * nq + 420)) M M' → QRd g M' n bs nq cnt' dp T' → q' ≤ 200 → q' ≤ T'.2.1 → cnt' ≤ 2 * q' + dp + 1 → cnt < cnt' → encL (ndM g M') (420 * nq + cnt) x → mI M' (gB g + 199) (420 * nq + cnt) = -1 → post (nI (420 * nq + cnt)) M') (herr : ∀ M' e, pLeaf (nxF bs n) T = .error e → Fr (PQm g (420 * nq + cnt) (420 * nq + 420)) (QQm g (420 * nq + cnt) (420 * nq + 420)) M M' → mI M' (gB g + 195) 9 = nI e.1 → mI M' (gB g + 195) 10 = nI e.2.2.1 → post (-1) M') : wp_X12_readPart w g M (gB g + 195) post := by
  have h60 := h.2.2.2.2.2.2.2
  have h1 := h.1
  have hv := tk_val (Or.inl rfl) h.2.2.1 hT
  have ev := h.2.2.2.1.2.2.2.2 hT
  have h200 := tk_200 h.2.2.1 (by omega) (by omega)
  have a1 := adv_nx h.2.2.1
  have up : ∀ {M1 M2 : Mem}, Fr (PTm g) (QTm g) M1 M2 → Fr (PQm g (420 * nq + cnt) (420 * nq + 420)) (QQm g (420 * nq + cnt) (420 * nq + 420)) M1 M2 := fun f => f.mono (fun a k hh => by unfold PTm at hh; unfold PQm; omega) (fun a k hh => by unfold QTm at hh; unfold QQm; omega)
  have upB : ∀ {M1 M2 : Mem}, Fr (PBd g) nQ M1 M2 → Fr (PQm g (420 * nq + cnt) (420 * nq + 420)) (QQm g (420 * nq + cnt) (420 * nq + 420)) M1 M2 := fun f => f.mono PBd.q (fun a k hh => (hh : False).elim)
  refine ⟨lk_195 h1, sp_isPart h1 h.2.2.2.1 h.lt ?_⟩
  rw [show isPt T.1 = true from decide_eq_true (by omega)]
  refine ⟨fun hx => absurd hx (by decide), fun _ => ?_⟩
  rw [h.2.2.2.1.1, ev]
  have k5 := (km_eq (c := T.1)).2.2.2.2.2
  refine pk_eq (km T.1) 2 (fun h2 => ?_) (fun h2 => pk_eq (km T.1) 3 (fun h3 => ?_) (fun h3 => absurd hT (fun hx => hx.elim (fun e => h2 (km_eq.1.mpr e)) (fun e => h3 (km_eq.2.1.mpr e)))))
  · have t1 := km_eq.1.mp h2
    refine sp_node h (by omega) (fun M1 f1 m1 nd => sp_goF m1 (by omega) (fun M2 f2 m2 => ?_))
    have hst := a1.st h.2.2.1 (by omega) (by omega)
    refine hok M2 _ (true, T.2.2.1, T.2.2.1) (cnt + 1) (q + 1) (by unfold pLeaf; rw [if_pos t1]) (f1.tr (up f2)) m2 (by omega) (by omega) (by omega) (by omega) ?_ (by rw [f2.1 _ _ (by unfold PTm; omega)]; exact nd.2.2.1)
    rw [ndM_fr f2 (fun a k hh => by unfold PTm at hh; omega) (fun a k hh => by unfold QTm at hh; omega)]
    exact ⟨nd.1, nd.2.2.2.1, nd.2.2.2.2⟩
  · have t2 := km_eq.2.1.mp h3
    have pl : pLeaf (nxF bs n) T = pNum (nxF bs n) T := by unfold pLeaf; rw [if_neg (by omega)]
    refine sp_node h (by omega) (fun M1 f1 m1 nd => sp_goF m1 (by omega) (fun M2 f2 m2 => ?_))
    have nd2 : mI M2 (gB g + 197) (420 * nq + cnt) = 3 ∧ mI M2 (gB g + 199) (420 * nq + cnt) = -1 ∧ mJ M2 (gB g + 200) (420 * nq + cnt) = lN T.2.2.1 ∧ mJ M2 (gB g + 201) (420 * nq + cnt) = lN T.2.2.1 := by
      refine ⟨?_, ?_, ?_, ?_⟩
      · rw [f2.1 _ _ (by unfold PTm; omega)]; exact nd.1
      · rw [f2.1 _ _ (by unfold PTm; omega)]; exact nd.2.2.1
      · rw [f2.2.1 _ _ (by unfold QTm; omega)]; exact nd.2.2.2.1
      · rw [f2.2.1 _ _ (by unfold QTm; omega)]; exact nd.2.2.2.2
    refine sp_sign m2.1 m2.2.2.2.1 m2.lt 46 (by omega) (by omega) ?_
    by_cases c46 : (nxF bs n T).1 = 46
    · rw [decide_eq_true c46]
      refine ⟨fun hx => absurd hx (by decide), fun _ => sp_goF m2 (by omega) (fun M3 f3 m3 => ?_)⟩
      have a2 := a1.tr (adv_nx a1.is)
      have nd3 : mI M3 (gB g + 197) (420 * nq + cnt) = 3 ∧ mI M3 (gB g + 199) (420 * nq + cnt) = -1 ∧ mJ M3 (gB g + 200) (420 * nq + cnt) = lN T.2.2.1 := by
        refine ⟨?_, ?_, ?_⟩
        · rw [f3.1 _ _ (by unfold PTm; omega)]; exact nd2.1
        · rw [f3.1 _ _ (by unfold PTm; omega)]; exact nd2.2.1
        · rw [f3.2.1 _ _ (by unfold QTm; omega)]; exact nd2.2.2.1
      have f13 := f1.tr ((up f2).tr (up f3))
      rw [m3.2.2.2.1.1]
      have k6 := (km_eq (c := (nxF bs n (nxF bs n T)).1)).2.2.2.2.2
      refine pk_eq (km (nxF bs n (nxF bs n T)).1) 3 (fun h6 => ?_) (fun h6 => ?_)
      · have t3 := km_eq.2.1.mp h6
        have hv3 := tk_val (Or.inl rfl) a2.is (Or.inr t3)
        refine ⟨_, lr_195_14 m3.1, lk_200 h1, by rw [ln_200 h1]; exact pk_in (420 * nq + cnt) 25200 (by omega), ?_⟩
        rw [nI_cl _ (by omega), nd3.2.2, m3.2.2.2.1.2.2.2.2 (Or.inr t3)]
        have key : (0 ≤ lg_cmp (lN (nxF bs n (nxF bs n T)).2.2.1) (lN T.2.2.1)) ↔ T.2.2.1 ≤ (nxF bs n (nxF bs n T)).2.2.1 := by
          rw [← Int32.not_lt, lg_cmp_lt, pk_lLT (by omega) (by omega)]; omega
        rw [key]
        refine ⟨fun hle => ⟨_, lr_195_11 m3.1, lk_197 h1, by rw [ln_197 h1]; exact pk_in (420 * nq + cnt) 25200 (by omega), ?_⟩, fun hle => ?_⟩
        · rintro M4 rfl
          rw [nI_cl _ (by omega)]
          refine ⟨_, lr_195_15 (g := g) m3.1, lk_201 h1, by rw [ln_201 h1]; exact pk_in (420 * nq + cnt) 25200 (by omega), ?_⟩
          rintro M5 rfl
          rw [show mJ (uI M3 (gB g + 197) (420 * nq + cnt) 4) (gB g + 195) 8 = mJ M3 (gB g + 195) 8 from rfl, m3.2.2.2.1.2.2.2.2 (Or.inr t3)]
          have f5 : Fr (fun a k => a = (gB g + 197) ∧ k = 420 * nq + cnt) (fun a k => a = (gB g + 201) ∧ k = 420 * nq + cnt) M3 (uJ (uI M3 (gB g + 197) (420 * nq + cnt) 4) (gB g + 201) (420 * nq + cnt) (lN (nxF bs n (nxF bs n T)).2.2.1)) := (Fr.rf.uI ⟨rfl, rfl⟩).uJ ⟨rfl, rfl⟩
          have n5 : mI (uJ (uI M3 (gB g + 197) (420 * nq + cnt) 4) (gB g + 201) (420 * nq + cnt) (lN (nxF bs n (nxF bs n T)).2.2.1)) (gB g + 197) (420 * nq + cnt) = 4 ∧ mJ (uJ (uI M3 (gB g + 197) (420 * nq + cnt) 4) (gB g + 201) (420 * nq + cnt) (lN (nxF bs n (nxF bs n T)).2.2.1)) (gB g + 201) (420 * nq + cnt) = lN (nxF bs n (nxF bs n T)).2.2.1 := by
            refine ⟨?_, by simp [s_JJ]⟩
            show mI (uI M3 (gB g + 197) (420 * nq + cnt) 4) (gB g + 197) (420 * nq + cnt) = 4
            rw [s_II, if_pos rfl, if_pos rfl]
          have m5 := m3.fr f5 (fun a k hh => by omega) (fun a k hh => by omega)
          generalize uJ (uI M3 (gB g + 197) (420 * nq + cnt) 4) (gB g + 201) (420 * nq + cnt) (lN (nxF bs n (nxF bs n T)).2.2.1) = M5 at f5 n5 m5 ⊢
          refine sp_goF m5 (by omega) (fun M6 f6 m6 => ?_)
          have a3 := a2.tr (adv_nx a2.is)
          have hst := a3.st h.2.2.1 (by omega) (by omega)
          refine hok M6 _ (false, T.2.2.1, (nxF bs n (nxF bs n T)).2.2.1) (cnt + 1) (q + 1) (by rw [pl]; unfold pNum; rw [if_pos c46, if_pos t3, if_pos hle]) (f13.tr ((f5.mono (fun a k hh => by unfold PQm; omega) (fun a k hh => by unfold QQm; omega)).tr (up f6))) m6 (by omega) (by omega) (by omega) (by omega) ?_ ?_
          · rw [ndM_fr f6 (fun a k hh => by unfold PTm at hh; omega) (fun a k hh => by unfold QTm at hh; omega)]
            refine ⟨Or.inr n5.1, ?_, n5.2⟩
            show mJ M5 (gB g + 200) (420 * nq + cnt) = _
            rw [f5.2.1 _ _ (by omega)]; exact nd3.2.2
          · rw [f6.1 _ _ (by unfold PTm; omega), f5.1 _ _ (by omega)]; exact nd3.2.1
        · exact sp_noneF m3.1 m3.2.2.2.1 2 (fun hx => by omega) (fun M4 f4 e9 e10 => herr M4 (2, nxF bs n (nxF bs n T)) (by rw [pl]; unfold pNum; rw [if_pos c46, if_pos t3, if_neg hle]) (f13.tr (upB f4)) e9 e10)
      · have t3 : ¬ (nxF bs n (nxF bs n T)).1 = 2 := fun hx => h6 (km_eq.2.1.mpr hx)
        exact sp_noneF m3.1 m3.2.2.2.1 1 (fun _ => rfl) (fun M4 f4 e9 e10 => herr M4 (1, nxF bs n (nxF bs n T)) (by rw [pl]; unfold pNum; rw [if_pos c46, if_neg t3]) (f13.tr (upB f4)) e9 e10)
    · rw [decide_eq_false c46]
      have hst := a1.st h.2.2.1 (by omega) (by omega)
      refine ⟨fun _ => hok M2 _ (false, T.2.2.1, T.2.2.1) (cnt + 1) (q + 1) (by rw [pl]; unfold pNum; rw [if_neg c46]) (f1.tr (up f2)) m2 (by omega) (by omega) (by omega) (by omega) ⟨Or.inl nd2.1, nd2.2.2.1, nd2.2.2.2⟩ nd2.2.1, fun hx => absurd rfl hx⟩
