/-! PURE: the reference reads a whole form, all of it -/
theorem bOf_cls {c : Nat} (h : c = 91 ∨ c = 40 ∨ c = 123) : bOf c ≤ 2 ∧ (c = 91 → cls (bOf c) = 93) ∧ (c = 40 → cls (bOf c) = 41) ∧ (c = 123 → cls (bOf c) = 125) ∧ 3 < cls (bOf c) ∧ cls (bOf c) < 256 := by
  rcases h with rfl | rfl | rfl <;> decide
theorem pPart_l {nx : Tk → Tk} {ff d : Nat} {T : Tk} (h : T.1 = 1 ∨ T.1 = 2) : pPart nx ff (d + 1) T = mpR (fun x => (Sum.inl x : Lf ⊕ (Nat × List (List (List (Prt d)))))) (pLeaf nx T) := if_pos h
theorem pPart_b {nx : Tk → Tk} {ff d : Nat} {T : Tk} (h : ¬ (T.1 = 1 ∨ T.1 = 2)) (h2 : isPt T.1 = true) : pPart nx ff (d + 1) T = mpR (fun x => (Sum.inr x : Lf ⊕ (Nat × List (List (List (Prt d)))))) (pBr nx (pSet nx (pForm nx (pRow (pPart nx ff d) ff) ff) (decide (T.1 = 123)) 5) T) := (if_neg h).trans (if_pos h2)
theorem pPart_n {nx : Tk → Tk} {ff d : Nat} {T : Tk} (h2 : isPt T.1 = false) : pPart nx ff d T = .error (1, T) := by
  have h1 : ¬ (T.1 = 1 ∨ T.1 = 2) := fun hx => by
    have := of_decide_eq_false h2; omega
  cases d with
  | zero =>
    exact (if_neg h1).trans (if_neg (by rw [h2]; decide))
  | succ d =>
    exact (if_neg h1).trans (if_neg (by rw [h2]; decide))
set_option maxHeartbeats 2000000 in
theorem rd_part {g : Gh} {n : Nat} {bs : Nat → Nat} {nq ff : Nat} (hff : n < ff) : ∀ (d dp : Nat), dp + d = 6 → RdOK g n bs nq dp 2 (wpPart (d + 2)) (pPart (nxF bs n) ff d) (fun lo hi N m x => encP lo hi N d m x) := by
  intro d
  induction d with
  | zero =>
    intro dp hdp M T cnt q post h hq1 hq2 hc hok herr
    by_cases hT : T.1 = 1 ∨ T.1 = 2
    · have e : pPart (nxF bs n) ff 0 T = pLeaf (nxF bs n) T := if_pos hT
      exact rd_leafP (by omega) h hT hq1 hq2 hc (fun M' T' x cnt' q' hp => hok M' T' x cnt' q' (by rw [e]; exact hp)) (fun M' er hp => herr M' er (by rw [e]; exact hp))
    · refine ⟨lk_195 h.1, sp_isPart h.1 h.2.2.2.1 h.lt ?_⟩
      cases hpt : isPt T.1 with
      | false => exact ⟨fun _ => sp_noneF h.1 h.2.2.2.1 1 (fun _ => rfl) (fun M' f e9 e10 => herr M' (1, T) (pPart_n hpt) (f.mono PBd.q (fun a k hh => (hh : False).elim)) e9 e10), fun hx => absurd rfl hx⟩
      | true =>
        have hp := of_decide_eq_true hpt
        refine ⟨fun hx => absurd hx (by decide), fun _ => ?_⟩
        rw [h.2.2.2.1.1, h.2.2.2.2.2.2.1]
        have k5 := (km_eq (c := T.1)).2.2.2.2.2
        refine pk_eq (km T.1) 2 (fun h2 => absurd (km_eq.1.mp h2) (by omega)) (fun h2 => pk_eq (km T.1) 3 (fun h3 => absurd (km_eq.2.1.mp h3) (by omega)) (fun h3 => pk_eq dp 6 (fun _ => ?_) (fun hx => by omega)))
        refine sp_noneF h.1 h.2.2.2.1 3 (fun hx => by omega) (fun M' f e9 e10 => herr M' (3, T) ?_ (f.mono PBd.q (fun a k hh => (hh : False).elim)) e9 e10)
        exact (if_neg hT).trans (if_pos hpt)
  | succ d ih =>
    intro dp hdp M T cnt q post h hq1 hq2 hc hok herr
    have h60 := h.2.2.2.2.2.2.2
    by_cases hT : T.1 = 1 ∨ T.1 = 2
    · exact rd_leafP (by omega) h hT hq1 hq2 hc (fun M' T' x cnt' q' hp f m b1 b2 b3 b4 he hn => hok M' T' (Sum.inl x : Lf ⊕ (Nat × List (List (List (Prt d))))) cnt' q' (by rw [pPart_l hT, hp]; rfl) f m b1 b2 b3 b4 he hn) (fun M' er hp => herr M' er (by rw [pPart_l hT, hp]; rfl))
    · refine ⟨lk_195 h.1, sp_isPart h.1 h.2.2.2.1 h.lt ?_⟩
      cases hpt : isPt T.1 with
      | false => exact ⟨fun _ => sp_noneF h.1 h.2.2.2.1 1 (fun _ => rfl) (fun M' f e9 e10 => herr M' (1, T) (pPart_n hpt) (f.mono PBd.q (fun a k hh => (hh : False).elim)) e9 e10), fun hx => absurd rfl hx⟩
      | true =>
        have hp := of_decide_eq_true hpt
        have hbr : T.1 = 91 ∨ T.1 = 40 ∨ T.1 = 123 := by omega
        have h200 := tk_200 h.2.2.1 (by omega) (by omega)
        have hbo := bOf_cls hbr
        refine ⟨fun hx => absurd hx (by decide), fun _ => ?_⟩
        rw [h.2.2.2.1.1, h.2.2.2.2.2.2.1, nI_1]
        have k5 := (km_eq (c := T.1)).2.2.2.2.2
        refine pk_eq (km T.1) 2 (fun h2 => absurd (km_eq.1.mp h2) (by omega)) (fun h2 => pk_eq (km T.1) 3 (fun h3 => absurd (km_eq.2.1.mp h3) (by omega)) (fun h3 => pk_eq dp 6 (fun _ => by omega) (fun hx => ?_)))
        rintro M0 rfl
        have f0 : Fr (fun a k => a = (gB g + 195) ∧ k = 18) nQ M (uI M (gB g + 195) 18 (nI (dp + 1))) := Fr.rf.uI ⟨rfl, rfl⟩
        have m0 : QRd g (uI M (gB g + 195) 18 (nI (dp + 1))) n bs nq cnt (dp + 1) T := ⟨h.1, h.2.1.fr f0 (fun a k hh => by omega), h.2.2.1, h.2.2.2.1.fr f0 (fun a k hh => by omega) (fun a k hh => (hh : False).elim), by rw [f0.1 _ _ (by omega)]; exact h.2.2.2.2.1, by rw [f0.1 _ _ (by omega)]; exact h.2.2.2.2.2.1, by rw [s_II, if_pos rfl, if_pos rfl], h60.1, by rw [f0.1 _ _ (by omega)]; exact h60.2⟩
        generalize uI M (gB g + 195) 18 (nI (dp + 1)) = M0 at f0 m0 ⊢
        have g0 : Fr (PQm g (420 * nq + cnt) (420 * nq + 420)) (QQm g (420 * nq + cnt) (420 * nq + 420)) M M0 := f0.mono (fun a k hh => by unfold PQm; omega) (fun a k hh => (hh : False).elim)
        rw [m0.2.2.2.1.2.2.2.1 (by omega)]
        have a1 := adv_nx h.2.2.1
        have hst := a1.st h.2.2.1 (by omega) (by omega)
        have up : ∀ {M1 M2 : Mem}, Fr (PTm g) (QTm g) M1 M2 → Fr (PQm g (420 * nq + cnt) (420 * nq + 420)) (QQm g (420 * nq + cnt) (420 * nq + 420)) M1 M2 := fun f => f.mono (fun a k hh => by unfold PTm at hh; unfold PQm; omega) (fun a k hh => by unfold QTm at hh; unfold QQm; omega)
        have hE := (EOk.p d).c 1 |>.c 0
        have hF : RdOK g n bs nq (dp + 1) 0 (wp_X12_readForm (wp_X12_readRow (wpPart (d + 2)))) (pForm (nxF bs n) (pRow (pPart (nxF bs n) ff d) ff) ff) (EC 0 (EC 1 (fun lo hi N m x => encP lo hi N d m x))) := rd_form (by omega) ((EOk.p d).c 1) (adv_row (adv_part d) ff) (rd_row (by omega) (EOk.p d) (adv_part d) (ih (dp + 1) (by omega)) hff) hff
        have haF := adv_form (adv_row (adv_part (bs := bs) (n := n) (ff := ff) d) ff) ff
        have body : ∀ kd : Int32, kd = nI (5 + bOf T.1) → lb_X12_readPart_197 (wp_X12_readForm (wp_X12_readRow (wpPart (d + 2)))) g M (gB g + 195) post (nI T.1) (gB g + 195) kd M0 := by
          rintro kd rfl
          refine sp_node m0 (by omega) (fun M1 f1 m1 nd => sp_goF m1 (by omega) (fun M2 f2 m2 => ⟨5 + 1, ?_⟩))
          have nd2 : mI M2 (gB g + 197) (420 * nq + cnt) = nI (5 + bOf T.1) ∧ mI M2 (gB g + 199) (420 * nq + cnt) = -1 := ⟨by rw [f2.1 _ _ (by unfold PTm; omega)]; exact nd.1, by rw [f2.1 _ _ (by unfold PTm; omega)]; exact nd.2.2.1⟩
          have f02 := g0.tr (f1.tr (up f2))
          have ups : ∀ {M3 : Mem}, Fr (fun a k => PQm g (420 * nq + (cnt + 1)) (420 * nq + 420) a k ∨ (a = (gB g + 198) ∧ k = 420 * nq + cnt)) (QQm g (420 * nq + (cnt + 1)) (420 * nq + 420)) M2 M3 → Fr (PQm g (420 * nq + cnt) (420 * nq + 420)) (QQm g (420 * nq + cnt) (420 * nq + 420)) M M3 := fun f3 => f02.tr (f3.mono (fun a k hh => by unfold PQm at hh ⊢; omega) (QQm.up (by omega)))
          refine rd_setL (by omega) hE haF hF M cnt T.1 h.lt 5 M2 (nxF bs n T) (cnt + 1) (q + 1) (gB g + 198) (420 * nq + cnt) (-1) (by omega) (by omega) m2 (by omega) (by omega) (by omega) (Or.inl ⟨rfl, rfl, rfl⟩) (by omega) (by omega) (fun M3 T3 l c3 q3 hp3 f3 m3 b1 b2 b3 b4 hl => ?_) (fun M3 er hp3 f3 e9 e10 => herr M3 er (by rw [pPart_b hT hpt]; unfold pBr; rw [hp3]; rfl) (ups f3) e9 e10)
          -- the closing sign
          have a3 : Adv bs n T T3 := a1.tr (adv_set haF 5 _ _ _ a1.is hp3)
          have clo : lb_X12_readPart_326 (wp_X12_readForm (wp_X12_readRow (wpPart (d + 2)))) g M (gB g + 195) post (nI (420 * nq + cnt)) (gB g + 195) (nI (cls (bOf T.1))) M3 := by
            refine sp_sign m3.1 m3.2.2.2.1 m3.lt (cls (bOf T.1)) hbo.2.2.2.2.1 hbo.2.2.2.2.2 ?_
            by_cases hcl : T3.1 = cls (bOf T.1)
            · rw [decide_eq_true hcl]
              refine ⟨fun hx => absurd hx (by decide), fun _ => ?_⟩
              rintro M4 rfl
              rw [m3.2.2.2.2.2.2.1, show nI (dp + 1) - 1 = nI dp from nI_pred dp]
              have f4 : Fr (fun a k => a = (gB g + 195) ∧ k = 18) nQ M3 (uI M3 (gB g + 195) 18 (nI dp)) := Fr.rf.uI ⟨rfl, rfl⟩
              have m4 : QRd g (uI M3 (gB g + 195) 18 (nI dp)) n bs nq c3 dp T3 := ⟨m3.1, m3.2.1.fr f4 (fun a k hh => by omega), m3.2.2.1, m3.2.2.2.1.fr f4 (fun a k hh => by omega) (fun a k hh => (hh : False).elim), by rw [f4.1 _ _ (by omega)]; exact m3.2.2.2.2.1, by rw [f4.1 _ _ (by omega)]; exact m3.2.2.2.2.2.1, by rw [s_II, if_pos rfl, if_pos rfl], h60.1, by rw [f4.1 _ _ (by omega)]; exact m3.2.2.2.2.2.2.2.2⟩
              generalize uI M3 (gB g + 195) 18 (nI dp) = M4 at f4 m4 ⊢
              refine sp_goF m4 (by omega) (fun M5 f5 m5 => ?_)
              have ax := adv_nx a3.is
              have hst3 := ax.st a3.is (by omega) (by omega)
              have h203 := tk_200 a3.is (by omega) (by omega)
              have f35 : Fr (fun a k => (a = (gB g + 195) ∧ k = 18) ∨ PTm g a k) (QTm g) M3 M5 := (f4.mono (fun a k hh => Or.inl hh) (fun a k hh => (hh : False).elim)).tr (f5.mono (fun a k hh => Or.inr hh) (fun _ _ hh => hh))
              refine hok M5 _ (Sum.inr (bOf T.1, l) : Lf ⊕ (Nat × List (List (List (Prt d))))) c3 (q3 + 1) (by rw [pPart_b hT hpt]; unfold pBr; rw [hp3]; simp only [hcl, if_true]; rfl) ((ups f3).tr (f35.mono (fun a k hh => by unfold PTm at hh; unfold PQm; omega) (fun a k hh => by unfold QTm at hh; unfold QQm; omega))) m5 (by omega) (by omega) (by omega) (by omega) ?_ ?_
              · rw [ndM_fr f35 (fun a k hh => by unfold PTm at hh; omega) (fun a k hh => by unfold QTm at hh; omega)]
                refine ⟨?_, hl⟩
                show mI M3 (gB g + 197) (420 * nq + cnt) = _
                rw [f3.1 _ _ (by unfold PQm; omega)]; exact nd2.1
              · rw [f35.1 _ _ (by unfold PTm; omega), f3.1 _ _ (by unfold PQm; omega)]; exact nd2.2
            · rw [decide_eq_false hcl]
              refine ⟨fun _ => sp_noneF m3.1 m3.2.2.2.1 1 (fun _ => rfl) (fun M4 f4 e9 e10 => herr M4 (1, T3) (by rw [pPart_b hT hpt]; unfold pBr; rw [hp3]; simp only [hcl, if_false]; rfl) ((ups f3).tr (f4.mono PBd.q (fun a k hh => (hh : False).elim))) e9 e10), fun hx => absurd rfl hx⟩
          refine pk_eq T.1 91 (fun e => ?_) (fun n91 => pk_eq T.1 40 (fun e => ?_) (fun n40 => ?_))
          · rw [hbo.2.1 e] at clo; exact clo
          · rw [hbo.2.2.1 e] at clo; exact clo
          · rw [hbo.2.2.2.1 (by omega)] at clo; exact clo
        refine pk_eq T.1 91 (fun e => body 5 ?_) (fun n91 => pk_eq T.1 40 (fun e => body 6 ?_) (fun n40 => body 7 ?_))
        · rw [e]; rfl
        · rw [e]; rfl
        · rw [show T.1 = 123 by omega]; rfl
theorem rd_form6 {g : Gh} {n : Nat} {bs : Nat → Nat} {nq ff : Nat} (hff : n < ff) : RdOK g n bs nq 0 0 (wpForm 8) (pForm (nxF bs n) (pRow (pPart (nxF bs n) ff 6) ff) ff) (EC 0 (EC 1 (fun lo hi N m x => encP lo hi N 6 m x))) := rd_form (by omega) ((EOk.p 6).c 1) (adv_row (adv_part 6) ff) (rd_row (by omega) (EOk.p 6) (adv_part 6) (rd_part hff 6 0 (by omega)) hff) hff
