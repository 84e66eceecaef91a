/-! PURE: the reference reads rows and forms -/
theorem pRow_e {α : Type} {pp : Tk → Rs α} {f : Nat} {T : Tk} {e : Nat × Tk} (h : pp T = .error e) : pRow pp (f + 1) T = .error e := by unfold pRow; rw [h]
theorem pRow_1 {α : Type} {pp : Tk → Rs α} {f : Nat} {T T1 : Tk} {x : α} (h : pp T = .ok (T1, x)) (h1 : isPt T1.1 = false) : pRow pp (f + 1) T = .ok (T1, [x]) := by simp only [pRow, h, h1]; rfl
theorem pRow_2 {α : Type} {pp : Tk → Rs α} {f : Nat} {T T1 T2 : Tk} {x : α} {r : List α} (h : pp T = .ok (T1, x)) (h1 : isPt T1.1 = true) (h2 : pRow pp f T1 = .ok (T2, r)) : pRow pp (f + 1) T = .ok (T2, x :: r) := by simp only [pRow, h, h1, if_true, h2]
theorem pRow_2e {α : Type} {pp : Tk → Rs α} {f : Nat} {T T1 : Tk} {x : α} {e : Nat × Tk} (h : pp T = .ok (T1, x)) (h1 : isPt T1.1 = true) (h2 : pRow pp f T1 = .error e) : pRow pp (f + 1) T = .error e := by simp only [pRow, h, h1, if_true, h2]
theorem pForm_e {α : Type} {nx : Tk → Tk} {pp : Tk → Rs α} {f : Nat} {T : Tk} {e : Nat × Tk} (h : pp T = .error e) : pForm nx pp (f + 1) T = .error e := by unfold pForm; rw [h]
theorem pForm_1 {α : Type} {nx : Tk → Tk} {pp : Tk → Rs α} {f : Nat} {T T1 : Tk} {x : α} (h : pp T = .ok (T1, x)) (h1 : ¬ T1.1 = 124) : pForm nx pp (f + 1) T = .ok (T1, [x]) := by simp only [pForm, h, h1, if_false]
theorem pForm_2 {α : Type} {nx : Tk → Tk} {pp : Tk → Rs α} {f : Nat} {T T1 T2 : Tk} {x : α} {r : List α} (h : pp T = .ok (T1, x)) (h1 : T1.1 = 124) (h2 : pForm nx pp f (nx T1) = .ok (T2, r)) : pForm nx pp (f + 1) T = .ok (T2, x :: r) := by simp only [pForm, h, h1, if_true, h2]
theorem pForm_2e {α : Type} {nx : Tk → Tk} {pp : Tk → Rs α} {f : Nat} {T T1 : Tk} {x : α} {e : Nat × Tk} (h : pp T = .ok (T1, x)) (h1 : T1.1 = 124) (h2 : pForm nx pp f (nx T1) = .error e) : pForm nx pp (f + 1) T = .error e := by simp only [pForm, h, h1, if_true, h2]
set_option maxHeartbeats 1000000 in
theorem rd_rowL {α : Type} {g : Gh} {n : Nat} {bs : Nat → Nat} {nq dp : Nat} (hdp : dp ≤ 6) {w : Gh → Mem → Nat → (Int32 → Mem → Prop) → Prop} {pp : Tk → Rs α} {E : Nat → Nat → NdT → Nat → α → Prop} (hE : EOk E) (ha : AdvR bs n pp) (hw : RdOK g n bs nq dp 2 w pp E) (Mz : Mem) (r0 : Nat) {post : Int32 → Mem → Prop} : ∀ (f : Nat) (M : Mem) (T : Tk) (cnt q A K : Nat) (x : Int32), QRd g M n bs nq cnt dp T → n < T.2.2.2 + f → q ≤ 200 → q ≤ T.2.1 → cnt ≤ 2 * q + dp + 2 → ((A = (gB g + 198) ∧ K = 420 * nq + r0 ∧ x = -1) ∨ (A = (gB g + 199) ∧ x = nI K)) → K < 420 * nq + cnt → r0 < cnt → (∀ M' T' l cnt' q', pRow pp f T = .ok (T', l) → Fr (fun a k => PQm g (420 * nq + cnt) (420 * nq + 420) a k ∨ (a = A ∧ k = K)) (QQm g (420 * nq + cnt) (420 * nq + 420)) M M' → QRd g M' n bs nq cnt' dp T' → q' ≤ 200 → q' ≤ T'.2.1 → cnt' ≤ 2 * q' + dp + 1 → cnt ≤ cnt' → chn (420 * nq + cnt) (420 * nq + cnt') (mI M' (gB g + 199)) (E (420 * nq + cnt) (420 * nq + cnt') (ndM g M')) (mI M' A K) l → post (nI (420 * nq + r0)) M') → (∀ M' e, pRow pp f T = .error e → Fr (fun a k => PQm g (420 * nq + cnt) (420 * nq + 420) a k ∨ (a = A ∧ k = K)) (QQm g (420 * nq + cnt) (420 * nq + 420)) M M' → mI M' (gB g + 195) 9 = nI e.1 → mI M' (gB g + 195) 10 = nI e.2.2.1 → post (-1) M') → lfp (fun bk z => bd_X12_readRow_10 w g Mz (gB g + 195) post bk z.1 z.2.1 z.2.2) f (nI (420 * nq + r0), x, M)
  | 0, M, T, cnt, q, A, K, x, h, hf, _, _, _, _, _, _, _, _ => by
    have := (tc_lt h.2.1.2.2.2.2.2.2.2 h.2.2.1).2.2
    omega
  | f + 1, M, T, cnt, q, A, K, x, h, hf, hq1, hq2, hc, hA, hK, hr, hok, herr => by
    have h60 := h.2.2.2.2.2.2.2
    have hA' : A = (gB g + 198) ∨ A = (gB g + 199) := by omega
    show w g M (gB g + 195) _
    refine hw M T cnt q _ h hq1 hq2 hc (fun M1 T1 y c1 q1 hp f1 m1 g1 g2 g3 g4 hE1 hn1 => ⟨fun hx => absurd (show nI (420 * nq + cnt) < 0 by rw [hx]; decide) (nI_pos (by omega)), fun _ => ?_⟩) (fun M1 e hp f1 e9 e10 => ⟨fun _ => herr M1 e (pRow_e hp) (f1.mono (fun a k hh => Or.inl hh) (fun _ _ hh => hh)) e9 e10, fun hx => absurd rfl hx⟩)
    have a1 := ha T T1 y h.2.2.1 hp
    refine sp_hang m1.1 (by omega) (by omega) hA ?_
    have fh : Fr (fun a k => a = A ∧ k = K) nQ M1 (uI M1 A K (nI (420 * nq + cnt))) := Fr.rf.uI ⟨rfl, rfl⟩
    have m2 : QRd g (uI M1 A K (nI (420 * nq + cnt))) n bs nq c1 dp T1 := m1.fr fh (fun a k hh => by omega) (fun a k hh => (hh : False).elim)
    have n2 : mI (uI M1 A K (nI (420 * nq + cnt))) (gB g + 199) (420 * nq + cnt) = -1 := by rw [fh.1 _ _ (by omega)]; exact hn1
    have f2 : Fr (fun a k => PQm g (420 * nq + cnt) (420 * nq + 420) a k ∨ (a = A ∧ k = K)) (QQm g (420 * nq + cnt) (420 * nq + 420)) M (uI M1 A K (nI (420 * nq + cnt))) := (f1.mono (fun a k hh => Or.inl hh) (fun _ _ hh => hh)).tr (fh.mono (fun a k hh => Or.inr hh) (fun a k hh => (hh : False).elim))
    generalize e2 : uI M1 A K (nI (420 * nq + cnt)) = M2 at fh m2 n2 f2 ⊢
    refine sp_isPart m2.1 m2.2.2.2.1 m2.lt ?_
    cases hpt : isPt T1.1 with
    | false =>
      refine ⟨fun _ => hok M2 T1 [y] c1 q1 (pRow_1 hp hpt) f2 m2 g1 g2 g3 (by omega) ?_, fun hx => absurd rfl hx⟩
      exact chn_hang (l := []) hE hA' hK g4 (Nat.le_refl _) e2.symm (Fr.rf (P := nQ) (Q := nQ)) (fun a k hh => (hh : False).elim) (fun a k hh => (hh : False).elim) hE1 n2
    | true =>
      refine ⟨fun hx => absurd hx (by decide), fun _ => ?_⟩
      have hne := isPt_ne hpt
      have hge := a1.ge
      have hlt := hge.2.2 hne.1 hne.2
      refine rd_rowL hdp hE ha hw Mz r0 f M2 T1 c1 q1 (gB g + 199) (420 * nq + cnt) (nI (420 * nq + cnt)) m2 (by omega) g1 g2 (by omega) (Or.inr ⟨rfl, rfl⟩) (by omega) (by omega) (fun M3 T3 l c3 q3 hp3 f3 m3 b1 b2 b3 b4 hl => ?_) (fun M3 e hp3 f3 e9 e10 => ?_)
      · refine hok M3 T3 (y :: l) c3 q3 (pRow_2 hp hpt hp3) (f2.tr (f3.mono (fun a k hh => ?_) (QQm.up (by omega)))) m3 b1 b2 b3 (by omega) (chn_hang hE hA' hK g4 b4 e2.symm f3 (fun a k hh => ?_) (fun a k hh => ?_) hE1 hl)
        · unfold PQm at hh ⊢; omega
        · unfold PQm at hh; omega
        · unfold QQm at hh; omega
      · refine herr M3 e (pRow_2e hp hpt hp3) (f2.tr (f3.mono (fun a k hh => ?_) (QQm.up (by omega)))) e9 e10
        unfold PQm at hh ⊢; omega
theorem rd_row {α : Type} {g : Gh} {n : Nat} {bs : Nat → Nat} {nq dp : Nat} (hdp : dp ≤ 6) {w : Gh → Mem → Nat → (Int32 → Mem → Prop) → Prop} {pp : Tk → Rs α} {E : Nat → Nat → NdT → Nat → α → Prop} (hE : EOk E) (ha : AdvR bs n pp) (hw : RdOK g n bs nq dp 2 w pp E) {ff : Nat} (hff : n < ff) : RdOK g n bs nq dp 1 (wp_X12_readRow w) (pRow pp ff) (EC 1 E) := by
  intro M T cnt q post h hq1 hq2 hc hok herr
  have h60 := h.2.2.2.2.2.2.2
  refine ⟨lk_195 h.1, sp_node h (by omega) (fun M1 f1 m1 nd => ⟨ff, ?_⟩)⟩
  refine rd_rowL hdp hE ha hw M cnt ff M1 T (cnt + 1) q (gB g + 198) (420 * nq + cnt) (-1) m1 (by omega) hq1 hq2 (by omega) (Or.inl ⟨rfl, rfl, rfl⟩) (by omega) (by omega) (fun M2 T2 l c2 q2 hp f2 m2 b1 b2 b3 b4 hl => ?_) (fun M2 e hp f2 e9 e10 => herr M2 e hp (f1.tr (f2.mono (fun a k hh => by unfold PQm at hh ⊢; omega) (QQm.up (by omega)))) e9 e10)
  refine hok M2 T2 l c2 q2 hp (f1.tr (f2.mono (fun a k hh => by unfold PQm at hh ⊢; omega) (QQm.up (by omega)))) m2 b1 b2 b3 (by omega) ⟨?_, hl⟩ ?_
  · show mI M2 (gB g + 197) (420 * nq + cnt) = 1
    rw [f2.1 _ _ (by unfold PQm; omega)]; exact nd.1
  · rw [f2.1 _ _ (by unfold PQm; omega)]; exact nd.2.2.1
set_option maxHeartbeats 1000000 in
theorem rd_formL {α : Type} {g : Gh} {n : Nat} {bs : Nat → Nat} {nq dp : Nat} (hdp : dp ≤ 6) {w : Gh → Mem → Nat → (Int32 → Mem → Prop) → Prop} {pp : Tk → Rs α} {E : Nat → Nat → NdT → Nat → α → Prop} (hE : EOk E) (ha : AdvR bs n pp) (hw : RdOK g n bs nq dp 1 w pp E) (Mz : Mem) (r0 : Nat) {post : Int32 → Mem → Prop} : ∀ (f : Nat) (M : Mem) (T : Tk) (cnt q A K : Nat) (x : Int32), QRd g M n bs nq cnt dp T → n < T.2.2.2 + f → q ≤ 200 → q ≤ T.2.1 → cnt ≤ 2 * q + dp + 1 → ((A = (gB g + 198) ∧ K = 420 * nq + r0 ∧ x = -1) ∨ (A = (gB g + 199) ∧ x = nI K)) → K < 420 * nq + cnt → r0 < cnt → (∀ M' T' l cnt' q', pForm (nxF bs n) pp f T = .ok (T', l) → Fr (fun a k => PQm g (420 * nq + cnt) (420 * nq + 420) a k ∨ (a = A ∧ k = K)) (QQm g (420 * nq + cnt) (420 * nq + 420)) M M' → QRd g M' n bs nq cnt' dp T' → q' ≤ 200 → q' ≤ T'.2.1 → cnt' ≤ 2 * q' + dp + 1 → cnt ≤ cnt' → chn (420 * nq + cnt) (420 * nq + cnt') (mI M' (gB g + 199)) (E (420 * nq + cnt) (420 * nq + cnt') (ndM g M')) (mI M' A K) l → post (nI (420 * nq + r0)) M') → (∀ M' e, pForm (nxF bs n) pp f T = .error e → Fr (fun a k => PQm g (420 * nq + cnt) (420 * nq + 420) a k ∨ (a = A ∧ k = K)) (QQm g (420 * nq + cnt) (420 * nq + 420)) M M' → mI M' (gB g + 195) 9 = nI e.1 → mI M' (gB g + 195) 10 = nI e.2.2.1 → post (-1) M') → lfp (fun bk z => bd_X12_readForm_12 w g Mz (gB g + 195) post bk z.1 z.2.1 z.2.2.1 z.2.2.2) (f + 1) (nI (420 * nq + r0), x, 1, M)
  | 0, M, T, cnt, q, A, K, x, h, hf, _, _, _, _, _, _, _, _ => by
    have := (tc_lt h.2.1.2.2.2.2.2.2.2 h.2.2.1).2.2
    omega
  | f + 1, M, T, cnt, q, A, K, x, h, hf, hq1, hq2, hc, hA, hK, hr, hok, herr => by
    have h60 := h.2.2.2.2.2.2.2
    have hA' : A = (gB g + 198) ∨ A = (gB g + 199) := by omega
    refine ⟨fun hx => absurd (show (1 : Int32) = 0 from hx) (by decide), fun _ => ?_⟩
    refine hw M T cnt q _ h hq1 hq2 hc (fun M1 T1 y c1 q1 hp f1 m1 g1 g2 g3 g4 hE1 hn1 => ⟨fun hx => absurd (show nI (420 * nq + cnt) < 0 by rw [hx]; decide) (nI_pos (by omega)), fun _ => ?_⟩) (fun M1 e hp f1 e9 e10 => ⟨fun _ => herr M1 e (pForm_e hp) (f1.mono (fun a k hh => Or.inl hh) (fun _ _ hh => hh)) e9 e10, fun hx => absurd rfl hx⟩)
    have a1 := ha T T1 y h.2.2.1 hp
    refine sp_hang m1.1 (by omega) (by omega) hA ?_
    have fh : Fr (fun a k => a = A ∧ k = K) nQ M1 (uI M1 A K (nI (420 * nq + cnt))) := Fr.rf.uI ⟨rfl, rfl⟩
    have m2 : QRd g (uI M1 A K (nI (420 * nq + cnt))) n bs nq c1 dp T1 := m1.fr fh (fun a k hh => by omega) (fun a k hh => (hh : False).elim)
    have n2 : mI (uI M1 A K (nI (420 * nq + cnt))) (gB g + 199) (420 * nq + cnt) = -1 := by rw [fh.1 _ _ (by omega)]; exact hn1
    have f2 : Fr (fun a k => PQm g (420 * nq + cnt) (420 * nq + 420) a k ∨ (a = A ∧ k = K)) (QQm g (420 * nq + cnt) (420 * nq + 420)) M (uI M1 A K (nI (420 * nq + cnt))) := (f1.mono (fun a k hh => Or.inl hh) (fun _ _ hh => hh)).tr (fh.mono (fun a k hh => Or.inr hh) (fun a k hh => (hh : False).elim))
    generalize e2 : uI M1 A K (nI (420 * nq + cnt)) = M2 at fh m2 n2 f2 ⊢
    refine sp_sign m2.1 m2.2.2.2.1 m2.lt 124 (by omega) (by omega) ?_
    by_cases hpt : T1.1 = 124
    · rw [decide_eq_true hpt]
      refine ⟨fun hx => absurd hx (by decide), fun _ => sp_goF m2 (by omega) (fun M3 f3 m3 => ?_)⟩
      have hlt := a1.ge
      have hlt2 := hlt.2.2 (by omega) (by omega)
      have ax := adv_nx a1.is
      have hgx := ax.ge
      have hst := ax.st a1.is (by omega) (by omega)
      have h200 := tk_200 a1.is (by omega) (by omega)
      have f23 : Fr (fun a k => PQm g (420 * nq + cnt) (420 * nq + 420) a k ∨ (a = A ∧ k = K)) (QQm g (420 * nq + cnt) (420 * nq + 420)) M M3 := f2.tr (f3.mono (fun a k hh => by unfold PTm at hh; unfold PQm; omega) (fun a k hh => by unfold QTm at hh; unfold QQm; omega))
      refine rd_formL hdp hE ha hw Mz r0 f M3 (nxF bs n T1) c1 (q1 + 1) (gB g + 199) (420 * nq + cnt) (nI (420 * nq + cnt)) m3 (by omega) (by omega) (by omega) (by omega) (Or.inr ⟨rfl, rfl⟩) (by omega) (by omega) (fun M4 T4 l c4 q4 hp4 f4 m4 b1 b2 b3 b4 hl => ?_) (fun M4 e hp4 f4 e9 e10 => ?_)
      · have f34 : Fr (fun a k => PQm g (420 * nq + c1) (420 * nq + 420) a k ∨ (a = (gB g + 199) ∧ k = 420 * nq + cnt)) (QQm g (420 * nq + c1) (420 * nq + 420)) M2 M4 := (f3.mono (fun a k hh => by unfold PTm at hh; unfold PQm; omega) (fun a k hh => by unfold QTm at hh; unfold QQm; omega)).tr f4
        refine hok M4 T4 (y :: l) c4 q4 (pForm_2 hp hpt hp4) (f23.tr (f4.mono (fun a k hh => ?_) (QQm.up (by omega)))) m4 b1 b2 b3 (by omega) (chn_hang hE hA' hK g4 b4 e2.symm f34 (fun a k hh => ?_) (fun a k hh => ?_) hE1 hl)
        · unfold PQm at hh ⊢; omega
        · unfold PQm at hh; omega
        · unfold QQm at hh; omega
      · refine herr M4 e (pForm_2e hp hpt hp4) (f23.tr (f4.mono (fun a k hh => ?_) (QQm.up (by omega)))) e9 e10
        unfold PQm at hh ⊢; omega
    · rw [decide_eq_false hpt]
      refine ⟨fun _ => ⟨fun _ => hok M2 T1 [y] c1 q1 (pForm_1 hp hpt) f2 m2 g1 g2 g3 (by omega) ?_, fun hx => absurd rfl hx⟩, fun hx => absurd rfl hx⟩
      exact chn_hang (l := []) hE hA' hK g4 (Nat.le_refl _) e2.symm (Fr.rf (P := nQ) (Q := nQ)) (fun a k hh => (hh : False).elim) (fun a k hh => (hh : False).elim) hE1 n2
theorem rd_form {α : Type} {g : Gh} {n : Nat} {bs : Nat → Nat} {nq dp : Nat} (hdp : dp ≤ 6) {w : Gh → Mem → Nat → (Int32 → Mem → Prop) → Prop} {pp : Tk → Rs α} {E : Nat → Nat → NdT → Nat → α → Prop} (hE : EOk E) (ha : AdvR bs n pp) (hw : RdOK g n bs nq dp 1 w pp E) {ff : Nat} (hff : n < ff) : RdOK g n bs nq dp 0 (wp_X12_readForm w) (pForm (nxF bs n) pp ff) (EC 0 E) := by
  intro M T cnt q post h hq1 hq2 hc hok herr
  have h60 := h.2.2.2.2.2.2.2
  refine ⟨lk_195 h.1, sp_node h (by omega) (fun M1 f1 m1 nd => ⟨ff + 1, ?_⟩)⟩
  refine rd_formL hdp hE ha hw M cnt ff M1 T (cnt + 1) q (gB g + 198) (420 * nq + cnt) (-1) m1 (by omega) hq1 hq2 (by omega) (Or.inl ⟨rfl, rfl, rfl⟩) (by omega) (by omega) (fun M2 T2 l c2 q2 hp f2 m2 b1 b2 b3 b4 hl => ?_) (fun M2 e hp f2 e9 e10 => herr M2 e hp (f1.tr (f2.mono (fun a k hh => by unfold PQm at hh ⊢; omega) (QQm.up (by omega)))) e9 e10)
  refine hok M2 T2 l c2 q2 hp (f1.tr (f2.mono (fun a k hh => by unfold PQm at hh ⊢; omega) (QQm.up (by omega)))) m2 b1 b2 b3 (by omega) ⟨?_, hl⟩ ?_
  · show mI M2 (gB g + 197) (420 * nq + cnt) = 0
    rw [f2.1 _ _ (by unfold PQm; omega)]; exact nd.1
  · rw [f2.1 _ _ (by unfold PQm; omega)]; exact nd.2.2.1
