/-! PURE: the reference reads parts -/
theorem sp_noneF {g : Gh} {M : Mem} {T : Tk} (h1 : Lay g M) (hm : MT g M T) (k : Nat) (hk : T.1 = 3 → k = 1) {post : Int32 → Mem → Prop} (hq : ∀ M', Fr (PBd g) nQ M M' → mI M' (gB g + 195) 9 = nI k → mI M' (gB g + 195) 10 = nI T.2.1 → post (-1) M') : wp_X12_none g M (gB g + 195) (nI k) post := by
  refine ⟨lk_195 h1, sp_bad h1 hm k (fun M' f e9 e10 => hq M' f ?_ e10)⟩
  rw [e9]; unfold fk
  split
  · next hx => rw [hk hx]
  · rfl
theorem PBd.q {g : Gh} {lo hi : Nat} : ∀ a k, PBd g a k → PQm g lo hi a k := fun a k hh => by unfold PBd at hh; unfold PQm; omega
theorem pSet_e {α : Type} {nx : Tk → Tk} {pp : Tk → Rs α} {b : Bool} {f : Nat} {T : Tk} {e : Nat × Tk} (h : pp T = .error e) : pSet nx pp b (f + 1) T = .error e := by simp only [pSet, h]
theorem pSet_1 {α : Type} {nx : Tk → Tk} {pp : Tk → Rs α} {b : Bool} {f : Nat} {T T1 : Tk} {x : α} (h : pp T = .ok (T1, x)) (h1 : ¬ (b = true ∧ T1.1 = 44)) : pSet nx pp b (f + 1) T = .ok (T1, [x]) := by simp only [pSet, h, h1, if_false]
theorem pSet_3 {α : Type} {nx : Tk → Tk} {pp : Tk → Rs α} {b : Bool} {T T1 : Tk} {x : α} (h : pp T = .ok (T1, x)) (h1 : b = true ∧ T1.1 = 44) : pSet nx pp b (0 + 1) T = .error (3, T1) := by simp only [pSet, h, h1, and_self, if_true]
theorem pSet_2 {α : Type} {nx : Tk → Tk} {pp : Tk → Rs α} {b : Bool} {f : Nat} {T T1 T2 : Tk} {x : α} {r : List α} (h : pp T = .ok (T1, x)) (h1 : b = true ∧ T1.1 = 44) (h0 : ¬ f = 0) (h2 : pSet nx pp b f (nx T1) = .ok (T2, r)) : pSet nx pp b (f + 1) T = .ok (T2, x :: r) := by
  obtain ⟨rfl, h1⟩ := h1
  simp only [pSet, h, h1, and_self, if_true, h0, if_false, h2]
theorem pSet_2e {α : Type} {nx : Tk → Tk} {pp : Tk → Rs α} {b : Bool} {f : Nat} {T T1 : Tk} {x : α} {e : Nat × Tk} (h : pp T = .ok (T1, x)) (h1 : b = true ∧ T1.1 = 44) (h0 : ¬ f = 0) (h2 : pSet nx pp b f (nx T1) = .error e) : pSet nx pp b (f + 1) T = .error e := by
  obtain ⟨rfl, h1⟩ := h1
  simp only [pSet, h, h1, and_self, if_true, h0, if_false, h2]
set_option maxHeartbeats 1000000 in
theorem rd_setL {α : Type} {g : Gh} {n : Nat} {bs : Nat → Nat} {nq dp : Nat} (hdp : dp ≤ 6) {w : Gh → Mem → Nat → (Int32 → Mem → Prop) → Prop} {pp : Tk → Rs α} {E : Nat → Nat → NdT → Nat → α → Prop} (hE : EOk E) (ha : AdvR bs n pp) (hw : RdOK g n bs nq dp 0 w pp E) (Mz : Mem) (r0 c : Nat) (hcc : c < 256) {post : Int32 → Mem → Prop} : ∀ (f : Nat) (M : Mem) (T : Tk) (cnt q A K : Nat) (x : Int32), 1 ≤ f → f ≤ 5 → QRd g M n bs nq cnt dp T → q ≤ 200 → q ≤ T.2.1 → cnt ≤ 2 * q + dp → ((A = (gB g + 198) ∧ K = 420 * nq + r0 ∧ x = -1) ∨ (A = (gB g + 199) ∧ x = nI K)) → K < 420 * nq + cnt → r0 < cnt → (∀ M' T' l cnt' q', pSet (nxF bs n) pp (decide (c = 123)) f T = .ok (T', l) → Fr (fun a k => PQm g (420 * nq + cnt) (420 * nq + 420) a k ∨ (a = A ∧ k = K)) (QQm g (420 * nq + cnt) (420 * nq + 420)) M M' → QRd g M' n bs nq cnt' dp T' → q' ≤ 200 → q' ≤ T'.2.1 → cnt' ≤ 2 * q' + dp + 1 → cnt ≤ cnt' → chn (420 * nq + cnt) (420 * nq + cnt') (mI M' (gB g + 199)) (E (420 * nq + cnt) (420 * nq + cnt') (ndM g M')) (mI M' A K) l → lb_X12_readPart_301 w g Mz (gB g + 195) post (nI c) (nI (420 * nq + r0)) M') → (∀ M' e, pSet (nxF bs n) pp (decide (c = 123)) f T = .error e → Fr (fun a k => PQm g (420 * nq + cnt) (420 * nq + 420) a k ∨ (a = A ∧ k = K)) (QQm g (420 * nq + cnt) (420 * nq + 420)) M M' → mI M' (gB g + 195) 9 = nI e.1 → mI M' (gB g + 195) 10 = nI e.2.2.1 → post (-1) M') → lfp (fun bk z => bd_X12_readPart_216 w g Mz (gB g + 195) post bk z.1 z.2.1 z.2.2.1 z.2.2.2.1 z.2.2.2.2.1 z.2.2.2.2.2) (f + 1) (nI c, nI (420 * nq + r0), x, nI (5 - f), 1, M)
  | 0, M, T, cnt, q, A, K, x, h0, _, _, _, _, _, _, _, _, _, _ => by omega
  | f + 1, M, T, cnt, q, A, K, x, _, hf5, h, hq1, hq2, hc, hA, hK, hr, hok, herr => by
    have h60 := h.2.2.2.2.2.2.2
    have hA' : A = (gB g + 198) ∨ A = (gB g + 199) := by omega
    refine ⟨fun hx => absurd (show (1 : Int32) = 0 from hx) (by decide), fun _ => ?_⟩
    refine hw M T cnt q _ h hq1 hq2 hc (fun M1 T1 y c1 q1 hp f1 m1 g1 g2 g3 g4 hE1 hn1 => ⟨fun hx => absurd (show nI (420 * nq + cnt) < 0 by rw [hx]; decide) (nI_pos (by omega)), fun _ => ?_⟩) (fun M1 e hp f1 e9 e10 => ⟨fun _ => herr M1 e (pSet_e hp) (f1.mono (fun a k hh => Or.inl hh) (fun _ _ hh => hh)) e9 e10, fun hx => absurd rfl hx⟩)
    have a1 := ha T T1 y h.2.2.1 hp
    refine sp_hang m1.1 (by omega) (by omega) hA ?_
    have fh : Fr (fun a k => a = A ∧ k = K) nQ M1 (uI M1 A K (nI (420 * nq + cnt))) := Fr.rf.uI ⟨rfl, rfl⟩
    have m2 : QRd g (uI M1 A K (nI (420 * nq + cnt))) n bs nq c1 dp T1 := m1.fr fh (fun a k hh => by omega) (fun a k hh => (hh : False).elim)
    have n2 : mI (uI M1 A K (nI (420 * nq + cnt))) (gB g + 199) (420 * nq + cnt) = -1 := by rw [fh.1 _ _ (by omega)]; exact hn1
    have f2 : Fr (fun a k => PQm g (420 * nq + cnt) (420 * nq + 420) a k ∨ (a = A ∧ k = K)) (QQm g (420 * nq + cnt) (420 * nq + 420)) M (uI M1 A K (nI (420 * nq + cnt))) := (f1.mono (fun a k hh => Or.inl hh) (fun _ _ hh => hh)).tr (fh.mono (fun a k hh => Or.inr hh) (fun a k hh => (hh : False).elim))
    generalize e2 : uI M1 A K (nI (420 * nq + cnt)) = M2 at fh m2 n2 f2 ⊢
    have e4 : nI (5 - (f + 1)) + 1 = nI (5 - f) := by rw [nI_1]; congr 1; omega
    -- no further form
    have stop : ¬ (decide (c = 123) = true ∧ T1.1 = 44) → lb_X12_readPart_269 w g Mz (gB g + 195) post (lfp (fun bk z => bd_X12_readPart_216 w g Mz (gB g + 195) post bk z.1 z.2.1 z.2.2.1 z.2.2.2.1 z.2.2.2.2.1 z.2.2.2.2.2) (f + 1)) (nI c) (nI (420 * nq + r0)) (nI (420 * nq + cnt)) (nI (5 - (f + 1)) + 1) 0 M2 := by
      intro hs
      refine ⟨fun _ => ⟨fun _ => ⟨fun _ => hok M2 T1 [y] c1 q1 (pSet_1 hp hs) f2 m2 g1 g2 g3 (by omega) ?_, fun hx => absurd (show (0 : Int32) = 0 from rfl) hx⟩, fun hx => absurd rfl hx⟩, fun hx => absurd rfl hx⟩
      exact chn_hang (l := []) hE hA' hK g4 (Nat.le_refl _) e2.symm (Fr.rf (P := nQ) (Q := nQ)) (fun a k hh => (hh : False).elim) (fun a k hh => (hh : False).elim) hE1 n2
    refine pk_eq c 123 (fun hc1 => ?_) (fun hc1 => stop (fun hx => hc1 (of_decide_eq_true hx.1)))
    refine sp_sign m2.1 m2.2.2.2.1 m2.lt 44 (by omega) (by omega) ?_
    by_cases hpt : T1.1 = 44
    · rw [decide_eq_true hpt]
      refine ⟨fun hx => absurd hx (by decide), fun _ => ⟨fun hx => absurd hx (by decide), fun _ => ?_⟩⟩
      rw [e4]
      have hb : decide (c = 123) = true ∧ T1.1 = 44 := ⟨decide_eq_true hc1, hpt⟩
      refine pk_eq (5 - f) 5 (fun h5 => ?_) (fun h5 => ⟨fun hx => absurd hx (by decide), fun _ => sp_goF m2 (by omega) (fun M3 f3 m3 => ?_)⟩)
      · obtain rfl : f = 0 := by omega
        exact sp_noneF m2.1 m2.2.2.2.1 3 (fun hx => by omega) (fun M3 f3 e9 e10 => herr M3 (3, T1) (pSet_3 hp hb) (f2.tr (f3.mono (fun a k hh => Or.inl (PBd.q a k hh)) (fun a k hh => (hh : False).elim))) e9 e10)
      · have ax := adv_nx a1.is
        have hst := ax.st a1.is (by omega) (by omega)
        have h200 := tk_200 a1.is (by omega) (by omega)
        have f23 : Fr (fun a k => PQm g (420 * nq + cnt) (420 * nq + 420) a k ∨ (a = A ∧ k = K)) (QQm g (420 * nq + cnt) (420 * nq + 420)) M M3 := f2.tr (f3.mono (fun a k hh => by unfold PTm at hh; unfold PQm; omega) (fun a k hh => by unfold QTm at hh; unfold QQm; omega))
        refine rd_setL hdp hE ha hw Mz r0 c hcc f M3 (nxF bs n T1) c1 (q1 + 1) (gB g + 199) (420 * nq + cnt) (nI (420 * nq + cnt)) (by omega) (by omega) m3 (by omega) (by omega) (by omega) (Or.inr ⟨rfl, rfl⟩) (by omega) (by omega) (fun M4 T4 l c4 q4 hp4 f4 m4 b1 b2 b3 b4 hl => ?_) (fun M4 e hp4 f4 e9 e10 => ?_)
        · have f34 : Fr (fun a k => PQm g (420 * nq + c1) (420 * nq + 420) a k ∨ (a = (gB g + 199) ∧ k = 420 * nq + cnt)) (QQm g (420 * nq + c1) (420 * nq + 420)) M2 M4 := (f3.mono (fun a k hh => by unfold PTm at hh; unfold PQm; omega) (fun a k hh => by unfold QTm at hh; unfold QQm; omega)).tr f4
          refine hok M4 T4 (y :: l) c4 q4 (pSet_2 hp hb (by omega) hp4) (f23.tr (f4.mono (fun a k hh => ?_) (QQm.up (by omega)))) m4 b1 b2 b3 (by omega) (chn_hang hE hA' hK g4 b4 e2.symm f34 (fun a k hh => ?_) (fun a k hh => ?_) hE1 hl)
          · unfold PQm at hh ⊢; omega
          · unfold PQm at hh; omega
          · unfold QQm at hh; omega
        · refine herr M4 e (pSet_2e hp hb (by omega) hp4) (f23.tr (f4.mono (fun a k hh => ?_) (QQm.up (by omega)))) e9 e10
          unfold PQm at hh ⊢; omega
    · rw [decide_eq_false hpt]
      exact ⟨fun _ => stop (fun hx => hpt hx.2), fun hx => absurd rfl hx⟩
