/-! PURE: the reference reads a form: chains of nodes -/
theorem sp_hang {g : Gh} {M : Mem} (h1 : Lay g M) {pr K m A : Nat} {x : Int32} (hpr : pr < 25200) (hK : K < 25200) (hA : (A = (gB g + 198) ∧ K = pr ∧ x = -1) ∨ (A = (gB g + 199) ∧ x = nI K)) {post : Mem → Prop} (hq : post (uI M A K (nI m))) : wp_X12_hang g M (gB g + 195) (nI pr) x (nI m) post := by
  refine ⟨lk_195 h1, ?_⟩
  rcases hA with ⟨rfl, rfl, rfl⟩ | ⟨rfl, rfl⟩
  · refine ⟨fun _ => ⟨_, lr_195_12 h1, lk_198 h1, by rw [ln_198 h1]; exact pk_in K 25200 hK, ?_⟩, fun hx => absurd rfl hx⟩
    rintro M1 rfl
    rw [nI_cl K (by omega)]; exact hq
  · refine ⟨fun hx => absurd (show nI K < 0 by rw [hx]; decide) (nI_pos (by omega)), fun _ => ⟨_, lr_195_13 h1, lk_199 h1, by rw [ln_199 h1]; exact pk_in K 25200 hK, ?_⟩⟩
    rintro M1 rfl
    rw [nI_cl K (by omega)]; exact hq
theorem sp_isPart {g : Gh} {M : Mem} {T : Tk} (h1 : Lay g M) (hm : MT g M T) (ht : T.1 < 256) {post : Int32 → Mem → Prop} (hq : post (bI (isPt T.1)) M) : wp_X12_isPart g M (gB g + 195) post := by
  have k5 := (km_eq (c := T.1)).2.2.2.2.2
  refine ⟨lk_195 h1, ?_⟩
  rw [hm.1]
  refine pk_eq (km T.1) 2 (fun h2 => ?_) (fun h2 => pk_eq (km T.1) 3 (fun h3 => ?_) (fun h3 => ?_))
  · rw [show isPt T.1 = true from decide_eq_true (Or.inl (km_eq.1.mp h2))] at hq; exact hq
  · rw [show isPt T.1 = true from decide_eq_true (Or.inr (Or.inl (km_eq.2.1.mp h3)))] at hq; exact hq
  · have n1 : ¬ T.1 = 1 := fun hx => h2 (km_eq.1.mpr hx)
    have n2 : ¬ T.1 = 2 := fun hx => h3 (km_eq.2.1.mpr hx)
    refine sp_sign h1 hm ht 91 (by omega) (by omega) ?_
    by_cases c91 : T.1 = 91
    · rw [show isPt T.1 = true from decide_eq_true (by omega)] at hq
      rw [decide_eq_true c91]; exact ⟨fun hx => absurd hx (by decide), fun _ => hq⟩
    · rw [decide_eq_false c91]
      refine ⟨fun _ => sp_sign h1 hm ht 40 (by omega) (by omega) ?_, fun hx => absurd rfl hx⟩
      by_cases c40 : T.1 = 40
      · rw [show isPt T.1 = true from decide_eq_true (by omega)] at hq
        rw [decide_eq_true c40]; exact ⟨fun hx => absurd hx (by decide), fun _ => hq⟩
      · rw [decide_eq_false c40]
        refine ⟨fun _ => sp_sign h1 hm ht 123 (by omega) (by omega) ?_, fun hx => absurd rfl hx⟩
        by_cases c123 : T.1 = 123
        · rw [show isPt T.1 = true from decide_eq_true (by omega)] at hq
          rw [decide_eq_true c123]; exact ⟨fun hx => absurd hx (by decide), fun _ => hq⟩
        · rw [show isPt T.1 = false from decide_eq_false (by omega)] at hq
          rw [decide_eq_false c123]; exact ⟨fun _ => hq, fun hx => absurd rfl hx⟩
theorem QRd.lt {g : Gh} {M : Mem} {n : Nat} {bs : Nat → Nat} {nq cnt dp : Nat} {T : Tk} (h : QRd g M n bs nq cnt dp T) : T.1 < 256 := (tc_lt h.2.1.2.2.2.2.2.2.2 h.2.2.1).1
theorem sp_goF {g : Gh} {M : Mem} {n : Nat} {bs : Nat → Nat} {nq cnt dp : Nat} {T : Tk} (h : QRd g M n bs nq cnt dp T) (h3 : T.1 ≠ 3) {post : Mem → Prop} (hq : ∀ M', Fr (PTm g) (QTm g) M M' → QRd g M' n bs nq cnt dp (nxF bs n T) → post M') : wp_X12_go g M (gB g + 195) 1 post := by
  have hb := h.2.1.2.2.2.2.2.2.2
  refine sp_goM h.2.1 (Or.inl ⟨rfl, rfl⟩) (h.2.2.2.1.2.2.1 h3) (tc_lt hb h.2.2.1).2.2 (fun M' f t c => hq M' f ⟨f.lay h.1, t, (adv_nx h.2.2.1).is, c, ?_, ?_, ?_, h.2.2.2.2.2.2.2.1, by rw [f.1 _ _ (by unfold PTm; omega)]; exact h.2.2.2.2.2.2.2.2⟩)
  · rw [f.1 _ _ (by unfold PTm; omega)]; exact h.2.2.2.2.1
  · rw [f.1 _ _ (by unfold PTm; omega)]; exact h.2.2.2.2.2.1
  · rw [f.1 _ _ (by unfold PTm; omega)]; exact h.2.2.2.2.2.2.1
/-- enc: how a tree lies in nodes; it may lie wider, and the root's next is nothing to it -/
def EOk {α : Type} (E : Nat → Nat → NdT → Nat → α → Prop) : Prop := (∀ lo lo' hi hi' N n x, lo' ≤ lo → hi ≤ hi' → E lo hi N n x → E lo' hi' N n x) ∧ (∀ lo hi N N' n x, ndE lo hi N N' → (N'.1 n = N.1 n ∧ N'.2.1 n = N.2.1 n ∧ N'.2.2.2.1 n = N.2.2.2.1 n ∧ N'.2.2.2.2 n = N.2.2.2.2 n) → E lo hi N n x → E lo hi N' n x)
def EC {α : Type} (k : Int32) (E : Nat → Nat → NdT → Nat → α → Prop) : Nat → Nat → NdT → Nat → List α → Prop := fun lo hi N n l => N.1 n = k ∧ chn lo hi N.2.2.1 (E lo hi N) (N.2.1 n) l
theorem chn_mono {α : Type} {lo lo' hi hi' : Nat} {X : Nat → Int32} {P P' : Nat → α → Prop} (h1 : lo' ≤ lo) (h2 : hi ≤ hi') (hP : ∀ n a, P n a → P' n a) : ∀ (l : List α) (s : Int32), chn lo hi X P s l → chn lo' hi' X P' s l
  | [], _, h => h
  | a :: r, s, ⟨n, a1, a2, a3, a4, a5⟩ => ⟨n, by omega, by omega, a3, hP n a a4, chn_mono h1 h2 hP r _ a5⟩
theorem EOk.c {α : Type} {E : Nat → Nat → NdT → Nat → α → Prop} (h : EOk E) (k : Int32) : EOk (EC k E) := by
  refine ⟨fun lo lo' hi hi' N n x h1 h2 he => ⟨he.1, chn_mono h1 h2 (fun m a => h.1 _ _ _ _ _ _ _ h1 h2) _ _ he.2⟩, fun lo hi N N' n x hN hr he => ⟨by rw [hr.1]; exact he.1, ?_⟩⟩
  rw [hr.2.1]
  exact chn_fr (fun m m1 m2 => (hN m m1 m2).2.2.1) (fun m a m1 m2 => h.2 _ _ _ _ _ _ hN ⟨(hN m m1 m2).1, (hN m m1 m2).2.1, (hN m m1 m2).2.2.2.1, (hN m m1 m2).2.2.2.2⟩) _ _ he.2
theorem EOk.p : ∀ d, EOk (fun lo hi N n (x : Prt d) => encP lo hi N d n x)
  | 0 => ⟨fun lo lo' hi hi' N n x h1 h2 he => he, fun lo hi N N' n x hN hr he => by
      have he : encL N n x := he
      show encL N' n x
      unfold encL; rw [hr.1, hr.2.2.1, hr.2.2.2]; exact he⟩
  | d + 1 => by
    have ih := (EOk.p d).c 1 |>.c 0
    refine ⟨fun lo lo' hi hi' N n x h1 h2 he => ?_, fun lo hi N N' n x hN hr he => ?_⟩
    · have he : encP lo hi N (d + 1) n x := he
      show encP lo' hi' N (d + 1) n x
      unfold encP at he ⊢
      revert he
      cases (show Lf ⊕ (Nat × List (List (List (Prt d)))) from x) with
      | inl q => exact fun he => he
      | inr q => exact fun he => (ih.c (nI (5 + q.1))).1 lo lo' hi hi' N n q.2 h1 h2 he
    · have he : encP lo hi N (d + 1) n x := he
      show encP lo hi N' (d + 1) n x
      unfold encP at he ⊢
      revert he
      cases (show Lf ⊕ (Nat × List (List (List (Prt d)))) from x) with
      | inl q =>
        intro he
        have he : encL N n q := he
        show encL N' n q
        unfold encL; rw [hr.1, hr.2.2.1, hr.2.2.2]; exact he
      | inr q => exact fun he => (ih.c (nI (5 + q.1))).2 lo hi N N' n q.2 hN hr he
/-- a reader of the reference -/
def RdOK {α : Type} (g : Gh) (n : Nat) (bs : Nat → Nat) (nq dp sl : Nat) (w : Gh → Mem → Nat → (Int32 → Mem → Prop) → Prop) (pp : Tk → Rs α) (E : Nat → Nat → NdT → Nat → α → Prop) : Prop := ∀ (M : Mem) (T : Tk) (cnt q : Nat) (post : Int32 → Mem → Prop), QRd g M n bs nq cnt dp T → q ≤ 200 → q ≤ T.2.1 → cnt ≤ 2 * q + dp + sl → (∀ M' T' x cnt' q', pp T = .ok (T', x) → Fr (PQm g (420 * nq + cnt) (420 * nq + 420)) (QQm g (420 * nq + cnt) (420 * nq + 420)) M M' → QRd g M' n bs nq cnt' dp T' → q' ≤ 200 → q' ≤ T'.2.1 → cnt' ≤ 2 * q' + dp + 1 → cnt < cnt' → E (420 * nq + cnt + 1) (420 * nq + cnt') (ndM g M') (420 * nq + cnt) x → mI M' (gB g + 199) (420 * nq + cnt) = -1 → post (nI (420 * nq + cnt)) M') → (∀ M' e, pp T = .error e → Fr (PQm g (420 * nq + cnt) (420 * nq + 420)) (QQm g (420 * nq + cnt) (420 * nq + 420)) M M' → mI M' (gB g + 195) 9 = nI e.1 → mI M' (gB g + 195) 10 = nI e.2.2.1 → post (-1) M') → w g M (gB g + 195) post
/-- what is hung on a place, and then what is hung on it -/
theorem chn_hang {α : Type} {g : Gh} {nq cnt cnt1 cnt' K A : Nat} {M1 M2 M' : Mem} {E : Nat → Nat → NdT → Nat → α → Prop} (hE : EOk E) {x : α} {l : List α} (hA : A = (gB g + 198) ∨ A = (gB g + 199)) (hK : K < 420 * nq + cnt) (hc : cnt < cnt1) (hc1 : cnt1 ≤ cnt') (e2 : M2 = uI M1 A K (nI (420 * nq + cnt))) {P Q : Nat → Nat → Prop} (f : Fr P Q M2 M') (hP : ∀ a k, P a k → ¬ ((gB g + 197) ≤ a ∧ a ≤ (gB g + 199) ∧ k < 420 * nq + cnt1) ∨ (a = (gB g + 199) ∧ k = 420 * nq + cnt)) (hQ : ∀ a k, Q a k → ¬ ((gB g + 200) ≤ a ∧ a ≤ (gB g + 201) ∧ k < 420 * nq + cnt1)) (hx : E (420 * nq + cnt + 1) (420 * nq + cnt1) (ndM g M1) (420 * nq + cnt) x) (hl : chn (420 * nq + cnt1) (420 * nq + cnt') (mI M' (gB g + 199)) (E (420 * nq + cnt1) (420 * nq + cnt') (ndM g M')) (mI M' (gB g + 199) (420 * nq + cnt)) l) : chn (420 * nq + cnt) (420 * nq + cnt') (mI M' (gB g + 199)) (E (420 * nq + cnt) (420 * nq + cnt') (ndM g M')) (mI M' A K) (x :: l) := by
  have fI : ∀ i k, 197 ≤ i → i ≤ 199 → k < 420 * nq + cnt1 → ¬ (i = 199 ∧ k = 420 * nq + cnt) → mI M' (gB g + (i)) k = mI M2 (gB g + (i)) k := fun i k h1 h2 h3 h4 => f.1 _ _ (fun hh => by have := hP _ _ hh; omega)
  have fJ : ∀ i k, 200 ≤ i → i ≤ 201 → k < 420 * nq + cnt1 → mJ M' (gB g + (i)) k = mJ M2 (gB g + (i)) k := fun i k h1 h2 h3 => f.2.1 _ _ (fun hh => by have := hQ _ _ hh; omega)
  have g2 : ∀ i k, 197 ≤ i → i ≤ 199 → 420 * nq + cnt ≤ k → mI M2 (gB g + (i)) k = mI M1 (gB g + (i)) k := fun i k h1 h2 h3 => by
    rw [e2, s_II]
    by_cases hA2 : (gB g + (i)) = A
    · rw [if_pos hA2, if_neg (by omega)]
    · rw [if_neg hA2]
  have j2 : ∀ b k, mJ M2 b k = mJ M1 b k := fun b k => by rw [e2]; rfl
  refine ⟨420 * nq + cnt, Nat.le_refl _, by omega, ?_, hE.1 _ _ _ _ _ _ _ (by omega) (by omega) (hE.2 _ _ (ndM g M1) _ _ _ (fun m m1 m2 => ⟨?_, ?_, ?_, ?_, ?_⟩) ⟨?_, ?_, ?_, ?_⟩ hx), chn_mono (by omega) (Nat.le_refl _) (fun m a => hE.1 _ _ _ _ _ _ _ (by omega) (Nat.le_refl _)) _ _ hl⟩
  · have e1 : mI M' A K = mI M2 A K := by
      rcases hA with rfl | rfl
      · exact fI 198 K (by decide) (by decide) (by omega) (by omega)
      · exact fI 199 K (by decide) (by decide) (by omega) (by omega)
    rw [e1, e2, s_II, if_pos rfl, if_pos rfl]
  · exact (fI 197 m (by decide) (by decide) (by omega) (by omega)).trans (g2 197 m (by decide) (by decide) (by omega))
  · exact (fI 198 m (by decide) (by decide) (by omega) (by omega)).trans (g2 198 m (by decide) (by decide) (by omega))
  · exact (fI 199 m (by decide) (by decide) (by omega) (by omega)).trans (g2 199 m (by decide) (by decide) (by omega))
  · exact (fJ 200 m (by decide) (by decide) (by omega)).trans (j2 _ _)
  · exact (fJ 201 m (by decide) (by decide) (by omega)).trans (j2 _ _)
  · exact (fI 197 _ (by decide) (by decide) (by omega) (by omega)).trans (g2 197 _ (by decide) (by decide) (by omega))
  · exact (fI 198 _ (by decide) (by decide) (by omega) (by omega)).trans (g2 198 _ (by decide) (by decide) (by omega))
  · exact (fJ 200 _ (by decide) (by decide) (by omega)).trans (j2 _ _)
  · exact (fJ 201 _ (by decide) (by decide) (by omega)).trans (j2 _ _)
