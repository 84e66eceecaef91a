/-! PURE: question: what the reference does -/
def ErK {α : Type} (pp : Tk → Rs α) : Prop := ∀ T e, pp T = .error e → 1 ≤ e.1 ∧ e.1 ≤ 9
theorem er_row {α : Type} {pp : Tk → Rs α} (h : ErK pp) : ∀ f, ErK (pRow pp f)
  | 0, T, e, he => by cases he; exact ⟨Nat.le_of_ble_eq_true rfl, Nat.le_of_ble_eq_true rfl⟩
  | f + 1, T, e, he => by
    cases hp : pp T with
    | error e' => rw [pRow_e hp] at he; cases he; exact h T _ hp
    | ok y =>
      obtain ⟨T1, y⟩ := y
      cases hpt : isPt T1.1 with
      | false => rw [pRow_1 hp hpt] at he; cases he
      | true =>
        cases hr : pRow pp f T1 with
        | error e' => rw [pRow_2e hp hpt hr] at he; cases he; exact er_row h f T1 _ hr
        | ok z => obtain ⟨T2, z⟩ := z; rw [pRow_2 hp hpt hr] at he; cases he
theorem er_form {α : Type} {nx : Tk → Tk} {pp : Tk → Rs α} (h : ErK pp) : ∀ f, ErK (pForm nx pp f)
  | 0, T, e, he => by cases he; exact ⟨Nat.le_of_ble_eq_true rfl, Nat.le_of_ble_eq_true rfl⟩
  | f + 1, T, e, he => by
    cases hp : pp T with
    | error e' => rw [pForm_e hp] at he; cases he; exact h T _ hp
    | ok y =>
      obtain ⟨T1, y⟩ := y
      by_cases hpt : T1.1 = 124
      · cases hr : pForm nx pp f (nx T1) with
        | error e' => rw [pForm_2e hp hpt hr] at he; cases he; exact er_form h f _ _ hr
        | ok z => obtain ⟨T2, z⟩ := z; rw [pForm_2 hp hpt hr] at he; cases he
      · rw [pForm_1 hp hpt] at he; cases he
theorem er_set {α : Type} {nx : Tk → Tk} {pp : Tk → Rs α} {b : Bool} (h : ErK pp) : ∀ f, ErK (pSet nx pp b f)
  | 0, T, e, he => by cases he; exact ⟨Nat.le_of_ble_eq_true rfl, Nat.le_of_ble_eq_true rfl⟩
  | f + 1, T, e, he => by
    cases hp : pp T with
    | error e' => rw [pSet_e hp] at he; cases he; exact h T _ hp
    | ok y =>
      obtain ⟨T1, y⟩ := y
      by_cases hpt : b = true ∧ T1.1 = 44
      · by_cases hf : f = 0
        · subst hf; rw [pSet_3 hp hpt] at he; cases he; exact ⟨Nat.le_of_ble_eq_true rfl, Nat.le_of_ble_eq_true rfl⟩
        · cases hr : pSet nx pp b f (nx T1) with
          | error e' => rw [pSet_2e hp hpt hf hr] at he; cases he; exact er_set h f _ _ hr
          | ok z => obtain ⟨T2, z⟩ := z; rw [pSet_2 hp hpt hf hr] at he; cases he
      · rw [pSet_1 hp hpt] at he; cases he
theorem er_leaf {nx : Tk → Tk} : ErK (pLeaf nx) := by
  intro T e he
  unfold pLeaf at he
  split at he
  · cases he
  · unfold pNum at he
    split at he
    · split at he
      · split at he
        · cases he
        · cases he; exact ⟨Nat.le_of_ble_eq_true rfl, Nat.le_of_ble_eq_true rfl⟩
      · cases he; exact ⟨Nat.le_of_ble_eq_true rfl, Nat.le_of_ble_eq_true rfl⟩
    · cases he
theorem er_map {α β : Type} {f : α → β} {r : Rs α} {e : Nat × Tk} (h : mpR f r = .error e) : r = .error e := by
  cases r with
  | error x => exact congrArg Except.error (Except.error.inj (show (Except.error x : Rs β) = .error e from h))
  | ok x => obtain ⟨T, x⟩ := x; cases h
theorem er_part {nx : Tk → Tk} {ff : Nat} : ∀ d, ErK (pPart nx ff d) := by
  intro d
  induction d with
  | zero =>
    intro T e he
    by_cases h12 : T.1 = 1 ∨ T.1 = 2
    · exact er_leaf T e ((show pPart nx ff 0 T = pLeaf nx T from if_pos h12).symm.trans he)
    · cases hpt : isPt T.1 with
      | false => rw [pPart_n hpt] at he; cases he; exact ⟨Nat.le_of_ble_eq_true rfl, Nat.le_of_ble_eq_true rfl⟩
      | true =>
        have e2 : pPart nx ff 0 T = .error (3, T) := (if_neg h12).trans (if_pos hpt)
        rw [e2] at he; cases he; exact ⟨Nat.le_of_ble_eq_true rfl, Nat.le_of_ble_eq_true rfl⟩
  | succ d ih =>
    intro T e he
    by_cases h12 : T.1 = 1 ∨ T.1 = 2
    · rw [pPart_l h12] at he
      exact er_leaf T e (er_map he)
    · cases hpt : isPt T.1 with
      | false => rw [pPart_n hpt] at he; cases he; exact ⟨Nat.le_of_ble_eq_true rfl, Nat.le_of_ble_eq_true rfl⟩
      | true =>
        rw [pPart_b h12 hpt] at he
        have h1 := er_map he
        unfold pBr at h1
        cases hl : pSet nx (pForm nx (pRow (pPart nx ff d) ff) ff) (decide (T.1 = 123)) 5 (nx T) with
        | error e' => rw [hl] at h1; cases h1; exact er_set (er_form (er_row ih ff) ff) 5 _ _ hl
        | ok z =>
          obtain ⟨T1, l⟩ := z
          rw [hl] at h1
          simp only at h1
          split at h1
          · cases h1
          · cases h1; exact ⟨Nat.le_of_ble_eq_true rfl, Nat.le_of_ble_eq_true rfl⟩
theorem er_top {nx : Tk → Tk} {ff : Nat} : ErK (pTop nx ff) := by
  intro T e he
  unfold pTop at he
  cases hF : pForm nx (pRow (pPart nx ff 6) ff) ff T with
  | error e' => rw [hF] at he; cases he; exact er_form (er_row (er_part 6) ff) ff _ _ hF
  | ok z =>
    obtain ⟨T1, l⟩ := z
    rw [hF] at he
    simp only at he
    split at he
    · cases he
    · cases he; exact ⟨Nat.le_of_ble_eq_true rfl, Nat.le_of_ble_eq_true rfl⟩
def PRq (g : Gh) (nq : Nat) : Nat → Nat → Prop := fun a k => PQm g (420 * nq) (420 * nq + 420) a k ∨ (a = (gB g + 195) ∧ (k = 0 ∨ k = 2 ∨ k = 3))
def PRo (g : Gh) (nq : Nat) : Nat → Nat → Prop := fun a k => PRq g nq a k ∨ (a = (gB g + 195) ∧ k = 16) ∨ ((gB g + 202) ≤ a ∧ a ≤ (gB g + 206) ∧ k = nq)
set_option maxHeartbeats 1000000 in
theorem sp_questM {g : Gh} {M : Mem} {n : Nat} {bs : Nat → Nat} {nq : Nat} (h1 : Lay g M) (h2 : mI M (gB g + 195) 2 = nI n) (hn : n ≤ 260) (h196 : ∀ i, i < 260 → mI M (gB g + 196) i = nI (bs i)) (hb : ∀ i, bs i < 256) (h16 : mI M (gB g + 195) 16 = nI nq) (hnq : nq < 60) {t : Nat} (ht : t < 8) {post : Int32 → Mem → Prop} (hok : ∀ M' T' F, pTop (nxF bs n) 261 (tk sgF bs n 0) = .ok (T', F) → Fr (PRo g nq) (QQm g (420 * nq) (420 * nq + 420)) M M' → mI M' (gB g + 195) 2 = 0 → mI M' (gB g + 195) 9 = 0 → mI M' (gB g + 195) 16 = nI (nq + 1) → (mI M' (gB g + 202) nq = nI t ∧ mI M' (gB g + 203) nq = 0 ∧ mI M' (gB g + 204) nq = 0 ∧ mI M' (gB g + 205) nq = 0 ∧ mI M' (gB g + 206) nq = 0) → encF (420 * nq) (420 * nq + 420) (ndM g M') (encP (420 * nq) (420 * nq + 420) (ndM g M') 6) (420 * nq) F → post (nI nq) M') (herr : ∀ M' e, pTop (nxF bs n) 261 (tk sgF bs n 0) = .error e → Fr (PRq g nq) (QQm g (420 * nq) (420 * nq + 420)) M M' → mI M' (gB g + 195) 2 = 0 → mI M' (gB g + 195) 9 = nI e.1 → post (-1 - nI e.2.2.1) M') : wp_X12_question g M (gB g + 195) (nI t) post := by
  refine ⟨lk_195 h1, ?_⟩
  rintro M44 rfl M46 rfl M48 rfl
  rw [show mI (uI M (gB g + 195) 0 0) (gB g + 195) 2 = nI n by rw [s_II, if_pos rfl, if_neg (by decide)]; exact h2]
  rw [show mI (uI (uI (uI M (gB g + 195) 0 0) (gB g + 195) 3 (nI n)) (gB g + 195) 2 0) (gB g + 195) 16 = nI nq by rw [s_II, if_pos rfl, if_neg (by decide), s_II, if_pos rfl, if_neg (by decide), s_II, if_pos rfl, if_neg (by decide)]; exact h16]
  refine pk_eq nq 60 (fun hx => by omega) (fun _ => ⟨fun hx => absurd hx (nI_pos (by omega)), fun _ => pk_lt t 8 (fun _ => ?_) (fun hx => by omega)⟩)
  rintro M53 rfl M55 rfl M57 rfl M34 rfl
  have f1 : Fr (fun a k => a = (gB g + 195) ∧ (k = 0 ∨ k = 2 ∨ k = 3 ∨ k = 4 ∨ k = 9 ∨ k = 17 ∨ k = 18)) nQ M (uI (uI (uI (uI (uI (uI (uI M (gB g + 195) 0 0) (gB g + 195) 3 (nI n)) (gB g + 195) 2 0) (gB g + 195) 4 0) (gB g + 195) 17 0) (gB g + 195) 18 0) (gB g + 195) 9 0) := ((((((Fr.rf.uI (by omega)).uI (by omega)).uI (by omega)).uI (by omega)).uI (by omega)).uI (by omega)).uI (by omega)
  have z : mI (uI (uI (uI (uI (uI (uI (uI M (gB g + 195) 0 0) (gB g + 195) 3 (nI n)) (gB g + 195) 2 0) (gB g + 195) 4 0) (gB g + 195) 17 0) (gB g + 195) 18 0) (gB g + 195) 9 0) (gB g + 195) 2 = 0 ∧ mI (uI (uI (uI (uI (uI (uI (uI M (gB g + 195) 0 0) (gB g + 195) 3 (nI n)) (gB g + 195) 2 0) (gB g + 195) 4 0) (gB g + 195) 17 0) (gB g + 195) 18 0) (gB g + 195) 9 0) (gB g + 195) 3 = nI n ∧ mI (uI (uI (uI (uI (uI (uI (uI M (gB g + 195) 0 0) (gB g + 195) 3 (nI n)) (gB g + 195) 2 0) (gB g + 195) 4 0) (gB g + 195) 17 0) (gB g + 195) 18 0) (gB g + 195) 9 0) (gB g + 195) 4 = 0 ∧ mI (uI (uI (uI (uI (uI (uI (uI M (gB g + 195) 0 0) (gB g + 195) 3 (nI n)) (gB g + 195) 2 0) (gB g + 195) 4 0) (gB g + 195) 17 0) (gB g + 195) 18 0) (gB g + 195) 9 0) (gB g + 195) 9 = 0 ∧ mI (uI (uI (uI (uI (uI (uI (uI M (gB g + 195) 0 0) (gB g + 195) 3 (nI n)) (gB g + 195) 2 0) (gB g + 195) 4 0) (gB g + 195) 17 0) (gB g + 195) 18 0) (gB g + 195) 9 0) (gB g + 195) 17 = 0 ∧ mI (uI (uI (uI (uI (uI (uI (uI M (gB g + 195) 0 0) (gB g + 195) 3 (nI n)) (gB g + 195) 2 0) (gB g + 195) 4 0) (gB g + 195) 17 0) (gB g + 195) 18 0) (gB g + 195) 9 0) (gB g + 195) 18 = 0 := by
    refine ⟨?_, ?_, ?_, ?_, ?_, ?_⟩ <;> simp [s_II]
  generalize uI (uI (uI (uI (uI (uI (uI M (gB g + 195) 0 0) (gB g + 195) 3 (nI n)) (gB g + 195) 2 0) (gB g + 195) 4 0) (gB g + 195) 17 0) (gB g + 195) 18 0) (gB g + 195) 9 0 = M1 at f1 z ⊢
  have l1 := f1.lay h1
  have tm1 : TM g M1 (gB g + 195) (gB g + 196) n bs := ⟨lk_195 l1, lr_195_1 l1, lk_196 l1, ln_196 l1, z.2.1, hn, fun i hi => by rw [f1.1 _ _ (by omega)]; exact h196 i hi, hb⟩
  refine sp_goM tm1 (Or.inl ⟨rfl, rfl⟩) (p := 0) z.2.2.1 (Nat.zero_le _) (fun M2 f2 t2 c2 => ?_)
  have qr : QRd g M2 n bs nq 0 0 (tk sgF bs n 0) := by
    refine ⟨f2.lay l1, t2, ⟨0, Nat.zero_le _, rfl⟩, c2, ?_, ?_, ?_, hnq, ?_⟩
    · rw [f2.1 _ _ (by unfold PTm; omega), f1.1 _ _ (by omega)]; exact h16
    · rw [f2.1 _ _ (by unfold PTm; omega)]; exact z.2.2.2.2.1
    · rw [f2.1 _ _ (by unfold PTm; omega)]; exact z.2.2.2.2.2
    · rw [f2.1 _ _ (by unfold PTm; omega)]; exact z.2.2.2.1
  have g2 : Fr (PRq g nq) (QQm g (420 * nq) (420 * nq + 420)) M M2 := (f1.mono (fun a k hh => by unfold PRq PQm; omega) (fun a k hh => (hh : False).elim)).tr (f2.mono (fun a k hh => by unfold PTm at hh; unfold PRq PQm; omega) (fun a k hh => by unfold QTm at hh; unfold QQm; omega))
  have n22 : mI M2 (gB g + 195) 2 = 0 := by rw [f2.1 _ _ (by unfold PTm; omega)]; exact z.1
  refine rd_form6 (ff := 261) (by omega) M2 (tk sgF bs n 0) 0 0 _ qr (by omega) (by omega) (by omega) (fun M3 T3 F cnt q hp f3 m3 b1 b2 b3 b4 he hx => ?_) (fun M3 e hp f3 e9 e10 => ?_)
  · have f3' : Fr (PRq g nq) (QQm g (420 * nq) (420 * nq + 420)) M2 M3 := f3.mono (fun a k hh => Or.inl hh) (fun _ _ hh => hh)
    have g3 := g2.tr f3'
    have n32 : mI M3 (gB g + 195) 2 = 0 := by rw [f3.1 _ _ (by unfold PQm; omega)]; exact n22
    refine ⟨fun hx => absurd (show nI (420 * nq + 0) < 0 by rw [hx]; decide) (nI_pos (by omega)), fun _ => ?_⟩
    rw [m3.2.2.2.1.1]
    have k5 := (km_eq (c := T3.1)).2.2.2.2.2
    refine pk_eq (km T3.1) 0 (fun h0 => ?_) (fun h0 => ?_)
    · have hT0 := km_eq.2.2.1.mp h0
      have l3 := m3.1
      have e16 := m3.2.2.2.2.1
      refine ⟨fun hx => absurd (show nI (420 * nq + 0) < 0 by rw [hx]; decide) (nI_pos (by omega)), fun _ => ⟨_, lr_195_19 l3, lk_202 h1, ?_⟩⟩
      rw [e16, ln_202 h1, nI_cl nq (by omega)]
      refine ⟨pk_in nq 60 (by omega), ?_⟩
      rintro M4 rfl
      rw [show mI (uI M3 (gB g + 202) nq (nI t)) (gB g + 195) 16 = nI nq by rw [s_II, if_neg (by omega)]; exact e16, nI_cl nq (by omega)]
      refine ⟨_, lr_195_20 (g := g) l3, lk_203 h1, by rw [ln_203 h1]; exact pk_in nq 60 (by omega), ?_⟩
      rintro M5 rfl
      rw [show mI (uI (uI M3 (gB g + 202) nq (nI t)) (gB g + 203) nq 0) (gB g + 195) 16 = nI nq by rw [s_II, if_neg (by omega), s_II, if_neg (by omega)]; exact e16, nI_cl nq (by omega)]
      refine ⟨_, lr_195_21 (g := g) l3, lk_204 h1, by rw [ln_204 h1]; exact pk_in nq 60 (by omega), ?_⟩
      rintro M6 rfl
      rw [show mI (uI (uI (uI M3 (gB g + 202) nq (nI t)) (gB g + 203) nq 0) (gB g + 204) nq 0) (gB g + 195) 16 = nI nq by rw [s_II, if_neg (by omega), s_II, if_neg (by omega), s_II, if_neg (by omega)]; exact e16, nI_cl nq (by omega)]
      refine ⟨_, lr_195_22 (g := g) l3, lk_205 h1, by rw [ln_205 h1]; exact pk_in nq 60 (by omega), ?_⟩
      rintro M7 rfl
      refine ⟨_, lr_195_23 (g := g) l3, lk_206 h1, ?_⟩
      rw [show mI (uI (uI (uI (uI M3 (gB g + 202) nq (nI t)) (gB g + 203) nq 0) (gB g + 204) nq 0) (gB g + 205) nq 0) (gB g + 195) 16 = nI nq by rw [s_II, if_neg (by omega), s_II, if_neg (by omega), s_II, if_neg (by omega), s_II, if_neg (by omega)]; exact e16, nI_cl nq (by omega), ln_206 h1]
      refine ⟨pk_in nq 60 (by omega), ?_⟩
      rintro M8 rfl M9 rfl
      rw [show mI (uI (uI (uI (uI (uI M3 (gB g + 202) nq (nI t)) (gB g + 203) nq 0) (gB g + 204) nq 0) (gB g + 205) nq 0) (gB g + 206) nq (vp_nar .boolean 0)) (gB g + 195) 16 = nI nq by rw [s_II, if_neg (by omega), s_II, if_neg (by omega), s_II, if_neg (by omega), s_II, if_neg (by omega), s_II, if_neg (by omega)]; exact e16, nI_1, show vp_nar .boolean 0 = 0 from rfl]
      have f4 : Fr (fun a k => (a = (gB g + 195) ∧ k = 16) ∨ ((gB g + 202) ≤ a ∧ a ≤ (gB g + 206) ∧ k = nq)) nQ M3 (uI (uI (uI (uI (uI (uI M3 (gB g + 202) nq (nI t)) (gB g + 203) nq 0) (gB g + 204) nq 0) (gB g + 205) nq 0) (gB g + 206) nq 0) (gB g + 195) 16 (nI (nq + 1))) := (((((Fr.rf.uI (by omega)).uI (by omega)).uI (by omega)).uI (by omega)).uI (by omega)).uI (by omega)
      have v4 : mI (uI (uI (uI (uI (uI (uI M3 (gB g + 202) nq (nI t)) (gB g + 203) nq 0) (gB g + 204) nq 0) (gB g + 205) nq 0) (gB g + 206) nq 0) (gB g + 195) 16 (nI (nq + 1))) (gB g + 202) nq = nI t ∧ mI (uI (uI (uI (uI (uI (uI M3 (gB g + 202) nq (nI t)) (gB g + 203) nq 0) (gB g + 204) nq 0) (gB g + 205) nq 0) (gB g + 206) nq 0) (gB g + 195) 16 (nI (nq + 1))) (gB g + 203) nq = 0 ∧ mI (uI (uI (uI (uI (uI (uI M3 (gB g + 202) nq (nI t)) (gB g + 203) nq 0) (gB g + 204) nq 0) (gB g + 205) nq 0) (gB g + 206) nq 0) (gB g + 195) 16 (nI (nq + 1))) (gB g + 204) nq = 0 ∧ mI (uI (uI (uI (uI (uI (uI M3 (gB g + 202) nq (nI t)) (gB g + 203) nq 0) (gB g + 204) nq 0) (gB g + 205) nq 0) (gB g + 206) nq 0) (gB g + 195) 16 (nI (nq + 1))) (gB g + 205) nq = 0 ∧ mI (uI (uI (uI (uI (uI (uI M3 (gB g + 202) nq (nI t)) (gB g + 203) nq 0) (gB g + 204) nq 0) (gB g + 205) nq 0) (gB g + 206) nq 0) (gB g + 195) 16 (nI (nq + 1))) (gB g + 206) nq = 0 := by
        refine ⟨?_, ?_, ?_, ?_, ?_⟩ <;> simp [s_II]
      have v16 : mI (uI (uI (uI (uI (uI (uI M3 (gB g + 202) nq (nI t)) (gB g + 203) nq 0) (gB g + 204) nq 0) (gB g + 205) nq 0) (gB g + 206) nq 0) (gB g + 195) 16 (nI (nq + 1))) (gB g + 195) 16 = nI (nq + 1) := by rw [s_II, if_pos rfl, if_pos rfl]
      generalize uI (uI (uI (uI (uI (uI M3 (gB g + 202) nq (nI t)) (gB g + 203) nq 0) (gB g + 204) nq 0) (gB g + 205) nq 0) (gB g + 206) nq 0) (gB g + 195) 16 (nI (nq + 1)) = M9 at f4 v4 v16 ⊢
      rw [v16, show nI (nq + 1) - 1 = nI nq from nI_pred nq]
      refine hok M9 T3 F ?_ ((g3.mono (fun a k hh => Or.inl hh) (fun _ _ hh => hh)).tr (f4.mono (fun a k hh => Or.inr hh) (fun a k hh => (hh : False).elim))) ?_ ?_ v16 v4 ?_
      · unfold pTop; rw [hp]; simp only [hT0, if_true]
      · rw [f4.1 _ _ (by omega)]; exact n32
      · rw [f4.1 _ _ (by omega)]; exact m3.2.2.2.2.2.2.2.2
      · rw [ndM_fr f4 (fun a k hh => by omega) (fun a k hh => (hh : False).elim)]
        exact (((EOk.p 6).c 1).c 0).1 _ (420 * nq) _ (420 * nq + 420) _ _ _ (by omega) (by omega) he
    · have hT0 : ¬ T3.1 = 0 := fun hx => h0 (km_eq.2.2.1.mpr hx)
      refine sp_noneF m3.1 m3.2.2.2.1 1 (fun _ => rfl) (fun M4 f4 e9 e10 => ⟨fun _ => ?_, fun hx => absurd rfl hx⟩)
      rw [e10]
      refine herr M4 (1, T3) ?_ (g3.tr (f4.mono (fun a k hh => Or.inl (PBd.q a k hh)) (fun a k hh => (hh : False).elim))) ?_ e9
      · unfold pTop; rw [hp]; simp only [hT0, if_false]
      · rw [f4.1 _ _ (by unfold PBd; omega)]; exact n32
  · refine ⟨fun _ => ⟨fun _ => ?_, fun hx => absurd rfl hx⟩, fun hx => absurd rfl hx⟩
    rw [e10]
    refine herr M3 e ?_ (g2.tr (f3.mono (fun a k hh => Or.inl hh) (fun _ _ hh => hh))) ?_ e9
    · unfold pTop; rw [hp]
    · rw [f3.1 _ _ (by unfold PQm; omega)]; exact n22
