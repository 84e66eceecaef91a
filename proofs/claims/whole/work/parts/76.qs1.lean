/-! PURE: what is read is well made; the class's reader -/
def OkR {α : Type} (bs : Nat → Nat) (n : Nat) (pp : Tk → Rs α) (P : α → Prop) : Prop := ∀ T T' x, IsTk sgF bs n T → pp T = .ok (T', x) → P x
theorem ok_row {α : Type} {bs : Nat → Nat} {n : Nat} {pp : Tk → Rs α} {P : α → Prop} (ha : AdvR bs n pp) (h : OkR bs n pp P) : ∀ f, OkR bs n (pRow pp f) (fun l => l ≠ [] ∧ ∀ x ∈ l, P x)
  | 0, T, T', l, hT, e => by cases e
  | f + 1, T, T', l, hT, e => by
    cases hp : pp T with
    | error e' => rw [pRow_e hp] at e; cases e
    | ok y =>
      obtain ⟨T1, y⟩ := y
      have py := h T T1 y hT hp
      cases hpt : isPt T1.1 with
      | false => rw [pRow_1 hp hpt] at e; cases e; exact ⟨by simp, fun x hx => by rw [List.mem_singleton.mp hx]; exact py⟩
      | true =>
        cases hr : pRow pp f T1 with
        | error e' => rw [pRow_2e hp hpt hr] at e; cases e
        | ok z =>
          obtain ⟨T2, z⟩ := z; rw [pRow_2 hp hpt hr] at e; cases e
          have ih := ok_row ha h f T1 _ _ (ha T T1 y hT hp).is hr
          exact ⟨by simp, fun x hx => (List.mem_cons.mp hx).elim (fun e => by rw [e]; exact py) (fun hx => ih.2 x hx)⟩
theorem ok_form {α : Type} {bs : Nat → Nat} {n : Nat} {pp : Tk → Rs α} {P : α → Prop} (ha : AdvR bs n pp) (h : OkR bs n pp P) : ∀ f, OkR bs n (pForm (nxF bs n) pp f) (fun l => l ≠ [] ∧ ∀ x ∈ l, P x)
  | 0, T, T', l, hT, e => by cases e
  | f + 1, T, T', l, hT, e => by
    cases hp : pp T with
    | error e' => rw [pForm_e hp] at e; cases e
    | ok y =>
      obtain ⟨T1, y⟩ := y
      have py := h T T1 y hT hp
      by_cases hpt : T1.1 = 124
      · cases hr : pForm (nxF bs n) pp f (nxF bs n T1) with
        | error e' => rw [pForm_2e hp hpt hr] at e; cases e
        | ok z =>
          obtain ⟨T2, z⟩ := z; rw [pForm_2 hp hpt hr] at e; cases e
          have ih := ok_form ha h f _ _ _ (adv_nx (ha T T1 y hT hp).is).is hr
          exact ⟨by simp, fun x hx => (List.mem_cons.mp hx).elim (fun e => by rw [e]; exact py) (fun hx => ih.2 x hx)⟩
      · rw [pForm_1 hp hpt] at e; cases e; exact ⟨by simp, fun x hx => by rw [List.mem_singleton.mp hx]; exact py⟩
theorem ok_set {α : Type} {bs : Nat → Nat} {n : Nat} {pp : Tk → Rs α} {P : α → Prop} {b : Bool} (ha : AdvR bs n pp) (h : OkR bs n pp P) : ∀ f, OkR bs n (pSet (nxF bs n) pp b f) (fun l => ∀ x ∈ l, P x)
  | 0, T, T', l, hT, e => by cases e
  | f + 1, T, T', l, hT, e => by
    cases hp : pp T with
    | error e' => rw [pSet_e hp] at e; cases e
    | ok y =>
      obtain ⟨T1, y⟩ := y
      have py := h T T1 y hT hp
      by_cases hpt : b = true ∧ T1.1 = 44
      · by_cases hf : f = 0
        · subst hf; rw [pSet_3 hp hpt] at e; cases e
        · cases hr : pSet (nxF bs n) pp b f (nxF bs n T1) with
          | error e' => rw [pSet_2e hp hpt hf hr] at e; cases e
          | ok z =>
            obtain ⟨T2, z⟩ := z; rw [pSet_2 hp hpt hf hr] at e; cases e
            have ih := ok_set ha h f _ _ _ (adv_nx (ha T T1 y hT hp).is).is hr
            exact fun x hx => (List.mem_cons.mp hx).elim (fun e => by rw [e]; exact py) (fun hx => ih x hx)
      · rw [pSet_1 hp hpt] at e; cases e; exact fun x hx => by rw [List.mem_singleton.mp hx]; exact py
theorem ok_leaf {bs : Nat → Nat} {n : Nat} {T T' : Tk} {x : Lf} (hT : IsTk sgF bs n T) (h12 : T.1 = 1 ∨ T.1 = 2) (e : pLeaf (nxF bs n) T = .ok (T', x)) : okL x := by
  have hv := tk_val (Or.inl rfl) hT h12
  unfold pLeaf at e
  split at e
  · next h1 => cases e; exact ⟨Nat.le_refl _, hv.1, fun _ => ⟨rfl, hv.2 h1⟩⟩
  · unfold pNum at e
    split at e
    · split at e
      · next h2 =>
        split at e
        · next hle =>
          cases e
          exact ⟨hle, (tk_val (Or.inl rfl) (adv_nx (adv_nx hT).is).is (Or.inr h2)).1, fun hx => by cases hx⟩
        · cases e
      · cases e
    · cases e; exact ⟨Nat.le_refl _, hv.1, fun hx => by cases hx⟩
theorem ok_part {bs : Nat → Nat} {n ff : Nat} : ∀ d, OkR bs n (pPart (nxF bs n) ff d) (okP d) := by
  intro d
  induction d with
  | zero =>
    intro T T' x hT e
    by_cases h12 : T.1 = 1 ∨ T.1 = 2
    · exact ok_leaf hT h12 ((show pPart (nxF bs n) ff 0 T = pLeaf (nxF bs n) T from if_pos h12).symm.trans e)
    · cases hpt : isPt T.1 with
      | false => rw [pPart_n hpt] at e; cases e
      | true =>
        have e2 : pPart (nxF bs n) ff 0 T = .error (3, T) := (if_neg h12).trans (if_pos hpt)
        rw [e2] at e; cases e
  | succ d ih =>
    intro T T' x hT e
    by_cases h12 : T.1 = 1 ∨ T.1 = 2
    · rw [pPart_l h12] at e
      obtain ⟨y, h1, rfl⟩ := mpR_ok e
      exact ok_leaf hT h12 h1
    · cases hpt : isPt T.1 with
      | false => rw [pPart_n hpt] at e; cases e
      | true =>
        have hp := of_decide_eq_true hpt
        have hbr : T.1 = 91 ∨ T.1 = 40 ∨ T.1 = 123 := by omega
        have hbo := bOf_cls hbr
        rw [pPart_b h12 hpt] at e
        obtain ⟨y, h1, rfl⟩ := mpR_ok e
        unfold pBr at h1
        have hrend := fun T T' x (hx : pRow (pPart (nxF bs n) ff d) ff T = .ok (T', x)) => (row_end ff T T' x hx).1
        have hfend := fun T T' x (hx : pForm (nxF bs n) (pRow (pPart (nxF bs n) ff d) ff) ff T = .ok (T', x)) => (form_end hrend ff T T' x hx).1
        cases hl : pSet (nxF bs n) (pForm (nxF bs n) (pRow (pPart (nxF bs n) ff d) ff) ff) (decide (T.1 = 123)) 5 (nxF bs n T) with
        | error e' => rw [hl] at h1; cases h1
        | ok z =>
          obtain ⟨T1, l⟩ := z
          rw [hl] at h1
          simp only at h1
          split at h1
          · cases h1
            have hse := set_end hfend 5 _ _ _ hl
            have hof := ok_set (adv_form (adv_row (adv_part d) ff) ff) (ok_form (adv_row (adv_part d) ff) (ok_row (adv_part d) ih ff) ff) 5 _ _ _ (adv_nx hT).is hl
            refine ⟨hbo.1, ?_, hse.2.2.1, fun hb => hse.2.2.2 (decide_eq_false (fun hx => ?_)), fun F hF => ⟨(hof F hF).1, fun r hr => (hof F hF).2 r hr⟩⟩
            · have := hse.2.1
              cases l with
              | nil => exact absurd rfl this
              | cons a b => exact Nat.succ_le_succ (Nat.zero_le _)
            · have hb : bOf T.1 ≤ 1 := hb
              rw [hx] at hb; exact absurd hb (by decide)
          · cases h1
theorem ok_top {bs : Nat → Nat} {n ff : Nat} {T T' : Tk} {F : List (List (Prt 6))} (hT : IsTk sgF bs n T) (e : pTop (nxF bs n) ff T = .ok (T', F)) : okF (okP 6) F := by
  unfold pTop at e
  cases hF : pForm (nxF bs n) (pRow (pPart (nxF bs n) ff 6) ff) ff T with
  | error e' => rw [hF] at e; cases e
  | ok z =>
    obtain ⟨T1, l⟩ := z
    rw [hF] at e
    simp only at e
    split at e
    · cases e
      have := ok_form (adv_row (adv_part 6) ff) (ok_row (adv_part 6) (ok_part 6) ff) ff _ _ _ hT hF
      exact ⟨this.1, fun r hr => this.2 r hr⟩
    · cases e
/-- the class reads its text as a form -/
theorem sp_readForm {g : Gh} {M : Mem} {n : Nat} {bs : Nat → Nat} (h1 : Lay g M) (hT : TP g M (gB g + 1) (gB g + 2) n bs) {ff : Nat} (hff : n < ff) {post : Mem → Prop} (hk : ∀ T' F, pTop (nxF bs n) ff (tk sgF bs n 0) = .ok (T', F) → ∀ M', Fr (PQc g) (QQc g) M M' → mI M' (gB g + 3) 8 = 0 → ItC g M' (linF (linP 6) F) → (linF (linP 6) F).length ≤ 200 → post M') (he : ∀ k T', pTop (nxF bs n) ff (tk sgF bs n 0) = .error (k, T') → ∀ M', Fr (PQc g) (QQc g) M M' → mI M' (gB g + 3) 8 = nI k → mI M' (gB g + 3) 9 = nI T'.2.1 → post M') : wp_X2_readFrom g M (gB g + 3) (gB g + 1) post := by
  refine ⟨lk_3 h1, ?_⟩
  rintro M1 rfl M2 rfl M3 rfl M4 rfl M5 rfl
  refine ⟨lk_1 h1, ?_⟩
  rintro M6 rfl M7 rfl M8 rfl M9 rfl
  have f : Fr (PQc g) (QQc g) M (uI (uJ (uI (uI (uI (uI (uI (uI (uI M (gB g + 3) 3 0) (gB g + 3) 6 0) (gB g + 3) 7 0) (gB g + 3) 8 0) (gB g + 3) 9 0) (gB g + 1) 2 3) (gB g + 1) 3 0) (gB g + 1) 4 0) (gB g + 1) 5 0) := ((((((((Fr.rf.uI (by unfold PQc; omega)).uI (by unfold PQc; omega)).uI (by unfold PQc; omega)).uI (by unfold PQc; omega)).uI (by unfold PQc; omega)).uI (by unfold PQc; omega)).uI (by unfold PQc; omega)).uJ (by unfold QQc; omega)).uI (by unfold PQc; omega)
  have c5 : mI (uI (uJ (uI (uI (uI (uI (uI (uI (uI M (gB g + 3) 3 0) (gB g + 3) 6 0) (gB g + 3) 7 0) (gB g + 3) 8 0) (gB g + 3) 9 0) (gB g + 1) 2 3) (gB g + 1) 3 0) (gB g + 1) 4 0) (gB g + 1) 5 0) (gB g + 1) 5 = nI 0 := by rw [s_II, if_pos rfl, if_pos rfl]; rfl
  have eJ : ∀ b k, ¬ b = (gB g + 1) → mI (uI (uJ (uI (uI (uI (uI (uI (uI (uI M (gB g + 3) 3 0) (gB g + 3) 6 0) (gB g + 3) 7 0) (gB g + 3) 8 0) (gB g + 3) 9 0) (gB g + 1) 2 3) (gB g + 1) 3 0) (gB g + 1) 4 0) (gB g + 1) 5 0) b k = mI (uI (uI (uI (uI (uI M (gB g + 3) 3 0) (gB g + 3) 6 0) (gB g + 3) 7 0) (gB g + 3) 8 0) (gB g + 3) 9 0) b k := by
    intro b k hb
    rw [s_II, if_neg hb]
    show mI (uI (uI (uI (uI (uI (uI (uI M (gB g + 3) 3 0) (gB g + 3) 6 0) (gB g + 3) 7 0) (gB g + 3) 8 0) (gB g + 3) 9 0) (gB g + 1) 2 3) (gB g + 1) 3 0) b k = _
    rw [s_II, if_neg hb, s_II, if_neg hb]
  have c3 : ∀ k, k = 3 ∨ k = 6 ∨ k = 7 → mI (uI (uI (uI (uI (uI M (gB g + 3) 3 0) (gB g + 3) 6 0) (gB g + 3) 7 0) (gB g + 3) 8 0) (gB g + 3) 9 0) (gB g + 3) k = nI 0 := by
    rintro k (rfl | rfl | rfl) <;> simp [s_II, nI_0]
  generalize uI (uJ (uI (uI (uI (uI (uI (uI (uI M (gB g + 3) 3 0) (gB g + 3) 6 0) (gB g + 3) 7 0) (gB g + 3) 8 0) (gB g + 3) 9 0) (gB g + 1) 2 3) (gB g + 1) 3 0) (gB g + 1) 4 0) (gB g + 1) 5 0 = M9 at f c5 eJ ⊢
  refine ⟨202, ?_⟩
  have hT9 : TP g M9 (gB g + 1) (gB g + 2) n bs := hT.fr f (fun a k hh => by unfold PQc at hh; omega)
  have qs : QS g M M9 n bs 0 (tk sgF bs n 0) 0 0 [] (fun _ => 0) (fun _ => 0) := ⟨f, f.lay h1, hT9, ⟨0, by omega, rfl, c5⟩, ⟨by omega, by omega, Nat.le_refl _⟩, ⟨by rw [eJ _ _ (by omega), c3 3 (by omega)]; rfl, fun i x hx => by cases hx⟩, ⟨by omega, by rw [eJ _ _ (by omega), c3 6 (by omega)], by rw [eJ _ _ (by omega), c3 7 (by omega)], fun i hi => by omega⟩⟩
  exact cp_top h1 hff qs hk he
