/-! PURE: the class reads a form: items and brackets -/
def ItC (g : Gh) (M : Mem) (L : List Itm) : Prop := mI M (gB g + 3) 3 = nI L.length ∧ ∀ i x, L[i]? = some x → mI M (gB g + 4) i = nI x.1 ∧ mJ M (gB g + 5) i = x.2.1 ∧ mJ M (gB g + 6) i = x.2.2
theorem ItC.fr {g : Gh} {M M' : Mem} {L : List Itm} {P Q : Nat → Nat → Prop} (h : ItC g M L) (f : Fr P Q M M') (hp : ∀ a k, P a k → ¬ (a = (gB g + 3) ∧ k = 3) ∧ ¬ a = (gB g + 4)) (hq : ∀ a k, Q a k → ¬ a = (gB g + 5) ∧ ¬ a = (gB g + 6)) : ItC g M' L := by
  refine ⟨?_, fun i x hx => ⟨?_, ?_, ?_⟩⟩
  · rw [f.1 _ _ (fun hh => by have := hp _ _ hh; omega)]; exact h.1
  · rw [f.1 _ _ (fun hh => by have := hp _ _ hh; omega)]; exact (h.2 i x hx).1
  · rw [f.2.1 _ _ (fun hh => by have := hq _ _ hh; omega)]; exact (h.2 i x hx).2.1
  · rw [f.2.1 _ _ (fun hh => by have := hq _ _ hh; omega)]; exact (h.2 i x hx).2.2
theorem nar_b : ∀ c, c < 128 → vp_nar .byte ((Int32.toInt8 (nI c)).toInt32) = nI c := by decide +kernel
theorem sp_addItem {g : Gh} {M : Mem} (h1 : Lay g M) {L : List Itm} (hI : ItC g M L) (hl : L.length < 200) {c : Nat} (hc : c < 128) {v : Int64} {post : Mem → Prop} (hq : ∀ M', Fr (fun a k => (a = (gB g + 3) ∧ k = 3) ∨ a = (gB g + 4)) (fun a _ => a = (gB g + 5) ∨ a = (gB g + 6)) M M' → ItC g M' (L ++ [(c, v, v)]) → post M') : wp_X2_addItem g M (gB g + 3) (nI c) v post := by
  refine ⟨lk_3 h1, _, lr_3_0 h1, lk_4 h1, ?_⟩
  rw [hI.1, ln_4 h1, nar_b c hc]
  refine pk_le 200 L.length (fun hx => by omega) (fun _ => ⟨pk_in L.length 200 hl, ?_⟩)
  rintro M1 rfl
  rw [nI_cl _ (by omega)]
  have e1 : mI (uI M (gB g + 4) L.length (nI c)) (gB g + 3) 3 = nI L.length := by rw [s_II, if_neg (by omega)]; exact hI.1
  rw [e1]
  refine ⟨_, lr_3_1 (g := g) h1, lk_5 h1, by rw [ln_5 h1]; exact pk_in L.length 200 hl, ?_⟩
  rintro M2 rfl
  rw [nI_cl _ (by omega), show mI (uJ (uI M (gB g + 4) L.length (nI c)) (gB g + 5) L.length v) (gB g + 3) 3 = nI L.length from e1]
  refine ⟨_, lr_3_2 (g := g) h1, lk_6 h1, by rw [ln_6 h1]; exact pk_in L.length 200 hl, ?_⟩
  rintro M3 rfl
  rw [nI_cl _ (by omega)]
  rintro M4 rfl
  rw [show mI (uJ (uJ (uI M (gB g + 4) L.length (nI c)) (gB g + 5) L.length v) (gB g + 6) L.length v) (gB g + 3) 3 = nI L.length from e1, nI_1]
  have f : Fr (fun a k => (a = (gB g + 3) ∧ k = 3) ∨ a = (gB g + 4)) (fun a _ => a = (gB g + 5) ∨ a = (gB g + 6)) M (uI (uJ (uJ (uI M (gB g + 4) L.length (nI c)) (gB g + 5) L.length v) (gB g + 6) L.length v) (gB g + 3) 3 (nI (L.length + 1))) := (((Fr.rf.uI (Or.inr rfl)).uJ (Or.inl rfl)).uJ (Or.inr rfl)).uI (Or.inl ⟨rfl, rfl⟩)
  refine hq _ f ⟨?_, fun i x hx => ?_⟩
  · rw [s_II, if_pos rfl, if_pos rfl, List.length_append]; rfl
  · have r4 : mI (uI (uJ (uJ (uI M (gB g + 4) L.length (nI c)) (gB g + 5) L.length v) (gB g + 6) L.length v) (gB g + 3) 3 (nI (L.length + 1))) (gB g + 4) i = if i = L.length then nI c else mI M (gB g + 4) i := by
      rw [s_II, if_neg (by omega)]
      show mI (uI M (gB g + 4) L.length (nI c)) (gB g + 4) i = _
      rw [s_II, if_pos rfl]
    have r5 : mJ (uI (uJ (uJ (uI M (gB g + 4) L.length (nI c)) (gB g + 5) L.length v) (gB g + 6) L.length v) (gB g + 3) 3 (nI (L.length + 1))) (gB g + 5) i = if i = L.length then v else mJ M (gB g + 5) i := by
      show mJ (uJ (uJ (uI M (gB g + 4) L.length (nI c)) (gB g + 5) L.length v) (gB g + 6) L.length v) (gB g + 5) i = _
      rw [s_JJ, if_neg (by omega), s_JJ, if_pos rfl]; rfl
    have r6 : mJ (uI (uJ (uJ (uI M (gB g + 4) L.length (nI c)) (gB g + 5) L.length v) (gB g + 6) L.length v) (gB g + 3) 3 (nI (L.length + 1))) (gB g + 6) i = if i = L.length then v else mJ M (gB g + 6) i := by
      show mJ (uJ (uJ (uI M (gB g + 4) L.length (nI c)) (gB g + 5) L.length v) (gB g + 6) L.length v) (gB g + 6) i = _
      rw [s_JJ, if_pos rfl]
      split
      · rfl
      · rw [s_JJ, if_neg (by omega)]; rfl
    rw [r4, r5, r6]
    by_cases hi : i = L.length
    · subst hi
      rw [List.getElem?_append_right (Nat.le_refl _), Nat.sub_self] at hx
      have hx : some ((c, v, v) : Itm) = some x := hx
      cases hx
      rw [if_pos rfl, if_pos rfl, if_pos rfl]; exact ⟨rfl, rfl, rfl⟩
    · rw [if_neg hi, if_neg hi, if_neg hi]
      have : i < L.length := by
        rcases Nat.lt_or_ge i L.length with h2 | h2
        · exact h2
        · have := (List.getElem?_eq_some_iff.mp hx).1
          rw [List.length_append] at this
          have : i < L.length + 1 := this
          omega
      rw [List.getElem?_append_left this] at hx
      exact hI.2 i x hx
/-- a range is closed: the last item's upper bound -/
theorem sp_closeRange {g : Gh} {M : Mem} (h1 : Lay g M) {L : List Itm} {lo : Nat} (hlo : lo < 2 ^ 60) (hI : ItC g M (L ++ [(2, lN lo, lN lo)])) (hl : L.length < 200) {c v : Nat} (hc : c < 256) (hv : c = 2 → v < 2 ^ 60) {post : Int32 → Mem → Prop} (hok : ∀ M', c = 2 → lo ≤ v → Fr (fun a k => a = (gB g + 3) ∧ k = 7) (fun a _ => a = (gB g + 6)) M M' → ItC g M' (L ++ [(2, lN lo, lN v)]) → mI M' (gB g + 3) 7 = 1 → post 0 M') (h2 : c = 2 → v < lo → post 2 M) (hx : ¬ c = 2 → post 1 M) : wp_X2_closeRange g M (gB g + 3) (nI c) (vX c v) post := by
  have e3 : mI M (gB g + 3) 3 = nI (L.length + 1) := by rw [hI.1, List.length_append]; rfl
  have last : (L ++ [((2, lN lo, lN lo) : Itm)])[L.length]? = some (2, lN lo, lN lo) := by rw [List.getElem?_append_right (Nat.le_refl _), Nat.sub_self]; rfl
  have hL := hI.2 _ _ last
  refine ⟨lk_3 h1, pk_eq c 2 (fun hc2 => ?_) (fun hc2 => hx hc2)⟩
  rw [e3, show nI (L.length + 1) - 1 = nI L.length from nI_pred _]
  refine ⟨fun hx => absurd hx (Int32.not_lt.mpr (show nI 1 ≤ nI (L.length + 1) from nI_le (by omega) (by omega))), fun _ => ⟨_, lr_3_2 h1, lk_6 h1, ?_⟩⟩
  rw [ln_6 h1]
  refine ⟨fun _ => ⟨_, lr_3_1 h1, lk_5 h1, by rw [ln_5 h1]; exact pk_in L.length 200 hl, ?_⟩, fun hx => absurd (nI_le (by omega) (by omega)) hx⟩
  rw [nI_cl _ (by omega), hL.2.1, show vX c v = lN v by unfold vX; rw [if_neg (by omega)]]
  have hv := hv hc2
  have key : (0 ≤ lg_cmp (lN v) (lN lo)) ↔ lo ≤ v := by rw [← Int32.not_lt, lg_cmp_lt, pk_lLT (by omega) (by omega)]; omega
  rw [key]
  refine ⟨fun hle => ⟨pk_in L.length 200 hl, ?_⟩, fun hle => h2 hc2 (by omega)⟩
  rintro M1 rfl M2 rfl
  have ff : Fr (fun a k => a = (gB g + 3) ∧ k = 7) (fun a _ => a = (gB g + 6)) M (uI (uJ M (gB g + 6) L.length (lN v)) (gB g + 3) 7 1) := (Fr.rf.uJ (by rfl)).uI (by exact ⟨rfl, rfl⟩)
  refine hok _ hc2 hle ff ⟨?_, fun i x hx => ?_⟩ (by rw [s_II, if_pos rfl, if_pos rfl])
  · rw [s_II, if_pos rfl, if_neg (by decide), List.length_append]; exact e3
  · have r4 : mI (uI (uJ M (gB g + 6) L.length (lN v)) (gB g + 3) 7 1) (gB g + 4) i = mI M (gB g + 4) i := by rw [s_II, if_neg (by omega)]; rfl
    have r6 : mJ (uI (uJ M (gB g + 6) L.length (lN v)) (gB g + 3) 7 1) (gB g + 6) i = if i = L.length then lN v else mJ M (gB g + 6) i := by
      show mJ (uJ M (gB g + 6) L.length (lN v)) (gB g + 6) i = _
      rw [s_JJ, if_pos rfl]
    have r5 : mJ (uI (uJ M (gB g + 6) L.length (lN v)) (gB g + 3) 7 1) (gB g + 5) i = mJ M (gB g + 5) i := by
      show mJ (uJ M (gB g + 6) L.length (lN v)) (gB g + 5) i = _
      rw [s_JJ, if_neg (by omega)]
    rw [r4, r5, r6]
    by_cases hi : i = L.length
    · subst hi
      rw [List.getElem?_append_right (Nat.le_refl _), Nat.sub_self] at hx
      have hx : some ((2, lN lo, lN v) : Itm) = some x := hx
      cases hx
      rw [if_pos rfl]; exact ⟨hL.1, hL.2.1, rfl⟩
    · rw [if_neg hi]
      have : i < L.length := by
        rcases Nat.lt_or_ge i L.length with h2 | h2
        · exact h2
        · have := (List.getElem?_eq_some_iff.mp hx).1
          rw [List.length_append] at this
          have : i < L.length + 1 := this
          omega
      rw [List.getElem?_append_left this] at hx
      exact hI.2 i x (by rw [List.getElem?_append_left this]; exact hx)
