/-! PURE: the class reads a whole form -/
theorem StC.cs {g : Gh} {M : Mem} {e st : Nat} {ES CS ES' CS' : Nat → Nat} (h : StC g M e st ES CS) (hh : ∀ i, i < e → ES i = ES' i ∧ CS i = CS' i) : StC g M e st ES' CS' := ⟨h.1, h.2.1, h.2.2.1, fun i hi => by rw [← (hh i hi).1, ← (hh i hi).2]; exact h.2.2.2 i hi⟩
theorem QS.cs {g : Gh} {M0 M : Mem} {n : Nat} {bs : Nat → Nat} {q : Nat} {T : Tk} {e st : Nat} {L : List Itm} {ES CS ES' CS' : Nat → Nat} (h : QS g M0 M n bs q T e st L ES CS) (hh : ∀ i, i < e → ES i = ES' i ∧ CS i = CS' i) : QS g M0 M n bs q T e st L ES' CS' := ⟨h.1, h.2.1, h.2.2.1, h.2.2.2.1, h.2.2.2.2.1, h.2.2.2.2.2.1, h.2.2.2.2.2.2.cs hh⟩
theorem cp_set {α : Type} {g : Gh} {Mz M0 : Mem} {post : Mem → Prop} {n : Nat} {bs : Nat → Nat} {pp : Tk → Rs α} {lin : α → List Itm} {e c : Nat} {ES : Nat → Nat} (hz : Lay g Mz) (hend : ∀ T T' x, pp T = .ok (T', x) → isPt T'.1 = false ∧ T'.1 ≠ 124) (hp : CpOK g Mz M0 post n bs pp lin (e + 1)) (hES : c = 123 → ES e = 125) : ∀ (j : Nat) (M : Mem) (q : Nat) (T : Tk) (st : Nat) (L : List Itm) (CS : Nat → Nat), j ≤ 5 → QS g M0 M n bs q T (e + 1) st L ES CS → (st = 0 ∨ (isPt T.1 = true ∧ st < 3)) → (c = 123 → CS e = 6 - j) → 1 ≤ j → (∀ T' x, pSet (nxF bs n) pp (decide (c = 123)) j T = .ok (T', x) → ∀ M' q' st' CS', QS g M0 M' n bs q' T' (e + 1) st' (L ++ sepL (44, 0, 0) (x.map lin)) ES CS' → AF st' T' → (∀ i, i < e → CS' i = CS i) → Wc g Mz post q' M') → KE g M0 post (pSet (nxF bs n) pp (decide (c = 123)) j T) → Wc g Mz post q M
  | 0, M, q, T, st, L, CS, _, _, _, _, h1, _, _ => by omega
  | j + 1, M, q, T, st, L, CS, hj, h, hs, hcs, _, hk, he => by
    refine hp M q T st L ES CS h hs (fun T1 x hx M1 q1 st1 s1 af => ?_) (fun k T' hx => he k T' (pSet_e hx))
    by_cases hpt : decide (c = 123) = true ∧ T1.1 = 44
    · have hc := of_decide_eq_true hpt.1
      have hce := hcs hc
      refine qc_step hz s1 (fun M6 t6 => fo_comma hz t6 af.b.1 af.b.2.1 hpt.2 (by omega) (hES hc) (fun hlt M7 s7 => ?_) (fun h5 M' f e8 e9 => ?_))
      · have hlt : CS e < 5 := hlt
        have s7 : QS g M0 M7 n bs (q1 + 1) (nxF bs n T1) (e + 1) 0 (L ++ lin x ++ [(44, 0, 0)]) ES (upN CS e (CS e + 1)) := s7
        refine cp_set hz hend hp hES j M7 (q1 + 1) (nxF bs n T1) 0 (L ++ lin x ++ [(44, 0, 0)]) _ (by omega) s7 (Or.inl rfl) (fun _ => by rw [upN_s]; omega) (by omega) (fun T2 r hr M2 q2 st2 CS2 s2 af2 hc2 => hk T2 (x :: r) (pSet_2 hx hpt (by omega) hr) M2 q2 st2 CS2 ?_ af2 (fun i hi => by rw [hc2 i hi, upN_n _ _ (by omega)])) (fun k T' hr => he k T' (pSet_2e hx hpt (by omega) hr))
        have hne := (set_end hend j _ _ _ hr).2.1
        rw [List.map_cons, sepL_cons (fun hx => hne (List.map_eq_nil_iff.mp hx))]
        rw [List.append_assoc, List.append_assoc] at s2
        exact s2
      · have h5 : CS e = 5 := h5
        obtain rfl : j = 0 := by omega
        exact he 3 T1 (pSet_3 hx hpt) M' f e8 e9
    · exact hk T1 [x] (pSet_1 hx hpt) M1 q1 st1 CS s1 af (fun _ _ => rfl)
theorem cp_part {g : Gh} {Mz M0 : Mem} {post : Mem → Prop} {n : Nat} {bs : Nat → Nat} {ff : Nat} (hz : Lay g Mz) (hff : n < ff) : ∀ (d e : Nat), e + d = 6 → CpOK g Mz M0 post n bs (pPart (nxF bs n) ff d) (linP d) e := by
  intro d
  induction d with
  | zero =>
    intro e hed M q T st L ES CS h hs hk he
    by_cases hT : T.1 = 1 ∨ T.1 = 2
    · have ep : pPart (nxF bs n) ff 0 T = pLeaf (nxF bs n) T := if_pos hT
      exact cp_leaf hz h (by omega) hT (fun T' x hx => hk T' x (ep.trans hx)) (fun k T' hx => he k T' (ep.trans hx))
    · cases hpt : isPt T.1 with
      | false =>
        rcases hs with rfl | hs
        · exact qc_step hz h (fun M6 t6 => fo_bad hz t6 (by omega) hpt (Or.inl rfl) (fun M' f e8 e9 => he 1 T (pPart_n hpt) M' f e8 e9))
        · rw [hpt] at hs; cases hs.1
      | true =>
        have hp := of_decide_eq_true hpt
        have hbr : T.1 = 91 ∨ T.1 = 40 ∨ T.1 = 123 := by omega
        have hob : T.1 = opn (bOf T.1) := by rcases hbr with e | e | e <;> rw [e] <;> rfl
        exact qc_step hz h (fun M6 t6 => fo_open hz t6 (by omega) (bOf_cls hbr).1 hob (fun hx => by omega) (fun _ M' f e8 e9 => he 3 T ((if_neg hT).trans (if_pos hpt)) M' f e8 e9))
  | succ d ih =>
    intro e hed M q T st L ES CS h hs hk he
    by_cases hT : T.1 = 1 ∨ T.1 = 2
    · exact cp_leaf hz h (by omega) hT (fun T' x hx M' q' st' s' af => hk T' (Sum.inl x : Lf ⊕ (Nat × List (List (List (Prt d))))) (by rw [pPart_l hT, hx]; rfl) M' q' st' s' af) (fun k T' hx => he k T' (by rw [pPart_l hT, hx]; rfl))
    · cases hpt : isPt T.1 with
      | false =>
        rcases hs with rfl | hs
        · exact qc_step hz h (fun M6 t6 => fo_bad hz t6 (by omega) hpt (Or.inl rfl) (fun M' f e8 e9 => he 1 T (pPart_n hpt) M' f e8 e9))
        · rw [hpt] at hs; cases hs.1
      | true =>
        have hp := of_decide_eq_true hpt
        have hbr : T.1 = 91 ∨ T.1 = 40 ∨ T.1 = 123 := by omega
        have hob : T.1 = opn (bOf T.1) := by rcases hbr with e | e | e <;> rw [e] <;> rfl
        have hbo := bOf_cls hbr
        have hrend := fun T T' x (hx : pRow (pPart (nxF bs n) ff d) ff T = .ok (T', x)) => (row_end ff T T' x hx).1
        have hfend := fun T T' x (hx : pForm (nxF bs n) (pRow (pPart (nxF bs n) ff d) ff) ff T = .ok (T', x)) => (form_end hrend ff T T' x hx).1
        have hF : CpOK g Mz M0 post n bs (pForm (nxF bs n) (pRow (pPart (nxF bs n) ff d) ff) ff) (linF (linP d)) (e + 1) := by
          intro M q T st L ES CS h hs hk he
          refine cp_form hz (adv_row (adv_part d) ff) hrend (lin := fun r : List (Prt d) => (r.map (linP d)).flatten) (fun M q T st L ES CS h hs hk he => cp_row (adv_part d) (ih (e + 1) (by omega)) ff M q T st L ES CS (by omega) h hs hk he) ff M q T st L ES CS (by omega) h hs hk he
        refine qc_step hz h (fun M6 t6 => fo_open hz t6 (by omega) hbo.1 hob (fun _ M1 s1 => ?_) (fun hx => by omega))
        refine cp_set (c := T.1) hz hfend hF (fun hc => by rw [upN_s]; exact hbo.2.2.2.1 hc) 5 M1 (q + 1) (nxF bs n T) 0 _ _ (by omega) s1 (Or.inl rfl) (fun _ => by rw [upN_s]) (by omega) (fun T3 l hl M3 q3 st3 CS3 s3 af3 hcs => ?_) (fun k T' hx => he k T' (by rw [pPart_b hT hpt]; unfold pBr; rw [hx]; rfl))
        have hse := set_end hfend 5 _ _ _ hl
        by_cases hcl : T3.1 = cls (bOf T.1)
        · refine qc_step hz s3 (fun M6 t6 => fo_close t6 af3.b.1 af3.b.2.1 hbo.1 hcl (by rw [upN_s]) (fun M4 s4 => ?_))
          refine hk _ (Sum.inr (bOf T.1, l) : Lf ⊕ (Nat × List (List (List (Prt d))))) (by rw [pPart_b hT hpt]; unfold pBr; rw [hl]; simp only [hcl, if_true]; rfl) M4 (q3 + 1) 1 ?_ (Or.inl rfl)
          have s5 := s4.cs (ES' := ES) (CS' := CS) (fun i hi => ⟨upN_n _ _ (by omega), by rw [hcs i hi, upN_n _ _ (by omega)]⟩)
          rw [List.append_assoc, List.append_assoc] at s5
          exact s5
        · refine qc_step hz s3 (fun M6 t6 => fo_bad hz t6 af3.b.2.1 hse.1.1.1 (Or.inr ⟨af3.b.2.2, hse.1.1.2, fun _ => by omega, fun h44 => Or.inr ?_, fun hcc => Or.inr ?_⟩) (fun M' f e8 e9 => he 1 T3 (by rw [pPart_b hT hpt]; unfold pBr; rw [hl]; simp only [hcl, if_false]; rfl) M' f e8 e9))
          · show upN ES e (cls (bOf T.1)) e ≠ 125
            rw [upN_s]
            intro hx
            have : T.1 = 123 := by
              rcases hbr with e | e | e
              · rw [hbo.2.1 e] at hx; omega
              · rw [hbo.2.2.1 e] at hx; omega
              · exact e
            exact hse.1.2 ⟨decide_eq_true this, h44⟩
          · show upN ES e (cls (bOf T.1)) e ≠ T3.1
            rw [upN_s]; exact fun hx => hcl hx.symm
theorem cp_top {g : Gh} {Mz M0 M : Mem} {post : Mem → Prop} {n : Nat} {bs : Nat → Nat} {ff : Nat} (hz : Lay g Mz) (hff : n < ff) {q : Nat} {T : Tk} {ES CS : Nat → Nat} (h : QS g M0 M n bs q T 0 0 [] ES CS) (hk : ∀ T' F, pTop (nxF bs n) ff T = .ok (T', F) → ∀ M', Fr (PQc g) (QQc g) M0 M' → mI M' (gB g + 3) 8 = 0 → ItC g M' (linF (linP 6) F) → (linF (linP 6) F).length ≤ 200 → post M') (he : KE g M0 post (pTop (nxF bs n) ff T)) : Wc g Mz post q M := by
  have hrend := fun T T' x (hx : pRow (pPart (nxF bs n) ff 6) ff T = .ok (T', x)) => (row_end ff T T' x hx).1
  have hfend := fun T T' x (hx : pForm (nxF bs n) (pRow (pPart (nxF bs n) ff 6) ff) ff T = .ok (T', x)) => (form_end hrend ff T T' x hx).1
  refine cp_form hz (adv_row (adv_part 6) ff) hrend (lin := fun r : List (Prt 6) => (r.map (linP 6)).flatten) (fun M q T st L ES CS h hs hk he => cp_row (adv_part 6) (cp_part hz hff 6 0 (by omega)) ff M q T st L ES CS (by omega) h hs hk he) ff M q T 0 [] ES CS (by omega) h (Or.inl rfl) (fun T1 F hF M1 q1 st1 s1 af => ?_) (fun k T' hx => he k T' (by unfold pTop; rw [hx]))
  have hse := hfend _ _ _ hF
  rw [List.nil_append] at s1
  by_cases h0 : T1.1 = 0
  · exact qc_step hz s1 (fun M6 t6 => fo_end t6 af.b.1 af.b.2.1 h0 (fun M' f e8 i hl => hk T1 F (by unfold pTop; rw [hF]; simp only [h0, if_true]) M' f e8 i hl))
  · exact qc_step hz s1 (fun M6 t6 => fo_bad hz t6 af.b.2.1 hse.1 (Or.inr ⟨af.b.2.2, hse.2, fun hx => absurd hx h0, fun _ => Or.inl rfl, fun _ => Or.inl rfl⟩) (fun M' f e8 e9 => he 1 T1 (by unfold pTop; rw [hF]; simp only [h0, if_false]) M' f e8 e9))
