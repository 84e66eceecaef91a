/-! PURE: the class's matching of a form, a set, a tree -/
def PXf (g : Gh) (e : Nat) : Nat → Nat → Prop := fun a k => PXw g e a k ∨ a = (gB g + (14 + 5 * e))
theorem PXf.up {g : Gh} {e : Nat} (he : e < 7) : ∀ b k, PXf g e b k → PX g (12 + 5 * e) b k := fun b k hh => by unfold PXf PXw PX at hh; unfold PX; omega
theorem PX.up {g : Gh} {lo lo' : Nat} (h : lo' ≤ lo) : ∀ b k, PX g lo b k → PX g lo' b k := fun b k hh => by unfold PX at hh ⊢; omega
theorem pt_form {g : Gh} {N : Nat} {a : AnT} {e : Nat} (hN : N ≤ 20) (he : e < 7) {α : Type} {f : α → List Itm} {R : α → Nat → Nat → Prop} : ∀ (F : List α), F ≠ [] → (∀ p ∈ F, PtOK g N a e (f p) (R p)) → ∀ (M : Mem) (B0 : Nat → Nat → Prop) (post : Mem → Prop), CX g M e N a → RowIs g M (13 + 5 * e) N (fun s j => s = j) → RowIs g M (14 + 5 * e) N B0 → (∀ M' A B, Fr (PXf g e) nQ M M' → mI M' (gB g + 9) 3 = nI e → RowIs g M' (13 + 5 * e) N A → RowIs g M' (14 + 5 * e) N B → (∀ s, s ≤ N → ∀ j, j < 32 → ((B s j ∨ A s j) ↔ (B0 s j ∨ ∃ p ∈ F, R p s j))) → post M') → sqM g (sepL (124, 0, 0) (F.map f)) M post
  | [], hF, _, _, _, _, _, _, _, _ => absurd rfl hF
  | [p], _, hp, M, B0, post, h, hA, hB, hq => by
    show sqM g (f p) M post
    refine hp p List.mem_cons_self M _ _ h hA (fun s j hs e => by omega) (fun M1 f1 z1 r1 => hq M1 _ _ (f1.mono (fun b k hh => Or.inl hh) (fun _ _ hh => hh)) z1 r1 (hB.fr f1 (fun b k hh => by unfold PXw PX at hh; omega)) (fun s hs j hj => ?_))
    simp
  | p :: q :: r, _, hp, M, B0, post, h, hA, hB, hq => by
    show sqM g (f p ++ (124, 0, 0) :: sepL (124, 0, 0) ((q :: r).map f)) M post
    refine sqM_app ?_
    refine hp p List.mem_cons_self M _ _ h hA (fun s j hs e => by omega) (fun M1 f1 z1 r1 => ?_)
    have c1 : CX g M1 e N a := h.fr (f1.mono (fun b k hh => by unfold PXw PX at hh; unfold PX; omega) (fun _ _ hh => hh)) z1
    refine sqM_cons (fun Q hQ => st_bar c1 he (sp_closeRow c1.1 he hN r1 (hB.fr f1 (fun b k hh => by unfold PXw PX at hh; omega)) (fun M2 f2 r2 r3 => hQ M2 ⟨f2.mono (fun b k hh => by unfold PX; omega) (fun _ _ hh => hh), ?_⟩)))
    have z2 : mI M2 (gB g + 9) 3 = nI e := by rw [f2.1 _ _ (by omega)]; exact z1
    have c2 : CX g M2 e N a := c1.fr (f2.mono (fun b k hh => by unfold PX; omega) (fun _ _ hh => hh)) z2
    refine pt_form hN he (q :: r) (by simp) (fun x hx => hp x (List.mem_cons_of_mem _ hx)) M2 _ _ c2 r2 r3 (fun M3 A B f3 z3 rA rB hAB => hq M3 A B ((f1.mono (fun b k hh => Or.inl hh) (fun _ _ hh => hh)).tr ((f2.mono (fun b k hh => hh.elim (fun hx => Or.inl (Or.inr hx)) Or.inr) (fun _ _ hh => hh)).tr f3)) z3 rA rB (fun s hs j hj => ?_))
    rw [hAB s hs j hj]
    constructor
    · rintro ((h2 | ⟨i, rfl, h2⟩) | ⟨x, hx, h2⟩)
      · exact Or.inl h2
      · exact Or.inr ⟨p, List.mem_cons_self, h2⟩
      · exact Or.inr ⟨x, List.mem_cons_of_mem _ hx, h2⟩
    · rintro (h2 | ⟨x, hx, h2⟩)
      · exact Or.inl (Or.inl h2)
      · rcases List.mem_cons.mp hx with rfl | hx
        · exact Or.inl (Or.inr ⟨s, rfl, h2⟩)
        · exact Or.inr ⟨x, hx, h2⟩
/-- a list of items is a form, that takes what the relation tells -/
def FmOK (g : Gh) (N : Nat) (a : AnT) (e : Nat) (l : List Itm) (R : Nat → Nat → Prop) : Prop := ∀ (M : Mem) (post : Mem → Prop), CX g M e N a → RowIs g M (13 + 5 * e) N (fun s j => s = j) → RowIs g M (14 + 5 * e) N (fun _ _ => False) → (∀ M' A B, Fr (PXf g e) nQ M M' → mI M' (gB g + 9) 3 = nI e → RowIs g M' (13 + 5 * e) N A → RowIs g M' (14 + 5 * e) N B → (∀ s, s ≤ N → ∀ j, j < 32 → ((B s j ∨ A s j) ↔ R s j)) → post M') → sqM g l M post
theorem pt_set {g : Gh} {N : Nat} {a : AnT} {e : Nat} (hN : N ≤ 20) (he : e < 7) {K : Nat → Nat → Nat → Prop} : ∀ (xs : List (List Itm)) (m : Nat), xs ≠ [] → m + xs.length ≤ 5 → (∀ i x, xs[i]? = some x → FmOK g N a e x (K (m + i))) → ∀ (M : Mem) (post : Mem → Prop), CX g M e N a → RowIs g M (13 + 5 * e) N (fun s j => s = j) → RowIs g M (14 + 5 * e) N (fun _ _ => False) → KpIs g M e N m K → (∀ M' A B, Fr (PX g (12 + 5 * e)) nQ M M' → mI M' (gB g + 9) 3 = nI e → RowIs g M' (13 + 5 * e) N A → RowIs g M' (14 + 5 * e) N B → KpIs g M' e N (m + xs.length - 1) K → (∀ s, s ≤ N → ∀ j, j < 32 → ((B s j ∨ A s j) ↔ K (m + xs.length - 1) s j)) → post M') → sqM g (sepL (44, 0, 0) xs) M post
  | [], _, hx, _, _, _, _, _, _, _, _, _ => absurd rfl hx
  | [x], m, _, hm, hf, M, post, h, hA, hB, hK, hq => by
    show sqM g x M post
    exact hf 0 x rfl M _ h hA hB (fun M1 A B f1 z1 rA rB hAB => hq M1 A B (f1.mono (PXf.up he) (fun _ _ hh => hh)) z1 rA rB (hK.fr f1 (fun b k hh => by unfold PXf PXw PX at hh; omega)) hAB)
  | x :: y :: r, m, _, hm, hf, M, post, h, hA, hB, hK, hq => by
    show sqM g (x ++ (44, 0, 0) :: sepL (44, 0, 0) (y :: r)) M post
    refine sqM_app ?_
    have hm : m + (r.length + 1 + 1) ≤ 5 := hm
    refine hf 0 x rfl M _ h hA hB (fun M1 A B f1 z1 rA rB hAB => ?_)
    have g1 : Fr (PX g (12 + 5 * e)) nQ M M1 := f1.mono (PXf.up he) (fun _ _ hh => hh)
    have c1 : CX g M1 e N a := h.fr (g1.mono (PX.up (by omega)) (fun _ _ hh => hh)) z1
    refine sqM_cons (fun Q hQ => st_comma c1 hN he rA rB (by omega) (hK.fr f1 (fun b k hh => by unfold PXf PXw PX at hh; omega)) hAB (fun M2 f2 k2 r2 r3 => hQ M2 ?_))
    have g2 : Fr (PX g (12 + 5 * e)) nQ M1 M2 := f2.mono (fun b k hh => by unfold PX; omega) (fun _ _ hh => hh)
    refine ⟨g2.mono (PX.up (by omega)) (fun _ _ hh => hh), ?_⟩
    have z2 : mI M2 (gB g + 9) 3 = nI e := by rw [f2.1 _ _ (by omega)]; exact z1
    have c2 : CX g M2 e N a := c1.fr (g2.mono (PX.up (by omega)) (fun _ _ hh => hh)) z2
    have el : m + 1 + (y :: r).length - 1 = m + (x :: y :: r).length - 1 := by simp only [List.length_cons]; omega
    refine pt_set hN he (y :: r) (m + 1) (by simp) (by simp only [List.length_cons]; omega) (fun i w hw => ?_) M2 _ c2 r2 r3 k2 (fun M3 A' B' f3 z3 rA' rB' k3 hAB' => hq M3 A' B' (g1.tr (g2.tr f3)) z3 rA' rB' (by rw [← el]; exact k3) (by rw [← el]; exact hAB'))
    have := hf (i + 1) w hw
    rw [show m + 1 + i = m + (i + 1) by omega]; exact this
theorem pt_bracket {g : Gh} {N : Nat} {a : AnT} {e : Nat} (hN : N ≤ 20) (he : e < 6) {b : Nat} (hb : b ≤ 2) {K : Nat → Nat → Nat → Prop} {xs : List (List Itm)} (hx1 : 1 ≤ xs.length) (hx5 : xs.length ≤ 5) (hxb : b ≤ 1 → xs.length = 1) (hf : ∀ i x, xs[i]? = some x → FmOK g N a (e + 1) x (K i)) (hKN : ∀ f k j, k ≤ N → K f k j → j ≤ N) : PtOK g N a e (linS b xs) (rB b xs.length K) := by
  intro M A0 post h hA0 hA0N hq
  refine sqM_cons (fun Q hQ => st_open h.1 hb (sp_open (K := K) h hN he (fun M1 f1 z1 k1 r1 r2 => hQ M1 ⟨f1.mono (PX.up (by omega)) (fun _ _ hh => hh), ?_⟩)))
  have c1 : CX g M1 (e + 1) N a := h.fr (f1.mono (PX.up (by omega)) (fun _ _ hh => hh)) z1
  refine sqM_app ?_
  refine pt_set hN (show e + 1 < 7 by omega) xs 0 (fun hx => by rw [hx] at hx1; exact absurd hx1 (by decide)) (by omega) (fun i x hx => by rw [Nat.zero_add]; exact hf i x hx) M1 _ c1 r1 r2 k1 (fun M2 A B f2 z2 rA rB kK hAB => ?_)
  rw [Nat.zero_add] at kK hAB
  have g2 : Fr (PX g (17 + 5 * e)) nQ M M2 := f1.tr (f2.mono (PX.up (by omega)) (fun _ _ hh => hh))
  have c2 : CX g M2 (e + 1) N a := h.fr (g2.mono (PX.up (by omega)) (fun _ _ hh => hh)) z2
  refine sqM_cons (fun Q hQ => st_close c2.1 hb (sp_close c2 hN he hb (m := xs.length - 1) (by omega) (fun hx => by have := hxb hx; omega) (hA0.fr g2 (fun b k hh => by unfold PX at hh; omega)) hA0N rA rB kK hAB hKN (fun M3 f3 z3 r3 => hQ M3 ⟨f3.mono (fun b k hh => by unfold PXw PX at hh; unfold PX; omega) (fun _ _ hh => hh), sqM_nil ?_⟩)))
  rw [show xs.length - 1 + 1 = xs.length by omega] at r3
  exact hq M3 ((g2.mono (fun b k hh => Or.inl hh) (fun _ _ hh => hh)).tr f3) z3 r3
theorem pt_F {g : Gh} {N : Nat} {a : AnT} {e : Nat} (hN : N ≤ 20) (he : e < 7) {α : Type} {f : α → List Itm} {R : α → Nat → Nat → Prop} (hR : ∀ p k j, k ≤ N → R p k j → j ≤ N) {P : α → Prop} (hf : ∀ p, P p → PtOK g N a e (f p) (R p)) {F : List (List α)} (ho : okF P F) : FmOK g N a e (linF f F) (rF R F) := by
  intro M post h hA hB hq
  refine pt_form hN he (f := fun r : List α => (r.map f).flatten) (R := fun r => rR R r) F ho.1 (fun r hr => pt_row he hR r (fun p hp => hf p ((ho.2 r hr).2 p hp))) M _ post h hA hB (fun M' A B f1 z1 rA rB hAB => hq M' A B f1 z1 rA rB (fun s hs j hj => ?_))
  rw [hAB s hs j hj]
  exact ⟨fun hx => hx.elim False.elim id, Or.inr⟩
theorem pt_P {g : Gh} {N : Nat} {a : AnT} (hN : N ≤ 20) (hok : okN N a) : ∀ (d e : Nat), e + d ≤ 6 → ∀ (p : Prt d), okP d p → PtOK g N a e (linP d p) (rP N a d p)
  | 0, e, he, p, ho => pt_leaf hN hok (by omega) ho
  | d + 1, e, he, p, ho => by
    have er : rP N a (d + 1) p = (fun k j => match (show Lf ⊕ (Nat × List (List (List (Prt d)))) from p) with
      | .inl q => rL N a q k j
      | .inr q => rB q.1 q.2.length (fun f => rF (rP N a d) (q.2.getD f [])) k j) := by
      funext k j; rfl
    rw [er]
    unfold okP at ho
    unfold linP
    revert ho
    cases (show Lf ⊕ (Nat × List (List (List (Prt d)))) from p) with
    | inl q => intro ho; exact pt_leaf hN hok (by omega) ho
    | inr q =>
      intro ho
      have ho : q.1 ≤ 2 ∧ 1 ≤ q.2.length ∧ q.2.length ≤ 5 ∧ (q.1 ≤ 1 → q.2.length = 1) ∧ ∀ F ∈ q.2, okF (okP d) F := ho
      obtain ⟨o1, o2, o3, o4, o5⟩ := ho
      have := pt_bracket (g := g) (N := N) (a := a) (e := e) hN (by omega) o1 (K := fun f => rF (rP N a d) (q.2.getD f [])) (xs := q.2.map (linF (linP d))) (by rw [List.length_map]; exact o2) (by rw [List.length_map]; exact o3) (by rw [List.length_map]; exact o4) (fun i x hx => ?_) (fun f k j hk hr => rF_le (rP_le N a d) hk hr)
      · rw [List.length_map] at this
        exact this
      · rw [List.getElem?_map] at hx
        cases hF : q.2[i]? with
        | none => rw [hF] at hx; cases hx
        | some F =>
          rw [hF] at hx
          have hx : some (linF (linP d) F) = some x := hx
          cases hx
          have e2 : q.2.getD i [] = F := by rw [List.getD_eq_getElem?_getD, hF]; rfl
          show FmOK g N a (e + 1) (linF (linP d) F) (rF (rP N a d) (q.2.getD i []))
          rw [e2]
          exact pt_F hN (by omega) (rP_le N a d) (fun p hp => pt_P hN hok d (e + 1) (by omega) p hp) (o5 F (List.mem_of_getElem? hF))
