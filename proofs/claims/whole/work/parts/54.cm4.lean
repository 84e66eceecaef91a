/-! PURE: the class's matcher, step by step -/
/-- what lies above a row of the layout, of the matcher -/
def PX (g : Gh) (lo : Nat) : Nat → Nat → Prop := fun a k => (a = (gB g + 9) ∧ k = 3) ∨ a = (gB g + 47) ∨ ((gB g + (lo)) ≤ a ∧ a ≤ (gB g + 46))
def PXw (g : Gh) (e : Nat) : Nat → Nat → Prop := fun a k => PX g (17 + 5 * e) a k ∨ a = (gB g + (13 + 5 * e))
def CX (g : Gh) (M : Mem) (e N : Nat) (a : AnT) : Prop := Lay g M ∧ mI M (gB g + 9) 3 = nI e ∧ AC g M N a
theorem AC.fr {g : Gh} {M M' : Mem} {N : Nat} {a : AnT} {P Q : Nat → Nat → Prop} (h : AC g M N a) (f : Fr P Q M M') (hp : ∀ b k, P b k → ¬ (b = (gB g + 9) ∧ k = 1)) (hq : ∀ b k, Q b k → ¬ b = (gB g + 10)) : AC g M' N a := ⟨by rw [f.1 _ _ (fun hh => hp _ _ hh ⟨rfl, rfl⟩)]; exact h.1, fun j hj => by rw [f.2.1 _ _ (fun hh => hq _ _ hh rfl)]; exact h.2 j hj⟩
theorem CX.fr {g : Gh} {M M' : Mem} {e e' N : Nat} {a : AnT} (h : CX g M e N a) (f : Fr (PX g 12) nQ M M') (h3 : mI M' (gB g + 9) 3 = nI e') : CX g M' e' N a := ⟨f.lay h.1, h3, h.2.2.fr f (fun b k hh => by unfold PX at hh; omega) (fun a k hh => (hh : False).elim)⟩
theorem sp_open {g : Gh} {M : Mem} {e N : Nat} {a : AnT} (h : CX g M e N a) (hN : N ≤ 20) (he : e < 6) {K : Nat → Nat → Nat → Prop} {post : Mem → Prop} (hq : ∀ M', Fr (PX g (17 + 5 * e)) nQ M M' → mI M' (gB g + 9) 3 = nI (e + 1) → KpIs g M' (e + 1) N 0 K → RowIs g M' (13 + 5 * (e + 1)) N (fun s j => s = j) → RowIs g M' (14 + 5 * (e + 1)) N (fun _ _ => False) → post M') : wp_X7_openFrame g M (gB g + 9) post := by
  have h1 := h.1
  refine ⟨lk_9 h1, _, lr_9_2 h1, lk_11 h1, ?_⟩
  rw [ln_11 h1, h.2.1, nI_1]
  refine pk_le 7 (e + 1) (fun hx => by omega) (fun _ => ?_)
  rintro M5 rfl
  have r3 : mI (uI M (gB g + 9) 3 (nI (e + 1))) (gB g + 9) 3 = nI (e + 1) := by rw [s_II, if_pos rfl, if_pos rfl]
  rw [r3, nI_cl _ (by omega)]
  have f0 : Fr (PX g (17 + 5 * e)) nQ M (uI M (gB g + 9) 3 (nI (e + 1))) := Fr.rf.uI (Or.inl ⟨rfl, rfl⟩)
  refine ⟨pk_in (e + 1) 7 (by omega), _, (lk_fr (f0.lay h1) (show e + 1 < 7 by omega)).2.2.1, ?_⟩
  refine sp_restart (f0.lay h1) (show e + 1 < 7 by omega) hN (fun M' f z r1 r2 => hq M' (f0.tr (f.mono (fun b k hh => by unfold PX; omega) (fun _ _ hh => hh))) ?_ ⟨z, fun i hi => by omega⟩ r1 r2)
  rw [f.1 _ _ (by omega)]; exact r3
/-- a part's ends, told from the ends of its forms -/
def rB (b m : Nat) (K : Nat → Nat → Nat → Prop) (k j : Nat) : Prop := if b = 0 then (k = j ∨ K 0 k j) else if b = 1 then K 0 k j else reS m K (fun i => i = k) (2 ^ m - 1) j
theorem cls_ne {b : Nat} (hb : b ≤ 2) : (nI (cls b) = 125 ↔ b = 2) ∧ (nI (cls b) = 93 ↔ b = 0) := by
  rcases (show b = 0 ∨ b = 1 ∨ b = 2 by omega) with rfl | rfl | rfl <;> decide
/-- the ends of a closed part, from one start -/
theorem sp_endsOf {g : Gh} {M : Mem} {e N : Nat} {a : AnT} (h : Lay g M) (ha : AC g M N a) (hN : N ≤ 20) (he : e < 7) {b m : Nat} (hb : b ≤ 2) {K : Nat → Nat → Nat → Prop} (hKN : ∀ f k j, k ≤ N → K f k j → j ≤ N) (h2 : b = 2 → 1 ≤ m ∧ m ≤ 5 ∧ KpIs g M e N m K) (h01 : b ≤ 1 → RowIs g M (14 + 5 * e) N (K 0)) {s : Nat} (hs : s < 21) {post : Int32 → Mem → Prop} (hq : ∀ v M', Fr (fun a _ => a = (gB g + (16 + 5 * e))) nQ M M' → (s ≤ N → ∀ j, j < 32 → (bt v j = true ↔ rB b m K s j)) → post v M') : wp_X7_endsOf g M (gB g + 9) (gB g + (12 + 5 * e)) (nI (cls b)) (nI s) post := by
  have hf := lk_fr h he
  refine ⟨lk_9 h, ?_⟩
  rw [ha.1]
  refine ⟨fun hx => hq 0 M Fr.rf (fun hsN => ?_), fun hx => ⟨hf.1.1, _, hf.2.2.2.2.1, hf.1.2.2.1, ?_⟩⟩
  · exfalso
    have : ¬ nI s ≤ nI N := Int32.not_le.mpr hx
    exact this (nI_le hsN (by omega))
  · have hsN : s ≤ N := by
      rcases Nat.lt_or_ge N s with hx2 | hx2
      · exact absurd (nI_lt hx2 (by omega)) hx
      · exact hx2
    rw [hf.2.1.2.1, (cls_ne hb).1, (cls_ne hb).2]
    refine ⟨fun _ => ⟨fun hb2 => ?_, fun hb2 => ⟨fun hb0 => ⟨pk_in s 21 hs, ?_⟩, fun hb0 => ⟨hf.1.1, _, hf.2.2.2.2.1, hf.1.2.2.1, by rw [hf.2.1.2.1]; exact pk_in s 21 hs, ?_⟩⟩⟩, fun hx => absurd (nI_lt hs (by omega)) hx⟩
    · obtain ⟨m1, m5, hK⟩ := h2 hb2
      refine sp_endsAny h he hN m1 m5 hK hKN hsN (fun v M' f hv => hq v M' f (fun _ j hj => ?_))
      rw [hv j hj]; unfold rB; rw [if_neg (by omega), if_neg (by omega)]
    · rw [nI_cl s (by omega)]
      refine hq _ M Fr.rf (fun _ j hj => ?_)
      rw [bt_or, Bool.or_eq_true, h01 (by omega) s hsN j hj, bt_one s (by omega) j hj, decide_eq_true_eq]
      unfold rB; rw [if_pos hb0]
      constructor
      · rintro (h3 | h3)
        · exact Or.inr h3
        · exact Or.inl h3.symm
      · rintro (h3 | h3)
        · exact Or.inr h3.symm
        · exact Or.inl h3
    · rw [nI_cl s (by omega)]
      refine hq _ M Fr.rf (fun _ j hj => ?_)
      rw [h01 (by omega) s hsN j hj]
      unfold rB; rw [if_neg hb0, if_pos (by omega)]
