/-! PURE: a form's arrays are copied -/
theorem sepL_mem {s : Itm} : ∀ (l : List (List Itm)) (x : Itm), x ∈ sepL s l → x = s ∨ ∃ y ∈ l, x ∈ y
  | [], x, h => by cases h
  | [y], x, h => Or.inr ⟨y, List.mem_cons_self, h⟩
  | y :: z :: r, x, h => by
    have h : x ∈ y ++ s :: sepL s (z :: r) := h
    rcases List.mem_append.mp h with h | h
    · exact Or.inr ⟨y, List.mem_cons_self, h⟩
    · rcases List.mem_cons.mp h with h | h
      · exact Or.inl h
      · rcases sepL_mem (z :: r) x h with h | ⟨w, hw, h⟩
        · exact Or.inl h
        · exact Or.inr ⟨w, List.mem_cons_of_mem _ hw, h⟩
theorem opn_128 (b : Nat) : opn b < 128 ∧ cls b < 128 := by
  unfold opn cls
  constructor
  · split
    · decide
    · split <;> decide
  · split
    · decide
    · split <;> decide
theorem linF_k {α : Type} {f : α → List Itm} (h : ∀ p, ∀ x ∈ f p, x.1 < 128) (F : List (List α)) : ∀ x ∈ linF f F, x.1 < 128 := by
  intro x hx
  rcases sepL_mem _ x hx with rfl | ⟨y, hy, hx⟩
  · decide
  · obtain ⟨r, _, rfl⟩ := List.mem_map.mp hy
    obtain ⟨z, hz, hx⟩ := List.mem_flatten.mp hx
    obtain ⟨p, _, rfl⟩ := List.mem_map.mp hz
    exact h p x hx
theorem lfI_k (p : Lf) : (lfI p).1 < 128 := by
  rcases lf_kind p with e | e <;> rw [e] <;> decide
theorem linP_k : ∀ (d : Nat) (p : Prt d), ∀ x ∈ linP d p, x.1 < 128
  | 0, p, x, hx => by
    have hx : x ∈ [lfI p] := hx
    rw [List.mem_singleton.mp hx]; exact lfI_k p
  | d + 1, p, x, hx => by
    unfold linP at hx
    revert hx
    cases (show Lf ⊕ (Nat × List (List (List (Prt d)))) from p) with
    | inl q =>
      intro hx
      have hx : x ∈ [lfI q] := hx
      rw [List.mem_singleton.mp hx]; exact lfI_k q
    | inr q =>
      intro hx
      have hx : x ∈ (opn q.1, 0, 0) :: (sepL (44, 0, 0) (q.2.map (linF (linP d))) ++ [(cls q.1, 0, 0)]) := hx
      rcases List.mem_cons.mp hx with rfl | hx
      · exact (opn_128 q.1).1
      · rcases List.mem_append.mp hx with hx | hx
        · rcases sepL_mem _ x hx with rfl | ⟨y, hy, hx⟩
          · decide
          · obtain ⟨F, _, rfl⟩ := List.mem_map.mp hy
            exact linF_k (linP_k d) F x hx
        · rw [List.mem_singleton.mp hx]; exact (opn_128 q.1).2
theorem fit_b : ∀ c, c < 128 → fits .byte (.int (nI c)) = true := by decide +kernel
theorem gr_wI {P R : Nat → Nat → Prop} {M M1 : Mem} (h : GrX P R M M1) {q : Nat} (hq : mT M ≤ q) (f : Nat → Int32) : GrX P R M (wI M1 q f) := by
  refine ⟨h.1, fun a ha => ?_⟩
  obtain ⟨h1, h2, h3, h4, h5⟩ := h.2 a ha
  exact ⟨fun k hk => by rw [mI_wI_n _ _ _ (by omega)]; exact h1 k hk, h2, h3, h4, h5⟩
theorem gr_wJ {P R : Nat → Nat → Prop} {M M1 : Mem} (h : GrX P R M M1) {q : Nat} (hq : mT M ≤ q) (f : Nat → Int64) : GrX P R M (wJ M1 q f) := by
  refine ⟨h.1, fun a ha => ?_⟩
  obtain ⟨h1, h2, h3, h4, h5⟩ := h.2 a ha
  refine ⟨h1, fun k => ?_, h3, h4, h5⟩
  show va_up M1.2.1 q f a k = _
  rw [va_up_ne _ _ (by omega)]; exact h2 k
theorem nw_new (M : Mem) (kd n : Nat) : mK (nw M kd n) (mT M) = kd ∧ mN (nw M kd n) (mT M) = n ∧ mT (nw M kd n) = mT M + 1 := ⟨va_up_self _ _ _, va_up_self _ _ _, rfl⟩
theorem sp_copyB {g : Gh} {M : Mem} {P R : Nat → Nat → Prop} {a len : Nat} (hB : gB g ≤ mT M) (ho : okc (gB g) M a 13) (hn : mN M a = 200) (hl : len ≤ 200) (hf : ∀ i, i < len → fits .byte (.int (mI M a i)) = true) {post : Option Nat → Mem → Prop} (hq : ∀ M', GrX P R M M' → okc (gB g) M' (mT M) 13 → mN M' (mT M) = len → (∀ i, i < len → mI M' (mT M) i = mI M a i) → mT M' = mT M + 1 → post (some (mT M)) M') : wp_J7_copyOf_9075b g M a (nI len) post := by
  refine ⟨ho, ?_⟩
  rw [hn]
  refine pk_eq len 200 (fun he => ⟨⟨by omega, by omega⟩, fun i hi => hf i (by omega), ?_⟩) (fun he => ⟨⟨by omega, by rw [nI_cl _ (by omega)]; omega⟩, ⟨nI_pos (by omega), by rw [nI_cl _ (by omega)]; omega⟩, ?_⟩)
  · rintro q M1 rfl rfl
    have hw := nw_new M 13 200
    exact ⟨⟨by omega, by omega⟩, hq _ (gr_wI (gr_nw M 13 200) (Nat.le_refl _) _) ⟨hB, by show mT M < mT M + 1; omega, hw.1⟩ (hw.2.1.trans he.symm) (fun i hi => by rw [mI_wI_s]) rfl⟩
  · rw [nI_cl len (by omega)]
    rintro q M1 rfl rfl
    have hw := nw_new M 13 len
    have hne : a ≠ mT M := Nat.ne_of_lt ho.2.1
    have e1 : mN (nw M 13 len) a = 200 := (va_up_ne _ _ hne).trans hn
    have e2 : mI (nw M 13 len) a = mI M a := va_up_ne _ _ hne
    rw [e1, if_pos (nI_lt (show len < 200 by omega) (by omega)), nI_cl len (by omega), e2, show Int32.toNatClampNeg 0 = 0 from rfl, hw.2.1]
    refine ⟨⟨by omega, by omega⟩, ⟨by decide, by decide, nI_pos (by omega), by omega, by omega, fun i hi => by rw [Nat.zero_add]; exact hf i hi⟩, ?_⟩
    rintro M2 rfl
    refine ⟨⟨by omega, by omega⟩, hq _ (gr_wI (gr_nw M 13 len) (Nat.le_refl _) _) ⟨hB, by show mT M < mT M + 1; omega, hw.1⟩ hw.2.1 (fun i hi => ?_) rfl⟩
    rw [mI_wI_s, pk_cpy_in (by omega) (by omega)]
    congr 1; omega
theorem mJ_wJ_s (M : Mem) (a : Nat) (f : Nat → Int64) : mJ (wJ M a f) a = f := va_up_self _ _ _
theorem sp_copyJ {g : Gh} {M : Mem} {P R : Nat → Nat → Prop} {a len : Nat} (hB : gB g ≤ mT M) (ho : okc (gB g) M a 15) (hn : mN M a = 200) (hl : len ≤ 200) {post : Option Nat → Mem → Prop} (hq : ∀ M', GrX P R M M' → okc (gB g) M' (mT M) 15 → mN M' (mT M) = len → (∀ i, i < len → mJ M' (mT M) i = mJ M a i) → mT M' = mT M + 1 → post (some (mT M)) M') : wp_J7_copyOf_c38d5 g M a (nI len) post := by
  refine ⟨ho, ?_⟩
  rw [hn]
  refine pk_eq len 200 (fun he => ⟨⟨by omega, by omega⟩, ?_⟩) (fun he => ⟨⟨by omega, by rw [nI_cl _ (by omega)]; omega⟩, ⟨nI_pos (by omega), by rw [nI_cl _ (by omega)]; omega⟩, ?_⟩)
  · rintro q M1 rfl rfl
    have hw := nw_new M 15 200
    exact ⟨⟨by omega, by omega⟩, hq _ (gr_wJ (gr_nw M 15 200) (Nat.le_refl _) _) ⟨hB, by show mT M < mT M + 1; omega, hw.1⟩ (hw.2.1.trans he.symm) (fun i hi => by rw [mJ_wJ_s]) rfl⟩
  · rw [nI_cl len (by omega)]
    rintro q M1 rfl rfl
    have hw := nw_new M 15 len
    have hne : a ≠ mT M := Nat.ne_of_lt ho.2.1
    have e1 : mN (nw M 15 len) a = 200 := (va_up_ne _ _ hne).trans hn
    have e2 : mJ (nw M 15 len) a = mJ M a := va_up_ne _ _ hne
    rw [e1, if_pos (nI_lt (show len < 200 by omega) (by omega)), nI_cl len (by omega), e2, show Int32.toNatClampNeg 0 = 0 from rfl, hw.2.1]
    refine ⟨⟨by omega, by omega⟩, ⟨by decide, by decide, nI_pos (by omega), by omega, by omega⟩, ?_⟩
    rintro M2 rfl
    refine ⟨⟨by omega, by omega⟩, hq _ (gr_wJ (gr_nw M 15 len) (Nat.le_refl _) _) ⟨hB, by show mT M < mT M + 1; omega, hw.1⟩ hw.2.1 (fun i hi => ?_) rfl⟩
    rw [mJ_wJ_s, pk_cpy_in (by omega) (by omega)]
    congr 1; omega
