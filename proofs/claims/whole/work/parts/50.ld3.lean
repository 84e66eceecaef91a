/-! PURE: the reference's matching, all of it -/
theorem ld_P {g : Gh} {N : Nat} {a : AnT} {nd : NdT} {lo hi : Nat} (hhi : hi ≤ 25200) : ∀ (d f lv : Nat), 3 * d + 1 ≤ f → lv + d ≤ 6 → ∀ (n : Nat) (p : Prt d), lo ≤ n → n < hi → okP d p → encP lo hi nd d n p → LdOK g (wpLeads f) lv N a nd n (rP N a d p)
  | 0, f, lv, hf, hl, n, p, h1, h2, ho, he => by
    obtain ⟨f, rfl⟩ : ∃ f', f = f' + 1 := ⟨f - 1, by omega⟩
    exact ld_leaf (by omega) ho he
  | d + 1, f, lv, hf, hl, n, p, h1, h2, ho, he => by
    obtain ⟨f, rfl⟩ : ∃ f', f = f' + 1 := ⟨f - 1, by omega⟩
    have hF : ∀ lv' n' (F : List (List (Prt d))), lv' + d ≤ 6 → lo ≤ n' → n' < hi → okF (okP d) F → encF lo hi nd (encP lo hi nd d) n' F → LdOK g (wpLeads f) lv' N a nd n' (rF (rP N a d) F) := by
      intro lv' n' F hl' a1 a2 ho' he'
      obtain ⟨f2, rfl⟩ : ∃ f', f = f' + 1 := ⟨f - 1, by omega⟩
      have hrow : ∀ n r, lo ≤ n → n < hi → (encR lo hi nd (fun n p => encP lo hi nd d n p ∧ okP d p) n r) → LdOK g (wpLeads f2) lv' N a nd n (rR (rP N a d) r) := by
        intro n r b1 b2 her
        obtain ⟨f3, rfl⟩ : ∃ f', f2 = f' + 1 := ⟨f2 - 1, by omega⟩
        exact ld_row hhi (rP_le N a d) (fun n p c1 c2 hp => ld_P hhi d f3 lv' (by omega) hl' n p c1 c2 hp.2 hp.1) (by omega) her
      -- parts carry that they are well made
      have up : ∀ (l : List (Prt d)) (s : Int32), (∀ p ∈ l, okP d p) → chn lo hi nd.2.2.1 (encP lo hi nd d) s l → chn lo hi nd.2.2.1 (fun n p => encP lo hi nd d n p ∧ okP d p) s l := by
        intro l
        induction l with
        | nil => intro s _ h; exact h
        | cons p l ih =>
          rintro s hp ⟨m, m1, m2, m3, m4, m5⟩
          exact ⟨m, m1, m2, m3, ⟨m4, hp p List.mem_cons_self⟩, ih _ (fun q hq => hp q (List.mem_cons_of_mem _ hq)) m5⟩
      have up2 : ∀ (l : List (List (Prt d))) (s : Int32), (∀ r ∈ l, ∀ p ∈ r, okP d p) → chn lo hi nd.2.2.1 (encR lo hi nd (encP lo hi nd d)) s l → chn lo hi nd.2.2.1 (encR lo hi nd (fun n p => encP lo hi nd d n p ∧ okP d p)) s l := by
        intro l
        induction l with
        | nil => intro s _ h; exact h
        | cons r l ih =>
          rintro s hp ⟨m, m1, m2, m3, m4, m5⟩
          exact ⟨m, m1, m2, m3, ⟨m4.1, up r _ (hp r List.mem_cons_self) m4.2⟩, ih _ (fun q hq => hp q (List.mem_cons_of_mem _ hq)) m5⟩
      exact ld_form hhi (P := encR lo hi nd (fun n p => encP lo hi nd d n p ∧ okP d p)) (R := rR (rP N a d)) hrow (by omega) he'.1 (up2 F _ (fun r hr => (ho'.2 r hr).2) he'.2)
    unfold okP at ho
    unfold encP at he
    have er : rP N a (d + 1) p = (fun k j => match (show Lf ⊕ (Nat × List (List (List (Prt d)))) from p) with
      | .inl q => rL N a q k j
      | .inr q => if q.1 = 0 then (k = j ∨ rF (rP N a d) (q.2.getD 0 []) k j) else if q.1 = 1 then rF (rP N a d) (q.2.getD 0 []) k j else reS q.2.length (fun f => rF (rP N a d) (q.2.getD f [])) (fun i => i = k) (2 ^ q.2.length - 1) j) := by
      funext k j; rfl
    rw [er]
    revert ho he
    cases (show Lf ⊕ (Nat × List (List (List (Prt d)))) from p) with
    | inl q => intro ho he; exact ld_leaf (by omega) ho he
    | inr q =>
      intro ho he
      have ho : q.1 ≤ 2 ∧ 1 ≤ q.2.length ∧ q.2.length ≤ 5 ∧ (q.1 ≤ 1 → q.2.length = 1) ∧ ∀ F ∈ q.2, okF (okP d) F := ho
      have he : nd.1 n = nI (5 + q.1) ∧ chn lo hi nd.2.2.1 (encF lo hi nd (encP lo hi nd d)) (nd.2.1 n) q.2 := he
      obtain ⟨o1, o2, o3, o4, o5⟩ := ho
      intro M S post h hS0 hq
      have hL := h.1
      have cn : Int32.toNatClampNeg (nI n) = n := nI_cl n (by omega)
      have hin : ∀ {b : Nat}, mN M b = 25200 → vp_in (nI n) (mN M b) := fun e => by rw [e]; exact pk_in n 25200 (by omega)
      have hnd := h.nd n
      have hq : ∀ v M', Fr (PLd g lv) nQ M M' → LX g M' lv N a nd → (∀ j, j < 32 → (bt v j = true ↔ ∃ k, bt S k = true ∧ if q.1 = 0 then (k = j ∨ rF (rP N a d) (q.2.getD 0 []) k j) else if q.1 = 1 then rF (rP N a d) (q.2.getD 0 []) k j else reS q.2.length (fun f => rF (rP N a d) (q.2.getD f [])) (fun i => i = k) (2 ^ q.2.length - 1) j)) → post v M' := hq
      refine ⟨lk_195 hL, _, lr_195_11 hL, lk_197 hL, hin (ln_197 hL), ?_⟩
      rw [cn, hnd.1]
      refine sw9 (5 + q.1) (by omega) he.1 ?_
      rcases (show q.1 = 0 ∨ q.1 = 1 ∨ q.1 = 2 by omega) with hb | hb | hb
      · rw [hb] at hq ⊢
        have hl1 := o4 (by omega)
        obtain ⟨F, hFs⟩ : ∃ F, q.2 = [F] := List.length_eq_one_iff.mp hl1
        rw [hFs] at he hq
        obtain ⟨c1, c2, c3, c4, c5, c6⟩ := he.2
        refine ⟨_, lr_195_12 hL, lk_198 hL, hin (ln_198 hL), ?_⟩
        (try rw [cn])
        rw [hnd.2.1, c4]
        refine hF lv c1 F (by omega) c2 c3 (o5 F (by rw [hFs]; exact List.mem_cons_self)) c5 M S _ h hS0 (fun v M' f' x' hv => hq _ M' f' x' (fun j hj => ?_))
        rw [bt_or, Bool.or_eq_true, hv j hj]
        constructor
        · rintro (h2 | ⟨k, h2, h3⟩)
          · exact ⟨j, h2, by rw [if_pos rfl]; exact Or.inl rfl⟩
          · exact ⟨k, h2, by rw [if_pos rfl]; exact Or.inr h3⟩
        · rintro ⟨k, h2, h3⟩
          rw [if_pos rfl] at h3
          rcases h3 with h3 | h3
          · rw [h3] at h2; exact Or.inl h2
          · exact Or.inr ⟨k, h2, h3⟩
      · rw [hb] at hq ⊢
        have hl1 := o4 (by omega)
        obtain ⟨F, hFs⟩ : ∃ F, q.2 = [F] := List.length_eq_one_iff.mp hl1
        rw [hFs] at he hq
        obtain ⟨c1, c2, c3, c4, c5, c6⟩ := he.2
        refine ⟨_, lr_195_12 hL, lk_198 hL, hin (ln_198 hL), ?_⟩
        (try rw [cn])
        rw [hnd.2.1, c4]
        refine hF lv c1 F (by omega) c2 c3 (o5 F (by rw [hFs]; exact List.mem_cons_self)) c5 M S _ h hS0 (fun v M' f' x' hv => hq _ M' f' x' (fun j hj => ?_))
        rw [hv j hj]
        simp
      · rw [hb] at hq ⊢
        have up3 : ∀ (l : List (List (List (Prt d)))) (s : Int32), (∀ F ∈ l, okF (okP d) F) → chn lo hi nd.2.2.1 (encF lo hi nd (encP lo hi nd d)) s l → chn lo hi nd.2.2.1 (fun n F => encF lo hi nd (encP lo hi nd d) n F ∧ okF (okP d) F) s l := by
          intro l
          induction l with
          | nil => intro s _ h; exact h
          | cons r l ih =>
            rintro s hp ⟨m, m1, m2, m3, m4, m5⟩
            exact ⟨m, m1, m2, m3, ⟨m4, hp r List.mem_cons_self⟩, ih _ (fun q hq => hp q (List.mem_cons_of_mem _ hq)) m5⟩
        have := ld_all (g := g) (w := wpLeads f) (lv := lv) (N := N) (a := a) (nd := nd) hhi (by omega) (P := fun n F => encF lo hi nd (encP lo hi nd d) n F ∧ okF (okP d) F) (R := rF (rP N a d)) (fun F k j hk hr => rF_le (rP_le N a d) hk hr) (fun n F b1 b2 hE => hF (lv + 1) n F (by omega) b1 b2 hE.2 hE.1) (n := n) (by omega) (fs := q.2) o2 o3 (up3 q.2 _ o5 he.2)
        refine this M S _ h hS0 (fun v M' f' x' hv => hq v M' f' x' (fun j hj => ?_))
        rw [hv j hj]
        simp
theorem ld_F6 {g : Gh} {N : Nat} {a : AnT} {nd : NdT} {lo hi : Nat} (hhi : hi ≤ 25200) {n : Nat} {F : List (List (Prt 6))} (h1 : lo ≤ n) (h2 : n < hi) (ho : okF (okP 6) F) (he : encF lo hi nd (encP lo hi nd 6) n F) : LdOK g (wpLeads 32) 0 N a nd n (rF (rP N a 6) F) := by
  have hrow : ∀ n r, lo ≤ n → n < hi → (encR lo hi nd (fun n p => encP lo hi nd 6 n p ∧ okP 6 p) n r) → LdOK g (wpLeads 31) 0 N a nd n (rR (rP N a 6) r) := fun n r b1 b2 her => ld_row hhi (rP_le N a 6) (fun n p c1 c2 hp => ld_P hhi 6 30 0 (by omega) (by omega) n p c1 c2 hp.2 hp.1) (by omega) her
  have up : ∀ (l : List (Prt 6)) (s : Int32), (∀ p ∈ l, okP 6 p) → chn lo hi nd.2.2.1 (encP lo hi nd 6) s l → chn lo hi nd.2.2.1 (fun n p => encP lo hi nd 6 n p ∧ okP 6 p) s l := by
    intro l
    induction l with
    | nil => intro s _ h; exact h
    | cons p l ih =>
      rintro s hp ⟨m, m1, m2, m3, m4, m5⟩
      exact ⟨m, m1, m2, m3, ⟨m4, hp p List.mem_cons_self⟩, ih _ (fun q hq => hp q (List.mem_cons_of_mem _ hq)) m5⟩
  have up2 : ∀ (l : List (List (Prt 6))) (s : Int32), (∀ r ∈ l, ∀ p ∈ r, okP 6 p) → chn lo hi nd.2.2.1 (encR lo hi nd (encP lo hi nd 6)) s l → chn lo hi nd.2.2.1 (encR lo hi nd (fun n p => encP lo hi nd 6 n p ∧ okP 6 p)) s l := by
    intro l
    induction l with
    | nil => intro s _ h; exact h
    | cons r l ih =>
      rintro s hp ⟨m, m1, m2, m3, m4, m5⟩
      exact ⟨m, m1, m2, m3, ⟨m4.1, up r _ (hp r List.mem_cons_self) m4.2⟩, ih _ (fun q hq => hp q (List.mem_cons_of_mem _ hq)) m5⟩
  exact ld_form hhi (P := encR lo hi nd (fun n p => encP lo hi nd 6 n p ∧ okP 6 p)) (R := rR (rP N a 6)) hrow (by omega) he.1 (up2 F _ (fun r hr => (ho.2 r hr).2) he.2)
theorem sp_isTakenM {g : Gh} {M : Mem} (h1 : Lay g M) {N : Nat} {a : AnT} (ha : AM g M N a) (hN : N ≤ 20) (hok : okN N a) {q : Nat} (hq60 : q < 60) {F : List (List (Prt 6))} (ho : okF (okP 6) F) (he : encF (420 * q) (420 * q + 420) (ndM g M) (encP (420 * q) (420 * q + 420) (ndM g M) 6) (420 * q) F) {post : Int32 → Mem → Prop} (hy : ∀ M', Fr (PLd g 0) nQ M M' → AM g M' N a → rF (rP N a 6) F 0 N → post 1 M') (hn : ∀ M', Fr (PLd g 0) nQ M M' → AM g M' N a → ¬ rF (rP N a 6) F 0 N → post 0 M') : wp_X12_isTaken g M (gB g + 195) (nI q) post := by
  refine ⟨lk_195 h1, ?_⟩
  rintro M1 rfl
  have f1 : Fr (PLd g 0) nQ M (uI M (gB g + 195) 28 0) := Fr.rf.uI (Or.inl ⟨rfl, rfl⟩)
  have x1 : LX g (uI M (gB g + 195) 28 0) 0 N a (ndM g M) := by
    refine ⟨h1, by rw [s_II, if_pos rfl, if_pos rfl]; rfl, ⟨by rw [s_II, if_pos rfl, if_neg (by decide)]; exact ha.1, fun j hj => ⟨by rw [s_II, if_neg (by omega)]; exact (ha.2 j hj).1, (ha.2 j hj).2⟩⟩, hN, hok, ?_⟩
    have e : ∀ i, 197 ≤ i → i ≤ 199 → mI (uI M (gB g + 195) 28 0) (gB g + (i)) = mI M (gB g + (i)) := fun i i1 i2 => funext fun k => f1.1 _ _ (by unfold PLd; omega)
    unfold ndM
    rw [e 197 (by decide) (by decide), e 198 (by decide) (by decide), e 199 (by decide) (by decide)]; rfl
  rw [show (420 : Int32) = nI 420 from rfl, pk_mul]
  refine ld_F6 (by omega) (Nat.le_refl _) (by omega) ho he _ 1 _ x1 (fun k hk => ?_) (fun v M' f' x' hv => ?_)
  · rcases Nat.lt_or_ge k 32 with h32 | h32
    · rw [bt_1 k h32] at hk
      have := of_decide_eq_true hk
      omega
    · rw [bt_ge _ h32] at hk; cases hk
  · rw [x'.2.2.1.1, bt_test v (by omega), hv N (by omega)]
    have key : (∃ k, bt 1 k = true ∧ rF (rP N a 6) F k N) ↔ rF (rP N a 6) F 0 N := by
      constructor
      · rintro ⟨k, h2, h3⟩
        rcases Nat.lt_or_ge k 32 with h32 | h32
        · rw [bt_1 k h32] at h2
          rw [← of_decide_eq_true h2]; exact h3
        · rw [bt_ge _ h32] at h2; cases h2
      · intro h3; exact ⟨0, by decide, h3⟩
    rw [key]
    exact ⟨fun hr => hy M' (f1.tr f') x'.2.2.1 hr, fun hr => hn M' (f1.tr f') x'.2.2.1 hr⟩
