/-! PURE: the reference's matching -/
theorem sw9 {kd : Int32} {A0 A1 A2 A3 A4 A5 A6 A7 A8 : Prop} (i : Nat) (hi : i < 8) (hk : kd = nI i) (h : [A0, A1, A2, A3, A4, A5, A6, A7].getD i True) : (kd = 0 → A0) ∧ (kd = 1 → A1) ∧ (kd = 2 → A2) ∧ (kd = 3 → A3) ∧ (kd = 4 → A4) ∧ (kd = 5 → A5) ∧ (kd = 6 → A6) ∧ (kd = 7 → A7) ∧ ((¬ kd = 0 ∧ ¬ kd = 1 ∧ ¬ kd = 2 ∧ ¬ kd = 3 ∧ ¬ kd = 4 ∧ ¬ kd = 5 ∧ ¬ kd = 6 ∧ ¬ kd = 7) → A8) := by
  subst hk
  rcases (show i = 0 ∨ i = 1 ∨ i = 2 ∨ i = 3 ∨ i = 4 ∨ i = 5 ∨ i = 6 ∨ i = 7 by omega) with rfl | rfl | rfl | rfl | rfl | rfl | rfl | rfl
  · exact ⟨fun _ => h, fun x => absurd x (by decide), fun x => absurd x (by decide), fun x => absurd x (by decide), fun x => absurd x (by decide), fun x => absurd x (by decide), fun x => absurd x (by decide), fun x => absurd x (by decide), fun x => absurd rfl x.1⟩
  · exact ⟨fun x => absurd x (by decide), fun _ => h, fun x => absurd x (by decide), fun x => absurd x (by decide), fun x => absurd x (by decide), fun x => absurd x (by decide), fun x => absurd x (by decide), fun x => absurd x (by decide), fun x => absurd rfl x.2.1⟩
  · exact ⟨fun x => absurd x (by decide), fun x => absurd x (by decide), fun _ => h, fun x => absurd x (by decide), fun x => absurd x (by decide), fun x => absurd x (by decide), fun x => absurd x (by decide), fun x => absurd x (by decide), fun x => absurd rfl x.2.2.1⟩
  · exact ⟨fun x => absurd x (by decide), fun x => absurd x (by decide), fun x => absurd x (by decide), fun _ => h, fun x => absurd x (by decide), fun x => absurd x (by decide), fun x => absurd x (by decide), fun x => absurd x (by decide), fun x => absurd rfl x.2.2.2.1⟩
  · exact ⟨fun x => absurd x (by decide), fun x => absurd x (by decide), fun x => absurd x (by decide), fun x => absurd x (by decide), fun _ => h, fun x => absurd x (by decide), fun x => absurd x (by decide), fun x => absurd x (by decide), fun x => absurd rfl x.2.2.2.2.1⟩
  · exact ⟨fun x => absurd x (by decide), fun x => absurd x (by decide), fun x => absurd x (by decide), fun x => absurd x (by decide), fun x => absurd x (by decide), fun _ => h, fun x => absurd x (by decide), fun x => absurd x (by decide), fun x => absurd rfl x.2.2.2.2.2.1⟩
  · exact ⟨fun x => absurd x (by decide), fun x => absurd x (by decide), fun x => absurd x (by decide), fun x => absurd x (by decide), fun x => absurd x (by decide), fun x => absurd x (by decide), fun _ => h, fun x => absurd x (by decide), fun x => absurd rfl x.2.2.2.2.2.2.1⟩
  · exact ⟨fun x => absurd x (by decide), fun x => absurd x (by decide), fun x => absurd x (by decide), fun x => absurd x (by decide), fun x => absurd x (by decide), fun x => absurd x (by decide), fun x => absurd x (by decide), fun _ => h, fun x => absurd rfl x.2.2.2.2.2.2.2⟩
/-- where the reference stands while it matches: level, answer, nodes -/
def LX (g : Gh) (M : Mem) (lv N : Nat) (a : AnT) (nd : NdT) : Prop := Lay g M ∧ mI M (gB g + 195) 28 = nI lv ∧ AM g M N a ∧ N ≤ 20 ∧ okN N a ∧ ndM g M = nd
def PLd (g : Gh) (lv : Nat) : Nat → Nat → Prop := fun a k => (a = (gB g + 195) ∧ k = 28) ∨ (a = (gB g + 209) ∧ 32 * lv ≤ k)
theorem LX.fr {g : Gh} {M M' : Mem} {lv lv' N : Nat} {a : AnT} {nd : NdT} {l : Nat} (h : LX g M lv N a nd) (f : Fr (PLd g l) nQ M M') (h28 : mI M' (gB g + 195) 28 = nI lv') : LX g M' lv' N a nd := by
  obtain ⟨h1, h2, h3, h4, h5, h6⟩ := h
  refine ⟨f.lay h1, h28, ⟨by rw [f.1 _ _ (by unfold PLd; omega)]; exact h3.1, fun j hj => ⟨by rw [f.1 _ _ (by unfold PLd; omega)]; exact (h3.2 j hj).1, by rw [f.2.1 _ _ (fun hh => hh)]; exact (h3.2 j hj).2⟩⟩, h4, h5, ?_⟩
  rw [← h6]
  have e : ∀ i, 197 ≤ i → i ≤ 199 → mI M' (gB g + (i)) = mI M (gB g + (i)) := fun i i1 i2 => funext fun k => f.1 _ _ (by unfold PLd; omega)
  have e2 : ∀ i, mJ M' (gB g + (i)) = mJ M (gB g + (i)) := fun i => funext fun k => f.2.1 _ _ (fun hh => hh)
  unfold ndM
  rw [e 197 (by decide) (by decide), e 198 (by decide) (by decide), e 199 (by decide) (by decide), e2, e2]
theorem LX.nd {g : Gh} {M : Mem} {lv N : Nat} {a : AnT} {nd : NdT} (h : LX g M lv N a nd) (n : Nat) : mI M (gB g + 197) n = nd.1 n ∧ mI M (gB g + 198) n = nd.2.1 n ∧ mI M (gB g + 199) n = nd.2.2.1 n ∧ mJ M (gB g + 200) n = nd.2.2.2.1 n ∧ mJ M (gB g + 201) n = nd.2.2.2.2 n := by
  rw [← h.2.2.2.2.2]; exact ⟨rfl, rfl, rfl, rfl, rfl⟩
/-- a matching of node n that is right: from any set -/
def LdOK (g : Gh) (w : Gh → Mem → Nat → Int32 → Int32 → (Int32 → Mem → Prop) → Prop) (lv N : Nat) (a : AnT) (nd : NdT) (n : Nat) (R : Nat → Nat → Prop) : Prop := ∀ (M : Mem) (S : Int32) (post : Int32 → Mem → Prop), LX g M lv N a nd → (∀ k, bt S k = true → k ≤ N) → (∀ v M', Fr (PLd g lv) nQ M M' → LX g M' lv N a nd → (∀ j, j < 32 → (bt v j = true ↔ ∃ k, bt S k = true ∧ R k j)) → post v M') → w g M (gB g + 195) (nI n) S post
theorem ldFr {g : Gh} {lv : Nat} {A B C : Mem} (h : Fr (PLd g lv) nQ A B) (k : Fr (PLd g lv) nQ B C) : Fr (PLd g lv) nQ A C := h.tr k
theorem ld_leaf {g : Gh} {w wA : Gh → Mem → Nat → Int32 → Int32 → (Int32 → Mem → Prop) → Prop} {lv N : Nat} {a : AnT} {nd : NdT} {n : Nat} (hn : n < 25200) {p : Lf} (hp : okL p) (he : encL nd n p) : LdOK g (wp_X12_leads w wA) lv N a nd n (rL N a p) := by
  intro M S post h hS0 hq
  have h1 := h.1
  have cn : Int32.toNatClampNeg (nI n) = n := nI_cl n (by omega)
  have hin : ∀ {b : Nat}, mN M b = 25200 → vp_in (nI n) (mN M b) := fun e => by rw [e]; exact pk_in n 25200 hn
  have hnd := h.nd n
  have hN := h.2.2.2.1
  have kd : ∃ i, (i = 2 ∨ i = 3 ∨ i = 4) ∧ nd.1 n = nI i ∧ (i = 2 ↔ p.1 = true) := by
    have := he.1
    split at this
    · next hp1 => exact ⟨2, Or.inl rfl, this, by simp [hp1]⟩
    · next hp1 =>
      rcases this with h3 | h3
      · exact ⟨3, by omega, h3, by simp [hp1]⟩
      · exact ⟨4, by omega, h3, by simp [hp1]⟩
  obtain ⟨i, hi, ek, ei⟩ := kd
  have loop : ∃ k : Nat, lfp (fun bk z => bd_X12_leads_172 w wA g M (gB g + 195) (nI n) S post bk z.1 z.2.1 z.2.2) k (0, 0, M) := by
    refine lfp_up (fun t z => ∃ v, z = (v, nI t, M) ∧ ∀ j, j < 32 → (bt v j = true ↔ ∃ k, k < t ∧ bt S k = true ∧ rL N a p k j)) N ?_ ?_ 0 _ (by omega) ⟨0, rfl, fun j hj => by rw [bt_0]; simp⟩
    · rintro bk z ⟨v, rfl, hv⟩
      show bd_X12_leads_172 w wA g M (gB g + 195) (nI n) S post bk v (nI N) M
      unfold bd_X12_leads_172
      rw [h.2.2.1.1]
      refine pk_le N N (fun _ => hq v M Fr.rf h (fun j hj => ?_)) (fun hx => by omega)
      rw [hv j hj]
      constructor
      · rintro ⟨k, _, h2⟩; exact ⟨k, h2⟩
      · rintro ⟨k, h2, h3⟩; exact ⟨k, h3.1, h2, h3⟩
    · rintro bk t z ht ⟨v, rfl, hv⟩ hb
      show bd_X12_leads_172 w wA g M (gB g + 195) (nI n) S post bk v (nI t) M
      unfold bd_X12_leads_172
      rw [h.2.2.1.1, nI_1]
      have ct : Int32.toNatClampNeg (nI t) = t := nI_cl t (by omega)
      have nx : ∀ v', (∀ j, j < 32 → (bt v' j = true ↔ (bt v j = true ∨ (bt S t = true ∧ rL N a p t j)))) → bk (v', nI (t + 1), M) := by
        intro v' hv'
        refine hb _ ⟨v', rfl, fun j hj => ?_⟩
        rw [hv' j hj, hv j hj]
        constructor
        · rintro (⟨k, h1, h2⟩ | h2)
          · exact ⟨k, by omega, h2⟩
          · exact ⟨t, by omega, h2⟩
        · rintro ⟨k, h1, h2⟩
          by_cases hkt : k = t
          · subst hkt; exact Or.inr h2
          · exact Or.inl ⟨k, by omega, h2⟩
      have same : ¬ (bt S t = true ∧ a.1 t = p.1 ∧ p.2.1 ≤ a.2 t ∧ a.2 t ≤ p.2.2) → bk (v, nI (t + 1), M) := by
        intro hno
        refine nx v (fun j hj => ⟨Or.inl, fun hx => hx.elim id (fun hx => absurd ⟨hx.1, hx.2.2.2⟩ hno)⟩)
      have hat := h.2.2.1.2 t ht
      have hok := h.2.2.2.2.1 t ht
      have hl := he.2.1
      have hh := he.2.2
      have hp1 := hp.1
      have hp2 := hp.2.1
      refine pk_le N t (fun hx => by omega) (fun _ => ?_)
      rw [bt_test S (by omega)]
      refine ⟨fun hS => ⟨_, lr_195_24 h1, lk_207 h1, by rw [ln_207 h1]; exact pk_in t 20 (by omega), _, lr_195_11 h1, lk_197 h1, hin (ln_197 h1), ?_⟩, fun hS => same (fun hx => hS hx.1)⟩
      rw [cn, ct, hnd.1, hat.1, ek]
      have k213 : ∀ s1 : Bool, s1 = p.1 → lb_X12_leads_213 w wA g M (gB g + 195) (nI n) S post bk v (nI t) (bI (a.1 t)) (bI s1) M := by
        rintro s1 rfl
        unfold lb_X12_leads_213
        rw [bI_inj, nI_1]
        refine ⟨fun hw => ⟨_, lr_195_25 h1, lk_208 h1, by rw [ln_208 h1]; exact pk_in t 20 (by omega), _, lr_195_14 h1, lk_200 h1, hin (ln_200 h1), ?_⟩, fun hw => same (fun hx => hw hx.2.1)⟩
        rw [cn, ct, hat.2, hnd.2.2.2.1, hl, lg_cmp_lt, pk_lLT (by omega) (by omega)]
        refine ⟨fun hx => same (fun hy => by omega), fun hx => ⟨_, lr_195_15 h1, lk_201 h1, hin (ln_201 h1), ?_⟩⟩
        (try rw [cn])
        rw [hnd.2.2.2.2, hh, lg_cmp_gt, pk_lLT (by omega) (by omega)]
        refine ⟨fun hy => same (fun hz => by omega), fun hy => nx _ (fun j hj => ?_)⟩
        rw [bt_or, bt_two t (by omega) j hj, Bool.or_eq_true, decide_eq_true_eq]
        constructor
        · rintro (hz | hz)
          · exact Or.inl hz
          · exact Or.inr ⟨hS, ht, hz, hw, by omega, by omega⟩
        · rintro (hz | hz)
          · exact Or.inl hz
          · exact Or.inr hz.2.2.1
      refine pk_eq i 2 (fun h2 => ?_) (fun h2 => ?_)
      · have := k213 true (by rw [ei.mp h2]); exact this
      · have := k213 false (by cases hpp : p.1 with | false => rfl | true => exact absurd (ei.mpr hpp) h2); exact this
  refine ⟨lk_195 h1, _, lr_195_11 h1, lk_197 h1, hin (ln_197 h1), ?_⟩
  rw [cn, hnd.1]
  refine sw9 i (by omega) ek ?_
  rcases hi with rfl | rfl | rfl <;> exact loop
theorem ld_row {α : Type} {g : Gh} {w wA : Gh → Mem → Nat → Int32 → Int32 → (Int32 → Mem → Prop) → Prop} {lv N : Nat} {a : AnT} {nd : NdT} {lo hi : Nat} (hhi : hi ≤ 25200) {P : Nat → α → Prop} {R : α → Nat → Nat → Prop} (hR : ∀ p k j, k ≤ N → R p k j → j ≤ N) (hw : ∀ n p, lo ≤ n → n < hi → P n p → LdOK g w lv N a nd n (R p)) {n : Nat} (hn : n < 25200) {r : List α} (he : encR lo hi nd P n r) : LdOK g (wp_X12_leads w wA) lv N a nd n (rR R r) := by
  intro M S post h hS0 hq
  have h1 := h.1
  have cn : Int32.toNatClampNeg (nI n) = n := nI_cl n (by omega)
  have hin : ∀ {b : Nat}, mN M b = 25200 → vp_in (nI n) (mN M b) := fun e => by rw [e]; exact pk_in n 25200 hn
  have hnd := h.nd n
  refine ⟨lk_195 h1, _, lr_195_11 h1, lk_197 h1, hin (ln_197 h1), ?_⟩
  rw [cn, hnd.1]
  refine sw9 1 (by decide) he.1 ?_
  refine ⟨_, lr_195_12 h1, lk_198 h1, hin (ln_198 h1), ?_⟩
  (try rw [cn])
  rw [hnd.2.1]
  have hN := h.2.2.2.1
  refine lfp_ix (fun k z => ∃ (l : List α) (v x : Int32) (M' : Mem), k = l.length ∧ z = (v, x, M') ∧ Fr (PLd g lv) nQ M M' ∧ LX g M' lv N a nd ∧ chn lo hi nd.2.2.1 P x l ∧ (∀ k, bt v k = true → k ≤ N) ∧ (∀ j, j < 32 → ((∃ k, bt S k = true ∧ rR R r k j) ↔ ∃ i, bt v i = true ∧ rR R l i j))) ?_ _ _ ⟨r, S, nd.2.1 n, M, rfl, rfl, Fr.rf, h, he.2, hS0, fun j _ => Iff.rfl⟩
  rintro k bk z ⟨l, v, x, M', rfl, rfl, f, hx, hc, hvN, hv⟩ hb
  show bd_X12_leads_104 w wA g M (gB g + 195) (nI n) S post bk v x M'
  unfold bd_X12_leads_104
  have fin : (∀ j, j < 32 → ((∃ i, bt v i = true ∧ rR R l i j) ↔ bt v j = true)) → post v M' := fun hh => hq v M' f hx (fun j hj => by rw [← hh j hj]; exact (hv j hj).symm)
  cases l with
  | nil =>
    have hc : x = -1 := hc
    subst hc
    refine ⟨fun _ => fin (fun j hj => ?_), fun hy => absurd rfl hy⟩
    constructor
    · rintro ⟨i, h1, h2⟩
      have h2 : i = j := h2
      rw [← h2]; exact h1
    · intro h1; exact ⟨j, h1, rfl⟩
  | cons p l =>
    obtain ⟨q, q1, q2, rfl, q3, q4⟩ := hc
    refine ⟨fun hy => absurd (show nI q < 0 by rw [hy]; decide) (nI_pos (by omega)), fun _ => ⟨fun h0 => fin (fun j hj => ?_), fun _ => hw q p q1 q2 q3 M' v _ hx hvN (fun v2 M2 f2 x2 hv2 => ⟨_, lr_195_13 x2.1, lk_199 h1, by rw [ln_199 h1]; exact pk_in q 25200 (by omega), ?_⟩)⟩⟩
    · rw [h0]
      constructor
      · rintro ⟨i, h1, _⟩; rw [bt_0] at h1; cases h1
      · intro h1; rw [bt_0] at h1; cases h1
    · rw [nI_cl q (by omega), (x2.nd q).2.2.1]
      have hv2N : ∀ k, bt v2 k = true → k ≤ N := by
        intro k hk
        rcases Nat.lt_or_ge k 32 with h32 | h32
        · obtain ⟨i, h4, h5⟩ := (hv2 k h32).mp hk
          exact hR p i k (hvN i h4) h5
        · rw [bt_ge _ h32] at hk; cases hk
      refine hb l.length _ (by simp) ⟨l, v2, nd.2.2.1 q, M2, rfl, rfl, f.tr f2, x2, q4, hv2N, fun j hj => ?_⟩
      rw [hv j hj]
      constructor
      · rintro ⟨i, h1, i2, h2, h3⟩
        have := hR p i i2 (hvN i h1) h2
        exact ⟨i2, (hv2 i2 (by omega)).mpr ⟨i, h1, h2⟩, h3⟩
      · rintro ⟨i2, h1, h3⟩
        have := hv2N i2 h1
        obtain ⟨i, h4, h5⟩ := (hv2 i2 (by omega)).mp h1
        exact ⟨i, h4, i2, h5, h3⟩
theorem ld_form {α : Type} {g : Gh} {w wA : Gh → Mem → Nat → Int32 → Int32 → (Int32 → Mem → Prop) → Prop} {lv N : Nat} {a : AnT} {nd : NdT} {lo hi : Nat} (hhi : hi ≤ 25200) {P : Nat → List α → Prop} {R : List α → Nat → Nat → Prop} (hw : ∀ n p, lo ≤ n → n < hi → P n p → LdOK g w lv N a nd n (R p)) {n : Nat} (hn : n < 25200) {F : List (List α)} (hk0 : nd.1 n = 0) (hc0 : chn lo hi nd.2.2.1 P (nd.2.1 n) F) : LdOK g (wp_X12_leads w wA) lv N a nd n (fun k j => ∃ r ∈ F, R r k j) := by
  intro M S post h hS0 hq
  have h1 := h.1
  have cn : Int32.toNatClampNeg (nI n) = n := nI_cl n (by omega)
  have hin : ∀ {b : Nat}, mN M b = 25200 → vp_in (nI n) (mN M b) := fun e => by rw [e]; exact pk_in n 25200 hn
  have hnd := h.nd n
  refine ⟨lk_195 h1, _, lr_195_11 h1, lk_197 h1, hin (ln_197 h1), ?_⟩
  rw [cn, hnd.1]
  refine sw9 0 (by decide) hk0 ?_
  refine ⟨_, lr_195_12 h1, lk_198 h1, hin (ln_198 h1), ?_⟩
  (try rw [cn])
  rw [hnd.2.1]
  refine lfp_ix (fun k z => ∃ (l : List (List α)) (v x : Int32) (M' : Mem), k = l.length ∧ z = (v, x, M') ∧ Fr (PLd g lv) nQ M M' ∧ LX g M' lv N a nd ∧ chn lo hi nd.2.2.1 P x l ∧ (∀ j, j < 32 → ((∃ k, bt S k = true ∧ ∃ r ∈ F, R r k j) ↔ (bt v j = true ∨ ∃ k, bt S k = true ∧ ∃ r ∈ l, R r k j)))) ?_ _ _ ⟨F, 0, nd.2.1 n, M, rfl, rfl, Fr.rf, h, hc0, fun j _ => by rw [bt_0]; simp⟩
  rintro k bk z ⟨l, v, x, M', rfl, rfl, f, hx, hc, hv⟩ hb
  show bd_X12_leads_64 w wA g M (gB g + 195) (nI n) S post bk v x M'
  unfold bd_X12_leads_64
  cases l with
  | nil =>
    have hc : x = -1 := hc
    subst hc
    refine ⟨fun _ => hq v M' f hx (fun j hj => ?_), fun hy => absurd rfl hy⟩
    rw [hv j hj]
    simp
  | cons p l =>
    obtain ⟨q, q1, q2, rfl, q3, q4⟩ := hc
    refine ⟨fun hy => absurd (show nI q < 0 by rw [hy]; decide) (nI_pos (by omega)), fun _ => hw q p q1 q2 q3 M' S _ hx hS0 (fun v2 M2 f2 x2 hv2 => ⟨_, lr_195_13 x2.1, lk_199 h1, by rw [ln_199 h1]; exact pk_in q 25200 (by omega), ?_⟩)⟩
    rw [nI_cl q (by omega), (x2.nd q).2.2.1]
    refine hb l.length _ (by simp) ⟨l, v ||| v2, nd.2.2.1 q, M2, rfl, rfl, f.tr f2, x2, q4, fun j hj => ?_⟩
    rw [hv j hj, bt_or, Bool.or_eq_true, hv2 j hj]
    constructor
    · rintro (h2 | ⟨k, h2, r, h3, h4⟩)
      · exact Or.inl (Or.inl h2)
      · rcases List.mem_cons.mp h3 with rfl | h3
        · exact Or.inl (Or.inr ⟨k, h2, h4⟩)
        · exact Or.inr ⟨k, h2, r, h3, h4⟩
    · rintro ((h2 | ⟨k, h2, h4⟩) | ⟨k, h2, r, h3, h4⟩)
      · exact Or.inl h2
      · exact Or.inr ⟨k, h2, p, List.mem_cons_self, h4⟩
      · exact Or.inr ⟨k, h2, r, List.mem_cons_of_mem _ h3, h4⟩
