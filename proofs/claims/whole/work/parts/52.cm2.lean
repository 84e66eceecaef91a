/-! PURE: the class's tokens in a form, and forms in whatever order -/
theorem lN_ti {v : Nat} (h : v < 2 ^ 60) : (lN v).toInt = (v : Int) := by
  unfold lN
  rw [Int64.toInt_ofNat_of_lt (by omega)]
theorem lN_tn {v : Nat} (h : v < 2 ^ 60) : (-(lN v)).toInt = -(v : Int) := by
  rw [Int64.toInt_neg, lN_ti h, Int.bmod_eq_of_le (by omega) (by omega)]
def sgT (b : Bool) (v : Nat) : Int64 := if b = true then -(lN v) else lN v
theorem sgT_ti {b : Bool} {v : Nat} (h : v < 2 ^ 60) : (sgT b v).toInt = if b = true then -(v : Int) else (v : Int) := by
  unfold sgT
  split
  · exact lN_tn h
  · exact lN_ti h
/-- a token lies between a leaf's bounds just when the leaf takes it -/
theorem lf_btw {p : Lf} (hp : okL p) {b : Bool} {v : Nat} (hv : v < 2 ^ 60) (hb : b = true → 0 < v) : (¬ sgT b v < (lfI p).2.1 ∧ ¬ (lfI p).2.2 < sgT b v) ↔ (b = p.1 ∧ p.2.1 ≤ v ∧ v ≤ p.2.2) := by
  obtain ⟨h1, h2, h3⟩ := hp
  have e : (lfI p).2.1 = sgT p.1 p.2.1 ∧ (lfI p).2.2 = sgT p.1 p.2.2 := by
    unfold lfI sgT
    cases p.1 <;> exact ⟨rfl, rfl⟩
  rw [e.1, e.2, Int64.lt_iff_toInt_lt, Int64.lt_iff_toInt_lt, sgT_ti hv, sgT_ti (by omega), sgT_ti h2]
  revert h3 hb
  cases p.1 <;> cases b <;> simp <;> intros <;> omega
theorem sp_placesFrom {g : Gh} {M : Mem} (h1 : Lay g M) {N : Nat} (hN : N ≤ 20) {a : AnT} (ha : AC g M N a) {lo hi : Int64} {post : Int32 → Mem → Prop} (hq : ∀ v, (∀ j, j < 32 → (bt v j = true ↔ (j < N ∧ ¬ sgT (a.1 j) (a.2 j) < lo ∧ ¬ hi < sgT (a.1 j) (a.2 j)))) → post v M) : wp_X7_placesFrom g M (gB g + 9) lo hi post := by
  refine ⟨lk_9 h1, ?_⟩
  refine lfp_up (fun t z => ∃ v, z = (v, nI t, M) ∧ ∀ j, j < 32 → (bt v j = true ↔ (j < t ∧ ¬ sgT (a.1 j) (a.2 j) < lo ∧ ¬ hi < sgT (a.1 j) (a.2 j)))) N ?_ ?_ 0 _ (by omega) ⟨0, rfl, fun j hj => by rw [bt_0]; simp⟩
  · rintro bk z ⟨v, rfl, hv⟩
    show bd_X7_placesFrom_6 g M (gB g + 9) lo hi post bk v (nI N) M
    unfold bd_X7_placesFrom_6
    rw [ha.1]
    exact pk_le N N (fun _ => hq v hv) (fun hx => by omega)
  · rintro bk t z ht ⟨v, rfl, hv⟩ hb
    show bd_X7_placesFrom_6 g M (gB g + 9) lo hi post bk v (nI t) M
    unfold bd_X7_placesFrom_6
    rw [ha.1]
    refine pk_le N t (fun hx => by omega) (fun _ => ⟨_, lr_9_0 h1, lk_10 h1, by rw [ln_10 h1]; exact pk_in t 20 (by omega), ?_⟩)
    rw [nI_cl t (by omega), lg_cmp_gt, lg_cmp_gt, nI_1, ha.2 t ht]
    show (sgT (a.1 t) (a.2 t) < lo → _) ∧ (¬ sgT (a.1 t) (a.2 t) < lo → (hi < sgT (a.1 t) (a.2 t) → _) ∧ (¬ hi < sgT (a.1 t) (a.2 t) → _))
    have no : (sgT (a.1 t) (a.2 t) < lo ∨ hi < sgT (a.1 t) (a.2 t)) → bk (v, nI (t + 1), M) := by
      intro hn
      refine hb _ ⟨v, rfl, fun j hj => ?_⟩
      rw [hv j hj]
      constructor
      · rintro ⟨h2, h3⟩; exact ⟨by omega, h3⟩
      · rintro ⟨h2, h3⟩
        refine ⟨?_, h3⟩
        rcases (show j < t ∨ j = t by omega) with hx | rfl
        · exact hx
        · exact absurd hn (fun hn => hn.elim h3.1 h3.2)
    refine ⟨fun hx => no (Or.inl hx), fun h2 => ⟨fun hx => no (Or.inr hx), fun h3 => ?_⟩⟩
    refine hb _ ⟨_, rfl, fun j hj => ?_⟩
    rw [bt_or, Bool.or_eq_true, hv j hj, bt_one t (by omega) j hj, decide_eq_true_eq]
    constructor
    · rintro (⟨h4, h5⟩ | rfl)
      · exact ⟨by omega, h5⟩
      · exact ⟨by omega, h2, h3⟩
    · rintro ⟨h4, h5⟩
      rcases (show j < t ∨ j = t by omega) with hx | hx
      · exact Or.inl ⟨hx, h5⟩
      · exact Or.inr hx
theorem sp_leafC {g : Gh} {M : Mem} (h1 : Lay g M) {e : Nat} (he : e < 7) {N : Nat} (hN : N ≤ 20) {a : AnT} (ha : AC g M N a) (hok : okN N a) {p : Lf} (hp : okL p) {A : Nat → Nat → Prop} (hA : RowIs g M (13 + 5 * e) N A) {post : Mem → Prop} (hq : ∀ M', Fr (fun a _ => a = (gB g + (13 + 5 * e))) nQ M M' → RowIs g M' (13 + 5 * e) N (fun s j => ∃ i, A s i ∧ rL N a p i j) → post M') : wp_X7_placesFrom g M (gB g + 9) (lfI p).2.1 (lfI p).2.2 (fun v M' => wp_X3_stepToken g M' (gB g + (12 + 5 * e)) v post) := by
  refine sp_placesFrom h1 hN ha (fun v hv => ?_)
  have hf := lk_fr h1 he
  refine sp_X3_stepToken g M _ _ v post hf.1.1 hf.2.2.2.1 hf.1.2.1 hf.2.1.1 (hq _ ⟨fun b k hb => by rw [mI_wI_n _ _ _ hb], fun _ _ _ => rfl, rfl⟩ (fun s hs j hj => ?_))
  rw [mI_wI_s, if_pos (by omega), bt_shl _ hj, Bool.and_eq_true, decide_eq_true_eq, bt_and, Bool.and_eq_true, hA s hs (j - 1) (by omega), hv (j - 1) (by omega)]
  constructor
  · rintro ⟨h2, h3, h4, h5⟩
    have := (lf_btw hp (hok (j - 1) h4).1 (hok (j - 1) h4).2).mp h5
    exact ⟨j - 1, h3, h4, by omega, this⟩
  · rintro ⟨i, h3, h4, h5, h6⟩
    obtain rfl : i = j - 1 := by omega
    exact ⟨by omega, h3, h4, (lf_btw hp (hok _ h4).1 (hok _ h4).2).mpr h6⟩
theorem sp_fill32 {g : Gh} {M : Mem} (h1 : Lay g M) {e : Nat} (he : e < 7) {post : Mem → Prop} (hq : ∀ M', Fr (fun a _ => a = (gB g + (16 + 5 * e))) nQ M M' → (∀ t, t < 32 → mI M' (gB g + (16 + 5 * e)) t = 0) → post M') : wp_J7_fill_53178 g M (gB g + (16 + 5 * e)) 0 post := by
  have hf := lk_fr h1 he
  refine ⟨hf.1.2.2.2.2, ?_⟩
  rw [hf.2.1.2.2.2]
  refine lfp_up (fun i z => ∃ M', z = (nI i, nI 32, M') ∧ Fr (fun a _ => a = (gB g + (16 + 5 * e))) nQ M M' ∧ ∀ t, t < i → mI M' (gB g + (16 + 5 * e)) t = 0) 32 ?_ ?_ 0 _ (by omega) ⟨M, rfl, Fr.rf, fun t ht => by omega⟩
  · rintro bk z ⟨M', rfl, f, e⟩
    exact pk_le 32 32 (fun _ => hq M' f e) (fun hx => by omega)
  · rintro bk i z hi ⟨M', rfl, f, ev⟩ hb
    show bd_J7_fill_53178_5 g M (gB g + (16 + 5 * e)) 0 post bk (nI i) (nI 32) M'
    unfold bd_J7_fill_53178_5
    refine pk_le 32 i (fun hx => by omega) (fun _ => ⟨hf.1.2.2.2.2, by rw [hf.2.1.2.2.2]; exact pk_in i 32 hi, ?_⟩)
    rintro M4 rfl
    rw [nI_1, nI_cl i (by omega)]
    refine hb _ ⟨_, rfl, f.uI rfl, fun t ht => ?_⟩
    rw [s_II, if_pos rfl]
    by_cases hti : t = i
    · rw [if_pos hti]
    · rw [if_neg hti]; exact ev t (by omega)
