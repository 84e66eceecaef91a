/-! PURE: the reference reads a law -/
def ML (g : Gh) (M : Mem) (n : Nat) (bs : Nat → Nat) (T : Tk) : Prop := Lay g M ∧ TM g M (gB g + 195) (gB g + 196) n bs ∧ IsTk sgW bs n T ∧ MT g M T
theorem ML.fr {g : Gh} {M M' : Mem} {n : Nat} {bs : Nat → Nat} {T : Tk} {P Q : Nat → Nat → Prop} (h : ML g M n bs T) (f : Fr P Q M M') (hp : ∀ a k, P a k → ¬ (a = (gB g + 195) ∧ 3 ≤ k ∧ k ≤ 7) ∧ ¬ a = (gB g + 196)) (hq : ∀ a k, Q a k → ¬ (a = (gB g + 195) ∧ k = 8)) : ML g M' n bs T := ⟨f.lay h.1, h.2.1.fr f (fun a k hh => by have := hp a k hh; omega), h.2.2.1, h.2.2.2.fr f (fun a k hh => by have := hp a k hh; omega) hq⟩
theorem sp_goW {g : Gh} {M : Mem} {n : Nat} {bs : Nat → Nat} {T : Tk} (h : ML g M n bs T) (h3 : T.1 ≠ 3) {post : Mem → Prop} (hq : ∀ M', Fr (PTm g) (QTm g) M M' → ML g M' n bs (nxW bs n T) → post M') : wp_X12_go g M (gB g + 195) 0 post := by
  have hb := h.2.1.2.2.2.2.2.2.2
  exact sp_goM h.2.1 (Or.inr ⟨rfl, rfl⟩) (h.2.2.2.2.2.1 h3) (tc_lt hb h.2.2.1).2.2 (fun M' f t c => hq M' f ⟨f.lay h.1, t, isTk_nx hb h.2.2.1, c⟩)
def PBd (g : Gh) : Nat → Nat → Prop := fun a k => a = (gB g + 195) ∧ (k = 9 ∨ k = 10)
/-- what a fault is told as -/
def fk (T : Tk) (k : Nat) : Nat := if T.1 = 3 then 1 else k
theorem sp_bad {g : Gh} {M : Mem} {T : Tk} (h1 : Lay g M) (hm : MT g M T) (k : Nat) {post : Int32 → Mem → Prop} (hq : ∀ M', Fr (PBd g) nQ M M' → mI M' (gB g + 195) 9 = nI (fk T k) → mI M' (gB g + 195) 10 = nI T.2.1 → post 0 M') : wp_X12_bad g M (gB g + 195) (nI k) post := by
  have k5 := (km_eq (c := T.1)).2.2.2.2.2
  refine ⟨lk_195 h1, ?_⟩
  rw [hm.1]
  have go : ∀ v, v = nI (fk T k) → ∀ M6, M6 = uI M (gB g + 195) 9 v → ∀ M8, M8 = uI M6 (gB g + 195) 10 (mI M6 (gB g + 195) 5) → post 0 M8 := by
    rintro v rfl M6 rfl M8 rfl
    refine hq _ ((Fr.rf.uI ⟨rfl, Or.inl rfl⟩).uI ⟨rfl, Or.inr rfl⟩) ?_ ?_
    · rw [s_II, if_pos rfl, if_neg (by decide), s_II, if_pos rfl, if_pos rfl]
    · rw [s_II, if_pos rfl, if_pos rfl, s_II, if_pos rfl, if_neg (by decide)]; exact hm.2.1
  refine pk_eq (km T.1) 1 (fun h3 => go 1 ?_) (fun h3 => go (nI k) ?_)
  · unfold fk; rw [if_pos (km_eq.2.2.2.1.mp h3)]; rfl
  · unfold fk; rw [if_neg (fun hx => h3 (km_eq.2.2.2.1.mpr hx))]
theorem sp_sign {g : Gh} {M : Mem} {T : Tk} (h1 : Lay g M) (hm : MT g M T) (ht : T.1 < 256) (c : Nat) (hc : 3 < c) (hc2 : c < 256) {post : Int32 → Mem → Prop} (hq : post (bI (decide (T.1 = c))) M) : wp_X12_isSign g M (gB g + 195) (nI c) post := by
  have k5 := (km_eq (c := T.1)).2.2.2.2.2
  refine ⟨lk_195 h1, ?_⟩
  rw [hm.1]
  refine pk_eq (km T.1) 4 (fun h4 => ?_) (fun h4 => ?_)
  · have h4 := km_eq.2.2.2.2.1.mp h4
    rw [hm.2.2.2.1 h4]
    refine pk_eq T.1 c (fun he => ?_) (fun he => ?_)
    · rw [decide_eq_true he] at hq; exact hq
    · rw [decide_eq_false he] at hq; exact hq
  · have : ¬ T.1 = c := fun he => h4 (km_eq.2.2.2.2.1.mpr (by omega))
    rw [decide_eq_false this] at hq; exact hq
theorem isK_ne3 {i : Nat} {T : Tk} (h : isK i T = true) : T.1 ≠ 3 := by
  simp only [isK, Bool.and_eq_true, decide_eq_true_eq] at h
  omega
/-- a number: told, or a fault -/
theorem sp_num {g : Gh} {M : Mem} {n : Nat} {bs : Nat → Nat} {T : Tk} (h : ML g M n bs T) (lo hi : Nat) (hlo : lo < 100) (hhi : hi < 100) {post : Int32 → Mem → Prop} (hq : ∀ M', pnum T lo hi = 0 → Fr (PTm g) (QTm g) M M' → ML g M' n bs (nxW bs n T) → post (nI T.2.2.1) M') (hf : ∀ M', pnum T lo hi ≠ 0 → Fr (PBd g) nQ M M' → mI M' (gB g + 195) 9 = nI (pnum T lo hi) → mI M' (gB g + 195) 10 = nI T.2.1 → post (-1) M') : wp_X12_number g M (gB g + 195) (nI lo) (nI hi) post := by
  have k5 := (km_eq (c := T.1)).2.2.2.2.2
  have none_ : ∀ k, pnum T lo hi = fk T k → pnum T lo hi ≠ 0 → wp_X12_none g M (gB g + 195) (nI k) (fun v M4 => post v M4) := fun k e hne => ⟨lk_195 h.1, sp_bad h.1 h.2.2.2 k (fun M' f e9 e10 => hf M' hne f (by rw [e]; exact e9) e10)⟩
  refine ⟨lk_195 h.1, ?_⟩
  rw [h.2.2.2.1, nI_l (by omega), nI_l (by omega), lg_cmp_lt, lg_cmp_le]
  refine pk_eq (km T.1) 3 (fun h3 => ?_) (fun h3 => ?_)
  · have h2 := km_eq.2.1.mp h3
    have hv := tk_num (Or.inr (Or.inl rfl)) h.2.2.1 h2
    have ev := h.2.2.2.2.2.2.2 (Or.inr h2)
    have ep : pnum T lo hi = if T.2.2.1 < lo ∨ hi < T.2.2.1 then 2 else 0 := by unfold pnum; rw [if_pos h2]
    rw [ev, lN_lt (by omega) (by omega), lN_le (by omega) (by omega), lN_i]
    have f2 : fk T 2 = 2 := by unfold fk; rw [if_neg (by omega)]
    refine ⟨fun hx => none_ 2 ?_ ?_, fun hx => ⟨fun hy => sp_goW h (by omega) (fun M' f c => hq M' ?_ f c), fun hy => none_ 2 ?_ ?_⟩⟩
    · rw [ep, if_pos (Or.inl hx), f2]
    · rw [ep, if_pos (Or.inl hx)]; decide
    · rw [ep, if_neg (by omega)]
    · rw [ep, if_pos (Or.inr (by omega)), f2]
    · rw [ep, if_pos (Or.inr (by omega))]; decide
  · have h2 : ¬ T.1 = 2 := fun hx => h3 (km_eq.2.1.mpr hx)
    have ep : pnum T lo hi = 1 := by unfold pnum; rw [if_neg h2]
    refine none_ 1 ?_ ?_
    · rw [ep]; unfold fk; split <;> rfl
    · rw [ep]; decide
def PLm (g : Gh) : Nat → Nat → Prop := fun a k => (a = (gB g + 195) ∧ ((4 ≤ k ∧ k ≤ 7) ∨ k = 9 ∨ k = 10)) ∨ ((gB g + 215) ≤ a ∧ a ≤ (gB g + 219))
/-- the first rounds, as the reference has them -/
def DM (g : Gh) (M : Mem) (k : Nat) (a : AcT) : Prop := ∀ j, j < k → mI M (gB g + 215) j = nI (a.1 j) ∧ mI M (gB g + 219) j = bI (a.2.1 j) ∧ mI M (gB g + 216) j = a.2.2.1 j ∧ mI M (gB g + 217) j = a.2.2.2.1 j ∧ mI M (gB g + 218) j = a.2.2.2.2 j
theorem DM.fr {g : Gh} {M M' : Mem} {k : Nat} {a : AcT} {P Q : Nat → Nat → Prop} (h : DM g M k a) (f : Fr P Q M M') (hp : ∀ b j, P b j → ¬ ((gB g + 215) ≤ b ∧ b ≤ (gB g + 219) ∧ j < k)) : DM g M' k a := by
  intro j hj
  rw [f.1 _ _ (fun hh => by have := hp _ _ hh; omega), f.1 _ _ (fun hh => by have := hp _ _ hh; omega), f.1 _ _ (fun hh => by have := hp _ _ hh; omega), f.1 _ _ (fun hh => by have := hp _ _ hh; omega), f.1 _ _ (fun hh => by have := hp _ _ hh; omega)]; exact h j hj
theorem ptm_l (g : Gh) : ∀ a k, PTm g a k → PLm g a k := by intro a k h; unfold PTm at h; unfold PLm; omega
theorem pbd_l (g : Gh) : ∀ a k, PBd g a k → PLm g a k := by intro a k h; unfold PBd at h; unfold PLm; omega
/-- the reference's end of a round that has a fault -/
def FM (g : Gh) (M : Mem) (R : RdT) : Prop := mI M (gB g + 195) 9 = nI R.1 ∧ mI M (gB g + 195) 10 = nI R.2.1.2.1
theorem sp_rBad {g : Gh} {M0 M : Mem} {n : Nat} {bs : Nat → Nat} {T : Tk} (h : ML g M0 n bs T) (l : Lay g M) (hm : MT g M T) (k : Nat) (hk : k = 1 ∨ T.1 ≠ 3) {post : Int32 → Mem → Prop} (hq : ∀ M', Fr (PBd g) nQ M M' → mI M' (gB g + 195) 9 = nI k → mI M' (gB g + 195) 10 = nI T.2.1 → post 0 M') : wp_X12_bad g M (gB g + 195) (nI k) (fun v3 M4 => (v3 = 0 ∨ v3 = 1) ∧ post v3 M4) := by
  refine sp_bad l hm k (fun M' f e9 e10 => ⟨Or.inl rfl, hq M' f ?_ e10⟩)
  rw [e9]
  rcases hk with rfl | hk
  · unfold fk; split <;> rfl
  · unfold fk; rw [if_neg hk]
theorem sp_292M {g : Gh} {M0 M : Mem} {n : Nat} {bs : Nat → Nat} {T : Tk} (h : ML g M n bs T) {k : Nat} (hk : k < 6) {sz : Nat} {bz : Bool} {rt ps wr : Int32} {post : Int32 → Mem → Prop} {bk2 : Int32 × Mem → Prop} (hy : ∀ M', (stF (nxW bs n) T sz bz rt ps wr).1 = 0 → Fr (PLm g) (QTm g) M M' → mI M' (gB g + 195) 9 = mI M (gB g + 195) 9 → ML g M' n bs (stF (nxW bs n) T sz bz rt ps wr).2.1 → (∀ i, 215 ≤ i → i ≤ 219 → ∀ j, mI M' (gB g + (i)) j = mI M (gB g + (i)) j) → ((stF (nxW bs n) T sz bz rt ps wr).2.1.1 = 0 → post 1 (uI M' (gB g + 195) 39 (nI (k + 1)))) ∧ ((stF (nxW bs n) T sz bz rt ps wr).2.1.1 ≠ 0 → bk2 (nI (k + 1), M'))) (hn : ∀ M', (stF (nxW bs n) T sz bz rt ps wr).1 ≠ 0 → Fr (PLm g) (QTm g) M M' → FM g M' (stF (nxW bs n) T sz bz rt ps wr) → post 0 M') : lb_X12_readLaw_292 g M0 (gB g + 195) post bk2 (nI k) M := by
  have hb := h.2.1.2.2.2.2.2.2.2
  have ht := tc_lt hb h.2.2.1
  refine sp_sign h.1 h.2.2.2 ht.1 59 (by decide) (by decide) ?_
  by_cases h59 : T.1 = 59
  · have e : stF (nxW bs n) T sz bz rt ps wr = (0, nxW bs n T, sz, bz, rt, ps, wr) := if_pos h59
    rw [e] at hy
    rw [decide_eq_true h59]
    refine ⟨fun hx => absurd hx (by decide), fun _ => sp_goW h (by omega) (fun M' f c => ?_)⟩
    have hy := hy M' rfl (f.mono (ptm_l g) (fun _ _ hh => hh)) (f.1 _ _ (by unfold PTm; omega)) c (fun i i1 i2 j => f.1 _ _ (by unfold PTm; omega))
    have k5 := (km_eq (c := (nxW bs n T).1)).2.2.2.2.2
    rw [c.2.2.2.1, nI_1]
    refine pk_eq (km (nxW bs n T).1) 0 (fun h0 => ?_) (fun h0 => hy.2 (fun hx => h0 (km_eq.2.2.1.mpr hx)))
    rintro M1 rfl
    exact hy.1 (km_eq.2.2.1.mp h0)
  · have e : stF (nxW bs n) T sz bz rt ps wr = (1, T, sz, bz, rt, ps, wr) := if_neg h59
    rw [e] at hn
    rw [decide_eq_false h59]
    refine ⟨fun _ => ?_, fun hx => absurd rfl hx⟩
    exact sp_rBad h h.1 h.2.2.2 1 (Or.inl rfl) (fun M' f e9 e10 => hn M' (show (1 : Nat) ≠ 0 by decide) (f.mono (pbd_l g) (fun a k hh => (hh : False).elim)) ⟨e9, e10⟩)
/-- a row of the reference: number into row i, place k -/
theorem sp_238M {g : Gh} {M0 M : Mem} {n : Nat} {bs : Nat → Nat} {T : Tk} (l0 : Lay g M0) (h : ML g M n bs T) {k : Nat} (hk : k < 6) {sz : Nat} {bz : Bool} {rt ps : Int32} {post : Int32 → Mem → Prop} {bk2 : Int32 × Mem → Prop} (hy : ∀ M', (stW (nxW bs n) T sz bz rt ps).1 = 0 → Fr (PLm g) (QTm g) M M' → mI M' (gB g + 195) 9 = mI M (gB g + 195) 9 → ML g M' n bs (stW (nxW bs n) T sz bz rt ps).2.1 → (∀ i, 215 ≤ i → i ≤ 219 → ∀ j, ¬ (i = 218 ∧ j = k) → mI M' (gB g + (i)) j = mI M (gB g + (i)) j) → mI M' (gB g + 218) k = (stW (nxW bs n) T sz bz rt ps).2.2.2.2.2.2 → ((stW (nxW bs n) T sz bz rt ps).2.1.1 = 0 → post 1 (uI M' (gB g + 195) 39 (nI (k + 1)))) ∧ ((stW (nxW bs n) T sz bz rt ps).2.1.1 ≠ 0 → bk2 (nI (k + 1), M'))) (hn : ∀ M', (stW (nxW bs n) T sz bz rt ps).1 ≠ 0 → Fr (PLm g) (QTm g) M M' → FM g M' (stW (nxW bs n) T sz bz rt ps) → post 0 M') : lb_X12_readLaw_238 g M0 (gB g + 195) post bk2 (nI k) M := by
  have ck : Int32.toNatClampNeg (nI k) = k := nI_cl k (by omega)
  have hb := h.2.1.2.2.2.2.2.2.2
  refine ⟨_, lr_195_37 h.1, lk_218 l0, by rw [ln_218 l0]; exact pk_in k 6 hk, ?_⟩
  rintro M16 rfl
  rw [ck]
  have f1 : Fr (fun a j => a = (gB g + 218) ∧ j = k) nQ M (uI M (gB g + 218) k 0) := Fr.rf.uI ⟨rfl, rfl⟩
  have g1 : Fr (PLm g) (QTm g) M (uI M (gB g + 218) k 0) := f1.mono (fun a j hh => by unfold PLm; omega) (fun a k hh => (hh : False).elim)
  have c1 : ML g (uI M (gB g + 218) k 0) n bs T := h.fr f1 (fun a k hh => by omega) (fun a k hh => (hh : False).elim)
  have z1 : mI (uI M (gB g + 218) k 0) (gB g + 218) k = 0 := by rw [s_II, if_pos rfl, if_pos rfl]
  generalize uI M (gB g + 218) k 0 = M1 at f1 g1 c1 z1 ⊢
  have tF : ∀ T' wr M2, ML g M2 n bs T' → Fr (PLm g) (QTm g) M M2 → mI M2 (gB g + 195) 9 = mI M (gB g + 195) 9 → (∀ i, 215 ≤ i → i ≤ 219 → ∀ j, ¬ (i = 218 ∧ j = k) → mI M2 (gB g + (i)) j = mI M (gB g + (i)) j) → mI M2 (gB g + 218) k = wr → stW (nxW bs n) T sz bz rt ps = stF (nxW bs n) T' sz bz rt ps wr → lb_X12_readLaw_292 g M0 (gB g + 195) post bk2 (nI k) M2 := by
    intro T' wr M2 c2 g2 n2 s2 w2 e
    rw [e] at hy hn
    refine sp_292M (sz := sz) (bz := bz) (rt := rt) (ps := ps) (wr := wr) c2 hk (fun M' h0 f n9 c s => hy M' h0 (g2.tr f) (n9.trans n2) c (fun i i1 i2 j hj => (s i i1 i2 j).trans (s2 i i1 i2 j hj)) ?_) (fun M' h0 f fm => hn M' h0 (g2.tr f) fm)
    rw [s 218 (by decide) (by decide), w2]
    unfold stF; split <;> rfl
  refine sp_kWrong c1.1 (Or.inr (Or.inl rfl)) c1.2.2.1 c1.2.2.2 ?_
  cases hK : isK 8 T with
  | false =>
    refine ⟨fun _ => tF T 0 M1 c1 g1 (f1.1 _ _ (by omega)) (fun i i1 i2 j hj => f1.1 _ _ (by omega)) z1 (by unfold stW; rw [hK]; rfl), fun hx => absurd rfl hx⟩
  | true =>
    have e : stW (nxW bs n) T sz bz rt ps = if pnum (nxW bs n T) 0 20 = 0 then stF (nxW bs n) (nxW bs n (nxW bs n T)) sz bz rt ps (nI (nxW bs n T).2.2.1) else (pnum (nxW bs n T) 0 20, nxW bs n T, sz, bz, rt, ps, 0) := by unfold stW; rw [if_pos hK]
    refine ⟨fun hx => absurd hx (by decide), fun _ => sp_goW c1 (isK_ne3 hK) (fun M2 f2 c2 => ⟨_, lr_195_37 c2.1, ?_⟩)⟩
    have g2 := g1.tr (f2.mono (ptm_l g) (fun _ _ hh => hh))
    refine sp_num c2 0 20 (by decide) (by decide) (fun M3 h0 f3 c3 => ⟨lk_218 l0, by rw [ln_218 l0]; exact pk_in k 6 hk, ?_⟩) (fun M3 h0 f3 e9 e10 => ⟨lk_218 l0, by rw [ln_218 l0]; exact pk_in k 6 hk, ?_⟩)
    · rintro M29 rfl
      have hv : (nxW bs n T).2.2.1 ≤ 20 := (pnum_0 h0).2.2
      try rw [ck]
      have g3 := g2.tr (f3.mono (ptm_l g) (fun _ _ hh => hh))
      have f4 : Fr (fun a j => a = (gB g + 218) ∧ j = k) nQ M3 (uI M3 (gB g + 218) k (nI (nxW bs n T).2.2.1)) := Fr.rf.uI ⟨rfl, rfl⟩
      have z4 : mI (uI M3 (gB g + 218) k (nI (nxW bs n T).2.2.1)) (gB g + 218) k = nI (nxW bs n T).2.2.1 := by rw [s_II, if_pos rfl, if_pos rfl]
      have c4 : ML g (uI M3 (gB g + 218) k (nI (nxW bs n T).2.2.1)) n bs (nxW bs n (nxW bs n T)) := c3.fr f4 (fun a k hh => by omega) (fun a k hh => (hh : False).elim)
      generalize uI M3 (gB g + 218) k (nI (nxW bs n T).2.2.1) = M4 at f4 z4 c4 ⊢
      refine ⟨_, lr_195_37 c4.1, lk_218 l0, by rw [ln_218 l0]; exact pk_in k 6 hk, ?_⟩
      rw [z4]
      refine ⟨fun hx => absurd (show nI (nxW bs n T).2.2.1 < 0 by rw [hx]; decide) (nI_pos (by omega)), fun _ => tF _ _ M4 c4 (g3.tr (f4.mono (fun a j hh => by unfold PLm; omega) (fun a k hh => (hh : False).elim))) (by rw [f4.1 _ _ (by omega), f3.1 _ _ (by unfold PTm; omega), f2.1 _ _ (by unfold PTm; omega), f1.1 _ _ (by omega)]) (fun i i1 i2 j hj => ?_) z4 (by rw [e, if_pos h0])⟩
      rw [f4.1 _ _ (by omega), f3.1 _ _ (by unfold PTm; omega), f2.1 _ _ (by unfold PTm; omega), f1.1 _ _ (by omega)]
    · rintro M29 rfl
      try rw [ck]
      refine ⟨_, by rw [show mR (uI M3 (gB g + 218) k (-1)) = mR M3 from rfl, f3.R]; exact lr_195_37 c2.1, lk_218 l0, by rw [ln_218 l0]; exact pk_in k 6 hk, ?_⟩
      rw [show mI (uI M3 (gB g + 218) k (-1)) (gB g + 218) k = -1 by rw [s_II, if_pos rfl, if_pos rfl]]
      refine ⟨fun _ => ?_, fun hx => absurd rfl hx⟩
      rw [e, if_neg h0] at hn
      refine hn _ h0 ((g2.tr (f3.mono (pbd_l g) (fun a k hh => (hh : False).elim))).uI (by unfold PLm; omega)) ⟨?_, ?_⟩
      · rw [s_II, if_neg (by omega)]; exact e9
      · rw [s_II, if_neg (by omega)]; exact e10
theorem sp_192M {g : Gh} {M0 M : Mem} {n : Nat} {bs : Nat → Nat} {T : Tk} (l0 : Lay g M0) (h : ML g M n bs T) {k : Nat} (hk : k < 6) {sz : Nat} {bz : Bool} {rt : Int32} (hbz : mI M (gB g + 219) k = bI bz) (h217 : mI M (gB g + 217) k = -1) {post : Int32 → Mem → Prop} {bk2 : Int32 × Mem → Prop} (hy : ∀ M', (stP (nxW bs n) T sz bz rt).1 = 0 → Fr (PLm g) (QTm g) M M' → mI M' (gB g + 195) 9 = mI M (gB g + 195) 9 → ML g M' n bs (stP (nxW bs n) T sz bz rt).2.1 → (∀ i, 215 ≤ i → i ≤ 219 → ∀ j, ¬ ((i = 217 ∨ i = 218) ∧ j = k) → mI M' (gB g + (i)) j = mI M (gB g + (i)) j) → mI M' (gB g + 217) k = (stP (nxW bs n) T sz bz rt).2.2.2.2.2.1 → mI M' (gB g + 218) k = (stP (nxW bs n) T sz bz rt).2.2.2.2.2.2 → ((stP (nxW bs n) T sz bz rt).2.1.1 = 0 → post 1 (uI M' (gB g + 195) 39 (nI (k + 1)))) ∧ ((stP (nxW bs n) T sz bz rt).2.1.1 ≠ 0 → bk2 (nI (k + 1), M'))) (hn : ∀ M', (stP (nxW bs n) T sz bz rt).1 ≠ 0 → Fr (PLm g) (QTm g) M M' → FM g M' (stP (nxW bs n) T sz bz rt) → post 0 M') : (mI M (gB g + 219) k = 0 → lb_X12_readLaw_192 g M0 (gB g + 195) post bk2 (nI k) M) ∧ (¬ mI M (gB g + 219) k = 0 → lb_X12_readLaw_238 g M0 (gB g + 195) post bk2 (nI k) M) := by
  have ck : Int32.toNatClampNeg (nI k) = k := nI_cl k (by omega)
  have tW : ∀ T' ps M2, ML g M2 n bs T' → Fr (PLm g) (QTm g) M M2 → mI M2 (gB g + 195) 9 = mI M (gB g + 195) 9 → (∀ i, 215 ≤ i → i ≤ 219 → ∀ j, ¬ (i = 217 ∧ j = k) → mI M2 (gB g + (i)) j = mI M (gB g + (i)) j) → mI M2 (gB g + 217) k = ps → stP (nxW bs n) T sz bz rt = stW (nxW bs n) T' sz bz rt ps → lb_X12_readLaw_238 g M0 (gB g + 195) post bk2 (nI k) M2 := by
    intro T' ps M2 c2 g2 n2 s2 w2 e
    rw [e] at hy hn
    refine sp_238M (sz := sz) (bz := bz) (rt := rt) (ps := ps) l0 c2 hk (fun M' h0 f n9 c s w => hy M' h0 (g2.tr f) (n9.trans n2) c (fun i i1 i2 j hj => (s i i1 i2 j (by omega)).trans (s2 i i1 i2 j (by omega))) ?_ w) (fun M' h0 f fm => hn M' h0 (g2.tr f) fm)
    rw [s 217 (by decide) (by decide) k (by omega), w2]
    unfold stW stF; split
    · split
      · split <;> rfl
      · rfl
    · split <;> rfl
  have noP : ¬ (bz = false ∧ isK 7 T = true) → lb_X12_readLaw_238 g M0 (gB g + 195) post bk2 (nI k) M := fun hno => tW T (-1) M h Fr.rf rfl (fun _ _ _ _ _ => rfl) h217 (if_neg hno)
  rw [hbz]
  cases hb : bz with
  | true => exact ⟨fun hx => absurd hx (by decide), fun _ => noP (by simp [hb])⟩
  | false =>
    refine ⟨fun _ => sp_kPass h.1 (Or.inr (Or.inl rfl)) h.2.2.1 h.2.2.2 ?_, fun hx => absurd rfl hx⟩
    cases hK : isK 7 T with
    | false => exact ⟨fun _ => noP (by simp [hK]), fun hx => absurd rfl hx⟩
    | true =>
      have e : stP (nxW bs n) T sz bz rt = if pnum (nxW bs n T) 0 20 = 0 then stW (nxW bs n) (nxW bs n (nxW bs n T)) sz bz rt (nI (nxW bs n T).2.2.1) else (pnum (nxW bs n T) 0 20, nxW bs n T, sz, bz, rt, -1, 0) := by unfold stP; rw [if_pos ⟨hb, hK⟩]
      refine ⟨fun hx => absurd hx (by decide), fun _ => sp_goW h (isK_ne3 hK) (fun M2 f2 c2 => ⟨_, lr_195_36 c2.1, ?_⟩)⟩
      have g2 : Fr (PLm g) (QTm g) M M2 := f2.mono (ptm_l g) (fun _ _ hh => hh)
      refine sp_num c2 0 20 (by decide) (by decide) (fun M3 h0 f3 c3 => ⟨lk_217 l0, by rw [ln_217 l0]; exact pk_in k 6 hk, ?_⟩) (fun M3 h0 f3 e9 e10 => ⟨lk_217 l0, by rw [ln_217 l0]; exact pk_in k 6 hk, ?_⟩)
      · rintro M29 rfl
        have hv : (nxW bs n T).2.2.1 ≤ 20 := (pnum_0 h0).2.2
        rw [ck]
        have g3 := g2.tr (f3.mono (ptm_l g) (fun _ _ hh => hh))
        have f4 : Fr (fun a j => a = (gB g + 217) ∧ j = k) nQ M3 (uI M3 (gB g + 217) k (nI (nxW bs n T).2.2.1)) := Fr.rf.uI ⟨rfl, rfl⟩
        have z4 : mI (uI M3 (gB g + 217) k (nI (nxW bs n T).2.2.1)) (gB g + 217) k = nI (nxW bs n T).2.2.1 := by rw [s_II, if_pos rfl, if_pos rfl]
        have c4 : ML g (uI M3 (gB g + 217) k (nI (nxW bs n T).2.2.1)) n bs (nxW bs n (nxW bs n T)) := c3.fr f4 (fun a k hh => by omega) (fun a k hh => (hh : False).elim)
        generalize uI M3 (gB g + 217) k (nI (nxW bs n T).2.2.1) = M4 at f4 z4 c4 ⊢
        refine ⟨_, lr_195_36 c4.1, lk_217 l0, by rw [ln_217 l0]; exact pk_in k 6 hk, ?_⟩
        rw [z4]
        refine ⟨fun hx => absurd (show nI (nxW bs n T).2.2.1 < 0 by rw [hx]; decide) (nI_pos (by omega)), fun _ => tW _ _ M4 c4 (g3.tr (f4.mono (fun a j hh => by unfold PLm; omega) (fun a k hh => (hh : False).elim))) (by rw [f4.1 _ _ (by omega), f3.1 _ _ (by unfold PTm; omega), f2.1 _ _ (by unfold PTm; omega)]) (fun i i1 i2 j hj => ?_) z4 (by rw [e, if_pos h0])⟩
        rw [f4.1 _ _ (by omega), f3.1 _ _ (by unfold PTm; omega), f2.1 _ _ (by unfold PTm; omega)]
      · rintro M29 rfl
        rw [ck]
        refine ⟨_, by rw [show mR (uI M3 (gB g + 217) k (-1)) = mR M3 from rfl, f3.R]; exact lr_195_36 c2.1, lk_217 l0, by rw [ln_217 l0]; exact pk_in k 6 hk, ?_⟩
        rw [show mI (uI M3 (gB g + 217) k (-1)) (gB g + 217) k = -1 by rw [s_II, if_pos rfl, if_pos rfl]]
        refine ⟨fun _ => ?_, fun hx => absurd rfl hx⟩
        rw [e, if_neg h0] at hn
        refine hn _ h0 ((g2.tr (f3.mono (pbd_l g) (fun a k hh => (hh : False).elim))).uI (by unfold PLm; omega)) ⟨?_, ?_⟩
        · rw [s_II, if_neg (by omega)]; exact e9
        · rw [s_II, if_neg (by omega)]; exact e10
