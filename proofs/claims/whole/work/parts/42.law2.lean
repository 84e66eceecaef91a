/-! PURE: the class reads the rest of a round, and all rounds -/
theorem pre_congr {f g : Nat → Nat} : ∀ k, (∀ j, j < k → f j = g j) → pre f k = pre g k
  | 0, _ => rfl
  | k + 1, h => by
    show pre f k + f k = pre g k + g k
    rw [pre_congr k (fun j hj => h j (by omega)), h k (by omega)]
def RW (g : Gh) (M : Mem) (d k : Nat) (sz : Nat) (bz : Bool) : Prop := mI M (gB g + (d + 1)) k = nI sz ∧ mI M (gB g + (d + 2)) k = bI bz
theorem RW.fr {g : Gh} {M M' : Mem} {d k sz : Nat} {bz : Bool} {P Q : Nat → Nat → Prop} (h : RW g M d k sz bz) (f : Fr P Q M M') (hp : ∀ b j, P b j → ¬ ((gB g + (d + 1)) ≤ b ∧ b ≤ (gB g + (d + 2)) ∧ j = k)) : RW g M' d k sz bz := by
  unfold RW; rw [f.1 _ _ (fun hh => by have := hp _ _ hh; omega), f.1 _ _ (fun hh => by have := hp _ _ hh; omega)]; exact h
theorem sp_100C {g : Gh} {M0 M : Mem} {n : Nat} {bs : Nat → Nat} {T : Tk} (l0 : Lay g M0) (h : CL g M n bs T) {d k : Nat} (hd : d = 49 ∨ d = 55) (hk : k < 6) {a : AcT} (hr : DR g M d k a) {sz : Nat} {bz : Bool} {rt ps wr : Int32} (hw : RW g M d k sz bz) (hrt : mI M (gB g + (d + 3)) k = rt) (hps : mI M (gB g + (d + 4)) k = ps) (hwr : mI M (gB g + (d + 5)) k = wr) {post : Int32 → Mem → Prop} (hq : ∀ M', Fr (PLc g d) (QTc g) M M' → CL g M' n bs (stF (nxW bs n) T sz bz rt ps wr).2.1 → ((stF (nxW bs n) T sz bz rt ps wr).1 = 0 → DR g M' d (k + 1) (acU a k (stF (nxW bs n) T sz bz rt ps wr))) → post (nI (stF (nxW bs n) T sz bz rt ps wr).1) M') : lb_X4_faultOfPoints_100 g M0 (gB g + (d)) (gB g + 1) (nI k) post 0 M := by
  have hl := lk_law h.1 hd
  have hn := ln_law l0 hd
  have hb := h.2.1.2.2.2.2.2.2.2
  have ht := tc_lt hb h.2.2.1
  refine ⟨fun _ => ⟨lk_1 l0, ?_⟩, fun hx => absurd rfl hx⟩
  rw [h.2.2.2.1]
  refine pk_eq T.1 59 (fun h59 => ⟨_, hl.2.1, hn.1.1, by rw [hn.1.2]; exact pk_in k 6 hk, ?_⟩) (fun h59 => ?_)
  · have e : stF (nxW bs n) T sz bz rt ps wr = (0, nxW bs n T, sz, bz, rt, ps, wr) := if_pos h59
    rw [e] at hq
    rintro M8 rfl M10 rfl
    rw [nI_cl k (by omega), hw.1, hr.2.1, nI_add]
    have e0 : mI (uI M (gB g + (d)) 1 (nI (pre a.1 k + sz))) (gB g + (d)) 0 = nI k := by rw [s_II, if_pos rfl, if_neg (by decide)]; exact hr.1
    rw [e0, nI_1]
    have f2 : Fr (fun b j => b = (gB g + (d)) ∧ j ≤ 1) nQ M (uI (uI M (gB g + (d)) 1 (nI (pre a.1 k + sz))) (gB g + (d)) 0 (nI (k + 1))) := (Fr.rf.uI (by omega)).uI (by omega)
    have c2 : CL g (uI (uI M (gB g + (d)) 1 (nI (pre a.1 k + sz))) (gB g + (d)) 0 (nI (k + 1))) n bs T := h.fr f2 (fun a k hh => by omega) (fun a k hh => (hh : False).elim)
    have z0 : mI (uI (uI M (gB g + (d)) 1 (nI (pre a.1 k + sz))) (gB g + (d)) 0 (nI (k + 1))) (gB g + (d)) 0 = nI (k + 1) := by rw [s_II, if_pos rfl, if_pos rfl]
    have z1 : mI (uI (uI M (gB g + (d)) 1 (nI (pre a.1 k + sz))) (gB g + (d)) 0 (nI (k + 1))) (gB g + (d)) 1 = nI (pre a.1 k + sz) := by rw [s_II, if_pos rfl, if_neg (by decide), s_II, if_pos rfl, if_pos rfl]
    generalize uI (uI M (gB g + (d)) 1 (nI (pre a.1 k + sz))) (gB g + (d)) 0 (nI (k + 1)) = M2 at f2 c2 z0 z1 ⊢
    refine sp_nextW c2 (fun M3 f3 c3 => hq M3 ?_ c3 (fun _ => ⟨?_, ?_, fun j hj => ?_⟩))
    · exact (f2.mono (fun b j hh => by unfold PLc; omega) (fun a k hh => (hh : False).elim)).tr (f3.mono (fun b j hh => by unfold PTc at hh; unfold PLc; omega) (fun _ _ hh => hh))
    · rw [f3.1 _ _ (by unfold PTc; omega)]; exact z0
    · rw [f3.1 _ _ (by unfold PTc; omega), z1]
      show nI (pre a.1 k + sz) = nI (pre (upN a.1 k sz) k + upN a.1 k sz k)
      rw [upN_s, pre_congr (f := upN a.1 k sz) (g := a.1) k (fun j hj => upN_n _ _ (by omega))]
    · have es : ∀ i, 1 ≤ i → i ≤ 5 → mI M3 (gB g + (d + i)) j = mI M (gB g + (d + i)) j := fun i i1 i2 => by rw [f3.1 _ _ (by unfold PTc; omega), f2.1 _ _ (by omega)]
      rw [es 1 (by decide) (by decide), es 2 (by decide) (by decide), es 3 (by decide) (by decide), es 4 (by decide) (by decide), es 5 (by decide) (by decide)]
      show _ = nI (upN a.1 k sz j) ∧ _ = bI (upN a.2.1 k bz j) ∧ _ = upN a.2.2.1 k rt j ∧ _ = upN a.2.2.2.1 k ps j ∧ _ = upN a.2.2.2.2 k wr j
      by_cases hjk : j = k
      · subst hjk
        rw [upN_s, upN_s, upN_s, upN_s, upN_s]
        exact ⟨hw.1, hw.2, hrt, hps, hwr⟩
      · rw [upN_n _ _ hjk, upN_n _ _ hjk, upN_n _ _ hjk, upN_n _ _ hjk, upN_n _ _ hjk]
        exact hr.2.2 j (by omega)
  · have e : stF (nxW bs n) T sz bz rt ps wr = (1, T, sz, bz, rt, ps, wr) := if_neg h59
    rw [e] at hq
    exact hq M Fr.rf h (fun hx => absurd (show (1 : Nat) = 0 from hx) (by decide))
theorem sp_77C {g : Gh} {M0 M : Mem} {n : Nat} {bs : Nat → Nat} {T : Tk} (l0 : Lay g M0) (h : CL g M n bs T) {d k : Nat} (hd : d = 49 ∨ d = 55) (hk : k < 6) {a : AcT} (hr : DR g M d k a) {sz : Nat} {bz : Bool} {rt ps : Int32} (hw : RW g M d k sz bz) (hrt : mI M (gB g + (d + 3)) k = rt) (hps : mI M (gB g + (d + 4)) k = ps) (hwr : mI M (gB g + (d + 5)) k = 0) {post : Int32 → Mem → Prop} (hq : ∀ M', Fr (PLc g d) (QTc g) M M' → CL g M' n bs (stW (nxW bs n) T sz bz rt ps).2.1 → ((stW (nxW bs n) T sz bz rt ps).1 = 0 → DR g M' d (k + 1) (acU a k (stW (nxW bs n) T sz bz rt ps))) → post (nI (stW (nxW bs n) T sz bz rt ps).1) M') : lb_X4_faultOfPoints_77 g M0 (gB g + (d)) (gB g + 1) (nI k) post 0 M := by
  have hl := lk_law h.1 hd
  have hn := ln_law h.1 hd
  refine ⟨fun _ => sp_wordW h (i := 8) (by decide) (by decide) ?_, fun hx => absurd rfl hx⟩
  cases hK : isK 8 T with
  | false =>
    have e : stW (nxW bs n) T sz bz rt ps = stF (nxW bs n) T sz bz rt ps 0 := by unfold stW; rw [hK]; rfl
    rw [e] at hq
    exact ⟨fun _ => sp_100C l0 h hd hk hr hw hrt hps hwr hq, fun hx => absurd rfl hx⟩
  | true =>
    have e : stW (nxW bs n) T sz bz rt ps = if pnum (nxW bs n T) 0 20 = 0 then stF (nxW bs n) (nxW bs n (nxW bs n T)) sz bz rt ps (nI (nxW bs n T).2.2.1) else (pnum (nxW bs n T) 0 20, nxW bs n T, sz, bz, rt, ps, 0) := by unfold stW; rw [if_pos hK]
    rw [e] at hq
    refine ⟨fun hx => absurd hx (by decide), fun _ => ⟨_, hl.2.2.2.2.2, ?_⟩⟩
    refine sp_readPts h hk (by omega) hn.2.2.2.2 (fun M1 f1 n1 y1 => ?_)
    have g1 : Fr (PLc g d) (QTc g) M M1 := f1.mono (fun b j hh => by unfold PTc at hh; unfold PLc; omega) (fun _ _ hh => hh)
    by_cases h0 : pnum (nxW bs n T) 0 20 = 0
    · rw [if_pos h0] at hq
      rw [h0]
      exact sp_100C l0 (y1 h0).1 hd hk (hr.fr f1 (fun b j hh => by unfold PTc at hh; omega)) (hw.fr f1 (fun b j hh => by unfold PTc at hh; omega)) (by rw [f1.1 _ _ (by unfold PTc; omega)]; exact hrt) (by rw [f1.1 _ _ (by unfold PTc; omega)]; exact hps) (y1 h0).2 (fun M' f' => hq M' (g1.tr f'))
    · rw [if_neg h0] at hq
      have hle := pnum_le (nxW bs n T) 0 20
      refine ⟨fun hx => absurd hx (nI_ne0 (by omega) (by omega)), fun _ => ?_⟩
      exact hq M1 g1 (n1 h0).1 (fun hx => absurd hx h0)
theorem sp_ptsC {g : Gh} {M : Mem} {n : Nat} {bs : Nat → Nat} {T : Tk} (h : CL g M n bs T) {d k : Nat} (hd : d = 49 ∨ d = 55) (hk : k < 6) {a : AcT} (hr : DR g M d k a) {sz : Nat} {bz : Bool} (hw : RW g M d k sz bz) {post : Int32 → Mem → Prop} (hq : ∀ M', Fr (PLc g d) (QTc g) M M' → CL g M' n bs (stR (nxW bs n) T sz bz).2.1 → ((stR (nxW bs n) T sz bz).1 = 0 → DR g M' d (k + 1) (acU a k (stR (nxW bs n) T sz bz))) → post (nI (stR (nxW bs n) T sz bz).1) M') : wp_X4_faultOfPoints g M (gB g + (d)) (gB g + 1) (nI k) post := by
  have hl := lk_law h.1 hd
  have hn := ln_law h.1 hd
  refine ⟨hl.1, fun hx => absurd hx (nI_pos (by omega)), fun _ => pk_le 6 k (fun hx => by omega) (fun _ => sp_wordW h (i := 6) (by decide) (by decide) ?_)⟩
  cases hK : isK 6 T with
  | false =>
    have e : stR (nxW bs n) T sz bz = (1, T, sz, bz, 0, -1, 0) := by unfold stR; rw [hK]; rfl
    rw [e] at hq
    exact ⟨fun _ => hq M Fr.rf h (fun hx => absurd (show (1 : Nat) = 0 from hx) (by decide)), fun hx => absurd rfl hx⟩
  | true =>
    have e : stR (nxW bs n) T sz bz = if pnum (nxW bs n T) 0 20 = 0 then stP (nxW bs n) (nxW bs n (nxW bs n T)) sz bz (nI (nxW bs n T).2.2.1) else (pnum (nxW bs n T) 0 20, nxW bs n T, sz, bz, 0, -1, 0) := by unfold stR; rw [if_pos hK]
    rw [e] at hq
    refine ⟨fun hx => absurd hx (by decide), fun _ => ⟨_, hl.2.2.2.2.1, hn.2.2.2.1.1, by rw [hn.2.2.2.1.2]; exact pk_in k 6 hk, ?_⟩⟩
    rintro M38 rfl
    refine ⟨_, hl.2.2.2.2.2, hn.2.2.2.2.1, by rw [hn.2.2.2.2.2]; exact pk_in k 6 hk, ?_⟩
    rintro M44 rfl
    rw [nI_cl k (by omega)]
    have f2 : Fr (fun b j => (b = (gB g + (d + 4)) ∨ b = (gB g + (d + 5))) ∧ j = k) nQ M (uI (uI M (gB g + (d + 4)) k (-1)) (gB g + (d + 5)) k 0) := (Fr.rf.uI (by omega)).uI (by omega)
    have z4 : mI (uI (uI M (gB g + (d + 4)) k (-1)) (gB g + (d + 5)) k 0) (gB g + (d + 4)) k = -1 := by rw [s_II, if_neg (by omega), s_II, if_pos rfl, if_pos rfl]
    have z5 : mI (uI (uI M (gB g + (d + 4)) k (-1)) (gB g + (d + 5)) k 0) (gB g + (d + 5)) k = 0 := by rw [s_II, if_pos rfl, if_pos rfl]
    have c2 : CL g (uI (uI M (gB g + (d + 4)) k (-1)) (gB g + (d + 5)) k 0) n bs T := h.fr f2 (fun a k hh => by omega) (fun a k hh => (hh : False).elim)
    have r2 := hr.fr f2 (fun b j hh => by omega)
    have w2 := hw.fr f2 (fun b j hh => by omega)
    generalize uI (uI M (gB g + (d + 4)) k (-1)) (gB g + (d + 5)) k 0 = M2 at f2 z4 z5 c2 r2 w2 ⊢
    have g2 : Fr (PLc g d) (QTc g) M M2 := f2.mono (fun b j hh => by unfold PLc; omega) (fun a k hh => (hh : False).elim)
    have hl2 := lk_law c2.1 hd
    refine ⟨_, hl2.2.2.2.1, ?_⟩
    refine sp_readPts c2 hk (by omega) (ln_law c2.1 hd).2.2.1 (fun M3 f3 n3 y3 => ?_)
    have g3 : Fr (PLc g d) (QTc g) M M3 := g2.tr (f3.mono (fun b j hh => by unfold PTc at hh; unfold PLc; omega) (fun _ _ hh => hh))
    have r3 := r2.fr f3 (fun b j hh => by unfold PTc at hh; omega)
    have w3 := w2.fr f3 (fun b j hh => by unfold PTc at hh; omega)
    have z43 : mI M3 (gB g + (d + 4)) k = -1 := by rw [f3.1 _ _ (by unfold PTc; omega)]; exact z4
    have z53 : mI M3 (gB g + (d + 5)) k = 0 := by rw [f3.1 _ _ (by unfold PTc; omega)]; exact z5
    have hle := pnum_le (nxW bs n T) 0 20
    by_cases h0 : pnum (nxW bs n T) 0 20 = 0
    · rw [if_pos h0] at hq
      rw [h0]
      obtain ⟨c3, v3⟩ := y3 h0
      have hl3 := lk_law c3.1 hd
      refine ⟨fun _ => ⟨_, hl3.2.2.1, hn.2.1.1, by rw [hn.2.1.2]; exact pk_in k 6 hk, ?_⟩, fun hx => absurd rfl hx⟩
      rw [w3.2]
      have k77 : ¬ (bz = false ∧ isK 7 (nxW bs n (nxW bs n T)) = true) → lb_X4_faultOfPoints_77 g M (gB g + (d)) (gB g + 1) (nI k) post 0 M3 := by
        intro hno
        have e2 : stP (nxW bs n) (nxW bs n (nxW bs n T)) sz bz (nI (nxW bs n T).2.2.1) = stW (nxW bs n) (nxW bs n (nxW bs n T)) sz bz (nI (nxW bs n T).2.2.1) (-1) := if_neg hno
        rw [e2] at hq
        exact sp_77C h.1 c3 hd hk r3 w3 v3 z43 z53 (fun M' f' => hq M' (g3.tr f'))
      cases hbz : bz with
      | true => exact ⟨fun hx => absurd hx (by decide), fun _ => k77 (by simp [hbz])⟩
      | false =>
        refine ⟨fun _ => sp_wordW c3 (i := 7) (by decide) (by decide) ?_, fun hx => absurd rfl hx⟩
        cases h7 : isK 7 (nxW bs n (nxW bs n T)) with
        | false => exact ⟨fun _ => k77 (by simp [h7]), fun hx => absurd rfl hx⟩
        | true =>
          have e2 : stP (nxW bs n) (nxW bs n (nxW bs n T)) sz bz (nI (nxW bs n T).2.2.1) = if pnum (nxW bs n (nxW bs n (nxW bs n T))) 0 20 = 0 then stW (nxW bs n) (nxW bs n (nxW bs n (nxW bs n (nxW bs n T)))) sz bz (nI (nxW bs n T).2.2.1) (nI (nxW bs n (nxW bs n (nxW bs n T))).2.2.1) else (pnum (nxW bs n (nxW bs n (nxW bs n T))) 0 20, nxW bs n (nxW bs n (nxW bs n T)), sz, bz, nI (nxW bs n T).2.2.1, -1, 0) := by unfold stP; rw [if_pos ⟨hbz, h7⟩]
          rw [e2] at hq
          refine ⟨fun hx => absurd hx (by decide), fun _ => ⟨_, hl3.2.2.2.2.1, ?_⟩⟩
          refine sp_readPts c3 hk (by omega) (ln_law c3.1 hd).2.2.2.1 (fun M4 f4 n4 y4 => ?_)
          have g4 : Fr (PLc g d) (QTc g) M M4 := g3.tr (f4.mono (fun b j hh => by unfold PTc at hh; unfold PLc; omega) (fun _ _ hh => hh))
          have hle4 := pnum_le (nxW bs n (nxW bs n (nxW bs n T))) 0 20
          by_cases h04 : pnum (nxW bs n (nxW bs n (nxW bs n T))) 0 20 = 0
          · rw [if_pos h04] at hq
            rw [h04]
            exact sp_77C h.1 (y4 h04).1 hd hk (r3.fr f4 (fun b j hh => by unfold PTc at hh; omega)) (w3.fr f4 (fun b j hh => by unfold PTc at hh; omega)) (by rw [f4.1 _ _ (by unfold PTc; omega)]; exact v3) (y4 h04).2 (by rw [f4.1 _ _ (by unfold PTc; omega)]; exact z53) (fun M' f' => hq M' (g4.tr f'))
          · rw [if_neg h04] at hq
            have hne : ¬ nI (pnum (nxW bs n (nxW bs n (nxW bs n T))) 0 20) = 0 := nI_ne0 (by omega) (by omega)
            exact ⟨fun hx => absurd hx hne, fun _ => ⟨fun hx => absurd hx hne, fun _ => hq M4 g4 (n4 h04).1 (fun hx => absurd hx h04)⟩⟩
    · rw [if_neg h0] at hq
      have hne : ¬ nI (pnum (nxW bs n T) 0 20) = 0 := nI_ne0 (by omega) (by omega)
      exact ⟨fun hx => absurd hx hne, fun _ => ⟨fun hx => absurd hx hne, fun _ => ⟨fun hx => absurd hx hne, fun _ => hq M3 g3 (n3 h0).1 (fun hx => absurd hx h0)⟩⟩⟩
/-! what a round tells -/
theorem stF_sz {nx : Tk → Tk} {T : Tk} {sz : Nat} {bz : Bool} {rt ps wr : Int32} : (stF nx T sz bz rt ps wr).2.2.1 = sz ∧ (stF nx T sz bz rt ps wr).1 ≤ 3 := by unfold stF; split <;> exact ⟨rfl, by simp⟩
theorem stW_sz {nx : Tk → Tk} {T : Tk} {sz : Nat} {bz : Bool} {rt ps : Int32} : (stW nx T sz bz rt ps).2.2.1 = sz ∧ (stW nx T sz bz rt ps).1 ≤ 3 := by
  unfold stW; split
  · split
    · exact stF_sz
    · exact ⟨rfl, by have := pnum_le (nx T) 0 20; show pnum (nx T) 0 20 ≤ 3; omega⟩
  · exact stF_sz
theorem stP_sz {nx : Tk → Tk} {T : Tk} {sz : Nat} {bz : Bool} {rt : Int32} : (stP nx T sz bz rt).2.2.1 = sz ∧ (stP nx T sz bz rt).1 ≤ 3 := by
  unfold stP; split
  · split
    · exact stW_sz
    · exact ⟨rfl, by have := pnum_le (nx T) 0 20; show pnum (nx T) 0 20 ≤ 3; omega⟩
  · exact stW_sz
theorem stR_sz {nx : Tk → Tk} {T : Tk} {sz : Nat} {bz : Bool} : (stR nx T sz bz).2.2.1 = sz ∧ (stR nx T sz bz).1 ≤ 3 := by
  unfold stR; split
  · split
    · exact stP_sz
    · exact ⟨rfl, by have := pnum_le (nx T) 0 20; show pnum (nx T) 0 20 ≤ 3; omega⟩
  · exact ⟨rfl, by simp⟩
theorem hdF_le (nx : Tk → Tk) (k : Nat) (T : Tk) : (hdF nx k T).1 ≤ 3 ∧ ((hdF nx k T).1 = 0 → k ≠ 6 ∧ 1 ≤ (hdF nx k T).2.2.1 ∧ (hdF nx k T).2.2.1 ≤ 8) := by
  unfold hdF
  split
  · split
    · exact ⟨by simp, fun hx => absurd (show (3 : Nat) = 0 from hx) (by decide)⟩
    · split
      · next h0 =>
        split
        · have := pnum_0 h0
          exact ⟨by simp, fun _ => ⟨by assumption, this.2.1, this.2.2⟩⟩
        · exact ⟨by simp, fun hx => absurd (show (1 : Nat) = 0 from hx) (by decide)⟩
      · next h0 => exact ⟨by have := pnum_le (nx T) 1 8; show pnum (nx T) 1 8 ≤ 3; omega, fun hx => absurd hx h0⟩
  · exact ⟨by simp, fun hx => absurd (show (1 : Nat) = 0 from hx) (by decide)⟩
theorem rnd_le (nx : Tk → Tk) (k : Nat) (T : Tk) : (rnd nx k T).1 ≤ 3 ∧ ((rnd nx k T).1 = 0 → k ≠ 6 ∧ 1 ≤ (rnd nx k T).2.2.1 ∧ (rnd nx k T).2.2.1 ≤ 8) := by
  have h := hdF_le nx k T
  unfold rnd
  split
  · next h0 => rw [stR_sz.1]; exact ⟨stR_sz.2, fun _ => h.2 h0⟩
  · next h0 => exact ⟨h.1, fun hx => absurd hx h0⟩
def okA (k : Nat) (a : AcT) : Prop := ∀ j, j < k → 1 ≤ a.1 j ∧ a.1 j ≤ 8
theorem okA_up {nx : Tk → Tk} {k : Nat} {T : Tk} {a : AcT} (h : okA k a) (h0 : (rnd nx k T).1 = 0) : okA (k + 1) (acU a k (rnd nx k T)) := by
  intro j hj
  show 1 ≤ upN a.1 k (rnd nx k T).2.2.1 j ∧ upN a.1 k (rnd nx k T).2.2.1 j ≤ 8
  by_cases hjk : j = k
  · subst hjk; rw [upN_s]; exact ((rnd_le nx j T).2 h0).2
  · rw [upN_n _ _ hjk]; exact h j (by omega)
theorem lawF_ok {nx : Tk → Tk} : ∀ (f k : Nat) (T : Tk) (a : AcT), k + f = 7 → okA k a → 1 ≤ f → (lawF nx f k T a).1 ≤ 3 ∧ ((lawF nx f k T a).1 = 0 → (lawF nx f k T a).2.2.1 ≤ 6 ∧ okA (lawF nx f k T a).2.2.1 (lawF nx f k T a).2.2.2)
  | 0, _, _, _, _, _, h => by omega
  | f + 1, k, T, a, hk, ha, _ => by
    have hr := rnd_le nx k T
    unfold lawF
    split
    · next h0 =>
      have h6 := (hr.2 h0).1
      split
      · exact ⟨by simp, fun _ => ⟨by show k + 1 ≤ 6; omega, okA_up ha h0⟩⟩
      · exact lawF_ok f (k + 1) _ _ (by omega) (okA_up ha h0) (by omega)
    · next h0 => exact ⟨hr.1, fun hx => absurd hx h0⟩
def a0T : AcT := (fun _ => 0, fun _ => false, fun _ => 0, fun _ => 0, fun _ => 0)
theorem sp_readLawC {g : Gh} {M : Mem} {n : Nat} {bs : Nat → Nat} (h1 : Lay g M) (hT : TP g M (gB g + 1) (gB g + 2) n bs) {d : Nat} (hd : d = 49 ∨ d = 55) {post : Mem → Prop} (hq : ∀ M', Fr (PLc g d) (QTc g) M M' → mI M' (gB g + (d)) 7 = nI (lawF (nxW bs n) 7 0 (tk sgW bs n 0) a0T).1 → ((lawF (nxW bs n) 7 0 (tk sgW bs n 0) a0T).1 ≠ 0 → mI M' (gB g + (d)) 8 = nI (lawF (nxW bs n) 7 0 (tk sgW bs n 0) a0T).2.1.2.1) → ((lawF (nxW bs n) 7 0 (tk sgW bs n 0) a0T).1 = 0 → DR g M' d (lawF (nxW bs n) 7 0 (tk sgW bs n 0) a0T).2.2.1 (lawF (nxW bs n) 7 0 (tk sgW bs n 0) a0T).2.2.2) → post M') : wp_X4_readFrom g M (gB g + (d)) (gB g + 1) post := by
  have hl := lk_law h1 hd
  have hb := hT.2.2.2.2.2.2.2
  refine ⟨hl.1, ?_⟩
  rintro M18 rfl M20 rfl M22 rfl M24 rfl
  have f1 : Fr (fun a k => a = (gB g + (d))) nQ M (uI (uI (uI (uI M (gB g + (d)) 0 0) (gB g + (d)) 1 0) (gB g + (d)) 7 0) (gB g + (d)) 8 0) := (((Fr.rf.uI (by omega)).uI (by omega)).uI (by omega)).uI (by omega)
  have z : mI (uI (uI (uI (uI M (gB g + (d)) 0 0) (gB g + (d)) 1 0) (gB g + (d)) 7 0) (gB g + (d)) 8 0) (gB g + (d)) 0 = 0 ∧ mI (uI (uI (uI (uI M (gB g + (d)) 0 0) (gB g + (d)) 1 0) (gB g + (d)) 7 0) (gB g + (d)) 8 0) (gB g + (d)) 1 = 0 ∧ mI (uI (uI (uI (uI M (gB g + (d)) 0 0) (gB g + (d)) 1 0) (gB g + (d)) 7 0) (gB g + (d)) 8 0) (gB g + (d)) 7 = 0 := by
    refine ⟨?_, ?_, ?_⟩ <;> simp [s_II]
  generalize uI (uI (uI (uI M (gB g + (d)) 0 0) (gB g + (d)) 1 0) (gB g + (d)) 7 0) (gB g + (d)) 8 0 = M1 at f1 z ⊢
  refine ⟨lk_1 (f1.lay h1), ?_⟩
  rintro M2 rfl M3 rfl M5 rfl M7 rfl
  have f2 : Fr (PTc g) (QTc g) M1 (uI (uJ (uI (uI M1 (gB g + 1) 2 3) (gB g + 1) 3 0) (gB g + 1) 4 0) (gB g + 1) 5 0) := (((Fr.rf.uI (by unfold PTc; omega)).uI (by unfold PTc; omega)).uJ ⟨rfl, rfl⟩).uI (by unfold PTc; omega)
  have z5 : mI (uI (uJ (uI (uI M1 (gB g + 1) 2 3) (gB g + 1) 3 0) (gB g + 1) 4 0) (gB g + 1) 5 0) (gB g + 1) 5 = nI 0 := by rw [s_II, if_pos rfl, if_pos rfl]; rfl
  generalize uI (uJ (uI (uI M1 (gB g + 1) 2 3) (gB g + 1) 3 0) (gB g + 1) 4 0) (gB g + 1) 5 0 = M2 at f2 z5 ⊢
  have hT2 : TP g M2 (gB g + 1) (gB g + 2) n bs := (hT.fr f1 (fun a k hh => by omega)).fr f2 (fun a k hh => by unfold PTc at hh; omega)
  refine sp_nextC hT2 (i := 2) (Or.inr (Or.inr ⟨rfl, rfl⟩)) z5 (Nat.zero_le _) (fun M3 f3 t3 c3 => ?_)
  have g3 : Fr (PLc g d) (QTc g) M M3 := ((f1.mono (P' := PLc g d) (Q' := QTc g) (fun a k hh => by unfold PLc; omega) (fun a k hh => (hh : False).elim)).tr (f2.mono (fun a k hh => by unfold PTc at hh; unfold PLc; omega) (fun _ _ hh => hh))).tr (f3.mono (fun a k hh => by unfold PTc at hh; unfold PLc; omega) (fun _ _ hh => hh))
  have f13 : Fr (PTc g) (QTc g) M1 M3 := f2.tr f3
  have cl3 : CL g M3 n bs (tk sgW bs n 0) := ⟨g3.lay h1, t3, ⟨0, Nat.zero_le _, rfl⟩, c3⟩
  have dr3 : DR g M3 d 0 a0T := by
    refine ⟨?_, ?_, fun j hj => by omega⟩
    · rw [f13.1 _ _ (by unfold PTc; omega)]; exact z.1
    · rw [f13.1 _ _ (by unfold PTc; omega)]; exact z.2.1
  have z73 : mI M3 (gB g + (d)) 7 = 0 := by rw [f13.1 _ _ (by unfold PTc; omega)]; exact z.2.2
  generalize hR : lawF (nxW bs n) 7 0 (tk sgW bs n 0) a0T = R at hq
  generalize tk sgW bs n 0 = T0 at cl3 hR
  refine lfp_ms (fun s => ∃ (k : Nat) (T : Tk) (a : AcT) (M' : Mem), s = (nI k, M') ∧ k ≤ 6 ∧ Fr (PLc g d) (QTc g) M M' ∧ CL g M' n bs T ∧ DR g M' d k a ∧ mI M' (gB g + (d)) 7 = 0 ∧ ((k = 0 ∨ T.1 ≠ 0) → lawF (nxW bs n) (7 - k) k T a = R) ∧ (k ≠ 0 → T.1 = 0 → R = (0, T, k, a))) (fun s => 7 - s.1.toNatClampNeg) ?_ _ ⟨0, T0, a0T, M3, rfl, by omega, g3, cl3, dr3, z73, fun _ => hR, fun hx => absurd rfl hx⟩
  rintro bk s ⟨k, T, a, M', rfl, hk, f, hc, hr, h7, hrun, hend⟩ hbk
  have hl' := lk_law hc.1 hd
  show bd_X4_readFrom_32 g M (gB g + (d)) (gB g + 1) post bk (nI k) M'
  unfold bd_X4_readFrom_32
  refine pk_lt 6 k (fun hx => by omega) (fun _ => ?_)
  have ht := tc_lt hb hc.2.2.1
  have k50 : (k = 0 ∨ T.1 ≠ 0) → lb_X4_readFrom_50 g M (gB g + (d)) (gB g + 1) post bk (nI k) M' := by
    intro hgo
    have hrun := hrun hgo
    rw [show 7 - k = (6 - k) + 1 by omega] at hrun
    have er : lawF (nxW bs n) ((6 - k) + 1) k T a = if (rnd (nxW bs n) k T).1 = 0 then (if (rnd (nxW bs n) k T).2.1.1 = 0 then (0, (rnd (nxW bs n) k T).2.1, k + 1, acU a k (rnd (nxW bs n) k T)) else lawF (nxW bs n) (6 - k) (k + 1) (rnd (nxW bs n) k T).2.1 (acU a k (rnd (nxW bs n) k T))) else ((rnd (nxW bs n) k T).1, (rnd (nxW bs n) k T).2.1, k, a) := rfl
    rw [er] at hrun
    have hrl := rnd_le (nxW bs n) k T
    -- the end of it, at a fault
    have bad : ∀ M4, Fr (PLc g d) (QTc g) M M4 → CL g M4 n bs (rnd (nxW bs n) k T).2.1 → mI M4 (gB g + (d)) 7 = nI (rnd (nxW bs n) k T).1 → (rnd (nxW bs n) k T).1 ≠ 0 → lb_X4_readFrom_79 g M (gB g + (d)) (gB g + 1) post bk (nI k) M4 := by
      intro M4 f4 c4 e4 hne
      rw [if_neg hne] at hrun
      have hle := hrl.1
      unfold lb_X4_readFrom_79
      rw [e4]
      refine ⟨fun hx => absurd hx (nI_ne0 (by omega) (by omega)), fun _ => ⟨lk_1 h1, ?_⟩⟩
      rintro M5 rfl
      rw [c4.2.2.2.2.1]
      refine hq _ (f4.uI (by unfold PLc; omega)) ?_ (fun _ => ?_) (fun hx => ?_)
      · rw [s_II, if_pos rfl, if_neg (by decide), e4, ← hrun]
      · rw [s_II, if_pos rfl, if_pos rfl, ← hrun]
      · rw [← hrun] at hx; exact absurd hx hne
    refine sp_headC hc hd hk hr (fun M4 f4 c4 r4 y4 => ?_)
    have g4 : Fr (PLc g d) (QTc g) M M4 := f.tr f4
    rintro M5 rfl
    have fu : ∀ v, Fr (fun a j => a = (gB g + (d)) ∧ j = 7) nQ M4 (uI M4 (gB g + (d)) 7 v) := fun v => Fr.rf.uI ⟨rfl, rfl⟩
    rw [show mI (uI M4 (gB g + (d)) 7 (nI (hdF (nxW bs n) k T).1)) (gB g + (d)) 7 = nI (hdF (nxW bs n) k T).1 by rw [s_II, if_pos rfl, if_pos rfl]]
    have hhl := (hdF_le (nxW bs n) k T).1
    refine pk_eq (hdF (nxW bs n) k T).1 0 (fun h0 => ?_) (fun h0 => ?_)
    · rw [h0]
      obtain ⟨k6, v1, v2, v3, v4⟩ := y4 h0
      have erd : rnd (nxW bs n) k T = stR (nxW bs n) (hdF (nxW bs n) k T).2.1 (hdF (nxW bs n) k T).2.2.1 (hdF (nxW bs n) k T).2.2.2 := if_pos h0
      have f5 := fu (nI 0)
      have c5 : CL g (uI M4 (gB g + (d)) 7 (nI 0)) n bs (hdF (nxW bs n) k T).2.1 := c4.fr f5 (fun a k hh => by omega) (fun a k hh => (hh : False).elim)
      have r5 : DR g (uI M4 (gB g + (d)) 7 (nI 0)) d k a := r4.fr f5 (fun b j hh => by omega)
      have w5 : RW g (uI M4 (gB g + (d)) 7 (nI 0)) d k (hdF (nxW bs n) k T).2.2.1 (hdF (nxW bs n) k T).2.2.2 := RW.fr ⟨v1, v2⟩ f5 (fun b j hh => by omega)
      generalize uI M4 (gB g + (d)) 7 (nI 0) = M5 at f5 c5 r5 w5 ⊢
      have g5 : Fr (PLc g d) (QTc g) M M5 := g4.tr (f5.mono (fun b j hh => by unfold PLc; omega) (fun a k hh => (hh : False).elim))
      rw [r5.1]
      refine sp_ptsC c5 hd k6 r5 w5 (fun M6 f6 c6 y6 => ?_)
      rw [← erd] at c6 y6
      rw [← erd]
      have g6 := g5.tr f6
      rintro M12 rfl
      have f7 : Fr (fun a j => a = (gB g + (d)) ∧ j = 7) nQ M6 (uI M6 (gB g + (d)) 7 (nI (rnd (nxW bs n) k T).1)) := Fr.rf.uI ⟨rfl, rfl⟩
      have c7 : CL g (uI M6 (gB g + (d)) 7 (nI (rnd (nxW bs n) k T).1)) n bs (rnd (nxW bs n) k T).2.1 := c6.fr f7 (fun a k hh => by omega) (fun a k hh => (hh : False).elim)
      have e7 : mI (uI M6 (gB g + (d)) 7 (nI (rnd (nxW bs n) k T).1)) (gB g + (d)) 7 = nI (rnd (nxW bs n) k T).1 := by rw [s_II, if_pos rfl, if_pos rfl]
      by_cases hr0 : (rnd (nxW bs n) k T).1 = 0
      · have y7 := (y6 hr0).fr f7 (fun b j hh => by omega)
        generalize uI M6 (gB g + (d)) 7 (nI (rnd (nxW bs n) k T).1) = M7 at f7 c7 e7 y7 ⊢
        have g7 : Fr (PLc g d) (QTc g) M M7 := g6.tr (f7.mono (fun b j hh => by unfold PLc; omega) (fun a k hh => (hh : False).elim))
        rw [if_pos hr0] at hrun
        unfold lb_X4_readFrom_79
        rw [e7, hr0]
        refine ⟨fun _ => ?_, fun hx => absurd rfl hx⟩
        rw [nI_1]
        refine hbk _ ⟨k + 1, (rnd (nxW bs n) k T).2.1, acU a k (rnd (nxW bs n) k T), M7, rfl, by omega, g7, c7, y7, by rw [e7, hr0]; rfl, fun hx => ?_, fun _ hx => ?_⟩ ?_
        · rcases hx with hx | hx
          · omega
          · rw [if_neg hx] at hrun
            rw [show 7 - (k + 1) = 6 - k by omega]; exact hrun
        · rw [if_pos hx] at hrun; exact hrun.symm
        · show 7 - (nI (k + 1)).toNatClampNeg < 7 - (nI k).toNatClampNeg
          rw [nI_cl _ (by omega), nI_cl _ (by omega)]; omega
      · exact bad _ (g6.tr (f7.mono (fun b j hh => by unfold PLc; omega) (fun a k hh => (hh : False).elim))) c7 e7 hr0
    · have erd : rnd (nxW bs n) k T = ((hdF (nxW bs n) k T).1, (hdF (nxW bs n) k T).2.1, 0, false, 0, -1, 0) := if_neg h0
      have f5 := fu (nI (hdF (nxW bs n) k T).1)
      refine bad _ (g4.tr (f5.mono (fun b j hh => by unfold PLc; omega) (fun a k hh => (hh : False).elim))) ?_ ?_ ?_
      · rw [erd]; exact c4.fr f5 (fun a k hh => by omega) (fun a k hh => (hh : False).elim)
      · rw [erd, s_II, if_pos rfl, if_pos rfl]
      · rw [erd]; exact h0
  refine pk_le k 0 (fun hx => k50 (Or.inl (by omega))) (fun hx => ⟨lk_1 h1, ?_⟩)
  rw [hc.2.2.2.1]
  refine pk_eq T.1 0 (fun h0 => ?_) (fun h0 => k50 (Or.inr h0))
  have := hend (by omega) h0
  refine hq M' f (by rw [this]; exact h7) (fun hx => by rw [this] at hx; exact absurd rfl hx) (fun _ => by rw [this]; exact hr)
