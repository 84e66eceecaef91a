/-! PURE: a law is read, in tokens -/
def pnum (T : Tk) (lo hi : Nat) : Nat := if T.1 = 2 then (if T.2.2.1 < lo ∨ hi < T.2.2.1 then 2 else 0) else 1
theorem pnum_le (T : Tk) (lo hi : Nat) : pnum T lo hi ≤ 2 := by unfold pnum; split <;> (try split) <;> omega
theorem pnum_0 {T : Tk} {lo hi : Nat} (h : pnum T lo hi = 0) : T.1 = 2 ∧ lo ≤ T.2.2.1 ∧ T.2.2.1 ≤ hi := by
  unfold pnum at h
  split at h
  · next h1 =>
    split at h
    · omega
    · exact ⟨h1, by omega, by omega⟩
  · omega
theorem tc_lt {sg : Nat → Bool} {bs : Nat → Nat} {n : Nat} {T : Tk} (hb : ∀ i, bs i < 256) (h : IsTk sg bs n T) : T.1 < 256 ∧ T.2.1 ≤ 260 + n ∧ T.2.2.2 ≤ n := by
  obtain ⟨p, hp, rfl⟩ := h
  have h1 := tk_le (sg := sg) (bs := bs) hp
  refine ⟨?_, h1.2.2.2.1, h1.1⟩
  unfold tk tkAt
  split
  · split <;> simp
  · split
    · have := (tkRun_c (bs := bs) (q := skip bs n p) (e := rend bs n (skip bs n p))).2.2.2; omega
    · unfold tkSign
      split
      · split
        · split <;> simp
        · simp
      · split
        · exact hb _
        · simp
/-- a round: fault, token (at fault, or behind it), how many, buzz, right, pass, wrong -/
abbrev RdT : Type := Nat × Tk × Nat × Bool × Int32 × Int32 × Int32
def stF (nx : Tk → Tk) (T : Tk) (sz : Nat) (bz : Bool) (rt ps wr : Int32) : RdT := if T.1 = 59 then (0, nx T, sz, bz, rt, ps, wr) else (1, T, sz, bz, rt, ps, wr)
def stW (nx : Tk → Tk) (T : Tk) (sz : Nat) (bz : Bool) (rt ps : Int32) : RdT := if isK 8 T = true then (if pnum (nx T) 0 20 = 0 then stF nx (nx (nx T)) sz bz rt ps (nI (nx T).2.2.1) else (pnum (nx T) 0 20, nx T, sz, bz, rt, ps, 0)) else stF nx T sz bz rt ps 0
def stP (nx : Tk → Tk) (T : Tk) (sz : Nat) (bz : Bool) (rt : Int32) : RdT := if bz = false ∧ isK 7 T = true then (if pnum (nx T) 0 20 = 0 then stW nx (nx (nx T)) sz bz rt (nI (nx T).2.2.1) else (pnum (nx T) 0 20, nx T, sz, bz, rt, -1, 0)) else stW nx T sz bz rt (-1)
def stR (nx : Tk → Tk) (T : Tk) (sz : Nat) (bz : Bool) : RdT := if isK 6 T = true then (if pnum (nx T) 0 20 = 0 then stP nx (nx (nx T)) sz bz (nI (nx T).2.2.1) else (pnum (nx T) 0 20, nx T, sz, bz, 0, -1, 0)) else (1, T, sz, bz, 0, -1, 0)
/-- its head: fault, token, how many, buzz -/
def hdF (nx : Tk → Tk) (k : Nat) (T : Tk) : Nat × Tk × Nat × Bool := if isK 3 T = true then (if k = 6 then (3, T, 0, false) else if pnum (nx T) 1 8 = 0 then (if isK 4 (nx (nx T)) = true ∨ isK 5 (nx (nx T)) = true then (0, nx (nx (nx T)), (nx T).2.2.1, isK 4 (nx (nx T))) else (1, nx (nx T), 0, false)) else (pnum (nx T) 1 8, nx T, 0, false)) else (1, T, 0, false)
def rnd (nx : Tk → Tk) (k : Nat) (T : Tk) : RdT := if (hdF nx k T).1 = 0 then stR nx (hdF nx k T).2.1 (hdF nx k T).2.2.1 (hdF nx k T).2.2.2 else ((hdF nx k T).1, (hdF nx k T).2.1, 0, false, 0, -1, 0)
abbrev AcT : Type := (Nat → Nat) × (Nat → Bool) × (Nat → Int32) × (Nat → Int32) × (Nat → Int32)
def acU (a : AcT) (k : Nat) (r : RdT) : AcT := (upN a.1 k r.2.2.1, upN a.2.1 k r.2.2.2.1, upN a.2.2.1 k r.2.2.2.2.1, upN a.2.2.2.1 k r.2.2.2.2.2.1, upN a.2.2.2.2 k r.2.2.2.2.2.2)
/-- all rounds: fault, token, how many rounds, what they have -/
def lawF (nx : Tk → Tk) : Nat → Nat → Tk → AcT → Nat × Tk × Nat × AcT
  | 0, k, T, a => (9, T, k, a)
  | f + 1, k, T, a => if (rnd nx k T).1 = 0 then (if (rnd nx k T).2.1.1 = 0 then (0, (rnd nx k T).2.1, k + 1, acU a k (rnd nx k T)) else lawF nx f (k + 1) (rnd nx k T).2.1 (acU a k (rnd nx k T))) else ((rnd nx k T).1, (rnd nx k T).2.1, k, a)
/-! the class -/
def PLc (g : Gh) (d : Nat) : Nat → Nat → Prop := fun a k => (a = (gB g + 1) ∧ 2 ≤ k ∧ k ≤ 5) ∨ ((gB g + (d)) ≤ a ∧ a ≤ (gB g + (d + 5)))
/-- where the class stands: tape, token, draft -/
def CL (g : Gh) (M : Mem) (n : Nat) (bs : Nat → Nat) (T : Tk) : Prop := Lay g M ∧ TP g M (gB g + 1) (gB g + 2) n bs ∧ IsTk sgW bs n T ∧ CT g M T
def nxW (bs : Nat → Nat) (n : Nat) (T : Tk) : Tk := tk sgW bs n T.2.2.2
theorem isTk_nx {bs : Nat → Nat} {n : Nat} {T : Tk} (hb : ∀ i, bs i < 256) (h : IsTk sgW bs n T) : IsTk sgW bs n (nxW bs n T) := ⟨T.2.2.2, (tc_lt hb h).2.2, rfl⟩
theorem CL.fr {g : Gh} {M M' : Mem} {n : Nat} {bs : Nat → Nat} {T : Tk} {P Q : Nat → Nat → Prop} (h : CL g M n bs T) (f : Fr P Q M M') (hp : ∀ a k, P a k → ¬ (a = (gB g + 1) ∧ 1 ≤ k ∧ k ≤ 5) ∧ ¬ a = (gB g + 2)) (hq : ∀ a k, Q a k → ¬ (a = (gB g + 1) ∧ k = 4)) : CL g M' n bs T := ⟨f.lay h.1, h.2.1.fr f (fun a k hh => by have := hp a k hh; omega), h.2.2.1, h.2.2.2.fr f (fun a k hh => by have := hp a k hh; omega) hq⟩
theorem sp_nextW {g : Gh} {M : Mem} {n : Nat} {bs : Nat → Nat} {T : Tk} (h : CL g M n bs T) {post : Mem → Prop} (hq : ∀ M', Fr (PTc g) (QTc g) M M' → CL g M' n bs (nxW bs n T) → post M') : wp_X10_readNext g M (gB g + 1) (gK g 2) post := by
  have hb := h.2.1.2.2.2.2.2.2.2
  refine sp_nextC h.2.1 (i := 2) (Or.inr (Or.inr ⟨rfl, rfl⟩)) h.2.2.2.2.2.2 (tc_lt hb h.2.2.1).2.2 (fun M' f t c => hq M' f ⟨f.lay h.1, t, isTk_nx hb h.2.2.1, c⟩)
theorem sp_wordW {g : Gh} {M : Mem} {n : Nat} {bs : Nat → Nat} {T : Tk} (h : CL g M n bs T) {i : Nat} (hi : i < 9) (hi3 : 3 ≤ i) {post : Int32 → Mem → Prop} (hq : post (bI (isK i T)) M) : wp_X10_isWord g M (gB g + 1) (gK g i) post := sp_isWord h.2.1 (Or.inr (Or.inl rfl)) h.2.2.1 h.2.2.2 hi hi3 hq
theorem sp_fNum {g : Gh} {M : Mem} {n : Nat} {bs : Nat → Nat} {T : Tk} (h : CL g M n bs T) (lo hi : Nat) (hlo : lo < 100) (hhi : hi < 100) {post : Int32 → Mem → Prop} (hq : post (nI (pnum T lo hi)) M) : wp_X4_faultOfNumber g M (gB g + 1) (nI lo) (nI hi) post := by
  have hb := h.2.1.2.2.2.2.2.2.2
  have ht := tc_lt hb h.2.2.1
  refine ⟨lk_1 h.1, ?_⟩
  rw [h.2.2.2.1, nI_l (by omega), nI_l (by omega), lg_cmp_lt, lg_cmp_le]
  unfold pnum at hq
  refine pk_eq T.1 2 (fun h2 => ?_) (fun h2 => by rw [if_neg h2] at hq; exact hq)
  rw [if_pos h2] at hq
  have hv := tk_num (Or.inr (Or.inl rfl)) h.2.2.1 h2
  have ev : mJ M (gB g + 1) 4 = lN T.2.2.1 := by rw [h.2.2.2.2.2.1, h2]; rfl
  rw [ev, lN_lt (by omega) (by omega), lN_le (by omega) (by omega)]
  refine ⟨fun hx => ?_, fun hx => ⟨fun hy => ?_, fun hy => ?_⟩⟩
  · rw [if_pos (Or.inl hx)] at hq; exact hq
  · rw [if_neg (by omega)] at hq; exact hq
  · rw [if_pos (Or.inr (by omega))] at hq; exact hq
theorem valI {g : Gh} {M : Mem} {n : Nat} {bs : Nat → Nat} {T : Tk} (h : CL g M n bs T) (h2 : T.1 = 2) : Int64.toInt32 (mJ M (gB g + 1) 4) = nI T.2.2.1 := by
  have ev : mJ M (gB g + 1) 4 = lN T.2.2.1 := by rw [h.2.2.2.2.2.1, h2]; rfl
  rw [ev, lN_i]
/-- points into row i of the draft -/
theorem sp_readPts {g : Gh} {M : Mem} {n : Nat} {bs : Nat → Nat} {T : Tk} (h : CL g M n bs T) {i k : Nat} (hk : k < 6) (hi : 2 < i) (ho : okc (gB g) M (gB g + (i)) 14 ∧ mN M (gB g + (i)) = 6) {post : Int32 → Mem → Prop} (hq : ∀ M', Fr (fun a j => PTc g a j ∨ (a = (gB g + (i)) ∧ j = k)) (QTc g) M M' → (pnum (nxW bs n T) 0 20 ≠ 0 → CL g M' n bs (nxW bs n T) ∧ mI M' (gB g + (i)) k = mI M (gB g + (i)) k) → (pnum (nxW bs n T) 0 20 = 0 → CL g M' n bs (nxW bs n (nxW bs n T)) ∧ mI M' (gB g + (i)) k = nI (nxW bs n T).2.2.1) → post (nI (pnum (nxW bs n T) 0 20)) M') : wp_X4_readPoints g M (gB g + 1) (gB g + (i)) (nI k) post := by
  refine sp_nextW h (fun M1 f1 c1 => ?_)
  have g1 : Fr (fun a j => PTc g a j ∨ (a = (gB g + (i)) ∧ j = k)) (QTc g) M M1 := f1.mono (fun a j hh => Or.inl hh) (fun _ _ hh => hh)
  refine sp_fNum c1 0 20 (by decide) (by decide) ?_
  have hle := pnum_le (nxW bs n T) 0 20
  refine pk_eq (pnum (nxW bs n T) 0 20) 0 (fun h0 => ?_) (fun h0 => ?_)
  · refine ⟨fun hx => absurd hx (nI_pos (by omega)), fun _ => ⟨ho.1, ?_⟩⟩
    rw [ho.2]
    refine pk_le 6 k (fun hx => by omega) (fun _ => ⟨lk_1 h.1, pk_in k 6 hk, ?_⟩)
    rintro M11 rfl
    rw [valI c1 (pnum_0 h0).1, nI_cl k (by omega)]
    have f2 : Fr (fun a j => a = (gB g + (i)) ∧ j = k) nQ M1 (uI M1 (gB g + (i)) k (nI (nxW bs n T).2.2.1)) := Fr.rf.uI ⟨rfl, rfl⟩
    have c2 : CL g (uI M1 (gB g + (i)) k (nI (nxW bs n T).2.2.1)) n bs (nxW bs n T) := c1.fr f2 (fun a k hh => by omega) (fun a k hh => (hh : False).elim)
    have e2 : mI (uI M1 (gB g + (i)) k (nI (nxW bs n T).2.2.1)) (gB g + (i)) k = nI (nxW bs n T).2.2.1 := by rw [s_II, if_pos rfl, if_pos rfl]
    generalize uI M1 (gB g + (i)) k (nI (nxW bs n T).2.2.1) = M2 at f2 c2 e2 ⊢
    refine sp_nextW c2 (fun M3 f3 c3 => hq M3 ?_ (fun hx => absurd h0 hx) (fun _ => ⟨c3, ?_⟩))
    · exact (g1.tr (f2.mono (fun a j hh => Or.inr hh) (fun a k hh => (hh : False).elim))).tr (f3.mono (fun a j hh => Or.inl hh) (fun _ _ hh => hh))
    · rw [f3.1 _ _ (by unfold PTc; omega)]; exact e2
  · refine hq M1 g1 (fun _ => ⟨c1, ?_⟩) (fun hx => absurd hx h0)
    rw [f1.1 _ _ (by unfold PTc; omega)]
/-- the draft's first rounds -/
def DR (g : Gh) (M : Mem) (d k : Nat) (a : AcT) : Prop := mI M (gB g + (d)) 0 = nI k ∧ mI M (gB g + (d)) 1 = nI (pre a.1 k) ∧ ∀ j, j < k → mI M (gB g + (d + 1)) j = nI (a.1 j) ∧ mI M (gB g + (d + 2)) j = bI (a.2.1 j) ∧ mI M (gB g + (d + 3)) j = a.2.2.1 j ∧ mI M (gB g + (d + 4)) j = a.2.2.2.1 j ∧ mI M (gB g + (d + 5)) j = a.2.2.2.2 j
theorem DR.fr {g : Gh} {M M' : Mem} {d k : Nat} {a : AcT} {P Q : Nat → Nat → Prop} (h : DR g M d k a) (f : Fr P Q M M') (hp : ∀ b j, P b j → ¬ (b = (gB g + (d)) ∧ j ≤ 1) ∧ ¬ ((gB g + (d + 1)) ≤ b ∧ b ≤ (gB g + (d + 5)) ∧ j < k)) : DR g M' d k a := by
  refine ⟨?_, ?_, fun j hj => ?_⟩
  · rw [f.1 _ _ (fun hh => by have := hp _ _ hh; omega)]; exact h.1
  · rw [f.1 _ _ (fun hh => by have := hp _ _ hh; omega)]; exact h.2.1
  · rw [f.1 _ _ (fun hh => by have := hp _ _ hh; omega), f.1 _ _ (fun hh => by have := hp _ _ hh; omega), f.1 _ _ (fun hh => by have := hp _ _ hh; omega), f.1 _ _ (fun hh => by have := hp _ _ hh; omega), f.1 _ _ (fun hh => by have := hp _ _ hh; omega)]; exact h.2.2 j hj
theorem sp_headC {g : Gh} {M : Mem} {n : Nat} {bs : Nat → Nat} {T : Tk} (h : CL g M n bs T) {d k : Nat} (hd : d = 49 ∨ d = 55) (hk : k ≤ 6) {a : AcT} (hr : DR g M d k a) {post : Int32 → Mem → Prop} (hq : ∀ M', Fr (PLc g d) (QTc g) M M' → CL g M' n bs (hdF (nxW bs n) k T).2.1 → DR g M' d k a → ((hdF (nxW bs n) k T).1 = 0 → k < 6 ∧ mI M' (gB g + (d + 1)) k = nI (hdF (nxW bs n) k T).2.2.1 ∧ mI M' (gB g + (d + 2)) k = bI (hdF (nxW bs n) k T).2.2.2 ∧ 1 ≤ (hdF (nxW bs n) k T).2.2.1 ∧ (hdF (nxW bs n) k T).2.2.1 ≤ 8) → post (nI (hdF (nxW bs n) k T).1) M') : wp_X4_faultOfHead g M (gB g + (d)) (gB g + 1) post := by
  have hl := lk_law h.1 hd
  have hn := ln_law h.1 hd
  refine ⟨hl.1, sp_wordW h (i := 3) (by decide) (by decide) ?_⟩
  cases hK : isK 3 T with
  | false =>
    refine ⟨fun _ => ?_, fun hx => absurd rfl hx⟩
    have e : hdF (nxW bs n) k T = (1, T, 0, false) := by unfold hdF; rw [hK]; rfl
    rw [e] at hq
    exact hq M Fr.rf h hr (fun hx => absurd (show (1 : Nat) = 0 from hx) (by decide))
  | true =>
    refine ⟨fun hx => absurd hx (by decide), fun _ => ?_⟩
    rw [hr.1]
    refine pk_lt k 6 (fun hk6 => ?_) (fun hk6 => ?_)
    · have e : hdF (nxW bs n) k T = if pnum (nxW bs n T) 1 8 = 0 then (if isK 4 (nxW bs n (nxW bs n T)) = true ∨ isK 5 (nxW bs n (nxW bs n T)) = true then (0, nxW bs n (nxW bs n (nxW bs n T)), (nxW bs n T).2.2.1, isK 4 (nxW bs n (nxW bs n T))) else (1, nxW bs n (nxW bs n T), 0, false)) else (pnum (nxW bs n T) 1 8, nxW bs n T, 0, false) := by
        unfold hdF; rw [if_pos hK, if_neg (by omega)]
      rw [e] at hq
      refine sp_nextW h (fun M1 f1 c1 => sp_fNum c1 1 8 (by decide) (by decide) ?_)
      have g1 : Fr (PLc g d) (QTc g) M M1 := f1.mono (fun a j hh => by unfold PTc at hh; unfold PLc; omega) (fun _ _ hh => hh)
      have r1 : DR g M1 d k a := hr.fr f1 (fun b j hh => by unfold PTc at hh; omega)
      have hle := pnum_le (nxW bs n T) 1 8
      refine pk_eq (pnum (nxW bs n T) 1 8) 0 (fun h0 => ?_) (fun h0 => ?_)
      · rw [if_pos h0] at hq
        have h8 := pnum_0 h0
        refine ⟨_, by rw [f1.R]; exact hl.2.1, lk_1 h.1, hn.1.1, ?_, ?_⟩
        · rw [hn.1.2, r1.1]; exact pk_in k 6 hk6
        rintro M37 rfl
        rw [valI c1 h8.1, r1.1, nI_cl k (by omega)]
        have f2 : Fr (fun a j => a = (gB g + (d + 1)) ∧ j = k) nQ M1 (uI M1 (gB g + (d + 1)) k (nI (nxW bs n T).2.2.1)) := Fr.rf.uI ⟨rfl, rfl⟩
        have c2 : CL g (uI M1 (gB g + (d + 1)) k (nI (nxW bs n T).2.2.1)) n bs (nxW bs n T) := c1.fr f2 (fun a k hh => by omega) (fun a k hh => (hh : False).elim)
        have r2 := r1.fr f2 (fun b j hh => by omega)
        have e2 : mI (uI M1 (gB g + (d + 1)) k (nI (nxW bs n T).2.2.1)) (gB g + (d + 1)) k = nI (nxW bs n T).2.2.1 := by rw [s_II, if_pos rfl, if_pos rfl]
        generalize uI M1 (gB g + (d + 1)) k (nI (nxW bs n T).2.2.1) = M2 at f2 c2 r2 e2 ⊢
        have g2 : Fr (PLc g d) (QTc g) M M2 := g1.tr (f2.mono (fun a j hh => by unfold PLc; omega) (fun a k hh => (hh : False).elim))
        refine sp_nextW c2 (fun M3 f3 c3 => ⟨_, by rw [f3.R, f2.R, f1.R]; exact hl.2.2.1, sp_wordW c3 (i := 4) (by decide) (by decide) ⟨hn.2.1.1, ?_, ?_⟩⟩)
        · rw [hn.2.1.2, f3.1 _ _ (by unfold PTc; omega), r2.1]; exact pk_in k 6 hk6
        rintro M9 rfl
        rw [f3.1 _ _ (by unfold PTc; omega), r2.1, nI_cl k (by omega), nb_b]
        have g3 : Fr (PLc g d) (QTc g) M M3 := g2.tr (f3.mono (fun a j hh => by unfold PTc at hh; unfold PLc; omega) (fun _ _ hh => hh))
        have r3 := r2.fr f3 (fun b j hh => by unfold PTc at hh; omega)
        have e3 : mI M3 (gB g + (d + 1)) k = nI (nxW bs n T).2.2.1 := by rw [f3.1 _ _ (by unfold PTc; omega)]; exact e2
        have f4 : Fr (fun a j => a = (gB g + (d + 2)) ∧ j = k) nQ M3 (uI M3 (gB g + (d + 2)) k (bI (isK 4 (nxW bs n (nxW bs n T))))) := Fr.rf.uI ⟨rfl, rfl⟩
        have c4 : CL g (uI M3 (gB g + (d + 2)) k (bI (isK 4 (nxW bs n (nxW bs n T))))) n bs (nxW bs n (nxW bs n T)) := c3.fr f4 (fun a k hh => by omega) (fun a k hh => (hh : False).elim)
        have r4 := r3.fr f4 (fun b j hh => by omega)
        have e4 : mI (uI M3 (gB g + (d + 2)) k (bI (isK 4 (nxW bs n (nxW bs n T))))) (gB g + (d + 2)) k = bI (isK 4 (nxW bs n (nxW bs n T))) := by rw [s_II, if_pos rfl, if_pos rfl]
        have e41 : mI (uI M3 (gB g + (d + 2)) k (bI (isK 4 (nxW bs n (nxW bs n T))))) (gB g + (d + 1)) k = nI (nxW bs n T).2.2.1 := by rw [f4.1 _ _ (by omega)]; exact e3
        generalize uI M3 (gB g + (d + 2)) k (bI (isK 4 (nxW bs n (nxW bs n T)))) = M4 at f4 c4 r4 e4 e41 ⊢
        have g4 : Fr (PLc g d) (QTc g) M M4 := g3.tr (f4.mono (fun a j hh => by unfold PLc; omega) (fun a k hh => (hh : False).elim))
        refine ⟨_, by rw [f4.R, f3.R, f2.R, f1.R]; exact hl.2.2.1, hn.2.1.1, by rw [hn.2.1.2, r4.1]; exact pk_in k 6 hk6, ?_⟩
        rw [r4.1, nI_cl k (by omega), e4]
        have fin : (isK 4 (nxW bs n (nxW bs n T)) = true ∨ isK 5 (nxW bs n (nxW bs n T)) = true) → wp_X10_readNext g M4 (gB g + 1) (gK g 2) (fun M17 => post 0 M17) := by
          intro hor
          rw [if_pos hor] at hq
          refine sp_nextW c4 (fun M5 f5 c5 => ?_)
          refine hq M5 (g4.tr (f5.mono (fun a j hh => by unfold PTc at hh; unfold PLc; omega) (fun _ _ hh => hh))) c5 (r4.fr f5 (fun b j hh => by unfold PTc at hh; omega)) (fun _ => ⟨hk6, ?_, ?_, h8.2.1, h8.2.2⟩)
          · rw [f5.1 _ _ (by unfold PTc; omega)]; exact e41
          · rw [f5.1 _ _ (by unfold PTc; omega)]; exact e4
        cases h4 : isK 4 (nxW bs n (nxW bs n T)) with
        | true => exact ⟨fun hx => absurd hx (by decide), fun _ => fin (Or.inl h4)⟩
        | false =>
          refine ⟨fun _ => sp_wordW c4 (i := 5) (by decide) (by decide) ?_, fun hx => absurd rfl hx⟩
          cases h5 : isK 5 (nxW bs n (nxW bs n T)) with
          | true => exact ⟨fun hx => absurd hx (by decide), fun _ => fin (Or.inr h5)⟩
          | false =>
            refine ⟨fun _ => ?_, fun hx => absurd rfl hx⟩
            rw [if_neg (by simp [h4, h5])] at hq
            exact hq M4 g4 c4 r4 (fun hx => absurd (show (1 : Nat) = 0 from hx) (by decide))
      · rw [if_neg h0] at hq
        exact hq M1 g1 c1 r1 (fun hx => absurd hx h0)
    · have e : hdF (nxW bs n) k T = (3, T, 0, false) := by unfold hdF; rw [if_pos hK, if_pos (by omega)]
      rw [e] at hq
      exact hq M Fr.rf h hr (fun hx => absurd (show (3 : Nat) = 0 from hx) (by decide))
