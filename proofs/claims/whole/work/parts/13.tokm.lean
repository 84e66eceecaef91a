/-! PURE: the reference's tokens -/
def TM (g : Gh) (M : Mem) (m b n : Nat) (bs : Nat → Nat) : Prop := okc (gB g) M m 12 ∧ mR M m 1 = some b ∧ okc (gB g) M b 14 ∧ mN M b = 260 ∧ mI M m 3 = nI n ∧ n ≤ 260 ∧ (∀ i, i < 260 → mI M b i = nI (bs i)) ∧ (∀ i, bs i < 256)
theorem TM.ne {g : Gh} {M : Mem} {m b n : Nat} {bs : Nat → Nat} (h : TM g M m b n bs) : b ≠ m := okc_ne h.2.2.1 h.1 (by decide)
theorem TM.uI {g : Gh} {M : Mem} {m b n : Nat} {bs : Nat → Nat} (h : TM g M m b n bs) (k : Nat) (v : Int32) (hk : k ≠ 3) : TM g (uI M m k v) m b n bs := by
  refine ⟨h.1, h.2.1, h.2.2.1, h.2.2.2.1, ?_, h.2.2.2.2.2.1, fun i hi => ?_, h.2.2.2.2.2.2.2⟩
  · rw [s_II, if_pos rfl, if_neg (Ne.symm hk)]; exact h.2.2.2.2.1
  · rw [s_II, if_neg h.ne]; exact h.2.2.2.2.2.2.1 i hi
theorem TM.uJ {g : Gh} {M : Mem} {m b n : Nat} {bs : Nat → Nat} (h : TM g M m b n bs) (k : Nat) (v : Int64) : TM g (uJ M m k v) m b n bs := h
/-- the reference's kinds by the codes -/
def km (c : Nat) : Nat := if c = 0 then 0 else if c = 1 then 2 else if c = 2 then 3 else if c = 3 then 1 else 4
def gset (M : Mem) (m : Nat) (to fr kd sg : Int32) (v : Int64) : Mem := uI (uI (uI (uI (uJ M m 8 v) m 4 to) m 5 fr) m 6 kd) m 7 sg
theorem gset_at {M M' : Mem} {m : Nat} {to fr kd sg : Int32} {v : Int64} {post : Mem → Prop} (hq : post (gset M m to fr kd sg v)) (h4 : mI M' m 4 = to) (h5 : mI M' m 5 = fr) (h6 : mI M' m 6 = kd) (h7 : mI M' m 7 = sg) (h8 : mJ M' m 8 = v) (hi : ∀ b j, ¬ (b = m ∧ (j = 4 ∨ j = 5 ∨ j = 6 ∨ j = 7)) → mI M' b j = mI M b j) (hj : ∀ b j, ¬ (b = m ∧ j = 8) → mJ M' b j = mJ M b j) (hr : M'.2.2 = M.2.2) : post M' := by
  have e : M' = gset M m to fr kd sg v := by
    refine mem_ext (fun b j => ?_) (fun b j => ?_) hr
    · simp only [gset, s_II, s_IJ]
      by_cases hb : b = m
      · subst hb
        rcases (show j = 4 ∨ j = 5 ∨ j = 6 ∨ j = 7 ∨ (j ≠ 4 ∧ j ≠ 5 ∧ j ≠ 6 ∧ j ≠ 7) by omega) with rfl | rfl | rfl | rfl | ⟨a1, a2, a3, a4⟩
        · simp [h4]
        · simp [h5]
        · simp [h6]
        · simp [h7]
        · simp [a1, a2, a3, a4, hi b j (by omega)]
      · simp [hb, hi b j (by simp [hb])]
    · simp only [gset, s_JJ, s_JI]
      by_cases hb : b = m
      · subst hb
        by_cases h : j = 8
        · subst h; simp [h8]
        · simp [h, hj b j (by simp [h])]
      · simp [hb, hj b j (by simp [hb])]
  rw [e]; exact hq
theorem sp_X12_at {g : Gh} {M : Mem} {m b n : Nat} {bs : Nat → Nat} (h : TM g M m b n bs) (p : Nat) (hp : p < 2 ^ 31) {post : Int32 → Mem → Prop} (hq : post (nI (if p < n then bs p else 0)) M) : wp_X12_at g M m (nI p) post := by
  have hn := h.2.2.2.2.2.1
  refine ⟨h.1, ?_⟩
  rw [h.2.2.2.2.1]
  refine pk_le n p (fun hc => ?_) (fun hc => ⟨b, h.2.1, h.2.2.1, ?_, ?_⟩)
  · rw [if_neg (by omega)] at hq; exact hq
  · rw [h.2.2.2.1]; exact pk_in p 260 (by omega)
  · rw [pk_cl p, h.2.2.2.2.2.2.1 p (by omega)]
    rw [if_pos hc] at hq
    exact hq
theorem sp_X12_isLetter {g : Gh} {M : Mem} (c : Nat) (hc : c < 256) {post : Int32 → Mem → Prop} (hq : post (if isL c = true then 1 else 0) M) : wp_X12_isLetter g M (nI c) post := by
  simp only [isL_iff] at hq
  refine pk_lt c 97 (fun h => ?_) (fun h => pk_lt 122 c (fun h2 => ?_) (fun h2 => ?_))
  · rw [if_neg (by omega)] at hq; exact hq
  · rw [if_neg (by omega)] at hq; exact hq
  · rw [if_pos (by omega)] at hq; exact hq
theorem sp_X12_isDigit {g : Gh} {M : Mem} (c : Nat) (hc : c < 256) {post : Int32 → Mem → Prop} (hq : post (if isD c = true then 1 else 0) M) : wp_X12_isDigit g M (nI c) post := by
  simp only [isD_iff] at hq
  refine pk_lt c 48 (fun h => ?_) (fun h => pk_lt 57 c (fun h2 => ?_) (fun h2 => ?_))
  · rw [if_neg (by omega)] at hq; exact hq
  · rw [if_neg (by omega)] at hq; exact hq
  · rw [if_pos (by omega)] at hq; exact hq
theorem lN_next (v c d e : Nat) (hc : c < 256) (he : e ≤ c) : lN d * lN v + (nI c).toInt64 - lN e = lN (v * d + (c - e)) := by
  rw [nI_l (by omega), show lN d * lN v = lN v * lN d from Int64.mul_comm _ _, lN_step, lN_sub (by omega)]
  congr 1; omega
theorem cL_pos {bs : Nat → Nat} {q : Nat} (h : isL (bs q) = true) : ∀ k, 1 ≤ k → 1 ≤ cL bs q k
  | 1, _ => by show 1 ≤ (if isL (bs (q + 0)) = true then _ else _); rw [if_pos (show isL (bs (q + 0)) = true from h)]; exact Nat.le_add_left _ _
  | k + 2, _ => by
    have ih := cL_pos h (k + 1) (by omega)
    show 1 ≤ (if isL (bs (q + (k + 1))) = true then _ else _)
    split <;> omega
theorem cD_pos {bs : Nat → Nat} {q : Nat} (h : isD (bs q) = true) : ∀ k, 1 ≤ k → 1 ≤ cD bs q k
  | 1, _ => by show 1 ≤ (if isD (bs (q + 0)) = true then _ else _); rw [if_pos (show isD (bs (q + 0)) = true from h)]; exact Nat.le_add_left _ _
  | k + 2, _ => by
    have ih := cD_pos h (k + 1) (by omega)
    show 1 ≤ (if isD (bs (q + (k + 1))) = true then _ else _)
    split <;> omega
/-- whether all so far are like the first -/
def gd (bs : Nat → Nat) (q k : Nat) : Prop := if isL (bs q) = true then cD bs q k = 0 else cL bs q k = 0
theorem gd_step {bs : Nat → Nat} {q k : Nat} (ha : isA (bs (q + k)) = true) : gd bs q (k + 1) ↔ gd bs q k ∧ (isL (bs (q + k)) = true ↔ isL (bs q) = true) := by
  have e1 : cD bs q (k + 1) = if isD (bs (q + k)) = true then cD bs q k + 1 else cD bs q k := rfl
  have e2 : cL bs q (k + 1) = if isL (bs (q + k)) = true then cL bs q k + 1 else cL bs q k := rfl
  unfold gd
  rw [e1, e2]
  by_cases h1 : isL (bs q) = true
  · rw [if_pos h1, if_pos h1]
    by_cases h2 : isL (bs (q + k)) = true
    · rw [if_neg (isLD h2)]; simp [h1, h2]
    · rw [if_pos (rl_of ha h2)]; simp [h1, h2]
  · rw [if_neg h1, if_neg h1]
    by_cases h2 : isL (bs (q + k)) = true
    · rw [if_pos h2]; simp [h1, h2]
    · rw [if_neg h2]; simp [h1, h2]
set_option maxHeartbeats 1000000 in
theorem sp_X12_readWord {g : Gh} {M : Mem} {m b n q : Nat} {bs : Nat → Nat} (h : TM g M m b n bs) (h4 : mI M m 4 = nI q) (h5 : mI M m 5 = nI q) (hqn : q < n) (ha : isA (bs q) = true) {post : Mem → Prop} (hq : ∀ v, ((tkRun bs q (rend bs n q)).1 ≠ 3 → v = lN (tkRun bs q (rend bs n q)).2.2.1) → post (gset M m (nI (rend bs n q)) (nI q) (nI (km (tkRun bs q (rend bs n q)).1)) (mI M m 7) v)) : wp_X12_readWord g M m post := by
  have hn := h.2.2.2.2.2.1
  have hb8 := h.2.2.2.2.2.2.2
  have he := rend_le bs (n := n) (p := q) (by omega)
  have hal := rend_all bs n (n - q) q (by omega)
  have hlt : q < rend bs n q := rend_lt he.1 hqn ha
  refine ⟨h.1, b, h.2.1, h.2.2.1, ?_, ?_⟩
  · rw [h.2.2.2.1, h4]; exact pk_in q 260 (by omega)
  rw [h4, pk_cl q, h.2.2.2.2.2.2.1 q (by omega)]
  refine sp_X12_isLetter _ (hb8 q) ?_
  rintro M49 rfl
  -- the end
  have fin : ∀ (k : Nat) (v : Int64) (x2 : Int32), q + k = rend bs n q → (gd bs q k → k ≤ 12 → v = lN (if isL (bs q) = true then wL bs q k else wD bs q k)) → (gd bs q k → x2 = 1) → (¬ gd bs q k → x2 = 0) → lb_X12_readWord_144 g M m post (if isL (bs q) = true then 1 else 0) x2 (uI (uJ M m 8 v) m 4 (nI (q + k))) := by
    intro k v x2 hk hv hg1 hg0
    have hLD := cLD bs q k (fun i hi => hal (q + i) (by omega) (by omega))
    have hek : rend bs n q - q = k := by omega
    have e4 : mI (uI (uJ M m 8 v) m 4 (nI (q + k))) m 4 = nI (q + k) := by simp [s_II]
    have e5 : mI (uI (uJ M m 8 v) m 4 (nI (q + k))) m 5 = nI q := by simp [s_II, s_IJ, h5]
    have put : ∀ (c : Nat) (kd : Int32), (tkRun bs q (rend bs n q)).1 = c → kd = nI (km c) → ((tkRun bs q (rend bs n q)).1 ≠ 3 → v = lN (tkRun bs q (rend bs n q)).2.2.1) → post (uI (uI (uJ M m 8 v) m 4 (nI (q + k))) m 6 kd) := by
      rintro c kd hc rfl hvv
      have hq := hq v hvv
      rw [hc] at hq
      refine gset_at hq ?_ ?_ ?_ ?_ ?_ ?_ ?_ rfl
      · simp [s_II, hk]
      · simp [s_II, s_IJ, h5]
      · simp [s_II]
      · simp [s_II, s_IJ]
      · simp [s_JJ, s_JI]
      · intro b j hbj; simp only [s_II, s_IJ]; by_cases hb : b = m <;> simp [hb]; simp [hb] at hbj; simp [hbj]
      · intro b j hbj; simp only [s_JJ, s_JI]; by_cases hb : b = m <;> simp [hb]; simp [hb] at hbj; simp [hbj]
    unfold lb_X12_readWord_144
    rw [e4, e5, pk_sub (by omega), show q + k - q = k by omega]
    by_cases hL : isL (bs q) = true
    · rw [if_pos hL]
      have hp := cL_pos hL k (by omega)
      rw [if_pos hL] at hv
      have hgd : gd bs q k ↔ cD bs q k = 0 := by unfold gd; rw [if_pos hL]
      rw [hgd] at hv hg1 hg0
      by_cases hg : cD bs q k = 0
      · rw [hg1 hg]
        refine ⟨fun hh => absurd hh (by decide), fun _ => ⟨fun hh => absurd hh (by decide), fun _ => ?_⟩⟩
        refine pk_le k 12 (fun c => ⟨fun hh => absurd hh (by decide), fun _ => ⟨h.1, ?_⟩⟩) (fun c => ⟨h.1, ?_⟩)
        · rintro M7 rfl
          have e : tkRun bs q (rend bs n q) = (1, q, wL bs q k, rend bs n q) := by unfold tkRun; rw [hek, if_pos ⟨hg, by omega⟩]
          exact put 1 2 (by rw [e]) rfl (fun _ => by rw [e]; exact hv hg c)
        · rintro M7 rfl
          have e : tkRun bs q (rend bs n q) = (3, q, 0, rend bs n q) := by unfold tkRun; rw [hek, if_neg (by omega), if_neg (by omega)]
          exact put 3 1 (by rw [e]) rfl (fun hh => absurd (by rw [e]) hh)
      · rw [hg0 hg]
        refine ⟨fun _ => ?_, fun hh => absurd rfl hh⟩
        rintro M7 rfl
        have e : tkRun bs q (rend bs n q) = (3, q, 0, rend bs n q) := by unfold tkRun; rw [hek, if_neg (by omega), if_neg (by omega)]
        exact put 3 1 (by rw [e]) rfl (fun hh => absurd (by rw [e]) hh)
    · rw [if_neg hL]
      have hp := cD_pos (rl_of ha hL) k (by omega)
      rw [if_neg hL] at hv
      have hgd : gd bs q k ↔ cL bs q k = 0 := by unfold gd; rw [if_neg hL]
      rw [hgd] at hv hg1 hg0
      by_cases hg : cL bs q k = 0
      · rw [hg1 hg]
        refine ⟨fun hh => absurd hh (by decide), fun _ => ⟨fun _ => ?_, fun hh => absurd rfl hh⟩⟩
        refine pk_le k 6 (fun c => ⟨fun _ => ⟨h.1, ?_⟩, fun hh => absurd rfl hh⟩) (fun c => ⟨h.1, ?_⟩)
        · rintro M7 rfl
          have e : tkRun bs q (rend bs n q) = (2, q, wD bs q k, rend bs n q) := by unfold tkRun; rw [hek, if_neg (by omega), if_pos ⟨hg, by omega⟩]
          exact put 2 3 (by rw [e]) rfl (fun _ => by rw [e]; exact hv hg (by omega))
        · rintro M7 rfl
          have e : tkRun bs q (rend bs n q) = (3, q, 0, rend bs n q) := by unfold tkRun; rw [hek, if_neg (by omega), if_neg (by omega)]
          exact put 3 1 (by rw [e]) rfl (fun hh => absurd (by rw [e]) hh)
      · rw [hg0 hg]
        refine ⟨fun _ => ?_, fun hh => absurd rfl hh⟩
        rintro M7 rfl
        have e : tkRun bs q (rend bs n q) = (3, q, 0, rend bs n q) := by unfold tkRun; rw [hek, if_neg (by omega), if_neg (by omega)]
        exact put 3 1 (by rw [e]) rfl (fun hh => absurd (by rw [e]) hh)
  refine lfp_ms (fun s => ∃ (k : Nat) (v : Int64) (x2 : Int32), q + k ≤ rend bs n q ∧ (gd bs q k → k ≤ 12 → v = lN (if isL (bs q) = true then wL bs q k else wD bs q k)) ∧ (gd bs q k → x2 = 1) ∧ (¬ gd bs q k → x2 = 0) ∧ s = ((if isL (bs q) = true then 1 else 0), x2, uI (uJ M m 8 v) m 4 (nI (q + k)))) (fun s => n - (mI s.2.2 m 4).toNatClampNeg) ?_ _ ⟨0, 0, 1, by omega, fun _ _ => ?_, fun _ => rfl, fun hh => absurd ?_ hh, ?_⟩
  rotate_left
  · split <;> rfl
  · unfold gd; split <;> rfl
  · rw [show q + 0 = q from rfl, uI_same (show mI (uJ M m 8 0) m 4 = nI q from h4)]
  rintro bk s ⟨k, v, x2, hk, hv, hg1, hg0, rfl⟩ hb
  show bd_X12_readWord_20 g M m post bk _ _ _
  have hT : TM g (uI (uJ M m 8 v) m 4 (nI (q + k))) m b n bs := TM.uI (M := uJ M m 8 v) h 4 _ (by decide)
  have e4 : mI (uI (uJ M m 8 v) m 4 (nI (q + k))) m 4 = nI (q + k) := by simp [s_II]
  have e5 : mI (uI (uJ M m 8 v) m 4 (nI (q + k))) m 5 = nI q := by simp [s_II, s_IJ, h5]
  have e8 : mJ (uI (uJ M m 8 v) m 4 (nI (q + k))) m 8 = v := by simp [s_JJ, s_JI]
  have step : isA (bs (q + k)) = true → q + k < n → lb_X12_readWord_48 g M m post bk (if isL (bs q) = true then 1 else 0) x2 (uI (uJ M m 8 v) m 4 (nI (q + k))) := by
    intro hak hkn
    have hlt2 : q + k < rend bs n q := rend_lt hk hkn hak
    have hgs := gd_step (bs := bs) (q := q) hak
    refine ⟨b, hT.2.1, hT.2.2.1, ?_, ?_⟩
    · show vp_in _ (mN M b)
      rw [h.2.2.2.1, e4]; exact pk_in (q + k) 260 (by omega)
    rw [e4, pk_cl (q + k), hT.2.2.2.2.2.2.1 (q + k) (by omega)]
    have nxt : ∀ (s0 : Int32), (gd bs q (k + 1) → s0 = 1) → (¬ gd bs q (k + 1) → s0 = 0) → lb_X12_readWord_75 g M m post bk (if isL (bs q) = true then 1 else 0) (nI (bs (q + k))) s0 (uI (uJ M m 8 v) m 4 (nI (q + k))) := by
      intro s0 hs1 hs0
      unfold lb_X12_readWord_75
      rw [e4, e5, e8, pk_sub (by omega), show q + k - q = k by omega]
      have up : ∀ (v' : Int64) (M' : Mem), (gd bs q (k + 1) → k + 1 ≤ 12 → v' = lN (if isL (bs q) = true then wL bs q (k + 1) else wD bs q (k + 1))) → M' = uI (uJ M m 8 v') m 4 (nI (q + (k + 1))) → bk ((if isL (bs q) = true then 1 else 0), s0, M') := by
        rintro v' M' hv' rfl
        refine hb _ ⟨k + 1, v', s0, by omega, hv', hs1, hs0, rfl⟩ ?_
        show n - (mI (uI (uJ M m 8 v') m 4 (nI (q + (k + 1)))) m 4).toNatClampNeg < n - (mI (uI (uJ M m 8 v) m 4 (nI (q + k))) m 4).toNatClampNeg
        rw [e4, show mI (uI (uJ M m 8 v') m 4 (nI (q + (k + 1)))) m 4 = nI (q + (k + 1)) by simp [s_II], nI_clamp (by omega), nI_clamp (by omega)]
        omega
      have mem : ∀ v', uI (uJ (uI (uJ M m 8 v) m 4 (nI (q + k))) m 8 v') m 4 (nI (q + k) + 1) = uI (uJ M m 8 v') m 4 (nI (q + (k + 1))) := by
        intro v'
        rw [nI_1]
        refine mem_ext (fun b j => ?_) (fun b j => ?_) rfl
        · simp only [s_II, s_IJ, ← Nat.add_assoc]; split <;> (try split) <;> rfl
        · simp only [s_JJ, s_JI]; split <;> (try split) <;> rfl
      refine pk_le 12 k (fun c => ?_) (fun c => ?_)
      · rintro M22 rfl
        refine up v _ (fun _ hh => by omega) ?_
        rw [nI_1, uI_uI, Nat.add_assoc]
      · have l128 : ∀ v', (gd bs q (k + 1) → k + 1 ≤ 12 → v' = lN (if isL (bs q) = true then wL bs q (k + 1) else wD bs q (k + 1))) → lb_X12_readWord_128 g M m post bk (if isL (bs q) = true then 1 else 0) s0 m v' (uI (uJ M m 8 v) m 4 (nI (q + k))) := by
          intro v' hv'
          refine ⟨h.1, ?_⟩
          rintro M17 rfl M19 rfl
          refine up v' _ hv' ?_
          rw [show mI (uJ (uI (uJ M m 8 v) m 4 (nI (q + k))) m 8 v') m 4 = nI (q + k) from e4]
          exact mem v'
        by_cases hL : isL (bs q) = true
        · rw [if_pos hL]
          refine ⟨fun hh => absurd hh (by decide), fun _ => ?_⟩
          rw [if_pos hL] at hv
          have z := l128 (27 * v + (nI (bs (q + k))).toInt64 - 96)
          rw [if_pos (c := isL (bs q) = true) (t := (1 : Int32)) hL] at z
          refine z (fun hg hk12 => ?_)
          have hg' := hgs.mp hg
          have hLk := hg'.2.mpr hL
          rw [if_pos hL, hv hg'.1 (by omega)]
          have e3 : wL bs q (k + 1) = wL bs q k * 27 + (bs (q + k) - 96) := if_pos hLk
          rw [e3]
          exact lN_next _ _ 27 96 (hb8 _) (by rw [isL_iff] at hLk; omega)
        · rw [if_neg hL]
          refine ⟨fun _ => ?_, fun hh => absurd rfl hh⟩
          rw [if_neg hL] at hv
          have z := l128 (10 * v + (nI (bs (q + k))).toInt64 - 48)
          rw [if_neg (c := isL (bs q) = true) (t := (1 : Int32)) hL] at z
          refine z (fun hg hk12 => ?_)
          have hg' := hgs.mp hg
          have hLk : ¬ isL (bs (q + k)) = true := fun hx => hL (hg'.2.mp hx)
          have hDk := rl_of hak hLk
          rw [if_neg hL, hv hg'.1 (by omega)]
          have e3 : wD bs q (k + 1) = wD bs q k * 10 + (bs (q + k) - 48) := if_pos hDk
          rw [e3]
          exact lN_next _ _ 10 48 (hb8 _) (by rw [isD_iff] at hDk; omega)
    by_cases hg : gd bs q k
    · rw [hg1 hg]
      refine ⟨fun hh => absurd hh (by decide), fun _ => sp_X12_isLetter _ (hb8 _) ?_⟩
      by_cases hLk : isL (bs (q + k)) = true
      · rw [if_pos hLk]
        by_cases hL : isL (bs q) = true
        · rw [if_pos hL]
          rw [if_pos hL] at nxt
          exact ⟨fun _ => nxt 1 (fun _ => rfl) (fun hh => absurd (hgs.mpr ⟨hg, by simp [hLk, hL]⟩) hh), fun hh => absurd rfl hh⟩
        · rw [if_neg hL]
          rw [if_neg hL] at nxt
          exact ⟨fun hh => absurd hh (by decide), fun _ => nxt 0 (fun hh => absurd (hgs.mp hh).2 (by simp [hLk, hL])) (fun _ => rfl)⟩
      · rw [if_neg hLk]
        by_cases hL : isL (bs q) = true
        · rw [if_pos hL]
          rw [if_pos hL] at nxt
          exact ⟨fun hh => absurd hh (by decide), fun _ => nxt 0 (fun hh => absurd (hgs.mp hh).2 (by simp [hLk, hL])) (fun _ => rfl)⟩
        · rw [if_neg hL]
          rw [if_neg hL] at nxt
          exact ⟨fun _ => nxt 1 (fun _ => rfl) (fun hh => absurd (hgs.mpr ⟨hg, by simp [hLk, hL]⟩) hh), fun hh => absurd rfl hh⟩
    · rw [hg0 hg]
      exact ⟨fun _ => nxt 0 (fun hh => absurd (hgs.mp hh).1 hg) (fun _ => rfl), fun hh => absurd rfl hh⟩
  unfold bd_X12_readWord_20
  rw [e4]
  refine sp_X12_at hT (q + k) (by omega) ?_
  have stop : ¬ (q + k < n ∧ isA (bs (q + k)) = true) → q + k = rend bs n q := by
    intro hh
    rcases Nat.lt_or_ge (q + k) (rend bs n q) with hx | hx
    · exact absurd ⟨by omega, hal (q + k) (by omega) hx⟩ hh
    · omega
  by_cases hkn : q + k < n
  · rw [if_pos hkn]
    refine sp_X12_isLetter _ (hb8 _) ?_
    by_cases hLk : isL (bs (q + k)) = true
    · rw [if_pos hLk]
      exact ⟨fun hh => absurd hh (by decide), fun _ => step (by simp [isA, hLk]) hkn⟩
    · rw [if_neg hLk]
      refine ⟨fun _ => ?_, fun hh => absurd rfl hh⟩
      rw [e4]
      refine sp_X12_at hT (q + k) (by omega) ?_
      rw [if_pos hkn]
      refine sp_X12_isDigit _ (hb8 _) ?_
      by_cases hDk : isD (bs (q + k)) = true
      · rw [if_pos hDk]
        exact ⟨fun hh => absurd hh (by decide), fun _ => step (by simp [isA, hDk]) hkn⟩
      · rw [if_neg hDk]
        exact ⟨fun _ => fin k v x2 (stop (by simp [isA, hLk, hDk])) hv hg1 hg0, fun hh => absurd rfl hh⟩
  · rw [if_neg hkn]
    refine sp_X12_isLetter 0 (by decide) ?_
    refine ⟨fun _ => ?_, fun hh => absurd rfl hh⟩
    rw [e4]
    refine sp_X12_at hT (q + k) (by omega) ?_
    rw [if_neg hkn]
    refine sp_X12_isDigit 0 (by decide) ?_
    exact ⟨fun _ => fin k v x2 (stop (by omega)) hv hg1 hg0, fun hh => absurd rfl hh⟩
