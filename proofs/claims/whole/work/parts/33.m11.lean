/-! PURE: table, feed -/
theorem sp_tabK {g : Gh} {M0 M : Mem} {f : Nat → Nat → Int32} (h1 : Lay g M) (h : LG g M 229 f) {s : Nat} (hs : s < 12) {p1 p2 x3 : Int32} {post : Int32 → Mem → Prop} {bk31 : Int32 × Int32 × Mem → Prop} (hq : lb_X12_table_78 g M0 (gB g + 195) p1 p2 post bk31 x3 (nI s) (nI (cnA f s 12)) M) : ∃ k : Nat, lfp (fun bk z => bd_X12_table_44 g M0 (gB g + 195) p1 p2 post bk31 bk z.1 z.2.1 z.2.2.1 z.2.2.2.1 z.2.2.2.2) k (x3, nI s, 0, 0, M) := by
  refine lfp_up (fun u z => z = (x3, nI s, nI (cnA f s u), nI u, M)) 12 ?_ ?_ 0 _ (by omega) rfl
  · rintro bk z rfl
    exact pk_le 12 12 (fun _ => hq) (fun hx => by omega)
  · rintro bk u z hu rfl hb
    show bd_X12_table_44 g M0 (gB g + 195) p1 p2 post bk31 bk x3 (nI s) (nI (cnA f s u)) (nI u) M
    unfold bd_X12_table_44
    have es : cnA f s (u + 1) = if u ≠ s ∧ ahB f u s = true then cnA f s u + 1 else cnA f s u := rfl
    rw [nI_1, nI_1]
    refine pk_le 12 u (fun hx => by omega) (fun _ => pk_eq u s (fun he => hb _ ?_) (fun he => sp_isAheadM h1 h hu hs ?_))
    · rw [es, if_neg (by simp [he])]
    · cases ha : ahB f u s with
      | false => exact ⟨fun _ => hb _ (by rw [es, if_neg (by simp [ha])]), fun hx => absurd rfl hx⟩
      | true => exact ⟨fun hx => absurd hx (by decide), fun _ => hb _ (by rw [es, if_pos ⟨he, ha⟩])⟩
/-- the reference's table: the team whose place it is -/
theorem sp_tabM {g : Gh} {M0 M : Mem} {f : Nat → Nat → Int32} (h1 : Lay g M) (h : LG g M 229 f) {k : Nat} (hk : k < 12) {t : Nat} (ht : t < 12) (hc : cnA f t 12 = k) {p2 : Int32} {post : Int32 → Mem → Prop} (hq : lb_X12_table_93 g M0 (gB g + 195) (nI k) p2 post (nI t) M) : ∃ n : Nat, lfp (fun bk z => bd_X12_table_31 g M0 (gB g + 195) (nI k) p2 post bk z.1 z.2.1 z.2.2) n (0, 0, M) := by
  refine lfp_up (fun i z => ∃ x3, z = (x3, nI i, M) ∧ (t < i → x3 = nI t)) 12 ?_ ?_ 0 _ (by omega) ⟨0, rfl, fun hx => by omega⟩
  · rintro bk z ⟨x3, rfl, hx⟩
    refine pk_le 12 12 (fun _ => ?_) (fun hx => by omega)
    show lb_X12_table_93 g M0 (gB g + 195) (nI k) p2 post x3 M
    rw [hx ht]; exact hq
  · rintro bk i z hi ⟨x3, rfl, hx⟩ hb
    show bd_X12_table_31 g M0 (gB g + 195) (nI k) p2 post bk x3 (nI i) M
    unfold bd_X12_table_31
    have hle := (cnA_le f i 12).1
    refine pk_le 12 i (fun hx => by omega) (fun _ => sp_tabK h1 h hi ?_)
    unfold lb_X12_table_78
    rw [nI_1]
    refine pk_eq (cnA f i 12) k (fun he => hb _ ⟨nI i, rfl, fun _ => ?_⟩) (fun he => hb _ ⟨x3, rfl, fun hti => ?_⟩)
    · rw [cnA_inj hi ht (he.trans hc.symm)]
    · rcases (show t < i ∨ t = i by omega) with hy | rfl
      · exact hx hy
      · exact absurd hc he
theorem i5 {p : Int32} {m : Nat} (hm : m < 2 ^ 30) (h0 : ¬ p < 0) (h1 : p ≤ nI m) : ∃ j, j ≤ m ∧ p = nI j := nI_of2 (nI_toInt (by omega)) h0 h1
theorem m_table {g : Gh} {M : Mem} {c : Nat} (h : Inv g M c) (p1 p2 : Int32) {Z : Int32 → Int32 → Mem → Prop} (hz : ∀ v M', Inv g M' (c + 1) → Z v v M') : wp_X11_table g M (gB g) p1 p2 (fun v M1 => wp_X12_table g M1 (gB g + 195) p1 p2 (fun w M2 => Z v w M2)) := by
  obtain ⟨nq, qa, r, L, np, pn, on, h⟩ := h
  have hz' := fun v => hz v _ (h.z 0).up.ex
  have hi := h.z 0
  obtain ⟨h1, h2, h3, h4, h5, h6, h7, h8⟩ := id h
  let lf : Nat → Nat → Int32 := fun j t => mI M (gB g + (191 + j)) t
  have g0 : LG g M 191 lf := fun j t _ _ => rfl
  have g0m : LG g M 229 lf := by
    intro j t hj ht
    have := h8.1 t ht
    rcases (show j = 0 ∨ j = 1 ∨ j = 2 ∨ j = 3 by omega) with rfl | rfl | rfl | rfl
    · exact this.1.symm
    · exact this.2.1.symm
    · exact this.2.2.1.symm
    · exact this.2.2.2.symm
  generalize lf = f at g0 g0m
  have g0z : LG g (uI M (gB g + 195) 0 0) 229 f := g0m.fr (frz 0) (fun a k hh => by omega)
  refine ⟨lk_0 h1, _, lr_0_10 h1, sp_teamAt h1 g0 p1 (fun t ht hp => ?_) (fun hno => ?_)⟩
  · subst hp
    have hct := (cnA_le f t 12).2 ht
    have ct : Int32.toNatClampNeg (nI t) = t := nI_cl t (by omega)
    have ht12 : ∀ {b : Nat}, mN M b = 12 → vp_in (nI t) (mN M b) := fun e => by rw [e]; exact pk_in t 12 ht
    have road : ∀ (v : Int32), (p2 < 0 ∨ ¬ p2 ≤ 4 → Z v (-1) (uI M (gB g + 195) 0 0)) → (¬ p2 < 0 → p2 ≤ 4 → lb_X12_table_93 g M (gB g + 195) (nI (cnA f t 12)) p2 (fun w M2 => Z v w M2) (nI t) (uI M (gB g + 195) 0 0)) → wp_X12_table g M (gB g + 195) (nI (cnA f t 12)) p2 (fun w M2 => Z v w M2) := by
      intro v hno hyes
      refine ⟨lk_195 h1, ?_⟩
      rintro M1 rfl
      refine ⟨fun hx => absurd hx (nI_pos (by omega)), fun _ => pk_le 12 (cnA f t 12) (fun hx => by omega) (fun _ => ⟨fun hx => hno (Or.inl hx), fun hx => ⟨fun hy => ?_, fun hy => hno (Or.inr hy)⟩⟩)⟩
      exact sp_tabM (M := uI M (gB g + 195) 0 0) h1 g0z (by omega) ht rfl (hyes hx hy)
    refine sp_team (nI t) (fun hx => (nI_out ht (by decide) hx).elim) (fun _ _ _ => ⟨fun hx => absurd hx (by decide), fun _ => ⟨_, lr_0_10 h1, lk_190 h1, ?_⟩⟩)
    refine sp_team (nI t) (fun hx => (nI_out ht (by decide) hx).elim) (fun _ _ _ => ⟨fun hx => absurd hx (by decide), fun _ => ?_⟩)
    have zz := fun a k (ha : a ≠ (gB g + 195)) => (show mI (uI M (gB g + 195) 0 0) a k = mI M a k by rw [s_II, if_neg ha])
    refine ⟨?_, ?_, ?_, ?_, ?_, ?_⟩
    · rintro rfl
      refine road _ (fun hx => by rcases hx with hx | hx <;> exact absurd hx (by decide)) (fun _ _ => ?_)
      exact ⟨fun _ => hz' _, fun hx => absurd rfl hx⟩
    · rintro rfl
      refine ⟨_, lr_190_0 h1, lk_191 h1, ht12 (ln_191 h1), road _ (fun hx => by rcases hx with hx | hx <;> exact absurd hx (by decide)) (fun _ _ => ?_)⟩
      refine ⟨fun hx => absurd hx (by decide), fun _ => ⟨fun _ => ⟨_, lr_195_62 h1, lk_229 h1, ht12 (ln_229 h1), ?_⟩, fun hx => absurd rfl hx⟩⟩
      rw [ct, zz _ _ (by omega), g0 0 t (by decide) ht, g0m 0 t (by decide) ht]; exact hz' _
    · rintro rfl
      refine ⟨_, lr_190_1 h1, lk_192 h1, ht12 (ln_192 h1), road _ (fun hx => by rcases hx with hx | hx <;> exact absurd hx (by decide)) (fun _ _ => ?_)⟩
      refine ⟨fun hx => absurd hx (by decide), fun _ => ⟨fun hx => absurd hx (by decide), fun _ => ⟨fun _ => ⟨_, lr_195_63 h1, lk_230 h1, ht12 (ln_230 h1), ?_⟩, fun hx => absurd rfl hx⟩⟩⟩
      rw [ct, zz _ _ (by omega), g0 1 t (by decide) ht, g0m 1 t (by decide) ht]; exact hz' _
    · rintro rfl
      refine ⟨_, lr_190_2 h1, lk_193 h1, ht12 (ln_193 h1), road _ (fun hx => by rcases hx with hx | hx <;> exact absurd hx (by decide)) (fun _ _ => ?_)⟩
      refine ⟨fun hx => absurd hx (by decide), fun _ => ⟨fun hx => absurd hx (by decide), fun _ => ⟨fun hx => absurd hx (by decide), fun _ => ⟨fun _ => ⟨_, lr_195_64 h1, lk_231 h1, ht12 (ln_231 h1), ?_⟩, fun hx => absurd rfl hx⟩⟩⟩⟩
      rw [ct, zz _ _ (by omega), g0 2 t (by decide) ht, g0m 2 t (by decide) ht]; exact hz' _
    · rintro rfl
      refine ⟨_, lr_190_3 h1, lk_194 h1, ht12 (ln_194 h1), road _ (fun hx => by rcases hx with hx | hx <;> exact absurd hx (by decide)) (fun _ _ => ?_)⟩
      refine ⟨fun hx => absurd hx (by decide), fun _ => ⟨fun hx => absurd hx (by decide), fun _ => ⟨fun hx => absurd hx (by decide), fun _ => ⟨fun hx => absurd hx (by decide), fun _ => ⟨_, lr_195_65 h1, lk_232 h1, ht12 (ln_232 h1), ?_⟩⟩⟩⟩⟩
      rw [ct, zz _ _ (by omega), g0 3 t (by decide) ht, g0m 3 t (by decide) ht]; exact hz' _
    · intro hn
      refine road _ (fun _ => hz' _) (fun hx hy => ?_)
      exfalso
      obtain ⟨j, hj, rfl⟩ := i5 (m := 4) (by decide) hx hy
      rcases (show j = 0 ∨ j = 1 ∨ j = 2 ∨ j = 3 ∨ j = 4 by omega) with rfl | rfl | rfl | rfl | rfl
      · exact hn.1 rfl
      · exact hn.2.1 rfl
      · exact hn.2.2.1 rfl
      · exact hn.2.2.2.1 rfl
      · exact hn.2.2.2.2 rfl
  · refine sp_team (-1) (fun _ => ⟨fun _ => ⟨lk_195 h1, ?_⟩, fun hx => absurd rfl hx⟩) (fun t ht e => absurd (show (nI t : Int32) < 0 by rw [← e]; decide) (nI_pos (by omega)))
    rintro M1 rfl
    refine ⟨fun _ => hz' _, fun hx => ⟨fun _ => hz' _, fun hy => ?_⟩⟩
    exfalso
    rcases pk_ix p1 (show 12 < 2 ^ 31 by decide) with h | h | ⟨k, hk, rfl⟩
    · exact hx h
    · exact hy h
    · obtain ⟨t, ht, e⟩ := cnA_sur f hk
      exact hno t ht (by rw [e])
/-! feed -/
def byt (w : Int32) (j : Nat) : Nat := w.toBitVec.toNat / 2 ^ (24 - 8 * j) % 256
theorem byt_lt (w : Int32) (j : Nat) : byt w j < 256 := Nat.mod_lt _ (by decide)
theorem byt_is (w : Int32) {j : Nat} (hj : j < 4) : (((Int32.toUInt32 w >>> (Int32.toUInt32 (nI (24 - 8 * j)) &&& Int32.toUInt32 31)).toInt32) &&& 255) = nI (byt w j) := by
  have h1 := pk_ushr w (nI (24 - 8 * j)) (24 - 8 * j) (by
    rcases (show j = 0 ∨ j = 1 ∨ j = 2 ∨ j = 3 by omega) with rfl | rfl | rfl | rfl <;> decide)
  rw [pk_and _ 8 (by decide), h1]; rfl
theorem byt_sh (n : Nat) (h : n < 256) : vp_nar .short ((Int32.toInt16 (nI n)).toInt32) = nI n := by
  rw [vp_nar_short]
  revert h; revert n; decide +kernel
/-- bytes with four more -/
def put4 (bs : Nat → Nat) (n : Nat) (w : Int32) (j : Nat) : Nat → Nat := fun i => if n ≤ i ∧ i < n + j then byt w (i - n) else bs i
theorem put4_s (bs : Nat → Nat) (n : Nat) (w : Int32) (j : Nat) : ∀ i, put4 bs n w (j + 1) i = if i = n + j then byt w j else put4 bs n w j i := by
  intro i
  unfold put4
  by_cases h : i = n + j
  · subst h; rw [if_pos (by omega), if_pos rfl, Nat.add_sub_cancel_left]
  · rw [if_neg h]
    by_cases h2 : n ≤ i ∧ i < n + j
    · rw [if_pos h2, if_pos (by omega)]
    · rw [if_neg h2, if_neg (by omega)]
theorem put4_lt {bs : Nat → Nat} (h : ∀ i, bs i < 256) (n : Nat) (w : Int32) (j : Nat) : ∀ i, put4 bs n w j i < 256 := by
  intro i; unfold put4; split
  · exact byt_lt _ _
  · exact h i
def TC (g : Gh) (M : Mem) (n : Nat) (bs : Nat → Nat) : Prop := mI M (gB g + 1) 1 = nI n ∧ ∀ i, i < 260 → mI M (gB g + 2) i = nI (bs i)
def TN (g : Gh) (M : Mem) (n : Nat) (bs : Nat → Nat) : Prop := mI M (gB g + 195) 2 = nI n ∧ ∀ i, i < 260 → mI M (gB g + 196) i = nI (bs i)
theorem sp_addNumber {g : Gh} {M : Mem} {n : Nat} {bs : Nat → Nat} (h1 : Lay g M) (h : TC g M n bs) (hn : n + 4 ≤ 260) (w : Int32) {post : Mem → Prop} (hq : ∀ M', Fr (fun a k => (a = (gB g + 1) ∧ k = 1) ∨ a = (gB g + 2)) nQ M M' → TC g M' (n + 4) (put4 bs n w 4) → post M') : wp_X10_addNumber g M (gB g + 1) w post := by
  refine ⟨lk_1 h1, ?_⟩
  refine lfp_up (fun j s => ∃ M', s = ((if j = 4 then -8 else nI (24 - 8 * j)), M') ∧ Fr (fun a k => (a = (gB g + 1) ∧ k = 1) ∨ a = (gB g + 2)) nQ M M' ∧ TC g M' (n + j) (put4 bs n w j)) 4 ?_ ?_ 0 _ (by omega) ⟨M, rfl, Fr.rf, h.1, fun i hi => ?_⟩
  · rintro bk s ⟨M', rfl, f, t⟩
    exact ⟨fun _ => hq M' f t, fun hx => absurd (show (-8 : Int32) < 0 by decide) hx⟩
  · rintro bk j s hj ⟨M', rfl, f, t⟩ hb
    have l' := f.lay h1
    rw [if_neg (by omega)]
    show bd_X10_addNumber_3 g M (gB g + 1) w post bk (nI (24 - 8 * j)) M'
    unfold bd_X10_addNumber_3
    rw [t.1]
    refine ⟨fun hx => absurd hx (nI_pos (by omega)), fun _ => pk_le 260 (n + j) (fun hx => by omega) (fun _ => ⟨_, lr_1_0 l', lk_2 h1, by rw [ln_2 h1]; exact pk_in (n + j) 260 (by omega), ?_⟩)⟩
    rintro M7 rfl M9 rfl
    rw [nI_cl (n + j) (by omega), byt_is w hj, byt_sh _ (byt_lt w j)]
    have e1 : mI (uI M' (gB g + 2) (n + j) (nI (byt w j))) (gB g + 1) 1 = nI (n + j) := by rw [s_II, if_neg (by omega)]; exact t.1
    rw [e1, nI_1]
    have e8 : nI (24 - 8 * j) + (-8) = (if j + 1 = 4 then -8 else nI (24 - 8 * (j + 1))) := by
      rcases (show j = 0 ∨ j = 1 ∨ j = 2 ∨ j = 3 by omega) with rfl | rfl | rfl | rfl <;> decide
    rw [e8]
    refine hb _ ⟨_, rfl, (f.uI (by omega)).uI (by omega), ?_, fun i hi => ?_⟩
    · rw [s_II, if_pos rfl, if_pos rfl, Nat.add_assoc]
    · rw [s_II, if_neg (by omega), s_II, if_pos rfl, put4_s]
      by_cases hij : i = n + j
      · rw [if_pos hij, if_pos hij]
      · rw [if_neg hij, if_neg hij]; exact t.2 i hi
  · show mI M (gB g + 2) i = nI (put4 bs n w 0 i)
    unfold put4; rw [if_neg (by omega)]; exact h.2 i hi
theorem sp_come {g : Gh} {M : Mem} {n : Nat} {bs : Nat → Nat} (h1 : Lay g M) (h : TN g M n bs) (hn : n + 4 ≤ 260) (w : Int32) {post : Mem → Prop} (hq : ∀ M', Fr (fun a k => (a = (gB g + 195) ∧ k = 2) ∨ a = (gB g + 196)) nQ M M' → TN g M' (n + 4) (put4 bs n w 4) → post M') : wp_X12_come g M (gB g + 195) w post := by
  refine ⟨lk_195 h1, ?_⟩
  refine lfp_up (fun j s => ∃ M', s = ((if j = 4 then -8 else nI (24 - 8 * j)), M') ∧ Fr (fun a k => (a = (gB g + 195) ∧ k = 2) ∨ a = (gB g + 196)) nQ M M' ∧ TN g M' (n + j) (put4 bs n w j)) 4 ?_ ?_ 0 _ (by omega) ⟨M, rfl, Fr.rf, h.1, fun i hi => ?_⟩
  · rintro bk s ⟨M', rfl, f, t⟩
    exact ⟨fun _ => hq M' f t, fun hx => absurd (show (-8 : Int32) < 0 by decide) hx⟩
  · rintro bk j s hj ⟨M', rfl, f, t⟩ hb
    have l' := f.lay h1
    rw [if_neg (by omega)]
    show bd_X12_come_3 g M (gB g + 195) w post bk (nI (24 - 8 * j)) M'
    unfold bd_X12_come_3
    rw [t.1]
    refine ⟨fun hx => absurd hx (nI_pos (by omega)), fun _ => ⟨_, lr_195_1 l', lk_196 h1, by rw [ln_196 h1]; exact pk_in (n + j) 260 (by omega), ?_⟩⟩
    rintro M7 rfl M9 rfl
    rw [nI_cl (n + j) (by omega), byt_is w hj]
    have e1 : mI (uI M' (gB g + 196) (n + j) (nI (byt w j))) (gB g + 195) 2 = nI (n + j) := by rw [s_II, if_neg (by omega)]; exact t.1
    rw [e1, nI_1]
    have e8 : nI (24 - 8 * j) + (-8) = (if j + 1 = 4 then -8 else nI (24 - 8 * (j + 1))) := by
      rcases (show j = 0 ∨ j = 1 ∨ j = 2 ∨ j = 3 by omega) with rfl | rfl | rfl | rfl <;> decide
    rw [e8]
    refine hb _ ⟨_, rfl, (f.uI (by omega)).uI (by omega), ?_, fun i hi => ?_⟩
    · rw [s_II, if_pos rfl, if_pos rfl, Nat.add_assoc]
    · rw [s_II, if_neg (by omega), s_II, if_pos rfl, put4_s]
      by_cases hij : i = n + j
      · rw [if_pos hij, if_pos hij]
      · rw [if_neg hij, if_neg hij]; exact t.2 i hi
  · show mI M (gB g + 196) i = nI (put4 bs n w 0 i)
    unfold put4; rw [if_neg (by omega)]; exact h.2 i hi
theorem m_feed {g : Gh} {M : Mem} {c : Nat} (h : Inv g M c) (p1 p2 p3 p4 p5 : Int32) {Z : Int32 → Int32 → Mem → Prop} (hz : ∀ v M', Inv g M' (c + 1) → Z v v M') : wp_X11_feed g M (gB g) p1 p2 p3 p4 p5 (fun v M1 => wp_X12_feed g M1 (gB g + 195) p1 p2 p3 p4 p5 (fun w M2 => Z v w M2)) := by
  obtain ⟨nq, qa, r, L, np, pn, on, h⟩ := h
  have hz' := fun v => hz v _ (h.z 0).up.ex
  have hi := h.z 0
  obtain ⟨h1, ⟨n, bs, h2⟩, h3, h4, h5, h6, h7, h8⟩ := id h
  have hn := h2.1
  refine ⟨lk_0 h1, _, lr_0_0 h1, lk_1 h1, ?_⟩
  rw [h2.2.1, show (20 : Int32) = nI 20 from rfl, nI_add]
  have e2' : mI (uI M (gB g + 195) 0 0) (gB g + 195) 2 = nI n := by rw [s_II, if_pos rfl, if_neg (by decide)]; exact h2.2.2.1
  refine pk_lt 260 (n + 20) (fun hc => ⟨fun _ => ⟨lk_195 h1, ?_⟩, fun hx => absurd rfl hx⟩) (fun hc => ⟨fun hx => absurd hx (by decide), fun _ => ⟨_, lr_0_0 h1, ?_⟩⟩)
  · rintro M1 rfl
    rw [e2', show (20 : Int32) = nI 20 from rfl, nI_add]
    exact pk_le (n + 20) 260 (fun hx => by omega) (fun _ => hz' _)
  have t0 : TC g M n bs := ⟨h2.2.1, fun i hi => (h2.2.2.2.1 i hi).1⟩
  refine sp_addNumber h1 t0 (by omega) p1 (fun M1 f1 t1 => ⟨_, lr_0_0 (f1.lay h1), ?_⟩)
  refine sp_addNumber (f1.lay h1) t1 (by omega) p2 (fun M2 f2 t2 => ⟨_, lr_0_0 (f2.lay (f1.lay h1)), ?_⟩)
  have f12 := f1.tr f2
  refine sp_addNumber (f12.lay h1) t2 (by omega) p3 (fun M3 f3 t3 => ⟨_, lr_0_0 (f3.lay (f12.lay h1)), ?_⟩)
  have f13 := f12.tr f3
  refine sp_addNumber (f13.lay h1) t3 (by omega) p4 (fun M4 f4 t4 => ⟨_, lr_0_0 (f4.lay (f13.lay h1)), ?_⟩)
  have f14 := f13.tr f4
  refine sp_addNumber (f14.lay h1) t4 (by omega) p5 (fun M5 f5 t5 => ⟨_, lr_0_0 (f5.lay (f14.lay h1)), lk_1 h1, ?_⟩)
  have f15 := f14.tr f5
  have l5 := f15.lay h1
  refine ⟨lk_195 l5, ?_⟩
  rintro M6 rfl
  have f6 : Fr (fun a k => (a = (gB g + 1) ∧ k = 1) ∨ a = (gB g + 2) ∨ (a = (gB g + 195) ∧ (k = 0 ∨ k = 2)) ∨ a = (gB g + 196)) nQ M (uI M5 (gB g + 195) 0 0) := (f15.mono (fun a k hh => by omega) (fun _ _ hh => hh)).uI (by omega)
  have u0 : TN g (uI M5 (gB g + 195) 0 0) n bs := by
    refine ⟨?_, fun i hi => ?_⟩
    · rw [s_II, if_pos rfl, if_neg (by decide), f15.1 _ _ (by omega)]; exact h2.2.2.1
    · rw [s_II, if_neg (by omega), f15.1 _ _ (by omega)]; exact (h2.2.2.2.1 i hi).2
  rw [u0.1, show (20 : Int32) = nI 20 from rfl, nI_add, t5.1]
  refine pk_le (n + 20) 260 (fun _ => ?_) (fun hx => by omega)
  have l6 : Lay g (uI M5 (gB g + 195) 0 0) := l5
  refine sp_come l6 u0 (by omega) p1 (fun N1 k1 u1 => sp_come (k1.lay l6) u1 (by omega) p2 (fun N2 k2 u2 => ?_))
  have k12 := k1.tr k2
  refine sp_come (k12.lay l6) u2 (by omega) p3 (fun N3 k3 u3 => ?_)
  have k13 := k12.tr k3
  refine sp_come (k13.lay l6) u3 (by omega) p4 (fun N4 k4 u4 => ?_)
  have k14 := k13.tr k4
  refine sp_come (k14.lay l6) u4 (by omega) p5 (fun N5 k5 u5 => ?_)
  have k15 := k14.tr k5
  rw [u5.1]
  refine hz _ _ ?_
  have f : Fr (fun a k => (a = (gB g + 1) ∧ k = 1) ∨ a = (gB g + 2) ∨ (a = (gB g + 195) ∧ (k = 0 ∨ k = 2)) ∨ a = (gB g + 196)) nQ M N5 := f6.tr (k15.mono (fun a k hh => by omega) (fun _ _ hh => hh))
  refine Iv.ex (Iv.up ⟨f.lay h1, ⟨n + 4 + 4 + 4 + 4 + 4, _, by omega, ?_, u5.1, fun i hi => ⟨?_, u5.2 i hi⟩, put4_lt (put4_lt (put4_lt (put4_lt (put4_lt h2.2.2.2.2 _ _ _) _ _ _) _ _ _) _ _ _) _ _ _⟩, h3.fr f (fun a k hh => by omega), h4.fr f (fun a k hh => by omega) (fun a k hh => (hh : False).elim), h5.fr f (fun a k hh => by have := h5.1.1; omega), h6.fr f (fun a k hh => by omega), h7.fr f (fun a k hh => by omega), h8.fr f (fun a k hh => by omega)⟩)
  · rw [k15.1 _ _ (by omega), s_II, if_neg (by omega)]; exact t5.1
  · rw [k15.1 _ _ (by omega), s_II, if_neg (by omega)]; exact t5.2 i hi
