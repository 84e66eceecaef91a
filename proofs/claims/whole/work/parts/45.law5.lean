/-! PURE: law, the call -/
theorem rt_x56 : ∀ r ∈ RT, ¬ (r.1 = 0 ∧ (r.2.1 = 5 ∨ r.2.1 = 6)) := by decide +kernel
theorem lay_x56 {g : Gh} {M : Mem} (h : Lay g M) {k : Nat} (hk : k = 5 ∨ k = 6) (v : Option Nat) : Lay g (uR M (gB g) k v) := by
  refine ⟨h.1, h.2.1, fun r hr => ?_⟩
  rw [uR_ne]
  · exact h.2.2 r hr
  · have := rt_x56 r hr; omega
theorem iq_x56 {g : Gh} {M : Mem} {c nq : Nat} {qa : Nat → Nat} (l : Lay g M) (h : IQ g M c nq qa) {k : Nat} (v : Option Nat) : IQ g (uR M (gB g) k v) c nq qa := by
  refine ⟨h.1, h.2.1, h.2.2.1, fun q hq => ?_, h.2.2.2.2⟩
  obtain ⟨q1, q2, q3, ⟨f, f1, f2, F, ka, la, ha, g1, g2, g3, g4, g5, g6, g7, g8⟩, q5⟩ := h.2.2.2.1 q hq
  have hf : f ≠ (gB g) := okc_ne f2 (lk_0 l) (by decide)
  refine ⟨?_, q2, q3, ⟨f, ?_, f2, F, ka, la, ha, g1, g2, ?_, g4, g5, g6, g7, g8⟩, q5⟩
  · rw [uR_ne _ _ _ _ (by omega)]; exact q1
  · rw [uR_ne _ _ _ _ (by omega)]; exact f1
  · rw [uR_ne _ _ _ _ (Or.inl hf), uR_ne _ _ _ _ (Or.inl hf), uR_ne _ _ _ _ (Or.inl hf)]; exact g3
def lawT (k : Nat) (a : AcT) : LawT := (k, pre a.1 k, a.1, a.2.1, a.2.2.1, a.2.2.2.1, a.2.2.2.2)
theorem lawT_ok {k : Nat} {a : AcT} (hk : k ≤ 6) (h : okA k a) : LawOK (lawT k a) := ⟨hk, h, rfl⟩
def PCp (g : Gh) : Nat → Nat → Prop := fun a k => ((gB g + 210) ≤ a ∧ a ≤ (gB g + 214)) ∨ (a = (gB g + 195) ∧ k = 40)
/-- the reference takes the new rounds over -/
theorem sp_lawCopy {g : Gh} {M0 M : Mem} (l0 : Lay g M0) (h1 : Lay g M) {k : Nat} {a : AcT} (hk : k ≤ 6) (ha : okA k a) (h39 : mI M (gB g + 195) 39 = nI k) (hd : DM g M k a) {post : Int32 → Mem → Prop} (hq : ∀ M', Fr (PCp g) nQ M M' → LM g M' (lawT k a) → post (nI (pre a.1 k)) M') : lb_X12_law_58 g M0 (gB g + 195) post M := by
  rintro M58 rfl
  have f0 : Fr (PCp g) nQ M (uI M (gB g + 195) 40 0) := Fr.rf.uI (Or.inr ⟨rfl, rfl⟩)
  have z0 : mI (uI M (gB g + 195) 40 0) (gB g + 195) 40 = nI 0 := by rw [s_II, if_pos rfl, if_pos rfl]; rfl
  generalize uI M (gB g + 195) 40 0 = M1 at f0 z0
  have p8 := pre_le8 a.1 k (fun j hj => (ha j hj).2)
  refine lfp_up (fun i s => ∃ M', s = (nI i, M') ∧ Fr (PCp g) nQ M M' ∧ mI M' (gB g + 195) 40 = nI (pre a.1 i) ∧ ∀ j, j < i → mI M' (gB g + 210) j = nI (a.1 j) ∧ mI M' (gB g + 214) j = bI (a.2.1 j) ∧ mI M' (gB g + 211) j = a.2.2.1 j ∧ mI M' (gB g + 212) j = a.2.2.2.1 j ∧ mI M' (gB g + 213) j = a.2.2.2.2 j) k ?_ ?_ 0 _ (by omega) ⟨M1, rfl, f0, z0, fun j hj => by omega⟩
  · rintro bk s ⟨M', rfl, f, e40, hv⟩
    show bd_X12_law_65 g M0 (gB g + 195) post bk (nI k) M'
    unfold bd_X12_law_65
    rw [f.1 (gB g + 195) 39 (by unfold PCp; omega), h39, e40]
    refine pk_le k k (fun _ => hq M' f ⟨lawT_ok hk ha, ?_, e40, hv⟩) (fun hx => by omega)
    rw [f.1 _ _ (by unfold PCp; omega)]; exact h39
  · rintro bk i s hi ⟨M', rfl, f, e40, hv⟩ hb
    have l' := f.lay h1
    have ci : Int32.toNatClampNeg (nI i) = i := nI_cl i (by omega)
    obtain ⟨d1, d2, d3, d4, d5⟩ := hd i hi
    have ind : ∀ {M3 : Mem} {b : Nat}, mN M3 b = 6 → vp_in (nI i) (mN M3 b) := fun e => by rw [e]; exact pk_in i 6 (by omega)
    have ff : ∀ b, (gB g + 215) ≤ b → b ≤ (gB g + 219) → mI M' b i = mI M b i := fun b b1 b2 => f.1 _ _ (by unfold PCp; omega)
    show bd_X12_law_65 g M0 (gB g + 195) post bk (nI i) M'
    unfold bd_X12_law_65
    rw [f.1 (gB g + 195) 39 (by unfold PCp; omega), h39]
    refine pk_le k i (fun hx => by omega) (fun _ => ⟨_, lr_195_29 l', _, lr_195_34 l', lk_215 l0, ind (ln_215 l0), lk_210 l0, ind (ln_210 l0), ?_⟩)
    rintro M26 rfl
    rw [ci, ff (gB g + 215) (by omega) (by omega), d1]
    refine ⟨_, lr_195_30 l', _, lr_195_35 l', lk_216 l0, ind (ln_216 l0), lk_211 l0, ind (ln_211 l0), ?_⟩
    rintro M36 rfl
    try rw [ci]
    rw [show mI (uI M' (gB g + 210) i (nI (a.1 i))) (gB g + 216) i = a.2.2.1 i by rw [s_II, if_neg (by omega), ff (gB g + 216) (by omega) (by omega), d3]]
    refine ⟨_, lr_195_31 l', _, lr_195_36 l', lk_217 l0, ind (ln_217 l0), lk_212 l0, ind (ln_212 l0), ?_⟩
    rintro M46 rfl
    try rw [ci]
    rw [show mI (uI (uI M' (gB g + 210) i (nI (a.1 i))) (gB g + 211) i (a.2.2.1 i)) (gB g + 217) i = a.2.2.2.1 i by rw [s_II, if_neg (by omega), s_II, if_neg (by omega), ff (gB g + 217) (by omega) (by omega), d4]]
    refine ⟨_, lr_195_32 l', _, lr_195_37 l', lk_218 l0, ind (ln_218 l0), lk_213 l0, ind (ln_213 l0), ?_⟩
    rintro M56 rfl
    try rw [ci]
    rw [show mI (uI (uI (uI M' (gB g + 210) i (nI (a.1 i))) (gB g + 211) i (a.2.2.1 i)) (gB g + 212) i (a.2.2.2.1 i)) (gB g + 218) i = a.2.2.2.2 i by rw [s_II, if_neg (by omega), s_II, if_neg (by omega), s_II, if_neg (by omega), ff (gB g + 218) (by omega) (by omega), d5]]
    refine ⟨_, lr_195_33 l', _, lr_195_38 l', lk_219 l0, ind (ln_219 l0), lk_214 l0, ind (ln_214 l0), ?_⟩
    rintro M9 rfl
    try rw [ci]
    rw [show mI (uI (uI (uI (uI M' (gB g + 210) i (nI (a.1 i))) (gB g + 211) i (a.2.2.1 i)) (gB g + 212) i (a.2.2.2.1 i)) (gB g + 213) i (a.2.2.2.2 i)) (gB g + 219) i = bI (a.2.1 i) by rw [s_II, if_neg (by omega), s_II, if_neg (by omega), s_II, if_neg (by omega), s_II, if_neg (by omega), ff (gB g + 219) (by omega) (by omega), d2], nb_b]
    refine ⟨_, lr_195_29 l', lk_210 l0, ind (ln_210 l0), ?_⟩
    rintro M15 rfl
    try rw [ci]
    have v40 : mI (uI (uI (uI (uI (uI M' (gB g + 210) i (nI (a.1 i))) (gB g + 211) i (a.2.2.1 i)) (gB g + 212) i (a.2.2.2.1 i)) (gB g + 213) i (a.2.2.2.2 i)) (gB g + 214) i (bI (a.2.1 i))) (gB g + 195) 40 = nI (pre a.1 i) := by
      rw [s_II, if_neg (by omega), s_II, if_neg (by omega), s_II, if_neg (by omega), s_II, if_neg (by omega), s_II, if_neg (by omega)]; exact e40
    have v210 : mI (uI (uI (uI (uI (uI M' (gB g + 210) i (nI (a.1 i))) (gB g + 211) i (a.2.2.1 i)) (gB g + 212) i (a.2.2.2.1 i)) (gB g + 213) i (a.2.2.2.2 i)) (gB g + 214) i (bI (a.2.1 i))) (gB g + 210) i = nI (a.1 i) := by
      rw [s_II, if_neg (by omega), s_II, if_neg (by omega), s_II, if_neg (by omega), s_II, if_neg (by omega), s_II, if_pos rfl, if_pos rfl]
    rw [v40, v210, nI_add, nI_1]
    refine hb _ ⟨_, rfl, (((((f.uI (by unfold PCp; omega)).uI (by unfold PCp; omega)).uI (by unfold PCp; omega)).uI (by unfold PCp; omega)).uI (by unfold PCp; omega)).uI (by unfold PCp; omega), by rw [s_II, if_pos rfl, if_pos rfl]; rfl, fun j hj => ?_⟩
    by_cases hji : j = i
    · subst hji
      refine ⟨?_, ?_, ?_, ?_, ?_⟩
      · rw [s_II, if_neg (by omega)]; exact v210
      · rw [s_II, if_neg (by omega), s_II, if_pos rfl, if_pos rfl]
      · rw [s_II, if_neg (by omega), s_II, if_neg (by omega), s_II, if_neg (by omega), s_II, if_neg (by omega), s_II, if_pos rfl, if_pos rfl]
      · rw [s_II, if_neg (by omega), s_II, if_neg (by omega), s_II, if_neg (by omega), s_II, if_pos rfl, if_pos rfl]
      · rw [s_II, if_neg (by omega), s_II, if_neg (by omega), s_II, if_pos rfl, if_pos rfl]
    · have hjv := hv j (by omega)
      have e6 : ∀ b, (gB g + 210) ≤ b → b ≤ (gB g + 214) → mI (uI (uI (uI (uI (uI (uI M' (gB g + 210) i (nI (a.1 i))) (gB g + 211) i (a.2.2.1 i)) (gB g + 212) i (a.2.2.2.1 i)) (gB g + 213) i (a.2.2.2.2 i)) (gB g + 214) i (bI (a.2.1 i))) (gB g + 195) 40 (nI (pre a.1 i + a.1 i))) b j = mI M' b j := by
        intro b b1 b2
        simp only [s_II, if_neg hji, if_neg (show b ≠ (gB g + 195) by omega), ite_self]
      rw [e6 _ (by omega) (by omega), e6 _ (by omega) (by omega), e6 _ (by omega) (by omega), e6 _ (by omega) (by omega), e6 _ (by omega) (by omega)]
      exact hjv
/-- the reference's law, at any memory with that tape -/
theorem sp_lawM {g : Gh} {M : Mem} {n : Nat} {bs : Nat → Nat} (h1 : Lay g M) (h2 : mI M (gB g + 195) 2 = nI n) (hn : n ≤ 260) (h196 : ∀ i, i < 260 → mI M (gB g + 196) i = nI (bs i)) (hb : ∀ i, bs i < 256) (h48 : mI M (gB g + 195) 48 = 0) {post : Int32 → Mem → Prop} (hq : ∀ M', (lawF (nxW bs n) 7 0 (tk sgW bs n 0) a0T).1 = 0 → Fr (fun a k => PLm g a k ∨ PCp g a k ∨ (a = (gB g + 195) ∧ (k = 0 ∨ k = 2 ∨ k = 3 ∨ k = 39))) (QTm g) M M' → mI M' (gB g + 195) 2 = 0 → mI M' (gB g + 195) 9 = 0 → LM g M' (lawT (lawF (nxW bs n) 7 0 (tk sgW bs n 0) a0T).2.2.1 (lawF (nxW bs n) 7 0 (tk sgW bs n 0) a0T).2.2.2) → post (nI (pre (lawF (nxW bs n) 7 0 (tk sgW bs n 0) a0T).2.2.2.1 (lawF (nxW bs n) 7 0 (tk sgW bs n 0) a0T).2.2.1)) M') (hf : ∀ M', (lawF (nxW bs n) 7 0 (tk sgW bs n 0) a0T).1 ≠ 0 → Fr (fun a k => PLm g a k ∨ (a = (gB g + 195) ∧ (k = 0 ∨ k = 2 ∨ k = 3))) (QTm g) M M' → mI M' (gB g + 195) 2 = 0 → mI M' (gB g + 195) 9 = nI (lawF (nxW bs n) 7 0 (tk sgW bs n 0) a0T).1 → post (-1 - nI (lawF (nxW bs n) 7 0 (tk sgW bs n 0) a0T).2.1.2.1) M') : wp_X12_law g M (gB g + 195) post := by
  refine ⟨lk_195 h1, ?_⟩
  rintro M60 rfl M62 rfl M64 rfl
  rw [show mI (uI M (gB g + 195) 0 0) (gB g + 195) 2 = nI n by rw [s_II, if_pos rfl, if_neg (by decide)]; exact h2]
  rw [show mI (uI (uI (uI M (gB g + 195) 0 0) (gB g + 195) 3 (nI n)) (gB g + 195) 2 0) (gB g + 195) 48 = 0 by rw [s_II, if_pos rfl, if_neg (by decide), s_II, if_pos rfl, if_neg (by decide), s_II, if_pos rfl, if_neg (by decide)]; exact h48]
  refine ⟨fun _ => ?_, fun hx => absurd rfl hx⟩
  rintro M67 rfl M69 rfl
  have f1 : Fr (fun a k => a = (gB g + 195) ∧ (k = 0 ∨ k = 2 ∨ k = 3 ∨ k = 4 ∨ k = 9)) nQ M (uI (uI (uI (uI (uI M (gB g + 195) 0 0) (gB g + 195) 3 (nI n)) (gB g + 195) 2 0) (gB g + 195) 4 0) (gB g + 195) 9 0) := ((((Fr.rf.uI (by omega)).uI (by omega)).uI (by omega)).uI (by omega)).uI (by omega)
  have z : mI (uI (uI (uI (uI (uI M (gB g + 195) 0 0) (gB g + 195) 3 (nI n)) (gB g + 195) 2 0) (gB g + 195) 4 0) (gB g + 195) 9 0) (gB g + 195) 2 = 0 ∧ mI (uI (uI (uI (uI (uI M (gB g + 195) 0 0) (gB g + 195) 3 (nI n)) (gB g + 195) 2 0) (gB g + 195) 4 0) (gB g + 195) 9 0) (gB g + 195) 3 = nI n ∧ mI (uI (uI (uI (uI (uI M (gB g + 195) 0 0) (gB g + 195) 3 (nI n)) (gB g + 195) 2 0) (gB g + 195) 4 0) (gB g + 195) 9 0) (gB g + 195) 4 = 0 ∧ mI (uI (uI (uI (uI (uI M (gB g + 195) 0 0) (gB g + 195) 3 (nI n)) (gB g + 195) 2 0) (gB g + 195) 4 0) (gB g + 195) 9 0) (gB g + 195) 9 = 0 := by
    refine ⟨?_, ?_, ?_, ?_⟩ <;> simp [s_II]
  generalize uI (uI (uI (uI (uI M (gB g + 195) 0 0) (gB g + 195) 3 (nI n)) (gB g + 195) 2 0) (gB g + 195) 4 0) (gB g + 195) 9 0 = M1 at f1 z ⊢
  have l1 := f1.lay h1
  have tm1 : TM g M1 (gB g + 195) (gB g + 196) n bs := ⟨lk_195 l1, lr_195_1 l1, lk_196 l1, ln_196 l1, z.2.1, hn, fun i hi => by rw [f1.1 _ _ (by omega)]; exact h196 i hi, hb⟩
  refine sp_goM tm1 (Or.inr ⟨rfl, rfl⟩) (p := 0) z.2.2.1 (Nat.zero_le _) (fun M2 f2 t2 c2 => ?_)
  have ml : ML g M2 n bs (tk sgW bs n 0) := ⟨f2.lay l1, t2, ⟨0, Nat.zero_le _, rfl⟩, c2⟩
  have g2 : Fr (fun a k => PLm g a k ∨ (a = (gB g + 195) ∧ (k = 0 ∨ k = 2 ∨ k = 3))) (QTm g) M M2 := (f1.mono (fun a k hh => by unfold PLm; omega) (fun a k hh => (hh : False).elim)).tr (f2.mono (fun a k hh => Or.inl (ptm_l g a k hh)) (fun _ _ hh => hh))
  have n22 : mI M2 (gB g + 195) 2 = 0 := by rw [f2.1 _ _ (by unfold PTm; omega)]; exact z.1
  have n29 : mI M2 (gB g + 195) 9 = 0 := by rw [f2.1 _ _ (by unfold PTm; omega)]; exact z.2.2.2
  have hok := lawF_ok (nx := nxW bs n) 7 0 (tk sgW bs n 0) a0T rfl (fun j hj => by omega) (by decide)
  refine sp_readLawM ml (fun M3 f3 y3 n3 => ?_)
  by_cases h0 : (lawF (nxW bs n) 7 0 (tk sgW bs n 0) a0T).1 = 0
  · rw [decide_eq_true h0]
    refine ⟨fun hx => absurd hx (by decide), fun _ => ?_⟩
    obtain ⟨y39, y9, yd⟩ := y3 h0
    refine sp_lawCopy h1 (f3.lay (f2.lay l1)) (hok.2 h0).1 (hok.2 h0).2 y39 yd (fun M4 f4 lm4 => hq M4 h0 ?_ ?_ ?_ lm4)
    · exact ((g2.mono (fun a k hh => by rcases hh with hh | hh; exact Or.inl hh; exact Or.inr (Or.inr (by omega))) (fun _ _ hh => hh)).tr (f3.mono (fun a k hh => by rcases hh with hh | hh; exact Or.inl hh; exact Or.inr (Or.inr (by omega))) (fun _ _ hh => hh))).tr (f4.mono (fun a k hh => Or.inr (Or.inl hh)) (fun a k hh => (hh : False).elim))
    · rw [f4.1 _ _ (by unfold PCp; omega), f3.1 _ _ (by unfold PLm; omega)]; exact n22
    · rw [f4.1 _ _ (by unfold PCp; omega), y9]; exact n29
  · rw [decide_eq_false h0]
    refine ⟨fun _ => ?_, fun hx => absurd rfl hx⟩
    obtain ⟨e39, e9, e10⟩ := n3 h0
    rw [e10]
    refine hf M3 h0 ?_ ?_ e9
    · have f3' : Fr (fun a k => PLm g a k ∨ (a = (gB g + 195) ∧ (k = 0 ∨ k = 2 ∨ k = 3))) (QTm g) M2 M3 := by
        refine ⟨fun a k hh => ?_, f3.2.1, f3.2.2⟩
        by_cases h39 : a = (gB g + 195) ∧ k = 39
        · obtain ⟨rfl, rfl⟩ := h39; exact e39
        · exact f3.1 a k (fun hx => hx.elim (fun hx => hh (Or.inl hx)) h39)
      exact g2.tr f3'
    · rw [f3.1 _ _ (by unfold PLm; omega)]; exact n22
theorem m_law {g : Gh} {M : Mem} {c : Nat} (h : Inv g M c) {Z : Int32 → Int32 → Mem → Prop} (hz : ∀ v M', Inv g M' (c + 1) → Z v v M') : wp_X11_law g M (gB g) (fun v M1 => wp_X12_law g M1 (gB g + 195) (fun w M2 => Z v w M2)) := by
  obtain ⟨nq, qa, r, L, np, pn, on, h⟩ := h
  obtain ⟨h1, ⟨n, bs, h2⟩, h3, h4, h5, h6, h7, h8⟩ := id h
  have hr := h5.1.1
  have hnb := h2.2.2.2.2
  refine ⟨lk_0 h1, _, lr_0_9 h1, lk_67 h1, ?_⟩
  rw [h7.1]
  cases on with
  | true =>
    refine ⟨fun hx => absurd hx (by decide), fun _ => ⟨_, lr_0_0 h1, lk_1 h1, ?_⟩⟩
    rintro M1 rfl
    refine ⟨lk_195 h1, ?_⟩
    rintro M60 rfl M62 rfl M64 rfl
    rw [show mI (uI (uI M (gB g + 1) 1 0) (gB g + 195) 0 0) (gB g + 195) 2 = nI n by rw [s_II, if_pos rfl, if_neg (by decide), s_II, if_neg (by omega)]; exact h2.2.2.1]
    rw [show mI (uI (uI (uI (uI M (gB g + 1) 1 0) (gB g + 195) 0 0) (gB g + 195) 3 (nI n)) (gB g + 195) 2 0) (gB g + 195) 48 = 1 by rw [s_II, if_pos rfl, if_neg (by decide), s_II, if_pos rfl, if_neg (by decide), s_II, if_pos rfl, if_neg (by decide), s_II, if_neg (by omega)]; exact h7.2.1]
    refine ⟨fun hx => absurd hx (by decide), fun _ => hz _ _ ?_⟩
    have f : Fr (fun a k => (a = (gB g + 1) ∧ k = 1) ∨ (a = (gB g + 195) ∧ (k = 0 ∨ k = 2 ∨ k = 3))) nQ M (uI (uI (uI (uI M (gB g + 1) 1 0) (gB g + 195) 0 0) (gB g + 195) 3 (nI n)) (gB g + 195) 2 0) := (((Fr.rf.uI (by omega)).uI (by omega)).uI (by omega)).uI (by omega)
    refine Iv.ex (Iv.up ⟨f.lay h1, ⟨0, bs, by omega, ?_, ?_, fun i hi => ?_, hnb⟩, h3.fr f (fun a k hh => by omega), h4.fr f (fun a k hh => by omega) (fun a k hh => (hh : False).elim), h5.fr f (fun a k hh => by omega), h6.fr f (fun a k hh => by omega), h7.fr f (fun a k hh => by omega), h8.fr f (fun a k hh => by omega)⟩)
    · simp [s_II, nI_0]
    · simp [s_II, nI_0]
    · rw [f.1 _ _ (by omega), f.1 _ _ (by omega)]; exact h2.2.2.2.1 i hi
  | false =>
    have hd : 104 - r = 49 ∨ 104 - r = 55 := by omega
    have tp : TP g M (gB g + 1) (gB g + 2) n bs := ⟨lk_1 h1, lr_1_0 h1, lk_2 h1, ln_2 h1, h2.2.1, h2.1, fun i hi => (h2.2.2.2.1 i hi).1, hnb⟩
    refine ⟨fun _ => ⟨_, h5.2.2.2, _, lr_0_0 h1, ?_⟩, fun hx => absurd rfl hx⟩
    refine sp_readLawC h1 tp hd (fun M1 f1 e7 e8 dr => ⟨_, lr_0_0 (f1.lay h1), lk_1 (f1.lay h1), ?_⟩)
    have hok := lawF_ok (nx := nxW bs n) 7 0 (tk sgW bs n 0) a0T rfl (fun j hj => by omega) (by decide)
    rintro M2 rfl
    have f2 : Fr (fun a k => PLc g (104 - r) a k ∨ (a = (gB g + 1) ∧ k = 1) ∨ (a = (gB g) ∧ k = 7)) (QTc g) M (uI M1 (gB g + 1) 1 0) := (f1.mono (fun a k hh => Or.inl hh) (fun _ _ hh => hh)).uI (Or.inr (Or.inl ⟨rfl, rfl⟩))
    have e72 : mI (uI M1 (gB g + 1) 1 0) (gB g + (104 - r)) 7 = nI (lawF (nxW bs n) 7 0 (tk sgW bs n 0) a0T).1 := by rw [s_II, if_neg (by omega)]; exact e7
    have e82 : (lawF (nxW bs n) 7 0 (tk sgW bs n 0) a0T).1 ≠ 0 → mI (uI M1 (gB g + 1) 1 0) (gB g + (104 - r)) 8 = nI (lawF (nxW bs n) 7 0 (tk sgW bs n 0) a0T).2.1.2.1 := fun hx => by rw [s_II, if_neg (by omega)]; exact e8 hx
    have dr2 : (lawF (nxW bs n) 7 0 (tk sgW bs n 0) a0T).1 = 0 → DR g (uI M1 (gB g + 1) 1 0) (104 - r) (lawF (nxW bs n) 7 0 (tk sgW bs n 0) a0T).2.2.1 (lawF (nxW bs n) 7 0 (tk sgW bs n 0) a0T).2.2.2 := fun hx => (dr hx).fr (P := fun a k => a = (gB g + 1) ∧ k = 1) (Q := nQ) (Fr.rf.uI ⟨rfl, rfl⟩) (fun b j hh => by omega)
    have t2 : mI (uI M1 (gB g + 1) 1 0) (gB g + 1) 1 = 0 := by rw [s_II, if_pos rfl, if_pos rfl]
    generalize uI M1 (gB g + 1) 1 0 = M2 at f2 e72 e82 dr2 t2 ⊢
    refine ⟨_, by rw [f2.R]; exact h5.2.2.2, (lk_law h1 hd).1, ?_⟩
    rintro M29 rfl
    rw [e72]
    have f3 : Fr (fun a k => PLc g (104 - r) a k ∨ (a = (gB g + 1) ∧ k = 1) ∨ (a = (gB g) ∧ k = 7)) (QTc g) M (uI M2 (gB g) 7 (nI (lawF (nxW bs n) 7 0 (tk sgW bs n 0) a0T).1)) := f2.uI (Or.inr (Or.inr ⟨rfl, rfl⟩))
    have z7 : mI (uI M2 (gB g) 7 (nI (lawF (nxW bs n) 7 0 (tk sgW bs n 0) a0T).1)) (gB g) 7 = nI (lawF (nxW bs n) 7 0 (tk sgW bs n 0) a0T).1 := by rw [s_II, if_pos rfl, if_pos rfl]
    have e83 : (lawF (nxW bs n) 7 0 (tk sgW bs n 0) a0T).1 ≠ 0 → mI (uI M2 (gB g) 7 (nI (lawF (nxW bs n) 7 0 (tk sgW bs n 0) a0T).1)) (gB g + (104 - r)) 8 = nI (lawF (nxW bs n) 7 0 (tk sgW bs n 0) a0T).2.1.2.1 := fun hx => by rw [s_II, if_neg (by omega)]; exact e82 hx
    have dr3 : (lawF (nxW bs n) 7 0 (tk sgW bs n 0) a0T).1 = 0 → DR g (uI M2 (gB g) 7 (nI (lawF (nxW bs n) 7 0 (tk sgW bs n 0) a0T).1)) (104 - r) (lawF (nxW bs n) 7 0 (tk sgW bs n 0) a0T).2.2.1 (lawF (nxW bs n) 7 0 (tk sgW bs n 0) a0T).2.2.2 := fun hx => (dr2 hx).fr (P := fun a k => a = (gB g) ∧ k = 7) (Q := nQ) (Fr.rf.uI ⟨rfl, rfl⟩) (fun b j hh => by omega)
    have t3 : mI (uI M2 (gB g) 7 (nI (lawF (nxW bs n) 7 0 (tk sgW bs n 0) a0T).1)) (gB g + 1) 1 = 0 := by rw [s_II, if_neg (by omega)]; exact t2
    generalize uI M2 (gB g) 7 (nI (lawF (nxW bs n) 7 0 (tk sgW bs n 0) a0T).1) = M3 at f3 z7 e83 dr3 t3 ⊢
    rw [z7]
    have fp : ∀ a k, ¬ (PLc g (104 - r) a k ∨ (a = (gB g + 1) ∧ k = 1) ∨ (a = (gB g) ∧ k = 7)) → mI M3 a k = mI M a k := f3.1
    have hle := hok.1
    have q233 : ∀ a k, QTc g a k → a < (gB g + 234) ∧ ¬ ((gB g + 200) ≤ a ∧ a ≤ (gB g + 201) ∧ k < 420 * nq) := fun a k hh => by unfold QTc at hh; omega
    refine pk_eq (lawF (nxW bs n) 7 0 (tk sgW bs n 0) a0T).1 0 (fun h0 => ?_) (fun h0 => ?_)
    · -- a new law
      have dr3 := dr3 h0
      obtain ⟨hk6, hA⟩ := hok.2 h0
      refine ⟨_, by rw [f3.R]; exact h5.2.2.1, _, by rw [f3.R]; exact h5.2.2.2, ?_⟩
      rintro M5 rfl M7 rfl
      have l3 := f3.lay h1
      have l5 : Lay g (uR (uR M3 (gB g) 5 (some (gB g + (104 - r)))) (gB g) 6 (some (gB g + (r)))) := lay_x56 (lay_x56 l3 (Or.inl rfl) _) (Or.inr rfl) _
      have r5 : mR (uR (uR M3 (gB g) 5 (some (gB g + (104 - r)))) (gB g) 6 (some (gB g + (r)))) (gB g) 5 = some (gB g + (104 - r)) := by
        rw [uR_ne _ _ _ _ (Or.inr (by decide))]; exact up2_same _ _ _ _
      have r6 : mR (uR (uR M3 (gB g) 5 (some (gB g + (104 - r)))) (gB g) 6 (some (gB g + (r)))) (gB g) 6 = some (gB g + (r)) := up2_same _ _ _ _
      have q5 : IQ g (uR (uR M3 (gB g) 5 (some (gB g + (104 - r)))) (gB g) 6 (some (gB g + (r)))) c nq qa := iq_x56 (lay_x56 l3 (Or.inl rfl) _) (iq_x56 l3 (h4.fr f3 (fun a k hh => by unfold PLc at hh; omega) q233) _) _
      have i5 : ∀ a k, mI (uR (uR M3 (gB g) 5 (some (gB g + (104 - r)))) (gB g) 6 (some (gB g + (r)))) a k = mI M3 a k := fun _ _ => rfl
      have m5 : ∀ a k, (a = (gB g + 67) ∧ k = 1) → mR (uR (uR M3 (gB g) 5 (some (gB g + (104 - r)))) (gB g) 6 (some (gB g + (r)))) a k = mR M a k := fun a k hk => by rw [uR_ne _ _ _ _ (by omega), uR_ne _ _ _ _ (by omega), f3.R]
      generalize uR (uR M3 (gB g) 5 (some (gB g + (104 - r)))) (gB g) 6 (some (gB g + (r))) = M5 at l5 r5 r6 q5 i5 m5 ⊢
      refine ⟨_, r5, (lk_law h1 hd).1, ?_⟩
      rw [i5, dr3.2.1]
      refine sp_lawM l5 (by rw [i5, fp _ _ (by unfold PLc; omega)]; exact h2.2.2.1) h2.1 (fun i hi => by rw [i5, fp _ _ (by unfold PLc; omega)]; exact (h2.2.2.2.1 i hi).2) hnb (by rw [i5, fp _ _ (by unfold PLc; omega)]; exact h7.2.1) (fun M6 _ f6 e2 e9 lm => hz _ _ ?_) (fun M6 hx => absurd h0 hx)
      have q6 : ∀ a k, QTm g a k → a < (gB g + 234) ∧ ¬ ((gB g + 200) ≤ a ∧ a ≤ (gB g + 201) ∧ k < 420 * nq) := fun a k hh => by unfold QTm at hh; omega
      have v6 : ∀ a k, ¬ (PLm g a k ∨ PCp g a k ∨ (a = (gB g + 195) ∧ (k = 0 ∨ k = 2 ∨ k = 3 ∨ k = 39))) → ¬ (PLc g (104 - r) a k ∨ (a = (gB g + 1) ∧ k = 1) ∨ (a = (gB g) ∧ k = 7)) → mI M6 a k = mI M a k := fun a k ha hb => by rw [f6.1 a k ha, i5]; exact fp a k hb
      refine Iv.ex (nq := nq) (qa := qa) (r := 104 - r) (L := lawT (lawF (nxW bs n) 7 0 (tk sgW bs n 0) a0T).2.2.1 (lawF (nxW bs n) 7 0 (tk sgW bs n 0) a0T).2.2.2) (np := np) (pn := pn) (on := false) (Iv.up ⟨f6.lay l5, ⟨0, bs, by omega, ?_, e2, fun i hi => ?_, hnb⟩, ?_, q5.fr f6 (fun a k hh => by unfold PLm PCp at hh; omega) q6, ⟨⟨hd, lawT_ok hk6 hA, ?_, ?_, fun j hj => ?_⟩, lm, by rw [f6.R]; exact r5, by rw [f6.R, r6, show 104 - (104 - r) = r by omega]⟩, ⟨h6.1, ?_, ?_, ?_, fun hp => ?_, fun k hk => ?_⟩, ⟨?_, ?_, fun _ => ?_, fun hx => absurd hx (by decide)⟩, ⟨fun t ht => ?_, ?_⟩⟩)
      · rw [f6.1 _ _ (by unfold PLm PCp; omega), i5]; exact t3
      · rw [v6 _ _ (by unfold PLm PCp; omega) (by unfold PLc; omega), v6 _ _ (by unfold PLm PCp; omega) (by unfold PLc; omega)]; exact h2.2.2.2.1 i hi
      · unfold IF; rw [f6.1 _ _ (by unfold PLm PCp; omega), i5, z7, h0, e9]; rfl
      · rw [f6.1 _ _ (by unfold PLm PCp; omega), i5]; exact dr3.1
      · rw [f6.1 _ _ (by unfold PLm PCp; omega), i5]; exact dr3.2.1
      · rw [f6.1 _ _ (by unfold PLm PCp; omega), f6.1 _ _ (by unfold PLm PCp; omega), f6.1 _ _ (by unfold PLm PCp; omega), f6.1 _ _ (by unfold PLm PCp; omega), f6.1 _ _ (by unfold PLm PCp; omega), i5, i5, i5, i5, i5]; exact dr3.2.2 j hj
      · rw [v6 _ _ (by unfold PLm PCp; omega) (by unfold PLc; omega)]; exact h6.2.1
      · rw [v6 _ _ (by unfold PLm PCp; omega) (by unfold PLc; omega)]; exact h6.2.2.1
      · rw [v6 _ _ (by unfold PLm PCp; omega) (by unfold PLc; omega), v6 _ _ (by unfold PLm PCp; omega) (by unfold PLc; omega)]; exact h6.2.2.2.1
      · rw [v6 _ _ (by unfold PLm PCp; omega) (by unfold PLc; omega), v6 _ _ (by unfold PLm PCp; omega) (by unfold PLc; omega), v6 _ _ (by unfold PLm PCp; omega) (by unfold PLc; omega), v6 _ _ (by unfold PLm PCp; omega) (by unfold PLc; omega)]; exact h6.2.2.2.2.1 hp
      · obtain ⟨a1, a2, i, a3, a4, a5⟩ := h6.2.2.2.2.2 k hk
        refine ⟨a1, ?_, i, a3, ?_, ?_⟩
        · rw [v6 _ _ (by unfold PLm PCp; omega) (by unfold PLc; omega)]; exact a2
        · rw [v6 _ _ (by unfold PLm PCp; omega) (by unfold PLc; omega)]; exact a4
        · rw [v6 _ _ (by unfold PLm PCp; omega) (by unfold PLc; omega)]; exact a5
      · rw [v6 _ _ (by unfold PLm PCp; omega) (by unfold PLc; omega)]; exact h7.1
      · rw [v6 _ _ (by unfold PLm PCp; omega) (by unfold PLc; omega)]; exact h7.2.1
      · rw [v6 _ _ (by unfold PLm PCp; omega) (by unfold PLc; omega)]; exact h7.2.2.1 rfl
      · have e8 : ∀ i, 191 ≤ i → i ≤ 232 → (i ≤ 194 ∨ 229 ≤ i) → mI M6 (gB g + (i)) t = mI M (gB g + (i)) t := fun i i1 i2 i3 => v6 _ _ (by unfold PLm PCp; omega) (by unfold PLc; omega)
        rw [e8 191 (by decide) (by decide) (by decide), e8 192 (by decide) (by decide) (by decide), e8 193 (by decide) (by decide) (by decide), e8 194 (by decide) (by decide) (by decide), e8 229 (by decide) (by decide) (by decide), e8 230 (by decide) (by decide) (by decide), e8 231 (by decide) (by decide) (by decide), e8 232 (by decide) (by decide) (by decide)]
        exact h8.1 t ht
      · rw [v6 _ _ (by unfold PLm PCp; omega) (by unfold PLc; omega), v6 _ _ (by unfold PLm PCp; omega) (by unfold PLc; omega)]; exact h8.2
    · -- a fault
      rw [e83 h0]
      have l3 := f3.lay h1
      refine sp_lawM l3 (by rw [fp _ _ (by unfold PLc; omega)]; exact h2.2.2.1) h2.1 (fun i hi => by rw [fp _ _ (by unfold PLc; omega)]; exact (h2.2.2.2.1 i hi).2) hnb (by rw [fp _ _ (by unfold PLc; omega)]; exact h7.2.1) (fun M6 hx => absurd hx h0) (fun M6 _ f6 e2 e9 => hz _ _ ?_)
      have f36 : Fr (fun a k => PLc g (104 - r) a k ∨ (a = (gB g + 1) ∧ k = 1) ∨ (a = (gB g) ∧ k = 7) ∨ PLm g a k ∨ (a = (gB g + 195) ∧ (k = 0 ∨ k = 2 ∨ k = 3))) (fun a k => QTc g a k ∨ QTm g a k) M M6 := (f3.mono (fun a k hh => by rcases hh with hh | hh | hh; exact Or.inl hh; exact Or.inr (Or.inl hh); exact Or.inr (Or.inr (Or.inl hh))) (fun _ _ hh => Or.inl hh)).tr (f6.mono (fun a k hh => by rcases hh with hh | hh; exact Or.inr (Or.inr (Or.inr (Or.inl hh))); exact Or.inr (Or.inr (Or.inr (Or.inr hh)))) (fun _ _ hh => Or.inr hh))
      refine Iv.ex (nq := nq) (qa := qa) (r := r) (L := L) (np := np) (pn := pn) (on := false) (Iv.up ⟨f36.lay h1, ⟨0, bs, by omega, ?_, e2, fun i hi => ?_, hnb⟩, ?_, h4.fr f36 (fun a k hh => by unfold PLc PLm at hh; omega) (fun a k hh => by unfold QTc QTm at hh; omega), h5.fr f36 (fun a k hh => by unfold PLc PLm at hh; omega), h6.fr f36 (fun a k hh => by unfold PLc PLm at hh; omega), h7.fr f36 (fun a k hh => by unfold PLc PLm at hh; omega), h8.fr f36 (fun a k hh => by unfold PLc PLm at hh; omega)⟩)
      · rw [f6.1 _ _ (by unfold PLm; omega)]; exact t3
      · rw [f36.1 _ _ (by unfold PLc PLm; omega), f36.1 _ _ (by unfold PLc PLm; omega)]; exact h2.2.2.2.1 i hi
      · unfold IF; rw [f6.1 _ _ (by unfold PLm; omega), z7, e9]
