/-! PURE: question, the call -/
def TRq (g : Gh) (nq : Nat) : Nat → Nat → Prop := fun a k => a = (gB g + 1) ∨ ((gB g + 3) ≤ a ∧ a ≤ (gB g + 8)) ∨ (a = (gB g) ∧ k = 7) ∨ (a = (gB g + 195) ∧ (k = 0 ∨ (2 ≤ k ∧ k ≤ 10) ∨ k = 17 ∨ k = 18)) ∨ ((gB g + 197) ≤ a ∧ a ≤ (gB g + 199) ∧ 420 * nq ≤ k)
def TQq (g : Gh) (nq : Nat) : Nat → Nat → Prop := fun a k => a < (gB g + 200) ∨ ((gB g + 200) ≤ a ∧ a ≤ (gB g + 201) ∧ 420 * nq ≤ k)
theorem iv_q {g : Gh} {M M' : Mem} {c nq : Nat} {qa : Nat → Nat} {r : Nat} {L : LawT} {np : Nat} {pn : Nat → Nat} {on : Bool} {P Q : Nat → Nat → Prop} (h : Iv g M c nq qa r L np pn on) (f : Fr P Q M M') (hP : ∀ a k, P a k → TRq g nq a k) (hQ : ∀ a k, Q a k → TQq g nq a k) : Lay g M' ∧ IQ g M' c nq qa ∧ ILw g M' r L ∧ IP g M' nq np pn ∧ IM g M' r L np on ∧ IL g M' := by
  obtain ⟨h1, h2, h3, h4, h5, h6, h7, h8⟩ := h
  have hr := h5.1.1
  have f' : Fr (TRq g nq) (TQq g nq) M M' := f.mono hP hQ
  refine ⟨f'.lay h1, h4.fr f' (fun a k hh => ?_) (fun a k hh => ?_), h5.fr f' (fun a k hh => ?_), h6.fr f' (fun a k hh => ?_), h7.fr f' (fun a k hh => ?_), h8.fr f' (fun a k hh => ?_)⟩
  · unfold TRq at hh; omega
  · unfold TQq at hh; omega
  · unfold TRq at hh; omega
  · unfold TRq at hh; omega
  · unfold TRq at hh; omega
  · unfold TRq at hh; omega
def PQw (g : Gh) : Nat → Nat → Prop := fun a k => PQc g a k ∨ (a = (gB g + 1) ∧ k = 1) ∨ (a = (gB g) ∧ k = 7)
theorem nw_z (M : Mem) (kd n k : Nat) : mI (nw M kd n) (mT M) k = 0 := by
  show va_up M.1 (mT M) (fun _ => 0) (mT M) k = 0
  rw [va_up_self]
/-- the class has read, wiped and kept the fault -/
theorem q_mid {g : Gh} {M M1 : Mem} {c nq : Nat} {qa : Nat → Nat} {r : Nat} {L : LawT} {np : Nat} {pn : Nat → Nat} {on : Bool} (h : Iv g M c nq qa r L np pn on) {n : Nat} {bs : Nat → Nat} (h2 : ITp g M n bs) (f1 : Fr (PQc g) (QQc g) M M1) {v : Int32} (e8 : mI M1 (gB g + 3) 8 = v) {post : Mem → Prop} (hq : ∀ M', Fr (PQw g) (QQc g) M M' → Fr (fun a k => (a = (gB g + 1) ∧ k = 1) ∨ (a = (gB g) ∧ k = 7)) nQ M1 M' → mI M' (gB g) 7 = v → TX g M' bs → post M') : ∃ q27, mR M1 (gB g) 0 = some q27 ∧ (wp_X10_wipe g M1 q27 (fun M30 => ∃ q32, mR M30 (gB g) 1 = some q32 ∧ (okc (gB g) M30 q32 2 ∧ (∀ M35, M35 = uI M30 (gB g) 7 (mI M30 q32 8) → post M35)))) := by
  have l1 := f1.lay h.1
  refine ⟨_, lr_0_0 l1, lk_1 l1, ?_⟩
  rintro M30 rfl
  refine ⟨_, lr_0_1 (g := g) l1, lk_3 l1, ?_⟩
  rintro M35 rfl
  rw [show mI (uI M1 (gB g + 1) 1 0) (gB g + 3) 8 = v by rw [s_II, if_neg (by omega)]; exact e8]
  have fm : Fr (fun a k => (a = (gB g + 1) ∧ k = 1) ∨ (a = (gB g) ∧ k = 7)) nQ M1 (uI (uI M1 (gB g + 1) 1 0) (gB g) 7 v) := (Fr.rf.uI (by omega)).uI (by omega)
  have v7 : mI (uI (uI M1 (gB g + 1) 1 0) (gB g) 7 v) (gB g) 7 = v := by rw [s_II, if_pos rfl, if_pos rfl]
  have v1 : mI (uI (uI M1 (gB g + 1) 1 0) (gB g) 7 v) (gB g + 1) 1 = 0 := by rw [s_II, if_neg (by omega), s_II, if_pos rfl, if_pos rfl]
  generalize uI (uI M1 (gB g + 1) 1 0) (gB g) 7 v = M35 at fm v7 v1 ⊢
  have f : Fr (PQw g) (QQc g) M M35 := (f1.mono (fun a k hh => Or.inl hh) (fun _ _ hh => hh)).tr (fm.mono (fun a k hh => Or.inr hh) (fun a k hh => (hh : False).elim))
  refine hq M35 f fm v7 ⟨v1, fun i hi => ?_, h2.2.2.2.2⟩
  rw [f.1 _ _ (by unfold PQw PQc; omega), f.1 _ _ (by unfold PQw PQc; omega)]
  exact h2.2.2.2.1 i hi
set_option maxHeartbeats 2000000 in
theorem m_question {g : Gh} {M : Mem} {c : Nat} (h : Inv g M c) (p : Int32) {Z : Int32 → Int32 → Mem → Prop} (hz : ∀ v M', Inv g M' (c + 1) → Z v v M') : wp_X11_question g M (gB g) p (fun v M1 => wp_X12_question g M1 (gB g + 195) p (fun w M2 => Z v w M2)) := by
  obtain ⟨nq, qa, r, L, np, pn, on, h⟩ := h
  obtain ⟨n, bs, h2⟩ := h.2.1
  have h1 := h.1
  have h4 := h.2.2.2.1
  have h60 := h4.1
  have bad : (nq = 60 ∨ p < 0 ∨ ¬ p < 8) → wp_X10_wipe g M (gB g + 1) (fun M9 => wp_X12_question g M9 (gB g + 195) p (fun w M2 => Z (-300) w M2)) := by
    intro hc
    refine ⟨lk_1 h1, ?_⟩
    rintro M9 rfl
    refine ⟨lk_195 h1, ?_⟩
    rintro M44 rfl M46 rfl M48 rfl
    have f : Fr (fun a k => (a = (gB g + 1) ∧ k = 1) ∨ (a = (gB g + 195) ∧ (k = 0 ∨ k = 2 ∨ k = 3))) nQ M (uI (uI (uI (uI M (gB g + 1) 1 0) (gB g + 195) 0 0) (gB g + 195) 3 (mI (uI (uI M (gB g + 1) 1 0) (gB g + 195) 0 0) (gB g + 195) 2)) (gB g + 195) 2 0) := (((Fr.rf.uI (by omega)).uI (by omega)).uI (by omega)).uI (by omega)
    have z1 : mI (uI (uI (uI (uI M (gB g + 1) 1 0) (gB g + 195) 0 0) (gB g + 195) 3 (mI (uI (uI M (gB g + 1) 1 0) (gB g + 195) 0 0) (gB g + 195) 2)) (gB g + 195) 2 0) (gB g + 1) 1 = 0 := by
      rw [s_II, if_neg (by omega), s_II, if_neg (by omega), s_II, if_neg (by omega), s_II, if_pos rfl, if_pos rfl]
    have z2 : mI (uI (uI (uI (uI M (gB g + 1) 1 0) (gB g + 195) 0 0) (gB g + 195) 3 (mI (uI (uI M (gB g + 1) 1 0) (gB g + 195) 0 0) (gB g + 195) 2)) (gB g + 195) 2 0) (gB g + 195) 2 = 0 := by rw [s_II, if_pos rfl, if_pos rfl]
    generalize uI (uI (uI (uI M (gB g + 1) 1 0) (gB g + 195) 0 0) (gB g + 195) 3 (mI (uI (uI M (gB g + 1) 1 0) (gB g + 195) 0 0) (gB g + 195) 2)) (gB g + 195) 2 0 = M48 at f z1 z2 ⊢
    have fin : Z (-300) (-300) M48 := by
      refine hz _ _ ((h.w.fr f (fun a k hh => by unfold TRw; omega) (fun a k hh => (hh : False).elim)).v (TX.it (bs := bs) ⟨z1, fun i hi => ?_, h2.2.2.2.2⟩ z2)).up.ex
      rw [f.1 _ _ (by omega), f.1 _ _ (by omega)]; exact h2.2.2.2.1 i hi
    have e16 : mI M48 (gB g + 195) 16 = nI nq := by rw [f.1 _ _ (by omega)]; exact h4.2.2.1
    rw [e16]
    refine pk_eq nq 60 (fun _ => fin) (fun hx => ⟨fun _ => fin, fun h0 => ⟨fun h8 => ?_, fun _ => fin⟩⟩)
    exact (hc.elim hx (fun hc => hc.elim h0 (fun hc => hc h8))).elim
  refine ⟨lk_0 h1, ?_⟩
  rw [h4.2.1]
  refine pk_le 60 nq (fun hx => ⟨_, lr_0_0 h1, bad (Or.inl (by omega))⟩) (fun hx => ⟨fun h0 => ⟨_, lr_0_0 h1, bad (Or.inr (Or.inl h0))⟩, fun h0 => ⟨fun h8 => ?_, fun h8 => ⟨_, lr_0_0 h1, bad (Or.inr (Or.inr h8))⟩⟩⟩)
  obtain ⟨t, ht, rfl⟩ : ∃ t, t < 8 ∧ p = nI t := by
    rcases pk_ix p (show 8 < 2 ^ 31 by decide) with hx | hx | ⟨t, ht, e⟩
    · exact absurd hx h0
    · exact absurd h8 (Int32.not_lt.mpr hx)
    · exact ⟨t, ht, e⟩
  have tp : TP g M (gB g + 1) (gB g + 2) n bs := ⟨lk_1 h1, lr_1_0 h1, lk_2 h1, ln_2 h1, h2.2.1, h2.1, fun i hi => (h2.2.2.2.1 i hi).1, h2.2.2.2.2⟩
  refine ⟨_, lr_0_1 h1, _, lr_0_0 h1, sp_readForm (ff := 261) h1 tp (by have := h2.1; omega) (fun T' F hp M1 f1 e8 it hl => ?_) (fun k T' hp M1 f1 e8 e9 => ?_)⟩
  · refine q_mid h h2 f1 e8 (fun M35 f35 fm v7 t35 => ?_)
    obtain ⟨l35, a4, a5, a6, a7, a8⟩ := iv_q h f35 (fun a k hh => by unfold PQw PQc at hh; unfold TRq; omega) (fun a k hh => by unfold QQc at hh; unfold TQq; omega)
    have it35 : ItC g M35 (linF (linP 6) F) := it.fr fm (fun a k hh => by omega) (fun a k hh => (hh : False).elim)
    have e2 : mI M35 (gB g + 195) 2 = nI n := by rw [f35.1 _ _ (by unfold PQw PQc; omega)]; exact h2.2.2.1
    have ht35 : gB g + 234 ≤ mT M35 := l35.1
    refine ⟨fun _ => ⟨_, lr_0_3 l35, ?_⟩, fun hx => absurd v7 hx⟩
    rintro q41 M42 rfl rfl
    have f42 : GrX gN gN M35 (nw M35 9 0) := gr_nw M35 9 0
    have w42 := nw_new M35 9 0
    have o42 : okc (gB g) (nw M35 9 0) (mT M35) 9 := ⟨by omega, by rw [w42.2.2]; omega, w42.1⟩
    have t42 : mT (nw M35 9 0) = mT M35 + 1 := w42.2.2
    have z42 : ∀ k, mI (nw M35 9 0) (mT M35) k = 0 := nw_z M35 9 0
    generalize nw M35 9 0 = M42 at f42 o42 t42 z42 ⊢
    have l42 := l35.gn f42
    refine ⟨_, lr_0_1 l42, sp_copyForm l42 (it35.gr l35 f42) hl (linF_k (linP_k 6) F) (fun M49 f49 nf => ⟨_, rfl, f49.ok o42, ?_⟩)⟩
    rintro M51 rfl M53 rfl
    have l49 := l42.gn f49
    have f4249 := f42.tr f49
    have o48 := lk_48 l49
    have n48 := ln_48 l49
    refine ⟨o48, ?_⟩
    rw [a4.2.1, nI_cl nq (by omega)]
    refine ⟨by rw [show mN (uR (uI M49 (mT M35) 0 (nI t)) (mT M35) 1 (some (mT M42))) (gB g + 48) = 60 from n48]; exact pk_in nq 60 (by omega), ?_⟩
    rintro M57 rfl M59 rfl
    have e4 : mI (uR (uR (uI M49 (mT M35) 0 (nI t)) (mT M35) 1 (some (mT M42))) (gB g + 48) nq (some (mT M35))) (gB g) 4 = nI nq := by
      show mI (uI M49 (mT M35) 0 (nI t)) (gB g) 4 = _
      rw [s_II, if_neg (by omega), (f4249.2 (gB g) (by omega)).1 4 (fun hx => hx)]; exact a4.2.1
    rw [e4, nI_1]
    have f59 : GrX (gP g) (gR g nq) M35 (uI (uR (uR (uI M49 (mT M35) 0 (nI t)) (mT M35) 1 (some (mT M42))) (gB g + 48) nq (some (mT M35))) (gB g) 4 (nI (nq + 1))) := gr_uI (gr_uR (gr_uR (gr_uI f4249.n (Or.inl (Nat.le_refl _))) (Or.inl (Nat.le_refl _))) (Or.inr ⟨rfl, rfl⟩)) (Or.inr ⟨rfl, rfl⟩)
    have x4 : mI (uI (uR (uR (uI M49 (mT M35) 0 (nI t)) (mT M35) 1 (some (mT M42))) (gB g + 48) nq (some (mT M35))) (gB g) 4 (nI (nq + 1))) (gB g) 4 = nI (nq + 1) := by rw [s_II, if_pos rfl, if_pos rfl]
    have r48 : mR (uI (uR (uR (uI M49 (mT M35) 0 (nI t)) (mT M35) 1 (some (mT M42))) (gB g + 48) nq (some (mT M35))) (gB g) 4 (nI (nq + 1))) (gB g + 48) nq = some (mT M35) := uR_eq _ _ _ _
    have r41 : mR (uI (uR (uR (uI M49 (mT M35) 0 (nI t)) (mT M35) 1 (some (mT M42))) (gB g + 48) nq (some (mT M35))) (gB g) 4 (nI (nq + 1))) (mT M35) 1 = some (mT M42) := (uR_ne _ _ _ _ (Or.inl (by omega))).trans (uR_eq _ _ _ _)
    have rn : ∀ b k, b ≠ mT M35 → b ≠ (gB g + 48) → mR (uI (uR (uR (uI M49 (mT M35) 0 (nI t)) (mT M35) 1 (some (mT M42))) (gB g + 48) nq (some (mT M35))) (gB g) 4 (nI (nq + 1))) b k = mR M49 b k := fun b k h1 h2 => (uR_ne _ _ _ _ (Or.inl h2)).trans (uR_ne _ _ _ _ (Or.inl h1))
    have i0 : mI (uI (uR (uR (uI M49 (mT M35) 0 (nI t)) (mT M35) 1 (some (mT M42))) (gB g + 48) nq (some (mT M35))) (gB g) 4 (nI (nq + 1))) (mT M35) 0 = nI t := by
      rw [s_II, if_neg (by omega)]
      show mI (uI M49 (mT M35) 0 (nI t)) (mT M35) 0 = _
      rw [s_II, if_pos rfl, if_pos rfl]
    have ik : ∀ b k, b ≠ (gB g) → (b ≠ mT M35 ∨ k ≠ 0) → mI (uI (uR (uR (uI M49 (mT M35) 0 (nI t)) (mT M35) 1 (some (mT M42))) (gB g + 48) nq (some (mT M35))) (gB g) 4 (nI (nq + 1))) b k = mI M49 b k := by
      intro b k hb hk
      rw [s_II, if_neg hb]
      show mI (uI M49 (mT M35) 0 (nI t)) b k = _
      rw [s_II]
      by_cases e : b = mT M35
      · rw [if_pos e, if_neg (hk.resolve_left (fun hx => hx e))]
      · rw [if_neg e]
    have kk : ∀ b, mK (uI (uR (uR (uI M49 (mT M35) 0 (nI t)) (mT M35) 1 (some (mT M42))) (gB g + 48) nq (some (mT M35))) (gB g) 4 (nI (nq + 1))) b = mK M49 b := fun _ => rfl
    have nn : ∀ b, mN (uI (uR (uR (uI M49 (mT M35) 0 (nI t)) (mT M35) 1 (some (mT M42))) (gB g + 48) nq (some (mT M35))) (gB g) 4 (nI (nq + 1))) b = mN M49 b := fun _ => rfl
    have tt : mT (uI (uR (uR (uI M49 (mT M35) 0 (nI t)) (mT M35) 1 (some (mT M42))) (gB g + 48) nq (some (mT M35))) (gB g) 4 (nI (nq + 1))) = mT M49 := rfl
    have jj : ∀ b k, mJ (uI (uR (uR (uI M49 (mT M35) 0 (nI t)) (mT M35) 1 (some (mT M42))) (gB g + 48) nq (some (mT M35))) (gB g) 4 (nI (nq + 1))) b k = mJ M49 b k := fun _ _ => rfl
    generalize uI (uR (uR (uI M49 (mT M35) 0 (nI t)) (mT M35) 1 (some (mT M42))) (gB g + 48) nq (some (mT M35))) (gB g) 4 (nI (nq + 1)) = M59 at f59 x4 r48 r41 rn i0 ik kk nn tt jj ⊢
    have okk : ∀ {b kd}, okc (gB g) M49 b kd → okc (gB g) M59 b kd := fun {b kd} o => ⟨o.1, by rw [tt]; exact o.2.1, (kk b).trans o.2.2⟩
    rw [x4, show nI (nq + 1) - 1 = nI nq from nI_pred nq]
    have l59 := l35.gr f59
    obtain ⟨b5, b6, b7, b8, t59⟩ := gr_rest l35 f59 a5 a6 a7 a8 t35
    have g2 : mI M59 (gB g + 195) 2 = nI n := by rw [(f59.2 (gB g + 195) (by omega)).1 2 (fun hx => by have := hx.1; omega)]; exact e2
    have g16 : mI M59 (gB g + 195) 16 = nI nq := by rw [(f59.2 (gB g + 195) (by omega)).1 16 (fun hx => by have := hx.1; omega)]; exact a4.2.2.1
    have g7 : mI M59 (gB g) 7 = 0 := by rw [(f59.2 (gB g) (by omega)).1 7 (fun hx => by have := hx.2; omega)]; exact v7
    refine sp_questM l59 g2 h2.1 (fun i hi => (t59.2.1 i hi).2) h2.2.2.2.2 g16 (by omega) ht (fun M2 T2 F2 hp2 f2 z2 z9 z16 vv en => ?_) (fun M2 e hp2 f2 z2 z9 => nomatch (hp.symm.trans hp2))
    have hF : F = F2 := by
      have := hp.symm.trans hp2
      injection this with this
      injection this
    subst hF
    obtain ⟨nf1, ka, la, ha, nf2, nf3, nf4, nf5, nf6⟩ := nf
    have p234 : ∀ a k, PRo g nq a k → a < (gB g + 207) := fun a k hh => by unfold PRo PRq PQm at hh; omega
    have q234 : ∀ a k, QQm g (420 * nq) (420 * nq + 420) a k → a < (gB g + 207) := fun a k hh => by unfold QQm at hh; omega
    have jn : ∀ a k, (gB g + 207) ≤ a → mJ M2 a k = mJ M59 a k := fun a k ha' => f2.2.1 _ _ (fun hx => by have := q234 _ _ hx; omega)
    have jni : ∀ a k, (gB g + 207) ≤ a → mI M2 a k = mI M59 a k := fun a k ha' => f2.1 _ _ (fun hx => by have := p234 _ _ hx; omega)
    have qn : QOK g M2 (c + 1) nq (mT M35) := by
      refine ⟨by rw [f2.R]; exact r48, f2.oc (okk (f49.ok o42)), by omega, ⟨mT M42, by rw [f2.R]; exact r41, f2.oc (okk nf1), F, ka, la, ha, ok_top ⟨0, Nat.zero_le _, rfl⟩ hp, hl, ⟨?_, ?_, ?_⟩, ⟨f2.oc (okk nf3.1), f2.oc (okk nf3.2.1), f2.oc (okk nf3.2.2)⟩, ⟨by omega, by omega, by omega⟩, ⟨?_, ?_, ?_⟩, fun i x hx => ⟨?_, ?_, ?_⟩, en⟩, ⟨t, ht, ?_, vv.1⟩, ⟨0, by omega, ?_, vv.2.1⟩, ⟨0, by omega, ?_, vv.2.2.1⟩, ⟨false, ?_, vv.2.2.2.2⟩, ⟨0, by omega, ?_, vv.2.2.2.1⟩⟩
      · rw [f2.R, rn _ _ (by omega) (by omega)]; exact nf2.1
      · rw [f2.R, rn _ _ (by omega) (by omega)]; exact nf2.2.1
      · rw [f2.R, rn _ _ (by omega) (by omega)]; exact nf2.2.2
      · rw [f2.N, nn]; exact nf5.1
      · rw [f2.N, nn]; exact nf5.2.1
      · rw [f2.N, nn]; exact nf5.2.2
      · rw [jni _ _ (by omega), ik _ _ (by omega) (Or.inl (by omega))]; exact (nf6 i x hx).1
      · rw [jn _ _ (by omega), jj]; exact (nf6 i x hx).2.1
      · rw [jn _ _ (by omega), jj]; exact (nf6 i x hx).2.2
      · rw [jni _ _ (by omega)]; exact i0
      · rw [jni _ _ (by omega), ik _ _ (by omega) (Or.inr (by decide)), (f49.2 _ (by omega)).1 _ (fun hx => hx)]; exact z42 2
      · rw [jni _ _ (by omega), ik _ _ (by omega) (Or.inr (by decide)), (f49.2 _ (by omega)).1 _ (fun hx => hx)]; exact z42 3
      · rw [jni _ _ (by omega), ik _ _ (by omega) (Or.inr (by decide)), (f49.2 _ (by omega)).1 _ (fun hx => hx)]; exact z42 4
      · rw [jni _ _ (by omega), ik _ _ (by omega) (Or.inr (by decide)), (f49.2 _ (by omega)).1 _ (fun hx => hx)]; exact z42 5
    have qo : ∀ q, q < nq → QOK g M2 (c + 1) q (qa q) := by
      intro q hq
      refine ((a4.2.2.2.1 q hq).gr l35 f59 hq).fr f2 (fun b k hb => ?_) (fun b k hb => ?_) |>.up
      · have := p234 b k hb
        refine ⟨fun hx => by omega, ?_, ?_⟩
        · unfold PRo PRq PQm at hb; omega
        · unfold PRo PRq PQm at hb; omega
      · have := q234 b k hb
        refine ⟨by omega, ?_⟩
        unfold QQm at hb; omega
    have hlt : ∀ q, q < nq → qa q < mT M35 := fun q hq => (a4.2.2.2.1 q hq).2.1.2.1
    have hr := b5.1.1
    refine hz _ _ ⟨nq + 1, fun q => if q = nq then mT M35 else qa q, r, L, np, pn, on, f2.lay l59, TX.it (t59.fr f2 (fun a k hh => by unfold PRo PRq PQm at hh; omega)) z2, ?_, ⟨by omega, ?_, z16, fun q hq => ?_, fun q q' hq hq' e => ?_⟩, b5.fr f2 (fun a k hh => by unfold PRo PRq PQm at hh; omega), ?_, b7.fr f2 (fun a k hh => by unfold PRo PRq PQm at hh; omega), b8.fr f2 (fun a k hh => by unfold PRo PRq PQm at hh; omega)⟩
    · show mI M2 (gB g) 7 = mI M2 (gB g + 195) 9
      rw [z9, f2.1 _ _ (by unfold PRo PRq PQm; omega)]; exact g7
    · rw [f2.1 _ _ (by unfold PRo PRq PQm; omega)]; exact x4
    · by_cases e : q = nq
      · subst e; simp only [if_true]; exact qn
      · simp only [e, if_false]; exact qo q (by omega)
    · by_cases e1 : q = nq
      · by_cases e2 : q' = nq
        · omega
        · simp only [e1, e2, if_true, if_false] at e
          have := hlt q' (by omega); omega
      · by_cases e2 : q' = nq
        · simp only [e1, e2, if_true, if_false] at e
          have := hlt q (by omega); omega
        · simp only [e1, e2, if_false] at e
          exact h4.2.2.2.2 q q' (by omega) (by omega) e
    · have b6' := b6.fr f2 (fun a k hh => by unfold PRo PRq PQm at hh; omega)
      exact ⟨b6'.1, b6'.2.1, b6'.2.2.1, b6'.2.2.2.1, b6'.2.2.2.2.1, fun k hk => ⟨by have := (b6'.2.2.2.2.2 k hk).1; omega, (b6'.2.2.2.2.2 k hk).2⟩⟩
  · have hk := er_top _ _ hp
    refine q_mid h h2 f1 e8 (fun M35 f35 fm v7 t35 => ?_)
    have l35 := f35.lay h1
    rw [v7]
    refine pk_eq k 0 (fun hx => by have := hk.1; simp only at this; omega) (fun _ => ⟨_, lr_0_1 l35, lk_3 l35, ?_⟩)
    rw [show mI M35 (gB g + 3) 9 = nI T'.2.1 by rw [fm.1 _ _ (by omega)]; exact e9]
    refine sp_questM l35 (by rw [f35.1 _ _ (by unfold PQw PQc; omega)]; exact h2.2.2.1) h2.1 (fun i hi => (t35.2.1 i hi).2) h2.2.2.2.2 (by rw [f35.1 _ _ (by unfold PQw PQc; omega)]; exact h4.2.2.1) (by omega) ht (fun M2 T2 F2 hp2 => nomatch (hp.symm.trans hp2)) (fun M2 e hp2 f2 z2 z9 => ?_)
    have he : (k, T') = e := by
      have := hp.symm.trans hp2
      injection this
    subst he
    have f : Fr (fun a k => PQw g a k ∨ PRq g nq a k) (fun a k => QQc g a k ∨ QQm g (420 * nq) (420 * nq + 420) a k) M M2 := (f35.mono (fun a k hh => Or.inl hh) (fun a k hh => Or.inl hh)).tr (f2.mono (fun a k hh => Or.inr hh) (fun a k hh => Or.inr hh))
    obtain ⟨l2, a4, a5, a6, a7, a8⟩ := iv_q h f (fun a k hh => by unfold PQw PQc PRq PQm at hh; unfold TRq; omega) (fun a k hh => by unfold QQc QQm at hh; unfold TQq; omega)
    refine hz _ _ (Iv.up ⟨l2, TX.it (t35.fr f2 (fun a k hh => by unfold PRq PQm at hh; omega)) z2, ?_, a4, a5, a6, a7, a8⟩).ex
    show mI M2 (gB g) 7 = mI M2 (gB g + 195) 9
    rw [z9, f2.1 _ _ (by unfold PRq PQm; omega)]; exact v7
