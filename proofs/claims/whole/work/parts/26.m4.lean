/-! PURE: nothing, dead -/
theorem frz {g : Gh} {M : Mem} (v : Int32) : Fr (fun a k => a = (gB g + 195) ∧ k = 0) nQ M (uI M (gB g + 195) 0 v) := Fr.rf.uI ⟨rfl, rfl⟩
theorem nI_lt3 {s : MS} {L : LawT} (hw : WS L s) (h : sH s < lW L) : ¬ (3 : Int32) ≤ sW s ∧ ¬ sW s = 3 := by
  rcases hw.1 h with e | e | e <;> rw [e] <;> decide
theorem sp_may_off {g : Gh} {M : Mem} {c nq : Nat} {qa : Nat → Nat} {r : Nat} {L : LawT} {np : Nat} {pn : Nat → Nat} (h : Iv g M c nq qa r L np pn false) {k p : Int32} {post : Int32 → Mem → Prop} (h0 : post 0 M) : wp_X6_mayCome g M (gB g + 67) k p post := by
  refine ⟨lk_67 h.1, ?_⟩
  rw [h.2.2.2.2.2.2.1.1]
  exact ⟨fun _ => h0, fun hx => absurd rfl hx⟩
theorem sp_can_off {g : Gh} {M : Mem} {c nq : Nat} {qa : Nat → Nat} {r : Nat} {L : LawT} {np : Nat} {pn : Nat → Nat} (h : Iv g M c nq qa r L np pn false) {p : Int32} {post : Int32 → Mem → Prop} (h0 : post 0 M) : wp_X12_canCome g M (gB g + 195) p post := by
  refine ⟨lk_195 h.1, ?_⟩
  rw [h.2.2.2.2.2.2.1.2.1]
  exact ⟨fun _ => h0, fun hx => absurd rfl hx⟩
/-- whether an event of a side may come -/
def mayS (L : LawT) (s : MS) (n : Nat) (p : Int32) : Prop := sH s < lW L ∧ n < 120 ∧ (p = 0 ∨ p = 1) ∧ (sW s = 2 ∨ sW s = p)
theorem sp_may {g : Gh} {M : Mem} {c nq : Nat} {qa : Nat → Nat} {r : Nat} {L : LawT} {np : Nat} {pn : Nat → Nat} (h : Iv g M c nq qa r L np pn true) {n : Nat} {ev : Nat → EvT} (hm : IMo g M r L np n ev) (kd p : Int32) (hk : kd = 0 ∨ kd = 1) {post : Int32 → Mem → Prop} (hy : mayS L (thr L ev n) n p ∧ (kd = 1 → lB L (rd L (sH (thr L ev n))) = false) → post 1 M) (hn : ¬ (mayS L (thr L ev n) n p ∧ (kd = 1 → lB L (rd L (sH (thr L ev n))) = false)) → post 0 M) : wp_X6_mayCome g M (gB g + 67) kd p post := by
  obtain ⟨h1, h2, h3, h4, h5, h6, h7, h8⟩ := h
  obtain ⟨m1, m2, m3, m4, m5, m6, m7, m8, m9, m10⟩ := hm
  have hc : MC g M r L := ⟨h1, m4, h5.1⟩
  have hW := h5.1.2.1.W
  have hle := thr_le (ev := ev) n (fun j hj => (m6 j hj).2.2)
  refine ⟨lk_67 h1, ?_⟩
  rw [h7.1]
  refine ⟨fun hx => absurd hx (by decide), fun _ => sp_X6_isOver hc m7.1 (by omega) ?_⟩
  by_cases hlt : sH (thr L ev n) < lW L
  · rw [if_pos hlt]
    refine ⟨fun _ => ?_, fun hx => absurd rfl hx⟩
    rw [m2]
    refine pk_lt n 120 (fun hn' => ?_) (fun hn' => hn (fun hx => by have := hx.1.2.1; omega))
    have l65 : (kd = 1 → lB L (rd L (sH (thr L ev n))) = false) → (p = 0 ∨ p = 1) → lb_X6_mayCome_65 g M (gB g + 67) kd p post M := by
      intro hb hp
      refine sp_X6_isFor h1 m7.2.1 ?_
      by_cases hf : sW (thr L ev n) = 2 ∨ sW (thr L ev n) = p
      · rw [if_pos hf]
        exact ⟨fun hx => absurd hx (by decide), fun _ => hy ⟨⟨hlt, hn', hp, hf⟩, hb⟩⟩
      · rw [if_neg hf]
        exact ⟨fun _ => hn (fun hx => hf hx.1.2.2.2), fun hx => absurd rfl hx⟩
    have l51 : (kd = 1 → lB L (rd L (sH (thr L ev n))) = false) → lb_X6_mayCome_51 g M (gB g + 67) kd p post 1 M := fun hb =>
      ⟨fun hx => absurd hx (by decide), fun _ => ⟨fun hp => l65 hb (Or.inl hp), fun hp0 => ⟨fun hp => l65 hb (Or.inr hp), fun hp1 => hn (fun hx => hx.1.2.2.1.elim hp0 hp1)⟩⟩⟩
    refine ⟨fun hx => ?_, fun _ => ⟨fun h0 => l51 (fun hx => ?_), fun h0 => sp_X6_isBuzz hc m7.1 hlt ?_⟩⟩
    · rcases hk with e | e <;> rw [e] at hx <;> exact absurd hx (by decide)
    · rw [h0] at hx; exact absurd hx (by decide)
    · have k1 := hk.resolve_left h0
      cases hb : lB L (rd L (sH (thr L ev n))) with
      | true => exact ⟨fun hx => absurd hx (by decide), fun _ => ⟨fun _ => hn (fun hx => by have := hx.2 k1; rw [hb] at this; cases this), fun hx => absurd rfl hx⟩⟩
      | false => exact ⟨fun _ => l51 (fun _ => hb), fun hx => absurd rfl hx⟩
  · rw [if_neg hlt]
    exact ⟨fun hx => absurd hx (by decide), fun _ => hn (fun hx => hlt hx.1.1)⟩
theorem sp_mayD {g : Gh} {M : Mem} {c nq : Nat} {qa : Nat → Nat} {r : Nat} {L : LawT} {np : Nat} {pn : Nat → Nat} (h : Iv g M c nq qa r L np pn true) {n : Nat} {ev : Nat → EvT} (hm : IMo g M r L np n ev) {p : Int32} {post : Int32 → Mem → Prop} (hy : sH (thr L ev n) < lW L ∧ n < 120 ∧ lB L (rd L (sH (thr L ev n))) = true → post 1 M) (hn : ¬ (sH (thr L ev n) < lW L ∧ n < 120 ∧ lB L (rd L (sH (thr L ev n))) = true) → post 0 M) : wp_X6_mayCome g M (gB g + 67) 2 p post := by
  obtain ⟨h1, h2, h3, h4, h5, h6, h7, h8⟩ := h
  obtain ⟨m1, m2, m3, m4, m5, m6, m7, m8, m9, m10⟩ := hm
  have hc : MC g M r L := ⟨h1, m4, h5.1⟩
  have hW := h5.1.2.1.W
  have hle := thr_le (ev := ev) n (fun j hj => (m6 j hj).2.2)
  refine ⟨lk_67 h1, ?_⟩
  rw [h7.1]
  refine ⟨fun hx => absurd hx (by decide), fun _ => sp_X6_isOver hc m7.1 (by omega) ?_⟩
  by_cases hlt : sH (thr L ev n) < lW L
  · rw [if_pos hlt]
    refine ⟨fun _ => ?_, fun hx => absurd rfl hx⟩
    rw [m2]
    refine pk_lt n 120 (fun hn' => ⟨fun _ => sp_X6_isBuzz hc m7.1 hlt ⟨bI_01 _, ?_⟩, fun hx => absurd rfl hx⟩) (fun hn' => hn (fun hx => by have := hx.2.1; omega))
    cases hb : lB L (rd L (sH (thr L ev n))) with
    | true => exact hy ⟨hlt, hn', hb⟩
    | false => exact hn (fun hx => by rw [hb] at hx; exact absurd hx.2.2 (by decide))
  · rw [if_neg hlt]
    exact ⟨fun hx => absurd hx (by decide), fun _ => hn (fun hx => hlt hx.1)⟩
theorem i01 {p : Int32} (h0 : ¬ p < 0) (h1 : ¬ 1 < p) : p = 0 ∨ p = 1 := by
  rcases pk_ix p (show 2 < 2 ^ 31 by decide) with h | h | ⟨q, hq, rfl⟩
  · exact absurd h h0
  · exfalso; apply h1
    rw [Int32.lt_iff_toInt_lt]
    have := Int32.le_iff_toInt_le.mp h
    rw [nI_toInt (by decide)] at this
    have e1 : (1 : Int32).toInt = 1 := rfl
    omega
  · rcases (show q = 0 ∨ q = 1 by omega) with rfl | rfl
    · exact Or.inl rfl
    · exact Or.inr rfl
/-- the reference's look at whether an event may come: on any memory with these numbers -/
theorem sp_can {g : Gh} {M : Mem} {L : LawT} {s : MS} {n : Nat} (h1 : Lay g M) (h48 : mI M (gB g + 195) 48 = 1) (h49 : mI M (gB g + 195) 49 = nI n) (h51 : mI M (gB g + 195) 51 = sW s) (hn2 : n ≤ 120) (hws : WS L s) (p : Int32) {post : Int32 → Mem → Prop} (hy : mayS L s n p → post 1 M) (hn : ¬ mayS L s n p → post 0 M) : wp_X12_canCome g M (gB g + 195) p post := by
  refine ⟨lk_195 h1, ?_⟩
  rw [h48, h49, h51]
  refine ⟨fun hx => absurd hx (by decide), fun _ => ⟨fun hx => hn (fun hz => (nI_lt3 hws hz.1).1 hx), fun hx => ?_⟩⟩
  have hlt : sH s < lW L := by
    rcases Nat.lt_or_ge (sH s) (lW L) with hlt | hge
    · exact hlt
    · exact absurd (by rw [hws.2 hge]; decide) hx
  refine pk_le 120 n (fun hn' => hn (fun hz => by have := hz.2.1; omega)) (fun hn' => ?_)
  refine ⟨fun hy' => hn (fun hz => ?_), fun hy0 => ⟨fun hy2 => hn (fun hz => ?_), fun hy2 => ?_⟩⟩
  · rcases hz.2.2.1 with e | e <;> rw [e] at hy' <;> exact absurd hy' (by decide)
  · rcases hz.2.2.1 with e | e <;> rw [e] at hy2 <;> exact absurd hy2 (by decide)
  · have h01 := i01 hy0 hy2
    exact ⟨fun hw => hy ⟨hlt, hn', h01, Or.inl hw⟩, fun hw => ⟨fun hw2 => hy ⟨hlt, hn', h01, Or.inr hw2⟩, fun hw2 => hn (fun hz => hz.2.2.2.elim hw hw2)⟩⟩
/-- the same, and the round's buzz -/
theorem sp_buzzM {g : Gh} {M M0 : Mem} {L : LawT} {hd : Nat} (h1 : Lay g M) (h0 : Lay g M0) (lm : LM g M L) (h50 : mI M (gB g + 195) 50 = nI hd) (hlt : hd < lW L) {A B : Int32 → Mem → Prop} (hA : lB L (rd L hd) = false → A 0 M) (hB : lB L (rd L hd) = true → B 0 M) : ∃ q6, mR M (gB g + 195) 33 = some q6 ∧ (wp_X12_roundOf g M (gB g + 195) (mI M (gB g + 195) 50) (fun v8 M9 => okc (gB g) M0 q6 17 ∧ (vp_in v8 (mN M0 q6) ∧ ((((mI M9 q6 (Int32.toNatClampNeg v8)) = 0) → A 0 M9) ∧ (¬ ((mI M9 q6 (Int32.toNatClampNeg v8)) = 0) → B 0 M9))))) := by
  have h6 := rd_6 lm.1 hlt
  refine ⟨_, lr_195_33 h1, ?_⟩
  rw [h50]
  refine sp_X12_roundOf h1 lm hlt ⟨lk_214 h0, by rw [ln_214 h0]; exact pk_in (rd L hd) 6 h6, ?_⟩
  rw [pk_cl (rd L hd), (lm.2.2.2 _ (rd_is lm.1 hlt).1).2.1]
  cases hb : lB L (rd L hd) with
  | true => exact ⟨fun hx => absurd hx (by decide), fun _ => hB hb⟩
  | false => exact ⟨fun _ => hA hb, fun hx => absurd rfl hx⟩
theorem m_nothing {g : Gh} {M : Mem} {c : Nat} (h : Inv g M c) (p : Int32) {Z : Int32 → Int32 → Mem → Prop} (hz : ∀ v M', Inv g M' (c + 1) → Z v v M') : wp_X11_nothing g M (gB g) p (fun v M1 => wp_X12_nothing g M1 (gB g + 195) p (fun w M2 => Z v w M2)) := by
  obtain ⟨nq, qa, r, L, np, pn, on, h⟩ := h
  have hz' := fun v => hz v _ (h.z 0).up.ex
  have hi := h.z 0
  have h1 := h.1
  refine ⟨lk_0 h1, _, lr_0_9 h1, ?_⟩
  cases on with
  | false =>
    refine sp_may_off h ⟨fun _ => ⟨lk_195 h1, ?_⟩, fun hx => absurd rfl hx⟩
    rintro M1 rfl
    exact sp_can_off hi ⟨fun _ => hz' 0, fun hx => absurd rfl hx⟩
  | true =>
    obtain ⟨n, ev, hm⟩ := h.2.2.2.2.2.2.1.2.2.2 rfl
    have hws := WS_thr (L := L) (ev := ev) n (fun j hj => (hm.2.2.2.2.2.1 j hj).2.2)
    refine sp_may h hm 1 p (Or.inr rfl) (fun hy => ⟨fun hx => absurd hx (by decide), fun _ => ⟨_, lr_0_9 h1, ?_⟩⟩) (fun hn => ⟨fun _ => ⟨lk_195 h1, ?_⟩, fun hx => absurd rfl hx⟩)
    · have hn1 : n < 120 := hy.1.2.1
      have hE : EvOK L (sH (thr L ev n), 1, p, false) := ⟨hy.1.1, Or.inr ⟨Or.inr ⟨rfl, rfl⟩, hy.1.2.2.1⟩⟩
      refine sp_addBoth h hm hy.1.2.1 hy.1.1 (b := false) hE (fun M1 f l1 lm1 hq => ⟨lk_195 l1, ?_⟩)
      rintro M1' rfl
      have f0 : Fr (fun a k => PXa g n a k ∨ (a = (gB g + 195) ∧ k = 0)) nQ M (uI M1 (gB g + 195) 0 0) := (f.mono (fun a k hh => Or.inl hh) (fun _ _ hh => hh)).tr ((frz 0).mono (fun a k hh => Or.inr hh) (fun _ _ hh => hh))
      refine sp_can (s := thr L ev n) (L := L) (f0.lay h1) (by rw [f0.1 _ _ (by unfold PXa; omega)]; exact h.2.2.2.2.2.2.1.2.1) (by rw [f0.1 _ _ (by unfold PXa; omega)]; exact hm.2.2.1) (by rw [f0.1 _ _ (by unfold PXa; omega)]; exact hm.2.2.2.2.2.2.2.1.2.1) hm.1 hws p (fun _ => ⟨fun hx => absurd hx (by decide), fun _ => ?_⟩) (fun hn => absurd hy.1 hn)
      exact sp_buzzM (A := fun _ M9 => wp_X12_tells g M9 (gB g + 195) 1 p 0 (fun M14 => Z 1 1 M14)) (B := fun _ M9 => Z 1 0 M9) (f0.lay h1) l1 (lm1.fr (frz 0) (fun a k hh => by omega)) (by rw [f0.1 _ _ (by unfold PXa; omega)]; exact hm.2.2.2.2.2.2.2.1.1) hy.1.1 (fun _ => hq _ (frz 0) _ (fun M2 h2 => hz 1 M2 h2.up.ex)) (fun hb => by have := hy.2 rfl; rw [hb] at this; cases this)
    · rintro M1 rfl
      have hm' : IMo g (uI M (gB g + 195) 0 0) r L np n ev := hm.fr (frz 0) (fun a k hh => by omega)
      refine sp_can (s := thr L ev n) (L := L) hi.1 hi.2.2.2.2.2.2.1.2.1 hm'.2.2.1 hm'.2.2.2.2.2.2.2.1.2.1 hm.1 hws p (fun hy => ⟨fun hx => absurd hx (by decide), fun _ => ?_⟩) (fun _ => ⟨fun _ => hz' 0, fun hx => absurd rfl hx⟩)
      exact sp_buzzM (A := fun _ M9 => wp_X12_tells g M9 (gB g + 195) 1 p 0 (fun M14 => Z 0 1 M14)) (B := fun _ M9 => Z 0 0 M9) hi.1 h1 hi.2.2.2.2.1.2.1 hm'.2.2.2.2.2.2.2.1.1 hy.1 (fun hb => absurd ⟨hy, fun _ => hb⟩ hn) (fun _ => hz' 0)
theorem m_dead {g : Gh} {M : Mem} {c : Nat} (h : Inv g M c) {Z : Int32 → Int32 → Mem → Prop} (hz : ∀ v M', Inv g M' (c + 1) → Z v v M') : wp_X11_dead g M (gB g) (fun v M1 => wp_X12_dead g M1 (gB g + 195) (fun w M2 => Z v w M2)) := by
  obtain ⟨nq, qa, r, L, np, pn, on, h⟩ := h
  have hz' := fun v => hz v _ (h.z 0).up.ex
  have hi := h.z 0
  have h1 := h.1
  refine ⟨lk_0 h1, _, lr_0_9 h1, ?_⟩
  cases on with
  | false =>
    refine sp_may_off h ⟨fun _ => ⟨lk_195 h1, ?_⟩, fun hx => absurd rfl hx⟩
    rintro M1 rfl
    rw [hi.2.2.2.2.2.2.1.2.1]
    exact ⟨fun _ => hz' 0, fun hx => absurd rfl hx⟩
  | true =>
    obtain ⟨n, ev, hm⟩ := h.2.2.2.2.2.2.1.2.2.2 rfl
    have hws := WS_thr (L := L) (ev := ev) n (fun j hj => (hm.2.2.2.2.2.1 j hj).2.2)
    have hn120 := hm.1
    refine sp_mayD h hm (fun hy => ⟨fun hx => absurd hx (by decide), fun _ => ⟨_, lr_0_9 h1, ?_⟩⟩) (fun hn => ⟨fun _ => ⟨lk_195 h1, ?_⟩, fun hx => absurd rfl hx⟩)
    · have hn1 : n < 120 := hy.2.1
      have hE : EvOK L (sH (thr L ev n), 2, -1, false) := ⟨hy.1, Or.inl ⟨rfl, rfl, rfl⟩⟩
      refine sp_addBoth h hm hy.2.1 hy.1 (b := false) hE (fun M1 f l1 lm1 hq => ⟨lk_195 l1, ?_⟩)
      rintro M1' rfl
      have f0 : Fr (fun a k => PXa g n a k ∨ (a = (gB g + 195) ∧ k = 0)) nQ M (uI M1 (gB g + 195) 0 0) := (f.mono (fun a k hh => Or.inl hh) (fun _ _ hh => hh)).tr ((frz 0).mono (fun a k hh => Or.inr hh) (fun _ _ hh => hh))
      rw [f0.1 (gB g + 195) 48 (by unfold PXa; omega), f0.1 (gB g + 195) 51 (by unfold PXa; omega), f0.1 (gB g + 195) 49 (by unfold PXa; omega), h.2.2.2.2.2.2.1.2.1, hm.2.2.2.2.2.2.2.1.2.1, hm.2.2.1]
      refine ⟨fun hx => absurd hx (by decide), fun _ => ⟨fun hx => absurd hx (nI_lt3 hws hy.1).2, fun _ => pk_eq n 120 (fun hx => by omega) (fun _ => ?_)⟩⟩
      exact sp_buzzM (A := fun _ M9 => Z 1 0 M9) (B := fun _ M9 => wp_X12_tells g M9 (gB g + 195) 2 (-1) 0 (fun M14 => Z 1 1 M14)) (f0.lay h1) l1 (lm1.fr (frz 0) (fun a k hh => by omega)) (by rw [f0.1 _ _ (by unfold PXa; omega)]; exact hm.2.2.2.2.2.2.2.1.1) hy.1 (fun hb => by rw [hb] at hy; exact absurd hy.2.2 (by decide)) (fun _ => hq _ (frz 0) _ (fun M2 h2 => hz 1 M2 h2.up.ex))
    · rintro M1 rfl
      have hm' : IMo g (uI M (gB g + 195) 0 0) r L np n ev := hm.fr (frz 0) (fun a k hh => by omega)
      rw [hi.2.2.2.2.2.2.1.2.1, hm'.2.2.2.2.2.2.2.1.2.1, hm'.2.2.1]
      refine ⟨fun hx => absurd hx (by decide), fun _ => ⟨fun hx => hz' 0, fun hx => pk_eq n 120 (fun _ => hz' 0) (fun hne => ?_)⟩⟩
      have hlt : sH (thr L ev n) < lW L := by
        rcases Nat.lt_or_ge (sH (thr L ev n)) (lW L) with hlt | hge
        · exact hlt
        · exact absurd (hws.2 hge) hx
      exact sp_buzzM (A := fun _ M9 => Z 0 0 M9) (B := fun _ M9 => wp_X12_tells g M9 (gB g + 195) 2 (-1) 0 (fun M14 => Z 0 1 M14)) hi.1 h1 hi.2.2.2.2.1.2.1 hm'.2.2.2.2.2.2.2.1.1 hlt (fun _ => hz' 0) (fun hb => absurd ⟨hlt, by omega, hb⟩ hn)
