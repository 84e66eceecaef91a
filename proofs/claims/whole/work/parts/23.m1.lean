/-! PURE: calls, one by one: first those that only tell -/
theorem m_fault {g : Gh} {M : Mem} {c : Nat} (h : Inv g M c) {Z : Int32 → Int32 → Mem → Prop} (hz : ∀ v M', Inv g M' (c + 1) → Z v v M') : wp_X11_fault g M (gB g) (fun v M1 => wp_X12_fault g M1 (gB g + 195) (fun w M2 => Z v w M2)) := by
  obtain ⟨nq, qa, r, L, np, pn, on, h⟩ := h
  refine ⟨lk_0 h.1, lk_195 h.1, ?_⟩
  rintro M1 rfl
  have e : mI (uI M (gB g + 195) 0 0) (gB g + 195) 9 = mI M (gB g) 7 := by rw [s_II, if_pos rfl, if_neg (by decide)]; exact h.2.2.1.symm
  rw [e]
  exact hz _ _ (h.z 0).up.ex
theorem m_count {g : Gh} {M : Mem} {c : Nat} (h : Inv g M c) (p : Int32) {Z : Int32 → Int32 → Mem → Prop} (hz : ∀ v M', Inv g M' (c + 1) → Z v v M') : wp_X11_count g M (gB g) p (fun v M1 => wp_X12_count g M1 (gB g + 195) p (fun w M2 => Z v w M2)) := by
  obtain ⟨nq, qa, r, L, np, pn, on, h⟩ := h
  have hz' := fun v => hz v _ (h.z 0).up.ex
  obtain ⟨h1, ⟨n, bs, h2⟩, h3, h4, h5, h6, h7, h8⟩ := h
  have hb := lk_law h1 h5.1.1
  have e : ∀ k, k ≠ 0 → mI (uI M (gB g + 195) 0 0) (gB g + 195) k = mI M (gB g + 195) k := fun k hk => by rw [s_II, if_pos rfl, if_neg hk]
  refine ⟨lk_0 h1, ?_, ?_, ?_, ?_, ?_, ?_, ?_, ?_⟩
  · rintro rfl
    refine ⟨lk_195 h1, ?_⟩
    rintro M1 rfl
    refine ⟨fun _ => ?_, fun hh => absurd hh (by decide), fun hh => absurd hh (by decide), fun hh => absurd hh (by decide), fun hh => absurd hh (by decide), fun hh => absurd hh (by decide), fun hh => absurd hh (by decide), fun hh => absurd rfl hh.1⟩
    rw [e 16 (by decide), h4.2.1, h4.2.2.1]; exact hz' _
  · rintro rfl
    refine ⟨_, h5.2.2.1, hb.1, lk_195 h1, ?_⟩
    rintro M1 rfl
    refine ⟨fun hh => absurd hh (by decide), fun _ => ?_, fun hh => absurd hh (by decide), fun hh => absurd hh (by decide), fun hh => absurd hh (by decide), fun hh => absurd hh (by decide), fun hh => absurd hh (by decide), fun hh => absurd rfl hh.2.1⟩
    rw [e 40 (by decide), h5.1.2.2.2.1, h5.2.1.2.2.1]; exact hz' _
  · rintro rfl
    refine ⟨_, h5.2.2.1, hb.1, lk_195 h1, ?_⟩
    rintro M1 rfl
    refine ⟨fun hh => absurd hh (by decide), fun hh => absurd hh (by decide), fun _ => ?_, fun hh => absurd hh (by decide), fun hh => absurd hh (by decide), fun hh => absurd hh (by decide), fun hh => absurd hh (by decide), fun hh => absurd rfl hh.2.2.1⟩
    rw [e 39 (by decide), h5.1.2.2.1, h5.2.1.2.1]; exact hz' _
  · rintro rfl
    refine ⟨_, lr_0_8 h1, lk_61 h1, lk_195 h1, ?_⟩
    rintro M1 rfl
    refine ⟨fun hh => absurd hh (by decide), fun hh => absurd hh (by decide), fun hh => absurd hh (by decide), fun _ => ?_, fun hh => absurd hh (by decide), fun hh => absurd hh (by decide), fun hh => absurd hh (by decide), fun hh => absurd rfl hh.2.2.2.1⟩
    rw [e 44 (by decide), h6.2.1, h6.2.2.1]; exact hz' _
  · rintro rfl
    refine ⟨_, lr_0_8 h1, lk_61 h1, lk_195 h1, ?_⟩
    rintro M1 rfl
    refine ⟨fun hh => absurd hh (by decide), fun hh => absurd hh (by decide), fun hh => absurd hh (by decide), fun hh => absurd hh (by decide), fun _ => ?_, fun hh => absurd hh (by decide), fun hh => absurd hh (by decide), fun hh => absurd rfl hh.2.2.2.2.1⟩
    rw [e 45 (by decide), h6.2.2.2.1]; exact hz' _
  · rintro rfl
    refine ⟨_, lr_0_10 h1, lk_190 h1, lk_195 h1, ?_⟩
    rintro M1 rfl
    refine ⟨fun hh => absurd hh (by decide), fun hh => absurd hh (by decide), fun hh => absurd hh (by decide), fun hh => absurd hh (by decide), fun hh => absurd hh (by decide), fun _ => ?_, fun hh => absurd hh (by decide), fun hh => absurd rfl hh.2.2.2.2.2.1⟩
    rw [e 66 (by decide), h8.2]; exact hz' _
  · rintro rfl
    refine ⟨_, lr_0_0 h1, lk_1 h1, lk_195 h1, ?_⟩
    rintro M1 rfl
    refine ⟨fun hh => absurd hh (by decide), fun hh => absurd hh (by decide), fun hh => absurd hh (by decide), fun hh => absurd hh (by decide), fun hh => absurd hh (by decide), fun hh => absurd hh (by decide), fun _ => ?_, fun hh => absurd rfl hh.2.2.2.2.2.2⟩
    rw [e 2 (by decide), h2.2.1, h2.2.2.1]; exact hz' _
  · intro hn
    refine ⟨lk_195 h1, ?_⟩
    rintro M1 rfl
    exact ⟨fun hh => absurd hh hn.1, fun hh => absurd hh hn.2.1, fun hh => absurd hh hn.2.2.1, fun hh => absurd hh hn.2.2.2.1, fun hh => absurd hh hn.2.2.2.2.1, fun hh => absurd hh hn.2.2.2.2.2.1, fun hh => absurd hh hn.2.2.2.2.2.2, fun _ => hz' _⟩
theorem sp_X6_pointsOf0 {g : Gh} {M : Mem} (h : Lay g M) {post : Int32 → Mem → Prop} (hq : post (mI M (gB g + 189) 0) M) : wp_X6_pointsOf g M (gB g + 67) 0 post := by
  refine ⟨lk_67 h, fun _ => ⟨_, lr_67_8 h, lk_189 h, by rw [ln_189 h]; exact pk_in 0 2 (by decide), hq⟩, fun hh => absurd rfl hh⟩
theorem sp_X6_pointsOf1 {g : Gh} {M : Mem} (h : Lay g M) {post : Int32 → Mem → Prop} (hq : post (mI M (gB g + 189) 1) M) : wp_X6_pointsOf g M (gB g + 67) 1 post := by
  refine ⟨lk_67 h, fun hh => absurd hh (by decide), fun _ => ⟨fun _ => ⟨_, lr_67_8 h, lk_189 h, by rw [ln_189 h]; exact pk_in 1 2 (by decide), hq⟩, fun hh => absurd rfl hh⟩⟩
theorem m_now {g : Gh} {M : Mem} {c : Nat} (h : Inv g M c) (p : Int32) {Z : Int32 → Int32 → Mem → Prop} (hz : ∀ v M', Inv g M' (c + 1) → Z v v M') : wp_X11_now g M (gB g) p (fun v M1 => wp_X12_now g M1 (gB g + 195) p (fun w M2 => Z v w M2)) := by
  obtain ⟨nq, qa, r, L, np, pn, on, h⟩ := h
  have hz' := fun v => hz v _ (h.z 0).up.ex
  obtain ⟨h1, h2, h3, h4, h5, h6, h7, h8⟩ := h
  have e : ∀ k, k ≠ 0 → mI (uI M (gB g + 195) 0 0) (gB g + 195) k = mI M (gB g + 195) k := fun k hk => by rw [s_II, if_pos rfl, if_neg hk]
  refine ⟨lk_0 h1, _, lr_0_9 h1, lk_67 h1, ?_⟩
  rw [h7.1]
  cases on with
  | false =>
    refine ⟨fun _ => ⟨lk_195 h1, ?_⟩, fun hh => absurd rfl hh⟩
    rintro M1 rfl
    rw [e 48 (by decide), h7.2.1]
    exact ⟨fun _ => hz' _, fun hh => absurd rfl hh⟩
  | true =>
    obtain ⟨n, ev, hm⟩ := h7.2.2.2 rfl
    obtain ⟨m1, m2, m3, m4, m5, m6, m7, m8, m9⟩ := hm
    refine ⟨fun hh => absurd hh (by decide), fun _ => ⟨lk_67 h1, ?_, ?_, ?_, ?_, ?_, ?_, ?_⟩⟩
    · rintro rfl
      refine ⟨lk_195 h1, ?_⟩
      rintro M1 rfl
      rw [e 48 (by decide), h7.2.1]
      refine ⟨fun hh => absurd hh (by decide), fun _ => ⟨fun _ => ?_, fun hh => absurd hh (by decide), fun hh => absurd hh (by decide), fun hh => absurd hh (by decide), fun hh => absurd hh (by decide), fun hh => absurd hh (by decide), fun hh => absurd rfl hh.1⟩⟩
      rw [e 50 (by decide), m7.1, m8.1]; exact hz' _
    · rintro rfl
      refine ⟨lk_195 h1, ?_⟩
      rintro M1 rfl
      rw [e 48 (by decide), h7.2.1]
      refine ⟨fun hh => absurd hh (by decide), fun _ => ⟨fun hh => absurd hh (by decide), fun _ => ?_, fun hh => absurd hh (by decide), fun hh => absurd hh (by decide), fun hh => absurd hh (by decide), fun hh => absurd hh (by decide), fun hh => absurd rfl hh.2.1⟩⟩
      rw [e 51 (by decide), m7.2.1, m8.2.1]; exact hz' _
    · rintro rfl
      refine sp_X6_pointsOf0 h1 ⟨lk_195 h1, ?_⟩
      rintro M1 rfl
      rw [e 48 (by decide), h7.2.1]
      refine ⟨fun hh => absurd hh (by decide), fun _ => ⟨fun hh => absurd hh (by decide), fun hh => absurd hh (by decide), fun _ => ?_, fun hh => absurd hh (by decide), fun hh => absurd hh (by decide), fun hh => absurd hh (by decide), fun hh => absurd rfl hh.2.2.1⟩⟩
      rw [e 53 (by decide), m7.2.2.2.1, m8.2.2.2.1]; exact hz' _
    · rintro rfl
      refine sp_X6_pointsOf1 h1 ⟨lk_195 h1, ?_⟩
      rintro M1 rfl
      rw [e 48 (by decide), h7.2.1]
      refine ⟨fun hh => absurd hh (by decide), fun _ => ⟨fun hh => absurd hh (by decide), fun hh => absurd hh (by decide), fun hh => absurd hh (by decide), fun _ => ?_, fun hh => absurd hh (by decide), fun hh => absurd hh (by decide), fun hh => absurd rfl hh.2.2.2.1⟩⟩
      rw [e 54 (by decide), m7.2.2.2.2.1, m8.2.2.2.2.1]; exact hz' _
    · rintro rfl
      refine ⟨lk_195 h1, ?_⟩
      rintro M1 rfl
      rw [e 48 (by decide), h7.2.1]
      refine ⟨fun hh => absurd hh (by decide), fun _ => ⟨fun hh => absurd hh (by decide), fun hh => absurd hh (by decide), fun hh => absurd hh (by decide), fun hh => absurd hh (by decide), fun _ => ?_, fun hh => absurd hh (by decide), fun hh => absurd rfl hh.2.2.2.2.1⟩⟩
      rw [e 49 (by decide), m2, m3]; exact hz' _
    · rintro rfl
      refine ⟨lk_195 h1, ?_⟩
      rintro M1 rfl
      rw [e 48 (by decide), h7.2.1]
      refine ⟨fun hh => absurd hh (by decide), fun _ => ⟨fun hh => absurd hh (by decide), fun hh => absurd hh (by decide), fun hh => absurd hh (by decide), fun hh => absurd hh (by decide), fun hh => absurd hh (by decide), fun _ => ?_, fun hh => absurd rfl hh.2.2.2.2.2⟩⟩
      rw [e 55 (by decide), m7.2.2.2.2.2, m8.2.2.2.2.2]; exact hz' _
    · intro hn
      refine ⟨lk_195 h1, ?_⟩
      rintro M1 rfl
      rw [e 48 (by decide), h7.2.1]
      exact ⟨fun hh => absurd hh (by decide), fun _ => ⟨fun hh => absurd hh hn.1, fun hh => absurd hh hn.2.1, fun hh => absurd hh hn.2.2.1, fun hh => absurd hh hn.2.2.2.1, fun hh => absurd hh hn.2.2.2.2.1, fun hh => absurd hh hn.2.2.2.2.2, fun _ => hz' _⟩⟩
theorem m_call {g : Gh} {M : Mem} {c : Nat} (h : Inv g M c) {Z : Int32 → Int32 → Mem → Prop} (hz : ∀ v M', Inv g M' (c + 1) → Z v v M') : wp_X11_call g M (gB g) (fun v M1 => wp_X12_call g M1 (gB g + 195) (fun w M2 => Z v w M2)) := by
  obtain ⟨nq, qa, r, L, np, pn, on, h1, h2, h3, h4, h5, h6, h7, h8⟩ := h
  refine ⟨lk_0 h1, _, lr_0_9 h1, lk_67 h1, lk_67 h1, ?_⟩
  rintro M1 rfl M3 rfl
  have e67 : mI M (gB g + 67) 0 = bI on := h7.1
  have e48 : mI (uI (uI (uI M (gB g + 67) 0 0) (gB g + 67) 3 0) (gB g + 195) 0 0) (gB g + 195) 48 = bI on := by
    rw [s_II, if_pos rfl, if_neg (by decide), s_II, if_neg (by omega), s_II, if_neg (by omega)]; exact h7.2.1
  have b01 : bI on = 0 ∨ bI on = 1 := by cases on <;> simp [bI]
  rw [e67]
  refine ⟨b01, lk_195 h1, ?_⟩
  rintro M4 rfl M5 rfl
  rw [e48]
  refine ⟨b01, hz _ _ ?_⟩
  have f : Fr (fun a k => (a = (gB g + 67) ∧ (k = 0 ∨ k = 3)) ∨ (a = (gB g + 195) ∧ (k = 0 ∨ k = 48))) nQ M (uI (uI (uI (uI M (gB g + 67) 0 0) (gB g + 67) 3 0) (gB g + 195) 0 0) (gB g + 195) 48 0) := (((Fr.rf.uI (by omega)).uI (by omega)).uI (by omega)).uI (by omega)
  refine Iv.ex (Iv.up ⟨f.lay h1, h2.fr f (fun a k hh => by omega), h3.fr f (fun a k hh => by omega), h4.fr f (fun a k hh => by omega) (fun a k hh => (hh : False).elim), h5.fr f (fun a k hh => by have := h5.1.1; omega), h6.fr f (fun a k hh => by omega), ?_, h8.fr f (fun a k hh => by omega)⟩) (on := false)
  refine ⟨?_, ?_, fun _ => ?_, fun hh => absurd hh (by decide)⟩
  · simp [s_II, bI]
  · simp [s_II, bI]
  · simp [s_II]
theorem m_end {g : Gh} {M : Mem} {c : Nat} (h : Inv g M c) (p : Int32) {Z : Int32 → Int32 → Mem → Prop} (hz : ∀ v M', Inv g M' (c + 1) → Z v v M') : wp_X11_end g M (gB g) p (fun v M1 => wp_X12_end g M1 (gB g + 195) p (fun w M2 => Z v w M2)) := by
  obtain ⟨nq, qa, r, L, np, pn, on, h⟩ := h
  have hz' := fun v => hz v _ (h.z 0).up.ex
  obtain ⟨h1, ⟨n, bs, h2⟩, h3, h4, h5, h6, h7, h8⟩ := h
  have e2 : ∀ v, mI (uI (uI M (gB g + 1) 1 v) (gB g + 195) 0 0) (gB g + 195) 2 = nI n := fun v => by rw [s_II, if_pos rfl, if_neg (by decide), s_II, if_neg (by omega)]; exact h2.2.2.1
  have e2' : mI (uI M (gB g + 195) 0 0) (gB g + 195) 2 = nI n := by rw [s_II, if_pos rfl, if_neg (by decide)]; exact h2.2.2.1
  refine ⟨lk_0 h1, _, lr_0_0 h1, lk_1 h1, fun hc => ⟨Or.inl rfl, lk_195 h1, ?_⟩, fun hc => ⟨fun hc2 => ?_, fun hc2 => ⟨Or.inl rfl, lk_195 h1, ?_⟩⟩⟩
  · rintro M1 rfl
    exact ⟨fun _ => hz' _, fun hh => absurd hc hh⟩
  · rintro M3 rfl
    refine ⟨Or.inr rfl, lk_195 h1, ?_⟩
    rintro M1 rfl
    rw [e2]
    rw [h2.2.1] at hc2
    refine ⟨fun hh => absurd hh hc, fun _ => ⟨fun _ => ?_, fun hh => absurd hc2 hh⟩⟩
    rintro M5 rfl
    obtain ⟨j, hj, rfl⟩ := nI_of2 (nI_toInt (by have := h2.1; omega)) hc hc2
    refine hz _ _ ?_
    have f : Fr (fun a k => (a = (gB g + 1) ∧ k = 1) ∨ (a = (gB g + 195) ∧ (k = 0 ∨ k = 2))) nQ M (uI (uI (uI M (gB g + 1) 1 (nI j)) (gB g + 195) 0 0) (gB g + 195) 2 (nI j)) := ((Fr.rf.uI (by omega)).uI (by omega)).uI (by omega)
    refine Iv.ex (Iv.up ⟨f.lay h1, ⟨j, bs, ?_⟩, h3.fr f (fun a k hh => by omega), h4.fr f (fun a k hh => by omega) (fun a k hh => (hh : False).elim), h5.fr f (fun a k hh => by have := h5.1.1; omega), h6.fr f (fun a k hh => by omega), h7.fr f (fun a k hh => by omega), h8.fr f (fun a k hh => by omega)⟩)
    refine ⟨Nat.le_trans hj h2.1, ?_, ?_, fun i hi => ?_, h2.2.2.2.2⟩
    · simp [s_II]
    · simp [s_II]
    · rw [f.1 _ _ (by omega), f.1 _ _ (by omega)]; exact h2.2.2.2.1 i hi
  · rintro M1 rfl
    rw [e2']
    rw [h2.2.1] at hc2
    exact ⟨fun hh => absurd hh hc, fun _ => ⟨fun hh => absurd hh hc2, fun _ => hz' _⟩⟩
