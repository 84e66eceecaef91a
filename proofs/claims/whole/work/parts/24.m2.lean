/-! PURE: questions that are told of; seen, strike, packed -/
theorem sp_qAt {g : Gh} {M : Mem} {c nq : Nat} {qa : Nat → Nat} (h1 : Lay g M) (h4 : IQ g M c nq qa) (p : Int32) {post : Option Nat → Mem → Prop} (hn : (p < 0 ∨ nI nq ≤ p) → post none M) (hs : ∀ q, q < nq → p = nI q → post (some (qa q)) M) : wp_X11_questionAt g M (gB g) p post := by
  refine ⟨lk_0 h1, fun hc => hn (Or.inl hc), fun hc => ?_⟩
  rw [h4.2.1]
  have h60 := h4.1
  refine ⟨fun hc2 => hn (Or.inr hc2), fun hc2 => ?_⟩
  rcases pk_ix p (show nq < 2 ^ 31 by omega) with h | h | ⟨q, hq, rfl⟩
  · exact absurd h hc
  · exact absurd h hc2
  refine ⟨_, lr_0_3 h1, lk_48 h1, ?_⟩
  rw [ln_48 h1]
  refine pk_le 60 q (fun hx => by omega) (fun _ => ⟨pk_in q 60 (by omega), qa q, ?_, hs q hq rfl⟩)
  rw [pk_cl q]; exact (h4.2.2.2.1 q hq).1
theorem sp_isQ {g : Gh} {M : Mem} {c nq : Nat} {qa : Nat → Nat} (h1 : Lay g M) (h4 : IQ g M c nq qa) (p : Int32) {post : Int32 → Mem → Prop} (hn : (p < 0 ∨ nI nq ≤ p) → post 0 M) (hs : ∀ q, q < nq → p = nI q → post 1 M) : wp_X12_isQuestion g M (gB g + 195) p post := by
  have h60 := h4.1
  refine ⟨lk_195 h1, fun hc => hn (Or.inl hc), fun hc => ?_⟩
  rw [h4.2.2.1]
  refine ⟨fun hc2 => hn (Or.inr hc2), fun hc2 => ?_⟩
  rcases pk_ix p (show nq < 2 ^ 31 by omega) with h | h | ⟨q, hq, e⟩
  · exact absurd h hc
  · exact absurd h hc2
  · exact hs q hq e
theorem sp_team {g : Gh} {M : Mem} (p : Int32) {post : Int32 → Mem → Prop} (hn : (p < 0 ∨ 12 ≤ p) → post 0 M) (hs : ∀ t, t < 12 → p = nI t → post 1 M) : wp_X11_isTeam g M p post := by
  refine ⟨fun hc => hn (Or.inl hc), fun hc => ⟨fun hc2 => hn (Or.inr hc2), fun hc2 => ?_⟩⟩
  rcases pk_ix p (show 12 < 2 ^ 31 by decide) with h | h | ⟨q, hq, e⟩
  · exact absurd h hc
  · exact absurd h hc2
  · exact hs q hq e
theorem sp_teamM {g : Gh} {M : Mem} (p : Int32) {post : Int32 → Mem → Prop} (hn : (p < 0 ∨ 12 ≤ p) → post 0 M) (hs : ∀ t, t < 12 → p = nI t → post 1 M) : wp_X12_isTeam g M p post := by
  refine ⟨fun hc => hn (Or.inl hc), fun hc => ⟨fun hc2 => hn (Or.inr hc2), fun hc2 => ?_⟩⟩
  rcases pk_ix p (show 12 < 2 ^ 31 by decide) with h | h | ⟨q, hq, e⟩
  · exact absurd h hc
  · exact absurd h hc2
  · exact hs q hq e
theorem nI_out {n q : Nat} (hq : q < n) (hn : n < 2 ^ 31) (h : nI q < 0 ∨ nI n ≤ nI q) : False := by
  rcases h with h | h
  · exact nI_pos (by omega) h
  · exact nI_ge hq hn h
theorem m_seen {g : Gh} {M : Mem} {c : Nat} (h : Inv g M c) (p1 p2 : Int32) {Z : Int32 → Int32 → Mem → Prop} (hz : ∀ v M', Inv g M' (c + 1) → Z v v M') : wp_X11_seen g M (gB g) p1 p2 (fun v M1 => wp_X12_seen g M1 (gB g + 195) p1 p2 (fun w M2 => Z v w M2)) := by
  obtain ⟨nq, qa, r, L, np, pn, on, h⟩ := h
  have hz' := fun v => hz v _ (h.z 0).up.ex
  have hi := h.z 0
  obtain ⟨h1, h2, h3, h4, h5, h6, h7, h8⟩ := h
  have h60 := h4.1
  refine ⟨lk_0 h1, sp_qAt h1 h4 p2 (fun hc => ⟨fun _ => ⟨lk_195 h1, ?_⟩, fun q hq => absurd hq (by simp)⟩) (fun q hq e => ⟨fun hx => absurd hx (by simp), fun q4 hq4 => ?_⟩)⟩
  · rintro M1 rfl
    refine sp_teamM p1 (fun _ => ⟨fun _ => hz' 0, fun hx => absurd rfl hx⟩) (fun t ht e => ⟨fun hx => absurd hx (by decide), fun _ => ?_⟩)
    refine sp_isQ hi.1 hi.2.2.2.1 p2 (fun _ => ⟨fun _ => hz' 0, fun hx => absurd rfl hx⟩) (fun q hq e => ?_)
    subst e; exact (nI_out hq (by omega) hc).elim
  · cases hq4
    subst e
    obtain ⟨q1, q2, q3, q4, q5, q6, q7, q8, s, s1, s2, s3⟩ := h4.2.2.2.1 q hq
    have hS : mI (uI M (gB g + 195) 0 0) (gB g + 205) q = nI s := by rw [s_II, if_neg (by omega)]; exact s3
    refine sp_team p1 (fun hc => ⟨fun _ => ⟨lk_195 h1, ?_⟩, fun hx => absurd rfl hx⟩) (fun t ht e => ⟨fun hx => absurd hx (by decide), fun _ => ?_⟩)
    · rintro M1 rfl
      exact sp_teamM p1 (fun _ => ⟨fun _ => hz' 0, fun hx => absurd rfl hx⟩) (fun t ht e => by subst e; exact (nI_out ht (by decide) hc).elim)
    · subst e
      have mod : ∀ v, v = (if ((nI s >>> (nI t &&& 31)) &&& 1) = 1 then (1 : Int32) else 0) → wp_X12_seen g M (gB g + 195) (nI t) (nI q) (fun w M2 => Z v w M2) := by
        rintro v rfl
        refine ⟨lk_195 h1, ?_⟩
        rintro M1 rfl
        refine sp_teamM (nI t) (fun hc => (nI_out ht (by decide) hc).elim) (fun _ _ _ => ⟨fun hx => absurd hx (by decide), fun _ => ?_⟩)
        refine sp_isQ hi.1 hi.2.2.2.1 (nI q) (fun hc => (nI_out hq (by omega) hc).elim) (fun _ _ _ => ⟨fun hx => absurd hx (by decide), fun _ => ?_⟩)
        refine ⟨_, lr_195_22 hi.1, lk_205 h1, by rw [ln_205 h1]; exact pk_in q 60 (by omega), ?_⟩
        rw [pk_cl q, hS]
        refine ⟨fun hx => ?_, fun hx => ?_⟩
        · rw [if_pos hx]; exact hz' 1
        · rw [if_neg hx]; exact hz' 0
      refine ⟨q2, ?_⟩
      rw [s2]
      refine ⟨fun hx => ⟨fun hy => absurd hy (by decide), fun _ => mod 1 (by rw [if_pos hx])⟩, fun hx => ⟨fun _ => mod 0 (by rw [if_neg hx]), fun hy => absurd rfl hy⟩⟩
theorem nb_b (b : Bool) : vp_nar .boolean (bI b) = bI b := by cases b <;> rfl
theorem bI_01 (b : Bool) : bI b = 0 ∨ bI b = 1 := by cases b <;> simp [bI]
theorem bI_inj {a b : Bool} : bI a = bI b ↔ a = b := by cases a <;> cases b <;> simp [bI]
theorem m_strike {g : Gh} {M : Mem} {c : Nat} (h : Inv g M c) (p1 : Int32) (b : Bool) {Z : Int32 → Int32 → Mem → Prop} (hz : ∀ v M', Inv g M' (c + 1) → Z v v M') : wp_X11_strike g M (gB g) p1 (bI b) (fun v M1 => wp_X12_strike g M1 (gB g + 195) p1 (bI b) (fun w M2 => Z v w M2)) := by
  obtain ⟨nq, qa, r, L, np, pn, on, h⟩ := h
  have hz' := fun v => hz v _ (h.z 0).up.ex
  have hi := h.z 0
  obtain ⟨h1, h2, h3, h4, h5, h6, h7, h8⟩ := h
  have h60 := h4.1
  refine ⟨lk_0 h1, sp_qAt h1 h4 p1 (fun hc => ⟨fun _ => ⟨lk_195 h1, ?_⟩, fun q hq => absurd hq (by simp)⟩) (fun q hq e => ⟨fun hx => absurd hx (by simp), fun q4 hq4 => ?_⟩)⟩
  · rintro M1 rfl
    exact sp_isQ hi.1 hi.2.2.2.1 p1 (fun _ => ⟨fun _ => hz' 0, fun hx => absurd rfl hx⟩) (fun q hq e => by subst e; exact (nI_out hq (by omega) hc).elim)
  · cases hq4
    subst e
    have hQ := h4.2.2.2.1 q hq
    obtain ⟨q1, q2, q3, q4, q5, q6, q7, ⟨sb, s1, s2⟩, q9⟩ := hQ
    refine ⟨_, lr_0_9 h1, lk_67 h1, ?_⟩
    rw [h7.1, s1]
    have e48 : mI (uI M (gB g + 195) 0 0) (gB g + 195) 48 = bI on := by rw [s_II, if_pos rfl, if_neg (by decide)]; exact h7.2.1
    have e206 : mI (uI M (gB g + 195) 0 0) (gB g + 206) q = bI sb := by rw [s_II, if_neg (by omega)]; exact s2
    cases on with
    | true =>
      refine ⟨fun hx => absurd hx (by decide), fun _ => ⟨lk_195 h1, ?_⟩⟩
      rintro M1 rfl
      refine sp_isQ hi.1 hi.2.2.2.1 (nI q) (fun hc => (nI_out hq (by omega) hc).elim) (fun _ _ _ => ⟨fun hx => absurd hx (by decide), fun _ => ?_⟩)
      rw [e48]
      exact ⟨fun hx => absurd hx (by decide), fun _ => hz' 0⟩
    | false =>
      refine ⟨fun _ => ⟨q2, fun hx => ⟨lk_195 h1, ?_⟩, fun hx => ⟨bI_01 b, ?_⟩⟩, fun hx => absurd rfl hx⟩
      · rintro M1 rfl
        refine sp_isQ hi.1 hi.2.2.2.1 (nI q) (fun hc => (nI_out hq (by omega) hc).elim) (fun _ _ _ => ⟨fun hx => absurd hx (by decide), fun _ => ?_⟩)
        rw [e48]
        refine ⟨fun _ => ⟨_, lr_195_23 hi.1, lk_206 h1, by rw [ln_206 h1]; exact pk_in q 60 (by omega), ?_⟩, fun hy => absurd rfl hy⟩
        rw [pk_cl q, e206]
        exact ⟨fun _ => hz' 0, fun hy => absurd hx hy⟩
      · rintro M12 rfl
        have ha : qa q ≠ (gB g + 195) := by omega
        refine ⟨lk_195 h1, ?_⟩
        rintro M1 rfl
        have e16 : mI (uI (uI M (qa q) 4 (bI b)) (gB g + 195) 0 0) (gB g + 195) 16 = nI nq := by rw [s_II, if_pos rfl, if_neg (by decide), s_II, if_neg ha.symm]; exact h4.2.2.1
        have e48' : mI (uI (uI M (qa q) 4 (bI b)) (gB g + 195) 0 0) (gB g + 195) 48 = 0 := by rw [s_II, if_pos rfl, if_neg (by decide), s_II, if_neg ha.symm]; exact h7.2.1
        have e206' : mI (uI (uI M (qa q) 4 (bI b)) (gB g + 195) 0 0) (gB g + 206) q = bI sb := by rw [s_II, if_neg (by omega), s_II, if_neg (by omega)]; exact s2
        refine ⟨lk_195 h1, fun hy => absurd hy (nI_pos (by omega)), fun _ => ?_⟩
        rw [e16]
        refine pk_le nq q (fun hy => by omega) (fun _ => ⟨fun hy => absurd hy (by decide), fun _ => ?_⟩)
        rw [e48']
        refine ⟨fun _ => ⟨_, lr_195_23 h1, lk_206 h1, by rw [ln_206 (M := uI M (qa q) 4 (bI b)) h1]; exact pk_in q 60 (by omega), ?_⟩, fun hy => absurd rfl hy⟩
        rw [pk_cl q, e206']
        refine ⟨fun hy => absurd hy hx, fun _ => ?_⟩
        rintro M13 rfl
        rw [nb_b]
        refine hz _ _ ?_
        have f : Fr (fun a k => (a = qa q ∧ k = 4) ∨ (a = (gB g + 195) ∧ k = 0) ∨ (a = (gB g + 206) ∧ k = q)) nQ M (uI (uI (uI M (qa q) 4 (bI b)) (gB g + 195) 0 0) (gB g + 206) q (bI b)) := ((Fr.rf.uI (by omega)).uI (by omega)).uI (by omega)
        refine Iv.ex (Iv.up ⟨f.lay h1, h2.fr f (fun a k hh => by omega), h3.fr f (fun a k hh => by omega), ⟨h4.1, ?_, ?_, fun j hj => ?_, h4.2.2.2.2⟩, h5.fr f (fun a k hh => by have := h5.1.1; omega), h6.fr f (fun a k hh => by omega), h7.fr f (fun a k hh => by omega), h8.fr f (fun a k hh => by omega)⟩)
        · rw [f.1 _ _ (by omega)]; exact h4.2.1
        · rw [f.1 _ _ (by omega)]; exact h4.2.2.1
        · by_cases hjq : j = q
          · subst hjq
            obtain ⟨fo, fo1, fo2, fo3⟩ := q4
            refine ⟨by rw [f.R]; exact q1, f.oc q2, q3, ⟨fo, by rw [f.R]; exact fo1, f.oc fo2, fo3.fr f (fun a k hh => ⟨fun h234 => ⟨9, by decide, ?_⟩, by omega⟩) (fun a k hh => (hh : False).elim)⟩, ?_, ?_, ?_, ⟨b, ?_, ?_⟩, ?_⟩
            · have : a = qa j := by omega
              subst this; exact q2
            · rw [f.1 _ _ (by omega), f.1 _ _ (by omega)]; exact q5
            · rw [f.1 _ _ (by omega), f.1 _ _ (by omega)]; exact q6
            · rw [f.1 _ _ (by omega), f.1 _ _ (by omega)]; exact q7
            · rw [s_II, if_neg (by omega), s_II, if_neg (by omega), s_II, if_pos rfl, if_pos rfl]
            · rw [s_II, if_pos rfl, if_pos rfl]
            · rw [f.1 _ _ (by omega), f.1 _ _ (by omega)]; exact q9
          · refine (h4.2.2.2.1 j hj).fr f (fun a k hh => ⟨fun h234 => ?_, by omega, by omega⟩) (fun a k hh => (hh : False).elim)
            have : a = qa q := by omega
            subst this
            exact ⟨fun he => hjq (h4.2.2.2.2 j q hj hq he.symm), q2⟩
theorem sp_numAt {g : Gh} {M : Mem} {nq np : Nat} {pn : Nat → Nat} (h1 : Lay g M) (h6 : IP g M nq np pn) (p : Int32) {post : Int32 → Mem → Prop} (hn : (p < 0 ∨ nI np ≤ p) → post (-1) M) (hs : ∀ k, k < np → p = nI k → post (nI (pn k)) M) : wp_X8_numberAt g M (gB g + 61) p post := by
  have h48 := h6.1
  refine ⟨lk_61 h1, fun hc => hn (Or.inl hc), fun hc => ?_⟩
  rw [h6.2.1]
  refine ⟨fun hc2 => hn (Or.inr hc2), fun hc2 => ?_⟩
  rcases pk_ix p (show np < 2 ^ 31 by omega) with h | h | ⟨k, hk, rfl⟩
  · exact absurd h hc
  · exact absurd h hc2
  obtain ⟨a1, a2, i, a3, a4, a5⟩ := h6.2.2.2.2.2 k hk
  refine ⟨_, lr_61_8 h1, lk_65 h1, ?_⟩
  rw [ln_65 h1]
  refine pk_lt k 48 (fun _ => ⟨pk_in k 48 (by omega), ?_⟩) (fun hx => by omega)
  rw [pk_cl k, a4]
  refine ⟨fun hx => absurd hx (nI_pos (by omega)), fun _ => ⟨_, lr_61_4 h1, lk_62 h1, ?_⟩⟩
  rw [ln_62 h1]
  refine pk_le 60 i (fun hx => by omega) (fun _ => ⟨pk_in i 60 a3, ?_⟩)
  rw [pk_cl i, a5]
  exact hs k hk rfl
theorem m_packed {g : Gh} {M : Mem} {c : Nat} (h : Inv g M c) (p : Int32) {Z : Int32 → Int32 → Mem → Prop} (hz : ∀ v M', Inv g M' (c + 1) → Z v v M') : wp_X11_packed g M (gB g) p (fun v M1 => wp_X12_packed g M1 (gB g + 195) p (fun w M2 => Z v w M2)) := by
  obtain ⟨nq, qa, r, L, np, pn, on, h⟩ := h
  have hz' := fun v => hz v _ (h.z 0).up.ex
  have hi := h.z 0
  obtain ⟨h1, h2, h3, h4, h5, h6, h7, h8⟩ := h
  have h48 := h6.1
  refine ⟨lk_0 h1, _, lr_0_8 h1, sp_numAt h1 h6 p (fun hc => ⟨lk_195 h1, ?_⟩) (fun k hk e => ⟨lk_195 h1, ?_⟩)⟩
  · rintro M1 rfl
    refine ⟨fun _ => hz' _, fun hx => ?_⟩
    rw [hi.2.2.2.2.2.1.2.2.1]
    have hc2 := hc.resolve_left hx
    refine ⟨fun hy => ?_, fun _ => hz' _⟩
    exfalso
    rcases pk_ix p (show np < 2 ^ 31 by omega) with h | h | ⟨k, hk, rfl⟩
    · exact hx h
    · exact absurd hy (Int32.not_lt.mpr h)
    · exact nI_ge hk (by omega) hc2
  · subst e
    rintro M1 rfl
    obtain ⟨a1, a2, a3⟩ := hi.2.2.2.2.2.1.2.2.2.2.2 k hk
    refine ⟨fun hx => absurd hx (nI_pos (by omega)), fun _ => ?_⟩
    rw [hi.2.2.2.2.2.1.2.2.1]
    refine pk_lt k np (fun _ => ⟨_, lr_195_41 h1, lk_220 h1, by rw [ln_220 h1]; exact pk_in k 48 (by omega), ?_⟩) (fun hx => by omega)
    rw [pk_cl k, a2]
    exact hz' _
