/-! PURE: event -/
def vE (g : Gh) (M : Mem) (j : Nat) : Nat → Int32
  | 0 => mI M (gB g + 223) j
  | 1 => mI M (gB g + 224) j
  | 2 => mI M (gB g + 225) j
  | 3 => mI M (gB g + 227) j
  | 4 => mI M (gB g + 228) j
  | _ => mI M (gB g + 226) j
theorem bI_same {g : Gh} {M : Mem} {a j : Nat} {b : Bool} {Y : Int32 → Prop} (e : mI M a j = bI b) (h : Y (mI M a j)) : ((mI M a j = 0) → Y 0) ∧ (¬ (mI M a j = 0) → Y 1) := by
  rw [e] at h ⊢
  cases b with
  | false => exact ⟨fun _ => h, fun hx => absurd rfl hx⟩
  | true => exact ⟨fun hx => absurd hx (by decide), fun _ => h⟩
theorem kt69 {g : Gh} {M : Mem} (h1 : Lay g M) {j : Nat} (hj : j < 120) : okc (gB g) M (gB g + (69 + j)) 0 := by
  refine ⟨Nat.le_add_right _ _, by have := h1.1; omega, ?_⟩
  rw [(h1.2.1 (69 + j) (by omega)).1, (kt_ev j hj).1]
theorem sp_tellE {g : Gh} {M : Mem} {r : Nat} {L : LawT} {np n : Nat} {ev : Nat → EvT} (h1 : Lay g M) (hm : IMo g M r L np n ev) {j w : Nat} (hj : j < n) (hw : w < 6) {post : Int32 → Mem → Prop} (hp : post (vE g M j w) M) : wp_X0_tell g M (gB g + (69 + j)) (nI w) post := by
  obtain ⟨m1, m2, m3, m4, m5, m6, m7, m8, m9, m10⟩ := hm
  obtain ⟨⟨c1, c2, c3, c4⟩, ⟨d1, d2, d3, d4⟩, _⟩ := m6 j hj
  have h9 := m9 j hj
  have h10 := m10 j hj
  refine ⟨kt69 h1 (by omega), ?_⟩
  rcases (show w = 0 ∨ w = 1 ∨ w = 2 ∨ w = 3 ∨ w = 4 ∨ w = 5 by omega) with rfl | rfl | rfl | rfl | rfl | rfl
  · refine ⟨fun _ => ?_, fun hx => absurd hx (by decide), fun hx => absurd hx (by decide), fun hx => absurd hx (by decide), fun hx => absurd hx (by decide), fun hx => absurd hx (by decide), fun hx => absurd rfl hx.1⟩
    rw [c1, ← d1]; exact hp
  · refine ⟨fun hx => absurd hx (by decide), fun _ => ?_, fun hx => absurd hx (by decide), fun hx => absurd hx (by decide), fun hx => absurd hx (by decide), fun hx => absurd hx (by decide), fun hx => absurd rfl hx.2.1⟩
    rw [c2, ← d2]; exact hp
  · refine ⟨fun hx => absurd hx (by decide), fun hx => absurd hx (by decide), fun _ => ?_, fun hx => absurd hx (by decide), fun hx => absurd hx (by decide), fun hx => absurd hx (by decide), fun hx => absurd rfl hx.2.2.1⟩
    rw [c3, ← d3]; exact hp
  · refine ⟨fun hx => absurd hx (by decide), fun hx => absurd hx (by decide), fun hx => absurd hx (by decide), fun _ => ?_, fun hx => absurd hx (by decide), fun hx => absurd hx (by decide), fun hx => absurd rfl hx.2.2.2.1⟩
    have hp : post (mI M (gB g + 227) j) M := hp
    rw [d4, ← c4] at hp
    exact bI_same (g := g) (Y := fun v => post v M) c4 hp
  · refine ⟨fun hx => absurd hx (by decide), fun hx => absurd hx (by decide), fun hx => absurd hx (by decide), fun hx => absurd hx (by decide), fun _ => ?_, fun hx => absurd hx (by decide), fun hx => absurd rfl hx.2.2.2.2.1⟩
    have hp : post (mI M (gB g + 228) j) M := hp
    rw [h10.1, ← h9.1] at hp
    exact bI_same (g := g) (Y := fun v => post v M) h9.1 hp
  · refine ⟨fun hx => absurd hx (by decide), fun hx => absurd hx (by decide), fun hx => absurd hx (by decide), fun hx => absurd hx (by decide), fun hx => absurd hx (by decide), fun _ => ?_, fun hx => absurd rfl hx.2.2.2.2.2⟩
    rw [h9.2, ← h10.2]; exact hp
theorem sp_evtM {g : Gh} {M : Mem} {r : Nat} {L : LawT} {np : Nat} {on : Bool} (h1 : Lay g M) (h7 : IM g M r L np on) (p1 p2 : Int32) {Y : Int32 → Mem → Prop} (hbad : (on = false ∨ (∃ n ev, IMo g M r L np n ev ∧ on = true ∧ (p1 < 0 ∨ nI n ≤ p1)) ∨ p2 < 0 ∨ ¬ p2 ≤ 5) → Y 0 (uI M (gB g + 195) 0 1)) (hgo : ∀ n ev j w, on = true → IMo g M r L np n ev → j < n → w < 6 → p1 = nI j → p2 = nI w → Y (vE g M j w) (uI M (gB g + 195) 0 0)) : wp_X12_event g M (gB g + 195) p1 p2 Y := by
  have b34 : (on = false ∨ (∃ n ev, IMo g M r L np n ev ∧ on = true ∧ (p1 < 0 ∨ nI n ≤ p1)) ∨ p2 < 0 ∨ ¬ p2 ≤ 5) → lb_X12_event_34 g M (gB g + 195) p1 p2 Y (gB g + 195) 1 M := by
    intro hb
    refine ⟨lk_195 h1, ?_⟩
    rintro M7 rfl
    rw [show mI (uI M (gB g + 195) 0 1) (gB g + 195) 0 = 1 by rw [s_II, if_pos rfl, if_pos rfl]]
    exact ⟨fun hx => absurd hx (by decide), fun _ => hbad hb⟩
  refine ⟨lk_195 h1, ?_⟩
  rw [h7.2.1]
  cases on with
  | false => exact ⟨fun _ => b34 (Or.inl rfl), fun hx => absurd rfl hx⟩
  | true =>
    obtain ⟨n, ev, hm⟩ := h7.2.2.2 rfl
    have hn := hm.1
    refine ⟨fun hx => absurd hx (by decide), fun _ => ⟨fun hx => b34 (Or.inr (Or.inl ⟨n, ev, hm, rfl, Or.inl hx⟩)), fun hp0 => ?_⟩⟩
    rw [hm.2.2.1]
    refine ⟨fun hx => b34 (Or.inr (Or.inl ⟨n, ev, hm, rfl, Or.inr hx⟩)), fun hp1 => ⟨fun hx => b34 (Or.inr (Or.inr (Or.inl hx))), fun h0 => ⟨fun h5 => ?_, fun hx => b34 (Or.inr (Or.inr (Or.inr hx)))⟩⟩⟩
    obtain ⟨w, hw, rfl⟩ := w6_of h0 h5
    obtain ⟨j, hj, rfl⟩ : ∃ j, j < n ∧ p1 = nI j := by
      rcases pk_ix p1 (show n < 2 ^ 31 by omega) with hx | hx | hx
      · exact absurd hx hp0
      · exact absurd hx hp1
      · exact hx
    have hg := hgo n ev j w rfl hm hj hw rfl rfl
    obtain ⟨m1, m2, m3, m4, m5, m6, m7, m8, m9, m10⟩ := hm
    obtain ⟨-, ⟨d1, d2, d3, d4⟩, _⟩ := m6 j hj
    have h10 := m10 j hj
    refine ⟨lk_195 h1, ?_⟩
    rintro M7 rfl
    have f7 : Fr (fun a k => a = (gB g + 195) ∧ k = 0) nQ M (uI M (gB g + 195) 0 0) := Fr.rf.uI ⟨rfl, rfl⟩
    rw [show mI (uI M (gB g + 195) 0 0) (gB g + 195) 0 = 0 by rw [s_II, if_pos rfl, if_pos rfl]]
    generalize uI M (gB g + 195) 0 0 = M7 at f7 hg ⊢
    have l7 := f7.lay h1
    have ee : ∀ i, 223 ≤ i → i ≤ 228 → mI M7 (gB g + (i)) j = mI M (gB g + (i)) j := fun i i1 i2 => f7.1 _ _ (by omega)
    have cq : Int32.toNatClampNeg (nI j) = j := nI_cl j (by omega)
    have ind : ∀ {b : Nat}, mN M b = 120 → vp_in (nI j) (mN M b) := fun e => by rw [e]; exact pk_in j 120 (by omega)
    refine ⟨fun _ => ?_, fun hx => absurd (by decide) hx⟩
    rw [cq]
    rcases (show w = 0 ∨ w = 1 ∨ w = 2 ∨ w = 3 ∨ w = 4 ∨ w = 5 by omega) with rfl | rfl | rfl | rfl | rfl | rfl
    · refine ⟨fun _ => ⟨_, lr_195_56 l7, lk_223 h1, ind (ln_223 h1), ?_⟩, fun hx => absurd hx (by decide), fun hx => absurd hx (by decide), fun hx => absurd hx (by decide), fun hx => absurd hx (by decide), fun hx => absurd rfl hx.1⟩
      rw [ee 223 (by decide) (by decide)]; exact hg
    · refine ⟨fun hx => absurd hx (by decide), fun _ => ⟨_, lr_195_57 l7, lk_224 h1, ind (ln_224 h1), ?_⟩, fun hx => absurd hx (by decide), fun hx => absurd hx (by decide), fun hx => absurd hx (by decide), fun hx => absurd rfl hx.2.1⟩
      rw [ee 224 (by decide) (by decide)]; exact hg
    · refine ⟨fun hx => absurd hx (by decide), fun hx => absurd hx (by decide), fun _ => ⟨_, lr_195_58 l7, lk_225 h1, ind (ln_225 h1), ?_⟩, fun hx => absurd hx (by decide), fun hx => absurd hx (by decide), fun hx => absurd rfl hx.2.2.1⟩
      rw [ee 225 (by decide) (by decide)]; exact hg
    · refine ⟨fun hx => absurd hx (by decide), fun hx => absurd hx (by decide), fun hx => absurd hx (by decide), fun _ => ⟨_, lr_195_60 l7, lk_227 h1, ind (ln_227 h1), ?_⟩, fun hx => absurd hx (by decide), fun hx => absurd rfl hx.2.2.2.1⟩
      have hg : Y (mI M (gB g + 227) j) M7 := hg
      rw [ee 227 (by decide) (by decide)]
      exact bI_same (g := g) (Y := fun v => Y v M7) d4 hg
    · refine ⟨fun hx => absurd hx (by decide), fun hx => absurd hx (by decide), fun hx => absurd hx (by decide), fun hx => absurd hx (by decide), fun _ => ⟨_, lr_195_61 l7, lk_228 h1, ind (ln_228 h1), ?_⟩, fun hx => absurd rfl hx.2.2.2.2⟩
      have hg : Y (mI M (gB g + 228) j) M7 := hg
      rw [cq, ee 228 (by decide) (by decide)]
      exact bI_same (g := g) (Y := fun v => Y v M7) h10.1 hg
    · refine ⟨fun hx => absurd hx (by decide), fun hx => absurd hx (by decide), fun hx => absurd hx (by decide), fun hx => absurd hx (by decide), fun hx => absurd hx (by decide), fun _ => ⟨_, lr_195_59 l7, lk_226 h1, ind (ln_226 h1), ?_⟩⟩
      rw [ee 226 (by decide) (by decide)]; exact hg
theorem m_event {g : Gh} {M : Mem} {c : Nat} (h : Inv g M c) (p1 p2 : Int32) {Z : Int32 ⊕ String → Mem → Prop} (hz : ∀ res M1, (∀ E, res = .inr E → E = "java/util/NoSuchElementException") → (∀ M1', Fr nQ (fun a _ => a = (gB g + 233)) M1 M1' → ∀ Y : Int32 → Mem → Prop, (∀ b M2, Inv g M2 (c + 1) → mI M2 (gB g + 195) 0 = exc res → (∀ v, res = .inl v → b = v) → mJ M2 (gB g + 233) 0 = mJ M1' (gB g + 233) 0 → Y b M2) → wp_X12_event g M1' (gB g + 195) p1 p2 Y) → Z res M1) : wp_X11_event g M (gB g) p1 p2 Z := by
  obtain ⟨nq, qa, r, L, np, pn, on, h⟩ := h
  obtain ⟨h1, h2, h3, h4, h5, h6, h7, h8⟩ := id h
  -- how many events
  obtain ⟨n, hn, hn3, hev⟩ : ∃ n, n ≤ 120 ∧ mI M (gB g + 67) 3 = nI n ∧ ((on = false ∧ n = 0) ∨ (on = true ∧ ∃ ev, IMo g M r L np n ev)) := by
    cases on with
    | false => exact ⟨0, by omega, h7.2.2.1 rfl, Or.inl ⟨rfl, rfl⟩⟩
    | true =>
      obtain ⟨n, ev, hm⟩ := h7.2.2.2 rfl
      exact ⟨n, hm.1, hm.2.1, Or.inr ⟨rfl, ev, hm⟩⟩
  have uniq : ∀ {M' : Mem} {n' : Nat} {ev' : Nat → EvT}, mI M' (gB g + 67) 3 = nI n → IMo g M' r L np n' ev' → n' = n := fun e hm' => (nI_eq (by have := hm'.1; omega) (by omega)).mp (hm'.2.1.symm.trans e)
  have bad : ((p1 < 0 ∨ nI n ≤ p1) ∨ p2 < 0 ∨ ¬ p2 ≤ 5) → ∀ T, mT M ≤ T → Z (.inr "java/util/NoSuchElementException") (pad M T) := by
    intro hbd T hT
    refine hz _ _ (fun E e => (Sum.inr.inj e).symm) (fun M1' f Y hY => ?_)
    have i1 := (h.pad hT).fr f (fun a k hh => (hh : False).elim) j233q
    have e3 : mI M1' (gB g + 67) 3 = nI n := by rw [f.1 _ _ (fun hx => hx)]; exact hn3
    refine sp_evtM i1.1 i1.2.2.2.2.2.2.1 p1 p2 (fun _ => hY 0 _ (i1.z 1).up.ex ?_ (fun v hv => by cases hv) rfl) (fun n' ev j w ho hm hj hw e1 e2 => ?_)
    · rw [s_II, if_pos rfl, if_pos rfl]; rfl
    · have en := uniq e3 hm
      subst e1 e2
      have ho := w6_out hw
      exact (hbd.elim (fun hx => nI_out (show j < n by omega) (by omega) hx) (fun hx => hx.elim ho.1 (fun hx => hx ho.2))).elim
  refine ⟨lk_0 h1, _, lr_0_9 h1, sp_evAt h1 hn3 hn p1 (fun hx => ⟨fun _ => bad (Or.inl hx), fun q hq => by cases hq⟩) (fun j hj e => ⟨fun hx => (by cases hx), fun q4 hq4 => ?_⟩)⟩
  cases hq4
  subst e
  refine ⟨fun hx => bad (Or.inr (Or.inl hx)), fun h0 => ⟨fun h5' => ?_, fun hx => bad (Or.inr (Or.inr hx))⟩⟩
  obtain ⟨w, hw, rfl⟩ := w6_of h0 h5'
  rcases hev with ⟨-, hev⟩ | ⟨ho, ev, hm⟩
  · omega
  · subst ho
    refine sp_tellE h1 hm hj hw ?_
    refine hz _ _ (fun E e => by cases e) (fun M1' f Y hY => ?_)
    have i1 := h.fr f (fun a k hh => (hh : False).elim) j233q
    have e3 : mI M1' (gB g + 67) 3 = nI n := by rw [f.1 _ _ (fun hx => hx)]; exact hn3
    refine sp_evtM i1.1 i1.2.2.2.2.2.2.1 (nI j) (nI w) (fun hb => ?_) (fun n' ev' j' w' ho' hm' hj' hw' e1 e2 => hY _ _ (i1.z 0).up.ex ?_ (fun v hv => ?_) rfl)
    · have hoo := w6_out hw
      rcases hb with hb | ⟨n', ev', hm', -, hb⟩ | hb | hb
      · cases hb
      · have en := uniq e3 hm'
        rw [en] at hb
        exact (nI_out hj (by omega) hb).elim
      · exact absurd hb hoo.1
      · exact absurd hoo.2 hb
    · rw [s_II, if_pos rfl, if_pos rfl]; rfl
    · obtain rfl : j = j' := (nI_eq (by omega) (by have := hm'.1; omega)).mp e1
      obtain rfl : w = w' := (nI_eq (by omega) (by omega)).mp e2
      cases hv
      have em : ∀ a k, mI M1' a k = mI M a k := fun a k => f.1 a k (fun hx => hx)
      unfold vE
      simp only [em]
