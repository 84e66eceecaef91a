/-! PURE: appeal, undo, begin: all is gone through anew by both -/
def PXc (g : Gh) : Nat → Nat → Prop := fun a k => (a = (gB g + 67) ∧ (k = 0 ∨ k = 3)) ∨ ((gB g + 69) ≤ a ∧ a < (gB g + 189) ∧ k = 3)
def PXd (g : Gh) : Nat → Nat → Prop := fun a k => (a = (gB g + 67) ∧ (k = 0 ∨ (3 ≤ k ∧ k ≤ 7))) ∨ a = (gB g + 189) ∨ ((gB g + 69) ≤ a ∧ a < (gB g + 189) ∧ 3 ≤ k ∧ k ≤ 5)
def PMc (g : Gh) : Nat → Nat → Prop := fun a k => (a = (gB g + 195) ∧ (k = 0 ∨ k = 48 ∨ k = 49)) ∨ a = (gB g + 227)
theorem sp_thrBoth {g : Gh} {M : Mem} {c nq : Nat} {qa : Nat → Nat} {r : Nat} {L : LawT} {np : Nat} {pn : Nat → Nat} {on : Bool} (h : Iv g M c nq qa r L np pn on) (hm5 : lW L = np ∧ 0 < np) {n : Nat} {ev : Nat → EvT} (hn : n ≤ 120) (hE : ∀ j, j < n → EvOK L (ev j)) {Mr Mc : Mem} (hr : Mr.1 = M.1 ∧ Mr.2.1 = M.2.1 ∧ mK Mr = mK M ∧ mN Mr = mN M ∧ mT Mr = mT M) (l0 : Lay g Mr) (q0 : IQ g Mr c nq qa) (w0 : ILw g Mr r L) (hm4 : mR Mr (gB g + 67) 1 = some (gB g + (r))) (fc : Fr (PXc g) nQ Mr Mc) (c0 : mI Mc (gB g + 67) 0 = 1) (c3 : mI Mc (gB g + 67) 3 = nI n) (ce : ∀ j, j < n → CE g Mc j (ev j)) {post : Mem → Prop} (hq : ∀ M1, Fr (PXd g) nQ Mr M1 → (∀ Mm, Fr (PMc g) nQ M1 Mm → mI Mm (gB g + 195) 48 = 1 → mI Mm (gB g + 195) 49 = nI n → (∀ j, j < n → ME g Mm j (ev j)) → ∀ post2 : Mem → Prop, (∀ M2, Iv g M2 c nq qa r L np pn true → post2 M2) → wp_X12_through g Mm (gB g + 195) post2) → post M1) : wp_X6_replay g Mc (gB g + 67) post := by
  obtain ⟨h1, h2, h3, h4, h5, h6, h7, h8⟩ := h
  have t2 : IT g Mr := by
    obtain ⟨nn, bs, t⟩ := h2
    refine ⟨nn, bs, ?_⟩
    unfold ITp mI; rw [hr.1]; exact t
  have t3 : IF g Mr := by unfold IF mI; rw [hr.1]; exact h3
  have t6 : IP g Mr nq np pn := by unfold IP mI; rw [hr.1]; exact h6
  have t8 : IL g Mr := by unfold IL mI; rw [hr.1]; exact h8
  have mc : MC g Mc r L := ⟨fc.lay l0, by rw [fc.R]; exact hm4, w0.1.fr fc (fun a k hh => by unfold PXc at hh; omega)⟩
  refine sp_X6_replay mc hn c3 (fun j hj => ⟨ce j hj, hE j hj⟩) (fun M1 f1 s1 v1 => ?_)
  have f1' : Fr (PXd g) nQ Mr M1 := (fc.mono (P' := PXd g) (Q' := nQ) (fun a k hh => by unfold PXc at hh; unfold PXd; omega) (fun _ _ hh => hh)).tr (f1.mono (fun a k hh => by unfold PXr at hh; unfold PXd; omega) (fun _ _ hh => hh))
  refine hq M1 f1' (fun Mm fm m48 m49 me post2 hp2 => ?_)
  have fM : Fr (fun a k => PXd g a k ∨ PMc g a k) nQ Mr Mm := (f1'.mono (fun a k hh => Or.inl hh) (fun _ _ hh => hh)).tr (fm.mono (fun a k hh => Or.inr hh) (fun _ _ hh => hh))
  have x1 : MX g Mm L := ⟨fM.lay l0, w0.2.1.fr fM (fun a k hh => by unfold PXd PMc at hh; omega), by rw [fM.1 _ _ (by unfold PXd PMc; omega), t6.2.2.1, hm5.1]⟩
  refine sp_X12_through x1 hn m49 (fun j hj => ⟨me j hj, hE j hj⟩) (fun M2 f2 s2 v2 => hp2 M2 ?_)
  have f3 : Fr (fun a k => PXd g a k ∨ PMc g a k ∨ PMr g a k) nQ Mr M2 := (fM.mono (fun a k hh => hh.elim Or.inl (fun x => Or.inr (Or.inl x))) (fun _ _ hh => hh)).tr (f2.mono (fun a k hh => Or.inr (Or.inr hh)) (fun _ _ hh => hh))
  have fm2 : Fr (fun a k => PMc g a k ∨ PMr g a k) nQ M1 M2 := (fm.mono (fun a k hh => Or.inl hh) (fun _ _ hh => hh)).tr (f2.mono (fun a k hh => Or.inr hh) (fun _ _ hh => hh))
  have fc2 : Fr (fun a k => PXr g a k ∨ PMc g a k ∨ PMr g a k) nQ Mc M2 := (f1.mono (fun a k hh => Or.inl hh) (fun _ _ hh => hh)).tr (fm2.mono (fun a k hh => Or.inr hh) (fun _ _ hh => hh))
  refine ⟨f3.lay l0, t2.fr f3 ?_, t3.fr f3 ?_, q0.fr f3 ?_ (fun a k hh => (hh : False).elim), w0.fr f3 ?_, t6.fr f3 ?_, ⟨?_, ?_, fun hx => absurd hx (by decide), fun _ => ⟨n, ev, ?_⟩⟩, t8.fr f3 ?_⟩
  · intro a k hh; unfold PXd PMc PMr at hh; omega
  · intro a k hh; unfold PXd PMc PMr at hh; omega
  · intro a k hh; unfold PXd PMc PMr at hh; omega
  · intro a k hh; unfold PXd PMc PMr at hh; have := w0.1.1; omega
  · intro a k hh; unfold PXd PMc PMr at hh; omega
  · rw [fc2.1 _ _ (by unfold PXr PMc PMr; omega)]; exact c0
  · rw [f2.1 _ _ (by unfold PMr; omega)]; exact m48
  · refine ⟨hn, ?_, ?_, by rw [f3.R]; exact hm4, hm5, fun j hj => ⟨(ce j hj).fr fc2 (fun k hk hh => by unfold PXr PMc PMr at hh; omega), (me j hj).fr f2 (pmr_e g j), hE j hj⟩, s1.fr fm2 (fun a k hh => by unfold PMc PMr at hh; omega), s2, fun j hj => ?_, v2⟩
    · rw [fc2.1 _ _ (by unfold PXr PMc PMr; omega)]; exact c3
    · rw [f2.1 _ _ (by unfold PMr; omega)]; exact m49
    · rw [fm2.1 _ _ (by unfold PMc PMr; omega), fm2.1 _ _ (by unfold PMc PMr; omega)]; exact v1 j hj
  · intro a k hh; unfold PXd PMc PMr at hh; omega
theorem m_undo {g : Gh} {M : Mem} {c : Nat} (h : Inv g M c) {Z : Int32 → Int32 → Mem → Prop} (hz : ∀ v M', Inv g M' (c + 1) → Z v v M') : wp_X11_undo g M (gB g) (fun v M1 => wp_X12_undo g M1 (gB g + 195) (fun w M2 => Z v w M2)) := by
  obtain ⟨nq, qa, r, L, np, pn, on, h⟩ := h
  have hz' := fun v => hz v _ (h.z 0).up.ex
  have hi := h.z 0
  have h1 := h.1
  refine ⟨lk_0 h1, _, lr_0_9 h1, lk_67 h1, ?_⟩
  cases on with
  | false =>
    rw [h.2.2.2.2.2.2.1.2.2.1 rfl]
    refine ⟨fun hx => absurd hx (by decide), fun _ => ⟨Or.inl rfl, lk_195 h1, ?_⟩⟩
    rintro M1 rfl
    rw [hi.2.2.2.2.2.2.1.2.1]
    exact ⟨fun _ => hz' 0, fun hx => absurd rfl hx⟩
  | true =>
    obtain ⟨n, ev, hm⟩ := h.2.2.2.2.2.2.1.2.2.2 rfl
    have hm' : IMo g (uI M (gB g + 195) 0 0) r L np n ev := hm.fr (frz 0) (fun a k hh => by omega)
    have hn := hm.1
    rw [hm.2.1]
    refine pk_le 1 n (fun hn1 => ?_) (fun hn0 => ⟨Or.inl rfl, lk_195 h1, ?_⟩)
    · rintro M2 rfl
      have hn2 : n - 1 + 1 = n := by omega
      rw [show nI n - 1 = nI (n - 1) by rw [← hn2, nI_pred]; rfl]
      have fc : Fr (PXc g) nQ M (uI M (gB g + 67) 3 (nI (n - 1))) := Fr.rf.uI (Or.inl ⟨rfl, Or.inr rfl⟩)
      refine sp_thrBoth h hm.2.2.2.2.1 (n := n - 1) (ev := ev) (by omega) (fun j hj => (hm.2.2.2.2.2.1 j (by omega)).2.2) (Mr := M) ⟨rfl, rfl, rfl, rfl, rfl⟩ h1 h.2.2.2.1 h.2.2.2.2.1 hm.2.2.2.1 fc ?_ ?_ (fun j hj => (hm.2.2.2.2.2.1 j (by omega)).1.fr (P := fun a k => a = (gB g + 67) ∧ k = 3) (Q := nQ) (Fr.rf.uI ⟨rfl, rfl⟩) (fun k hk hh => by omega)) (fun M1 f1 hq => ⟨Or.inr rfl, lk_195 (f1.lay h1), ?_⟩)
      · rw [s_II, if_pos rfl, if_neg (by decide)]; exact h.2.2.2.2.2.2.1.1
      · rw [s_II, if_pos rfl, if_pos rfl]
      · rintro M1' rfl
        have f1' : Fr (fun a k => PXd g a k ∨ (a = (gB g + 195) ∧ k = 0)) nQ M (uI M1 (gB g + 195) 0 0) := (f1.mono (fun a k hh => Or.inl hh) (fun _ _ hh => hh)).tr ((frz 0).mono (fun a k hh => Or.inr hh) (fun _ _ hh => hh))
        have e48 : mI (uI M1 (gB g + 195) 0 0) (gB g + 195) 48 = 1 := by rw [f1'.1 _ _ (by unfold PXd; omega)]; exact h.2.2.2.2.2.2.1.2.1
        have e49 : mI (uI M1 (gB g + 195) 0 0) (gB g + 195) 49 = nI n := by rw [f1'.1 _ _ (by unfold PXd; omega)]; exact hm.2.2.1
        rw [e48, e49]
        refine ⟨fun hx => absurd hx (by decide), fun _ => ⟨fun hx => absurd hx (nI_ne0 (by omega) (by omega)), fun _ => ?_⟩⟩
        rintro M5 rfl
        rw [show nI n - 1 = nI (n - 1) by rw [← hn2, nI_pred]; rfl]
        have fm : Fr (PMc g) nQ M1 (uI (uI M1 (gB g + 195) 0 0) (gB g + 195) 49 (nI (n - 1))) := (Fr.rf.uI (Or.inl ⟨rfl, Or.inl rfl⟩)).uI (Or.inl ⟨rfl, Or.inr (Or.inr rfl)⟩)
        have fm2 : Fr (fun a k => PXd g a k ∨ (a = (gB g + 195) ∧ (k = 0 ∨ k = 49))) nQ M (uI (uI M1 (gB g + 195) 0 0) (gB g + 195) 49 (nI (n - 1))) := (f1'.mono (fun a k hh => hh.elim Or.inl (fun x => Or.inr ⟨x.1, Or.inl x.2⟩)) (fun _ _ hh => hh)).uI (Or.inr ⟨rfl, Or.inr rfl⟩)
        refine hq _ fm ?_ ?_ (fun j hj => (hm.2.2.2.2.2.1 j (by omega)).2.1.fr fm2 (fun a ha hh => by unfold PXd at hh; omega)) _ (fun M2 h2 => hz 1 M2 h2.up.ex)
        · rw [s_II, if_pos rfl, if_neg (by decide)]; exact e48
        · rw [s_II, if_pos rfl, if_pos rfl]
    · rintro M1 rfl
      rw [hi.2.2.2.2.2.2.1.2.1, hm'.2.2.1]
      have : n = 0 := by omega
      subst this
      exact ⟨fun hx => absurd hx (by decide), fun _ => ⟨fun _ => hz' 0, fun hx => absurd rfl hx⟩⟩
theorem sp_evAt {g : Gh} {M : Mem} {n : Nat} (h1 : Lay g M) (h3 : mI M (gB g + 67) 3 = nI n) (hn : n ≤ 120) (p : Int32) {post : Option Nat → Mem → Prop} (h0 : (p < 0 ∨ nI n ≤ p) → post none M) (hs : ∀ k, k < n → p = nI k → post (some (gB g + (69 + k))) M) : wp_X6_eventAt g M (gB g + 67) p post := by
  refine ⟨lk_67 h1, fun hc => h0 (Or.inl hc), fun hc => ?_⟩
  rw [h3]
  refine ⟨fun hc2 => h0 (Or.inr hc2), fun hc2 => ?_⟩
  rcases pk_ix p (show n < 2 ^ 31 by omega) with h | h | ⟨k, hk, rfl⟩
  · exact absurd h hc
  · exact absurd h hc2
  refine pk_le 120 k (fun hx => by omega) (fun _ => ⟨_, lr_67_2 h1, lk_68 h1, by rw [ln_68 h1]; exact pk_in k 120 (by omega), (gB g + (69 + k)), ?_, hs k hk rfl⟩)
  rw [pk_cl k]; exact lr_ev h1 (by omega)
theorem m_appeal {g : Gh} {M : Mem} {c : Nat} (h : Inv g M c) (p : Int32) (b : Bool) {Z : Int32 → Int32 → Mem → Prop} (hz : ∀ v M', Inv g M' (c + 1) → Z v v M') : wp_X11_appeal g M (gB g) p (bI b) (fun v M1 => wp_X12_appeal g M1 (gB g + 195) p (bI b) (fun w M2 => Z v w M2)) := by
  obtain ⟨nq, qa, r, L, np, pn, on, h⟩ := h
  have hz' := fun v => hz v _ (h.z 0).up.ex
  have hi := h.z 0
  have h1 := h.1
  refine ⟨lk_0 h1, _, lr_0_9 h1, lk_67 h1, ?_⟩
  cases on with
  | false =>
    refine sp_evAt (n := 0) h1 (h.2.2.2.2.2.2.1.2.2.1 rfl) (by omega) p (fun _ => ⟨fun _ => ⟨Or.inl rfl, lk_195 h1, ?_⟩, fun q hq => absurd hq (by simp)⟩) (fun k hk => by omega)
    rintro M1 rfl
    rw [hi.2.2.2.2.2.2.1.2.1]
    exact ⟨fun _ => hz' 0, fun hx => absurd rfl hx⟩
  | true =>
    obtain ⟨n, ev, hm⟩ := h.2.2.2.2.2.2.1.2.2.2 rfl
    have hm' : IMo g (uI M (gB g + 195) 0 0) r L np n ev := hm.fr (frz 0) (fun a k hh => by omega)
    have hn := hm.1
    have e48 := hi.2.2.2.2.2.2.1.2.1
    refine sp_evAt h1 hm.2.1 hn p (fun hc => ⟨fun _ => ⟨Or.inl rfl, lk_195 h1, ?_⟩, fun q hq => absurd hq (by simp)⟩) (fun k hk e => ⟨fun hx => absurd hx (by simp), fun q4 hq4 => ?_⟩)
    · rintro M1 rfl
      rw [e48, hm'.2.2.1]
      exact ⟨fun hx => absurd hx (by decide), fun _ => ⟨fun _ => hz' 0, fun hc0 => ⟨fun _ => hz' 0, fun hc1 => (hc.elim hc0 hc1).elim⟩⟩⟩
    · cases hq4
      subst e
      obtain ⟨ce, me, hE⟩ := hm.2.2.2.2.2.1 k hk
      have me' := (hm'.2.2.2.2.2.1 k hk).2.1
      refine ⟨lk_ev h1 (by omega), ?_⟩
      rw [ce.2.1, ce.2.2.2]
      -- the reference's road to what it sees there
      have road : ∀ (M1 : Mem) (v : Int32), Lay g M1 → mI M1 (gB g + 195) 48 = 1 → mI M1 (gB g + 195) 49 = nI n → mI M1 (gB g + 224) k = eK (ev k) → mI M1 (gB g + 227) k = bI (eR (ev k)) → (∀ v0 : Int32, mI (uI M1 (gB g + 195) 0 v0) (gB g + 195) 48 = 1) → ((¬ (eK (ev k) = 0 ∧ ¬ eR (ev k) = b)) → Z v 0 (uI M1 (gB g + 195) 0 0)) → ((eK (ev k) = 0 ∧ ¬ eR (ev k) = b) → wp_X12_through g (uI (uI M1 (gB g + 195) 0 0) (gB g + 227) k (bI b)) (gB g + 195) (fun M2 => Z v 1 M2)) → wp_X12_appeal g M1 (gB g + 195) (nI k) (bI b) (fun w M2 => Z v w M2) := by
        intro M1 v l1 a48 a49 a224 a227 a0 hno hyes
        have u49 : mI (uI M1 (gB g + 195) 0 0) (gB g + 195) 49 = nI n := by rw [s_II, if_pos rfl, if_neg (by decide)]; exact a49
        have u224 : mI (uI M1 (gB g + 195) 0 0) (gB g + 224) k = eK (ev k) := by rw [s_II, if_neg (by omega)]; exact a224
        have u227 : mI (uI M1 (gB g + 195) 0 0) (gB g + 227) k = bI (eR (ev k)) := by rw [s_II, if_neg (by omega)]; exact a227
        refine ⟨lk_195 l1, ?_⟩
        rintro M3 rfl
        rw [a0, u49]
        refine ⟨fun hx => absurd hx (by decide), fun _ => ⟨fun hx => absurd hx (nI_pos (by omega)), fun _ => pk_le n k (fun hx => by omega) (fun _ => ⟨_, lr_195_57 l1, lk_224 l1, by rw [ln_224 l1]; exact pk_in k 120 (by omega), ?_⟩)⟩⟩
        rw [pk_cl k, u224]
        refine ⟨fun hx => hno (fun hy => by rw [hy.1] at hx; exact absurd hx (by decide)), fun hx => ⟨_, lr_195_60 l1, lk_227 l1, by rw [ln_227 l1]; exact pk_in k 120 (by omega), ?_⟩⟩
        (try rw [pk_cl k])
        rw [u227]
        have k0 : eK (ev k) = 0 := by
          rcases hE.2 with h3 | h3
          · rw [h3.1] at hx; exact absurd (by decide) hx
          · rcases h3.1 with h4 | h4
            · exact h4
            · rw [h4.1] at hx; exact absurd (by decide) hx
        refine ⟨fun hy => hno (fun hw => hw.2 (bI_inj.mp hy)), fun hy => ?_⟩
        rintro M18 rfl
        rw [nb_b]
        exact hyes ⟨k0, fun hw => hy (by rw [hw])⟩
      have no : ¬ (eK (ev k) = 0 ∧ ¬ eR (ev k) = b) → wp_X12_appeal g M (gB g + 195) (nI k) (bI b) (fun w M2 => Z 0 w M2) := fun hno => road M 0 h1 h.2.2.2.2.2.2.1.2.1 hm.2.2.1 me.2.1 me.2.2.2 (fun v0 => by rw [s_II, if_pos rfl, if_neg (by decide)]; exact h.2.2.2.2.2.2.1.2.1) (fun _ => hz' 0) (fun hy => absurd hy hno)
      refine ⟨fun hk0 => ⟨fun hy => ⟨Or.inl rfl, no (fun hw => hw.2 (bI_inj.mp hy))⟩, fun hy => ⟨bI_01 b, ?_⟩⟩, fun hk0 => ⟨Or.inl rfl, no (fun hw => hk0 hw.1)⟩⟩
      rintro M9 rfl
      have hyes : eK (ev k) = 0 ∧ ¬ eR (ev k) = b := ⟨hk0, fun hw => hy (by rw [hw])⟩
      have fk : Fr (fun a j => a = (gB g + (69 + k)) ∧ j = 3) nQ M (uI M (gB g + (69 + k)) 3 (bI b)) := Fr.rf.uI ⟨rfl, rfl⟩
      have fc : Fr (PXc g) nQ M (uI M (gB g + (69 + k)) 3 (bI b)) := fk.mono (fun a j hh => by unfold PXc; omega) (fun _ _ hh => hh)
      have hEk : EvOK L (eQ (ev k), eK (ev k), eS (ev k), b) := by
        refine ⟨hE.1, Or.inr ⟨Or.inl hk0, ?_⟩⟩
        exact (hE.k01 (by rw [hk0]; decide)).2
      have hE' : ∀ j, j < n → EvOK L (upE ev k (eQ (ev k), eK (ev k), eS (ev k), b) j) := by
        intro j hj
        by_cases hjk : j = k
        · subst hjk; rw [upE_s]; exact hEk
        · rw [upE_n _ _ hjk]; exact (hm.2.2.2.2.2.1 j hj).2.2
      refine sp_thrBoth h hm.2.2.2.2.1 (n := n) (ev := upE ev k (eQ (ev k), eK (ev k), eS (ev k), b)) hn hE' (Mr := M) ⟨rfl, rfl, rfl, rfl, rfl⟩ h1 h.2.2.2.1 h.2.2.2.2.1 hm.2.2.2.1 fc ?_ ?_ (fun j hj => ?_) (fun M1 f1 hq => ⟨Or.inr rfl, ?_⟩)
      · rw [fk.1 _ _ (by omega)]; exact h.2.2.2.2.2.2.1.1
      · rw [fk.1 _ _ (by omega)]; exact hm.2.1
      · by_cases hjk : j = k
        · subst hjk; rw [upE_s]
          refine ⟨?_, ?_, ?_, ?_⟩
          · rw [s_II, if_pos rfl, if_neg (by decide)]; exact ce.1
          · rw [s_II, if_pos rfl, if_neg (by decide)]; exact ce.2.1
          · rw [s_II, if_pos rfl, if_neg (by decide)]; exact ce.2.2.1
          · rw [s_II, if_pos rfl, if_pos rfl]; rfl
        · rw [upE_n _ _ hjk]
          exact (hm.2.2.2.2.2.1 j hj).1.fr fk (fun i hi hh => by omega)
      · have m48 : mI M1 (gB g + 195) 48 = 1 := by rw [f1.1 _ _ (by unfold PXd; omega)]; exact h.2.2.2.2.2.2.1.2.1
        have m49 : mI M1 (gB g + 195) 49 = nI n := by rw [f1.1 _ _ (by unfold PXd; omega)]; exact hm.2.2.1
        have meJ : ∀ j, j < n → ME g M1 j (ev j) := fun j hj => (hm.2.2.2.2.2.1 j hj).2.1.fr f1 (fun a ha hh => by unfold PXd at hh; omega)
        refine road M1 1 (f1.lay h1) m48 m49 (meJ k hk).2.1 (meJ k hk).2.2.2 (fun v0 => by rw [s_II, if_pos rfl, if_neg (by decide)]; exact m48) (fun hno => absurd hyes hno) (fun _ => ?_)
        have fm0 : Fr (fun a j => (a = (gB g + 195) ∧ j = 0) ∨ (a = (gB g + 227) ∧ j = k)) nQ M1 (uI (uI M1 (gB g + 195) 0 0) (gB g + 227) k (bI b)) := (Fr.rf.uI (by omega)).uI (by omega)
        refine hq _ (fm0.mono (fun a j hh => by unfold PMc; omega) (fun _ _ hh => hh)) ?_ ?_ (fun j hj => ?_) _ (fun M2 h2 => hz 1 M2 h2.up.ex)
        · rw [fm0.1 _ _ (by omega)]; exact m48
        · rw [fm0.1 _ _ (by omega)]; exact m49
        · by_cases hjk : j = k
          · subst hjk; rw [upE_s]
            have mj := meJ j hk
            refine ⟨?_, ?_, ?_, ?_⟩
            · rw [fm0.1 _ _ (by omega)]; exact mj.1
            · rw [fm0.1 _ _ (by omega)]; exact mj.2.1
            · rw [fm0.1 _ _ (by omega)]; exact mj.2.2.1
            · rw [s_II, if_pos rfl, if_pos rfl]; rfl
          · rw [upE_n _ _ hjk]
            exact (meJ j hj).fr fm0 (fun a ha hh => by omega)
