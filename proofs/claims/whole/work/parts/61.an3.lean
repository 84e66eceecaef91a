/-! PURE: answer -/
def anPost (g : Gh) (M0 : Mem) (p : Int32) (Q : Int32 → Mem → Prop) (v6 : Int32) (M7 : Mem) : Prop := wp_X12_canCome g M7 (gB g + 195) p (fun v8 M9 => ((v8 = 0) → Q (-1) M9) ∧ (¬ (v8 = 0) → ((v6 = 0) → lb_X12_answer_45 g M0 (gB g + 195) p Q 0 M9) ∧ (¬ (v6 = 0) → ∃ q12, mR M9 (gB g + 195) 41 = some q12 ∧ (okc (gB g) M0 q12 14 ∧ (vp_in (mI M9 (gB g + 195) 50) (mN M0 q12) ∧ (wp_X12_isTaken g M9 (gB g + 195) (mI M9 q12 (Int32.toNatClampNeg (mI M9 (gB g + 195) 50))) (fun v16 M17 => ((v16 = 0) → lb_X12_answer_45 g M0 (gB g + 195) p Q 0 M17) ∧ (¬ (v16 = 0) → lb_X12_answer_45 g M0 (gB g + 195) p Q 1 M17))))))))
theorem an_ref {g : Gh} {M : Mem} {p : Int32} {Q : Int32 → Mem → Prop} (h : okc (gB g) M (gB g + 195) 12 ∧ (∀ M1, M1 = uI M (gB g + 195) 0 0 → wp_X12_readAnswer g M1 (gB g + 195) (anPost g M p Q))) : wp_X12_answer g M (gB g + 195) p Q := h
set_option maxHeartbeats 2000000 in
theorem m_answer {g : Gh} {M : Mem} {c : Nat} (h : Inv g M c) (p : Int32) {Z : Int32 → Int32 → Mem → Prop} (hz : ∀ v M', Inv g M' (c + 1) → Z v v M') : wp_X11_answer g M (gB g) p (fun v M1 => wp_X12_answer g M1 (gB g + 195) p (fun w M2 => Z v w M2)) := by
  obtain ⟨nq, qa, r, L, np, pn, on, h⟩ := h
  obtain ⟨n, bs, h2⟩ := h.2.1
  have h1 := h.1
  refine ⟨lk_0 h1, _, lr_0_2 h1, _, lr_0_0 h1, ?_⟩
  refine sp_rdC h h2 (fun M1 f1 w1 t1 a1 => ⟨_, lr_0_9 w1.1, ?_⟩)
  have m2 : mI M1 (gB g + 195) 2 = nI n := by rw [f1.1 _ _ (by unfold PRc; omega)]; exact h2.2.2.1
  have l1 := w1.1
  obtain ⟨hok, hN⟩ := an_ok bs n
  have rdM : ∀ {Mc : Mem}, Lay g Mc → TX g Mc bs → mI Mc (gB g + 195) 2 = nI n → ∀ {post : Int32 → Mem → Prop}, (∀ M', Fr (PRm g) (QAm g) Mc M' → TX g M' bs → mI M' (gB g + 195) 2 = 0 → ((anF bs n 21 0 0 a0A).1 = true → AM g M' (anF bs n 21 0 0 a0A).2.1 (anF bs n 21 0 0 a0A).2.2) → post (bI (anF bs n 21 0 0 a0A).1) M') → okc (gB g) Mc (gB g + 195) 12 ∧ (∀ M1, M1 = uI Mc (gB g + 195) 0 0 → wp_X12_readAnswer g M1 (gB g + 195) post) := by
    intro Mc l t m post hq
    exact sp_rdM l h2.1 t m hq
  generalize hR : anF bs n 21 0 0 a0A = R at a1 hok hN rdM ⊢
  have h60 := w1.2.2.1.1
  have fin : ∀ (v : Int32) (M2 : Mem), Iw g M2 c nq qa r L np pn on → TX g M2 bs → mI M2 (gB g + 195) 2 = 0 → Z v v M2 := fun v M2 w t z => hz v M2 (w.v (t.it z)).up.ex
  have rfr : ∀ {M2 : Mem}, Fr (PRm g) (QAm g) M1 M2 → Iw g M2 c nq qa r L np pn on := fun f2 => w1.fr f2 (fun a k hh => by unfold PRm at hh; unfold TRw; omega) (fun a k hh => by unfold QAm at hh; unfold TQw; omega)
  cases on with
  | false =>
    refine ⟨lk_67 l1, ?_⟩
    rw [w1.2.2.2.2.2.1.1]
    refine ⟨fun _ => ⟨fun _ => ?_, fun hx => absurd rfl hx⟩, fun hx => absurd rfl hx⟩
    have := rdM l1 t1 m2 (post := anPost g M1 p (fun w M2 => Z (-1) w M2)) (fun M2 f2 t2 z2 _ => by
      have w2 := rfr f2
      refine ⟨lk_195 w2.1, ?_⟩
      rw [w2.2.2.2.2.2.1.2.1]
      exact ⟨fun _ => ⟨fun _ => fin (-1) M2 w2 t2 z2, fun hx => absurd rfl hx⟩, fun hx => absurd rfl hx⟩)
    exact this
  | true =>
    obtain ⟨k, ev, hm⟩ := w1.2.2.2.2.2.1.2.2.2 rfl
    have hws := WS_thr (L := L) (ev := ev) k (fun j hj => (hm.2.2.2.2.2.1 j hj).2.2)
    -- the reference may come just when the class may
    have can : ∀ {M0 M2 : Mem} {P Q : Nat → Nat → Prop}, IMo g M0 r L np k ev → mI M0 (gB g + 195) 48 = 1 → Fr P Q M0 M2 → (∀ a j, P a j → ¬ (a = (gB g + 195) ∧ 48 ≤ j ∧ j ≤ 55)) → Lay g M2 → ∀ {post : Int32 → Mem → Prop}, (mayS L (thr L ev k) k p → post 1 M2) → (¬ mayS L (thr L ev k) k p → post 0 M2) → wp_X12_canCome g M2 (gB g + 195) p post := by
      intro M0 M2 P Q hm0 h48 f2 hp l2 post hy hn
      exact sp_can (s := thr L ev k) (L := L) l2 (by rw [f2.1 _ _ (fun hh => by have := hp _ _ hh; omega)]; exact h48) (by rw [f2.1 _ _ (fun hh => by have := hp _ _ hh; omega)]; exact hm0.2.2.1) (by rw [f2.1 _ _ (fun hh => by have := hp _ _ hh; omega)]; exact hm0.2.2.2.2.2.2.2.1.2.1) hm0.1 hws p hy hn
    have i48 : mI M1 (gB g + 195) 48 = 1 := w1.2.2.2.2.2.1.2.1
    refine sp_mayW w1 hm 0 p (Or.inl rfl) (fun hy => ⟨fun hx => absurd hx (by decide), fun _ => ⟨_, lr_0_8 l1, _, lr_0_9 l1, lk_67 h1, ?_⟩⟩) (fun hn => ⟨fun _ => ?_, fun hx => absurd rfl hx⟩)
    · -- it may come
      obtain ⟨⟨y1, y2, y3, y4⟩, _⟩ := hy
      have hE : ∀ b : Bool, EvOK L (sH (thr L ev k), 0, p, b) := fun b => ⟨y1, Or.inr ⟨Or.inl rfl, y3⟩⟩
      rw [hm.2.2.2.2.2.2.1.1]
      have hnp : sH (thr L ev k) < np := by rw [← hm.2.2.2.2.1.1]; exact y1
      have h48p := w1.2.2.2.2.1.1
      have hpk := w1.2.2.2.2.1.2.2.2.2.2 (sH (thr L ev k)) hnp
      generalize hs : sH (thr L ev k) = s at hE hnp hpk y1 ⊢
      refine sp_numAt l1 w1.2.2.2.2.1 _ (fun ho => (nI_out hnp (by omega) ho).elim) (fun k' hk' e => ?_)
      obtain rfl : s = k' := (nI_eq (by omega) (by omega)).mp e
      have hqn : pn s < nq := hpk.1
      refine sp_qAt l1 w1.2.2.1 _ (fun ho => (nI_out hqn (by omega) ho).elim) (fun q hq e => ?_)
      obtain rfl : pn s = q := (nI_eq (by omega) (by omega)).mp e
      obtain ⟨b1, b2, b3, ⟨f, c1, c2, F, ka, la, ha', d1, d2, d3, d4, d5, d6, d7, d8⟩, _⟩ := w1.2.2.1.2.2.2.1 (pn s) hqn
      have ko := (h.2.2.2.1.2.2.2.1 (pn s) hqn).2.1
      -- the event is told, to both
      have add : ∀ (Mc : Mem) (b : Bool), Fr (PX g 12) nQ M1 Mc → ((R.1 = false ∧ b = false) ∨ (R.1 = true ∧ (b = true ↔ rF (rP R.2.1 R.2.2 6) F 0 R.2.1))) → lb_X11_answer_79 g M (gB g) p (fun v M1 => wp_X12_answer g M1 (gB g + 195) p (fun w M2 => Z v w M2)) (bI b) Mc := by
        intro Mc b fc hb
        have wc : Iw g Mc c nq qa r L np pn true := w1.fr fc (fun a k hh => by unfold PX at hh; unfold TRw; omega) (fun a k hh => (hh : False).elim)
        have tc : TX g Mc bs := t1.fr fc (fun a k hh => by unfold PX at hh; omega)
        have hmc : IMo g Mc r L np k ev := hm.fr fc (fun a k hh => by unfold PX at hh; omega)
        have mc : mI Mc (gB g + 195) 2 = nI n := by rw [fc.1 _ _ (by unfold PX; omega)]; exact m2
        have i48c : mI Mc (gB g + 195) 48 = 1 := wc.2.2.2.2.2.1.2.1
        refine ⟨_, lr_0_9 wc.1, ?_⟩
        refine sp_addW wc hmc y2 (by rw [hs]; exact y1) (b := b) (by rw [hs]; exact hE b) (fun M4 f4 l4 lm4 hq4 => ?_)
        have tell : ∀ (M9 : Mem), Fr (PG g) (QAm g) M4 M9 → TX g M9 bs → mI M9 (gB g + 195) 2 = 0 → lb_X12_answer_45 g M4 (gB g + 195) p (fun w M2 => Z (bI b) w M2) (bI b) M9 := by
          intro M9 f9 t9 z9
          refine hq4 M9 f9 _ (fun M6 f6 w6 => ?_)
          have t6 : TX g M6 bs := t9.fr f6 (fun a k hh => by unfold PMa at hh; omega)
          have z6 : mI M6 (gB g + 195) 2 = 0 := by rw [f6.1 _ _ (by unfold PMa; omega)]; exact z9
          cases b with
          | false => exact ⟨fun _ => fin 0 M6 w6 t6 z6, fun hx => absurd rfl hx⟩
          | true => exact ⟨fun hx => absurd hx (by decide), fun _ => fin 1 M6 w6 t6 z6⟩
        have ref : wp_X12_answer g M4 (gB g + 195) p (fun w M2 => Z (bI b) w M2) := by
          have := rdM l4 (tc.fr f4 (fun a k hh => by unfold PXa at hh; omega)) (by rw [f4.1 _ _ (by unfold PXa; omega)]; exact mc) (post := anPost g M4 p (fun w M2 => Z (bI b) w M2)) (fun M5 f5 t5 z5 a5 => by
            have fg : Fr (PG g) (QAm g) M4 M5 := f5.mono (fun a k hh => by unfold PRm at hh; unfold PG; omega) (fun _ _ hh => hh)
            have f45 : Fr (fun a j => PXa g k a j ∨ PRm g a j) (QAm g) Mc M5 := (f4.mono (fun a k hh => Or.inl hh) (fun a k hh => (hh : False).elim)).tr (f5.mono (fun a k hh => Or.inr hh) (fun _ _ hh => hh))
            have l5 := f45.lay wc.1
            refine can hmc i48c f45 (fun a j hh => by unfold PXa PRm at hh; omega) l5 (fun _ => ⟨fun hx => absurd hx (by decide), fun _ => ?_⟩) (fun hx => absurd ⟨by rw [hs]; exact y1, y2, y3, y4⟩ hx)
            rcases hb with ⟨hA, rfl⟩ | ⟨hA, hb⟩
            · rw [hA]
              exact ⟨fun _ => tell M5 fg t5 z5, fun hx => absurd rfl hx⟩
            · rw [hA]
              have e50 : mI M5 (gB g + 195) 50 = nI s := by rw [f45.1 _ _ (by unfold PXa PRm; omega), hmc.2.2.2.2.2.2.2.1.1, hs]
              have e220 : mI M5 (gB g + 220) s = nI (pn s) := by rw [f45.1 _ _ (by unfold PXa PRm; omega)]; exact (wc.2.2.2.2.1.2.2.2.2.2 s hnp).2.1
              refine ⟨fun hx => absurd hx (by decide), fun _ => ⟨_, lr_195_41 l5, lk_220 l4, ?_⟩⟩
              rw [e50, nI_cl s (by omega), e220, ln_220 l4]
              refine ⟨pk_in s 48 (by omega), ?_⟩
              have en : ndM g M5 = ndM g M1 := (ndM_fr f45 (fun a k hh => by unfold PXa PRm at hh; omega) (fun a k hh => by unfold QAm at hh; omega)).trans (ndM_fr fc (fun a k hh => by unfold PX at hh; omega) (fun a k hh => (hh : False).elim))
              have done : ∀ M6, Fr (PLd g 0) nQ M5 M6 → lb_X12_answer_45 g M4 (gB g + 195) p (fun w M2 => Z (bI b) w M2) (bI b) M6 := fun M6 f6 => tell M6 (fg.tr (f6.mono (fun a k hh => by unfold PLd at hh; unfold PG; omega) (fun a k hh => (hh : False).elim))) (t5.fr f6 (fun a k hh => by unfold PLd at hh; omega)) (by rw [f6.1 _ _ (by unfold PLd; omega)]; exact z5)
              refine sp_isTakenM l5 (a5 hA) hN hok (q := pn s) (by omega) d1 (by rw [en]; exact d8) (fun M6 f6 _ hy => ?_) (fun M6 f6 _ hn => ?_)
              · have hb1 := hb.mpr hy
                subst hb1
                exact ⟨fun hx => absurd hx (by decide), fun _ => done M6 f6⟩
              · cases b with
                | true => exact absurd (hb.mp rfl) hn
                | false => exact ⟨fun _ => done M6 f6, fun hx => absurd rfl hx⟩)
          exact this
        cases b with
        | false => exact ⟨fun _ => ref, fun hx => absurd rfl hx⟩
        | true => exact ⟨fun hx => absurd hx (by decide), fun _ => ref⟩
      cases hA : R.1 with
      | false => exact ⟨fun _ => add M1 false Fr.rf (Or.inl ⟨hA, rfl⟩), fun hx => absurd rfl hx⟩
      | true =>
        refine ⟨fun hx => absurd hx (by decide), fun _ => ⟨fun hx => (nomatch hx), ?_⟩⟩
        rintro q14 hq14
        obtain rfl : qa (pn s) = q14 := Option.some.inj hq14
        refine ⟨_, lr_0_2 l1, _, rfl, ko, f, c1, ?_⟩
        refine sp_accepts l1 (a1 hA) hN hok c2 d1 d2 d3 d4 d5.1 d6 d7 (fun M2 f2 hy => ⟨fun hx => absurd hx (by decide), fun _ => add M2 true f2 (Or.inr ⟨hA, fun _ => hy, fun _ => rfl⟩)⟩) (fun M2 f2 hn => ⟨fun _ => add M2 false f2 (Or.inr ⟨hA, fun hx => (nomatch hx), fun hx => absurd hx hn⟩), fun hx => absurd rfl hx⟩)
    · have hn : ¬ mayS L (thr L ev k) k p := fun hx => hn ⟨hx, fun h0 => absurd h0 (by decide)⟩
      have := rdM l1 t1 m2 (post := anPost g M1 p (fun w M2 => Z (-1) w M2)) (fun M2 f2 t2 z2 _ => can hm i48 f2 (fun a j hh => by unfold PRm at hh; omega) (rfr f2).1 (fun hx => absurd hx hn) (fun _ => ⟨fun _ => fin (-1) M2 (rfr f2) t2 z2, fun hx => absurd rfl hx⟩))
      exact this
