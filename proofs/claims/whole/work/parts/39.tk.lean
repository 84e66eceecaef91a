/-! PURE: the reference's next token -/
theorem tkSign_46 {bs : Nat → Nat} {n q : Nat} : tkSign sgF bs n q = if bs q = 46 then (if q + 1 < n ∧ bs (q + 1) = 46 then (46, q, 0, q + 2) else (3, q, 0, q + 1)) else if sgF (bs q) = true then (bs q, q, 0, q + 1) else (3, q, 0, q + 1) := by
  unfold tkSign
  split
  · split
    · rfl
    · rfl
  · rfl
def sgs (f : Int32) (sg : Nat → Bool) : Prop := (f = 1 ∧ sg = sgF) ∨ (f = 0 ∧ sg = sgW)
theorem sgF_or (c : Nat) : sgF c = true ↔ (c = 124 ∨ c = 91 ∨ c = 93 ∨ c = 40 ∨ c = 41 ∨ c = 123 ∨ c = 125 ∨ c = 44 ∨ c = 46) := by simp [sgF]
theorem sgW_or (c : Nat) : sgW c = true ↔ c = 59 := by simp [sgW]
theorem gset_fr {g : Gh} {M : Mem} {to fr kd sg : Int32} {v : Int64} : Fr (fun a k => a = (gB g + 195) ∧ 4 ≤ k ∧ k ≤ 7) (fun a k => a = (gB g + 195) ∧ k = 8) M (gset M (gB g + 195) to fr kd sg v) := by
  unfold gset
  exact (((((Fr.rf (M := M)).uJ ⟨rfl, rfl⟩).uI (by omega)).uI (by omega)).uI (by omega)).uI (by omega)
theorem gset_v {M : Mem} {m : Nat} {to fr kd sg : Int32} {v : Int64} : mI (gset M m to fr kd sg v) m 4 = to ∧ mI (gset M m to fr kd sg v) m 5 = fr ∧ mI (gset M m to fr kd sg v) m 6 = kd ∧ mI (gset M m to fr kd sg v) m 7 = sg ∧ mJ (gset M m to fr kd sg v) m 8 = v := by
  unfold gset
  refine ⟨?_, ?_, ?_, ?_, ?_⟩ <;> simp [s_II, s_IJ, s_JJ, s_JI]
set_option maxHeartbeats 4000000 in
theorem sp_X12_go {g : Gh} {M : Mem} {m b n p : Nat} {bs : Nat → Nat} {f : Int32} {sg : Nat → Bool} (h : TM g M m b n bs) (hs : sgs f sg) (h4 : mI M m 4 = nI p) (hpn : p ≤ n) {post : Mem → Prop} (hq : ∀ to' sg' v', ((tk sg bs n p).1 ≠ 3 → to' = nI (tk sg bs n p).2.2.2) → (¬ (tk sg bs n p).1 ≤ 3 → sg' = nI (tk sg bs n p).1) → ((tk sg bs n p).1 = 1 ∨ (tk sg bs n p).1 = 2 → v' = lN (tk sg bs n p).2.2.1) → post (gset M m to' (nI (tk sg bs n p).2.1) (nI (km (tk sg bs n p).1)) sg' v')) : wp_X12_go g M m f post := by
  have hn := h.2.2.2.2.2.1
  have hb8 := h.2.2.2.2.2.2.2
  refine ⟨h.1, ?_⟩
  refine lfp_ms (fun s => ∃ i, i ≤ n ∧ s = uI M m 4 (nI i) ∧ skip bs n i = skip bs n p) (fun s => n - (mI s m 4).toNatClampNeg) ?_ M ⟨p, hpn, (uI_same h4).symm, rfl⟩
  rintro bk s ⟨i, hi, rfl, hsk⟩ hb
  have h' := h.uI 4 (nI i) (by decide)
  have e4 : mI (uI M m 4 (nI i)) m 4 = nI i := by simp [s_II]
  have e3 : mI (uI M m 4 (nI i)) m 3 = nI n := h'.2.2.2.2.1
  -- the token itself
  have k38 : skip bs n p = i → lb_X12_go_38 g M m f post (uI M m 4 (nI i)) := by
    intro hski
    have htk : tk sg bs n p = tkAt sg bs n i := by unfold tk; rw [hski]
    rw [htk] at hq
    rintro M44 rfl
    rw [e4]
    have e3' : mI (uI (uI M m 4 (nI i)) m 5 (nI i)) m 3 = nI n := by simp [s_II, e3]
    have e4' : mI (uI (uI M m 4 (nI i)) m 5 (nI i)) m 4 = nI i := by simp [s_II]
    have e5' : mI (uI (uI M m 4 (nI i)) m 5 (nI i)) m 5 = nI i := by simp [s_II]
    have hT : TM g (uI (uI M m 4 (nI i)) m 5 (nI i)) m b n bs := h'.uI 5 _ (by decide)
    have hi5 : ∀ b j, ¬ (b = m ∧ (j = 4 ∨ j = 5 ∨ j = 6 ∨ j = 7)) → mI (uI (uI M m 4 (nI i)) m 5 (nI i)) b j = mI M b j := by
      intro b j hbj; simp only [s_II]; by_cases hb : b = m <;> simp [hb]; simp [hb] at hbj; simp [hbj]
    have hj5 : ∀ b j, ¬ (b = m ∧ j = 8) → mJ (uI (uI M m 4 (nI i)) m 5 (nI i)) b j = mJ M b j := fun _ _ _ => rfl
    have hr5 : (uI (uI M m 4 (nI i)) m 5 (nI i)).2.2 = M.2.2 := rfl
    generalize uI (uI M m 4 (nI i)) m 5 (nI i) = M1 at e3' e4' e5' hT hi5 hj5 hr5 ⊢
    -- put: any end with these fields
    have put : ∀ (M2 : Mem) (to' sg' : Int32) (v' : Int64), ((tkAt sg bs n i).1 ≠ 3 → to' = nI (tkAt sg bs n i).2.2.2) → (¬ (tkAt sg bs n i).1 ≤ 3 → sg' = nI (tkAt sg bs n i).1) → ((tkAt sg bs n i).1 = 1 ∨ (tkAt sg bs n i).1 = 2 → v' = lN (tkAt sg bs n i).2.2.1) → mI M2 m 4 = to' → mI M2 m 5 = nI (tkAt sg bs n i).2.1 → mI M2 m 6 = nI (km (tkAt sg bs n i).1) → mI M2 m 7 = sg' → mJ M2 m 8 = v' → (∀ b j, ¬ (b = m ∧ (j = 4 ∨ j = 5 ∨ j = 6 ∨ j = 7)) → mI M2 b j = mI M b j) → (∀ b j, ¬ (b = m ∧ j = 8) → mJ M2 b j = mJ M b j) → M2.2.2 = M.2.2 → post M2 := by
      intro M2 to' sg' v' a1 a2 a3 b4 b5 b6 b7 b8 bi bj br
      exact gset_at (hq to' sg' v' a1 a2 a3) b4 b5 b6 b7 b8 bi bj br
    have k79 : ¬ (200 < n ∧ 200 ≤ i) → lb_X12_go_79 g M m f post M1 := by
      intro hni
      unfold lb_X12_go_79
      rw [e3', e4']
      refine pk_lt i n (fun hin => ⟨b, hT.2.1, h.2.2.1, by rw [h.2.2.2.1]; exact pk_in i 260 (by omega), ?_⟩) (fun hin => ?_)
      · have hi200 : ¬ (n ≤ i ∨ 200 ≤ i) := by omega
        have hat : tkAt sg bs n i = if isA (bs i) = true then tkRun bs i (rend bs n i) else tkSign sg bs n i := if_neg hi200
        rw [nI_cl i (by omega), hT.2.2.2.2.2.2.1 i (by omega)]
        have hc8 := hb8 i
        have rw_ : isA (bs i) = true → wp_X12_readWord g M1 m (fun M41 => post M41) := by
          intro ha
          rw [if_pos ha] at hat
          refine sp_X12_readWord hT e4' e5' hin ha (fun v hv => ?_)
          have e2 : (tkRun bs i (rend bs n i)).2.1 = i ∧ (tkRun bs i (rend bs n i)).2.2.2 = rend bs n i ∧ (tkRun bs i (rend bs n i)).1 ≤ 3 := by
            unfold tkRun; split
            · exact ⟨rfl, rfl, by simp⟩
            · split <;> exact ⟨rfl, rfl, by simp⟩
          refine put _ (nI (rend bs n i)) (mI M1 m 7) v (fun _ => by rw [hat, e2.2.1]) (fun hx => by rw [hat] at hx; exact absurd e2.2.2 hx) (fun hx => by rw [hat] at hx ⊢; exact hv (by omega)) gset_v.1 (by rw [gset_v.2.1, hat, e2.1]) (by rw [gset_v.2.2.1, hat]) gset_v.2.2.2.1 gset_v.2.2.2.2 (fun b' j hbj => ?_) (fun b' j hbj => ?_) ?_
          · rw [← hi5 b' j hbj]; unfold gset; simp only [s_II, s_IJ]; by_cases hbm : b' = m <;> simp [hbm]; simp [hbm] at hbj; simp [hbj]
          · rw [← hj5 b' j hbj]; unfold gset; simp only [s_JI, s_JJ]; by_cases hbm : b' = m <;> simp [hbm]; simp [hbm] at hbj; simp [hbj]
          · exact hr5
        refine sp_X12_isLetter _ hc8 ?_
        by_cases hL : isL (bs i) = true
        · rw [if_pos hL]
          exact ⟨fun hx => absurd hx (by decide), fun _ => rw_ (by simp [isA, hL])⟩
        rw [if_neg hL]
        refine ⟨fun _ => sp_X12_isDigit _ hc8 ?_, fun hx => absurd rfl hx⟩
        by_cases hD : isD (bs i) = true
        · rw [if_pos hD]
          exact ⟨fun hx => absurd hx (by decide), fun _ => rw_ (by simp [isA, hD])⟩
        rw [if_neg hD]
        refine ⟨fun _ => ?_, fun hx => absurd rfl hx⟩
        have hA : ¬ isA (bs i) = true := by simp [isA, hL, hD]
        rw [if_neg hA] at hat
        have hne1 : bs i ≠ 0 ∨ bs i = 0 := by omega
        -- the end of a sign
        have k247 : ∀ (x3 to' : Int32) (M2 : Mem), mI M2 m 4 = to' → mI M2 m 5 = nI i → mI M2 m 7 = nI (bs i) → (∀ b j, ¬ (b = m ∧ (j = 4 ∨ j = 5 ∨ j = 6 ∨ j = 7)) → mI M2 b j = mI M b j) → (∀ b j, ¬ (b = m ∧ j = 8) → mJ M2 b j = mJ M b j) → M2.2.2 = M.2.2 → ((x3 = 0 ∧ (tkSign sg bs n i).1 = 3 ∧ (tkSign sg bs n i).2.1 = i) ∨ (¬ x3 = 0 ∧ (tkSign sg bs n i) = (bs i, i, 0, (tkSign sg bs n i).2.2.2) ∧ 3 < bs i ∧ to' = nI (tkSign sg bs n i).2.2.2)) → lb_X12_go_247 g M m f post x3 M2 := by
          intro x3 to' M2 b4 b5 b7 bi bj br hx3
          rcases hx3 with ⟨rfl, e1, e2⟩ | ⟨hx, e1, e2, e3⟩
          · refine ⟨fun _ => ?_, fun hx => absurd rfl hx⟩
            rintro M3 rfl
            refine put _ to' (nI (bs i)) (mJ M2 m 8) (fun hx => by rw [hat] at hx; exact absurd e1 hx) (fun hx => by rw [hat, e1] at hx; exact absurd (by decide) hx) (fun hx => by rw [hat, e1] at hx; omega) ?_ ?_ ?_ ?_ rfl (fun b' j hbj => ?_) (fun b' j hbj => bj b' j hbj) br
            · simp [s_II, b4]
            · simp [s_II, b5, hat, e2]
            · simp [s_II, hat, e1, km]; rfl
            · simp [s_II, b7]
            · rw [← bi b' j hbj]; simp only [s_II]; by_cases hbm : b' = m <;> simp [hbm]; simp [hbm] at hbj; simp [hbj]
          · refine ⟨fun hx' => absurd hx' hx, fun _ => ?_⟩
            rintro M3 rfl
            have c1 : (tkAt sg bs n i).1 = bs i := by rw [hat, e1]
            have c2 : (tkAt sg bs n i).2.1 = i := by rw [hat, e1]
            refine put _ to' (nI (bs i)) (mJ M2 m 8) (fun _ => by rw [hat]; exact e3) (fun _ => by rw [c1]) (fun hx => by rw [c1] at hx; omega) ?_ ?_ ?_ ?_ rfl (fun b' j hbj => ?_) (fun b' j hbj => bj b' j hbj) br
            · simp [s_II, b4]
            · simp [s_II, b5, c2]
            · rw [c1]; simp [s_II, km, show bs i ≠ 0 by omega, show bs i ≠ 1 by omega, show bs i ≠ 2 by omega, show bs i ≠ 3 by omega]; rfl
            · simp [s_II, b7]
            · rw [← bi b' j hbj]; simp only [s_II]; by_cases hbm : b' = m <;> simp [hbm]; simp [hbm] at hbj; simp [hbj]
        have k196 : ∀ (s0 : Int32), (s0 = 1 ∧ sg (bs i) = true ∧ bs i ≠ 46) ∨ (s0 = 0 ∧ (sg (bs i) = false ∨ bs i = 46)) → lb_X12_go_196 g M m f post (nI (bs i)) s0 M1 := by
          intro s0 hs0
          rintro M6 rfl M8 rfl
          have g4 : mI (uI M1 m 7 (nI (bs i))) m 4 = nI i := by simp [s_II, e4']
          rw [g4, nI_1]
          have b4 : mI (uI (uI M1 m 7 (nI (bs i))) m 4 (nI (i + 1))) m 4 = nI (i + 1) := by simp [s_II]
          have b5 : mI (uI (uI M1 m 7 (nI (bs i))) m 4 (nI (i + 1))) m 5 = nI i := by simp [s_II, e5']
          have b7 : mI (uI (uI M1 m 7 (nI (bs i))) m 4 (nI (i + 1))) m 7 = nI (bs i) := by simp [s_II]
          have bi : ∀ b j, ¬ (b = m ∧ (j = 4 ∨ j = 5 ∨ j = 6 ∨ j = 7)) → mI (uI (uI M1 m 7 (nI (bs i))) m 4 (nI (i + 1))) b j = mI M b j := by
            intro b' j hbj
            rw [← hi5 b' j hbj]; simp only [s_II]; by_cases hbm : b' = m <;> simp [hbm]; simp [hbm] at hbj; simp [hbj]
          have hT8 : TM g (uI (uI M1 m 7 (nI (bs i))) m 4 (nI (i + 1))) m b n bs := (hT.uI 7 _ (by decide)).uI 4 _ (by decide)
          have br : (uI (uI M1 m 7 (nI (bs i))) m 4 (nI (i + 1))).2.2 = M.2.2 := hr5
          have bj : ∀ b j, ¬ (b = m ∧ j = 8) → mJ (uI (uI M1 m 7 (nI (bs i))) m 4 (nI (i + 1))) b j = mJ M b j := hj5
          generalize uI (uI M1 m 7 (nI (bs i))) m 4 (nI (i + 1)) = M2 at b4 b5 b7 bi hT8 br bj ⊢
          have simple : bs i ≠ 46 → lb_X12_go_247 g M m f post s0 M2 := by
            intro h46
            refine k247 s0 _ M2 b4 b5 b7 bi bj br ?_
            have et : tkSign sg bs n i = if sg (bs i) = true then (bs i, i, 0, i + 1) else (3, i, 0, i + 1) := if_neg h46
            rcases hs0 with ⟨rfl, h1, _⟩ | ⟨rfl, h1⟩
            · right
              rw [if_pos h1] at et
              refine ⟨by decide, by rw [et], ?_, by rw [et]⟩
              rcases hs with ⟨_, rfl⟩ | ⟨_, rfl⟩
              · rw [sgF_or] at h1; omega
              · rw [sgW_or] at h1; omega
            · left
              have h2 : sg (bs i) = false := h1.resolve_right h46
              rw [if_neg (by rw [h2]; decide)] at et
              exact ⟨rfl, by rw [et], by rw [et]⟩
          rcases hs with ⟨rfl, rfl⟩ | ⟨rfl, rfl⟩
          · refine ⟨fun hx => absurd hx (by decide), fun _ => pk_eq (bs i) 46 (fun h46 => ?_) (fun h46 => simple h46)⟩
            rw [b4]
            refine sp_X12_at hT8 (i + 1) (by omega) ?_
            have hs00 : s0 = 0 := by
              rcases hs0 with ⟨_, _, h1⟩ | ⟨h1, _⟩
              · exact absurd h46 h1
              · exact h1
            have et := tkSign_46 (bs := bs) (n := n) (q := i)
            rw [if_pos h46] at et
            by_cases h2 : i + 1 < n ∧ bs (i + 1) = 46
            · rw [if_pos h2.1, h2.2]
              refine ⟨fun _ => ?_, fun hx => absurd rfl hx⟩
              rintro M15 rfl
              rw [b4, nI_1]
              rw [if_pos h2] at et
              refine k247 1 (nI (i + 2)) _ ?_ ?_ ?_ ?_ bj br (Or.inr ⟨by decide, by rw [et, h46], by omega, by rw [et]⟩)
              · simp [s_II]
              · simp [s_II, b5]
              · simp [s_II, b7]
              · intro b' j hbj
                rw [← bi b' j hbj]; simp only [s_II]; by_cases hbm : b' = m <;> simp [hbm]; simp [hbm] at hbj; simp [hbj]
            · rw [if_neg h2] at et
              have hne : ¬ (nI (if i + 1 < n then bs (i + 1) else 0) : Int32) = 46 := by
                split
                · next hx =>
                  have h9 := hb8 (i + 1)
                  exact fun he => h2 ⟨hx, (nI_eq (a := bs (i + 1)) (b := 46) (by omega) (by decide)).mp he⟩
                · decide
              refine ⟨fun hx => absurd hx hne, fun _ => ?_⟩
              rw [hs00]
              exact k247 0 _ M2 b4 b5 b7 bi bj br (Or.inl ⟨rfl, by rw [et], by rw [et]⟩)
          · refine ⟨fun _ => ?_, fun hx => absurd rfl hx⟩
            by_cases h46 : bs i = 46
            · refine k247 s0 _ M2 b4 b5 b7 bi bj br (Or.inl ⟨?_, ?_, ?_⟩)
              · rcases hs0 with ⟨_, _, h1⟩ | ⟨h1, _⟩
                · exact absurd h46 h1
                · exact h1
              · unfold tkSign; rw [if_pos h46]; split
                · rfl
                · rfl
              · unfold tkSign; rw [if_pos h46]; split
                · rfl
                · rfl
            · exact simple h46
        rcases hs with ⟨rfl, rfl⟩ | ⟨rfl, rfl⟩
        · have y : ∀ c, bs i = c → sgF c = true → c ≠ 46 → lb_X12_go_196 g M m 1 post (nI (bs i)) 1 M1 := fun c e h1 h2 => k196 1 (Or.inl ⟨rfl, by rw [e]; exact h1, by rw [e]; exact h2⟩)
          refine ⟨fun hx => absurd hx (by decide), fun _ => pk_eq (bs i) 124 (fun e => y 124 e (by decide) (by decide)) (fun c1 => pk_eq (bs i) 91 (fun e => y 91 e (by decide) (by decide)) (fun c2 => ?_))⟩
          refine pk_eq (bs i) 93 (fun e => y 93 e (by decide) (by decide)) (fun c3 => pk_eq (bs i) 40 (fun e => y 40 e (by decide) (by decide)) (fun c4 => pk_eq (bs i) 41 (fun e => y 41 e (by decide) (by decide)) (fun c5 => pk_eq (bs i) 123 (fun e => y 123 e (by decide) (by decide)) (fun c6 => pk_eq (bs i) 125 (fun e => y 125 e (by decide) (by decide)) (fun c7 => pk_eq (bs i) 44 (fun e => y 44 e (by decide) (by decide)) (fun c8 => k196 0 (Or.inr ⟨rfl, ?_⟩)))))))
          by_cases h46 : bs i = 46
          · exact Or.inr h46
          · left
            cases hx : sgF (bs i) with
            | false => rfl
            | true => rw [sgF_or] at hx; omega
        · refine ⟨fun _ => pk_eq (bs i) 59 (fun e => k196 1 (Or.inl ⟨rfl, by rw [e]; decide, by omega⟩)) (fun e => k196 0 (Or.inr ⟨rfl, Or.inl ?_⟩)), fun hx => absurd rfl hx⟩
          cases hx : sgW (bs i) with
          | false => rfl
          | true => rw [sgW_or] at hx; omega
      · rintro M42 rfl
        have hat : tkAt sg bs n i = (0, n, 0, i) := by unfold tkAt; rw [if_pos (Or.inl hin), if_pos (by omega)]
        have : i = n := by omega
        subst this
        refine put _ (nI i) (mI M1 m 7) (mJ M1 m 8) (fun _ => by rw [hat]) (fun hx => by rw [hat] at hx; exact absurd (by simp) hx) (fun hx => by rw [hat] at hx; omega) ?_ ?_ ?_ ?_ rfl (fun b' j hbj => ?_) (fun b' j hbj => hj5 b' j hbj) hr5
        · simp [s_II, e4']
        · simp [s_II, e5', hat]
        · simp [s_II, hat, km]; rfl
        · simp [s_II]
        · rw [← hi5 b' j hbj]; simp only [s_II]; by_cases hbm : b' = m <;> simp [hbm]; simp [hbm] at hbj; simp [hbj]
    rw [e3', e5']
    refine pk_le n 200 (fun hx => k79 (by omega)) (fun hx => pk_lt i 200 (fun hy => k79 (by omega)) (fun hy => ?_))
    rintro M48 rfl M50 rfl
    have hat : tkAt sg bs n i = (3, 200, 0, i) := by unfold tkAt; rw [if_pos (Or.inr hy), if_neg (by omega)]
    refine put _ (nI i) (mI M1 m 7) (mJ M1 m 8) (fun hx => by rw [hat] at hx; exact absurd rfl hx) (fun hx => by rw [hat] at hx; exact absurd (by simp) hx) (fun hx => by rw [hat] at hx; omega) ?_ ?_ ?_ ?_ rfl (fun b' j hbj => ?_) (fun b' j hbj => hj5 b' j hbj) hr5
    · simp [s_II, e4']
    · simp [s_II, hat]; rfl
    · simp [s_II, hat, km]; rfl
    · simp [s_II]
    · rw [← hi5 b' j hbj]; simp only [s_II]; by_cases hbm : b' = m <;> simp [hbm]; simp [hbm] at hbj; simp [hbj]
  show bd_X12_go_0 g M m f post bk (uI M m 4 (nI i))
  unfold bd_X12_go_0
  rw [e3, e4]
  refine pk_le n i (fun hc => k38 (by rw [← hsk, skip_stop (by omega)])) (fun hc => ⟨b, h'.2.1, h.2.2.1, by rw [h.2.2.2.1]; exact pk_in i 260 (by omega), ?_⟩)
  rw [nI_cl i (by omega), h'.2.2.2.2.2.2.1 i (by omega)]
  have hc8 := hb8 i
  refine pk_eq (bs i) 32 (fun hc2 => ?_) (fun hc2 => k38 (by rw [← hsk, skip_stop (by omega)]))
  rintro M58 rfl
  rw [nI_1, uI_uI]
  refine hb _ ⟨i + 1, by omega, rfl, by rw [← hsk, skip_step hc hc2]⟩ ?_
  show n - (mI (uI M m 4 (nI (i + 1))) m 4).toNatClampNeg < n - (mI (uI M m 4 (nI i)) m 4).toNatClampNeg
  rw [e4, show mI (uI M m 4 (nI (i + 1))) m 4 = nI (i + 1) by simp [s_II], nI_clamp (by omega), nI_clamp (by omega)]
  omega
