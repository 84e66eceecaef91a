/-! PURE: begin -/
def FRq (g : Gh) (M : Mem) (ta tb q : Nat) : Prop := mI M (gB g + 206) q = 0 ∧ ¬ (((mI M (gB g + 205) q) >>> (nI ta &&& 31)) &&& 1) = 1 ∧ ¬ (((mI M (gB g + 205) q) >>> (nI tb &&& 31)) &&& 1) = 1
theorem sp_seenBy {g : Gh} {M : Mem} {c q a : Nat} (h : QOK g M c q a) (t : Int32) {post : Int32 → Mem → Prop} (hy : (((mI M (gB g + 205) q) >>> (t &&& 31)) &&& 1) = 1 → post 1 M) (hn : ¬ (((mI M (gB g + 205) q) >>> (t &&& 31)) &&& 1) = 1 → post 0 M) : wp_X9_isSeenBy g M a t post := by
  obtain ⟨q1, q2, q3, q4, q5, q6, q7, q8, s, s1, s2, s3⟩ := h
  rw [s3] at hy hn
  refine ⟨q2, ?_⟩
  rw [s2]
  exact ⟨hy, hn⟩
theorem sp_isFree {g : Gh} {M : Mem} {c q a : Nat} (h : QOK g M c q a) (ta tb : Nat) {post : Int32 → Mem → Prop} (hy : FRq g M ta tb q → post 1 M) (hn : ¬ FRq g M ta tb q → post 0 M) : wp_X9_isFreeFor g M a (nI ta) (nI tb) post := by
  have hh := h
  obtain ⟨q1, q2, q3, q4, q5, q6, q7, ⟨b, b1, b2⟩, q9⟩ := h
  refine ⟨q2, ?_⟩
  rw [b1, ← b2]
  refine ⟨fun h0 => sp_seenBy hh (nI ta) (fun ha => ⟨fun hx => absurd hx (by decide), fun _ => hn (fun hf => hf.2.1 ha)⟩) (fun ha => ⟨fun _ => sp_seenBy hh (nI tb) (fun hb => ⟨fun hx => absurd hx (by decide), fun _ => hn (fun hf => hf.2.2 hb)⟩) (fun hb => ⟨fun _ => hy ⟨h0, ha, hb⟩, fun hx => absurd rfl hx⟩), fun hx => absurd rfl hx⟩), fun h0 => hn (fun hf => h0 hf.1)⟩
theorem sp_spoilt {g : Gh} {M : Mem} {c nq : Nat} {qa : Nat → Nat} {np : Nat} {pn : Nat → Nat} (h1 : Lay g M) (h4 : IQ g M c nq qa) (h6 : IP g M nq np pn) {ta tb : Nat} (ha : mI M (gB g + 61) 0 = nI ta) (hb : mI M (gB g + 61) 1 = nI tb) {post : Int32 → Mem → Prop} (hy : (∀ k, k < np → FRq g M ta tb (pn k)) → post 0 M) (hn : ∀ k, k < np → ¬ FRq g M ta tb (pn k) → post 1 M) : wp_X11_isPackSpoilt g M (gB g) post := by
  have h48 := h6.1
  have h60 := h4.1
  refine ⟨lk_0 h1, ?_⟩
  refine lfp_up (fun i s => s = (nI i, M) ∧ ∀ k, k < i → FRq g M ta tb (pn k)) np ?_ ?_ 0 _ (by omega) ⟨rfl, fun k hk => by omega⟩
  · rintro bk s ⟨rfl, hf⟩
    refine ⟨_, lr_0_8 h1, lk_61 h1, ?_⟩
    show ((mI M (gB g + 61) 2 ≤ nI np → _) ∧ _)
    rw [h6.2.1]
    exact pk_le np np (fun _ => hy hf) (fun hx => by omega)
  · rintro bk i s hi ⟨rfl, hf⟩ hbk
    have hpi := (h6.2.2.2.2.2 i hi).1
    refine ⟨_, lr_0_8 h1, lk_61 h1, ?_⟩
    show ((mI M (gB g + 61) 2 ≤ nI i → _) ∧ _)
    rw [h6.2.1]
    refine pk_le np i (fun hx => by omega) (fun _ => sp_numAt h1 h6 (nI i) (fun hx => (nI_out hi (by omega) hx).elim) (fun k hk e => ?_))
    have : i = k := (nI_eq (by omega) (by omega)).mp e
    subst this
    refine sp_qAt h1 h4 (nI (pn i)) (fun hx => (nI_out hpi (by omega) hx).elim) (fun q hq e2 => ?_)
    have : pn i = q := (nI_eq (by omega) (by omega)).mp e2
    subst this
    refine ⟨fun hx => absurd hx (by simp), fun q4 hq4 => ?_⟩
    cases hq4
    refine ⟨_, lr_0_8 h1, lk_61 h1, ?_⟩
    rw [ha, hb]
    refine sp_isFree (h4.2.2.2.1 _ hpi) ta tb (fun hF => ⟨fun hx => absurd hx (by decide), fun _ => hbk _ ⟨by rw [nI_1], fun k hk => ?_⟩⟩) (fun hF => ⟨fun _ => hn i hi hF, fun hx => absurd rfl hx⟩)
    rcases (show k < i ∨ k = i by omega) with hx | rfl
    · exact hf k hx
    · exact hF
theorem rt_67 : ∀ r ∈ RT, ¬ (r.1 = 67 ∧ r.2.1 = 1) := by decide +kernel
theorem uR_ne (M : Mem) (a k : Nat) (v : Option Nat) {b j : Nat} (h : b ≠ a ∨ j ≠ k) : mR (uR M a k v) b j = mR M b j := by
  show up2 M.2.2.1 a k v b j = M.2.2.1 b j
  rcases h with h | h
  · exact up2_addr _ _ _ _ h
  · exact up2_slot _ _ _ _ h
theorem lay_67 {g : Gh} {M : Mem} (h : Lay g M) (v : Option Nat) : Lay g (uR M (gB g + 67) 1 v) := by
  refine ⟨h.1, h.2.1, fun r hr => ?_⟩
  rw [uR_ne]
  · exact h.2.2 r hr
  · have := rt_67 r hr; omega
theorem iq_67 {g : Gh} {M : Mem} {c nq : Nat} {qa : Nat → Nat} (l : Lay g M) (h : IQ g M c nq qa) (v : Option Nat) : IQ g (uR M (gB g + 67) 1 v) c nq qa := by
  refine ⟨h.1, h.2.1, h.2.2.1, fun q hq => ?_, h.2.2.2.2⟩
  obtain ⟨q1, q2, q3, ⟨f, f1, f2, F, ka, la, ha, g1, g2, g3, g4, g5, g6, g7, g8⟩, q5⟩ := h.2.2.2.1 q hq
  have hf : f ≠ (gB g + 67) := okc_ne f2 (lk_67 l) (by decide)
  refine ⟨?_, q2, q3, ⟨f, ?_, f2, F, ka, la, ha, g1, g2, ?_, g4, g5, g6, g7, g8⟩, q5⟩
  · rw [uR_ne _ _ _ _ (by omega)]; exact q1
  · rw [uR_ne _ _ _ _ (by omega)]; exact f1
  · rw [uR_ne _ _ _ _ (Or.inl hf), uR_ne _ _ _ _ (Or.inl hf), uR_ne _ _ _ _ (Or.inl hf)]; exact g3
theorem ilw_67 {g : Gh} {M : Mem} {r : Nat} {L : LawT} (h : ILw g M r L) (v : Option Nat) : ILw g (uR M (gB g + 67) 1 v) r L := by
  refine ⟨h.1, h.2.1, ?_, ?_⟩
  · rw [uR_ne _ _ _ _ (by omega)]; exact h.2.2.1
  · rw [uR_ne _ _ _ _ (by omega)]; exact h.2.2.2
theorem m_begin {g : Gh} {M : Mem} {c : Nat} (h : Inv g M c) {Z : Int32 → Int32 → Mem → Prop} (hz : ∀ v M', Inv g M' (c + 1) → Z v v M') : wp_X11_begin g M (gB g) (fun v M1 => wp_X12_begin g M1 (gB g + 195) (fun w M2 => Z v w M2)) := by
  obtain ⟨nq, qa, r, L, np, pn, on, h⟩ := h
  have hz' := fun v => hz v _ (h.z 0).up.ex
  have hi := h.z 0
  obtain ⟨h1, h2, h3, h4, h5, h6, h7, h8⟩ := id h
  have h48 := h6.1
  have h60 := h4.1
  have hb := lk_law h1 h5.1.1
  have e48 := hi.2.2.2.2.2.2.1.2.1
  have e44 := hi.2.2.2.2.2.1.2.2.1
  have e40 := hi.2.2.2.2.1.2.1.2.2.1
  have hW := h5.1.2.1.W
  have no : (np = 0 ∨ on = true ∨ lW L ≠ np) → wp_X12_begin g M (gB g + 195) (fun w M2 => Z 0 w M2) := by
    intro hno
    refine ⟨lk_195 h1, ?_⟩
    rintro M1 rfl
    rw [e48, e44, e40]
    refine pk_eq np 0 (fun _ => hz' 0) (fun hnp => ?_)
    cases on with
    | true => exact ⟨fun hx => absurd hx (by decide), fun _ => hz' 0⟩
    | false =>
      refine ⟨fun _ => pk_eq (lW L) np (fun hx => ?_) (fun _ => hz' 0), fun hx => absurd rfl hx⟩
      rcases hno with hx1 | hx1 | hx1
      · exact absurd hx1 hnp
      · cases hx1
      · exact absurd hx hx1
  refine ⟨lk_0 h1, _, lr_0_9 h1, lk_67 h1, ?_⟩
  rw [h7.1]
  cases on with
  | true => exact ⟨fun hx => absurd hx (by decide), fun _ => no (Or.inr (Or.inl rfl))⟩
  | false =>
    refine ⟨fun _ => ⟨_, lr_0_8 h1, lk_61 h1, ?_⟩, fun hx => absurd rfl hx⟩
    rw [h6.2.1]
    refine pk_eq np 0 (fun hx => no (Or.inl hx)) (fun hnp => ⟨_, h5.2.2.1, hb.1, ?_⟩)
    rw [h5.1.2.2.2.1]
    refine pk_eq np (lW L) (fun hnw => ?_) (fun hx => no (Or.inr (Or.inr (Ne.symm hx))))
    obtain ⟨ta, tb, t1, t2, t3, t4, t5, t6⟩ := h6.2.2.2.2.1 (by omega)
    -- the reference's loop, at any memory that is like it there
    have road : ∀ (M1 : Mem) (v : Int32) (P : Nat → Nat → Prop), Fr P nQ M M1 → (∀ a k, P a k → ¬ ((gB g + 195) ≤ a ∧ a < (gB g + 234))) → ((∃ k, k < np ∧ ¬ FRq g M ta tb (pn k)) → Z v 0 (uI M1 (gB g + 195) 0 0)) → ((∀ k, k < np → FRq g M ta tb (pn k)) → wp_X12_through g (uI (uI (uI M1 (gB g + 195) 0 0) (gB g + 195) 48 1) (gB g + 195) 49 0) (gB g + 195) (fun M2 => Z v 1 M2)) → (mR M1 (gB g + 195) = mR M (gB g + 195)) → Lay g M1 → wp_X12_begin g M1 (gB g + 195) (fun w M2 => Z v w M2) := by
      intro M1 v P f1 hP hno hyes hR l1
      have f : Fr (fun a k => P a k ∨ (a = (gB g + 195) ∧ k = 0)) nQ M (uI M1 (gB g + 195) 0 0) := (f1.mono (fun a k hh => Or.inl hh) (fun _ _ hh => hh)).uI (Or.inr ⟨rfl, rfl⟩)
      have ff : ∀ a k, ((gB g + 195) ≤ a ∧ a < (gB g + 234)) → ¬ (a = (gB g + 195) ∧ k = 0) → mI (uI M1 (gB g + 195) 0 0) a k = mI M a k := fun a k h3 h4 => f.1 a k (fun hh => hh.elim (fun hp => hP _ _ hp h3) h4)
      refine ⟨lk_195 l1, ?_⟩
      rintro M3 rfl
      rw [ff (gB g + 195) 44 (by omega) (by omega), ff (gB g + 195) 48 (by omega) (by omega), ff (gB g + 195) 40 (by omega) (by omega), h6.2.2.1, h7.2.1, h5.2.1.2.2.1]
      refine pk_eq np 0 (fun hx => absurd hx hnp) (fun _ => ⟨fun _ => pk_eq (lW L) np (fun _ => ?_) (fun hx => by omega), fun hx => absurd rfl hx⟩)
      refine lfp_up (fun i s => s = (nI i, uI M1 (gB g + 195) 0 0) ∧ ∀ k, k < i → FRq g M ta tb (pn k)) np ?_ ?_ 0 _ (by omega) ⟨rfl, fun k hk => by omega⟩
      · rintro bk s ⟨rfl, hf⟩
        show bd_X12_begin_34 g M1 (gB g + 195) _ bk (nI np) (uI M1 (gB g + 195) 0 0)
        unfold bd_X12_begin_34
        rw [ff (gB g + 195) 44 (by omega) (by omega), h6.2.2.1]
        refine pk_le np np (fun _ => ?_) (fun hx => by omega)
        rintro M4 rfl M5 rfl
        exact hyes hf
      · rintro bk i s hi2 ⟨rfl, hf⟩ hbk
        have hpi := h6.2.2.2.2.2 i hi2
        show bd_X12_begin_34 g M1 (gB g + 195) _ bk (nI i) (uI M1 (gB g + 195) 0 0)
        unfold bd_X12_begin_34
        rw [ff (gB g + 195) 44 (by omega) (by omega), ff (gB g + 195) 46 (by omega) (by omega), ff (gB g + 195) 47 (by omega) (by omega), h6.2.2.1, t5, t6]
        refine pk_le np i (fun hx => by omega) (fun _ => ⟨_, lr_195_23 l1, _, lr_195_41 l1, lk_220 l1, by rw [ln_220 l1]; exact pk_in i 48 (by omega), lk_206 l1, ?_, ?_⟩)
        · rw [nI_cl i (by omega), ff (gB g + 220) i (by omega) (by omega), hpi.2.1, ln_206 l1]; exact pk_in (pn i) 60 (by omega)
        · rw [nI_cl i (by omega), ff (gB g + 220) i (by omega) (by omega), hpi.2.1, nI_cl (pn i) (by omega), ff (gB g + 206) (pn i) (by omega) (by omega)]
          refine ⟨fun hs => ⟨_, lr_195_22 l1, lk_205 l1, by rw [ln_205 l1]; exact pk_in (pn i) 60 (by omega), ?_⟩, fun hs => hno ⟨i, hi2, fun hF => hs hF.1⟩⟩
          (try rw [nI_cl (pn i) (by omega)])
          rw [ff (gB g + 205) (pn i) (by omega) (by omega)]
          refine ⟨fun hs1 => hno ⟨i, hi2, fun hF => hF.2.1 hs1⟩, fun hs1 => ⟨fun hs2 => hno ⟨i, hi2, fun hF => hF.2.2 hs2⟩, fun hs2 => hbk _ ⟨by rw [nI_1], fun k hk => ?_⟩⟩⟩
          rcases (show k < i ∨ k = i by omega) with hx | rfl
          · exact hf k hx
          · exact ⟨hs, hs1, hs2⟩
    refine sp_spoilt h1 h4 h6 t3 t4 (fun hall => ⟨fun _ => ⟨_, lr_0_9 h1, _, h5.2.2.1, ?_⟩, fun hx => absurd rfl hx⟩) (fun k hk hF => ⟨fun hx => absurd hx (by decide), fun _ => road M 0 (fun _ _ => False) Fr.rf (fun a k hh => hh.elim) (fun _ => hz' 0) (fun hall => absurd (hall k hk) hF) rfl h1⟩)
    refine ⟨lk_67 h1, ?_⟩
    rintro M1 rfl M3 rfl M5 rfl
    have fc : Fr (PXc g) nQ (uR M (gB g + 67) 1 (some (gB g + (r)))) (uI (uI (uR M (gB g + 67) 1 (some (gB g + (r)))) (gB g + 67) 0 1) (gB g + 67) 3 0) := (Fr.rf.uI (Or.inl ⟨rfl, Or.inl rfl⟩)).uI (Or.inl ⟨rfl, Or.inr rfl⟩)
    refine sp_thrBoth h ⟨hnw.symm, by omega⟩ (n := 0) (ev := fun _ => (0, 0, 0, false)) (by omega) (fun j hj => by omega) (Mr := uR M (gB g + 67) 1 (some (gB g + (r)))) ⟨rfl, rfl, rfl, rfl, rfl⟩ (lay_67 h1 _) (iq_67 h1 h4 _) (ilw_67 h5 _) ?_ fc ?_ ?_ (fun j hj => by omega) (fun M1 f1 hq => ?_)
    · show up2 M.2.2.1 (gB g + 67) 1 _ (gB g + 67) 1 = _
      exact up2_same _ _ _ _
    · rw [s_II, if_pos rfl, if_neg (by decide), s_II, if_pos rfl, if_pos rfl]
    · rw [s_II, if_pos rfl, if_pos rfl]; rfl
    · have f1' : ∀ a k, ¬ PXd g a k → mI M1 a k = mI M a k := f1.1
      -- as a frame of M, but for the one reference
      have l1 : Lay g M1 := f1.lay (lay_67 h1 _)
      have hR1 : mR M1 = mR (uR M (gB g + 67) 1 (some (gB g + (r)))) := f1.R
      refine ⟨lk_195 l1, ?_⟩
      rintro M3 rfl
      have ff : ∀ a k, ((gB g + 195) ≤ a ∧ a < (gB g + 234)) → ¬ (a = (gB g + 195) ∧ k = 0) → mI (uI M1 (gB g + 195) 0 0) a k = mI M a k := by
        intro a k h3 h4
        rw [s_II]
        by_cases ha : a = (gB g + 195)
        · subst ha
          rw [if_pos rfl, if_neg (by omega)]; exact f1' _ _ (by unfold PXd; omega)
        · rw [if_neg ha]; exact f1' _ _ (by unfold PXd; omega)
      rw [ff (gB g + 195) 44 (by omega) (by omega), ff (gB g + 195) 48 (by omega) (by omega), ff (gB g + 195) 40 (by omega) (by omega), h6.2.2.1, h7.2.1, h5.2.1.2.2.1]
      refine pk_eq np 0 (fun hx => absurd hx hnp) (fun _ => ⟨fun _ => pk_eq (lW L) np (fun _ => ?_) (fun hx => by omega), fun hx => absurd rfl hx⟩)
      refine lfp_up (fun i s => s = (nI i, uI M1 (gB g + 195) 0 0)) np ?_ ?_ 0 _ (by omega) rfl
      · rintro bk s rfl
        show bd_X12_begin_34 g M1 (gB g + 195) _ bk (nI np) (uI M1 (gB g + 195) 0 0)
        unfold bd_X12_begin_34
        rw [ff (gB g + 195) 44 (by omega) (by omega), h6.2.2.1]
        refine pk_le np np (fun _ => ?_) (fun hx => by omega)
        rintro M4 rfl M5 rfl
        refine hq _ (((Fr.rf.uI ?_).uI ?_).uI ?_) ?_ ?_ (fun j hj => by omega) _ (fun M2 h2 => hz 1 M2 h2.up.ex)
        · exact Or.inl ⟨rfl, Or.inl rfl⟩
        · exact Or.inl ⟨rfl, Or.inr (Or.inl rfl)⟩
        · exact Or.inl ⟨rfl, Or.inr (Or.inr rfl)⟩
        · rw [s_II, if_pos rfl, if_neg (by decide), s_II, if_pos rfl, if_pos rfl]
        · rw [s_II, if_pos rfl, if_pos rfl]; rfl
      · rintro bk i s hi2 rfl hbk
        have hpi := h6.2.2.2.2.2 i hi2
        have hF := hall i hi2
        show bd_X12_begin_34 g M1 (gB g + 195) _ bk (nI i) (uI M1 (gB g + 195) 0 0)
        unfold bd_X12_begin_34
        rw [ff (gB g + 195) 44 (by omega) (by omega), ff (gB g + 195) 46 (by omega) (by omega), ff (gB g + 195) 47 (by omega) (by omega), h6.2.2.1, t5, t6]
        refine pk_le np i (fun hx => by omega) (fun _ => ⟨_, lr_195_23 l1, _, lr_195_41 l1, lk_220 l1, by rw [ln_220 l1]; exact pk_in i 48 (by omega), lk_206 l1, ?_, ?_⟩)
        · rw [nI_cl i (by omega), ff (gB g + 220) i (by omega) (by omega), hpi.2.1, ln_206 l1]; exact pk_in (pn i) 60 (by omega)
        · rw [nI_cl i (by omega), ff (gB g + 220) i (by omega) (by omega), hpi.2.1, nI_cl (pn i) (by omega), ff (gB g + 206) (pn i) (by omega) (by omega)]
          refine ⟨fun hs => ⟨_, lr_195_22 l1, lk_205 l1, by rw [ln_205 l1]; exact pk_in (pn i) 60 (by omega), ?_⟩, fun hs => absurd hF.1 hs⟩
          (try rw [nI_cl (pn i) (by omega)])
          rw [ff (gB g + 205) (pn i) (by omega) (by omega)]
          exact ⟨fun hs1 => absurd hs1 hF.2.1, fun hs1 => ⟨fun hs2 => absurd hs2 hF.2.2, fun hs2 => hbk _ (by rw [nI_1])⟩⟩
