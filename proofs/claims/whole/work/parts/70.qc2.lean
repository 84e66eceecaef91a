/-! PURE: the class reads a form: states -/
def PQc (g : Gh) : Nat → Nat → Prop := fun a k => (a = (gB g + 1) ∧ 2 ≤ k ∧ k ≤ 5) ∨ (a = (gB g + 3) ∧ (k = 3 ∨ (6 ≤ k ∧ k ≤ 9))) ∨ a = (gB g + 4) ∨ a = (gB g + 7) ∨ a = (gB g + 8)
def QQc (g : Gh) : Nat → Nat → Prop := fun a k => (a = (gB g + 1) ∧ k = 4) ∨ a = (gB g + 5) ∨ a = (gB g + 6)
/-- the reader's cells: depth, state, the open brackets with their counts -/
def StC (g : Gh) (M : Mem) (e st : Nat) (ES CS : Nat → Nat) : Prop := e ≤ 6 ∧ mI M (gB g + 3) 6 = nI e ∧ mI M (gB g + 3) 7 = nI st ∧ ∀ i, i < e → mI M (gB g + 7) i = nI (ES i) ∧ mI M (gB g + 8) i = nI (CS i) ∧ ES i < 256 ∧ CS i ≤ 5
theorem StC.fr {g : Gh} {M M' : Mem} {e st : Nat} {ES CS : Nat → Nat} {P Q : Nat → Nat → Prop} (h : StC g M e st ES CS) (f : Fr P Q M M') (hp : ∀ a k, P a k → ¬ (a = (gB g + 3) ∧ 6 ≤ k ∧ k ≤ 7) ∧ ¬ a = (gB g + 7) ∧ ¬ a = (gB g + 8)) : StC g M' e st ES CS := by
  refine ⟨h.1, ?_, ?_, fun i hi => ⟨?_, ?_, (h.2.2.2 i hi).2.2⟩⟩
  · rw [f.1 _ _ (fun hh => by have := hp _ _ hh; omega)]; exact h.2.1
  · rw [f.1 _ _ (fun hh => by have := hp _ _ hh; omega)]; exact h.2.2.1
  · rw [f.1 _ _ (fun hh => by have := hp _ _ hh; omega)]; exact (h.2.2.2 i hi).1
  · rw [f.1 _ _ (fun hh => by have := hp _ _ hh; omega)]; exact (h.2.2.2 i hi).2.1
/-- about to read the token T, behind q tokens -/
def QS (g : Gh) (M0 M : Mem) (n : Nat) (bs : Nat → Nat) (q : Nat) (T : Tk) (e st : Nat) (L : List Itm) (ES CS : Nat → Nat) : Prop := Fr (PQc g) (QQc g) M0 M ∧ Lay g M ∧ TP g M (gB g + 1) (gB g + 2) n bs ∧ (∃ p, p ≤ n ∧ T = tk sgF bs n p ∧ mI M (gB g + 1) 5 = nI p) ∧ (q ≤ T.2.1 ∧ q ≤ 200 ∧ L.length ≤ q) ∧ ItC g M L ∧ StC g M e st ES CS
/-- the token is read -/
def QT (g : Gh) (M0 M : Mem) (n : Nat) (bs : Nat → Nat) (q : Nat) (T : Tk) (e st : Nat) (L : List Itm) (ES CS : Nat → Nat) : Prop := Fr (PQc g) (QQc g) M0 M ∧ Lay g M ∧ TP g M (gB g + 1) (gB g + 2) n bs ∧ IsTk sgF bs n T ∧ CT g M T ∧ (q ≤ T.2.1 ∧ q ≤ 200 ∧ L.length ≤ q) ∧ ItC g M L ∧ StC g M e st ES CS
/-- what is done with a token's fault -/
def SPc (g : Gh) (Mz : Mem) (post : Mem → Prop) (bk : Int32 × Mem → Prop) (q : Nat) (v : Int32) (M9 : Mem) : Prop := ∀ M10, M10 = uI M9 (gB g + 3) 8 v → ((((mI M10 (gB g + 3) 8) = 0) → (((mI M10 (gB g + 1) 2) = 0) → post M10) ∧ (¬ ((mI M10 (gB g + 1) 2) = 0) → bk ((nI q + 1), M10))) ∧ (¬ ((mI M10 (gB g + 3) 8) = 0) → lb_X2_readFrom_67 g Mz (gB g + 3) (gB g + 1) post M10))
def FFc (g : Gh) (Mz : Mem) (post : Mem → Prop) : (Int32 × Mem → Prop) → Int32 × Mem → Prop := fun bk z => bd_X2_readFrom_31 g Mz (gB g + 3) (gB g + 1) post bk z.1 z.2
def Wc (g : Gh) (Mz : Mem) (post : Mem → Prop) (q : Nat) (M : Mem) : Prop := lfp (FFc g Mz post) (202 - q) (nI q, M)
theorem qc_step {g : Gh} {Mz M0 M : Mem} {post : Mem → Prop} {n : Nat} {bs : Nat → Nat} {q : Nat} {T : Tk} {e st : Nat} {L : List Itm} {ES CS : Nat → Nat} (hz : Lay g Mz) (h : QS g M0 M n bs q T e st L ES CS) (hf : ∀ M6, QT g M0 M6 n bs q T e st L ES CS → wp_X2_faultOf g M6 (gB g + 3) (nI T.1) (vX T.1 T.2.2.1) (SPc g Mz post (fun z => Wc g Mz post (q + 1) z.2) q)) : Wc g Mz post q M := by
  obtain ⟨h0, h1, h2, ⟨p, p1, rfl, p3⟩, h4, h5, h6⟩ := h
  unfold Wc
  rw [show 202 - q = (202 - (q + 1)) + 1 by omega]
  show bd_X2_readFrom_31 g Mz (gB g + 3) (gB g + 1) post (lfp (FFc g Mz post) (202 - (q + 1))) (nI q) M
  unfold bd_X2_readFrom_31
  refine ⟨fun hx => ?_, fun _ => sp_nextC h2 (Or.inl ⟨rfl, rfl⟩) p3 p1 (fun M6 f6 t6 c6 => ⟨lk_1 hz, ?_⟩)⟩
  · exact absurd hx (Int32.not_lt.mpr (show nI q ≤ nI 200 from nI_le (by omega) (by omega)))
  · rw [c6.1, c6.2.2.1]
    have := hf M6 ⟨h0.tr (f6.mono (fun a k hh => by unfold PTc at hh; unfold PQc; omega) (fun a k hh => by unfold QTc at hh; unfold QQc; omega)), f6.lay h1, t6, ⟨p, p1, rfl⟩, c6, h4, h5.fr f6 (fun a k hh => by unfold PTc at hh; omega) (fun a k hh => by unfold QTc at hh; omega), h6.fr f6 (fun a k hh => by unfold PTc at hh; omega)⟩
    have eb : SPc g Mz post (fun z => Wc g Mz post (q + 1) z.2) q = SPc g Mz post (lfp (FFc g Mz post) (202 - (q + 1))) q := by
      funext v M9
      unfold SPc Wc
      rw [nI_1]
    rw [eb] at this
    exact this
/-- no fault: the next token -/
theorem SPc_next {g : Gh} {Mz M0 M9 : Mem} {post : Mem → Prop} {n : Nat} {bs : Nat → Nat} {q : Nat} {T : Tk} {e st : Nat} {L : List Itm} {ES CS : Nat → Nat} (hF : Fr (PQc g) (QQc g) M0 M9) (h1 : Lay g M9) (h2 : TP g M9 (gB g + 1) (gB g + 2) n bs) (hT : IsTk sgF bs n T) (hC : CT g M9 T) (h0 : T.1 ≠ 0) (h3 : T.1 ≠ 3) (hq : q ≤ T.2.1) (hL : L.length ≤ q + 1) (hI : ItC g M9 L) (hS : StC g M9 e st ES CS) (hk : ∀ M', QS g M0 M' n bs (q + 1) (nxF bs n T) e st L ES CS → Wc g Mz post (q + 1) M') : SPc g Mz post (fun z => Wc g Mz post (q + 1) z.2) q 0 M9 := by
  have h256 := (tc_lt h2.2.2.2.2.2.2.2 hT)
  have h200 := tk_200 hT h0 h3
  have ax := adv_nx hT
  have hst := ax.st hT h0 h3
  rintro M10 rfl
  have f : Fr (fun a k => a = (gB g + 3) ∧ k = 8) nQ M9 (uI M9 (gB g + 3) 8 0) := Fr.rf.uI ⟨rfl, rfl⟩
  refine ⟨fun _ => ⟨fun hx => ?_, fun _ => hk _ ⟨hF.tr (f.mono (fun a k hh => by unfold PQc; omega) (fun a k hh => (hh : False).elim)), f.lay h1, h2.fr f (fun a k hh => by omega), ⟨T.2.2.2, h256.2.2, rfl, ?_⟩, ⟨by omega, by omega, hL⟩, hI.fr f (fun a k hh => by omega) (fun a k hh => (hh : False).elim), hS.fr f (fun a k hh => by omega)⟩⟩, fun hx => absurd (by rw [s_II, if_pos rfl, if_pos rfl]) hx⟩
  · rw [f.1 _ _ (by omega), hC.1] at hx
    exact absurd ((nI_eq (by omega) (by omega)).mp (show nI T.1 = nI 0 from hx)) h0
  · rw [f.1 _ _ (by omega)]; exact hC.2.2.2
/-- no fault, at the end -/
theorem SPc_end {g : Gh} {Mz M9 : Mem} {post : Mem → Prop} {bk : Int32 × Mem → Prop} {q : Nat} {T : Tk} (hC : CT g M9 T) (h0 : T.1 = 0) (hk : ∀ M', Fr (fun a k => a = (gB g + 3) ∧ k = 8) nQ M9 M' → mI M' (gB g + 3) 8 = 0 → post M') : SPc g Mz post bk q 0 M9 := by
  rintro M10 rfl
  have f : Fr (fun a k => a = (gB g + 3) ∧ k = 8) nQ M9 (uI M9 (gB g + 3) 8 0) := Fr.rf.uI ⟨rfl, rfl⟩
  have e8 : mI (uI M9 (gB g + 3) 8 0) (gB g + 3) 8 = 0 := by rw [s_II, if_pos rfl, if_pos rfl]
  refine ⟨fun _ => ⟨fun _ => hk _ f e8, fun hx => absurd ?_ hx⟩, fun hx => absurd e8 hx⟩
  rw [f.1 _ _ (by omega), hC.1, h0]; rfl
/-- a fault -/
theorem SPc_bad {g : Gh} {Mz M9 : Mem} {post : Mem → Prop} {bk : Int32 × Mem → Prop} {q : Nat} {T : Tk} (hz : Lay g Mz) (hC : CT g M9 T) {k : Nat} (hk0 : 1 ≤ k) (hk3 : k ≤ 3) (hk : ∀ M', Fr (fun a j => a = (gB g + 3) ∧ (j = 8 ∨ j = 9)) nQ M9 M' → mI M' (gB g + 3) 8 = nI k → mI M' (gB g + 3) 9 = nI T.2.1 → post M') : SPc g Mz post bk q (nI k) M9 := by
  rintro M10 rfl
  have e8 : mI (uI M9 (gB g + 3) 8 (nI k)) (gB g + 3) 8 = nI k := by rw [s_II, if_pos rfl, if_pos rfl]
  refine ⟨fun hx => ?_, fun _ => ⟨lk_1 hz, ?_⟩⟩
  · rw [e8] at hx
    have := (nI_eq (by omega) (by omega)).mp (show nI k = nI 0 from hx)
    omega
  · rintro M2 rfl
    have f : Fr (fun a j => a = (gB g + 3) ∧ (j = 8 ∨ j = 9)) nQ M9 (uI (uI M9 (gB g + 3) 8 (nI k)) (gB g + 3) 9 (mI (uI M9 (gB g + 3) 8 (nI k)) (gB g + 1) 3)) := (Fr.rf.uI ⟨rfl, Or.inl rfl⟩).uI ⟨rfl, Or.inr rfl⟩
    refine hk _ f ?_ ?_
    · rw [s_II, if_pos rfl, if_neg (by decide)]; exact e8
    · rw [s_II, if_pos rfl, if_pos rfl, s_II, if_neg (by omega)]; exact hC.2.1
