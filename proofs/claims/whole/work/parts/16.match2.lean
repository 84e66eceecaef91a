/-! PURE: what the law makes of an event -/
abbrev MS : Type := Nat × Int32 × Bool × Int32 × Int32 × Int32
def sH (s : MS) : Nat := s.1
def sW (s : MS) : Int32 := s.2.1
def sS (s : MS) : Bool := s.2.2.1
def sP (s : MS) : Int32 := s.2.2.2.1
def sQ (s : MS) : Int32 := s.2.2.2.2.1
def sV (s : MS) : Int32 := s.2.2.2.2.2
/-- question, kind, side, whether it is right -/
abbrev EvT : Type := Nat × Int32 × Int32 × Bool
def eQ (e : EvT) : Nat := e.1
def eK (e : EvT) : Int32 := e.2.1
def eS (e : EvT) : Int32 := e.2.2.1
def eR (e : EvT) : Bool := e.2.2.2
def whoT (L : LawT) (k : Nat) : Int32 := if k < lW L then (if lB L (rd L k) = true then 2 else nI (k % 2)) else 3
def gT (L : LawT) (k : Nat) (s : MS) : MS := (k, whoT L k, false, sP s, sQ s, sV s)
def s1T (L : LawT) (s : MS) (e : EvT) : MS := if sH s < eQ e then gT L (eQ e) s else s
def vdT (s : MS) (e : EvT) : Bool := decide (eQ e < sH s) || (decide (¬ eK e = 2) && (decide (¬ sW s = 2) && decide (¬ sW s = eS e)))
def ptT (L : LawT) (s : MS) (e : EvT) : Int32 := if eK e = 0 then (if eR e = true then (if sS s = true ∧ lB L (rd L (sH s)) = false then lP L (rd L (sH s)) else lg L (rd L (sH s))) else (if sS s = true ∧ lB L (rd L (sH s)) = false then 0 else -(lw L (rd L (sH s))))) else 0
def otT (L : LawT) (s : MS) (e : EvT) : Bool := decide (sS s = false ∧ eR e = false ∧ ¬ eK e = 2 ∧ (lB L (rd L (sH s)) = true ∨ ¬ lP L (rd L (sH s)) = -1))
def adT (s : MS) (e : EvT) (p : Int32) : MS := (sH s, sW s, sS s, (if eS e = 0 then sP s + p else sP s), (if eS e = 1 then sQ s + p else sQ s), sV s)
def nxT (L : LawT) (b : Bool) (s : MS) (e : EvT) : MS := if b = true then (sH s, 1 - eS e, true, sP s, sQ s, sV s) else gT L (sH s + 1) s
def apT (L : LawT) (s : MS) (e : EvT) : MS := if vdT s e = true then (sH s, sW s, sS s, sP s, sQ s, sV s + 1) else nxT L (otT L s e) (adT s e (ptT L s e)) e
def apE (L : LawT) (s : MS) (e : EvT) : MS := apT L (s1T L s e) e
def vdE (L : LawT) (s : MS) (e : EvT) : Bool := vdT (s1T L s e) e
def ptE (L : LawT) (s : MS) (e : EvT) : Int32 := if vdE L s e = true then 0 else ptT L (s1T L s e) e
def EvOK (L : LawT) (e : EvT) : Prop := eQ e < lW L ∧ ((eK e = 2 ∧ eS e = -1 ∧ eR e = false) ∨ ((eK e = 0 ∨ (eK e = 1 ∧ eR e = false)) ∧ (eS e = 0 ∨ eS e = 1)))
/-- the class's match -/
def MC (g : Gh) (M : Mem) (r : Nat) (L : LawT) : Prop := Lay g M ∧ mR M (gB g + 67) 1 = some (gB g + (r)) ∧ LC g M r L
def CM (g : Gh) (M : Mem) (s : MS) : Prop := mI M (gB g + 67) 5 = nI (sH s) ∧ mI M (gB g + 67) 6 = sW s ∧ mI M (gB g + 67) 7 = bI (sS s) ∧ mI M (gB g + 189) 0 = sP s ∧ mI M (gB g + 189) 1 = sQ s ∧ mI M (gB g + 67) 4 = sV s
def CE (g : Gh) (M : Mem) (j : Nat) (e : EvT) : Prop := mI M (gB g + (69 + j)) 0 = nI (eQ e) ∧ mI M (gB g + (69 + j)) 1 = eK e ∧ mI M (gB g + (69 + j)) 2 = eS e ∧ mI M (gB g + (69 + j)) 3 = bI (eR e)
def PXe (g : Gh) (j : Nat) : Nat → Nat → Prop := fun a k => (a = (gB g + 67) ∧ 4 ≤ k ∧ k ≤ 7) ∨ a = (gB g + 189) ∨ (a = (gB g + (69 + j)) ∧ (k = 4 ∨ k = 5))
theorem LC.fr {g : Gh} {M M' : Mem} {r : Nat} {L : LawT} {P Q : Nat → Nat → Prop} (h : LC g M r L) (f : Fr P Q M M') (hp : ∀ a k, P a k → a < (gB g + 49) ∨ (gB g + 60) < a) : LC g M' r L := by
  have e : ∀ i k, r ≤ i → i ≤ r + 5 → mI M' (gB g + (i)) k = mI M (gB g + (i)) k := fun i k h1 h2 => f.1 _ _ (fun hh => by have := hp _ _ hh; have := h.1; omega)
  refine ⟨h.1, h.2.1, ?_, ?_, fun k hk => ?_⟩
  · rw [e r 0 (by omega) (by omega)]; exact h.2.2.1
  · rw [e r 1 (by omega) (by omega)]; exact h.2.2.2.1
  · rw [e (r + 1) k (by omega) (by omega), e (r + 2) k (by omega) (by omega), e (r + 3) k (by omega) (by omega), e (r + 4) k (by omega) (by omega), e (r + 5) k (by omega) (by omega)]
    exact h.2.2.2.2 k hk
theorem MC.fr {g : Gh} {M M' : Mem} {r : Nat} {L : LawT} {P Q : Nat → Nat → Prop} (h : MC g M r L) (f : Fr P Q M M') (hp : ∀ a k, P a k → a < (gB g + 49) ∨ (gB g + 60) < a) : MC g M' r L := ⟨f.lay h.1, by rw [f.R]; exact h.2.1, h.2.2.fr f hp⟩
theorem MC.u {g : Gh} {M : Mem} {r : Nat} {L : LawT} (h : MC g M r L) {i k : Nat} {v : Int32} (hi : 60 < i) : MC g (uI M (gB g + (i)) k v) r L :=
  h.fr (P := fun a _ => a = (gB g + (i))) (Q := nQ) (Fr.rf.uI rfl) (fun a k hh => by omega)
theorem sp_X6_isOver {g : Gh} {M : Mem} {r : Nat} {L : LawT} (h : MC g M r L) {k : Nat} (h5 : mI M (gB g + 67) 5 = nI k) (hk : k < 1000) {post : Int32 → Mem → Prop} (hq : post (if k < lW L then 0 else 1) M) : wp_X6_isOver g M (gB g + 67) post := by
  have hW := h.2.2.2.1.W
  refine ⟨lk_67 h.1, _, h.2.1, (lk_law h.1 h.2.2.1).1, ?_⟩
  rw [h5, h.2.2.2.2.2.1]
  refine pk_lt k (lW L) (fun hc => ?_) (fun hc => ?_)
  · rw [if_pos hc] at hq; exact hq
  · rw [if_neg (by omega)] at hq; exact hq
theorem sp_X6_isBuzz {g : Gh} {M : Mem} {r : Nat} {L : LawT} (h : MC g M r L) {k : Nat} (h5 : mI M (gB g + 67) 5 = nI k) (hk : k < lW L) {post : Int32 → Mem → Prop} (hq : post (bI (lB L (rd L k))) M) : wp_X6_isBuzz g M (gB g + 67) post := by
  have hb := lk_law h.1 h.2.2.1
  have hn := ln_law h.1 h.2.2.1
  have hr := rd_is h.2.2.2.1 hk
  have h6 := rd_6 h.2.2.2.1 hk
  refine ⟨lk_67 h.1, _, h.2.1, ?_⟩
  rw [h5]
  refine sp_X4_roundOf h.1 h.2.2 hk ⟨fun hc => absurd hc (nI_pos (by omega)), fun _ => ?_⟩
  refine pk_le 6 (rd L k) (fun hc => by omega) (fun _ => ⟨_, h.2.1, hb.1, _, hb.2.2.1, hn.2.1.1, ?_, ?_⟩)
  · rw [hn.2.1.2]; exact pk_in (rd L k) 6 h6
  · rw [pk_cl (rd L k), (h.2.2.2.2.2.2 _ hr.1).2.1]
    revert hq
    cases lB L (rd L k) with
    | true => exact fun hq => ⟨fun hc => absurd hc (by decide), fun _ => hq⟩
    | false => exact fun hq => ⟨fun _ => hq, fun hc => absurd rfl hc⟩
theorem sp_X6_hasPass {g : Gh} {M : Mem} {r : Nat} {L : LawT} (h : MC g M r L) {k : Nat} (h5 : mI M (gB g + 67) 5 = nI k) (hk : k < lW L) {post : Int32 → Mem → Prop} (hq : post (if lP L (rd L k) = -1 then 0 else 1) M) : wp_X6_hasPass g M (gB g + 67) post := by
  have hb := lk_law h.1 h.2.2.1
  have hn := ln_law h.1 h.2.2.1
  have hr := rd_is h.2.2.2.1 hk
  have h6 := rd_6 h.2.2.2.1 hk
  refine ⟨lk_67 h.1, _, h.2.1, ?_⟩
  rw [h5]
  refine sp_X4_roundOf h.1 h.2.2 hk ⟨fun hc => absurd hc (nI_pos (by omega)), fun _ => ?_⟩
  refine pk_le 6 (rd L k) (fun hc => by omega) (fun _ => ⟨_, h.2.1, hb.1, _, hb.2.2.2.2.1, hn.2.2.2.1.1, ?_, ?_⟩)
  · rw [hn.2.2.2.1.2]; exact pk_in (rd L k) 6 h6
  · rw [pk_cl (rd L k), (h.2.2.2.2.2.2 _ hr.1).2.2.2.1]
    refine ⟨fun hc => ?_, fun hc => ?_⟩
    · rw [if_pos hc] at hq; exact hq
    · rw [if_neg hc] at hq; exact hq
theorem r2 {k : Nat} (hk : k < 2 ^ 31) : nI k - nI k / 2 * 2 = nI (k % 2) := pk_rem (d := 2) hk (by decide) (by decide)
theorem sp_X6_goTo {g : Gh} {M : Mem} {r : Nat} {L : LawT} (h : MC g M r L) {k : Nat} (hk : k < 1000) {post : Mem → Prop} (hq : post (uI (uI (uI M (gB g + 67) 5 (nI k)) (gB g + 67) 7 0) (gB g + 67) 6 (whoT L k))) : wp_X6_goTo g M (gB g + 67) (nI k) post := by
  refine ⟨lk_67 h.1, ?_⟩
  rintro M1 rfl M3 rfl
  have h3 : MC g (uI (uI M (gB g + 67) 5 (nI k)) (gB g + 67) 7 0) r L := (h.u (by decide)).u (by decide)
  have e5 : mI (uI (uI M (gB g + 67) 5 (nI k)) (gB g + 67) 7 0) (gB g + 67) 5 = nI k := by simp [s_II]
  refine sp_X6_isOver h3 e5 hk ?_
  unfold whoT at hq
  by_cases hc : k < lW L
  · rw [if_pos hc] at hq ⊢
    refine ⟨fun _ => sp_X6_isBuzz h3 e5 hc ?_, fun hh => absurd rfl hh⟩
    by_cases hb : lB L (rd L k) = true
    · rw [if_pos hb] at hq
      rw [hb]
      exact ⟨fun hh => absurd hh (by decide), fun _ M13 e => by rw [e]; exact hq⟩
    · rw [if_neg hb] at hq
      rw [Bool.not_eq_true] at hb
      rw [hb]
      exact ⟨fun _ M11 e => by rw [e, r2 (by omega)]; exact hq, fun hh => absurd rfl hh⟩
  · rw [if_neg hc] at hq ⊢
    exact ⟨fun hh => absurd hh (by decide), fun _ M15 e => by rw [e]; exact hq⟩
theorem sp_X6_isFor {g : Gh} {M : Mem} (h : Lay g M) {w : Int32} (h6 : mI M (gB g + 67) 6 = w) {p : Int32} {post : Int32 → Mem → Prop} (hq : post (if w = 2 ∨ w = p then 1 else 0) M) : wp_X6_isFor g M (gB g + 67) p post := by
  refine ⟨lk_67 h, ?_⟩
  rw [h6]
  refine ⟨fun hc => ?_, fun hc => ⟨fun hc2 => ?_, fun hc2 => ?_⟩⟩
  · rw [if_pos (Or.inl hc)] at hq; exact hq
  · rw [if_pos (Or.inr hc2)] at hq; exact hq
  · rw [if_neg (by simp [hc, hc2])] at hq; exact hq
theorem sp_X6_goesToOther {g : Gh} {M : Mem} {r : Nat} {L : LawT} (h : MC g M r L) {s : MS} {e : EvT} {j : Nat} (hj : j < 120) (hs : CM g M s) (he : CE g M j e) (hh : sH s < lW L) {post : Int32 → Mem → Prop} (hq : post (bI (otT L s e)) M) : wp_X6_goesToOther g M (gB g + 67) (gB g + (69 + j)) post := by
  have k27 : otT L s e = false → lb_X6_goesToOther_27 g M (gB g + 67) (gB g + (69 + j)) post 0 M := fun hf => ⟨fun _ => by rw [hf] at hq; exact hq, fun hx => absurd rfl hx⟩
  refine ⟨lk_67 h.1, ?_⟩
  rw [hs.2.2.1]
  by_cases h1 : sS s = true
  · rw [h1]
    exact ⟨fun hx => absurd hx (by decide), fun _ => k27 (by simp [otT, h1])⟩
  rw [Bool.not_eq_true] at h1
  rw [h1]
  refine ⟨fun _ => ⟨lk_ev h.1 hj, ?_⟩, fun hx => absurd rfl hx⟩
  rw [he.2.2.2, he.2.1]
  by_cases h2 : eR e = true
  · rw [h2]
    exact ⟨fun hx => absurd hx (by decide), fun _ => k27 (by simp [otT, h2])⟩
  rw [Bool.not_eq_true] at h2
  rw [h2]
  refine ⟨fun _ => ⟨fun h3 => k27 (by simp [otT, h3]), fun h3 => ⟨fun hx => absurd hx (by decide), fun _ => ?_⟩⟩, fun hx => absurd rfl hx⟩
  refine sp_X6_isBuzz h hs.1 hh ?_
  by_cases h4 : lB L (rd L (sH s)) = true
  · rw [h4]
    refine ⟨fun hx => absurd hx (by decide), fun _ => ?_⟩
    have : otT L s e = true := by simp [otT, h1, h2, h3, h4]
    rw [this] at hq; exact hq
  · rw [Bool.not_eq_true] at h4
    rw [h4]
    refine ⟨fun _ => sp_X6_hasPass h hs.1 hh ?_, fun hx => absurd rfl hx⟩
    by_cases h5 : lP L (rd L (sH s)) = -1
    · rw [if_pos h5]
      have : otT L s e = false := by simp [otT, h4, h5]
      rw [this] at hq; exact ⟨fun _ => hq, fun hx => absurd rfl hx⟩
    · rw [if_neg h5]
      have : otT L s e = true := by simp [otT, h1, h2, h3, h5]
      rw [this] at hq; exact ⟨fun hx => absurd hx (by decide), fun _ => hq⟩
theorem sp_X6_worthOf {g : Gh} {M : Mem} {r : Nat} {L : LawT} (h : MC g M r L) {s : MS} {e : EvT} {j : Nat} (hj : j < 120) (hs : CM g M s) (he : CE g M j e) (hh : sH s < lW L) {post : Int32 → Mem → Prop} (hq : post (ptT L s e) M) : wp_X6_worthOf g M (gB g + 67) (gB g + (69 + j)) post := by
  have hb := lk_law h.1 h.2.2.1
  have hn := ln_law h.1 h.2.2.1
  have hr := rd_is h.2.2.2.1 hh
  have h6 := rd_6 h.2.2.2.1 hh
  have hx := h.2.2.2.2.2.2 _ hr.1
  refine ⟨lk_67 h.1, _, h.2.1, ?_⟩
  rw [hs.1]
  refine sp_X4_roundOf h.1 h.2.2 hh ⟨lk_ev h.1 hj, ?_⟩
  rw [he.2.1]
  refine ⟨fun h1 => ⟨fun hc => absurd hc (nI_pos (by omega)), fun _ => pk_lt (rd L (sH s)) 6 (fun _ => ?_) (fun hc => by omega)⟩, fun h1 => ?_⟩
  · have k50 : ∀ b : Bool, b = decide (sS s = true ∧ lB L (rd L (sH s)) = false) → lb_X6_worthOf_50 g M (gB g + 67) (gB g + (69 + j)) post (nI (rd L (sH s))) (bI b) M := by
      intro b hb2
      refine ⟨lk_ev h.1 hj, ?_⟩
      rw [he.2.2.2]
      cases b with
      | false =>
        have hb3 : ¬ (sS s = true ∧ lB L (rd L (sH s)) = false) := of_decide_eq_false hb2.symm
        cases h3 : eR e with
        | false =>
          refine ⟨fun _ => ⟨fun _ => ⟨_, h.2.1, hb.1, _, hb.2.2.2.2.2, hn.2.2.2.2.1, ?_, ?_⟩, fun hy => absurd rfl hy⟩, fun hy => absurd rfl hy⟩
          · rw [hn.2.2.2.2.2]; exact pk_in (rd L (sH s)) 6 h6
          · rw [pk_cl (rd L (sH s)), hx.2.2.2.2]
            unfold ptT at hq; rw [if_pos h1, h3, if_neg (by decide), if_neg hb3] at hq; exact hq
        | true =>
          refine ⟨fun hy => absurd hy (by decide), fun _ => ⟨fun _ => ⟨_, h.2.1, hb.1, _, hb.2.2.2.1, hn.2.2.1.1, ?_, ?_⟩, fun hy => absurd rfl hy⟩⟩
          · rw [hn.2.2.1.2]; exact pk_in (rd L (sH s)) 6 h6
          · rw [pk_cl (rd L (sH s)), hx.2.2.1]
            unfold ptT at hq; rw [if_pos h1, h3, if_pos rfl, if_neg hb3] at hq; exact hq
      | true =>
        have hb3 : sS s = true ∧ lB L (rd L (sH s)) = false := of_decide_eq_true hb2.symm
        cases h3 : eR e with
        | false =>
          refine ⟨fun _ => ⟨fun hy => absurd hy (by decide), fun _ => ?_⟩, fun hy => absurd rfl hy⟩
          unfold ptT at hq; rw [if_pos h1, h3, if_neg (by decide), if_pos hb3] at hq; exact hq
        | true =>
          refine ⟨fun hy => absurd hy (by decide), fun _ => ⟨fun hy => absurd hy (by decide), fun _ => ⟨_, h.2.1, hb.1, _, hb.2.2.2.2.1, hn.2.2.2.1.1, ?_, ?_⟩⟩⟩
          · rw [hn.2.2.2.1.2]; exact pk_in (rd L (sH s)) 6 h6
          · rw [pk_cl (rd L (sH s)), hx.2.2.2.1]
            unfold ptT at hq; rw [if_pos h1, h3, if_pos rfl, if_pos hb3] at hq; exact hq
    rw [hs.2.2.1]
    cases h2 : sS s with
    | false => exact ⟨fun _ => k50 false (by simp [h2]), fun hy => absurd rfl hy⟩
    | true =>
      refine ⟨fun hy => absurd hy (by decide), fun _ => sp_X6_isBuzz h hs.1 hh ?_⟩
      cases h3 : lB L (rd L (sH s)) with
      | false => exact ⟨fun _ => k50 true (by simp [h2, h3]), fun hy => absurd rfl hy⟩
      | true => exact ⟨fun hy => absurd hy (by decide), fun _ => k50 false (by simp [h3])⟩
  · unfold ptT at hq; rw [if_neg h1] at hq; exact hq
