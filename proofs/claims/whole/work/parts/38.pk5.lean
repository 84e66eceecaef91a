/-! PURE: pack -/
def exc : Int32 ⊕ String → Int32
  | .inl _ => 0
  | .inr E => if E = "java/lang/IllegalStateException" then 2 else 1
def pkBad (p1 p2 p3 p4 p5 p6 : Int32) : Prop := ¬ (∃ t, t < 12 ∧ p1 = nI t) ∨ ¬ (∃ t, t < 12 ∧ p2 = nI t) ∨ p1 = p2 ∨ p3 < 1 ∨ 48 < p3 ∨ p5 < p4 ∨ p6 < 1 ∨ ¬ p6 ≤ 100000
theorem not_team {p : Int32} (h : p < 0 ∨ 12 ≤ p) : ¬ ∃ t, t < 12 ∧ p = nI t := by
  rintro ⟨t, ht, rfl⟩; exact nI_out ht (by decide) h
theorem sp_pkGateM {g : Gh} {M : Mem} {W : Nat} {on : Bool} (h1 : Lay g M) (hW : W ≤ 48) (e40 : mI M (gB g + 195) 40 = nI W) (e48 : mI M (gB g + 195) 48 = bI on) (p1 p2 p3 p4 p5 p6 : Int32) {Y : Int32 → Mem → Prop} (hbad : pkBad p1 p2 p3 p4 p5 p6 → Y 0 (uI M (gB g + 195) 0 1)) (hst : (W = 0 ∨ on = true) → ¬ pkBad p1 p2 p3 p4 p5 p6 → Y 0 (uI M (gB g + 195) 0 2)) (hgo : ¬ pkBad p1 p2 p3 p4 p5 p6 → W ≠ 0 → on = false → lb_X12_pack_75 g M (gB g + 195) p1 p2 p3 p4 p5 p6 Y (gB g + 195) 0 M) : wp_X12_pack g M (gB g + 195) p1 p2 p3 p4 p5 p6 Y := by
  have b75 : pkBad p1 p2 p3 p4 p5 p6 → lb_X12_pack_75 g M (gB g + 195) p1 p2 p3 p4 p5 p6 Y (gB g + 195) 1 M := by
    intro hb
    refine ⟨lk_195 h1, ?_⟩
    rintro M72 rfl
    rw [show mI (uI M (gB g + 195) 0 1) (gB g + 195) 0 = 1 by rw [s_II, if_pos rfl, if_pos rfl]]
    exact ⟨fun hx => absurd hx (by decide), fun _ => hbad hb⟩
  have s75 : (W = 0 ∨ on = true) → ¬ pkBad p1 p2 p3 p4 p5 p6 → lb_X12_pack_75 g M (gB g + 195) p1 p2 p3 p4 p5 p6 Y (gB g + 195) 2 M := by
    intro hb hnb
    refine ⟨lk_195 h1, ?_⟩
    rintro M72 rfl
    rw [show mI (uI M (gB g + 195) 0 2) (gB g + 195) 0 = 2 by rw [s_II, if_pos rfl, if_pos rfl]]
    exact ⟨fun hx => absurd hx (by decide), fun _ => hst hb hnb⟩
  refine ⟨lk_195 h1, sp_teamM p1 (fun hx => ⟨fun _ => b75 (Or.inl (not_team hx)), fun hy => absurd rfl hy⟩) (fun ta hta ea => ⟨fun hy => absurd hy (by decide), fun _ => ?_⟩)⟩
  refine sp_teamM p2 (fun hx => ⟨fun _ => b75 (Or.inr (Or.inl (not_team hx))), fun hy => absurd rfl hy⟩) (fun tb htb eb => ⟨fun hy => absurd hy (by decide), fun _ => ?_⟩)
  refine ⟨fun c1 => b75 (Or.inr (Or.inr (Or.inl c1))), fun c1 => ⟨fun c2 => b75 (Or.inr (Or.inr (Or.inr (Or.inl c2)))), fun c2 => ⟨fun c3 => b75 (Or.inr (Or.inr (Or.inr (Or.inr (Or.inl c3))))), fun c3 => ⟨fun c4 => b75 (Or.inr (Or.inr (Or.inr (Or.inr (Or.inr (Or.inl c4)))))), fun c4 => ⟨fun c5 => b75 (Or.inr (Or.inr (Or.inr (Or.inr (Or.inr (Or.inr (Or.inl c5))))))), fun c5 => ⟨fun c6 => ?_, fun c6 => b75 (Or.inr (Or.inr (Or.inr (Or.inr (Or.inr (Or.inr (Or.inr c6)))))))⟩⟩⟩⟩⟩⟩
  have hnb : ¬ pkBad p1 p2 p3 p4 p5 p6 := by
    rintro (h | h | h | h | h | h | h | h)
    · exact h ⟨ta, hta, ea⟩
    · exact h ⟨tb, htb, eb⟩
    · exact c1 h
    · exact c2 h
    · exact c3 h
    · exact c4 h
    · exact c5 h
    · exact h c6
  rw [e40, e48]
  refine pk_eq W 0 (fun hx => s75 (Or.inl hx) hnb) (fun hx => ?_)
  cases on with
  | false => exact ⟨fun _ => hgo hnb hx rfl, fun hy => absurd rfl hy⟩
  | true => exact ⟨fun hy => absurd hy (by decide), fun _ => s75 (Or.inr rfl) hnb⟩
theorem m_pack {g : Gh} {M : Mem} {c : Nat} (h : Inv g M c) (hcc : c ≤ 512) (p1 p2 p3 p4 p5 p6 : Int32) {Z : Int32 ⊕ String → Mem → Prop} (hz : ∀ res M1, (∀ E, res = .inr E → E = "java/lang/IllegalArgumentException" ∨ E = "java/lang/IllegalStateException") → (∀ M1', Fr nQ (fun a _ => a = (gB g + 233)) M1 M1' → ∀ Y : Int32 → Mem → Prop, (∀ b M2, Inv g M2 (c + 1) → mI M2 (gB g + 195) 0 = exc res → (∀ v, res = .inl v → b = v) → mJ M2 (gB g + 233) 0 = mJ M1' (gB g + 233) 0 → Y b M2) → wp_X12_pack g M1' (gB g + 195) p1 p2 p3 p4 p5 p6 Y) → Z res M1) : wp_X11_pack g M (gB g) p1 p2 p3 p4 p5 p6 Z := by
  obtain ⟨nq, qa, r, L, np, pn, on, h⟩ := h
  obtain ⟨h1, h2, h3, h4, h5, h6, h7, h8⟩ := id h
  have h60 := h4.1
  have hb := lk_law h1 h5.1.1
  have hW := h5.1.2.1.W
  -- what is thrown
  have j233 : ∀ a k, (fun a _ => a = (gB g + 233) : Nat → Nat → Prop) a k → TQ g nq a k := fun a k hh => by
    have hh : a = (gB g + 233) := hh
    unfold TQ; omega
  have bad : pkBad p1 p2 p3 p4 p5 p6 → ∀ T, mT M ≤ T → Z (.inr "java/lang/IllegalArgumentException") (pad M T) := by
    intro hbd T hT
    refine hz _ _ (fun E e => Or.inl (Sum.inr.inj e).symm) (fun M1' f Y hY => ?_)
    have i1 := (h.pad hT).fr f (fun a k hh => (hh : False).elim) j233
    refine sp_pkGateM i1.1 hW i1.2.2.2.2.1.2.1.2.2.1 i1.2.2.2.2.2.2.1.2.1 p1 p2 p3 p4 p5 p6 (fun _ => hY 0 _ (i1.z 1).up.ex ?_ (fun v hv => by cases hv) rfl) (fun _ hn => absurd hbd hn) (fun hn => absurd hbd hn)
    rw [s_II, if_pos rfl, if_pos rfl]; rfl
  have st : ¬ pkBad p1 p2 p3 p4 p5 p6 → (lW L = 0 ∨ on = true) → ∀ T, mT M ≤ T → Z (.inr "java/lang/IllegalStateException") (pad M T) := by
    intro hnb hs T hT
    refine hz _ _ (fun E e => Or.inr (Sum.inr.inj e).symm) (fun M1' f Y hY => ?_)
    have i1 := (h.pad hT).fr f (fun a k hh => (hh : False).elim) j233
    refine sp_pkGateM i1.1 hW i1.2.2.2.2.1.2.1.2.2.1 i1.2.2.2.2.2.2.1.2.1 p1 p2 p3 p4 p5 p6 (fun hbd => absurd hbd hnb) (fun _ _ => hY 0 _ (i1.z 2).up.ex ?_ (fun v hv => by cases hv) rfl) (fun _ hw ho => by rcases hs with hs | hs; exact absurd hs hw; rw [ho] at hs; cases hs)
    rw [s_II, if_pos rfl, if_pos rfl]; rfl
  refine ⟨lk_0 h1, sp_team p1 (fun hx => ⟨fun _ => bad (Or.inl (not_team hx)), fun hy => absurd rfl hy⟩) (fun ta hta ea => ⟨fun hy => absurd hy (by decide), fun _ => ?_⟩)⟩
  refine sp_team p2 (fun hx => ⟨fun _ => bad (Or.inr (Or.inl (not_team hx))), fun hy => absurd rfl hy⟩) (fun tb htb eb => ⟨fun hy => absurd hy (by decide), fun _ => ?_⟩)
  refine ⟨fun c1 => bad (Or.inr (Or.inr (Or.inl c1))), fun c1 => ⟨fun c2 => bad (Or.inr (Or.inr (Or.inr (Or.inl c2)))), fun c2 => ⟨fun c3 => bad (Or.inr (Or.inr (Or.inr (Or.inr (Or.inl c3))))), fun c3 => ⟨fun c4 => bad (Or.inr (Or.inr (Or.inr (Or.inr (Or.inr (Or.inl c4)))))), fun c4 => ⟨fun c5 => bad (Or.inr (Or.inr (Or.inr (Or.inr (Or.inr (Or.inr (Or.inl c5))))))), fun c5 => ⟨fun c6 => ⟨_, h5.2.2.1, hb.1, ?_⟩, fun c6 => bad (Or.inr (Or.inr (Or.inr (Or.inr (Or.inr (Or.inr (Or.inr c6)))))))⟩⟩⟩⟩⟩⟩
  have hnb : ¬ pkBad p1 p2 p3 p4 p5 p6 := by
    rintro (h | h | h | h | h | h | h | h)
    · exact h ⟨ta, hta, ea⟩
    · exact h ⟨tb, htb, eb⟩
    · exact c1 h
    · exact c2 h
    · exact c3 h
    · exact c4 h
    · exact c5 h
    · exact h c6
  rw [h5.1.2.2.2.1]
  refine pk_eq (lW L) 0 (fun hx => st hnb (Or.inl hx)) (fun hw0 => ⟨_, lr_0_9 h1, lk_67 h1, ?_⟩)
  rw [h7.1]
  cases on with
  | true => exact ⟨fun hy => absurd hy (by decide), fun _ => st hnb (Or.inr rfl)⟩
  | false =>
    refine ⟨fun _ => ⟨_, lr_0_8 h1, _, lr_0_3 h1, ?_⟩, fun hy => absurd rfl hy⟩
    subst ea eb
    rw [h4.2.1]
    -- numbers
    obtain ⟨K, hK1, hK⟩ := i5 (m := 100000) (by decide) (fun hx => c5 (Int32.lt_of_lt_of_le hx (by decide))) c6
    subst hK
    obtain ⟨nu, hnu⟩ := nu_ex (freB g M ta tb) nq
    have hth : ∀ q, ∃ t, q < nq → t < 8 ∧ mI M (gB g + 202) q = nI t := fun q => by
      by_cases hq : q < nq
      · obtain ⟨t, t1, t2, t3⟩ := (h4.2.2.2.1 q hq).2.2.2.2.1
        exact ⟨t, fun _ => ⟨t1, t3⟩⟩
      · exact ⟨0, fun hx => absurd hx hq⟩
    let th : Nat → Nat := fun q => Classical.choose (hth q)
    have th1 : ∀ q, q < nq → th q < 8 ∧ mI M (gB g + 202) q = nI (th q) := fun q hq => Classical.choose_spec (hth q) hq
    generalize th = th at th1
    let hd : Nat → Int32 := fun q => hdI (mI M (gB g + 203) q) (mI M (gB g + 204) q)
    have hd1 : ∀ q, hd q = hdI (mI M (gB g + 203) q) (mI M (gB g + 204) q) := fun q => rfl
    generalize hd = hd at hd1
    let A : PA := (ixN (freB g M ta tb) nq, fun i => th (nu i), fun i => hd (nu i), p3, lW L, p4, p5, K)
    have A1 : aF A = ixN (freB g M ta tb) nq := rfl
    have A2 : ∀ i, aT A i = th (nu i) := fun _ => rfl
    have A3 : ∀ i, aH A i = hd (nu i) := fun _ => rfl
    have A4 : aM A = p3 := rfl
    have A5 : aW A = lW L := rfl
    have A6 : aLo A = p4 := rfl
    have A7 : aHi A = p5 := rfl
    have A8 : aK A = K := rfl
    generalize A = A at A1 A2 A3 A4 A5 A6 A7 A8
    have hF : muP A s0P < aK A * 100 + 1 := by
      show (aK A - 0) * 100 + 0 < _
      omega
    have hix := ixN_le (freB g M ta tb) nq
    refine sp_gather hcc h1 h4 ta tb (fun M1 f1 e0 e1 e2 e7 ev => ⟨_, lr_0_8 (f1.lay h1), lk_61 (f1.lay h1), ?_⟩)
    rintro M2 rfl M3 rfl M5 rfl
    have fb : Fr (fun a k => a = (gB g + 61) ∧ 12 ≤ k) nQ M1 (uI (uI (uI M1 (gB g + 61) 12 p3) (gB g + 61) 13 p4) (gB g + 61) 14 p5) := ((Fr.rf.uI (by omega)).uI (by omega)).uI (by omega)
    have z12 : mI (uI (uI (uI M1 (gB g + 61) 12 p3) (gB g + 61) 13 p4) (gB g + 61) 14 p5) (gB g + 61) 12 = p3 ∧ mI (uI (uI (uI M1 (gB g + 61) 12 p3) (gB g + 61) 13 p4) (gB g + 61) 14 p5) (gB g + 61) 13 = p4 ∧ mI (uI (uI (uI M1 (gB g + 61) 12 p3) (gB g + 61) 13 p4) (gB g + 61) 14 p5) (gB g + 61) 14 = p5 := by
      refine ⟨?_, ?_, ?_⟩ <;> simp [s_II]
    generalize uI (uI (uI M1 (gB g + 61) 12 p3) (gB g + 61) 13 p4) (gB g + 61) 14 p5 = M4 at fb z12 ⊢
    have f4 : Fr (fun a k => (a = (gB g + 61) ∧ (k ≤ 2 ∨ k = 7 ∨ 12 ≤ k)) ∨ a = (gB g + 62) ∨ a = (gB g + 63) ∨ a = (gB g + 64)) nQ M M4 := (f1.mono (fun a k hh => by unfold PGa at hh; omega) (fun _ _ hh => hh)).tr (fb.mono (fun a k hh => by omega) (fun _ _ hh => hh))
    have l4 := f4.lay h1
    refine ⟨_, lr_0_8 l4, _, by rw [f4.R]; exact h5.2.2.1, hb.1, ?_⟩
    rw [f4.1 (gB g + (r)) 1 (fun hh => by have := h5.1.1; omega), h5.1.2.2.2.1, ← A5, ← A8]
    have sc : SC g M4 A := by
      refine ⟨l4, ⟨by omega, by omega, by omega, by omega⟩, ?_, by rw [A4]; exact z12.1, by rw [A6]; exact z12.2.1, by rw [A7]; exact z12.2.2, fun i hi => ?_⟩
      · rw [fb.1 _ _ (by omega), A1]; exact e7
      · have hi2 := hnu i (by rw [← A1]; exact hi)
        have := ev (nu i) hi2.1 hi2.2.1
        rw [hi2.2.2] at this
        rw [A2, A3, hd1]
        refine ⟨(th1 _ hi2.1).1, ?_, ?_⟩
        · rw [fb.1 _ _ (by omega), this.2.1]; exact (th1 _ hi2.1).2
        · rw [fb.1 _ _ (by omega)]; exact this.2.2
    refine sp_search sc hF (fun M6 f6 r6 o6 w6 c6' => ?_)
    generalize hR : run A (aK A * 100 + 1) s0P = R at r6 o6 w6 c6' ⊢
    have f46 : Fr (fun a k => (a = (gB g + 61) ∧ (k ≤ 3 ∨ k = 7 ∨ k = 9 ∨ k = 11 ∨ 12 ≤ k)) ∨ a = (gB g + 62) ∨ a = (gB g + 63) ∨ a = (gB g + 64) ∨ a = (gB g + 65) ∨ a = (gB g + 66)) nQ M (if R.1 = 0 then uI M6 (gB g + 61) 2 (nI (pN R.2)) else M6) := by
      have g6 : Fr (fun a k => (a = (gB g + 61) ∧ (k ≤ 3 ∨ k = 7 ∨ k = 9 ∨ k = 11 ∨ 12 ≤ k)) ∨ a = (gB g + 62) ∨ a = (gB g + 63) ∨ a = (gB g + 64) ∨ a = (gB g + 65) ∨ a = (gB g + 66)) nQ M M6 := (f4.mono (fun a k hh => by omega) (fun _ _ hh => hh)).tr (f6.mono (fun a k hh => by unfold PSr at hh; omega) (fun _ _ hh => hh))
      split
      · exact g6.uI (by omega)
      · exact g6
    have v6 : ∀ a k, ¬ (a = (gB g + 61) ∧ k = 2) → mI (if R.1 = 0 then uI M6 (gB g + 61) 2 (nI (pN R.2)) else M6) a k = mI M6 a k := by
      intro a k hak
      split
      · rw [s_II]; split
        · split
          · omega
          · rfl
        · rfl
      · rfl
    have v62 : mI (if R.1 = 0 then uI M6 (gB g + 61) 2 (nI (pN R.2)) else M6) (gB g + 61) 2 = if R.1 = 0 then nI (pN R.2) else 0 := by
      split
      · rw [s_II, if_pos rfl, if_pos rfl]
      · rw [f6.1 _ _ (by unfold PSr; omega), fb.1 _ _ (by omega)]; exact e2
    generalize (if R.1 = 0 then uI M6 (gB g + 61) 2 (nI (pN R.2)) else M6) = M7 at f46 v6 v62 ⊢
    refine hz _ _ (fun E e => by cases e) (fun M1' fJ Y hY => ?_)
    have fz : Fr (fun a k => (a = (gB g + 61) ∧ (k ≤ 3 ∨ k = 7 ∨ k = 9 ∨ k = 11 ∨ 12 ≤ k)) ∨ a = (gB g + 62) ∨ a = (gB g + 63) ∨ a = (gB g + 64) ∨ a = (gB g + 65) ∨ a = (gB g + 66)) (fun a _ => a = (gB g + 233)) M M1' := (f46.mono (fun a k hh => hh) (fun a k hh => (hh : False).elim)).tr (fJ.mono (fun a k hh => (hh : False).elim) (fun a k hh => hh))
    have eJ : ∀ a k, mI M1' a k = mI M7 a k := fun a k => fJ.1 a k (fun hh => hh)
    have l8 := fz.lay h1
    refine sp_pkGateM l8 hW (by rw [fz.1 _ _ (by omega)]; exact h5.2.1.2.2.1) (on := false) (by rw [fz.1 _ _ (by omega)]; exact h7.2.1) (nI ta) (nI tb) p3 p4 p5 (nI K) (fun hbd => absurd hbd hnb) (fun hs => by rcases hs with hs | hs; exact absurd hs hw0; cases hs) (fun _ _ _ => ⟨lk_195 l8, ?_⟩)
    rintro M72 rfl
    rw [show mI (uI M1' (gB g + 195) 0 0) (gB g + 195) 0 = 0 by rw [s_II, if_pos rfl, if_pos rfl]]
    refine ⟨fun _ => ?_, fun hx => absurd (by decide) hx⟩
    rintro M75 rfl M77 rfl
    have fk : Fr (fun a k => (a = (gB g + 61) ∧ (k ≤ 3 ∨ k = 7 ∨ k = 9 ∨ k = 11 ∨ 12 ≤ k)) ∨ a = (gB g + 62) ∨ a = (gB g + 63) ∨ a = (gB g + 64) ∨ a = (gB g + 65) ∨ a = (gB g + 66) ∨ (a = (gB g + 195) ∧ (k = 0 ∨ k = 44 ∨ k = 45)) ∨ a = (gB g + 222)) (fun a _ => a = (gB g + 233)) M (uI (uI (uI M1' (gB g + 195) 0 0) (gB g + 195) 44 0) (gB g + 195) 45 0) := (((fz.mono (fun a k hh => by omega) (fun _ _ hh => hh)).uI (by omega)).uI (by omega)).uI (by omega)
    have fk1 : Fr (fun a k => (a = (gB g + 195) ∧ (k = 0 ∨ k = 44 ∨ k = 45)) ∨ a = (gB g + 222)) nQ M1' (uI (uI (uI M1' (gB g + 195) 0 0) (gB g + 195) 44 0) (gB g + 195) 45 0) := ((Fr.rf.uI (by omega)).uI (by omega)).uI (by omega)
    have z45 : mI (uI (uI (uI M1' (gB g + 195) 0 0) (gB g + 195) 44 0) (gB g + 195) 45 0) (gB g + 195) 45 = 0 ∧ mI (uI (uI (uI M1' (gB g + 195) 0 0) (gB g + 195) 44 0) (gB g + 195) 45 0) (gB g + 195) 44 = 0 ∧ mI (uI (uI (uI M1' (gB g + 195) 0 0) (gB g + 195) 44 0) (gB g + 195) 45 0) (gB g + 195) 0 = 0 := by
      refine ⟨?_, ?_, ?_⟩ <;> simp [s_II]
    generalize uI (uI (uI M1' (gB g + 195) 0 0) (gB g + 195) 44 0) (gB g + 195) 45 0 = M8 at fk fk1 z45 ⊢
    refine lfp_up (fun i z => ∃ M', z = (nI i, M') ∧ Fr (fun a _ => a = (gB g + 222)) nQ M8 M' ∧ ∀ t, t < i → mI M' (gB g + 222) t = 0) 8 ?_ ?_ 0 _ (by omega) ⟨M8, rfl, Fr.rf, fun t ht => by omega⟩
    · rintro bk z ⟨M', rfl, f, e⟩
      refine pk_le 8 8 (fun _ => ?_) (fun hx => by omega)
      have fM : Fr (fun a k => (a = (gB g + 61) ∧ (k ≤ 3 ∨ k = 7 ∨ k = 9 ∨ k = 11 ∨ 12 ≤ k)) ∨ a = (gB g + 62) ∨ a = (gB g + 63) ∨ a = (gB g + 64) ∨ a = (gB g + 65) ∨ a = (gB g + 66) ∨ (a = (gB g + 195) ∧ (k = 0 ∨ k = 44 ∨ k = 45)) ∨ a = (gB g + 222)) (fun a _ => a = (gB g + 233)) M M' := fk.tr (f.mono (fun a k hh => by omega) (fun a k hh => (hh : False).elim))
      have f1M : Fr (fun a k => (a = (gB g + 195) ∧ (k = 0 ∨ k = 44 ∨ k = 45)) ∨ a = (gB g + 222)) nQ M1' M' := fk1.tr (f.mono (fun a k hh => by omega) (fun _ _ hh => hh))
      have ce : ∀ i q, 202 ≤ i → i ≤ 206 → mI M' (gB g + (i)) q = mI M (gB g + (i)) q := fun i q i1 i2 => fM.1 _ _ (by omega)
      have sm : SMk g M' nq (freB g M ta tb) nu th hd ta tb A := by
        refine ⟨fM.lay h1, h60, ⟨A1, by omega, by omega, by omega⟩, ?_, ?_, fun q hq => ?_, fun i hi => ⟨(hnu i hi).1, (hnu i hi).2.1, (hnu i hi).2.2, A2 i, A3 i⟩⟩
        · rw [fM.1 _ _ (by omega)]; exact h4.2.2.1
        · rw [fM.1 _ _ (by omega), A5]; exact h5.2.1.2.2.1
        · rw [ce 202 q (by decide) (by decide), ce 203 q (by decide) (by decide), ce 204 q (by decide) (by decide), hd1, freB_iff]
          refine ⟨(th1 q hq).1, (th1 q hq).2, rfl, ?_⟩
          unfold FRq
          rw [ce 205 q (by decide) (by decide), ce 206 q (by decide) (by decide)]
      have p345 : lb_X12_pack_121 g M1' (gB g + 195) (nI ta) (nI tb) (aM A) (aLo A) (aHi A) (nI K) Y M' := by
        refine sp_packM l8 sm (by rw [f.1 _ _ (by omega)]; exact z45.1) e hF (by rw [A8]) (fun M9 f9 a45 o9 n9 y9 => ?_)
        rw [hR] at a45 o9 n9 y9
        rw [hR]
        have i9 : Fr (fun a k => (a = (gB g + 61) ∧ (k ≤ 3 ∨ k = 7 ∨ k = 9 ∨ k = 11 ∨ 12 ≤ k)) ∨ a = (gB g + 62) ∨ a = (gB g + 63) ∨ a = (gB g + 64) ∨ a = (gB g + 65) ∨ a = (gB g + 66) ∨ (a = (gB g + 195) ∧ (k = 0 ∨ (44 ≤ k ∧ k ≤ 47))) ∨ ((gB g + 220) ≤ a ∧ a ≤ (gB g + 222))) (fun a _ => a = (gB g + 233)) M M9 := (fM.mono (fun a k hh => by omega) (fun _ _ hh => hh)).tr (f9.mono (fun a k hh => by unfold PMk at hh; omega) (fun a k hh => (hh : False).elim))
        have i7 : Fr (fun a k => (a = (gB g + 195) ∧ (k = 0 ∨ (44 ≤ k ∧ k ≤ 47))) ∨ ((gB g + 220) ≤ a ∧ a ≤ (gB g + 222))) nQ M1' M9 := (f1M.mono (fun a k hh => by omega) (fun _ _ hh => hh)).tr (f9.mono (fun a k hh => by unfold PMk at hh; omega) (fun _ _ hh => hh))
        have v9 : ∀ a k, ¬ ((a = (gB g + 195) ∧ (k = 0 ∨ (44 ≤ k ∧ k ≤ 47))) ∨ ((gB g + 220) ≤ a ∧ a ≤ (gB g + 222))) → ¬ (a = (gB g + 61) ∧ k = 2) → mI M9 a k = mI M6 a k := fun a k h1 h2 => by rw [i7.1 _ _ h1, eJ]; exact v6 a k h2
        have v92 : mI M9 (gB g + 61) 2 = if R.1 = 0 then nI (pN R.2) else 0 := by rw [i7.1 _ _ (by omega), eJ]; exact v62
        refine hY _ M9 ?_ ?_ (fun v hv => (Sum.inl.inj hv)) (i7.2.1 _ _ (fun hh => hh))
        · refine Iv.ex (nq := nq) (qa := qa) (r := r) (L := L) (np := if R.1 = 0 then lW L else 0) (pn := fun k => nu (pK R.2 k)) (on := false) (Iv.up ⟨i9.lay h1, h2.fr i9 (fun a k hh => by omega), h3.fr i9 (fun a k hh => by omega), h4.fr i9 (fun a k hh => by omega) (fun a k hh => by have hh : a = (gB g + 233) := hh; omega), h5.fr i9 (fun a k hh => by have := h5.1.1; omega), ⟨?_, ?_, ?_, ?_, fun h0 => ?_, fun k hk => ?_⟩, ⟨?_, ?_, fun _ => ?_, fun hx => absurd hx (by decide)⟩, h8.fr i9 (fun a k hh => by omega)⟩)
          · split <;> omega
          · rw [v92]
            split
            · next e0 => rw [w6 e0, A5]
            · rfl
          · split
            · next e0 => rw [(y9 e0).2.1, A5]
            · next e0 => rw [n9 e0, f.1 _ _ (by omega)]; exact z45.2.1
          · rw [v9 _ _ (by omega) (by omega), r6.2.1, a45]
          · split at h0
            · next e00 =>
              refine ⟨ta, tb, hta, htb, ?_, ?_, (y9 e00).2.2.1, (y9 e00).2.2.2.1⟩
              · rw [v9 _ _ (by omega) (by omega), f6.1 _ _ (by unfold PSr; omega), fb.1 _ _ (by omega)]; exact e0
              · rw [v9 _ _ (by omega) (by omega), f6.1 _ _ (by unfold PSr; omega), fb.1 _ _ (by omega)]; exact e1
            · omega
          · split at hk
            · next e00 =>
              have hkN : k < pN R.2 := by rw [w6 e00, A5]; exact hk
              have hpk := o6.2.2.2.2 k hkN
              have hn2 := hnu (pK R.2 k) (by rw [← A1]; exact hpk)
              refine ⟨hn2.1, (y9 e00).2.2.2.2 k (by rw [A5]; exact hk), pK R.2 k, by omega, ?_, ?_⟩
              · rw [v9 _ _ (by omega) (by omega)]; exact r6.2.2.2.1 k hkN
              · rw [v9 _ _ (by omega) (by omega), f6.1 _ _ (by unfold PSr; omega), fb.1 _ _ (by omega)]
                have := (ev (nu (pK R.2 k)) hn2.1 hn2.2.1).1
                rw [hn2.2.2] at this; exact this
            · omega
          · rw [i9.1 _ _ (by omega)]; exact h7.1
          · rw [i9.1 _ _ (by omega)]; exact h7.2.1
          · rw [i9.1 _ _ (by omega)]; exact h7.2.2.1 rfl
        · rw [f9.1 _ _ (by unfold PMk; omega), f.1 _ _ (by omega)]; exact z45.2.2
      rw [A4, A6, A7] at p345
      exact p345
    · rintro bk i z hi ⟨M', rfl, f, e⟩ hb2
      show bd_X12_pack_100 g M1' (gB g + 195) (nI ta) (nI tb) p3 p4 p5 (nI K) Y bk (nI i) M'
      unfold bd_X12_pack_100
      refine pk_le 8 i (fun hx => by omega) (fun _ => ⟨_, lr_195_43 (f.lay (fk.lay h1)), lk_222 l8, by rw [ln_222 l8]; exact pk_in i 8 hi, ?_⟩)
      rintro M69 rfl
      rw [nI_1, nI_cl i (by omega)]
      refine hb2 _ ⟨_, rfl, f.uI rfl, fun t ht => ?_⟩
      rw [s_II, if_pos rfl]
      by_cases hti : t = i
      · rw [if_pos hti]
      · rw [if_neg hti]; exact e t (by omega)
