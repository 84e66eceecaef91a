/-! PURE: events come and go: nothing, dead, appeal, undo -/
/-- whose turn and whether it is over go together -/
def WS (L : LawT) (s : MS) : Prop := (sH s < lW L → sW s = 0 ∨ sW s = 1 ∨ sW s = 2) ∧ (lW L ≤ sH s → sW s = 3)
theorem WS_gT (L : LawT) (k : Nat) (s : MS) : WS L (gT L k s) := by
  unfold WS gT
  refine ⟨fun h => ?_, fun h => ?_⟩
  · show whoT L k = 0 ∨ _
    have h : k < lW L := h
    unfold whoT
    rw [if_pos h]
    split
    · exact Or.inr (Or.inr rfl)
    · rcases (show k % 2 = 0 ∨ k % 2 = 1 by omega) with e | e <;> rw [e]
      · exact Or.inl rfl
      · exact Or.inr (Or.inl rfl)
  · show whoT L k = 3
    have h : lW L ≤ k := h
    unfold whoT; rw [if_neg (by omega)]
theorem WS_apE {L : LawT} {s : MS} {e : EvT} (hE : EvOK L e) (h : WS L s) : WS L (apE L s e) := by
  have h1 : WS L (s1T L s e) ∧ eQ e ≤ sH (s1T L s e) := by
    unfold s1T
    split
    · exact ⟨WS_gT L _ _, Nat.le_refl _⟩
    · exact ⟨h, by omega⟩
  unfold apE
  generalize s1T L s e = t at h1
  unfold apT
  split
  · exact h1.1
  · next hv =>
    have hv2 : ¬ eQ e < sH t := by
      intro hx; apply hv; simp [vdT, hx]
    have hE1 := hE.1
    unfold nxT
    split
    · next ho =>
      have h2 : ¬ eK e = 2 := (of_decide_eq_true ho).2.2.1
      refine ⟨fun _ => ?_, fun hx => ?_⟩
      · show 1 - eS e = 0 ∨ 1 - eS e = 1 ∨ _
        rcases (hE.k01 h2).2 with h3 | h3 <;> rw [h3]
        · exact Or.inr (Or.inl rfl)
        · exact Or.inl rfl
      · have hx : lW L ≤ sH t := hx
        omega
    · exact WS_gT L _ _
theorem WS_thr {L : LawT} {ev : Nat → EvT} : ∀ n, (∀ j, j < n → EvOK L (ev j)) → WS L (thr L ev n)
  | 0, _ => WS_gT L 0 _
  | n + 1, h => WS_apE (h n (by omega)) (WS_thr n (fun j hj => h j (by omega)))
def PXa (g : Gh) (n : Nat) : Nat → Nat → Prop := fun a k => (a = (gB g + 67) ∧ 3 ≤ k ∧ k ≤ 7) ∨ a = (gB g + 189) ∨ a = (gB g + (69 + n))
theorem sp_X6_add {g : Gh} {M : Mem} {r : Nat} {L : LawT} (h : MC g M r L) {s : MS} {n : Nat} (hn : n < 120) (h3 : mI M (gB g + 67) 3 = nI n) (hs : CM g M s) (hh : sH s < lW L) {kd sd : Int32} {b : Bool} (hE : EvOK L (sH s, kd, sd, b)) {post : Mem → Prop} (hq : ∀ M', Fr (PXa g n) nQ M M' → CM g M' (apE L s (sH s, kd, sd, b)) → CE g M' n (sH s, kd, sd, b) → mI M' (gB g + 67) 3 = nI (n + 1) → mI M' (gB g + (69 + n)) 4 = bI (vdE L s (sH s, kd, sd, b)) → mI M' (gB g + (69 + n)) 5 = ptE L s (sH s, kd, sd, b) → post M') : wp_X6_add g M (gB g + 67) kd sd (bI b) post := by
  have hW := h.2.2.2.1.W
  refine ⟨lk_67 h.1, ?_⟩
  rw [h3]
  refine pk_lt n 120 (fun _ => ⟨_, lr_67_2 h.1, lk_68 h.1, by rw [ln_68 h.1]; exact pk_in n 120 hn, (gB g + (69 + n)), ?_, lk_ev h.1 hn, ?_⟩) (fun hx => by omega)
  · rw [pk_cl n]; exact lr_ev h.1 hn
  rintro M11 rfl M13 rfl M15 rfl
  refine ⟨bI_01 b, ?_⟩
  rintro M18 rfl M20 rfl
  have e3 : mI (uI (uI (uI (uI M (gB g + (69 + n)) 0 (mI M (gB g + 67) 5)) (gB g + (69 + n)) 1 kd) (gB g + (69 + n)) 2 sd) (gB g + (69 + n)) 3 (bI b)) (gB g + 67) 3 = nI n := by
    rw [s_II, if_neg (by omega), s_II, if_neg (by omega), s_II, if_neg (by omega), s_II, if_neg (by omega)]; exact h3
  rw [e3, nI_1, hs.1]
  have f : Fr (fun a k => (a = (gB g + 67) ∧ k = 3) ∨ (a = (gB g + (69 + n)) ∧ k < 4)) nQ M (uI (uI (uI (uI (uI M (gB g + (69 + n)) 0 (nI (sH s))) (gB g + (69 + n)) 1 kd) (gB g + (69 + n)) 2 sd) (gB g + (69 + n)) 3 (bI b)) (gB g + 67) 3 (nI (n + 1))) := ((((Fr.rf.uI (by omega)).uI (by omega)).uI (by omega)).uI (by omega)).uI (by omega)
  have e4 : CE g (uI (uI (uI (uI (uI M (gB g + (69 + n)) 0 (nI (sH s))) (gB g + (69 + n)) 1 kd) (gB g + (69 + n)) 2 sd) (gB g + (69 + n)) 3 (bI b)) (gB g + 67) 3 (nI (n + 1))) n (sH s, kd, sd, b) := by
    refine ⟨?_, ?_, ?_, ?_⟩
    · rw [s_II, if_neg (by omega), s_II, if_pos rfl, if_neg (by decide), s_II, if_pos rfl, if_neg (by decide), s_II, if_pos rfl, if_neg (by decide), s_II, if_pos rfl, if_pos rfl]; rfl
    · rw [s_II, if_neg (by omega), s_II, if_pos rfl, if_neg (by decide), s_II, if_pos rfl, if_neg (by decide), s_II, if_pos rfl, if_pos rfl]; rfl
    · rw [s_II, if_neg (by omega), s_II, if_pos rfl, if_neg (by decide), s_II, if_pos rfl, if_pos rfl]; rfl
    · rw [s_II, if_neg (by omega), s_II, if_pos rfl, if_pos rfl]; rfl
  have e5 : mI (uI (uI (uI (uI (uI M (gB g + (69 + n)) 0 (nI (sH s))) (gB g + (69 + n)) 1 kd) (gB g + (69 + n)) 2 sd) (gB g + (69 + n)) 3 (bI b)) (gB g + 67) 3 (nI (n + 1))) (gB g + 67) 3 = nI (n + 1) := by rw [s_II, if_pos rfl, if_pos rfl]
  generalize uI (uI (uI (uI (uI M (gB g + (69 + n)) 0 (nI (sH s))) (gB g + (69 + n)) 1 kd) (gB g + (69 + n)) 2 sd) (gB g + (69 + n)) 3 (bI b)) (gB g + 67) 3 (nI (n + 1)) = M1 at f e4 e5 ⊢
  refine sp_X6_apply (h.fr f (fun a k hh => by omega)) hn (hs.fr f (fun a k hh => by omega)) e4 hE (by omega) (fun M' f2 c2 v2 p2 => hq M' ?_ c2 (e4.fr f2 (fun k hk => pxe_e g hn n k hk hn)) ?_ v2 p2)
  · exact (f.mono (P' := PXa g n) (Q' := nQ) (fun a k hh => by unfold PXa; omega) (fun _ _ hh => hh)).tr (f2.mono (fun a k hh => by unfold PXe at hh; unfold PXa; omega) (fun _ _ hh => hh))
  · rw [f2.1 _ _ (by unfold PXe; omega)]; exact e5
def upE (ev : Nat → EvT) (n : Nat) (e : EvT) : Nat → EvT := fun j => if j = n then e else ev j
theorem upE_s (ev : Nat → EvT) (n : Nat) (e : EvT) : upE ev n e n = e := if_pos rfl
theorem upE_n (ev : Nat → EvT) {n j : Nat} (e : EvT) (h : j ≠ n) : upE ev n e j = ev j := if_neg h
theorem thr_up (L : LawT) (ev : Nat → EvT) (n : Nat) (e : EvT) {k : Nat} (h : k ≤ n) : thr L (upE ev n e) k = thr L ev k := thr_congr k (fun j hj => upE_n ev e (by omega))
def PMa (g : Gh) (n : Nat) : Nat → Nat → Prop := fun a k => (a = (gB g + 195) ∧ 49 ≤ k ∧ k ≤ 55) ∨ a = (gB g + 226) ∨ a = (gB g + 228) ∨ ((a = (gB g + 223) ∨ a = (gB g + 224) ∨ a = (gB g + 225) ∨ a = (gB g + 227)) ∧ k = n)
theorem sp_X12_tells {g : Gh} {M : Mem} {L : LawT} (h : MX g M L) {n : Nat} {ev : Nat → EvT} (hn : n < 120) (h49 : mI M (gB g + 195) 49 = nI n) (he : ∀ j, j < n → ME g M j (ev j) ∧ EvOK L (ev j)) {hd : Nat} (h50 : mI M (gB g + 195) 50 = nI hd) {kd sd : Int32} {b : Bool} (hE : EvOK L (hd, kd, sd, b)) {post : Mem → Prop} (hq : ∀ M', Fr (PMa g n) nQ M M' → MM g M' (thr L (upE ev n (hd, kd, sd, b)) (n + 1)) → (∀ j, j < n + 1 → ME g M' j (upE ev n (hd, kd, sd, b) j)) → mI M' (gB g + 195) 49 = nI (n + 1) → (∀ j, j < n + 1 → mI M' (gB g + 228) j = bI (vdE L (thr L (upE ev n (hd, kd, sd, b)) j) (upE ev n (hd, kd, sd, b) j)) ∧ mI M' (gB g + 226) j = ptE L (thr L (upE ev n (hd, kd, sd, b)) j) (upE ev n (hd, kd, sd, b) j)) → post M') : wp_X12_tells g M (gB g + 195) kd sd (bI b) post := by
  have cn : Int32.toNatClampNeg (nI n) = n := nI_cl n (by omega)
  refine ⟨lk_195 h.1, _, lr_195_56 h.1, lk_223 h.1, by rw [ln_223 h.1, h49]; exact pk_in n 120 hn, ?_⟩
  rintro M7 rfl
  rw [h49, h50, cn]
  have n7 : mI (uI M (gB g + 223) n (nI hd)) (gB g + 195) 49 = nI n := by rw [s_II, if_neg (by omega)]; exact h49
  refine ⟨_, lr_195_57 h.1, lk_224 h.1, by rw [ln_224 h.1, n7]; exact pk_in n 120 hn, ?_⟩
  rintro M13 rfl
  rw [n7, cn]
  have n13 : mI (uI (uI M (gB g + 223) n (nI hd)) (gB g + 224) n kd) (gB g + 195) 49 = nI n := by rw [s_II, if_neg (by omega)]; exact n7
  refine ⟨_, lr_195_58 h.1, lk_225 h.1, by rw [ln_225 h.1, n13]; exact pk_in n 120 hn, ?_⟩
  rintro M19 rfl
  rw [n13, cn]
  have n19 : mI (uI (uI (uI M (gB g + 223) n (nI hd)) (gB g + 224) n kd) (gB g + 225) n sd) (gB g + 195) 49 = nI n := by rw [s_II, if_neg (by omega)]; exact n13
  refine ⟨_, lr_195_60 h.1, lk_227 h.1, by rw [ln_227 h.1, n19]; exact pk_in n 120 hn, ?_⟩
  rintro M25 rfl M27 rfl
  rw [n19, cn, nb_b]
  have n25 : mI (uI (uI (uI (uI M (gB g + 223) n (nI hd)) (gB g + 224) n kd) (gB g + 225) n sd) (gB g + 227) n (bI b)) (gB g + 195) 49 = nI n := by rw [s_II, if_neg (by omega)]; exact n19
  rw [n25, nI_1]
  have f : Fr (fun a k => (a = (gB g + 195) ∧ k = 49) ∨ ((a = (gB g + 223) ∨ a = (gB g + 224) ∨ a = (gB g + 225) ∨ a = (gB g + 227)) ∧ k = n)) nQ M (uI (uI (uI (uI (uI M (gB g + 223) n (nI hd)) (gB g + 224) n kd) (gB g + 225) n sd) (gB g + 227) n (bI b)) (gB g + 195) 49 (nI (n + 1))) := ((((Fr.rf.uI (by omega)).uI (by omega)).uI (by omega)).uI (by omega)).uI (by omega)
  have e4 : ME g (uI (uI (uI (uI (uI M (gB g + 223) n (nI hd)) (gB g + 224) n kd) (gB g + 225) n sd) (gB g + 227) n (bI b)) (gB g + 195) 49 (nI (n + 1))) n (hd, kd, sd, b) := by
    refine ⟨?_, ?_, ?_, ?_⟩
    · rw [s_II, if_neg (by omega), s_II, if_neg (by omega), s_II, if_neg (by omega), s_II, if_neg (by omega), s_II, if_pos rfl, if_pos rfl]; rfl
    · rw [s_II, if_neg (by omega), s_II, if_neg (by omega), s_II, if_neg (by omega), s_II, if_pos rfl, if_pos rfl]; rfl
    · rw [s_II, if_neg (by omega), s_II, if_neg (by omega), s_II, if_pos rfl, if_pos rfl]; rfl
    · rw [s_II, if_neg (by omega), s_II, if_pos rfl, if_pos rfl]; rfl
  have e5 : mI (uI (uI (uI (uI (uI M (gB g + 223) n (nI hd)) (gB g + 224) n kd) (gB g + 225) n sd) (gB g + 227) n (bI b)) (gB g + 195) 49 (nI (n + 1))) (gB g + 195) 49 = nI (n + 1) := by rw [s_II, if_pos rfl, if_pos rfl]
  generalize uI (uI (uI (uI (uI M (gB g + 223) n (nI hd)) (gB g + 224) n kd) (gB g + 225) n sd) (gB g + 227) n (bI b)) (gB g + 195) 49 (nI (n + 1)) = M1 at f e4 e5 ⊢
  have hev : ∀ j, j < n + 1 → ME g M1 j (upE ev n (hd, kd, sd, b) j) ∧ EvOK L (upE ev n (hd, kd, sd, b) j) := by
    intro j hj
    by_cases hjn : j = n
    · subst hjn; rw [upE_s]; exact ⟨e4, hE⟩
    · rw [upE_n _ _ hjn]
      exact ⟨(he j (by omega)).1.fr f (fun a ha => by omega), (he j (by omega)).2⟩
  refine sp_X12_through (h.fr f (fun a k hh => by omega)) (by omega) e5 hev (fun M' f2 c2 v2 => hq M' ?_ c2 (fun j hj => (hev j hj).1.fr f2 (pmr_e g j)) ?_ v2)
  · exact (f.mono (P' := PMa g n) (Q' := nQ) (fun a k hh => by unfold PMa; omega) (fun _ _ hh => hh)).tr (f2.mono (fun a k hh => by unfold PMr at hh; unfold PMa; omega) (fun _ _ hh => hh))
  · rw [f2.1 _ _ (by unfold PMr; omega)]; exact e5
/-- an event comes to both -/
theorem sp_addBoth {g : Gh} {M : Mem} {c nq : Nat} {qa : Nat → Nat} {r : Nat} {L : LawT} {np : Nat} {pn : Nat → Nat} (h : Iv g M c nq qa r L np pn true) {n : Nat} {ev : Nat → EvT} (hm : IMo g M r L np n ev) (hn : n < 120) (hh : sH (thr L ev n) < lW L) {kd sd : Int32} {b : Bool} (hE : EvOK L (sH (thr L ev n), kd, sd, b)) {post : Mem → Prop} (hq : ∀ M1, Fr (PXa g n) nQ M M1 → Lay g M1 → LM g M1 L → (∀ M1', Fr (fun a k => a = (gB g + 195) ∧ k = 0) nQ M1 M1' → ∀ post2 : Mem → Prop, (∀ M2, Iv g M2 c nq qa r L np pn true → post2 M2) → wp_X12_tells g M1' (gB g + 195) kd sd (bI b) post2) → post M1) : wp_X6_add g M (gB g + 67) kd sd (bI b) post := by
  obtain ⟨h1, h2, h3, h4, h5, h6, h7, h8⟩ := h
  obtain ⟨m1, m2, m3, m4, m5, m6, m7, m8, m9, m10⟩ := hm
  refine sp_X6_add ⟨h1, m4, h5.1⟩ hn m2 m7 hh hE (fun M1 f c1 e1 n1 v1 p1 => ?_)
  have hp := f
  have l1 := f.lay h1
  have lm1 : LM g M1 L := h5.2.1.fr f (fun a k hh => by unfold PXa at hh; omega)
  refine hq M1 f l1 lm1 (fun M1' f0 post2 hp2 => ?_)
  have f1 : Fr (fun a k => PXa g n a k ∨ (a = (gB g + 195) ∧ k = 0)) nQ M M1' := (f.mono (fun a k hh => Or.inl hh) (fun _ _ hh => hh)).tr (f0.mono (fun a k hh => Or.inr hh) (fun _ _ hh => hh))
  have x1 : MX g M1' L := ⟨f0.lay l1, lm1.fr f0 (fun a k hh => by omega), by rw [f1.1 _ _ (by unfold PXa; omega), h6.2.2.1, m5.1]⟩
  refine sp_X12_tells x1 (ev := ev) (hd := sH (thr L ev n)) hn (by rw [f1.1 _ _ (by unfold PXa; omega)]; exact m3) (fun j hj => ⟨(m6 j hj).2.1.fr f1 (fun a ha hh => by unfold PXa at hh; omega), (m6 j hj).2.2⟩) (by rw [f1.1 _ _ (by unfold PXa; omega)]; exact m8.1) hE (fun M2 f2 c2 e2 n2 v2 => hp2 M2 ?_)
  have f3 : Fr (fun a k => PXa g n a k ∨ (a = (gB g + 195) ∧ k = 0) ∨ PMa g n a k) nQ M M2 := (f1.mono (fun a k hh => hh.elim Or.inl (fun x => Or.inr (Or.inl x))) (fun _ _ hh => hh)).tr (f2.mono (fun a k hh => Or.inr (Or.inr hh)) (fun _ _ hh => hh))
  have f02 : Fr (fun a k => (a = (gB g + 195) ∧ k = 0) ∨ PMa g n a k) nQ M1 M2 := (f0.mono (fun a k hh => Or.inl hh) (fun _ _ hh => hh)).tr (f2.mono (fun a k hh => Or.inr hh) (fun _ _ hh => hh))
  refine ⟨f3.lay h1, h2.fr f3 ?_, h3.fr f3 ?_, h4.fr f3 ?_ (fun a k hh => (hh : False).elim), h5.fr f3 ?_, h6.fr f3 ?_, ⟨?_, ?_, fun hx => absurd hx (by decide), fun _ => ⟨n + 1, upE ev n (sH (thr L ev n), kd, sd, b), ?_⟩⟩, h8.fr f3 ?_⟩
  · intro a k hh; unfold PXa PMa at hh; omega
  · intro a k hh; unfold PXa PMa at hh; omega
  · intro a k hh; unfold PXa PMa at hh; omega
  · intro a k hh; unfold PXa PMa at hh; have := h5.1.1; omega
  · intro a k hh; unfold PXa PMa at hh; omega
  · rw [f3.1 _ _ (by unfold PXa PMa; omega)]; exact h7.1
  · rw [f3.1 _ _ (by unfold PXa PMa; omega)]; exact h7.2.1
  · have ce : CE g M2 n (sH (thr L ev n), kd, sd, b) := e1.fr f02 (fun k hk hh => by unfold PMa at hh; omega)
    have c12 : CM g M2 (apE L (thr L ev n) (sH (thr L ev n), kd, sd, b)) := c1.fr f02 (fun a k hh => by unfold PMa at hh; omega)
    refine ⟨by omega, ?_, n2, by rw [f3.R]; exact m4, m5, fun j hj => ⟨?_, e2 j hj, ?_⟩, ?_, c2, fun j hj => ?_, v2⟩
    · rw [f02.1 _ _ (by unfold PMa; omega)]; exact n1
    · by_cases hjn : j = n
      · subst hjn; rw [upE_s]; exact ce
      · rw [upE_n _ _ hjn]
        exact (m6 j (by omega)).1.fr f3 (fun k hk hh => by unfold PXa PMa at hh; omega)
    · by_cases hjn : j = n
      · subst hjn; rw [upE_s]; exact hE
      · rw [upE_n _ _ hjn]; exact (m6 j (by omega)).2.2
    · show CM g M2 (apE L (thr L (upE ev n _) n) (upE ev n _ n))
      rw [thr_up L ev n _ (Nat.le_refl n), upE_s]; exact c12
    · by_cases hjn : j = n
      · subst hjn
        rw [thr_up L ev j _ (Nat.le_refl j), upE_s, f02.1 _ _ (by unfold PMa; omega), f02.1 _ _ (by unfold PMa; omega)]
        exact ⟨v1, p1⟩
      · rw [thr_up L ev n _ (by omega), upE_n _ _ hjn, f3.1 _ _ (by unfold PXa PMa; omega), f3.1 _ _ (by unfold PXa PMa; omega)]
        exact m9 j (by omega)
  · intro a k hh; unfold PXa PMa at hh; omega
