/-! PURE: what holds between calls -/
def ITp (g : Gh) (M : Mem) (n : Nat) (bs : Nat → Nat) : Prop := n ≤ 260 ∧ mI M (gB g + 1) 1 = nI n ∧ mI M (gB g + 195) 2 = nI n ∧ (∀ i, i < 260 → mI M (gB g + 2) i = nI (bs i) ∧ mI M (gB g + 196) i = nI (bs i)) ∧ ∀ i, bs i < 256
def IT (g : Gh) (M : Mem) : Prop := ∃ n bs, ITp g M n bs
def IF (g : Gh) (M : Mem) : Prop := mI M (gB g) 7 = mI M (gB g + 195) 9
def QOK (g : Gh) (M : Mem) (c q a : Nat) : Prop := mR M (gB g + 48) q = some a ∧ okc (gB g) M a 9 ∧ (gB g + 234) ≤ a ∧ (∃ f, mR M a 1 = some f ∧ okc (gB g) M f 1 ∧ FQ g M q f) ∧ (∃ t, t < 8 ∧ mI M a 0 = nI t ∧ mI M (gB g + 202) q = nI t) ∧ (∃ n, n ≤ 48 * c ∧ mI M a 2 = nI n ∧ mI M (gB g + 203) q = nI n) ∧ (∃ n, n ≤ 48 * c ∧ mI M a 3 = nI n ∧ mI M (gB g + 204) q = nI n) ∧ (∃ b, mI M a 4 = bI b ∧ mI M (gB g + 206) q = bI b) ∧ (∃ s, s < 4096 ∧ mI M a 5 = nI s ∧ mI M (gB g + 205) q = nI s)
def IQ (g : Gh) (M : Mem) (c nq : Nat) (qa : Nat → Nat) : Prop := nq ≤ 60 ∧ mI M (gB g) 4 = nI nq ∧ mI M (gB g + 195) 16 = nI nq ∧ (∀ q, q < nq → QOK g M c q (qa q)) ∧ ∀ q q', q < nq → q' < nq → qa q = qa q' → q = q'
def ILw (g : Gh) (M : Mem) (r : Nat) (L : LawT) : Prop := LC g M r L ∧ LM g M L ∧ mR M (gB g) 5 = some (gB g + (r)) ∧ mR M (gB g) 6 = some (gB g + (104 - r))
def IP (g : Gh) (M : Mem) (nq np : Nat) (pn : Nat → Nat) : Prop := np ≤ 48 ∧ mI M (gB g + 61) 2 = nI np ∧ mI M (gB g + 195) 44 = nI np ∧ mI M (gB g + 61) 3 = mI M (gB g + 195) 45 ∧ (0 < np → ∃ ta tb, ta < 12 ∧ tb < 12 ∧ mI M (gB g + 61) 0 = nI ta ∧ mI M (gB g + 61) 1 = nI tb ∧ mI M (gB g + 195) 46 = nI ta ∧ mI M (gB g + 195) 47 = nI tb) ∧ ∀ k, k < np → pn k < nq ∧ mI M (gB g + 220) k = nI (pn k) ∧ ∃ i, i < 60 ∧ mI M (gB g + 65) k = nI i ∧ mI M (gB g + 62) i = nI (pn k)
def IMo (g : Gh) (M : Mem) (r : Nat) (L : LawT) (np n : Nat) (ev : Nat → EvT) : Prop := n ≤ 120 ∧ mI M (gB g + 67) 3 = nI n ∧ mI M (gB g + 195) 49 = nI n ∧ mR M (gB g + 67) 1 = some (gB g + (r)) ∧ (lW L = np ∧ 0 < np) ∧ (∀ j, j < n → CE g M j (ev j) ∧ ME g M j (ev j) ∧ EvOK L (ev j)) ∧ CM g M (thr L ev n) ∧ MM g M (thr L ev n) ∧ (∀ j, j < n → mI M (gB g + (69 + j)) 4 = bI (vdE L (thr L ev j) (ev j)) ∧ mI M (gB g + (69 + j)) 5 = ptE L (thr L ev j) (ev j)) ∧ (∀ j, j < n → mI M (gB g + 228) j = bI (vdE L (thr L ev j) (ev j)) ∧ mI M (gB g + 226) j = ptE L (thr L ev j) (ev j))
def IM (g : Gh) (M : Mem) (r : Nat) (L : LawT) (np : Nat) (on : Bool) : Prop := mI M (gB g + 67) 0 = bI on ∧ mI M (gB g + 195) 48 = bI on ∧ (on = false → mI M (gB g + 67) 3 = 0) ∧ (on = true → ∃ n ev, IMo g M r L np n ev)
def IL (g : Gh) (M : Mem) : Prop := (∀ t, t < 12 → mI M (gB g + 191) t = mI M (gB g + 229) t ∧ mI M (gB g + 192) t = mI M (gB g + 230) t ∧ mI M (gB g + 193) t = mI M (gB g + 231) t ∧ mI M (gB g + 194) t = mI M (gB g + 232) t) ∧ mI M (gB g + 190) 4 = mI M (gB g + 195) 66
/-- Inv with its numbers -/
def Iv (g : Gh) (M : Mem) (c nq : Nat) (qa : Nat → Nat) (r : Nat) (L : LawT) (np : Nat) (pn : Nat → Nat) (on : Bool) : Prop := Lay g M ∧ IT g M ∧ IF g M ∧ IQ g M c nq qa ∧ ILw g M r L ∧ IP g M nq np pn ∧ IM g M r L np on ∧ IL g M
def Inv (g : Gh) (M : Mem) (c : Nat) : Prop := ∃ (nq : Nat) (qa : Nat → Nat) (r : Nat) (L : LawT) (np : Nat) (pn : Nat → Nat) (on : Bool), Iv g M c nq qa r L np pn on
/-! frames -/
theorem ITp.fr {g : Gh} {M M' : Mem} {n : Nat} {bs : Nat → Nat} {P Q : Nat → Nat → Prop} (h : ITp g M n bs) (f : Fr P Q M M') (hp : ∀ a k, P a k → ¬ (a = (gB g + 1) ∧ k = 1) ∧ ¬ a = (gB g + 2) ∧ ¬ (a = (gB g + 195) ∧ k = 2) ∧ ¬ a = (gB g + 196)) : ITp g M' n bs := by
  refine ⟨h.1, ?_, ?_, fun i hi => ?_, h.2.2.2.2⟩
  · rw [f.1 _ _ (fun hh => by have := hp _ _ hh; omega)]; exact h.2.1
  · rw [f.1 _ _ (fun hh => by have := hp _ _ hh; omega)]; exact h.2.2.1
  · rw [f.1 _ _ (fun hh => by have := hp _ _ hh; omega), f.1 _ _ (fun hh => by have := hp _ _ hh; omega)]; exact h.2.2.2.1 i hi
theorem IT.fr {g : Gh} {M M' : Mem} {P Q : Nat → Nat → Prop} (h : IT g M) (f : Fr P Q M M') (hp : ∀ a k, P a k → ¬ (a = (gB g + 1) ∧ k = 1) ∧ ¬ a = (gB g + 2) ∧ ¬ (a = (gB g + 195) ∧ k = 2) ∧ ¬ a = (gB g + 196)) : IT g M' := by
  obtain ⟨n, bs, h⟩ := h
  exact ⟨n, bs, h.fr f hp⟩
theorem IF.fr {g : Gh} {M M' : Mem} {P Q : Nat → Nat → Prop} (h : IF g M) (f : Fr P Q M M') (hp : ∀ a k, P a k → ¬ (a = (gB g) ∧ k = 7) ∧ ¬ (a = (gB g + 195) ∧ k = 9)) : IF g M' := by
  unfold IF; rw [f.1 _ _ (fun hh => by have := hp _ _ hh; omega), f.1 _ _ (fun hh => by have := hp _ _ hh; omega)]; exact h
theorem QOK.fr {g : Gh} {M M' : Mem} {c q a : Nat} {P Q : Nat → Nat → Prop} (h : QOK g M c q a) (f : Fr P Q M M') (hp : ∀ b k, P b k → ((gB g + 234) ≤ b → b ≠ a ∧ okc (gB g) M b 9) ∧ ¬ ((gB g + 202) ≤ b ∧ b ≤ (gB g + 206) ∧ k = q) ∧ ¬ ((gB g + 197) ≤ b ∧ b ≤ (gB g + 199) ∧ 420 * q ≤ k ∧ k < 420 * q + 420)) (hq : ∀ a k, Q a k → a < (gB g + 234) ∧ ¬ ((gB g + 200) ≤ a ∧ a ≤ (gB g + 201) ∧ 420 * q ≤ k ∧ k < 420 * q + 420)) : QOK g M' c q a := by
  obtain ⟨h1, h2, h3, ⟨fa, f1, f2, f3⟩, h5, h6, h7, h8, h9⟩ := h
  have ea : ∀ k, mI M' a k = mI M a k := fun k => f.1 _ _ (fun hh => ((hp _ _ hh).1 h3).1 rfl)
  have em : ∀ i, 202 ≤ i → i ≤ 206 → mI M' (gB g + (i)) q = mI M (gB g + (i)) q := fun i i1 i2 => f.1 _ _ (fun hh => by have := (hp _ _ hh).2.1; omega)
  refine ⟨by rw [f.R]; exact h1, f.oc h2, h3, ⟨fa, by rw [f.R]; exact f1, f.oc f2, f3.fr f (fun b k hb => ⟨fun h234 => ⟨9, by decide, ((hp b k hb).1 h234).2⟩, (hp b k hb).2.2⟩) hq⟩, ?_, ?_, ?_, ?_, ?_⟩
  · rw [ea, em 202 (by decide) (by decide)]; exact h5
  · rw [ea, em 203 (by decide) (by decide)]; exact h6
  · rw [ea, em 204 (by decide) (by decide)]; exact h7
  · rw [ea, em 206 (by decide) (by decide)]; exact h8
  · rw [ea, em 205 (by decide) (by decide)]; exact h9
theorem QOK.up {g : Gh} {M : Mem} {c q a : Nat} (h : QOK g M c q a) : QOK g M (c + 1) q a := by
  obtain ⟨h1, h2, h3, h4, h5, ⟨n, n1, n2⟩, ⟨m, m1, m2⟩, h8, h9⟩ := h
  exact ⟨h1, h2, h3, h4, h5, ⟨n, by omega, n2⟩, ⟨m, by omega, m2⟩, h8, h9⟩
theorem IQ.up {g : Gh} {M : Mem} {c nq : Nat} {qa : Nat → Nat} (h : IQ g M c nq qa) : IQ g M (c + 1) nq qa := ⟨h.1, h.2.1, h.2.2.1, fun q hq => (h.2.2.2.1 q hq).up, h.2.2.2.2⟩
theorem IQ.fr {g : Gh} {M M' : Mem} {c nq : Nat} {qa : Nat → Nat} {P Q : Nat → Nat → Prop} (h : IQ g M c nq qa) (f : Fr P Q M M') (hp : ∀ b k, P b k → b < (gB g + 234) ∧ ¬ (b = (gB g) ∧ k = 4) ∧ ¬ (b = (gB g + 195) ∧ k = 16) ∧ ¬ ((gB g + 202) ≤ b ∧ b ≤ (gB g + 206)) ∧ ¬ ((gB g + 197) ≤ b ∧ b ≤ (gB g + 199) ∧ k < 420 * nq)) (hq : ∀ a k, Q a k → a < (gB g + 234) ∧ ¬ ((gB g + 200) ≤ a ∧ a ≤ (gB g + 201) ∧ k < 420 * nq)) : IQ g M' c nq qa := by
  refine ⟨h.1, ?_, ?_, fun q hq1 => (h.2.2.2.1 q hq1).fr f (fun b k hb => ?_) (fun b k hb => ?_), h.2.2.2.2⟩
  · rw [f.1 _ _ (fun hh => by have := hp _ _ hh; omega)]; exact h.2.1
  · rw [f.1 _ _ (fun hh => by have := hp _ _ hh; omega)]; exact h.2.2.1
  · have := hp b k hb
    exact ⟨fun h234 => by omega, by omega, by omega⟩
  · have := hq b k hb
    exact ⟨by omega, by omega⟩
theorem ILw.fr {g : Gh} {M M' : Mem} {r : Nat} {L : LawT} {P Q : Nat → Nat → Prop} (h : ILw g M r L) (f : Fr P Q M M') (hp : ∀ a k, P a k → ¬ ((gB g + (r)) ≤ a ∧ a ≤ (gB g + (r + 5))) ∧ ¬ ((gB g + 210) ≤ a ∧ a ≤ (gB g + 214)) ∧ ¬ (a = (gB g + 195) ∧ 39 ≤ k ∧ k ≤ 40)) : ILw g M' r L := by
  obtain ⟨h1, h2, h3, h4⟩ := h
  have e : ∀ i k, r ≤ i → i ≤ r + 5 → mI M' (gB g + (i)) k = mI M (gB g + (i)) k := fun i k h1 h2 => f.1 _ _ (fun hh => by have := hp _ _ hh; omega)
  refine ⟨⟨h1.1, h1.2.1, ?_, ?_, fun k hk => ?_⟩, h2.fr f (fun a k hh => ⟨(hp a k hh).2.1, (hp a k hh).2.2⟩), by rw [f.R]; exact h3, by rw [f.R]; exact h4⟩
  · rw [e r 0 (by omega) (by omega)]; exact h1.2.2.1
  · rw [e r 1 (by omega) (by omega)]; exact h1.2.2.2.1
  · rw [e (r + 1) k (by omega) (by omega), e (r + 2) k (by omega) (by omega), e (r + 3) k (by omega) (by omega), e (r + 4) k (by omega) (by omega), e (r + 5) k (by omega) (by omega)]
    exact h1.2.2.2.2 k hk
theorem IP.fr {g : Gh} {M M' : Mem} {nq np : Nat} {pn : Nat → Nat} {P Q : Nat → Nat → Prop} (h : IP g M nq np pn) (f : Fr P Q M M') (hp : ∀ a k, P a k → ¬ (a = (gB g + 61) ∧ k ≤ 3) ∧ ¬ (a = (gB g + 195) ∧ 44 ≤ k ∧ k ≤ 47) ∧ ¬ a = (gB g + 220) ∧ ¬ a = (gB g + 65) ∧ ¬ a = (gB g + 62)) : IP g M' nq np pn := by
  refine ⟨h.1, ?_, ?_, ?_, fun h0 => ?_, fun k hk => ?_⟩
  · rw [f.1 _ _ (fun hh => by have := hp _ _ hh; omega)]; exact h.2.1
  · rw [f.1 _ _ (fun hh => by have := hp _ _ hh; omega)]; exact h.2.2.1
  · rw [f.1 _ _ (fun hh => by have := hp _ _ hh; omega), f.1 _ _ (fun hh => by have := hp _ _ hh; omega)]; exact h.2.2.2.1
  · rw [f.1 _ _ (fun hh => by have := hp _ _ hh; omega), f.1 _ _ (fun hh => by have := hp _ _ hh; omega), f.1 _ _ (fun hh => by have := hp _ _ hh; omega), f.1 _ _ (fun hh => by have := hp _ _ hh; omega)]; exact h.2.2.2.2.1 h0
  · obtain ⟨a1, a2, i, a3, a4, a5⟩ := h.2.2.2.2.2 k hk
    refine ⟨a1, ?_, i, a3, ?_, ?_⟩
    · rw [f.1 _ _ (fun hh => by have := hp _ _ hh; omega)]; exact a2
    · rw [f.1 _ _ (fun hh => by have := hp _ _ hh; omega)]; exact a4
    · rw [f.1 _ _ (fun hh => by have := hp _ _ hh; omega)]; exact a5
theorem CM.fr {g : Gh} {M M' : Mem} {s : MS} {P Q : Nat → Nat → Prop} (h : CM g M s) (f : Fr P Q M M') (hp : ∀ a k, P a k → ¬ (a = (gB g + 67) ∧ 4 ≤ k ∧ k ≤ 7) ∧ ¬ a = (gB g + 189)) : CM g M' s := by
  unfold CM; rw [f.1 _ _ (fun hh => by have := hp _ _ hh; omega), f.1 _ _ (fun hh => by have := hp _ _ hh; omega), f.1 _ _ (fun hh => by have := hp _ _ hh; omega), f.1 _ _ (fun hh => by have := hp _ _ hh; omega), f.1 _ _ (fun hh => by have := hp _ _ hh; omega), f.1 _ _ (fun hh => by have := hp _ _ hh; omega)]; exact h
theorem MM.fr {g : Gh} {M M' : Mem} {s : MS} {P Q : Nat → Nat → Prop} (h : MM g M s) (f : Fr P Q M M') (hp : ∀ a k, P a k → ¬ (a = (gB g + 195) ∧ 50 ≤ k ∧ k ≤ 55)) : MM g M' s := by
  unfold MM; rw [f.1 _ _ (fun hh => by have := hp _ _ hh; omega), f.1 _ _ (fun hh => by have := hp _ _ hh; omega), f.1 _ _ (fun hh => by have := hp _ _ hh; omega), f.1 _ _ (fun hh => by have := hp _ _ hh; omega), f.1 _ _ (fun hh => by have := hp _ _ hh; omega), f.1 _ _ (fun hh => by have := hp _ _ hh; omega)]; exact h
theorem IMo.fr {g : Gh} {M M' : Mem} {r : Nat} {L : LawT} {np n : Nat} {ev : Nat → EvT} {P Q : Nat → Nat → Prop} (h : IMo g M r L np n ev) (f : Fr P Q M M') (hp : ∀ a k, P a k → ¬ ((gB g + 67) ≤ a ∧ a ≤ (gB g + 189)) ∧ ¬ (a = (gB g + 195) ∧ 48 ≤ k ∧ k ≤ 55) ∧ ¬ ((gB g + 223) ≤ a ∧ a ≤ (gB g + 228))) : IMo g M' r L np n ev := by
  obtain ⟨h1, h2, h3, h4, h5, h6, h7, h8, h9, h10⟩ := h
  refine ⟨h1, ?_, ?_, by rw [f.R]; exact h4, h5, fun j hj => ⟨(h6 j hj).1.fr f (fun k hk hh => by have := hp _ _ hh; omega), (h6 j hj).2.1.fr f (fun a ha hh => by have := hp _ _ hh; omega), (h6 j hj).2.2⟩, h7.fr f (fun a k hh => by have := hp _ _ hh; omega), h8.fr f (fun a k hh => by have := hp _ _ hh; omega), fun j hj => ?_, fun j hj => ?_⟩
  · rw [f.1 _ _ (fun hh => by have := hp _ _ hh; omega)]; exact h2
  · rw [f.1 _ _ (fun hh => by have := hp _ _ hh; omega)]; exact h3
  · rw [f.1 _ _ (fun hh => by have := hp _ _ hh; omega), f.1 _ _ (fun hh => by have := hp _ _ hh; omega)]; exact h9 j hj
  · rw [f.1 _ _ (fun hh => by have := hp _ _ hh; omega), f.1 _ _ (fun hh => by have := hp _ _ hh; omega)]; exact h10 j hj
theorem IM.fr {g : Gh} {M M' : Mem} {r : Nat} {L : LawT} {np : Nat} {on : Bool} {P Q : Nat → Nat → Prop} (h : IM g M r L np on) (f : Fr P Q M M') (hp : ∀ a k, P a k → ¬ ((gB g + 67) ≤ a ∧ a ≤ (gB g + 189)) ∧ ¬ (a = (gB g + 195) ∧ 48 ≤ k ∧ k ≤ 55) ∧ ¬ ((gB g + 223) ≤ a ∧ a ≤ (gB g + 228))) : IM g M' r L np on := by
  refine ⟨?_, ?_, fun ho => ?_, fun ho => ?_⟩
  · rw [f.1 _ _ (fun hh => by have := hp _ _ hh; omega)]; exact h.1
  · rw [f.1 _ _ (fun hh => by have := hp _ _ hh; omega)]; exact h.2.1
  · rw [f.1 _ _ (fun hh => by have := hp _ _ hh; omega)]; exact h.2.2.1 ho
  · obtain ⟨n, ev, hm⟩ := h.2.2.2 ho
    exact ⟨n, ev, hm.fr f hp⟩
theorem IL.fr {g : Gh} {M M' : Mem} {P Q : Nat → Nat → Prop} (h : IL g M) (f : Fr P Q M M') (hp : ∀ a k, P a k → ¬ ((gB g + 190) ≤ a ∧ a ≤ (gB g + 194)) ∧ ¬ ((gB g + 229) ≤ a ∧ a ≤ (gB g + 232)) ∧ ¬ (a = (gB g + 195) ∧ k = 66)) : IL g M' := by
  refine ⟨fun t ht => ?_, ?_⟩
  · rw [f.1 _ _ (fun hh => by have := hp _ _ hh; omega), f.1 _ _ (fun hh => by have := hp _ _ hh; omega), f.1 _ _ (fun hh => by have := hp _ _ hh; omega), f.1 _ _ (fun hh => by have := hp _ _ hh; omega), f.1 _ _ (fun hh => by have := hp _ _ hh; omega), f.1 _ _ (fun hh => by have := hp _ _ hh; omega), f.1 _ _ (fun hh => by have := hp _ _ hh; omega), f.1 _ _ (fun hh => by have := hp _ _ hh; omega)]; exact h.1 t ht
  · rw [f.1 _ _ (fun hh => by have := hp _ _ hh; omega), f.1 _ _ (fun hh => by have := hp _ _ hh; omega)]; exact h.2
/-- places that nothing reads between calls -/
def TR (g : Gh) (nq r : Nat) : Nat → Nat → Prop := fun a k => (a = (gB g + 1) ∧ k ≠ 1) ∨ ((gB g + 3) ≤ a ∧ a ≤ (gB g + 47)) ∨ ((gB g + (104 - r)) ≤ a ∧ a ≤ (gB g + (109 - r))) ∨ (a = (gB g + 61) ∧ 4 ≤ k) ∨ a = (gB g + 63) ∨ a = (gB g + 64) ∨ a = (gB g + 66) ∨ (a = (gB g + 195) ∧ (k = 0 ∨ (3 ≤ k ∧ k ≤ 8) ∨ k = 10 ∨ k = 17 ∨ k = 18 ∨ k = 26 ∨ k = 28)) ∨ ((gB g + 207) ≤ a ∧ a ≤ (gB g + 209)) ∨ ((gB g + 215) ≤ a ∧ a ≤ (gB g + 219)) ∨ a = (gB g + 221) ∨ a = (gB g + 222) ∨ ((gB g + 197) ≤ a ∧ a ≤ (gB g + 199) ∧ 420 * nq ≤ k)
def TQ (g : Gh) (nq : Nat) : Nat → Nat → Prop := fun a k => a < (gB g + 200) ∨ ((gB g + 202) ≤ a ∧ a < (gB g + 234)) ∨ ((gB g + 200) ≤ a ∧ a ≤ (gB g + 201) ∧ 420 * nq ≤ k)
theorem Iv.fr {g : Gh} {M M' : Mem} {c nq : Nat} {qa : Nat → Nat} {r : Nat} {L : LawT} {np : Nat} {pn : Nat → Nat} {on : Bool} {P Q : Nat → Nat → Prop} (h : Iv g M c nq qa r L np pn on) (f : Fr P Q M M') (hP : ∀ a k, P a k → TR g nq r a k) (hQ : ∀ a k, Q a k → TQ g nq a k) : Iv g M' c nq qa r L np pn on := by
  obtain ⟨h1, h2, h3, h4, h5, h6, h7, h8⟩ := h
  have hr := h5.1.1
  have f' : Fr (TR g nq r) (TQ g nq) M M' := f.mono hP hQ
  refine ⟨f'.lay h1, h2.fr f' (fun a k hh => ?_), h3.fr f' (fun a k hh => ?_), h4.fr f' (fun a k hh => ?_) (fun a k hh => ?_), h5.fr f' (fun a k hh => ?_), h6.fr f' (fun a k hh => ?_), h7.fr f' (fun a k hh => ?_), h8.fr f' (fun a k hh => ?_)⟩
  · unfold TR at hh; omega
  · unfold TR at hh; omega
  · unfold TR at hh; have := h4.1; omega
  · unfold TQ at hh; omega
  · unfold TR at hh; omega
  · unfold TR at hh; omega
  · unfold TR at hh; omega
  · unfold TR at hh; omega
theorem Iv.up {g : Gh} {M : Mem} {c nq : Nat} {qa : Nat → Nat} {r : Nat} {L : LawT} {np : Nat} {pn : Nat → Nat} {on : Bool} (h : Iv g M c nq qa r L np pn on) : Iv g M (c + 1) nq qa r L np pn on := ⟨h.1, h.2.1, h.2.2.1, h.2.2.2.1.up, h.2.2.2.2⟩
theorem Iv.ex {g : Gh} {M : Mem} {c nq : Nat} {qa : Nat → Nat} {r : Nat} {L : LawT} {np : Nat} {pn : Nat → Nat} {on : Bool} (h : Iv g M c nq qa r L np pn on) : Inv g M c := ⟨nq, qa, r, L, np, pn, on, h⟩
theorem Iv.z {g : Gh} {M : Mem} {c nq : Nat} {qa : Nat → Nat} {r : Nat} {L : LawT} {np : Nat} {pn : Nat → Nat} {on : Bool} (h : Iv g M c nq qa r L np pn on) (v : Int32) : Iv g (uI M (gB g + 195) 0 v) c nq qa r L np pn on :=
  h.fr (P := fun a k => a = (gB g + 195) ∧ k = 0) (Q := nQ) (Fr.rf.uI ⟨rfl, rfl⟩) (fun a k hh => by unfold TR; omega) (fun a k hh => hh.elim)
