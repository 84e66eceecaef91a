/-! MEMORY: every cell from address B on, by its kind: objects 0..12 (vwCl), arrays 13 byte 14 int 15 long 16 short 17 boolean 18 Event 19 Frame 20 Question, 21 cells of which nothing is said.
mI: ints by address and slot (fields, and places of arrays); mJ: longs; mR: references; mK kinds; mN lengths; mT: the first free address -/
abbrev Mem : Type := (Nat → Nat → Int32) × (Nat → Nat → Int64) × (Nat → Nat → Option Nat) × (Nat → Nat) × (Nat → Nat) × Nat
def mI (M : Mem) : Nat → Nat → Int32 := M.1
def mJ (M : Mem) : Nat → Nat → Int64 := M.2.1
def mR (M : Mem) : Nat → Nat → Option Nat := M.2.2.1
def mK (M : Mem) : Nat → Nat := M.2.2.2.1
def mN (M : Mem) : Nat → Nat := M.2.2.2.2.1
def mT (M : Mem) : Nat := M.2.2.2.2.2
def up2 {α : Type} (f : Nat → Nat → α) (a k : Nat) (v : α) : Nat → Nat → α := fun b j => if b = a then (if j = k then v else f b j) else f b j
def uI (M : Mem) (a k : Nat) (v : Int32) : Mem := (up2 M.1 a k v, M.2)
def uJ (M : Mem) (a k : Nat) (v : Int64) : Mem := (M.1, up2 M.2.1 a k v, M.2.2)
def uR (M : Mem) (a k : Nat) (v : Option Nat) : Mem := (M.1, M.2.1, up2 M.2.2.1 a k v, M.2.2.2)
def nw (M : Mem) (kd n : Nat) : Mem := (va_up M.1 (mT M) (fun _ => 0), va_up M.2.1 (mT M) (fun _ => 0), va_up M.2.2.1 (mT M) (fun _ => none), va_up (mK M) (mT M) kd, va_up (mN M) (mT M) n, mT M + 1)
theorem up2_same {α : Type} (f : Nat → Nat → α) (a k : Nat) (v : α) : up2 f a k v a k = v := by simp [up2]
theorem up2_slot {α : Type} (f : Nat → Nat → α) (a k : Nat) (v : α) {b j : Nat} (h : j ≠ k) : up2 f a k v b j = f b j := by simp [up2, h]
theorem up2_addr {α : Type} (f : Nat → Nat → α) (a k : Nat) (v : α) {b j : Nat} (h : b ≠ a) : up2 f a k v b j = f b j := by simp [up2, h]
theorem up2_addr' {α : Type} (f : Nat → Nat → α) (a k : Nat) (v : α) {b : Nat} (h : b ≠ a) : up2 f a k v b = f b := by funext j; simp [up2, h]
theorem up2_row {α : Type} (f : Nat → Nat → α) (a k : Nat) (v : α) : up2 f a k v a = va_up (f a) k v := by funext j; simp [up2, va_up]
/-- the types of a class's slots: 0 int, 1 long, 2 a reference -/
def shp : Nat → List Nat
  | 0 => [0, 0, 0, 0, 0, 0]
  | 1 => [2, 2, 2]
  | 2 => [2, 2, 2, 0, 2, 2, 0, 0, 0, 0]
  | 3 => [2, 2, 2, 0, 2]
  | 4 => [0, 0, 2, 2, 2, 2, 2, 0, 0]
  | 5 => [2, 2, 2, 2, 0]
  | 6 => [0, 2, 2, 0, 0, 0, 0, 0, 2]
  | 7 => [2, 0, 2, 0, 2]
  | 8 => [0, 0, 0, 0, 2, 2, 2, 0, 2, 0, 2, 0, 0, 0, 0]
  | 9 => [0, 2, 0, 0, 0, 0]
  | 10 => [2, 0, 0, 0, 1, 0]
  | 11 => [2, 2, 2, 2, 0, 2, 2, 0, 2, 2, 2]
  | 12 => [0, 2, 0, 0, 0, 0, 0, 0, 1, 0, 0, 2, 2, 2, 2, 2, 0, 0, 0, 2, 2, 2, 2, 2, 2, 2, 0, 2, 0, 2, 2, 2, 2, 2, 2, 2, 2, 2, 2, 0, 0, 2, 2, 2, 0, 0, 0, 0, 0, 0, 0, 0, 0, 0, 0, 0, 2, 2, 2, 2, 2, 2, 2, 2, 2, 2, 0]
  | _ => []
def fvl (M : Mem) (a k t : Nat) : Value := if t = 0 then .int (mI M a k) else if t = 1 then .long (mJ M a k) else va_rf (mR M a k)
def fls (M : Mem) (a : Nat) : Nat → List Nat → List Value
  | _, [] => []
  | k, t :: r => fvl M a k t :: fls M a (k + 1) r
theorem fls_get (M : Mem) (a : Nat) : ∀ (sh : List Nat) (k0 k : Nat), (fls M a k0 sh)[k]? = (sh[k]?).map (fvl M a (k0 + k))
  | [], k0, k => by simp [fls]
  | t :: r, k0, 0 => by simp [fls]
  | t :: r, k0, k + 1 => by simp only [fls, List.getElem?_cons_succ]; rw [fls_get M a r (k0 + 1) k, show k0 + 1 + k = k0 + (k + 1) by omega]
theorem fls_len (M : Mem) (a : Nat) : ∀ (sh : List Nat) (k0 : Nat), (fls M a k0 sh).length = sh.length
  | [], _ => rfl
  | t :: r, k0 => by simp [fls, fls_len M a r (k0 + 1)]
theorem fls_congr {M M' : Mem} {a : Nat} (h : ∀ j t, fvl M' a j t = fvl M a j t) : ∀ (sh : List Nat) (k0 : Nat), fls M' a k0 sh = fls M a k0 sh
  | [], _ => rfl
  | t :: r, k0 => by simp [fls, h, fls_congr h r (k0 + 1)]
def mce (G : Nat → ClassId) (M : Mem) (a : Nat) : va_E :=
  if mK M a < 13 then .inr (mK M a, fls M a 0 (shp (mK M a)))
  else if mK M a = 15 then .inl (G 15, mN M a, .inr (.inl (mJ M a)))
  else if mK M a < 18 then .inl (G (mK M a), mN M a, .inl (mI M a))
  else .inl (G (mK M a), mN M a, .inr (.inr (.inr (.inr (mR M a)))))
def adr (M : Mem) (B : Nat) : List Nat := (List.range (mT M)).filter (fun a => decide (B ≤ a) && decide (mK M a ≠ 21))
def mw (G : Nat → ClassId) (M : Mem) (B : Nat) : va_W := va_pl (adr M B) (mce G M)
theorem adr_mem {M : Mem} {B a : Nat} : a ∈ adr M B ↔ a < mT M ∧ B ≤ a ∧ mK M a ≠ 21 := by simp [adr, List.mem_filter]
theorem adr_pw (M : Mem) (B : Nat) : (adr M B).Pairwise (· < ·) := List.Pairwise.filter _ List.pairwise_lt_range
theorem mw_D (G : Nat → ClassId) (M : Mem) (B : Nat) : va_D (fun q => B ≤ q) (mw G M B) := by
  constructor
  · intro i j p q hi hj hpq
    simp only [mw, va_pl, List.getElem?_map] at hi hj
    cases h1 : (adr M B)[i]? with
    | none => rw [h1] at hi; cases hi
    | some x =>
      cases h2 : (adr M B)[j]? with
      | none => rw [h2] at hj; cases hj
      | some y =>
        rw [h1] at hi; rw [h2] at hj
        cases hi; cases hj
        have hxy : x = y := hpq
        subst hxy
        obtain ⟨hi', e1⟩ := List.getElem?_eq_some_iff.mp h1
        obtain ⟨hj', e2⟩ := List.getElem?_eq_some_iff.mp h2
        have hpw := List.pairwise_iff_getElem.mp (adr_pw M B)
        rcases Nat.lt_trichotomy i j with h | h | h
        · have := hpw i j hi' hj' h; omega
        · exact h
        · have := hpw j i hj' hi' h; omega
  · intro k q hk
    simp only [mw, va_pl, List.getElem?_map] at hk
    cases h1 : (adr M B)[k]? with
    | none => rw [h1] at hk; cases hk
    | some x =>
      rw [h1] at hk; cases hk
      exact (adr_mem.mp (List.mem_of_getElem? h1)).2.1
def okc (B : Nat) (M : Mem) (a kd : Nat) : Prop := B ≤ a ∧ a < mT M ∧ mK M a = kd
def mle (M M' : Mem) : Prop := mT M ≤ mT M' ∧ ∀ a, a < mT M → mK M' a = mK M a ∧ mN M' a = mN M a
theorem mle_rf (M : Mem) : mle M M := ⟨Nat.le_refl _, fun _ _ => ⟨rfl, rfl⟩⟩
theorem mle_tr {A B C : Mem} (h : mle A B) (g : mle B C) : mle A C := ⟨Nat.le_trans h.1 g.1, fun a ha => ⟨(g.2 a (Nat.lt_of_lt_of_le ha h.1)).1.trans (h.2 a ha).1, (g.2 a (Nat.lt_of_lt_of_le ha h.1)).2.trans (h.2 a ha).2⟩⟩
theorem okc.up {B : Nat} {M M' : Mem} {a kd : Nat} (h : okc B M a kd) (g : mle M M') : okc B M' a kd := ⟨h.1, Nat.lt_of_lt_of_le h.2.1 g.1, (g.2 a h.2.1).1.trans h.2.2⟩
theorem mle_nw (M : Mem) (kd n : Nat) : mle M (nw M kd n) := ⟨Nat.le_succ _, fun a ha => by
  have h : a ≠ mT M := Nat.ne_of_lt ha
  exact ⟨va_up_ne _ _ h, va_up_ne _ _ h⟩⟩
theorem okc_nw (B : Nat) (M : Mem) (kd n : Nat) (hB : B ≤ mT M) : okc B (nw M kd n) (mT M) kd := ⟨hB, Nat.lt_succ_self _, va_up_self _ _ _⟩
theorem adr_nw (M : Mem) (B kd n : Nat) (hB : B ≤ mT M) (hk : kd ≠ 21) : adr (nw M kd n) B = adr M B ++ [mT M] := by
  show (List.range (mT M + 1)).filter _ = _
  rw [List.range_succ, List.filter_append]
  congr 1
  · apply List.filter_congr
    intro x hx
    have h : x ≠ mT M := Nat.ne_of_lt (List.mem_range.mp hx)
    show (decide (B ≤ x) && decide (va_up (mK M) (mT M) kd x ≠ 21)) = _
    rw [va_up_ne _ _ h]
  · show List.filter (fun a => decide (B ≤ a) && decide (va_up (mK M) (mT M) kd a ≠ 21)) [mT M] = [mT M]
    simp [List.filter, va_up_self, hB, hk]
theorem adr_nwX (M : Mem) (B n : Nat) : adr (nw M 21 n) B = adr M B := by
  show (List.range (mT M + 1)).filter _ = _
  rw [List.range_succ, List.filter_append]
  have e : List.filter (fun a => decide (B ≤ a) && decide (mK (nw M 21 n) a ≠ 21)) [mT M] = [] := by
    show List.filter (fun a => decide (B ≤ a) && decide (va_up (mK M) (mT M) 21 a ≠ 21)) [mT M] = []
    simp [List.filter, va_up_self]
  rw [e, List.append_nil]
  apply List.filter_congr
  intro x hx
  have h : x ≠ mT M := Nat.ne_of_lt (List.mem_range.mp hx)
  show (decide (B ≤ x) && decide (va_up (mK M) (mT M) 21 x ≠ 21)) = _
  rw [va_up_ne _ _ h]
theorem mce_nw (G : Nat → ClassId) (M : Mem) (kd n b : Nat) (h : b ≠ mT M) : mce G (nw M kd n) b = mce G M b := by
  have hK : mK (nw M kd n) b = mK M b := va_up_ne _ _ h
  have hN : mN (nw M kd n) b = mN M b := va_up_ne _ _ h
  have hI : mI (nw M kd n) b = mI M b := va_up_ne _ _ h
  have hJ : mJ (nw M kd n) b = mJ M b := va_up_ne _ _ h
  have hR : mR (nw M kd n) b = mR M b := va_up_ne _ _ h
  have hf : ∀ sh, fls (nw M kd n) b 0 sh = fls M b 0 sh := fun sh => fls_congr (fun j t => by simp only [fvl, hI, hJ, hR]) sh 0
  simp only [mce, hK, hN, hI, hJ, hR, hf]
theorem fls_uI (M : Mem) (a k : Nat) (v : Int32) : ∀ (sh : List Nat) (k0 : Nat) (i : Nat), k = k0 + i → sh[i]? = some 0 → fls (uI M a k v) a k0 sh = (fls M a k0 sh).set i (.int v)
  | [], k0, i, _, h => by simp at h
  | t :: r, k0, 0, hk, h => by
    have ht : t = 0 := by simpa using h
    subst ht
    have hk' : k = k0 := by omega
    show fvl (uI M a k v) a k0 0 :: fls (uI M a k v) a (k0 + 1) r = Value.int v :: fls M a (k0 + 1) r
    have e1 : fvl (uI M a k v) a k0 0 = Value.int v := by simp [fvl, mI, uI, up2, hk']
    have e2 : ∀ (r : List Nat) (k1 : Nat), k0 < k1 → fls (uI M a k v) a k1 r = fls M a k1 r := by
      intro r
      induction r with
      | nil => intro k1 _; rfl
      | cons t r ih =>
        intro k1 hk1
        show fvl (uI M a k v) a k1 t :: _ = fvl M a k1 t :: _
        rw [ih (k1 + 1) (by omega)]
        congr 1
        have hne : k1 ≠ k := by omega
        simp only [fvl, mI, mJ, mR, uI, up2_slot _ _ _ _ hne]
    rw [e1, e2 r (k0 + 1) (by omega)]
  | t :: r, k0, i + 1, hk, h => by
    have hne : k0 ≠ k := by omega
    show fvl (uI M a k v) a k0 t :: fls (uI M a k v) a (k0 + 1) r = fvl M a k0 t :: (fls M a (k0 + 1) r).set i (.int v)
    rw [fls_uI M a k v r (k0 + 1) i (by omega) (by simpa using h)]
    congr 1
    simp only [fvl, mI, mJ, mR, uI, up2_slot _ _ _ _ hne]
theorem fls_uJ (M : Mem) (a k : Nat) (v : Int64) : ∀ (sh : List Nat) (k0 : Nat) (i : Nat), k = k0 + i → sh[i]? = some 1 → fls (uJ M a k v) a k0 sh = (fls M a k0 sh).set i (.long v)
  | [], k0, i, _, h => by simp at h
  | t :: r, k0, 0, hk, h => by
    have ht : t = 1 := by simpa using h
    subst ht
    have hk' : k = k0 := by omega
    show fvl (uJ M a k v) a k0 1 :: fls (uJ M a k v) a (k0 + 1) r = Value.long v :: fls M a (k0 + 1) r
    have e1 : fvl (uJ M a k v) a k0 1 = Value.long v := by simp [fvl, mJ, uJ, up2, hk']
    have e2 : ∀ (r : List Nat) (k1 : Nat), k0 < k1 → fls (uJ M a k v) a k1 r = fls M a k1 r := by
      intro r
      induction r with
      | nil => intro k1 _; rfl
      | cons t r ih =>
        intro k1 hk1
        show fvl (uJ M a k v) a k1 t :: _ = fvl M a k1 t :: _
        rw [ih (k1 + 1) (by omega)]
        congr 1
        have hne : k1 ≠ k := by omega
        simp only [fvl, mI, mJ, mR, uJ, up2_slot _ _ _ _ hne]
    rw [e1, e2 r (k0 + 1) (by omega)]
  | t :: r, k0, i + 1, hk, h => by
    have hne : k0 ≠ k := by omega
    show fvl (uJ M a k v) a k0 t :: fls (uJ M a k v) a (k0 + 1) r = fvl M a k0 t :: (fls M a (k0 + 1) r).set i (.long v)
    rw [fls_uJ M a k v r (k0 + 1) i (by omega) (by simpa using h)]
    congr 1
    simp only [fvl, mI, mJ, mR, uJ, up2_slot _ _ _ _ hne]
theorem fls_uR (M : Mem) (a k : Nat) (v : Option Nat) : ∀ (sh : List Nat) (k0 : Nat) (i : Nat), k = k0 + i → sh[i]? = some 2 → fls (uR M a k v) a k0 sh = (fls M a k0 sh).set i (va_rf v)
  | [], k0, i, _, h => by simp at h
  | t :: r, k0, 0, hk, h => by
    have ht : t = 2 := by simpa using h
    subst ht
    have hk' : k = k0 := by omega
    show fvl (uR M a k v) a k0 2 :: fls (uR M a k v) a (k0 + 1) r = va_rf v :: fls M a (k0 + 1) r
    have e1 : fvl (uR M a k v) a k0 2 = va_rf v := by simp [fvl, mR, uR, up2, hk']
    have e2 : ∀ (r : List Nat) (k1 : Nat), k0 < k1 → fls (uR M a k v) a k1 r = fls M a k1 r := by
      intro r
      induction r with
      | nil => intro k1 _; rfl
      | cons t r ih =>
        intro k1 hk1
        show fvl (uR M a k v) a k1 t :: _ = fvl M a k1 t :: _
        rw [ih (k1 + 1) (by omega)]
        congr 1
        have hne : k1 ≠ k := by omega
        simp only [fvl, mI, mJ, mR, uR, up2_slot _ _ _ _ hne]
    rw [e1, e2 r (k0 + 1) (by omega)]
  | t :: r, k0, i + 1, hk, h => by
    have hne : k0 ≠ k := by omega
    show fvl (uR M a k v) a k0 t :: fls (uR M a k v) a (k0 + 1) r = fvl M a k0 t :: (fls M a (k0 + 1) r).set i (va_rf v)
    rw [fls_uR M a k v r (k0 + 1) i (by omega) (by simpa using h)]
    congr 1
    simp only [fvl, mI, mJ, mR, uR, up2_slot _ _ _ _ hne]
theorem mce_uI_o (G : Nat → ClassId) (M : Mem) (a k : Nat) (v : Int32) {ci : Nat} (hk : mK M a = ci) (hc : ci < 13) (ht : (shp ci)[k]? = some 0) (b : Nat) : va_up (mce G M) a (.inr (ci, (fls M a 0 (shp ci)).set k (.int v))) b = mce G (uI M a k v) b := by
  by_cases hb : b = a
  · subst hb
    have e : mK (uI M b k v) b = ci := hk
    rw [va_up_self, mce, if_pos (by rw [e]; exact hc), e, fls_uI M b k v (shp ci) 0 k (by omega) ht]
  · rw [va_up_ne _ _ hb]
    have hI : mI (uI M a k v) b = mI M b := up2_addr' _ _ _ _ hb
    have hf : ∀ sh, fls (uI M a k v) b 0 sh = fls M b 0 sh := fun sh => fls_congr (fun j t => by simp only [fvl, hI]; rfl) sh 0
    simp only [mce, hf, hI]; rfl
theorem mce_uJ_o (G : Nat → ClassId) (M : Mem) (a k : Nat) (v : Int64) {ci : Nat} (hk : mK M a = ci) (hc : ci < 13) (ht : (shp ci)[k]? = some 1) (b : Nat) : va_up (mce G M) a (.inr (ci, (fls M a 0 (shp ci)).set k (.long v))) b = mce G (uJ M a k v) b := by
  by_cases hb : b = a
  · subst hb
    have e : mK (uJ M b k v) b = ci := hk
    rw [va_up_self, mce, if_pos (by rw [e]; exact hc), e, fls_uJ M b k v (shp ci) 0 k (by omega) ht]
  · rw [va_up_ne _ _ hb]
    have hI : mJ (uJ M a k v) b = mJ M b := up2_addr' _ _ _ _ hb
    have hf : ∀ sh, fls (uJ M a k v) b 0 sh = fls M b 0 sh := fun sh => fls_congr (fun j t => by simp only [fvl, hI]; rfl) sh 0
    simp only [mce, hf, hI]; rfl
theorem mce_uR_o (G : Nat → ClassId) (M : Mem) (a k : Nat) (v : Option Nat) {ci : Nat} (hk : mK M a = ci) (hc : ci < 13) (ht : (shp ci)[k]? = some 2) (b : Nat) : va_up (mce G M) a (.inr (ci, (fls M a 0 (shp ci)).set k (va_rf v))) b = mce G (uR M a k v) b := by
  by_cases hb : b = a
  · subst hb
    have e : mK (uR M b k v) b = ci := hk
    rw [va_up_self, mce, if_pos (by rw [e]; exact hc), e, fls_uR M b k v (shp ci) 0 k (by omega) ht]
  · rw [va_up_ne _ _ hb]
    have hI : mR (uR M a k v) b = mR M b := up2_addr' _ _ _ _ hb
    have hf : ∀ sh, fls (uR M a k v) b 0 sh = fls M b 0 sh := fun sh => fls_congr (fun j t => by simp only [fvl, hI]; rfl) sh 0
    simp only [mce, hf, hI]; rfl
theorem mce_at_o {G : Nat → ClassId} {M : Mem} {a ci : Nat} (hk : mK M a = ci) (hc : ci < 13) : mce G M a = .inr (ci, fls M a 0 (shp ci)) := by
  rw [mce, if_pos (by rw [hk]; exact hc), hk]
theorem mce_at_i {G : Nat → ClassId} {M : Mem} {a kd : Nat} (hk : mK M a = kd) (h1 : 13 ≤ kd) (h2 : kd < 18) (h3 : kd ≠ 15) : mce G M a = .inl (G kd, mN M a, .inl (mI M a)) := by
  rw [mce, hk, if_neg (by omega), if_neg h3, if_pos h2]
theorem mce_at_j {G : Nat → ClassId} {M : Mem} {a : Nat} (hk : mK M a = 15) : mce G M a = .inl (G 15, mN M a, .inr (.inl (mJ M a))) := by
  rw [mce, hk, if_neg (by omega), if_pos rfl]
theorem mce_at_r {G : Nat → ClassId} {M : Mem} {a kd : Nat} (hk : mK M a = kd) (h1 : 18 ≤ kd) : mce G M a = .inl (G kd, mN M a, .inr (.inr (.inr (.inr (mR M a))))) := by
  rw [mce, hk, if_neg (by omega), if_neg (by omega), if_neg (by omega)]
theorem mce_uI_a (G : Nat → ClassId) (M : Mem) (a k : Nat) (v : Int32) {kd : Nat} (hk : mK M a = kd) (h1 : 13 ≤ kd) (h2 : kd < 18) (h3 : kd ≠ 15) (b : Nat) : va_up (mce G M) a (.inl (G kd, mN M a, .inl (upd (mI M a) k v))) b = mce G (uI M a k v) b := by
  by_cases hb : b = a
  · subst hb
    have e : mK (uI M b k v) b = kd := hk
    rw [va_up_self, mce_at_i e h1 h2 h3]
    have e2 : mI (uI M b k v) b = upd (mI M b) k v := up2_row _ _ _ _
    rw [e2]; rfl
  · rw [va_up_ne _ _ hb]
    have hI : mI (uI M a k v) b = mI M b := up2_addr' _ _ _ _ hb
    have hf : ∀ sh, fls (uI M a k v) b 0 sh = fls M b 0 sh := fun sh => fls_congr (fun j t => by simp only [fvl, hI]; rfl) sh 0
    simp only [mce, hf, hI]; rfl
theorem mce_uJ_a (G : Nat → ClassId) (M : Mem) (a k : Nat) (v : Int64) (hk : mK M a = 15) (b : Nat) : va_up (mce G M) a (.inl (G 15, mN M a, .inr (.inl (vp_updL (mJ M a) k v)))) b = mce G (uJ M a k v) b := by
  by_cases hb : b = a
  · subst hb
    have e : mK (uJ M b k v) b = 15 := hk
    rw [va_up_self, mce_at_j e]
    have e2 : mJ (uJ M b k v) b = vp_updL (mJ M b) k v := up2_row _ _ _ _
    rw [e2]; rfl
  · rw [va_up_ne _ _ hb]
    have hI : mJ (uJ M a k v) b = mJ M b := up2_addr' _ _ _ _ hb
    have hf : ∀ sh, fls (uJ M a k v) b 0 sh = fls M b 0 sh := fun sh => fls_congr (fun j t => by simp only [fvl, hI]; rfl) sh 0
    simp only [mce, hf, hI]; rfl
theorem mce_uR_a (G : Nat → ClassId) (M : Mem) (a k : Nat) (v : Option Nat) {kd : Nat} (hk : mK M a = kd) (h1 : 18 ≤ kd) (b : Nat) : va_up (mce G M) a (.inl (G kd, mN M a, .inr (.inr (.inr (.inr (va_up (mR M a) k v)))))) b = mce G (uR M a k v) b := by
  by_cases hb : b = a
  · subst hb
    have e : mK (uR M b k v) b = kd := hk
    rw [va_up_self, mce_at_r e h1]
    have e2 : mR (uR M b k v) b = va_up (mR M b) k v := up2_row _ _ _ _
    rw [e2]; rfl
  · rw [va_up_ne _ _ hb]
    have hI : mR (uR M a k v) b = mR M b := up2_addr' _ _ _ _ hb
    have hf : ∀ sh, fls (uR M a k v) b 0 sh = fls M b 0 sh := fun sh => fls_congr (fun j t => by simp only [fvl, hI]; rfl) sh 0
    simp only [mce, hf, hI]; rfl
/-- the place of a cell in the world -/
theorem mw_get {G : Nat → ClassId} {M : Mem} {B a kd : Nat} (h : okc B M a kd) (hk : kd ≠ 21) : ∃ q : Nat, (mw G M B)[q]? = some (a, mce G M a) := by
  have hm : a ∈ adr M B := adr_mem.mpr ⟨h.2.1, h.1, by rw [h.2.2]; exact hk⟩
  exact va_pl_get (X := []) hm
theorem mw_set {G : Nat → ClassId} {M M' : Mem} {B a kd q : Nat} {e : va_E} (h : okc B M a kd) (hk : kd ≠ 21) (hq : (mw G M B)[q]? = some (a, mce G M a)) (ha : adr M' B = adr M B) (he : ∀ b, va_up (mce G M) a e b = mce G M' b) : (mw G M B).set q (a, e) = mw G M' B := by
  have hm : a ∈ adr M B := adr_mem.mpr ⟨h.2.1, h.1, by rw [h.2.2]; exact hk⟩
  have := va_pl_set (X := []) (A := fun q => B ≤ q) (f := mce G M) (e := e) (mw_D G M B) hm hq
  have e2 : mw G M' B = va_pl (adr M B) (va_up (mce G M) a e) := by rw [mw, ha]; exact (va_pl_congr he).symm
  rw [e2]
  exact this
