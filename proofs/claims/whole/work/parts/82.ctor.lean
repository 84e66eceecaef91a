/-! PURE: the constructors -/
def lkp : List (Nat × Nat × Nat) → Nat → Nat → Option Nat
  | [], _, _ => none
  | r :: l, i, k => if r.1 = i ∧ r.2.1 = k then some r.2.2 else lkp l i k
/-- the first n cells are made; references as R has them; no int is set -/
def C0 (g : Gh) (M : Mem) (n : Nat) (R : List (Nat × Nat × Nat)) : Prop := mT M = gB g + n ∧ (∀ i, i < n → mK M (gB g + (i)) = (KT.getD i (0, 0)).1 ∧ mN M (gB g + (i)) = (KT.getD i (0, 0)).2) ∧ (∀ i k, i < n → mI M (gB g + (i)) k = 0) ∧ (∀ i k, i < n → mR M (gB g + (i)) k = (lkp R i k).map (fun j => (gB g + (j)))) ∧ ∀ r ∈ R, r.1 < n
theorem lkp_lt {R : List (Nat × Nat × Nat)} {n : Nat} (h : ∀ r ∈ R, r.1 < n) (k : Nat) : lkp R n k = none := by
  induction R with
  | nil => rfl
  | cons r l ih =>
    have h1 := h r List.mem_cons_self
    show (if r.1 = n ∧ r.2.1 = k then some r.2.2 else lkp l n k) = none
    rw [if_neg (by omega)]
    exact ih (fun x hx => h x (List.mem_cons_of_mem _ hx))
theorem c_new {g : Gh} {M : Mem} {n : Nat} {R : List (Nat × Nat × Nat)} {kd len : Nat} (h : C0 g M n R) (hk : KT.getD n (0, 0) = (kd, len)) {post : Nat → Mem → Prop} (hp : ∀ M', C0 g M' (n + 1) R → post (gB g + (n)) M') : ∀ q M', q = mT M → M' = nw M kd len → post q M' := by
  obtain ⟨h1, h2, h3, h4, h5⟩ := h
  rintro q M' rfl rfl
  rw [h1]
  have hne : ∀ i, i < n → (gB g + (i)) ≠ mT M := fun i hi => by omega
  refine hp _ ⟨?_, fun i hi => ?_, fun i k hi => ?_, fun i k hi => ?_, fun r hr => Nat.lt_succ_of_lt (h5 r hr)⟩
  · show mT M + 1 = _; omega
  · by_cases e : i = n
    · subst e
      have w := nw_new M kd len
      rw [h1] at w
      rw [hk]; exact ⟨w.1, w.2.1⟩
    · have hi' : i < n := by omega
      exact ⟨(va_up_ne _ _ (hne i hi')).trans (h2 i hi').1, (va_up_ne _ _ (hne i hi')).trans (h2 i hi').2⟩
  · by_cases e : i = n
    · subst e; rw [← h1]; exact nw_z M kd len k
    · have hi' : i < n := by omega
      show va_up M.1 (mT M) (fun _ => 0) (gB g + (i)) k = 0
      rw [va_up_ne _ _ (hne i hi')]; exact h3 i k hi'
  · by_cases e : i = n
    · subst e
      show va_up M.2.2.1 (mT M) (fun _ => none) (gB g + (i)) k = _
      rw [← h1, va_up_self, lkp_lt h5]; rfl
    · have hi' : i < n := by omega
      show va_up M.2.2.1 (mT M) (fun _ => none) (gB g + (i)) k = _
      rw [va_up_ne _ _ (hne i hi')]; exact h4 i k hi'
theorem c_ref {g : Gh} {M : Mem} {n : Nat} {R : List (Nat × Nat × Nat)} {i k j : Nat} (h : C0 g M n R) (hi : i < n) {post : Mem → Prop} (hp : ∀ M', C0 g M' n ((i, k, j) :: R) → post M') : ∀ M', M' = uR M (gB g + (i)) k (some (gB g + (j))) → post M' := by
  obtain ⟨h1, h2, h3, h4, h5⟩ := h
  rintro M' rfl
  refine hp _ ⟨h1, h2, h3, fun a b ha => ?_, fun r hr => (List.mem_cons.mp hr).elim (fun e => by rw [e]; exact hi) (h5 r)⟩
  show _ = (if i = a ∧ k = b then some j else lkp R a b).map (fun j => (gB g + (j)))
  by_cases e : i = a ∧ k = b
  · obtain ⟨rfl, rfl⟩ := e
    rw [if_pos ⟨rfl, rfl⟩, uR_eq]; rfl
  · rw [if_neg e, uR_ne _ _ _ _ (by omega)]; exact h4 a b ha
theorem c_int {g : Gh} {M : Mem} {n : Nat} {R : List (Nat × Nat × Nat)} {a k : Nat} (h : C0 g M n R) {post : Mem → Prop} (hp : ∀ M', C0 g M' n R → post M') : ∀ M', M' = uI M a k 0 → post M' := by
  obtain ⟨h1, h2, h3, h4, h5⟩ := h
  rintro M' rfl
  refine hp _ ⟨h1, h2, fun i b hi => ?_, h4, h5⟩
  rw [s_II]
  split
  · split
    · rfl
    · exact h3 i b hi
  · exact h3 i b hi
theorem c_ok {g : Gh} {M : Mem} {n : Nat} {R : List (Nat × Nat × Nat)} {i kd : Nat} (h : C0 g M n R) (hi : i < n) (hk : (KT.getD i (0, 0)).1 = kd) : okc (gB g) M (gB g + (i)) kd := ⟨Nat.le_add_right _ _, by rw [h.1]; omega, (h.2.1 i hi).1.trans hk⟩
theorem c_rd {g : Gh} {M : Mem} {n : Nat} {R : List (Nat × Nat × Nat)} {i k j : Nat} (h : C0 g M n R) (hi : i < n) (hk : lkp R i k = some j) : mR M (gB g + (i)) k = some (gB g + (j)) := by rw [h.2.2.2.1 i k hi, hk]; rfl
theorem c_len {g : Gh} {M : Mem} {n : Nat} {R : List (Nat × Nat × Nat)} {i len : Nat} (h : C0 g M n R) (hi : i < n) (hk : (KT.getD i (0, 0)).2 = len) : mN M (gB g + (i)) = len := (h.2.1 i hi).2.trans hk
def evR : Nat → List (Nat × Nat × Nat) → List (Nat × Nat × Nat)
  | 0, R => R
  | i + 1, R => (68, i, 69 + i) :: evR i R
theorem lkp_ev {R : List (Nat × Nat × Nat)} {a b : Nat} (h : a ≠ 68) : ∀ i, lkp (evR i R) a b = lkp R a b
  | 0 => rfl
  | i + 1 => by
    show (if 68 = a ∧ i = b then some (69 + i) else lkp (evR i R) a b) = _
    rw [if_neg (by omega)]; exact lkp_ev h i
theorem c_ev {g : Gh} {M Ms : Mem} {R : List (Nat × Nat × Nat)} {a1 : Nat} {post : Mem → Prop} (h : C0 g M 69 R) (hR : lkp R 67 2 = some 68) (hq : ∀ M', C0 g M' 189 (evR 120 R) → lb_X6_init_50 g Ms (gB g + 67) a1 post M' 121 840) : ∃ n, lfp (fun bk z => bd_X6_init_25 g Ms (gB g + 67) a1 post bk z.1 z.2.1 z.2.2.1 z.2.2.2) n (0, M, (0 + 1), (0 + 120)) := by
  refine lfp_up (fun i s => ∃ M', s = (nI i, M', 1 + i, 120 + 6 * i) ∧ C0 g M' (69 + i) (evR i R)) 120 ?_ ?_ 0 _ (by omega) ⟨M, rfl, h⟩
  · rintro bk s ⟨M', rfl, h'⟩
    exact ⟨fun _ => hq M' h', fun hx => absurd (show (120 : Int32) ≤ nI 120 by decide) hx⟩
  · rintro bk i s hi ⟨M', rfl, h'⟩ hb
    refine ⟨fun hx => absurd (show nI 120 ≤ nI i from hx) (nI_ge hi (by decide)), fun _ => ⟨_, c_rd h' (i := 67) (k := 2) (by omega) ((lkp_ev (by decide) i).trans hR), ⟨by show 1 + i + 1 ≤ 122; omega, by show 120 + 6 * i + 6 ≤ 842; omega⟩, ?_⟩⟩
    refine c_new h' (kt_ev i hi).1 (fun M2 h2 => ⟨⟨by show 1 + i + 1 ≤ 122; omega, by show 120 + 6 * i + 6 ≤ 842; omega⟩, c_ok h2 (by omega) (by rw [(kt_ev i hi).1]), c_ok h2 (i := 68) (by omega) rfl, ?_, ?_⟩)
    · rw [c_len h2 (i := 68) (len := 120) (by omega) rfl]; exact pk_in i 120 hi
    · have hc : Int32.toNatClampNeg (nI i) = i := nI_cl i (by omega)
      show ∀ M24, M24 = uR M2 (gB g + 68) (Int32.toNatClampNeg (nI i)) (some (gB g + (69 + i))) → _
      rw [hc]
      refine c_ref h2 (i := 68) (by omega) (fun M3 h3 => hb _ ⟨M3, ?_, h3⟩)
      show (nI i + 1, M3, 1 + i + 1, 120 + 6 * i + 6) = (nI (i + 1), M3, 1 + (i + 1), 120 + 6 * (i + 1))
      rw [nI_1, show 1 + i + 1 = 1 + (i + 1) by omega, show 120 + 6 * i + 6 = 120 + 6 * (i + 1) by omega]
def frR : Nat → List (Nat × Nat × Nat) → List (Nat × Nat × Nat)
  | 0, R => R
  | d + 1, R => (11, d, 12 + 5 * d) :: (12 + 5 * d, 4, 12 + 5 * d + 4) :: (12 + 5 * d, 2, 12 + 5 * d + 3) :: (12 + 5 * d, 1, 12 + 5 * d + 2) :: (12 + 5 * d, 0, 12 + 5 * d + 1) :: frR d R
theorem lkp_fr {R : List (Nat × Nat × Nat)} {a b : Nat} (h : a < 11) : ∀ i, lkp (frR i R) a b = lkp R a b
  | 0 => rfl
  | d + 1 => by
    have e : ∀ (r : Nat × Nat × Nat) (l : List (Nat × Nat × Nat)), r.1 ≠ a → lkp (r :: l) a b = lkp l a b := fun r l hn => if_neg (fun hx => hn hx.1)
    show lkp ((11, d, 12 + 5 * d) :: (12 + 5 * d, 4, 12 + 5 * d + 4) :: (12 + 5 * d, 2, 12 + 5 * d + 3) :: (12 + 5 * d, 1, 12 + 5 * d + 2) :: (12 + 5 * d, 0, 12 + 5 * d + 1) :: frR d R) a b = _
    rw [e _ _ (by show 11 ≠ a; omega), e _ _ (by show 12 + 5 * d ≠ a; omega), e _ _ (by show 12 + 5 * d ≠ a; omega), e _ _ (by show 12 + 5 * d ≠ a; omega), e _ _ (by show 12 + 5 * d ≠ a; omega)]
    exact lkp_fr h d
theorem kt_fr : ∀ d, d < 7 → KT.getD (12 + 5 * d) (0, 0) = (3, 0) ∧ KT.getD (12 + 5 * d + 1) (0, 0) = (14, 21) ∧ KT.getD (12 + 5 * d + 1 + 1) (0, 0) = (14, 21) ∧ KT.getD (12 + 5 * d + 1 + 1 + 1) (0, 0) = (14, 105) ∧ KT.getD (12 + 5 * d + 1 + 1 + 1 + 1) (0, 0) = (14, 32) := by decide +kernel
theorem c_fr {g : Gh} {M Ms : Mem} {R : List (Nat × Nat × Nat)} {post : Mem → Prop} (h : C0 g M 12 R) (hR : lkp R 9 2 = some 11) (hq : ∀ M', C0 g M' 47 (frR 7 R) → lb_X7_init_56 g Ms (gB g + 9) post M' 37 1315) : ∃ n, lfp (fun bk z => bd_X7_init_28 g Ms (gB g + 9) post bk z.1 z.2.1 z.2.2.1 z.2.2.2) n (0, M, ((0 + 1) + 1), ((0 + 20) + 7)) := by
  refine lfp_up (fun d s => ∃ M', s = (nI d, M', 2 + 5 * d, 27 + 184 * d) ∧ C0 g M' (12 + 5 * d) (frR d R)) 7 ?_ ?_ 0 _ (by omega) ⟨M, rfl, h⟩
  · rintro bk s ⟨M', rfl, h'⟩
    refine ⟨_, c_rd h' (i := 9) (k := 2) (by omega) ((lkp_fr (by decide) 7).trans hR), c_ok h' (i := 11) (by omega) rfl, ?_⟩
    rw [c_len h' (i := 11) (len := 7) (by omega) rfl]
    exact ⟨fun _ => hq M' h', fun hx => absurd (show nI 7 ≤ nI 7 by decide) hx⟩
  · rintro bk d s hd ⟨M', rfl, h'⟩ hb
    obtain ⟨k0, k1, k2, k3, k4⟩ := kt_fr d hd
    refine ⟨_, c_rd h' (i := 9) (k := 2) (by omega) ((lkp_fr (by decide) d).trans hR), c_ok h' (i := 11) (by omega) rfl, ?_⟩
    rw [c_len h' (i := 11) (len := 7) (by omega) rfl]
    refine ⟨fun hx => absurd hx (nI_ge hd (by decide)), fun _ => ⟨⟨by show 2 + 5 * d + 1 ≤ 38; omega, by show 27 + 184 * d + 5 ≤ 1336; omega⟩, ?_⟩⟩
    refine c_new h' k0 (fun M2 h2 => ⟨⟨by show 2 + 5 * d + 1 + 4 ≤ 38; omega, by show 27 + 184 * d + 5 + 179 ≤ 1336; omega⟩, c_ok h2 (by omega) (by rw [k0]), ?_⟩)
    refine c_new h2 k1 (fun M3 h3 => c_ref h3 (by omega) (fun M4 h4 => c_new h4 k2 (fun M5 h5 => c_ref h5 (by omega) (fun M6 h6 => c_new h6 k3 (fun M7 h7 => c_ref h7 (by omega) (fun M8 h8 => c_int h8 (fun M9 h9 => c_new h9 k4 (fun M10 h10 => c_ref h10 (by omega) (fun M11 h11 => ⟨?_, ?_⟩)))))))))
    · rw [c_len h11 (i := 11) (len := 7) (by omega) rfl]; exact pk_in d 7 hd
    · have hc : Int32.toNatClampNeg (nI d) = d := nI_cl d (by omega)
      show ∀ M26, M26 = uR M11 (gB g + 11) (Int32.toNatClampNeg (nI d)) (some (gB g + (12 + 5 * d))) → _
      rw [hc]
      refine c_ref h11 (i := 11) (by omega) (fun M12 h12 => hb _ ⟨M12, ?_, h12⟩)
      show (nI d + 1, M12, 2 + 5 * d + 1 + 4, 27 + 184 * d + 5 + 179) = (nI (d + 1), M12, 2 + 5 * (d + 1), 27 + 184 * (d + 1))
      rw [nI_1, show 2 + 5 * d + 1 + 4 = 2 + 5 * (d + 1) by omega, show 27 + 184 * d + 5 + 179 = 27 + 184 * (d + 1) by omega]
theorem c_inv {g : Gh} {M : Mem} {R : List (Nat × Nat × Nat)} (h : C0 g M 234 R) (hR : ∀ r ∈ RT, lkp R r.1 r.2.1 = some r.2.2) (h5 : lkp R 0 5 = some 49) (h6 : lkp R 0 6 = some 55) (hr : ∀ r ∈ RT, r.1 < 234) : Inv g M 0 := by
  have z : ∀ i k, i < 234 → mI M (gB g + (i)) k = 0 := h.2.2.1
  have l : Lay g M := ⟨by rw [h.1]; exact Nat.le_refl _, h.2.1, fun r hr' => c_rd h (hr r hr') (hR r hr')⟩
  have hL : LawOK (0, 0, (fun _ => 0), (fun _ => false), (fun _ => 0), (fun _ => 0), (fun _ => 0)) := ⟨by decide, fun k hk => absurd hk (Nat.not_lt_zero k), rfl⟩
  refine ⟨0, fun _ => 0, 49, (0, 0, (fun _ => 0), (fun _ => false), (fun _ => 0), (fun _ => 0), (fun _ => 0)), 0, fun _ => 0, false, l, ⟨0, fun _ => 0, by omega, z 1 1 (by decide), z 195 2 (by decide), fun i hi => ⟨z 2 i (by decide), z 196 i (by decide)⟩, fun i => by show 0 < 256; decide⟩, ?_, ⟨by decide, z 0 4 (by decide), z 195 16 (by decide), fun q hq => absurd hq (Nat.not_lt_zero q), fun q q' hq => absurd hq (Nat.not_lt_zero q)⟩, ⟨⟨Or.inl rfl, hL, z 49 0 (by decide), z 49 1 (by decide), fun k hk => absurd hk (Nat.not_lt_zero k)⟩, ⟨hL, z 195 39 (by decide), z 195 40 (by decide), fun k hk => absurd hk (Nat.not_lt_zero k)⟩, c_rd h (i := 0) (by decide) h5, c_rd h (i := 0) (by decide) h6⟩, ⟨by decide, z 61 2 (by decide), z 195 44 (by decide), ?_, fun hx => absurd hx (Nat.lt_irrefl 0), fun k hk => absurd hk (Nat.not_lt_zero k)⟩, ⟨z 67 0 (by decide), z 195 48 (by decide), fun _ => z 67 3 (by decide), fun hx => by cases hx⟩, ⟨fun t ht => ⟨?_, ?_, ?_, ?_⟩, ?_⟩⟩
  · exact (z 0 7 (by decide)).trans (z 195 9 (by decide)).symm
  · exact (z 61 3 (by decide)).trans (z 195 45 (by decide)).symm
  · exact (z 191 t (by decide)).trans (z 229 t (by decide)).symm
  · exact (z 192 t (by decide)).trans (z 230 t (by decide)).symm
  · exact (z 193 t (by decide)).trans (z 231 t (by decide)).symm
  · exact (z 194 t (by decide)).trans (z 232 t (by decide)).symm
  · exact (z 190 4 (by decide)).trans (z 195 66 (by decide)).symm
set_option maxRecDepth 100000 in
set_option maxHeartbeats 4000000 in
theorem c_law {g : Gh} {M : Mem} (h0 : mT M = gB g) {Z : Mem → Prop} (hz : ∀ M', Inv g M' 0 → mT M' = (gB g + 234) → Z M') : ∀ q M1, q = mT M → M1 = nw M 11 0 → wp_X11_init g M1 q (fun M2 => mT M2 = (gB g + 195) ∧ ∀ q2 M3, q2 = mT M2 → M3 = nw M2 12 0 → wp_X12_init g M3 q2 (fun M4 => mT M4 = (gB g + 233) ∧ ∀ q3 M5, q3 = mT M4 → M5 = nw M4 15 1 → Z M5)) := by
  have h : C0 g M 0 [] := ⟨h0, fun i hi => absurd hi (by omega), fun i k hi => absurd hi (by omega), fun i k hi => absurd hi (by omega), fun r hr => by cases hr⟩
  refine c_new (n := 0) (kd := 11) (len := 0) h rfl (fun M1 h => ?_)
  refine ⟨c_ok (n := 1) (i := 0) h (by decide) rfl, ?_⟩
  refine c_new (n := 1) (kd := 10) (len := 0) h rfl (fun M2 h => ?_)
  refine ⟨c_ok (n := 2) (i := 1) h (by decide) rfl, ?_⟩
  refine c_new (n := 2) (kd := 16) (len := 260) h rfl (fun M3 h => ?_)
  refine c_ref (n := 3) (i := 1) (k := 0) (j := 2) h (by decide) (fun M4 h => ?_)
  refine c_int (n := 3) h (fun M5 h => ?_)
  refine c_ref (n := 3) (i := 0) (k := 0) (j := 1) h (by decide) (fun M6 h => ?_)
  refine c_new (n := 3) (kd := 2) (len := 0) h rfl (fun M7 h => ?_)
  refine ⟨c_ok (n := 4) (i := 3) h (by decide) rfl, ?_⟩
  refine c_new (n := 4) (kd := 13) (len := 200) h rfl (fun M8 h => ?_)
  refine c_ref (n := 5) (i := 3) (k := 0) (j := 4) h (by decide) (fun M9 h => ?_)
  refine c_new (n := 5) (kd := 15) (len := 200) h rfl (fun M10 h => ?_)
  refine c_ref (n := 6) (i := 3) (k := 1) (j := 5) h (by decide) (fun M11 h => ?_)
  refine c_new (n := 6) (kd := 15) (len := 200) h rfl (fun M12 h => ?_)
  refine c_ref (n := 7) (i := 3) (k := 2) (j := 6) h (by decide) (fun M13 h => ?_)
  refine c_new (n := 7) (kd := 14) (len := 6) h rfl (fun M14 h => ?_)
  refine c_ref (n := 8) (i := 3) (k := 4) (j := 7) h (by decide) (fun M15 h => ?_)
  refine c_new (n := 8) (kd := 14) (len := 6) h rfl (fun M16 h => ?_)
  refine c_ref (n := 9) (i := 3) (k := 5) (j := 8) h (by decide) (fun M17 h => ?_)
  refine c_ref (n := 9) (i := 0) (k := 1) (j := 3) h (by decide) (fun M18 h => ?_)
  refine c_new (n := 9) (kd := 7) (len := 0) h rfl (fun M19 h => ?_)
  refine ⟨c_ok (n := 10) (i := 9) h (by decide) rfl, ?_⟩
  refine ⟨⟨by decide, by decide⟩, ?_⟩
  refine c_new (n := 10) (kd := 15) (len := 20) h rfl (fun M20 h => ?_)
  refine c_ref (n := 11) (i := 9) (k := 0) (j := 10) h (by decide) (fun M21 h => ?_)
  refine c_int (n := 11) h (fun M22 h => ?_)
  refine ⟨⟨by decide, by decide⟩, ?_⟩
  refine c_new (n := 11) (kd := 19) (len := 7) h rfl (fun M23 h => ?_)
  refine c_ref (n := 12) (i := 9) (k := 2) (j := 11) h (by decide) (fun M24 h => ?_)
  refine c_fr h rfl (fun M25 h => ?_)
  refine c_int (n := 47) h (fun M26 h => ?_)
  refine ⟨⟨by decide, by decide⟩, ?_⟩
  refine c_new (n := 47) (kd := 14) (len := 21) h rfl (fun M27 h => ?_)
  refine c_ref (n := 48) (i := 9) (k := 4) (j := 47) h (by decide) (fun M28 h => ?_)
  refine ⟨⟨by decide, by decide⟩, ?_⟩
  refine c_ref (n := 48) (i := 0) (k := 2) (j := 9) h (by decide) (fun M29 h => ?_)
  refine c_new (n := 48) (kd := 20) (len := 60) h rfl (fun M30 h => ?_)
  refine c_ref (n := 49) (i := 0) (k := 3) (j := 48) h (by decide) (fun M31 h => ?_)
  refine c_int (n := 49) h (fun M32 h => ?_)
  refine c_new (n := 49) (kd := 4) (len := 0) h rfl (fun M33 h => ?_)
  refine ⟨c_ok (n := 50) (i := 49) h (by decide) rfl, ?_⟩
  refine c_new (n := 50) (kd := 14) (len := 6) h rfl (fun M34 h => ?_)
  refine c_ref (n := 51) (i := 49) (k := 2) (j := 50) h (by decide) (fun M35 h => ?_)
  refine c_new (n := 51) (kd := 17) (len := 6) h rfl (fun M36 h => ?_)
  refine c_ref (n := 52) (i := 49) (k := 3) (j := 51) h (by decide) (fun M37 h => ?_)
  refine c_new (n := 52) (kd := 14) (len := 6) h rfl (fun M38 h => ?_)
  refine c_ref (n := 53) (i := 49) (k := 4) (j := 52) h (by decide) (fun M39 h => ?_)
  refine c_new (n := 53) (kd := 14) (len := 6) h rfl (fun M40 h => ?_)
  refine c_ref (n := 54) (i := 49) (k := 5) (j := 53) h (by decide) (fun M41 h => ?_)
  refine c_new (n := 54) (kd := 14) (len := 6) h rfl (fun M42 h => ?_)
  refine c_ref (n := 55) (i := 49) (k := 6) (j := 54) h (by decide) (fun M43 h => ?_)
  refine c_ref (n := 55) (i := 0) (k := 5) (j := 49) h (by decide) (fun M44 h => ?_)
  refine c_new (n := 55) (kd := 4) (len := 0) h rfl (fun M45 h => ?_)
  refine ⟨c_ok (n := 56) (i := 55) h (by decide) rfl, ?_⟩
  refine c_new (n := 56) (kd := 14) (len := 6) h rfl (fun M46 h => ?_)
  refine c_ref (n := 57) (i := 55) (k := 2) (j := 56) h (by decide) (fun M47 h => ?_)
  refine c_new (n := 57) (kd := 17) (len := 6) h rfl (fun M48 h => ?_)
  refine c_ref (n := 58) (i := 55) (k := 3) (j := 57) h (by decide) (fun M49 h => ?_)
  refine c_new (n := 58) (kd := 14) (len := 6) h rfl (fun M50 h => ?_)
  refine c_ref (n := 59) (i := 55) (k := 4) (j := 58) h (by decide) (fun M51 h => ?_)
  refine c_new (n := 59) (kd := 14) (len := 6) h rfl (fun M52 h => ?_)
  refine c_ref (n := 60) (i := 55) (k := 5) (j := 59) h (by decide) (fun M53 h => ?_)
  refine c_new (n := 60) (kd := 14) (len := 6) h rfl (fun M54 h => ?_)
  refine c_ref (n := 61) (i := 55) (k := 6) (j := 60) h (by decide) (fun M55 h => ?_)
  refine c_ref (n := 61) (i := 0) (k := 6) (j := 55) h (by decide) (fun M56 h => ?_)
  refine c_int (n := 61) h (fun M57 h => ?_)
  refine c_new (n := 61) (kd := 8) (len := 0) h rfl (fun M58 h => ?_)
  refine ⟨c_ok (n := 62) (i := 61) h (by decide) rfl, ?_⟩
  refine c_new (n := 62) (kd := 14) (len := 60) h rfl (fun M59 h => ?_)
  refine c_ref (n := 63) (i := 61) (k := 4) (j := 62) h (by decide) (fun M60 h => ?_)
  refine c_new (n := 63) (kd := 14) (len := 60) h rfl (fun M61 h => ?_)
  refine c_ref (n := 64) (i := 61) (k := 5) (j := 63) h (by decide) (fun M62 h => ?_)
  refine c_new (n := 64) (kd := 14) (len := 60) h rfl (fun M63 h => ?_)
  refine c_ref (n := 65) (i := 61) (k := 6) (j := 64) h (by decide) (fun M64 h => ?_)
  refine c_new (n := 65) (kd := 14) (len := 48) h rfl (fun M65 h => ?_)
  refine c_ref (n := 66) (i := 61) (k := 8) (j := 65) h (by decide) (fun M66 h => ?_)
  refine c_new (n := 66) (kd := 14) (len := 8) h rfl (fun M67 h => ?_)
  refine c_ref (n := 67) (i := 61) (k := 10) (j := 66) h (by decide) (fun M68 h => ?_)
  refine c_ref (n := 67) (i := 0) (k := 8) (j := 61) h (by decide) (fun M69 h => ?_)
  refine c_new (n := 67) (kd := 6) (len := 0) h rfl (fun M70 h => ?_)
  refine ⟨_, c_rd (n := 68) (i := 0) (k := 5) (j := 49) h (by decide) rfl, ?_⟩
  refine ⟨c_ok (n := 68) (i := 67) h (by decide) rfl, ?_⟩
  refine c_int (n := 68) h (fun M71 h => ?_)
  refine c_ref (n := 68) (i := 67) (k := 1) (j := 49) h (by decide) (fun M72 h => ?_)
  refine ⟨⟨by decide, by decide⟩, ?_⟩
  refine c_new (n := 68) (kd := 18) (len := 120) h rfl (fun M73 h => ?_)
  refine c_ref (n := 69) (i := 67) (k := 2) (j := 68) h (by decide) (fun M74 h => ?_)
  refine c_ev h rfl (fun M75 h => ?_)
  refine ⟨⟨by decide, by decide⟩, ?_⟩
  refine c_new (n := 189) (kd := 14) (len := 2) h rfl (fun M76 h => ?_)
  refine c_ref (n := 190) (i := 67) (k := 8) (j := 189) h (by decide) (fun M77 h => ?_)
  refine ⟨⟨by decide, by decide⟩, ?_⟩
  refine c_ref (n := 190) (i := 0) (k := 9) (j := 67) h (by decide) (fun M78 h => ?_)
  refine c_new (n := 190) (kd := 5) (len := 0) h rfl (fun M79 h => ?_)
  refine ⟨c_ok (n := 191) (i := 190) h (by decide) rfl, ?_⟩
  refine c_new (n := 191) (kd := 14) (len := 12) h rfl (fun M80 h => ?_)
  refine c_ref (n := 192) (i := 190) (k := 0) (j := 191) h (by decide) (fun M81 h => ?_)
  refine c_new (n := 192) (kd := 14) (len := 12) h rfl (fun M82 h => ?_)
  refine c_ref (n := 193) (i := 190) (k := 1) (j := 192) h (by decide) (fun M83 h => ?_)
  refine c_new (n := 193) (kd := 14) (len := 12) h rfl (fun M84 h => ?_)
  refine c_ref (n := 194) (i := 190) (k := 2) (j := 193) h (by decide) (fun M85 h => ?_)
  refine c_new (n := 194) (kd := 14) (len := 12) h rfl (fun M86 h => ?_)
  refine c_ref (n := 195) (i := 190) (k := 3) (j := 194) h (by decide) (fun M87 h => ?_)
  refine c_int (n := 195) h (fun M88 h => ?_)
  refine c_ref (n := 195) (i := 0) (k := 10) (j := 190) h (by decide) (fun M89 h => ?_)
  refine ⟨h.1, ?_⟩
  refine c_new (n := 195) (kd := 12) (len := 0) h rfl (fun M90 h => ?_)
  refine ⟨c_ok (n := 196) (i := 195) h (by decide) rfl, ?_⟩
  refine c_new (n := 196) (kd := 14) (len := 260) h rfl (fun M91 h => ?_)
  refine c_ref (n := 197) (i := 195) (k := 1) (j := 196) h (by decide) (fun M92 h => ?_)
  refine c_new (n := 197) (kd := 14) (len := 25200) h rfl (fun M93 h => ?_)
  refine c_ref (n := 198) (i := 195) (k := 11) (j := 197) h (by decide) (fun M94 h => ?_)
  refine c_new (n := 198) (kd := 14) (len := 25200) h rfl (fun M95 h => ?_)
  refine c_ref (n := 199) (i := 195) (k := 12) (j := 198) h (by decide) (fun M96 h => ?_)
  refine c_new (n := 199) (kd := 14) (len := 25200) h rfl (fun M97 h => ?_)
  refine c_ref (n := 200) (i := 195) (k := 13) (j := 199) h (by decide) (fun M98 h => ?_)
  refine c_new (n := 200) (kd := 15) (len := 25200) h rfl (fun M99 h => ?_)
  refine c_ref (n := 201) (i := 195) (k := 14) (j := 200) h (by decide) (fun M100 h => ?_)
  refine c_new (n := 201) (kd := 15) (len := 25200) h rfl (fun M101 h => ?_)
  refine c_ref (n := 202) (i := 195) (k := 15) (j := 201) h (by decide) (fun M102 h => ?_)
  refine c_new (n := 202) (kd := 14) (len := 60) h rfl (fun M103 h => ?_)
  refine c_ref (n := 203) (i := 195) (k := 19) (j := 202) h (by decide) (fun M104 h => ?_)
  refine c_new (n := 203) (kd := 14) (len := 60) h rfl (fun M105 h => ?_)
  refine c_ref (n := 204) (i := 195) (k := 20) (j := 203) h (by decide) (fun M106 h => ?_)
  refine c_new (n := 204) (kd := 14) (len := 60) h rfl (fun M107 h => ?_)
  refine c_ref (n := 205) (i := 195) (k := 21) (j := 204) h (by decide) (fun M108 h => ?_)
  refine c_new (n := 205) (kd := 14) (len := 60) h rfl (fun M109 h => ?_)
  refine c_ref (n := 206) (i := 195) (k := 22) (j := 205) h (by decide) (fun M110 h => ?_)
  refine c_new (n := 206) (kd := 17) (len := 60) h rfl (fun M111 h => ?_)
  refine c_ref (n := 207) (i := 195) (k := 23) (j := 206) h (by decide) (fun M112 h => ?_)
  refine c_new (n := 207) (kd := 17) (len := 20) h rfl (fun M113 h => ?_)
  refine c_ref (n := 208) (i := 195) (k := 24) (j := 207) h (by decide) (fun M114 h => ?_)
  refine c_new (n := 208) (kd := 15) (len := 20) h rfl (fun M115 h => ?_)
  refine c_ref (n := 209) (i := 195) (k := 25) (j := 208) h (by decide) (fun M116 h => ?_)
  refine c_new (n := 209) (kd := 14) (len := 256) h rfl (fun M117 h => ?_)
  refine c_ref (n := 210) (i := 195) (k := 27) (j := 209) h (by decide) (fun M118 h => ?_)
  refine c_new (n := 210) (kd := 14) (len := 6) h rfl (fun M119 h => ?_)
  refine c_ref (n := 211) (i := 195) (k := 29) (j := 210) h (by decide) (fun M120 h => ?_)
  refine c_new (n := 211) (kd := 14) (len := 6) h rfl (fun M121 h => ?_)
  refine c_ref (n := 212) (i := 195) (k := 30) (j := 211) h (by decide) (fun M122 h => ?_)
  refine c_new (n := 212) (kd := 14) (len := 6) h rfl (fun M123 h => ?_)
  refine c_ref (n := 213) (i := 195) (k := 31) (j := 212) h (by decide) (fun M124 h => ?_)
  refine c_new (n := 213) (kd := 14) (len := 6) h rfl (fun M125 h => ?_)
  refine c_ref (n := 214) (i := 195) (k := 32) (j := 213) h (by decide) (fun M126 h => ?_)
  refine c_new (n := 214) (kd := 17) (len := 6) h rfl (fun M127 h => ?_)
  refine c_ref (n := 215) (i := 195) (k := 33) (j := 214) h (by decide) (fun M128 h => ?_)
  refine c_new (n := 215) (kd := 14) (len := 6) h rfl (fun M129 h => ?_)
  refine c_ref (n := 216) (i := 195) (k := 34) (j := 215) h (by decide) (fun M130 h => ?_)
  refine c_new (n := 216) (kd := 14) (len := 6) h rfl (fun M131 h => ?_)
  refine c_ref (n := 217) (i := 195) (k := 35) (j := 216) h (by decide) (fun M132 h => ?_)
  refine c_new (n := 217) (kd := 14) (len := 6) h rfl (fun M133 h => ?_)
  refine c_ref (n := 218) (i := 195) (k := 36) (j := 217) h (by decide) (fun M134 h => ?_)
  refine c_new (n := 218) (kd := 14) (len := 6) h rfl (fun M135 h => ?_)
  refine c_ref (n := 219) (i := 195) (k := 37) (j := 218) h (by decide) (fun M136 h => ?_)
  refine c_new (n := 219) (kd := 17) (len := 6) h rfl (fun M137 h => ?_)
  refine c_ref (n := 220) (i := 195) (k := 38) (j := 219) h (by decide) (fun M138 h => ?_)
  refine c_new (n := 220) (kd := 14) (len := 48) h rfl (fun M139 h => ?_)
  refine c_ref (n := 221) (i := 195) (k := 41) (j := 220) h (by decide) (fun M140 h => ?_)
  refine c_new (n := 221) (kd := 14) (len := 49) h rfl (fun M141 h => ?_)
  refine c_ref (n := 222) (i := 195) (k := 42) (j := 221) h (by decide) (fun M142 h => ?_)
  refine c_new (n := 222) (kd := 14) (len := 8) h rfl (fun M143 h => ?_)
  refine c_ref (n := 223) (i := 195) (k := 43) (j := 222) h (by decide) (fun M144 h => ?_)
  refine c_new (n := 223) (kd := 14) (len := 120) h rfl (fun M145 h => ?_)
  refine c_ref (n := 224) (i := 195) (k := 56) (j := 223) h (by decide) (fun M146 h => ?_)
  refine c_new (n := 224) (kd := 14) (len := 120) h rfl (fun M147 h => ?_)
  refine c_ref (n := 225) (i := 195) (k := 57) (j := 224) h (by decide) (fun M148 h => ?_)
  refine c_new (n := 225) (kd := 14) (len := 120) h rfl (fun M149 h => ?_)
  refine c_ref (n := 226) (i := 195) (k := 58) (j := 225) h (by decide) (fun M150 h => ?_)
  refine c_new (n := 226) (kd := 14) (len := 120) h rfl (fun M151 h => ?_)
  refine c_ref (n := 227) (i := 195) (k := 59) (j := 226) h (by decide) (fun M152 h => ?_)
  refine c_new (n := 227) (kd := 17) (len := 120) h rfl (fun M153 h => ?_)
  refine c_ref (n := 228) (i := 195) (k := 60) (j := 227) h (by decide) (fun M154 h => ?_)
  refine c_new (n := 228) (kd := 17) (len := 120) h rfl (fun M155 h => ?_)
  refine c_ref (n := 229) (i := 195) (k := 61) (j := 228) h (by decide) (fun M156 h => ?_)
  refine c_new (n := 229) (kd := 14) (len := 12) h rfl (fun M157 h => ?_)
  refine c_ref (n := 230) (i := 195) (k := 62) (j := 229) h (by decide) (fun M158 h => ?_)
  refine c_new (n := 230) (kd := 14) (len := 12) h rfl (fun M159 h => ?_)
  refine c_ref (n := 231) (i := 195) (k := 63) (j := 230) h (by decide) (fun M160 h => ?_)
  refine c_new (n := 231) (kd := 14) (len := 12) h rfl (fun M161 h => ?_)
  refine c_ref (n := 232) (i := 195) (k := 64) (j := 231) h (by decide) (fun M162 h => ?_)
  refine c_new (n := 232) (kd := 14) (len := 12) h rfl (fun M163 h => ?_)
  refine c_ref (n := 233) (i := 195) (k := 65) (j := 232) h (by decide) (fun M164 h => ?_)
  refine ⟨h.1, ?_⟩
  refine c_new (n := 233) (kd := 15) (len := 1) h rfl (fun M165 h => ?_)
  have hR := h.2.2.2.1
  refine hz _ (c_inv h (by decide +kernel) (by decide +kernel) (by decide +kernel) (by decide +kernel)) h.1
