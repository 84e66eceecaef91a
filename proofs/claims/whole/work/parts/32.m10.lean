/-! PURE: the table -/
def ahB (f : Nat → Nat → Int32) (u t : Nat) : Bool := decide ((f 0 t).toInt < (f 0 u).toInt ∨ ((f 0 u).toInt = (f 0 t).toInt ∧ ((f 2 t - f 3 t).toInt < (f 2 u - f 3 u).toInt ∨ ((f 2 u - f 3 u).toInt = (f 2 t - f 3 t).toInt ∧ ((f 2 t).toInt < (f 2 u).toInt ∨ ((f 2 u).toInt = (f 2 t).toInt ∧ u < t))))))
theorem ahB_iff (f : Nat → Nat → Int32) (u t : Nat) : ahB f u t = true ↔ ((f 0 t).toInt < (f 0 u).toInt ∨ ((f 0 u).toInt = (f 0 t).toInt ∧ ((f 2 t - f 3 t).toInt < (f 2 u - f 3 u).toInt ∨ ((f 2 u - f 3 u).toInt = (f 2 t - f 3 t).toInt ∧ ((f 2 t).toInt < (f 2 u).toInt ∨ ((f 2 u).toInt = (f 2 t).toInt ∧ u < t)))))) := by simp [ahB]
theorem ahB_tr {f : Nat → Nat → Int32} {a b c : Nat} (h : ahB f a b = true) (k : ahB f b c = true) : ahB f a c = true := by
  rw [ahB_iff] at h k ⊢; omega
theorem ahB_tot {f : Nat → Nat → Int32} {a b : Nat} (h : a ≠ b) : ahB f a b = true ∨ ahB f b a = true := by
  rw [ahB_iff, ahB_iff]; omega
theorem ahB_ir (f : Nat → Nat → Int32) (a : Nat) : ¬ ahB f a a = true := by
  rw [ahB_iff]; omega
/-- how many of the first n are ahead of t -/
def cnA (f : Nat → Nat → Int32) (t : Nat) : Nat → Nat
  | 0 => 0
  | u + 1 => if u ≠ t ∧ ahB f u t = true then cnA f t u + 1 else cnA f t u
theorem cnA_le (f : Nat → Nat → Int32) (t : Nat) : ∀ n, cnA f t n ≤ n ∧ (t < n → cnA f t n + 1 ≤ n)
  | 0 => ⟨Nat.le_refl _, fun h => by omega⟩
  | n + 1 => by
    have ih := cnA_le f t n
    unfold cnA
    split
    · next h => exact ⟨by omega, fun h2 => by have := ih.2 (by omega); omega⟩
    · next h => exact ⟨by omega, fun h2 => by omega⟩
theorem cnA_mono {f : Nat → Nat → Int32} {a b : Nat} (h : ahB f a b = true) : ∀ n, cnA f a n ≤ cnA f b n ∧ (a < n → cnA f a n + 1 ≤ cnA f b n)
  | 0 => ⟨Nat.le_refl _, fun h => by omega⟩
  | n + 1 => by
    have ih := cnA_mono h n
    have hab : a ≠ b := fun e => ahB_ir f a (by rw [← e] at h; exact h)
    unfold cnA
    by_cases h1 : n ≠ a ∧ ahB f n a = true
    · have h2 : n ≠ b ∧ ahB f n b = true := by
        refine ⟨fun e => ?_, ahB_tr h1.2 h⟩
        subst e; exact ahB_ir f a (ahB_tr h h1.2)
      rw [if_pos h1, if_pos h2]
      exact ⟨by omega, fun h3 => by have := ih.2 (by omega); omega⟩
    · rw [if_neg h1]
      by_cases h2 : n ≠ b ∧ ahB f n b = true
      · rw [if_pos h2]
        exact ⟨by omega, fun h3 => by omega⟩
      · rw [if_neg h2]
        refine ⟨ih.1, fun h3 => ?_⟩
        rcases (show a < n ∨ a = n by omega) with h4 | h4
        · exact ih.2 h4
        · subst h4; exact absurd ⟨hab, h⟩ h2
theorem cnA_inj {f : Nat → Nat → Int32} {a b : Nat} (ha : a < 12) (hb : b < 12) (h : cnA f a 12 = cnA f b 12) : a = b := by
  rcases Nat.decEq a b with hne | he
  · rcases ahB_tot (f := f) hne with h1 | h1
    · have := (cnA_mono h1 12).2 ha; omega
    · have := (cnA_mono h1 12).2 hb; omega
  · exact he
theorem pig : ∀ (n : Nat) (f : Nat → Nat), (∀ i, i < n → f i < n) → (∀ i j, i < n → j < n → f i = f j → i = j) → ∀ k, k < n → ∃ i, i < n ∧ f i = k
  | 0, _, _, _, k, hk => by omega
  | n + 1, f, h1, h2, k, hk => by
    have hv := h1 n (by omega)
    have ih := pig n (fun i => if f i = n then f n else f i) (fun i hi => by
      show (if f i = n then f n else f i) < n
      have := h1 i (by omega)
      split
      · next he =>
        have : f n ≠ n := fun e => by have := h2 i n (by omega) (by omega) (he.trans e.symm); omega
        omega
      · omega) (fun i j hi hj e => by
      have e : (if f i = n then f n else f i) = (if f j = n then f n else f j) := e
      split at e
      · next a =>
        split at e
        · next b => exact h2 i j (by omega) (by omega) (a.trans b.symm)
        · have := h2 n j (by omega) (by omega) e; omega
      · split at e
        · have := h2 i n (by omega) (by omega) e; omega
        · exact h2 i j (by omega) (by omega) e)
    by_cases hkv : k = f n
    · exact ⟨n, by omega, hkv.symm⟩
    · by_cases hkn : k = n
      · obtain ⟨i, hi, e⟩ := ih (f n) (by omega)
        have e : (if f i = n then f n else f i) = f n := e
        split at e
        · next a => exact ⟨i, by omega, by omega⟩
        · have := h2 i n (by omega) (by omega) e; omega
      · obtain ⟨i, hi, e⟩ := ih k (by omega)
        have e : (if f i = n then f n else f i) = k := e
        split at e
        · omega
        · exact ⟨i, by omega, e⟩
theorem cnA_sur (f : Nat → Nat → Int32) {k : Nat} (hk : k < 12) : ∃ t, t < 12 ∧ cnA f t 12 = k :=
  pig 12 (fun t => cnA f t 12) (fun t ht => by have := (cnA_le f t 12).2 ht; show cnA f t 12 < 12; omega) (fun a b ha hb h => cnA_inj ha hb h) k hk
theorem i32_le {a b : Int32} : a ≤ b ↔ a.toInt ≤ b.toInt := Int32.le_iff_toInt_le
theorem i32_eq {a b : Int32} : a = b ↔ a.toInt = b.toInt := ⟨fun h => by rw [h], fun h => Int32.toInt_inj.mp h⟩
theorem sp_isAheadC {g : Gh} {M : Mem} {f : Nat → Nat → Int32} (h1 : Lay g M) (h : LG g M 191 f) {u t : Nat} (hu : u < 12) (ht : t < 12) {post : Int32 → Mem → Prop} (hq : post (bI (ahB f u t)) M) : wp_X5_isAhead g M (gB g + 190) (nI u) (nI t) post := by
  have cu : Int32.toNatClampNeg (nI u) = u := nI_cl u (by omega)
  have ct : Int32.toNatClampNeg (nI t) = t := nI_cl t (by omega)
  have hu12 : ∀ {b : Nat}, mN M b = 12 → vp_in (nI u) (mN M b) := fun e => by rw [e]; exact pk_in u 12 hu
  have ht12 : ∀ {b : Nat}, mN M b = 12 → vp_in (nI t) (mN M b) := fun e => by rw [e]; exact pk_in t 12 ht
  have q1 : ahB f u t = true → post 1 M := fun e => by rw [e] at hq; exact hq
  have q0 : ¬ ahB f u t = true → post 0 M := fun e => by rw [Bool.not_eq_true] at e; rw [e] at hq; exact hq
  rw [ahB_iff] at q1 q0
  refine ⟨lk_190 h1, sp_team (nI u) (fun hx => (nI_out hu (by decide) hx).elim) (fun _ _ _ => ⟨fun hx => absurd hx (by decide), fun _ => sp_team (nI t) (fun hx => (nI_out ht (by decide) hx).elim) (fun _ _ _ => ⟨fun hx => absurd hx (by decide), fun _ => ⟨_, lr_190_0 h1, lk_191 h1, hu12 (ln_191 h1), ht12 (ln_191 h1), ?_⟩⟩)⟩)⟩
  rw [cu, ct, h 0 u (by decide) hu, h 0 t (by decide) ht]
  refine ⟨fun e0 => ⟨_, lr_190_2 h1, lk_193 h1, hu12 (ln_193 h1), _, lr_190_3 h1, lk_194 h1, hu12 (ln_194 h1), ht12 (ln_193 h1), ht12 (ln_194 h1), ?_⟩, fun e0 => ?_⟩
  · rw [cu, ct, h 2 u (by decide) hu, h 2 t (by decide) ht, h 3 u (by decide) hu, h 3 t (by decide) ht]
    rw [i32_eq] at e0
    refine ⟨fun e1 => ⟨fun e2 => pk_le t u (fun e3 => q0 ?_) (fun e3 => q1 ?_), fun e2 => ⟨_, lr_190_2 h1, lk_193 h1, hu12 (ln_193 h1), ht12 (ln_193 h1), ?_⟩⟩, fun e1 => ⟨fun e2 => q0 ?_, fun e2 => q1 ?_⟩⟩
    · rw [i32_eq] at e1 e2; omega
    · rw [i32_eq] at e1 e2; omega
    · rw [cu, ct, h 2 u (by decide) hu, h 2 t (by decide) ht]
      refine ⟨fun e3 => q0 ?_, fun e3 => q1 ?_⟩
      · rw [i32_eq] at e1 e2; rw [i32_le] at e3; omega
      · rw [i32_eq] at e1 e2; rw [i32_le] at e3; omega
    · rw [i32_eq] at e1; rw [i32_le] at e2; omega
    · rw [i32_eq] at e1; rw [i32_le] at e2; omega
  · rw [i32_eq] at e0
    refine ⟨fun e1 => q0 ?_, fun e1 => q1 ?_⟩
    · rw [i32_le] at e1; omega
    · rw [i32_le] at e1; omega
theorem sp_isAheadM {g : Gh} {M : Mem} {f : Nat → Nat → Int32} (h1 : Lay g M) (h : LG g M 229 f) {u t : Nat} (hu : u < 12) (ht : t < 12) {post : Int32 → Mem → Prop} (hq : post (bI (ahB f u t)) M) : wp_X12_isAhead g M (gB g + 195) (nI u) (nI t) post := by
  have cu : Int32.toNatClampNeg (nI u) = u := nI_cl u (by omega)
  have ct : Int32.toNatClampNeg (nI t) = t := nI_cl t (by omega)
  have hu12 : ∀ {b : Nat}, mN M b = 12 → vp_in (nI u) (mN M b) := fun e => by rw [e]; exact pk_in u 12 hu
  have ht12 : ∀ {b : Nat}, mN M b = 12 → vp_in (nI t) (mN M b) := fun e => by rw [e]; exact pk_in t 12 ht
  have q1 : ahB f u t = true → post 1 M := fun e => by rw [e] at hq; exact hq
  have q0 : ¬ ahB f u t = true → post 0 M := fun e => by rw [Bool.not_eq_true] at e; rw [e] at hq; exact hq
  rw [ahB_iff] at q1 q0
  refine ⟨lk_195 h1, _, lr_195_62 h1, lk_229 h1, hu12 (ln_229 h1), ht12 (ln_229 h1), ?_⟩
  rw [cu, ct, h 0 u (by decide) hu, h 0 t (by decide) ht]
  refine ⟨fun e0 => ⟨_, lr_195_64 h1, lk_231 h1, hu12 (ln_231 h1), _, lr_195_65 h1, lk_232 h1, hu12 (ln_232 h1), ?_⟩, fun e0 => ?_⟩
  · rw [i32_eq] at e0
    refine ⟨_, lr_195_64 h1, lk_231 h1, ht12 (ln_231 h1), _, lr_195_65 h1, lk_232 h1, ht12 (ln_232 h1), ?_⟩
    rw [cu, ct, h 2 u (by decide) hu, h 2 t (by decide) ht, h 3 u (by decide) hu, h 3 t (by decide) ht]
    refine ⟨fun e1 => ⟨hu12 (ln_231 h1), fun e2 => pk_le t u (fun e3 => q0 ?_) (fun e3 => q1 ?_), fun e2 => ⟨fun e3 => q0 ?_, fun e3 => q1 ?_⟩⟩, fun e1 => ⟨fun e2 => q0 ?_, fun e2 => q1 ?_⟩⟩
    · rw [i32_eq] at e1 e2; omega
    · rw [i32_eq] at e1 e2; omega
    · rw [i32_eq] at e1 e2; rw [i32_le] at e3; omega
    · rw [i32_eq] at e1 e2; rw [i32_le] at e3; omega
    · rw [i32_eq] at e1; rw [i32_le] at e2; omega
    · rw [i32_eq] at e1; rw [i32_le] at e2; omega
  · rw [i32_eq] at e0
    refine ⟨fun e1 => q0 ?_, fun e1 => q1 ?_⟩
    · rw [i32_le] at e1; omega
    · rw [i32_le] at e1; omega
theorem sp_placeOf {g : Gh} {M : Mem} {f : Nat → Nat → Int32} (h1 : Lay g M) (h : LG g M 191 f) {t : Nat} (ht : t < 12) {post : Int32 → Mem → Prop} (hq : post (nI (cnA f t 12)) M) : wp_X5_placeOf g M (gB g + 190) (nI t) post := by
  refine ⟨lk_190 h1, ?_⟩
  refine lfp_up (fun u s => s = (nI (cnA f t u), nI u, M)) 12 ?_ ?_ 0 _ (by omega) rfl
  · rintro bk s rfl
    exact pk_le 12 12 (fun _ => hq) (fun hx => by omega)
  · rintro bk u s hu rfl hb
    show bd_X5_placeOf_4 g M (gB g + 190) (nI t) post bk (nI (cnA f t u)) (nI u) M
    unfold bd_X5_placeOf_4
    have es : cnA f t (u + 1) = if u ≠ t ∧ ahB f u t = true then cnA f t u + 1 else cnA f t u := rfl
    rw [nI_1, nI_1]
    refine pk_le 12 u (fun hx => by omega) (fun _ => pk_eq u t (fun he => hb _ ?_) (fun he => sp_isAheadC h1 h hu ht ?_))
    · rw [es, if_neg (by simp [he])]
    · cases ha : ahB f u t with
      | false => exact ⟨fun _ => hb _ (by rw [es, if_neg (by simp [ha])]), fun hx => absurd rfl hx⟩
      | true => exact ⟨fun hx => absurd hx (by decide), fun _ => hb _ (by rw [es, if_pos ⟨he, ha⟩])⟩
theorem sp_teamAt {g : Gh} {M : Mem} {f : Nat → Nat → Int32} (h1 : Lay g M) (h : LG g M 191 f) (p : Int32) {post : Int32 → Mem → Prop} (hy : ∀ t, t < 12 → nI (cnA f t 12) = p → post (nI t) M) (hn : (∀ t, t < 12 → nI (cnA f t 12) ≠ p) → post (-1) M) : wp_X5_teamAt g M (gB g + 190) p post := by
  refine ⟨lk_190 h1, ?_⟩
  refine lfp_up (fun i s => s = (nI i, M) ∧ ∀ t, t < i → nI (cnA f t 12) ≠ p) 12 ?_ ?_ 0 _ (by omega) ⟨rfl, fun t ht => by omega⟩
  · rintro bk s ⟨rfl, hf⟩
    exact pk_le 12 12 (fun _ => hn hf) (fun hx => by omega)
  · rintro bk i s hi ⟨rfl, hf⟩ hb
    show bd_X5_teamAt_2 g M (gB g + 190) p post bk (nI i) M
    unfold bd_X5_teamAt_2
    refine pk_le 12 i (fun hx => by omega) (fun _ => sp_placeOf h1 h hi ⟨fun he => hy i hi he, fun he => hb _ ⟨by rw [nI_1], fun t ht => ?_⟩⟩)
    rcases (show t < i ∨ t = i by omega) with hx | rfl
    · exact hf t hx
    · exact he
