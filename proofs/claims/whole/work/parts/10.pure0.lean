/-! PURE: loops and whole rows -/
/-- a loop that counts up from i to e -/
theorem lfp_up {σ : Type} {F : (σ → Prop) → σ → Prop} (I : Nat → σ → Prop) (e : Nat) (hx : ∀ (bk : σ → Prop) (s : σ), I e s → F bk s) (hs : ∀ (bk : σ → Prop) (i : Nat) (s : σ), i < e → I i s → (∀ s', I (i + 1) s' → bk s') → F bk s) (i : Nat) (s : σ) (hi : i ≤ e) (h : I i s) : ∃ n, lfp F n s := by
  have key : ∀ (k i : Nat) (s : σ), i ≤ e → e - i = k → I i s → lfp F (k + 1) s := by
    intro k
    induction k with
    | zero =>
      intro i s hi hk h
      have : i = e := by omega
      subst this
      exact hx _ s h
    | succ k ih =>
      intro i s hi hk h
      exact hs _ i s (by omega) h (fun s' h' => ih (i + 1) s' (by omega) (by omega) h')
  exact ⟨_, key (e - i) i s hi rfl h⟩
/-- any loop, by a measure -/
theorem lfp_ms {σ : Type} {F : (σ → Prop) → σ → Prop} (I : σ → Prop) (μ : σ → Nat) (hs : ∀ (bk : σ → Prop) (s : σ), I s → (∀ s', I s' → μ s' < μ s → bk s') → F bk s) (s : σ) (h : I s) : ∃ n, lfp F n s := by
  have key : ∀ (k : Nat) (s : σ), μ s < k → I s → lfp F k s := by
    intro k
    induction k with
    | zero => intro s hk; omega
    | succ k ih =>
      intro s hk h
      exact hs _ s h (fun s' h' hl => ih s' (by omega) h')
  exact ⟨_, key (μ s + 1) s (by omega) h⟩
theorem uI_wI (M : Mem) (a k : Nat) (f : Nat → Int32) (v : Int32) : uI (wI M a f) a k v = wI M a (va_up f k v) := by
  have : up2 (va_up M.1 a f) a k v = va_up M.1 a (va_up f k v) := by
    funext b j
    by_cases hb : b = a
    · subst hb; simp [up2, va_up]
    · simp [up2, va_up, hb]
  simp only [uI, wI, this]
theorem wI_self (M : Mem) (a : Nat) : wI M a (mI M a) = M := by
  have : va_up M.1 a (mI M a) = M.1 := by
    funext b
    by_cases hb : b = a
    · subst hb; simp [va_up, mI]
    · simp [va_up, hb]
  simp only [wI, this]
theorem mI_wI_s (M : Mem) (a : Nat) (f : Nat → Int32) : mI (wI M a f) a = f := va_up_self _ _ _
theorem mI_wI_n (M : Mem) (a : Nat) (f : Nat → Int32) {b : Nat} (h : b ≠ a) : mI (wI M a f) b = mI M b := va_up_ne _ _ h
theorem nI_cl (n : Nat) (h : n < 2 ^ 31) : Int32.toNatClampNeg (nI n) = n := nI_clamp h
set_option maxHeartbeats 1000000 in
/-- Frame.stepToken: every row is cut to the token's places, and moved on by one -/
theorem sp_X3_stepToken (g : Gh) (M : Mem) (a0 r : Nat) (p1 : Int32) (post : Mem → Prop) (h0 : okc (gB g) M a0 3) (hr : mR M a0 0 = some r) (hk : okc (gB g) M r 14) (hn : mN M r = 21)
    (hp : post (wI M r (fun j => if j < 21 then (mI M r j &&& p1) <<< (1 &&& 31) else mI M r j))) : wp_X3_stepToken g M a0 p1 post := by
  refine ⟨h0, ?_⟩
  refine lfp_up (fun i s => s = (nI i, wI M r (fun j => if j < i then (mI M r j &&& p1) <<< (1 &&& 31) else mI M r j))) 21 ?_ ?_ 0 _ (by omega) ?_
  · rintro bk s rfl
    exact ⟨fun _ => hp, fun h => absurd (show (21 : Int32) ≤ nI 21 by decide) h⟩
  · rintro bk i s hi rfl hb
    refine ⟨fun h => ?_, fun _ => ⟨r, hr, hk, ?_, ?_⟩⟩
    · exact absurd (show nI 21 ≤ nI i from h) (nI_ge hi (by decide))
    · rw [hn]; exact vp_in_nI hi (by omega)
    · rintro M1 rfl
      refine hb _ ?_
      show (nI i + 1, _) = _
      rw [nI_1, nI_cl i (by omega), uI_wI, mI_wI_s]
      congr 2
      funext j
      by_cases hj : j = i
      · subst hj; simp [va_up]
      · by_cases h2 : j < i
        · simp [va_up, hj, h2, show j < i + 1 by omega]
        · simp [va_up, hj, h2, show ¬ j < i + 1 by omega]
  · simp [nI_0, wI_self]
