/-! PURE: the reference reads a form: nodes -/
def QRd (g : Gh) (M : Mem) (n : Nat) (bs : Nat → Nat) (nq cnt dp : Nat) (T : Tk) : Prop := Lay g M ∧ TM g M (gB g + 195) (gB g + 196) n bs ∧ IsTk sgF bs n T ∧ MT g M T ∧ mI M (gB g + 195) 16 = nI nq ∧ mI M (gB g + 195) 17 = nI cnt ∧ mI M (gB g + 195) 18 = nI dp ∧ nq < 60 ∧ mI M (gB g + 195) 9 = 0
def PQm (g : Gh) (lo hi : Nat) : Nat → Nat → Prop := fun a k => (a = (gB g + 195) ∧ ((4 ≤ k ∧ k ≤ 7) ∨ k = 9 ∨ k = 10 ∨ k = 17 ∨ k = 18)) ∨ ((gB g + 197) ≤ a ∧ a ≤ (gB g + 199) ∧ lo ≤ k ∧ k < hi)
def QQm (g : Gh) (lo hi : Nat) : Nat → Nat → Prop := fun a k => (a = (gB g + 195) ∧ k = 8) ∨ ((gB g + 200) ≤ a ∧ a ≤ (gB g + 201) ∧ lo ≤ k ∧ k < hi)
theorem PQm.up {g : Gh} {lo lo' hi : Nat} (h : lo' ≤ lo) : ∀ a k, PQm g lo hi a k → PQm g lo' hi a k := fun a k hh => by unfold PQm at hh ⊢; omega
theorem QQm.up {g : Gh} {lo lo' hi : Nat} (h : lo' ≤ lo) : ∀ a k, QQm g lo hi a k → QQm g lo' hi a k := fun a k hh => by unfold QQm at hh ⊢; omega
theorem QRd.fr {g : Gh} {M M' : Mem} {n : Nat} {bs : Nat → Nat} {nq cnt dp : Nat} {T : Tk} {P Q : Nat → Nat → Prop} (h : QRd g M n bs nq cnt dp T) (f : Fr P Q M M') (hp : ∀ a k, P a k → ¬ a = (gB g + 195) ∧ ¬ a = (gB g + 196)) (hq : ∀ a k, Q a k → ¬ a = (gB g + 195)) : QRd g M' n bs nq cnt dp T := by
  refine ⟨f.lay h.1, h.2.1.fr f (fun a k hh => by have := hp a k hh; omega), h.2.2.1, h.2.2.2.1.fr f (fun a k hh => by have := hp a k hh; omega) (fun a k hh => by have := hq a k hh; omega), ?_, ?_, ?_, h.2.2.2.2.2.2.2.1, by rw [f.1 _ _ (fun hh => by have := hp _ _ hh; omega)]; exact h.2.2.2.2.2.2.2.2⟩
  · rw [f.1 _ _ (fun hh => by have := hp _ _ hh; omega)]; exact h.2.2.2.2.1
  · rw [f.1 _ _ (fun hh => by have := hp _ _ hh; omega)]; exact h.2.2.2.2.2.1
  · rw [f.1 _ _ (fun hh => by have := hp _ _ hh; omega)]; exact h.2.2.2.2.2.2.1
theorem sp_node {g : Gh} {M : Mem} {n : Nat} {bs : Nat → Nat} {nq cnt dp : Nat} {T : Tk} (h : QRd g M n bs nq cnt dp T) (hc : cnt < 420) {kd : Int32} {lo hi : Int64} {post : Int32 → Mem → Prop} (hq : ∀ M', Fr (PQm g (420 * nq + cnt) (420 * nq + 420)) (QQm g (420 * nq + cnt) (420 * nq + 420)) M M' → QRd g M' n bs nq (cnt + 1) dp T → (mI M' (gB g + 197) (420 * nq + cnt) = kd ∧ mI M' (gB g + 198) (420 * nq + cnt) = -1 ∧ mI M' (gB g + 199) (420 * nq + cnt) = -1 ∧ mJ M' (gB g + 200) (420 * nq + cnt) = lo ∧ mJ M' (gB g + 201) (420 * nq + cnt) = hi) → post (nI (420 * nq + cnt)) M') : wp_X12_node g M (gB g + 195) kd lo hi post := by
  obtain ⟨h1, h2, h3, h4, h5, h6, h7, h8⟩ := h
  refine ⟨lk_195 h1, ?_⟩
  rintro M1 rfl
  have l1 : Lay g (uI M (gB g + 195) 17 (mI M (gB g + 195) 17 + 1)) := h1
  refine ⟨_, lr_195_11 l1, lk_197 h1, ?_⟩
  rw [h5, h6, nI_1, show (420 : Int32) = nI 420 from rfl, pk_mul, nI_add, nI_cl _ (by omega), ln_197 h1]
  refine ⟨pk_in (420 * nq + cnt) 25200 (by omega), ?_⟩
  rintro M2 rfl
  refine ⟨_, lr_195_12 (g := g) l1, lk_198 h1, by rw [ln_198 h1]; exact pk_in (420 * nq + cnt) 25200 (by omega), ?_⟩
  rintro M3 rfl
  refine ⟨_, lr_195_13 (g := g) l1, lk_199 h1, by rw [ln_199 h1]; exact pk_in (420 * nq + cnt) 25200 (by omega), ?_⟩
  rintro M4 rfl
  refine ⟨_, lr_195_14 (g := g) l1, lk_200 h1, by rw [ln_200 h1]; exact pk_in (420 * nq + cnt) 25200 (by omega), ?_⟩
  rintro M5 rfl
  refine ⟨_, lr_195_15 (g := g) l1, lk_201 h1, by rw [ln_201 h1]; exact pk_in (420 * nq + cnt) 25200 (by omega), ?_⟩
  rintro M6 rfl
  rw [nI_cl _ (by omega)]
  have f1 : Fr (fun a k => a = (gB g + 195) ∧ k = 17) nQ M (uI M (gB g + 195) 17 (nI (cnt + 1))) := Fr.rf.uI ⟨rfl, rfl⟩
  have r17 : mI (uI M (gB g + 195) 17 (nI (cnt + 1))) (gB g + 195) 17 = nI (cnt + 1) := by rw [s_II, if_pos rfl, if_pos rfl]
  have m1 : QRd g (uI M (gB g + 195) 17 (nI (cnt + 1))) n bs nq (cnt + 1) dp T := ⟨h1, h2.fr f1 (fun a k hh => by omega), h3, h4.fr f1 (fun a k hh => by omega) (fun a k hh => (hh : False).elim), by rw [f1.1 _ _ (by omega)]; exact h5, r17, by rw [f1.1 _ _ (by omega)]; exact h7, h8.1, by rw [f1.1 _ _ (by omega)]; exact h8.2⟩
  generalize uI M (gB g + 195) 17 (nI (cnt + 1)) = M1 at f1 m1 r17 ⊢
  generalize hm : 420 * nq + cnt = m at hq ⊢
  have f2 : Fr (fun a k => (a = (gB g + 197) ∨ a = (gB g + 198) ∨ a = (gB g + 199)) ∧ k = m) (fun a k => (a = (gB g + 200) ∨ a = (gB g + 201)) ∧ k = m) M1 (uJ (uJ (uI (uI (uI M1 (gB g + 197) m kd) (gB g + 198) m (-1)) (gB g + 199) m (-1)) (gB g + 200) m lo) (gB g + 201) m hi) := ((((Fr.rf.uI ⟨by omega, rfl⟩).uI ⟨by omega, rfl⟩).uI ⟨by omega, rfl⟩).uJ ⟨by omega, rfl⟩).uJ ⟨by omega, rfl⟩
  have e1 : mI (uJ (uJ (uI (uI (uI M1 (gB g + 197) m kd) (gB g + 198) m (-1)) (gB g + 199) m (-1)) (gB g + 200) m lo) (gB g + 201) m hi) = mI (uI (uI (uI M1 (gB g + 197) m kd) (gB g + 198) m (-1)) (gB g + 199) m (-1)) := rfl
  refine hq _ ?_ (m1.fr f2 (fun a k hh => by omega) (fun a k hh => by omega)) ⟨?_, ?_, ?_, ?_, ?_⟩
  · exact (f1.mono (fun a k hh => by unfold PQm; omega) (fun a k hh => (hh : False).elim)).tr (f2.mono (fun a k hh => by unfold PQm; omega) (fun a k hh => by unfold QQm; omega))
  · rw [e1]; simp [s_II]
  · rw [e1]; simp [s_II]
  · rw [e1]; simp [s_II]
  · simp [s_JJ]
  · simp [s_JJ]
