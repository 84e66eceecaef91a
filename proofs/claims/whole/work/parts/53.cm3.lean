/-! PURE: the class's forms in whatever order -/
set_option maxHeartbeats 2000000 in
theorem sp_endsAny {g : Gh} {M : Mem} (h1 : Lay g M) {e : Nat} (he : e < 7) {N m : Nat} (hN : N ≤ 20) (hm1 : 1 ≤ m) (hm5 : m ≤ 5) {K : Nat → Nat → Nat → Prop} (hK : KpIs g M e N m K) (hKN : ∀ f k j, k ≤ N → K f k j → j ≤ N) {st : Nat} (hst : st ≤ N) {post : Int32 → Mem → Prop} (hq : ∀ v M', Fr (fun a _ => a = (gB g + (16 + 5 * e))) nQ M M' → (∀ j, j < 32 → (bt v j = true ↔ reS m K (fun i => i = st) (2 ^ m - 1) j)) → post v M') : wp_X3_endsInAnyOrder g M (gB g + (12 + 5 * e)) (nI st) post := by
  have hf := lk_fr h1 he
  have h2m : 2 ^ m ≤ 32 := Nat.pow_le_pow_right (n := 2) (by decide) hm5
  have h2p : 2 ≤ 2 ^ m := Nat.pow_le_pow_right (n := 2) (by decide) hm1
  have e2m : (1 : Int32) <<< (nI m &&& 31) - 1 = nI (2 ^ m - 1) := by
    rw [sh_12 m (by omega), show (1 : Int32) = nI 1 from rfl, pk_sub (by omega)]
  have hS0 : ∀ k, (fun i => i = st) k → k ≤ N := fun k hk => by have hk : k = st := hk; omega
  refine ⟨hf.1.1, _, hf.2.2.2.2.2.2, sp_fill32 h1 he (fun M1 f1 z1 => ⟨_, (lk_fr (f1.lay h1) he).2.2.2.2.2.2, hf.1.2.2.2.2, by rw [hf.2.1.2.2.2]; exact pk_in 0 32 (by omega), ?_⟩)⟩
  rintro M2 rfl
  rw [show Int32.toNatClampNeg 0 = 0 from rfl, hK.1, e2m]
  have f2 : Fr (fun a _ => a = (gB g + (16 + 5 * e))) nQ M (uI M1 (gB g + (16 + 5 * e)) 0 (1 <<< (nI st &&& 31))) := f1.uI rfl
  have z2 : ∀ t, t < 2 ^ m → ∀ j, j < 32 → (bt (mI (uI M1 (gB g + (16 + 5 * e)) 0 (1 <<< (nI st &&& 31))) (gB g + (16 + 5 * e)) t) j = true ↔ duS m K (fun i => i = st) 0 0 t j) := by
    intro t ht j hj
    rw [s_II, if_pos rfl, duS_0]
    by_cases ht0 : t = 0
    · rw [if_pos ht0, bt_one st (by omega) j hj, decide_eq_true_eq]
      exact ⟨fun hx => ⟨ht0, hx⟩, fun hx => hx.2⟩
    · rw [if_neg ht0, z1 t (by omega), bt_0]
      simp [ht0]
  generalize uI M1 (gB g + (16 + 5 * e)) 0 (1 <<< (nI st &&& 31)) = M2 at f2 z2 ⊢
  refine lfp_up (fun c z => ∃ M', z = (nI (2 ^ m - 1), nI c, M') ∧ Fr (fun a _ => a = (gB g + (16 + 5 * e))) nQ M M' ∧ ∀ t, t < 2 ^ m → ∀ j, j < 32 → (bt (mI M' (gB g + (16 + 5 * e)) t) j = true ↔ duS m K (fun i => i = st) c 0 t j)) (2 ^ m - 1) ?_ ?_ 0 _ (by omega) ⟨M2, rfl, f2, z2⟩
  · rintro bk z ⟨M', rfl, f, hv⟩
    show bd_X3_endsInAnyOrder_28 g M (gB g + (12 + 5 * e)) (nI st) post bk (nI (2 ^ m - 1)) (nI (2 ^ m - 1)) M'
    unfold bd_X3_endsInAnyOrder_28
    refine pk_le (2 ^ m - 1) (2 ^ m - 1) (fun _ => ⟨_, (lk_fr (f.lay h1) he).2.2.2.2.2.2, hf.1.2.2.2.2, by rw [hf.2.1.2.2.2]; exact pk_in (2 ^ m - 1) 32 (by omega), ?_⟩) (fun hx => by omega)
    rw [nI_cl _ (by omega)]
    refine hq _ M' f (fun j hj => ?_)
    rw [hv _ (by omega) j hj, duS_re hm5 (Nat.le_refl _)]
  · rintro bk c z hc ⟨M', rfl, f, hv⟩ hb
    show bd_X3_endsInAnyOrder_28 g M (gB g + (12 + 5 * e)) (nI st) post bk (nI (2 ^ m - 1)) (nI c) M'
    unfold bd_X3_endsInAnyOrder_28
    refine pk_le (2 ^ m - 1) c (fun hx => by omega) (fun _ => ?_)
    have hc2 : c < 2 ^ m := by omega
    refine lfp_up (fun fi z => ∃ M3, z = (nI (2 ^ m - 1), nI c, nI fi, M3) ∧ Fr (fun a _ => a = (gB g + (16 + 5 * e))) nQ M M3 ∧ ∀ t, t < 2 ^ m → ∀ j, j < 32 → (bt (mI M3 (gB g + (16 + 5 * e)) t) j = true ↔ duS m K (fun i => i = st) c fi t j)) m ?_ ?_ 0 _ (by omega) ⟨M', rfl, f, hv⟩
    · rintro bk2 z ⟨M3, rfl, f3, hv3⟩
      show bd_X3_endsInAnyOrder_36 g M (gB g + (12 + 5 * e)) (nI st) post bk bk2 (nI (2 ^ m - 1)) (nI c) (nI m) M3
      unfold bd_X3_endsInAnyOrder_36
      rw [(hK.fr f3 (fun a k hh => by omega)).1, nI_1]
      exact pk_le m m (fun _ => hb _ ⟨M3, rfl, f3, fun t ht j hj => by rw [hv3 t ht j hj, duS_next]⟩) (fun hx => by omega)
    · rintro bk2 fi z hfi ⟨M3, rfl, f3, hv3⟩ hb2
      have hf3 := lk_fr (f3.lay h1) he
      show bd_X3_endsInAnyOrder_36 g M (gB g + (12 + 5 * e)) (nI st) post bk bk2 (nI (2 ^ m - 1)) (nI c) (nI fi) M3
      unfold bd_X3_endsInAnyOrder_36
      rw [(hK.fr f3 (fun a k hh => by omega)).1, nI_1, nI_1, nI_cl c (by omega)]
      refine pk_le m fi (fun hx => by omega) (fun _ => ⟨_, hf3.2.2.2.2.2.2, hf.1.2.2.2.2, by rw [hf.2.1.2.2.2]; exact pk_in c 32 (by omega), fun h0 => ?_, fun h0 => ?_⟩)
      · refine hb _ ⟨M3, rfl, f3, fun t ht j hj => ?_⟩
        rw [hv3 t ht j hj, duS_skip hm5 fi]
        intro i hi
        have hiN := duS_le hS0 hKN hi
        have := (hv3 c hc2 i (by omega)).mpr ((duS_self hm5 hc2).mpr hi)
        rw [h0, bt_0] at this; cases this
      · rw [sb_test c (by omega) fi (by omega)]
        refine ⟨fun hbit => ?_, fun hbit => hb2 _ ⟨M3, rfl, f3, fun t ht j hj => ?_⟩⟩
        · have hor := sb_or c (by omega) fi (by omega) hbit
          have hlt2 : c ||| 2 ^ fi < 2 ^ m := Nat.or_lt_two_pow hc2 (Nat.pow_lt_pow_right (by decide) hfi)
          have eor : nI c ||| (1 <<< (nI fi &&& 31)) = nI (c ||| 2 ^ fi) := by rw [sh_12 fi (by omega), nI_or]
          rw [eor, nI_cl (c ||| 2 ^ fi) (by omega), show (21 : Int32) = nI 21 from rfl, pk_mul]
          refine ⟨by rw [hf.2.1.2.2.2]; exact pk_in (c ||| 2 ^ fi) 32 (by omega), _, hf3.2.2.2.2.2.1, ?_⟩
          refine sp_endsBehind (N := N) (fr := fi * 21) (len := 105) hN hf3.1.2.2.2.1 hf3.2.1.2.2.1 (by omega) (by omega) (fun v hv4 => ?_)
          rintro M4 rfl
          have hsub : ∀ k, bt (mI M3 (gB g + (16 + 5 * e)) c) k = true → k ≤ N := by
            intro k hk
            rcases Nat.lt_or_ge k 32 with h32 | h32
            · exact duS_le hS0 hKN ((hv3 c hc2 k h32).mp hk)
            · rw [bt_ge _ h32] at hk; cases hk
          have hv4 := hv4 hsub
          have kp := (hK.fr f3 (fun a k hh => by omega)).2 fi hfi
          refine hb2 _ ⟨_, rfl, f3.uI rfl, fun t ht j hj => ?_⟩
          rw [s_II, if_pos rfl, duS_f hm5 hc2 hfi]
          by_cases htc : t = c ||| 2 ^ fi
          · subst htc
            rw [if_pos rfl, bt_or, Bool.or_eq_true, hv4 j hj, hv3 _ ht j hj]
            constructor
            · rintro (h2 | ⟨k, h2, h3⟩)
              · exact Or.inl h2
              · have hkN := hsub k h2
                rw [show fi * 21 + k = 21 * fi + k by omega] at h3
                exact Or.inr ⟨hbit, rfl, k, (duS_self hm5 hc2).mp ((hv3 c hc2 k (by omega)).mp h2), (kp k hkN j hj).mp h3⟩
            · rintro (h2 | ⟨_, _, i, h2, h3⟩)
              · exact Or.inl h2
              · have hiN := duS_le hS0 hKN h2
                refine Or.inr ⟨i, (hv3 c hc2 i (by omega)).mpr ((duS_self hm5 hc2).mpr h2), ?_⟩
                rw [show fi * 21 + i = 21 * fi + i by omega]
                exact (kp i hiN j hj).mpr h3
          · rw [if_neg htc, hv3 t ht j hj]
            constructor
            · exact Or.inl
            · rintro (h2 | ⟨_, h2, _⟩)
              · exact h2
              · exact absurd h2 htc
        · rw [hv3 t ht j hj, duS_f hm5 hc2 hfi]
          constructor
          · exact Or.inl
          · rintro (h2 | ⟨h2, _⟩)
            · exact h2
            · exact absurd h2 hbit
