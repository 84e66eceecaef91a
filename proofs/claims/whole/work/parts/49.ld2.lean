/-! PURE: the reference's matching of a set in whatever order -/
theorem duS_self {m : Nat} {rel : Nat → Nat → Nat → Prop} {St : Nat → Prop} {c fc j : Nat} (hm : m ≤ 5) (hc : c < 2 ^ m) : duS m rel St c fc c j ↔ duS m rel St c 0 c j := by
  have h32 : c < 32 := Nat.lt_of_lt_of_le hc (Nat.pow_le_pow_right (n := 2) (by decide) hm)
  constructor
  · rintro (h | ⟨s, f, i, e, h1, h2, h3, h4, h5⟩)
    · exact Or.inl h
    · rcases h4 with h4 | ⟨rfl, h4⟩
      · exact Or.inr ⟨s, f, i, e, h1, h2, h3, Or.inl h4, h5⟩
      · have := (sb_or s h32 f (by omega) h3).1
        omega
  · rintro (h | ⟨s, f, i, e, h1, h2, h3, h4, h5⟩)
    · exact Or.inl h
    · exact Or.inr ⟨s, f, i, e, h1, h2, h3, Or.inl (by omega), h5⟩
theorem duS_le {m : Nat} {rel : Nat → Nat → Nat → Prop} {St : Nat → Prop} {N c fc t j : Nat} (hS : ∀ k, St k → k ≤ N) (hR : ∀ f k j, k ≤ N → rel f k j → j ≤ N) (h : duS m rel St c fc t j) : j ≤ N := by
  rcases h with h | ⟨s, f, i, e, h1, h2, h3, h4, h5, h6⟩
  · exact hS j h.2
  · exact hR f i j (h5 (fun _ j => j ≤ N) hS (fun s f i j _ _ _ hi hr => hR f i j hi hr)) h6
theorem chn_drop {α : Type} {lo hi : Nat} {X : Nat → Int32} {P : Nat → α → Prop} : ∀ {l : List α} {s : Int32}, chn lo hi X P s l → l.length = 0 → s = -1
  | [], _, h, _ => h
set_option maxHeartbeats 2000000 in
theorem ld_all {α : Type} {g : Gh} {w : Gh → Mem → Nat → Int32 → Int32 → (Int32 → Mem → Prop) → Prop} {lv N : Nat} {a : AnT} {nd : NdT} {lo hi : Nat} (hhi : hi ≤ 25200) (hlv : lv ≤ 6) {P : Nat → List α → Prop} {R : List α → Nat → Nat → Prop} (hR : ∀ p k j, k ≤ N → R p k j → j ≤ N) (hw : ∀ n p, lo ≤ n → n < hi → P n p → LdOK g w (lv + 1) N a nd n (R p)) {n : Nat} (hn : n < 25200) {fs : List (List α)} (hm1 : 1 ≤ fs.length) (hm5 : fs.length ≤ 5) (hc0 : chn lo hi nd.2.2.1 P (nd.2.1 n) fs) : LdOK g (wp_X12_leadsAll w) lv N a nd n (fun k j => reS fs.length (fun f => R (fs.getD f [])) (fun i => i = k) (2 ^ fs.length - 1) j) := by
  intro M S post h hS0 hq
  have h1 := h.1
  have hN := h.2.2.2.1
  have cn : Int32.toNatClampNeg (nI n) = n := nI_cl n (by omega)
  generalize hm : fs.length = m at hm1 hm5 hq
  have h2m : 2 ^ m ≤ 32 := Nat.pow_le_pow_right (n := 2) (by decide) hm5
  have h2p : 1 ≤ 2 ^ m := Nat.one_le_two_pow
  have e2m : (1 : Int32) <<< (nI m &&& 31) = nI (2 ^ m) := sh_12 m (by omega)
  refine ⟨lk_195 h1, ?_⟩
  rintro M53 rfl
  rw [h.2.1, nI_1]
  have f0 : Fr (PLd g lv) nQ M (uI M (gB g + 195) 28 (nI (lv + 1))) := Fr.rf.uI (Or.inl ⟨rfl, rfl⟩)
  have x0 : LX g (uI M (gB g + 195) 28 (nI (lv + 1))) (lv + 1) N a nd := h.fr f0 (by rw [s_II, if_pos rfl, if_pos rfl])
  generalize uI M (gB g + 195) 28 (nI (lv + 1)) = M1 at f0 x0 ⊢
  refine ⟨_, lr_195_12 x0.1, lk_198 h1, by rw [ln_198 h1]; exact pk_in n 25200 hn, ?_⟩
  rw [cn, (x0.nd n).2.1, show (32 : Int32) = nI 32 from rfl, pk_mul]
  let rel : Nat → Nat → Nat → Prop := fun f => R (fs.getD f [])
  have hrel : ∀ f k j, k ≤ N → rel f k j → j ≤ N := fun f k j hk hr => hR _ k j hk hr
  -- the last: what is behind all
  have k196 : ∀ M', Fr (PLd g lv) nQ M M' → LX g M' (lv + 1) N a nd → (∀ j, j < 32 → (bt (mI M' (gB g + 209) (32 * lv + (2 ^ m - 1))) j = true ↔ reS m rel (fun k => bt S k = true) (2 ^ m - 1) j)) → lb_X12_leadsAll_196 w g M (gB g + 195) (nI n) S post (nI (32 * lv)) (nI m) M' := by
    intro M' f x hv
    rintro M2 rfl
    rw [x.2.1, show nI (lv + 1) - 1 = nI lv from nI_pred lv, e2m, nI_add, show nI (32 * lv + 2 ^ m) - 1 = nI (32 * lv + (2 ^ m - 1)) by rw [show (1 : Int32) = nI 1 from rfl, pk_sub (by omega)]; congr 1; omega]
    have f2 : Fr (PLd g lv) nQ M (uI M' (gB g + 195) 28 (nI lv)) := f.uI (Or.inl ⟨rfl, rfl⟩)
    have x2 : LX g (uI M' (gB g + 195) 28 (nI lv)) lv N a nd := h.fr f2 (by rw [s_II, if_pos rfl, if_pos rfl])
    refine ⟨_, lr_195_27 x2.1, lk_209 h1, by rw [ln_209 h1]; exact pk_in (32 * lv + (2 ^ m - 1)) 256 (by omega), ?_⟩
    rw [nI_cl _ (by omega)]
    refine hq _ _ f2 x2 (fun j hj => ?_)
    rw [s_II, if_neg (by omega), hv j hj, reS_lin]
  -- the walk over subsets
  have walk : ∀ M', Fr (PLd g lv) nQ M M' → LX g M' (lv + 1) N a nd → (∀ t, t < 2 ^ m → ∀ j, j < 32 → (bt (mI M' (gB g + 209) (32 * lv + t)) j = true ↔ duS m rel (fun k => bt S k = true) 0 0 t j)) → ∃ k : Nat, lfp (fun bk z => bd_X12_leadsAll_88 w g M (gB g + 195) (nI n) S post bk z.1 z.2.1 z.2.2.1 z.2.2.2) k (nI (32 * lv), nI m, 0, M') := by
    intro M' f x hv
    refine lfp_up (fun c z => ∃ M2, z = (nI (32 * lv), nI m, nI c, M2) ∧ Fr (PLd g lv) nQ M M2 ∧ LX g M2 (lv + 1) N a nd ∧ ∀ t, t < 2 ^ m → ∀ j, j < 32 → (bt (mI M2 (gB g + 209) (32 * lv + t)) j = true ↔ duS m rel (fun k => bt S k = true) c 0 t j)) (2 ^ m) ?_ ?_ 0 _ (by omega) ⟨M', rfl, f, x, hv⟩
    · rintro bk z ⟨M2, rfl, f2, x2, hv2⟩
      show bd_X12_leadsAll_88 w g M (gB g + 195) (nI n) S post bk (nI (32 * lv)) (nI m) (nI (2 ^ m)) M2
      unfold bd_X12_leadsAll_88
      rw [e2m]
      refine pk_le (2 ^ m) (2 ^ m) (fun _ => k196 M2 f2 x2 (fun j hj => ?_)) (fun hx => by omega)
      rw [hv2 _ (by omega) j hj, duS_re hm5 (by omega)]
    · rintro bk c z hc ⟨M2, rfl, f2, x2, hv2⟩ hb
      show bd_X12_leadsAll_88 w g M (gB g + 195) (nI n) S post bk (nI (32 * lv)) (nI m) (nI c) M2
      unfold bd_X12_leadsAll_88
      rw [e2m, nI_add]
      have ci : Int32.toNatClampNeg (nI (32 * lv + c)) = 32 * lv + c := nI_cl _ (by omega)
      refine pk_le (2 ^ m) c (fun hx => by omega) (fun _ => ⟨_, lr_195_27 x2.1, lk_209 h1, by rw [ln_209 h1]; exact pk_in (32 * lv + c) 256 (by omega), ?_⟩)
      rw [ci, nI_1]
      refine ⟨fun h0 => ?_, fun h0 => ⟨_, lr_195_12 x2.1, lk_198 h1, by rw [ln_198 h1]; exact pk_in n 25200 hn, ?_⟩⟩
      · refine hb _ ⟨M2, rfl, f2, x2, fun t ht j hj => ?_⟩
        rw [hv2 t ht j hj, duS_skip hm5 0]
        intro i hi
        have hiN := duS_le hS0 hrel hi
        have := (hv2 c hc i (by omega)).mpr hi
        rw [h0, bt_0] at this; cases this
      · rw [cn, (x2.nd n).2.1]
        -- the forms, one behind another
        refine lfp_up (fun f z => ∃ (M3 : Mem) (y : Int32), z = (nI (32 * lv), nI m, nI c, nI f, y, M3) ∧ Fr (PLd g lv) nQ M M3 ∧ LX g M3 (lv + 1) N a nd ∧ chn lo hi nd.2.2.1 P y (fs.drop f) ∧ ∀ t, t < 2 ^ m → ∀ j, j < 32 → (bt (mI M3 (gB g + 209) (32 * lv + t)) j = true ↔ duS m rel (fun k => bt S k = true) c f t j)) m ?_ ?_ 0 _ (by omega) ⟨M2, nd.2.1 n, rfl, f2, x2, by rw [List.drop_zero]; exact hc0, hv2⟩
        · rintro bk2 z ⟨M3, y, rfl, f3, x3, hy, hv3⟩
          show bd_X12_leadsAll_123 w g M (gB g + 195) (nI n) S post bk bk2 (nI (32 * lv)) (nI m) (nI c) (nI m) y M3
          unfold bd_X12_leadsAll_123
          have hy1 : y = -1 := chn_drop hy (by rw [List.length_drop]; omega)
          rw [nI_1]
          refine ⟨fun _ => hb _ ⟨M3, rfl, f3, x3, fun t ht j hj => by rw [hv3 t ht j hj, duS_next]⟩, fun hx => absurd hy1 hx⟩
        · rintro bk2 f z hf ⟨M3, y, rfl, f3, x3, hy, hv3⟩ hb2
          show bd_X12_leadsAll_123 w g M (gB g + 195) (nI n) S post bk bk2 (nI (32 * lv)) (nI m) (nI c) (nI f) y M3
          unfold bd_X12_leadsAll_123
          have hdr : fs.drop f = fs.getD f [] :: fs.drop (f + 1) := by
            rw [List.drop_eq_getElem_cons (by omega)]
            congr 1
            rw [List.getD_eq_getElem?_getD, List.getElem?_eq_getElem (by omega)]; rfl
          rw [hdr] at hy
          obtain ⟨q, q1, q2, rfl, q3, q4⟩ := hy
          refine ⟨fun hx => absurd (show nI q < 0 by rw [hx]; decide) (nI_pos (by omega)), fun _ => ?_⟩
          have nx : ∀ M4, Fr (PLd g lv) nQ M M4 → LX g M4 (lv + 1) N a nd → (∀ t, t < 2 ^ m → ∀ j, j < 32 → (bt (mI M4 (gB g + 209) (32 * lv + t)) j = true ↔ duS m rel (fun k => bt S k = true) c (f + 1) t j)) → lb_X12_leadsAll_178 w g M (gB g + 195) (nI n) S post bk bk2 (nI (32 * lv)) (nI m) (nI c) (nI f + 1) (nI q) M4 := by
            intro M4 f4 x4 hv4
            refine ⟨_, lr_195_13 x4.1, lk_199 h1, by rw [ln_199 h1]; exact pk_in q 25200 (by omega), ?_⟩
            rw [nI_cl q (by omega), (x4.nd q).2.2.1, nI_1]
            exact hb2 _ ⟨M4, _, rfl, f4, x4, q4, hv4⟩
          rw [sb_test c (by omega) f (by omega)]
          refine ⟨fun hbit => ⟨_, lr_195_27 x3.1, lk_209 h1, by rw [nI_add, ln_209 h1]; exact pk_in (32 * lv + c) 256 (by omega), ?_⟩, fun hbit => nx M3 f3 x3 (fun t ht j hj => ?_)⟩
          · rw [nI_add, ci]
            have hsub : ∀ k, bt (mI M3 (gB g + 209) (32 * lv + c)) k = true → k ≤ N := by
              intro k hk
              rcases Nat.lt_or_ge k 32 with h32 | h32
              · exact duS_le hS0 hrel ((hv3 c hc k h32).mp hk)
              · rw [bt_ge _ h32] at hk; cases hk
            refine hw q _ q1 q2 q3 M3 _ _ x3 hsub (fun v M4 f4 x4 hv4 => ?_)
            have hor := sb_or c (by omega) f (by omega) hbit
            have hlt2 : c ||| 2 ^ f < 2 ^ m := by
              have h2f : 2 ^ f < 2 ^ m := Nat.pow_lt_pow_right (by decide) hf
              exact Nat.or_lt_two_pow hc h2f
            have eor : nI (32 * lv) + (nI c ||| (1 <<< (nI f &&& 31))) = nI (32 * lv + (c ||| 2 ^ f)) := by
              rw [sh_12 f (by omega), nI_or, nI_add]
            rw [eor]
            have g4 : Fr (PLd g lv) nQ M M4 := f3.tr (f4.mono (fun b k hh => by unfold PLd at hh ⊢; omega) (fun _ _ hh => hh))
            refine ⟨_, lr_195_27 x4.1, lk_209 h1, by rw [ln_209 h1]; exact pk_in (32 * lv + (c ||| 2 ^ f)) 256 (by omega), ?_⟩
            rintro M5 rfl
            rw [nI_cl _ (by omega)]
            have g5 : Fr (PLd g lv) nQ M (uI M4 (gB g + 209) (32 * lv + (c ||| 2 ^ f)) (mI M4 (gB g + 209) (32 * lv + (c ||| 2 ^ f)) ||| v)) := g4.uI (Or.inr ⟨rfl, by omega⟩)
            refine nx _ g5 (h.fr g5 (by rw [s_II, if_neg (by omega)]; exact x4.2.1)) (fun t ht j hj => ?_)
            have ev : ∀ t, t < 32 → mI M4 (gB g + 209) (32 * lv + t) = mI M3 (gB g + 209) (32 * lv + t) := fun t ht => f4.1 _ _ (by unfold PLd; omega)
            rw [s_II, if_pos rfl, duS_f hm5 hc hf]
            by_cases htc : t = c ||| 2 ^ f
            · subst htc
              rw [if_pos rfl, bt_or, Bool.or_eq_true, hv4 j hj, ev _ (by omega), hv3 _ ht j hj]
              constructor
              · rintro (h2 | ⟨k, h2, h3⟩)
                · exact Or.inl h2
                · have hkN := hsub k h2
                  exact Or.inr ⟨hbit, rfl, k, (duS_self hm5 hc).mp ((hv3 c hc k (by omega)).mp h2), h3⟩
              · rintro (h2 | ⟨_, _, i, h2, h3⟩)
                · exact Or.inl h2
                · have hiN := duS_le hS0 hrel h2
                  exact Or.inr ⟨i, (hv3 c hc i (by omega)).mpr ((duS_self hm5 hc).mpr h2), h3⟩
            · rw [if_neg (by omega), ev t (by omega), hv3 t ht j hj]
              constructor
              · exact Or.inl
              · rintro (h2 | ⟨_, h2, _⟩)
                · exact h2
                · exact absurd h2 htc
          · rw [hv3 t ht j hj, duS_f hm5 hc hf]
            constructor
            · exact Or.inl
            · rintro (h2 | ⟨h2, _⟩)
              · exact h2
              · exact absurd h2 hbit
  -- all is wiped first
  have wipe : ∀ M', Fr (PLd g lv) nQ M M' → LX g M' (lv + 1) N a nd → ∃ k : Nat, lfp (fun bk z => bd_X12_leadsAll_53 w g M (gB g + 195) (nI n) S post bk z.1 z.2.1 z.2.2.1 z.2.2.2) k (nI (32 * lv), nI m, 1, M') := by
    intro M' f x
    refine lfp_up (fun c z => ∃ M2, z = (nI (32 * lv), nI m, nI c, M2) ∧ Fr (PLd g lv) nQ M M2 ∧ LX g M2 (lv + 1) N a nd ∧ ∀ t, 1 ≤ t → t < c → mI M2 (gB g + 209) (32 * lv + t) = 0) (2 ^ m) ?_ ?_ 1 _ (by omega) ⟨M', rfl, f, x, fun t h1 h2 => by omega⟩
    · rintro bk z ⟨M2, rfl, f2, x2, hv2⟩
      show bd_X12_leadsAll_53 w g M (gB g + 195) (nI n) S post bk (nI (32 * lv)) (nI m) (nI (2 ^ m)) M2
      unfold bd_X12_leadsAll_53
      rw [e2m]
      refine pk_le (2 ^ m) (2 ^ m) (fun _ => ⟨_, lr_195_27 x2.1, lk_209 h1, by rw [ln_209 h1]; exact pk_in (32 * lv) 256 (by omega), ?_⟩) (fun hx => by omega)
      rintro M39 rfl
      rw [nI_cl _ (by omega)]
      have g3 : Fr (PLd g lv) nQ M (uI M2 (gB g + 209) (32 * lv) S) := f2.uI (Or.inr ⟨rfl, by omega⟩)
      refine walk _ g3 (h.fr g3 (by rw [s_II, if_neg (by omega)]; exact x2.2.1)) (fun t ht j hj => ?_)
      rw [duS_0, s_II, if_pos rfl]
      by_cases h0 : t = 0
      · subst h0; rw [if_pos (by omega)]; simp
      · rw [if_neg (by omega), hv2 t (by omega) ht, bt_0]; simp [h0]
    · rintro bk c z hc ⟨M2, rfl, f2, x2, hv2⟩ hb
      show bd_X12_leadsAll_53 w g M (gB g + 195) (nI n) S post bk (nI (32 * lv)) (nI m) (nI c) M2
      unfold bd_X12_leadsAll_53
      rw [e2m, nI_add]
      refine pk_le (2 ^ m) c (fun hx => by omega) (fun _ => ⟨_, lr_195_27 x2.1, lk_209 h1, by rw [ln_209 h1]; exact pk_in (32 * lv + c) 256 (by omega), ?_⟩)
      rintro M46 rfl
      rw [nI_cl _ (by omega), nI_1]
      have g3 : Fr (PLd g lv) nQ M (uI M2 (gB g + 209) (32 * lv + c) 0) := f2.uI (Or.inr ⟨rfl, by omega⟩)
      refine hb _ ⟨_, rfl, g3, h.fr g3 (by rw [s_II, if_neg (by omega)]; exact x2.2.1), fun t h1 h2 => ?_⟩
      rw [s_II, if_pos rfl]
      by_cases htc : t = c
      · subst htc; rw [if_pos rfl]
      · rw [if_neg (by omega)]; exact hv2 t h1 (by omega)
  -- the forms are counted
  refine lfp_up (fun f z => ∃ y : Int32, z = (nI (32 * lv), nI f, y, M1) ∧ chn lo hi nd.2.2.1 P y (fs.drop f)) m ?_ ?_ 0 _ (by omega) ⟨nd.2.1 n, rfl, by rw [List.drop_zero]; exact hc0⟩
  · rintro bk z ⟨y, rfl, hy⟩
    show bd_X12_leadsAll_29 w g M (gB g + 195) (nI n) S post bk (nI (32 * lv)) (nI m) y M1
    unfold bd_X12_leadsAll_29
    have hy1 : y = -1 := chn_drop hy (by rw [List.length_drop]; omega)
    exact ⟨fun _ => wipe M1 f0 x0, fun hx => absurd hy1 hx⟩
  · rintro bk f z hf ⟨y, rfl, hy⟩ hb
    show bd_X12_leadsAll_29 w g M (gB g + 195) (nI n) S post bk (nI (32 * lv)) (nI f) y M1
    unfold bd_X12_leadsAll_29
    rw [List.drop_eq_getElem_cons (by omega)] at hy
    obtain ⟨q, q1, q2, rfl, q3, q4⟩ := hy
    refine ⟨fun hx => absurd (show nI q < 0 by rw [hx]; decide) (nI_pos (by omega)), fun _ => ⟨_, lr_195_13 x0.1, lk_199 h1, by rw [ln_199 h1]; exact pk_in q 25200 (by omega), ?_⟩⟩
    rw [nI_cl q (by omega), (x0.nd q).2.2.1, nI_1]
    exact hb _ ⟨_, rfl, q4⟩
