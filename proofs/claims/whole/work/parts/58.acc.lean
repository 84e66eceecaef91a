/-! PURE: the class's accepts -/
set_option maxHeartbeats 1000000 in
theorem sp_accepts {g : Gh} {M : Mem} (h1 : Lay g M) {N : Nat} {a : AnT} (ha : AC g M N a) (hN : N ≤ 20) (hok : okN N a) {f ka la ha' : Nat} {F : List (List (Prt 6))} (hof : okc (gB g) M f 1) (ho : okF (okP 6) F) (hl : (linF (linP 6) F).length ≤ 200) (hr : mR M f 0 = some ka ∧ mR M f 1 = some la ∧ mR M f 2 = some ha') (hk : okc (gB g) M ka 13 ∧ okc (gB g) M la 15 ∧ okc (gB g) M ha' 15) (h234 : (gB g + 234) ≤ ka) (hn : mN M ka = (linF (linP 6) F).length ∧ mN M la = (linF (linP 6) F).length ∧ mN M ha' = (linF (linP 6) F).length) (hv : ∀ i x, (linF (linP 6) F)[i]? = some x → mI M ka i = nI x.1 ∧ mJ M la i = x.2.1 ∧ mJ M ha' i = x.2.2) {post : Int32 → Mem → Prop} (hy : ∀ M', Fr (PX g 12) nQ M M' → rF (rP N a 6) F 0 N → post 1 M') (hno : ∀ M', Fr (PX g 12) nQ M M' → ¬ rF (rP N a 6) F 0 N → post 0 M') : wp_X7_accepts g M (gB g + 9) f post := by
  generalize hit : linF (linP 6) F = items at hl hn hv
  generalize hlen : items.length = len at hl hn
  refine ⟨lk_9 h1, ?_⟩
  rintro M1 rfl
  have f0 : Fr (PX g 12) nQ M (uI M (gB g + 9) 3 0) := Fr.rf.uI (Or.inl ⟨rfl, rfl⟩)
  have r3 : mI (uI M (gB g + 9) 3 0) (gB g + 9) 3 = nI 0 := by rw [s_II, if_pos rfl, if_pos rfl]; rfl
  generalize uI M (gB g + 9) 3 0 = M1 at f0 r3 ⊢
  have l1 := f0.lay h1
  refine ⟨_, lr_9_2 l1, lk_11 h1, by rw [ln_11 h1]; exact pk_in 0 7 (by omega), _, (lk_fr l1 (show 0 < 7 by omega)).2.2.1, ?_⟩
  refine sp_restart l1 (show 0 < 7 by omega) hN (fun M2 f2 _ r1 r2 => ⟨len + 1, ?_⟩)
  have g2 : Fr (PX g 12) nQ M M2 := f0.tr (f2.mono (fun b k hh => by unfold PX; omega) (fun _ _ hh => hh))
  have z2 : mI M2 (gB g + 9) 3 = nI 0 := by rw [f2.1 _ _ (by omega)]; exact r3
  have hAC : AC g M2 N a := ha.fr g2 (fun b k hh => by unfold PX at hh; omega) (fun a k hh => (hh : False).elim)
  have c2 : CX g M2 0 N a := ⟨g2.lay h1, z2, hAC⟩
  -- what is run over the items that are left
  let FF : (Int32 × Mem → Prop) → Int32 × Mem → Prop := fun bk z => bd_X7_accepts_16 g M (gB g + 9) f post bk z.1 z.2
  let T : List Itm → Mem → Prop := fun r M' => lfp FF (r.length + 1) (nI (len - r.length), M')
  have sz : ∀ M', Fr (PX g 12) nQ M M' → ∀ (post2 : Int32 → Mem → Prop), post2 (nI len) M' → wp_X1_size g M' f post2 := by
    intro M' f' post2 hp
    refine ⟨f'.oc hof, ka, by rw [f'.R]; exact hr.1, f'.oc hk.1, la, by rw [f'.R]; exact hr.2.1, f'.oc hk.2.1, ha', by rw [f'.R]; exact hr.2.2, f'.oc hk.2.2, ?_⟩
    rw [f'.N, hn.1, hn.2.1, hn.2.2]
    simp only [ite_self]
    exact hp
  have hT : clT g items M T := by
    intro x r M' hs f' hst
    obtain ⟨pre, hpre⟩ := hs
    have el : pre.length + (r.length + 1) = len := by rw [← hlen, ← hpre, List.length_append, List.length_cons]
    show bd_X7_accepts_16 g M (gB g + 9) f post (lfp FF (r.length + 1)) (nI (len - (r.length + 1))) M'
    unfold bd_X7_accepts_16
    refine sz M' f' _ ?_
    rw [show len - (r.length + 1) = pre.length by omega]
    have hx : items[pre.length]? = some x := by rw [← hpre, List.getElem?_append_right (Nat.le_refl _), Nat.sub_self]; rfl
    have hvx := hv _ _ hx
    refine pk_le len pre.length (fun hx => by omega) (fun _ => ⟨hof, ka, by rw [f'.R]; exact hr.1, hk.1, by rw [hn.1]; exact pk_in pre.length len (by omega), la, by rw [f'.R]; exact hr.2.1, hk.2.1, by rw [hn.2.1]; exact pk_in pre.length len (by omega), ha', by rw [f'.R]; exact hr.2.2, hk.2.2, by rw [hn.2.2]; exact pk_in pre.length len (by omega), ?_⟩)
    rw [nI_cl _ (by omega), nI_1, f'.1 ka _ (fun hh => by unfold PX at hh; omega), f'.2.1 la _ (fun hh => hh), f'.2.1 ha' _ (fun hh => hh), hvx.1, hvx.2.1, hvx.2.2]
    rw [show pre.length + 1 = len - r.length by omega]
    exact hst
  have last : ∀ M' A B, Fr (PX g 12) nQ M M' → mI M' (gB g + 9) 3 = nI 0 → RowIs g M' (13 + 5 * 0) N A → RowIs g M' (14 + 5 * 0) N B → (∀ s, s ≤ N → ∀ j, j < 32 → ((B s j ∨ A s j) ↔ rF (rP N a 6) F s j)) → T [] M' := by
    intro M' A B f' z' rA rB hAB
    have l' := f'.lay h1
    show bd_X7_accepts_16 g M (gB g + 9) f post (lfp FF 0) (nI (len - 0)) M'
    unfold bd_X7_accepts_16
    refine sz M' f' _ ?_
    rw [Nat.sub_zero]
    refine pk_le len len (fun _ => ⟨_, lr_9_2 l', lk_11 h1, by rw [ln_11 h1]; exact pk_in 0 7 (by omega), _, (lk_fr l' (show 0 < 7 by omega)).2.2.1, ?_⟩) (fun hx => by omega)
    refine sp_closeRow l' (show 0 < 7 by omega) hN rA rB (fun M3 f3 r4 r5 => ?_)
    have g3 : Fr (PX g 12) nQ M M3 := f'.tr (f3.mono (fun b k hh => by unfold PX; omega) (fun _ _ hh => hh))
    have l3 := g3.lay h1
    have hf3 := lk_fr l3 (show 0 < 7 by omega)
    refine ⟨_, lr_9_2 l3, lk_11 h1, by rw [ln_11 h1]; exact pk_in 0 7 (by omega), _, hf3.2.2.1, (lk_fr h1 (show 0 < 7 by omega)).1.1, _, hf3.2.2.2.2.1, (lk_fr h1 (show 0 < 7 by omega)).1.2.2.1, by rw [(lk_fr h1 (show 0 < 7 by omega)).2.1.2.1]; exact pk_in 0 21 (by omega), ?_⟩
    rw [(ha.fr g3 (fun b k hh => by unfold PX at hh; omega) (fun a k hh => (hh : False).elim)).1, bt_test _ (by omega), show Int32.toNatClampNeg 0 = 0 from rfl, r5 0 (by omega) N (by omega)]
    have hkey := hAB 0 (by omega) N (by omega)
    exact ⟨fun hx => hy M3 g3 (hkey.mp hx), fun hx => hno M3 g3 (fun hh => hx (hkey.mpr hh))⟩
  have run : sqM g items M2 (fun M' => ∃ A B, Fr (PX g 12) nQ M M' ∧ mI M' (gB g + 9) 3 = nI 0 ∧ RowIs g M' (13 + 5 * 0) N A ∧ RowIs g M' (14 + 5 * 0) N B ∧ (∀ s, s ≤ N → ∀ j, j < 32 → ((B s j ∨ A s j) ↔ rF (rP N a 6) F s j))) := by
    rw [← hit]
    exact pt_F hN (by omega) (rP_le N a 6) (fun p hp => pt_P hN hok 6 0 (by omega) p hp) ho M2 _ c2 r1 r2 (fun M' A B f' z' rA rB hAB => ⟨A, B, g2.tr (f'.mono (fun b k hh => PX.up (by omega) _ _ (PXf.up (by omega) b k hh)) (fun _ _ hh => hh)), z', rA, rB, hAB⟩)
  have fin := run items M T [] hT (by rw [List.append_nil]; exact List.suffix_refl _) g2 (fun M' _ ⟨A, B, f', z', rA, rB, hAB⟩ => last M' A B f' z' rA rB hAB)
  rw [List.append_nil] at fin
  have fin : lfp FF (items.length + 1) (nI (len - items.length), M2) := fin
  rw [hlen, Nat.sub_self] at fin
  exact fin
