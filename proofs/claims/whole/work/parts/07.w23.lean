set_option maxRecDepth 100000 in
def wp_X12_isPart  (g : Gh) (M0 : Mem) (a0 : Nat) (post : Int32 → Mem → Prop) : Prop :=
  okc (gB g) M0 a0 12 ∧ ((((mI M0 a0 6) = 2) → post 1 M0) ∧ (¬ ((mI M0 a0 6) = 2) → (((mI M0 a0 6) = 3) → post 1 M0) ∧ (¬ ((mI M0 a0 6) = 3) → wp_X12_isSign g M0 a0 91 (fun v3 M4 => ((v3 = 0) → wp_X12_isSign g M4 a0 40 (fun v6 M7 => ((v6 = 0) → wp_X12_isSign g M7 a0 123 (fun v9 M10 => ((v9 = 0) → post 0 M10) ∧ (¬ (v9 = 0) → post 1 M10))) ∧ (¬ (v6 = 0) → post 1 M7))) ∧ (¬ (v3 = 0) → post 1 M4)))))
set_option maxHeartbeats 4000000 in
set_option maxRecDepth 100000 in
theorem ct_X12_isPart {l : Launch} {g : Gh} {M0 : Mem} {a0 : Nat} {post : Int32 → Mem → Prop}  (hq : wp_X12_isPart  g M0 a0 post) : Ct l g yX12_isPart cX12_isPart 1 (some .boolean) 1 0 0 [.ref a0] M0 (pI post) := by
  unfold wp_X12_isPart at hq
  obtain ⟨h0, hq⟩ := hq
  refine Ct.of (by decide) (Nat.le_of_ble_eq_true rfl) ?_
  intro p e s m below meth c ls C hr hlk hn hl hw
  have hx := C.1.1
  have hb := C.1.2.1
  have hl : lv_has ls 1 [(0, .ref a0)] := hl
  refine lv_aload_n hx hb dX12_isPart_0 rfl (lv_at hl 0 rfl) ?_
  refine gfX12_143 C hw hw.2.2.1 h0 dX12_isPart_1 ?_
  refine lv_iconst (v := 2) hx hb dX12_isPart_4 (by decide) ?_
  refine lv_icmp_eq (tgt := 43) hx hb dX12_isPart_5 (by decide) (fun c1 => ?_) (fun c1 => ?_)
  · replace hq := hq.1 c1
    refine lv_iconst (v := 1) hx hb dX12_isPart_43 (by decide) ?_
    refine lv_goto (tgt := 48) hx hb dX12_isPart_44 (by decide) ?_
    exact r_zret C hr hlk hw dX12_isPart_48 (Nat.le_refl _) (Nat.le_refl _) (by decide) ⟨_, rfl, hq⟩
  · replace hq := hq.2 c1
    refine lv_aload_n hx hb dX12_isPart_8 rfl (lv_at hl 0 rfl) ?_
    refine gfX12_143 C hw hw.2.2.1 h0 dX12_isPart_9 ?_
    refine lv_iconst (v := 3) hx hb dX12_isPart_12 (by decide) ?_
    refine lv_icmp_eq (tgt := 43) hx hb dX12_isPart_13 (by decide) (fun c2 => ?_) (fun c2 => ?_)
    · replace hq := hq.1 c2
      refine lv_iconst (v := 1) hx hb dX12_isPart_43 (by decide) ?_
      refine lv_goto (tgt := 48) hx hb dX12_isPart_44 (by decide) ?_
      exact r_zret C hr hlk hw dX12_isPart_48 (Nat.le_refl _) (Nat.le_refl _) (by decide) ⟨_, rfl, hq⟩
    · replace hq := hq.2 c2
      refine lv_aload_n hx hb dX12_isPart_16 rfl (lv_at hl 0 rfl) ?_
      refine lv_bipush (v := 91) hx hb dX12_isPart_17 (by decide) ?_
      refine r_callV (T := TX12) (N := 67) (ci := 12) (index := 187) (n := 1) (d2 := 0) (mc := 0) (ms := 0) (As := [.int 91]) (rest := []) C hw (ct_X12_isSign hq) kvX12_187 hq.1 (by decide) rfl ⟨by decide, by decide⟩ ⟨by decide, by decide⟩ rfl hl.1 rfl (Nat.le_of_ble_eq_true rfl) dX12_isPart_19 (fun r M4 H locs hp hle hw => ?_)
      obtain ⟨v3, rfl, hq⟩ := hp
      refine W.eq (g2 := F0 m 22 ls [.int v3]) rfl ?_
      refine lv_if_ne (tgt := 43) hx hb dX12_isPart_22 (by decide) (fun c5 => ?_) (fun c5 => ?_)
      · replace hq := hq.2 c5
        refine lv_iconst (v := 1) hx hb dX12_isPart_43 (by decide) ?_
        refine lv_goto (tgt := 48) hx hb dX12_isPart_44 (by decide) ?_
        exact r_zret C hr hlk hw dX12_isPart_48 (Nat.le_refl _) (Nat.le_refl _) (by decide) ⟨_, rfl, hq⟩
      · replace hq := hq.1 c5
        refine lv_aload_n hx hb dX12_isPart_25 rfl (lv_at hl 0 rfl) ?_
        refine lv_bipush (v := 40) hx hb dX12_isPart_26 (by decide) ?_
        refine r_callV (T := TX12) (N := 67) (ci := 12) (index := 187) (n := 1) (d2 := 0) (mc := 0) (ms := 0) (As := [.int 40]) (rest := []) C hw (ct_X12_isSign hq) kvX12_187 hq.1 (by decide) rfl ⟨by decide, by decide⟩ ⟨by decide, by decide⟩ rfl hl.1 rfl (Nat.le_of_ble_eq_true rfl) dX12_isPart_28 (fun r M7 H locs hp hle hw => ?_)
        obtain ⟨v6, rfl, hq⟩ := hp
        refine W.eq (g2 := F0 m 31 ls [.int v6]) rfl ?_
        refine lv_if_ne (tgt := 43) hx hb dX12_isPart_31 (by decide) (fun c8 => ?_) (fun c8 => ?_)
        · replace hq := hq.2 c8
          refine lv_iconst (v := 1) hx hb dX12_isPart_43 (by decide) ?_
          refine lv_goto (tgt := 48) hx hb dX12_isPart_44 (by decide) ?_
          exact r_zret C hr hlk hw dX12_isPart_48 (Nat.le_refl _) (Nat.le_refl _) (by decide) ⟨_, rfl, hq⟩
        · replace hq := hq.1 c8
          refine lv_aload_n hx hb dX12_isPart_34 rfl (lv_at hl 0 rfl) ?_
          refine lv_bipush (v := 123) hx hb dX12_isPart_35 (by decide) ?_
          refine r_callV (T := TX12) (N := 67) (ci := 12) (index := 187) (n := 1) (d2 := 0) (mc := 0) (ms := 0) (As := [.int 123]) (rest := []) C hw (ct_X12_isSign hq) kvX12_187 hq.1 (by decide) rfl ⟨by decide, by decide⟩ ⟨by decide, by decide⟩ rfl hl.1 rfl (Nat.le_of_ble_eq_true rfl) dX12_isPart_37 (fun r M10 H locs hp hle hw => ?_)
          obtain ⟨v9, rfl, hq⟩ := hp
          refine W.eq (g2 := F0 m 40 ls [.int v9]) rfl ?_
          refine lv_if_eq (tgt := 47) hx hb dX12_isPart_40 (by decide) (fun c11 => ?_) (fun c11 => ?_)
          · replace hq := hq.1 c11
            refine lv_iconst (v := 0) hx hb dX12_isPart_47 (by decide) ?_
            exact r_zret C hr hlk hw dX12_isPart_48 (Nat.le_refl _) (Nat.le_refl _) (by decide) ⟨_, rfl, hq⟩
          · replace hq := hq.2 c11
            refine lv_iconst (v := 1) hx hb dX12_isPart_43 (by decide) ?_
            refine lv_goto (tgt := 48) hx hb dX12_isPart_44 (by decide) ?_
            exact r_zret C hr hlk hw dX12_isPart_48 (Nat.le_refl _) (Nat.le_refl _) (by decide) ⟨_, rfl, hq⟩

set_option maxRecDepth 100000 in
def wp_X12_none  (g : Gh) (M0 : Mem) (a0 : Nat) (p1 : Int32) (post : Int32 → Mem → Prop) : Prop :=
  okc (gB g) M0 a0 12 ∧ (wp_X12_bad g M0 a0 p1 (fun v1 M2 => post (-1) M2))
set_option maxHeartbeats 4000000 in
set_option maxRecDepth 100000 in
theorem ct_X12_none {l : Launch} {g : Gh} {M0 : Mem} {a0 : Nat} {p1 : Int32} {post : Int32 → Mem → Prop}  (hq : wp_X12_none  g M0 a0 p1 post) : Ct l g yX12_none cX12_none 2 (some .int) 1 0 0 [.ref a0, .int p1] M0 (pI post) := by
  unfold wp_X12_none at hq
  obtain ⟨h0, hq⟩ := hq
  refine Ct.of (by decide) (Nat.le_of_ble_eq_true rfl) ?_
  intro p e s m below meth c ls C hr hlk hn hl hw
  have hx := C.1.1
  have hb := C.1.2.1
  have hl : lv_has ls 2 [(0, .ref a0), (1, .int p1)] := hl
  refine lv_aload_n hx hb dX12_none_0 rfl (lv_at hl 0 rfl) ?_
  refine lv_iload_n hx hb dX12_none_1 rfl (lv_at hl 1 rfl) ?_
  refine r_callV (T := TX12) (N := 67) (ci := 12) (index := 213) (n := 1) (d2 := 0) (mc := 0) (ms := 0) (As := [.int p1]) (rest := []) C hw (ct_X12_bad hq) kvX12_213 hq.1 (by decide) rfl ⟨by decide, by decide⟩ ⟨by decide, by decide⟩ rfl hl.1 rfl (Nat.le_of_ble_eq_true rfl) dX12_none_2 (fun r M2 H locs hp hle hw => ?_)
  obtain ⟨v1, rfl, hq⟩ := hp
  refine W.eq (g2 := F0 m 5 ls [.int v1]) rfl ?_
  refine lv_pop hx hb dX12_none_5 rfl ?_
  refine lv_iconst (v := (-1)) hx hb dX12_none_6 (by decide) ?_
  exact r_iret C hr hlk hw dX12_none_7 (Nat.le_refl _) (Nat.le_refl _) ⟨_, rfl, hq⟩
