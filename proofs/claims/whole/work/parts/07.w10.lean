set_option maxRecDepth 100000 in
def lb_X6_apply_128  (g : Gh) (M0 : Mem) (a0 : Nat) (a1 : Nat) (post : Mem → Prop)    (M : Mem) : Prop :=
  wp_X6_goesToOther g M a0 a1 (fun v1 M2 => ((v1 = 0) → wp_X6_goTo g M2 a0 ((mI M2 a0 5) + 1) (fun M5 => post M5)) ∧ (¬ (v1 = 0) → ∀ M6, M6 = uI M2 a0 7 1 → (okc (gB g) M0 a1 0 ∧ (∀ M9, M9 = uI M6 a0 6 (1 - (mI M6 a1 2)) → (post M9)))))
set_option maxRecDepth 100000 in
def lb_X6_apply_112  (g : Gh) (M0 : Mem) (a0 : Nat) (a1 : Nat) (post : Mem → Prop)    (M : Mem) : Prop :=
  ∃ q11, mR M a0 8 = some q11 ∧ (okc (gB g) M0 a1 0 ∧ (okc (gB g) M0 q11 14 ∧ (vp_in (mI M a1 2) (mN M0 q11) ∧ (∀ M16, M16 = uI M q11 (Int32.toNatClampNeg (mI M a1 2)) ((mI M q11 (Int32.toNatClampNeg (mI M a1 2))) + (mI M a1 5)) → (lb_X6_apply_128  g M0 a0 a1 post   M16)))))
set_option maxRecDepth 100000 in
def lb_X6_apply_67  (g : Gh) (M0 : Mem) (a0 : Nat) (a1 : Nat) (post : Mem → Prop)   (s0 : Nat) (s1 : Int32) (M : Mem) : Prop :=
  okc (gB g) M0 s0 0 ∧ ((s1 = 0 ∨ s1 = 1) ∧ (∀ M20, M20 = uI M s0 4 s1 → (okc (gB g) M0 a1 0 ∧ ((((mI M20 a1 4) = 0) → wp_X6_worthOf g M20 a0 a1 (fun v24 M25 => ∀ M26, M26 = uI M25 a1 5 v24 → ((((mI M26 a1 2) = 0) → lb_X6_apply_112  g M0 a0 a1 post   M26) ∧ (¬ ((mI M26 a1 2) = 0) → (((mI M26 a1 2) = 1) → lb_X6_apply_112  g M0 a0 a1 post   M26) ∧ (¬ ((mI M26 a1 2) = 1) → lb_X6_apply_128  g M0 a0 a1 post   M26))))) ∧ (¬ ((mI M20 a1 4) = 0) → ∀ M30, M30 = uI M20 a0 4 ((mI M20 a0 4) + 1) → (post M30))))))
set_option maxRecDepth 100000 in
def lb_X6_apply_19  (g : Gh) (M0 : Mem) (a0 : Nat) (a1 : Nat) (post : Mem → Prop)    (M : Mem) : Prop :=
  okc (gB g) M0 a1 0 ∧ (∀ M33, M33 = uI M a1 5 0 → ((((mI M33 a1 0) < (mI M33 a0 5)) → lb_X6_apply_67  g M0 a0 a1 post  a1 1 M33) ∧ (¬ ((mI M33 a1 0) < (mI M33 a0 5)) → wp_X6_isOver g M33 a0 (fun v36 M37 => ((v36 = 0) → (((mI M37 a1 1) = 2) → lb_X6_apply_67  g M0 a0 a1 post  a1 0 M37) ∧ (¬ ((mI M37 a1 1) = 2) → wp_X6_isFor g M37 a0 (mI M37 a1 2) (fun v40 M41 => ((v40 = 0) → lb_X6_apply_67  g M0 a0 a1 post  a1 1 M41) ∧ (¬ (v40 = 0) → lb_X6_apply_67  g M0 a0 a1 post  a1 0 M41)))) ∧ (¬ (v36 = 0) → lb_X6_apply_67  g M0 a0 a1 post  a1 1 M37)))))
set_option maxRecDepth 100000 in
def wp_X6_apply  (g : Gh) (M0 : Mem) (a0 : Nat) (a1 : Nat) (post : Mem → Prop) : Prop :=
  okc (gB g) M0 a0 6 ∧ (okc (gB g) M0 a1 0 ∧ ((((mI M0 a1 0) ≤ (mI M0 a0 5)) → lb_X6_apply_19  g M0 a0 a1 post   M0) ∧ (¬ ((mI M0 a1 0) ≤ (mI M0 a0 5)) → wp_X6_goTo g M0 a0 (mI M0 a1 0) (fun M46 => lb_X6_apply_19  g M0 a0 a1 post   M46))))
set_option maxHeartbeats 4000000 in
set_option maxRecDepth 100000 in
theorem lt_X6_apply_128 {l : Launch} {g : Gh} {p : Program} {e : Env} {s : State} {m : MethodId} {args : Array Value} {below : List Frame} {meth : Method} {c : Code} {H : Heap} {locs : List Loc} {ls : Array Slot} {M0 M : Mem} {a0 : Nat} {a1 : Nat} {post : Mem → Prop}    (C : Cx g p s m args c cX6_apply 2 RX6) (hr : meth.sig.returnType = none) (hlk : meth.locks = false) (hn : meth.name = "apply") (h0 : okc (gB g) M0 a0 6)  (hq : lb_X6_apply_128  g M0 a0 a1 post   M) (hw : Wd g s M0 M H locs) (hl : lv_has ls 2 [(0, .ref a0), (1, .ref a1)]) : W p l e (rmo 3 0 0) s m args below meth c H locs 0 0 (MQ below (Cq g M0 (pV post)) args s 0 0 (gA g)) (F0 m 128 ls []) := by
  have hx := C.1.1
  have hb := C.1.2.1
  unfold lb_X6_apply_128 at hq
  refine lv_aload_n hx hb dX6_apply_128 rfl (lv_at hl 0 rfl) ?_
  refine lv_aload_n hx hb dX6_apply_129 rfl (lv_at hl 1 rfl) ?_
  refine r_callV (T := TX6) (N := 9) (ci := 6) (index := 102) (n := 1) (d2 := 2) (mc := 0) (ms := 0) (As := [.ref a1]) (rest := []) C hw (ct_X6_goesToOther hq) kvX6_102 hq.1 (by decide) rfl ⟨by decide, by decide⟩ ⟨by decide, by decide⟩ rfl hl.1 rfl (Nat.le_of_ble_eq_true rfl) dX6_apply_130 (fun r M2 H locs hp hle hw => ?_)
  obtain ⟨v1, rfl, hq⟩ := hp
  refine W.eq (g2 := F0 m 133 ls [.int v1]) rfl ?_
  refine lv_if_eq (tgt := 154) hx hb dX6_apply_133 (by decide) (fun c3 => ?_) (fun c3 => ?_)
  · replace hq := hq.1 c3
    refine lv_aload_n hx hb dX6_apply_154 rfl (lv_at hl 0 rfl) ?_
    refine lv_aload_n hx hb dX6_apply_155 rfl (lv_at hl 0 rfl) ?_
    refine gfX6_37 C hw hw.2.2.1 h0 dX6_apply_156 ?_
    refine lv_iconst (v := 1) hx hb dX6_apply_159 (by decide) ?_
    refine lv_iadd hx hb dX6_apply_160 ?_
    refine r_callV (T := TX6) (N := 9) (ci := 6) (index := 89) (n := 1) (d2 := 2) (mc := 0) (ms := 0) (As := [.int ((mI M2 a0 5) + 1)]) (rest := []) C hw (ct_X6_goTo hq) kvX6_89 hq.1 (by decide) rfl ⟨by decide, by decide⟩ ⟨by decide, by decide⟩ rfl hl.1 rfl (Nat.le_of_ble_eq_true rfl) dX6_apply_161 (fun r M5 H locs hp hle hw => ?_)
    obtain ⟨rfl, hq⟩ := hp
    refine W.eq (g2 := F0 m 164 ls []) rfl ?_
    exact r_vret C hr hlk hw dX6_apply_164 (Nat.le_refl _) (Nat.le_refl _) ⟨rfl, hq⟩
  · replace hq := hq.2 c3
    refine lv_aload_n hx hb dX6_apply_136 rfl (lv_at hl 0 rfl) ?_
    refine lv_iconst (v := 1) hx hb dX6_apply_137 (by decide) ?_
    refine pfX6_93 C hw hw.2.2.1 h0 (by decide) dX6_apply_138 (fun H locs hw => ?_)
    generalize e7 : uI M2 a0 7 1 = M6 at hw
    replace hq := hq M6 e7.symm
    refine lv_aload_n hx hb dX6_apply_141 rfl (lv_at hl 0 rfl) ?_
    refine lv_iconst (v := 1) hx hb dX6_apply_142 (by decide) ?_
    refine lv_aload_n hx hb dX6_apply_143 rfl (lv_at hl 1 rfl) ?_
    obtain ⟨h8, hq⟩ := hq
    refine gfX6_62 C hw hw.2.2.1 h8 dX6_apply_144 ?_
    refine lv_isub hx hb dX6_apply_147 ?_
    refine pfX6_79 C hw hw.2.2.1 h0 dX6_apply_148 (fun H locs hw => ?_)
    generalize e10 : uI M6 a0 6 (1 - (mI M6 a1 2)) = M9 at hw
    replace hq := hq M9 e10.symm
    refine lv_goto (tgt := 164) hx hb dX6_apply_151 (by decide) ?_
    exact r_vret C hr hlk hw dX6_apply_164 (Nat.le_refl _) (Nat.le_refl _) ⟨rfl, hq⟩
set_option maxHeartbeats 4000000 in
set_option maxRecDepth 100000 in
theorem lt_X6_apply_112 {l : Launch} {g : Gh} {p : Program} {e : Env} {s : State} {m : MethodId} {args : Array Value} {below : List Frame} {meth : Method} {c : Code} {H : Heap} {locs : List Loc} {ls : Array Slot} {M0 M : Mem} {a0 : Nat} {a1 : Nat} {post : Mem → Prop}    (C : Cx g p s m args c cX6_apply 2 RX6) (hr : meth.sig.returnType = none) (hlk : meth.locks = false) (hn : meth.name = "apply") (h0 : okc (gB g) M0 a0 6)  (hq : lb_X6_apply_112  g M0 a0 a1 post   M) (hw : Wd g s M0 M H locs) (hl : lv_has ls 2 [(0, .ref a0), (1, .ref a1)]) : W p l e (rmo 3 0 0) s m args below meth c H locs 0 0 (MQ below (Cq g M0 (pV post)) args s 0 0 (gA g)) (F0 m 112 ls []) := by
  have hx := C.1.1
  have hb := C.1.2.1
  unfold lb_X6_apply_112 at hq
  refine lv_aload_n hx hb dX6_apply_112 rfl (lv_at hl 0 rfl) ?_
  obtain ⟨q11, e12, hq⟩ := hq
  refine gfX6_26 C hw hw.2.2.1 h0 e12 dX6_apply_113 ?_
  refine lv_aload_n hx hb dX6_apply_116 rfl (lv_at hl 1 rfl) ?_
  obtain ⟨h13, hq⟩ := hq
  refine gfX6_62 C hw hw.2.2.1 h13 dX6_apply_117 ?_
  refine lv_dup2_11 hx hb dX6_apply_120 rfl rfl ?_
  obtain ⟨h14, hq⟩ := hq
  obtain ⟨h15, hq⟩ := hq
  refine q_iald C hw hw.2.2.1 h14 h15 dX6_apply_121 ?_
  refine lv_aload_n hx hb dX6_apply_122 rfl (lv_at hl 1 rfl) ?_
  refine gfX6_96 C hw hw.2.2.1 h13 dX6_apply_123 ?_
  refine lv_iadd hx hb dX6_apply_126 ?_
  refine q_iast C hw hw.2.2.1 h14 h15 dX6_apply_127 (fun H locs hw => ?_)
  generalize e17 : uI M q11 (Int32.toNatClampNeg (mI M a1 2)) ((mI M q11 (Int32.toNatClampNeg (mI M a1 2))) + (mI M a1 5)) = M16 at hw
  replace hq := hq M16 e17.symm
  have e12 : mR M16 a0 8 = some q11 := by rw [← e17, mR_uI]; exact e12
  exact lt_X6_apply_128  C hr hlk hn h0  hq hw (lv_sub hl [0, 1] rfl)
set_option maxHeartbeats 4000000 in
set_option maxRecDepth 100000 in
theorem lt_X6_apply_67 {l : Launch} {g : Gh} {p : Program} {e : Env} {s : State} {m : MethodId} {args : Array Value} {below : List Frame} {meth : Method} {c : Code} {H : Heap} {locs : List Loc} {ls : Array Slot} {M0 M : Mem} {a0 : Nat} {a1 : Nat} {post : Mem → Prop}  {s0 : Nat} {s1 : Int32}  (C : Cx g p s m args c cX6_apply 2 RX6) (hr : meth.sig.returnType = none) (hlk : meth.locks = false) (hn : meth.name = "apply") (h0 : okc (gB g) M0 a0 6)  (hq : lb_X6_apply_67  g M0 a0 a1 post  s0 s1 M) (hw : Wd g s M0 M H locs) (hl : lv_has ls 2 [(0, .ref a0), (1, .ref a1)]) : W p l e (rmo 3 0 0) s m args below meth c H locs 0 0 (MQ below (Cq g M0 (pV post)) args s 0 0 (gA g)) (F0 m 67 ls [.int s1, .ref s0]) := by
  have hx := C.1.1
  have hb := C.1.2.1
  unfold lb_X6_apply_67 at hq
  obtain ⟨h18, hq⟩ := hq
  obtain ⟨h19, hq⟩ := hq
  refine pfX6_76 C hw hw.2.2.1 h18 h19 dX6_apply_67 (fun H locs hw => ?_)
  generalize e21 : uI M s0 4 s1 = M20 at hw
  replace hq := hq M20 e21.symm
  refine lv_aload_n hx hb dX6_apply_70 rfl (lv_at hl 1 rfl) ?_
  obtain ⟨h22, hq⟩ := hq
  refine gfX6_76 C hw hw.2.2.1 h22 dX6_apply_71 ?_
  refine lv_if_eq (tgt := 88) hx hb dX6_apply_74 (by decide) (fun c23 => ?_) (fun c23 => ?_)
  · replace hq := hq.1 c23
    refine lv_aload_n hx hb dX6_apply_88 rfl (lv_at hl 1 rfl) ?_
    refine lv_aload_n hx hb dX6_apply_89 rfl (lv_at hl 0 rfl) ?_
    refine lv_aload_n hx hb dX6_apply_90 rfl (lv_at hl 1 rfl) ?_
    refine r_callV (T := TX6) (N := 9) (ci := 6) (index := 98) (n := 1) (d2 := 2) (mc := 0) (ms := 0) (As := [.ref a1]) (rest := [.ref a1]) C hw (ct_X6_worthOf hq) kvX6_98 hq.1 (by decide) rfl ⟨by decide, by decide⟩ ⟨by decide, by decide⟩ rfl hl.1 rfl (Nat.le_of_ble_eq_true rfl) dX6_apply_91 (fun r M25 H locs hp hle hw => ?_)
    obtain ⟨v24, rfl, hq⟩ := hp
    refine W.eq (g2 := F0 m 94 ls [.int v24, .ref a1]) rfl ?_
    refine pfX6_96 C hw hw.2.2.1 h22 dX6_apply_94 (fun H locs hw => ?_)
    generalize e27 : uI M25 a1 5 v24 = M26 at hw
    replace hq := hq M26 e27.symm
    refine lv_aload_n hx hb dX6_apply_97 rfl (lv_at hl 1 rfl) ?_
    refine gfX6_62 C hw hw.2.2.1 h22 dX6_apply_98 ?_
    refine lv_if_eq (tgt := 112) hx hb dX6_apply_101 (by decide) (fun c28 => ?_) (fun c28 => ?_)
    · replace hq := hq.1 c28
      exact lt_X6_apply_112  C hr hlk hn h0  hq hw (lv_sub hl [0, 1] rfl)
    · replace hq := hq.2 c28
      refine lv_aload_n hx hb dX6_apply_104 rfl (lv_at hl 1 rfl) ?_
      refine gfX6_62 C hw hw.2.2.1 h22 dX6_apply_105 ?_
      refine lv_iconst (v := 1) hx hb dX6_apply_108 (by decide) ?_
      refine lv_icmp_ne (tgt := 128) hx hb dX6_apply_109 (by decide) (fun c29 => ?_) (fun c29 => ?_)
      · replace hq := hq.2 c29
        exact lt_X6_apply_128  C hr hlk hn h0  hq hw (lv_sub hl [0, 1] rfl)
      · replace hq := hq.1 c29
        exact lt_X6_apply_112  C hr hlk hn h0  hq hw (lv_sub hl [0, 1] rfl)
  · replace hq := hq.2 c23
    refine lv_aload_n hx hb dX6_apply_77 rfl (lv_at hl 0 rfl) ?_
    refine lv_dup hx hb dX6_apply_78 rfl ?_
    refine gfX6_86 C hw hw.2.2.1 h0 dX6_apply_79 ?_
    refine lv_iconst (v := 1) hx hb dX6_apply_82 (by decide) ?_
    refine lv_iadd hx hb dX6_apply_83 ?_
    refine pfX6_86 C hw hw.2.2.1 h0 dX6_apply_84 (fun H locs hw => ?_)
    generalize e31 : uI M20 a0 4 ((mI M20 a0 4) + 1) = M30 at hw
    replace hq := hq M30 e31.symm
    exact r_vret C hr hlk hw dX6_apply_87 (Nat.le_refl _) (Nat.le_refl _) ⟨rfl, hq⟩
set_option maxHeartbeats 4000000 in
set_option maxRecDepth 100000 in
theorem lt_X6_apply_19 {l : Launch} {g : Gh} {p : Program} {e : Env} {s : State} {m : MethodId} {args : Array Value} {below : List Frame} {meth : Method} {c : Code} {H : Heap} {locs : List Loc} {ls : Array Slot} {M0 M : Mem} {a0 : Nat} {a1 : Nat} {post : Mem → Prop}    (C : Cx g p s m args c cX6_apply 2 RX6) (hr : meth.sig.returnType = none) (hlk : meth.locks = false) (hn : meth.name = "apply") (h0 : okc (gB g) M0 a0 6)  (hq : lb_X6_apply_19  g M0 a0 a1 post   M) (hw : Wd g s M0 M H locs) (hl : lv_has ls 2 [(0, .ref a0), (1, .ref a1)]) : W p l e (rmo 3 0 0) s m args below meth c H locs 0 0 (MQ below (Cq g M0 (pV post)) args s 0 0 (gA g)) (F0 m 19 ls []) := by
  have hx := C.1.1
  have hb := C.1.2.1
  unfold lb_X6_apply_19 at hq
  refine lv_aload_n hx hb dX6_apply_19 rfl (lv_at hl 1 rfl) ?_
  refine lv_iconst (v := 0) hx hb dX6_apply_20 (by decide) ?_
  obtain ⟨h32, hq⟩ := hq
  refine pfX6_96 C hw hw.2.2.1 h32 dX6_apply_21 (fun H locs hw => ?_)
  generalize e34 : uI M a1 5 0 = M33 at hw
  replace hq := hq M33 e34.symm
  refine lv_aload_n hx hb dX6_apply_24 rfl (lv_at hl 1 rfl) ?_
  refine lv_aload_n hx hb dX6_apply_25 rfl (lv_at hl 1 rfl) ?_
  refine gfX6_56 C hw hw.2.2.1 h32 dX6_apply_26 ?_
  refine lv_aload_n hx hb dX6_apply_29 rfl (lv_at hl 0 rfl) ?_
  refine gfX6_37 C hw hw.2.2.1 h0 dX6_apply_30 ?_
  refine lv_icmp_lt (tgt := 62) hx hb dX6_apply_33 (by decide) (fun c35 => ?_) (fun c35 => ?_)
  · replace hq := hq.1 c35
    refine lv_iconst (v := 1) hx hb dX6_apply_62 (by decide) ?_
    refine lv_goto (tgt := 67) hx hb dX6_apply_63 (by decide) ?_
    exact lt_X6_apply_67  C hr hlk hn h0  hq hw (lv_sub hl [0, 1] rfl)
  · replace hq := hq.2 c35
    refine lv_aload_n hx hb dX6_apply_36 rfl (lv_at hl 0 rfl) ?_
    refine r_callV (T := TX6) (N := 9) (ci := 6) (index := 45) (n := 0) (d2 := 0) (mc := 0) (ms := 0) (As := []) (rest := [.ref a1]) C hw (ct_X6_isOver hq) kvX6_45 hq.1 (by decide) rfl ⟨by decide, by decide⟩ ⟨by decide, by decide⟩ rfl hl.1 rfl (Nat.le_of_ble_eq_true rfl) dX6_apply_37 (fun r M37 H locs hp hle hw => ?_)
    obtain ⟨v36, rfl, hq⟩ := hp
    refine W.eq (g2 := F0 m 40 ls [.int v36, .ref a1]) rfl ?_
    refine lv_if_ne (tgt := 62) hx hb dX6_apply_40 (by decide) (fun c38 => ?_) (fun c38 => ?_)
    · replace hq := hq.2 c38
      refine lv_iconst (v := 1) hx hb dX6_apply_62 (by decide) ?_
      refine lv_goto (tgt := 67) hx hb dX6_apply_63 (by decide) ?_
      exact lt_X6_apply_67  C hr hlk hn h0  hq hw (lv_sub hl [0, 1] rfl)
    · replace hq := hq.1 c38
      refine lv_aload_n hx hb dX6_apply_43 rfl (lv_at hl 1 rfl) ?_
      refine gfX6_59 C hw hw.2.2.1 h32 dX6_apply_44 ?_
      refine lv_iconst (v := 2) hx hb dX6_apply_47 (by decide) ?_
      refine lv_icmp_eq (tgt := 66) hx hb dX6_apply_48 (by decide) (fun c39 => ?_) (fun c39 => ?_)
      · replace hq := hq.1 c39
        refine lv_iconst (v := 0) hx hb dX6_apply_66 (by decide) ?_
        exact lt_X6_apply_67  C hr hlk hn h0  hq hw (lv_sub hl [0, 1] rfl)
      · replace hq := hq.2 c39
        refine lv_aload_n hx hb dX6_apply_51 rfl (lv_at hl 0 rfl) ?_
        refine lv_aload_n hx hb dX6_apply_52 rfl (lv_at hl 1 rfl) ?_
        refine gfX6_62 C hw hw.2.2.1 h32 dX6_apply_53 ?_
        refine r_callV (T := TX6) (N := 9) (ci := 6) (index := 52) (n := 1) (d2 := 0) (mc := 0) (ms := 0) (As := [.int (mI M37 a1 2)]) (rest := [.ref a1]) C hw (ct_X6_isFor hq) kvX6_52 hq.1 (by decide) rfl ⟨by decide, by decide⟩ ⟨by decide, by decide⟩ rfl hl.1 rfl (Nat.le_of_ble_eq_true rfl) dX6_apply_56 (fun r M41 H locs hp hle hw => ?_)
        obtain ⟨v40, rfl, hq⟩ := hp
        refine W.eq (g2 := F0 m 59 ls [.int v40, .ref a1]) rfl ?_
        refine lv_if_ne (tgt := 66) hx hb dX6_apply_59 (by decide) (fun c42 => ?_) (fun c42 => ?_)
        · replace hq := hq.2 c42
          refine lv_iconst (v := 0) hx hb dX6_apply_66 (by decide) ?_
          exact lt_X6_apply_67  C hr hlk hn h0  hq hw (lv_sub hl [0, 1] rfl)
        · replace hq := hq.1 c42
          refine lv_iconst (v := 1) hx hb dX6_apply_62 (by decide) ?_
          refine lv_goto (tgt := 67) hx hb dX6_apply_63 (by decide) ?_
          exact lt_X6_apply_67  C hr hlk hn h0  hq hw (lv_sub hl [0, 1] rfl)
set_option maxHeartbeats 4000000 in
set_option maxRecDepth 100000 in
theorem ct_X6_apply {l : Launch} {g : Gh} {M0 : Mem} {a0 : Nat} {a1 : Nat} {post : Mem → Prop}  (hq : wp_X6_apply  g M0 a0 a1 post) : Ct l g yX6_apply cX6_apply 2 none 3 0 0 [.ref a0, .ref a1] M0 (pV post) := by
  unfold wp_X6_apply at hq
  obtain ⟨h0, hq⟩ := hq
  refine Ct.of (by decide) (Nat.le_of_ble_eq_true rfl) ?_
  intro p e s m below meth c ls C hr hlk hn hl hw
  have hx := C.1.1
  have hb := C.1.2.1
  have hl : lv_has ls 2 [(0, .ref a0), (1, .ref a1)] := hl
  refine lv_aload_n hx hb dX6_apply_0 rfl (lv_at hl 1 rfl) ?_
  obtain ⟨h43, hq⟩ := hq
  refine gfX6_56 C hw hw.2.2.1 h43 dX6_apply_1 ?_
  refine lv_aload_n hx hb dX6_apply_4 rfl (lv_at hl 0 rfl) ?_
  refine gfX6_37 C hw hw.2.2.1 h0 dX6_apply_5 ?_
  refine lv_icmp_le (tgt := 19) hx hb dX6_apply_8 (by decide) (fun c44 => ?_) (fun c44 => ?_)
  · replace hq := hq.1 c44
    exact lt_X6_apply_19  C hr hlk hn h0  hq hw (lv_sub hl [0, 1] rfl)
  · replace hq := hq.2 c44
    refine lv_aload_n hx hb dX6_apply_11 rfl (lv_at hl 0 rfl) ?_
    refine lv_aload_n hx hb dX6_apply_12 rfl (lv_at hl 1 rfl) ?_
    refine gfX6_56 C hw hw.2.2.1 h43 dX6_apply_13 ?_
    refine r_callV (T := TX6) (N := 9) (ci := 6) (index := 89) (n := 1) (d2 := 2) (mc := 0) (ms := 0) (As := [.int (mI M0 a1 0)]) (rest := []) C hw (ct_X6_goTo hq) kvX6_89 hq.1 (by decide) rfl ⟨by decide, by decide⟩ ⟨by decide, by decide⟩ rfl hl.1 rfl (Nat.le_of_ble_eq_true rfl) dX6_apply_16 (fun r M46 H locs hp hle hw => ?_)
    obtain ⟨rfl, hq⟩ := hp
    refine W.eq (g2 := F0 m 19 ls []) rfl ?_
    exact lt_X6_apply_19  C hr hlk hn h0  hq hw (lv_sub hl [0, 1] rfl)

set_option maxRecDepth 100000 in
def bd_X6_replay_26  (g : Gh) (M0 : Mem) (a0 : Nat) (post : Mem → Prop)  (bk26 : Int32 × Mem → Prop) (x1 : Int32)  (M : Mem) : Prop :=
  (((mI M a0 3) ≤ x1) → post M) ∧ (¬ ((mI M a0 3) ≤ x1) → ((120 ≤ x1) → post M) ∧ (¬ (120 ≤ x1) → ∃ q3, mR M a0 2 = some q3 ∧ (okc (gB g) M0 q3 18 ∧ (vp_in x1 (mN M0 q3) ∧ (∃ q7, mR M q3 (Int32.toNatClampNeg x1) = some q7 ∧ (wp_X6_apply g M a0 q7 (fun M10 => bk26 ((x1 + 1), M10))))))))
set_option maxRecDepth 100000 in
def wp_X6_replay  (g : Gh) (M0 : Mem) (a0 : Nat) (post : Mem → Prop) : Prop :=
  okc (gB g) M0 a0 6 ∧ (∀ M11, M11 = uI M0 a0 4 0 → (∃ q13, mR M11 a0 8 = some q13 ∧ (okc (gB g) M0 q13 14 ∧ (vp_in 0 (mN M0 q13) ∧ (∀ M17, M17 = uI M11 q13 (Int32.toNatClampNeg 0) 0 → (vp_in 1 (mN M0 q13) ∧ (∀ M20, M20 = uI M17 q13 (Int32.toNatClampNeg 1) 0 → (wp_X6_goTo g M20 a0 0 (fun M23 => (∃ n : Nat, lfp (fun bk z => bd_X6_replay_26  g M0 a0 post  bk z.1 z.2) n (0, M23)))))))))))
set_option maxHeartbeats 4000000 in
set_option maxRecDepth 100000 in
theorem lp_X6_replay_26 {l : Launch} {g : Gh} {p : Program} {e : Env} {s : State} {m : MethodId} {args : Array Value} {below : List Frame} {meth : Method} {c : Code} {M0 : Mem} {a0 : Nat} {post : Mem → Prop}  (C : Cx g p s m args c cX6_replay 2 RX6) (hr : meth.sig.returnType = none) (hlk : meth.locks = false) (hn : meth.name = "replay") (h0 : okc (gB g) M0 a0 6)  : ∀ (nf : Nat) (x1 : Int32)  (M : Mem) (H : Heap) (locs : List Loc) (ls : Array Slot), lfp (fun bk z => bd_X6_replay_26  g M0 a0 post  bk z.1 z.2) nf (x1, M) → Wd g s M0 M H locs → lv_has ls 2 [(0, .ref a0), (1, .int x1)] → W p l e (rmo 4 0 0) s m args below meth c H locs 0 0 (MQ below (Cq g M0 (pV post)) args s 0 0 (gA g)) (F0 m 26 ls []) := by
  have hx := C.1.1
  have hb := C.1.2.1
  intro nf
  induction nf with
  | zero => intro _ _ H locs ls hq; exact hq.elim
  | succ nf hk26 =>
    intro x1 M H locs ls hq hw hl
    replace hq : bd_X6_replay_26  g M0 a0 post  (lfp (fun bk z => bd_X6_replay_26  g M0 a0 post  bk z.1 z.2) nf) x1 M := hq
    unfold bd_X6_replay_26 at hq
    refine lv_iload_n hx hb dX6_replay_26 rfl (lv_at hl 1 rfl) ?_
    refine lv_aload_n hx hb dX6_replay_27 rfl (lv_at hl 0 rfl) ?_
    refine gfX6_30 C hw hw.2.2.1 h0 dX6_replay_28 ?_
    refine lv_icmp_ge (tgt := 56) hx hb dX6_replay_31 (by decide) (fun c1 => ?_) (fun c1 => ?_)
    · replace hq := hq.1 c1
      exact r_vret C hr hlk hw dX6_replay_56 (Nat.le_refl _) (Nat.le_refl _) ⟨rfl, hq⟩
    · replace hq := hq.2 c1
      refine lv_iload_n hx hb dX6_replay_34 rfl (lv_at hl 1 rfl) ?_
      refine lv_bipush (v := 120) hx hb dX6_replay_35 (by decide) ?_
      refine lv_icmp_ge (tgt := 56) hx hb dX6_replay_37 (by decide) (fun c2 => ?_) (fun c2 => ?_)
      · replace hq := hq.1 c2
        exact r_vret C hr hlk hw dX6_replay_56 (Nat.le_refl _) (Nat.le_refl _) ⟨rfl, hq⟩
      · replace hq := hq.2 c2
        refine lv_aload_n hx hb dX6_replay_40 rfl (lv_at hl 0 rfl) ?_
        refine lv_aload_n hx hb dX6_replay_41 rfl (lv_at hl 0 rfl) ?_
        obtain ⟨q3, e4, hq⟩ := hq
        refine gfX6_21 C hw hw.2.2.1 h0 e4 dX6_replay_42 ?_
        refine lv_iload_n hx hb dX6_replay_45 rfl (lv_at hl 1 rfl) ?_
        obtain ⟨h5, hq⟩ := hq
        obtain ⟨h6, hq⟩ := hq
        obtain ⟨q7, e8, hq⟩ := hq
        refine q_aald C hw hw.2.2.1 h5 (by decide) (by decide) rfl h6 e8 dX6_replay_46 ?_
        refine r_callV (T := TX6) (N := 9) (ci := 6) (index := 68) (n := 1) (d2 := 3) (mc := 0) (ms := 0) (As := [.ref q7]) (rest := []) C hw (ct_X6_apply hq) kvX6_68 hq.1 (by decide) rfl ⟨by decide, by decide⟩ ⟨by decide, by decide⟩ rfl hl.1 rfl (Nat.le_of_ble_eq_true rfl) dX6_replay_47 (fun r M10 H locs hp hle hw => ?_)
        obtain ⟨rfl, hq⟩ := hp
        refine W.eq (g2 := F0 m 50 ls []) rfl ?_
        refine lv_iinc (v := (x1 + 1)) (lv' := [(1, .int (x1 + 1)), (0, .ref a0)]) hx hb dX6_replay_50 hl (k := 1) rfl rfl (by decide) rfl (fun ls hl => ?_)
        refine lv_goto (tgt := 26) hx hb dX6_replay_53 (by decide) ?_
        exact hk26 _ _ _ _ _ hq hw (lv_sub hl [1, 0] rfl)
set_option maxHeartbeats 4000000 in
set_option maxRecDepth 100000 in
theorem ct_X6_replay {l : Launch} {g : Gh} {M0 : Mem} {a0 : Nat} {post : Mem → Prop}  (hq : wp_X6_replay  g M0 a0 post) : Ct l g yX6_replay cX6_replay 2 none 4 0 0 [.ref a0] M0 (pV post) := by
  unfold wp_X6_replay at hq
  obtain ⟨h0, hq⟩ := hq
  refine Ct.of (by decide) (Nat.le_of_ble_eq_true rfl) ?_
  intro p e s m below meth c ls C hr hlk hn hl hw
  have hx := C.1.1
  have hb := C.1.2.1
  have hl : lv_has ls 2 [(0, .ref a0)] := hl
  refine lv_aload_n hx hb dX6_replay_0 rfl (lv_at hl 0 rfl) ?_
  refine lv_iconst (v := 0) hx hb dX6_replay_1 (by decide) ?_
  refine pfX6_86 C hw hw.2.2.1 h0 dX6_replay_2 (fun H locs hw => ?_)
  generalize e12 : uI M0 a0 4 0 = M11 at hw
  replace hq := hq M11 e12.symm
  refine lv_aload_n hx hb dX6_replay_5 rfl (lv_at hl 0 rfl) ?_
  obtain ⟨q13, e14, hq⟩ := hq
  refine gfX6_26 C hw hw.2.2.1 h0 e14 dX6_replay_6 ?_
  refine lv_iconst (v := 0) hx hb dX6_replay_9 (by decide) ?_
  refine lv_iconst (v := 0) hx hb dX6_replay_10 (by decide) ?_
  obtain ⟨h15, hq⟩ := hq
  obtain ⟨h16, hq⟩ := hq
  refine q_iast C hw hw.2.2.1 h15 h16 dX6_replay_11 (fun H locs hw => ?_)
  generalize e18 : uI M11 q13 (Int32.toNatClampNeg 0) 0 = M17 at hw
  replace hq := hq M17 e18.symm
  have e14 : mR M17 a0 8 = some q13 := by rw [← e18, mR_uI]; exact e14
  refine lv_aload_n hx hb dX6_replay_12 rfl (lv_at hl 0 rfl) ?_
  refine gfX6_26 C hw hw.2.2.1 h0 e14 dX6_replay_13 ?_
  refine lv_iconst (v := 1) hx hb dX6_replay_16 (by decide) ?_
  refine lv_iconst (v := 0) hx hb dX6_replay_17 (by decide) ?_
  obtain ⟨h19, hq⟩ := hq
  refine q_iast C hw hw.2.2.1 h15 h19 dX6_replay_18 (fun H locs hw => ?_)
  generalize e21 : uI M17 q13 (Int32.toNatClampNeg 1) 0 = M20 at hw
  replace hq := hq M20 e21.symm
  have e14 : mR M20 a0 8 = some q13 := by rw [← e21, mR_uI]; exact e14
  refine lv_aload_n hx hb dX6_replay_19 rfl (lv_at hl 0 rfl) ?_
  refine lv_iconst (v := 0) hx hb dX6_replay_20 (by decide) ?_
  refine r_callV (T := TX6) (N := 9) (ci := 6) (index := 89) (n := 1) (d2 := 2) (mc := 0) (ms := 0) (As := [.int 0]) (rest := []) C hw (ct_X6_goTo hq) kvX6_89 hq.1 (by decide) rfl ⟨by decide, by decide⟩ ⟨by decide, by decide⟩ rfl hl.1 rfl (Nat.le_of_ble_eq_true rfl) dX6_replay_21 (fun r M23 H locs hp hle hw => ?_)
  obtain ⟨rfl, hq⟩ := hp
  refine W.eq (g2 := F0 m 24 ls []) rfl ?_
  refine lv_iconst (v := 0) hx hb dX6_replay_24 (by decide) ?_
  refine lv_istore_n (lv' := [(1, .int 0), (0, .ref a0)]) hx hb dX6_replay_25 rfl hl (by decide) rfl (fun ls hl => ?_)
  obtain ⟨nf, hq⟩ := hq
  exact lp_X6_replay_26  C hr hlk hn h0  nf _ _ _ _ _ hq hw (lv_sub hl [1, 0] rfl)

set_option maxRecDepth 100000 in
def wp_X6_start  (g : Gh) (M0 : Mem) (a0 : Nat) (a1 : Nat) (post : Mem → Prop) : Prop :=
  okc (gB g) M0 a0 6 ∧ (∀ M1, M1 = uR M0 a0 1 (some a1) → (∀ M3, M3 = uI M1 a0 0 1 → (∀ M5, M5 = uI M3 a0 3 0 → (wp_X6_replay g M5 a0 (fun M8 => post M8)))))
set_option maxHeartbeats 4000000 in
set_option maxRecDepth 100000 in
theorem ct_X6_start {l : Launch} {g : Gh} {M0 : Mem} {a0 : Nat} {a1 : Nat} {post : Mem → Prop}  (hq : wp_X6_start  g M0 a0 a1 post) : Ct l g yX6_start cX6_start 2 none 5 0 0 [.ref a0, .ref a1] M0 (pV post) := by
  unfold wp_X6_start at hq
  obtain ⟨h0, hq⟩ := hq
  refine Ct.of (by decide) (Nat.le_of_ble_eq_true rfl) ?_
  intro p e s m below meth c ls C hr hlk hn hl hw
  have hx := C.1.1
  have hb := C.1.2.1
  have hl : lv_has ls 2 [(0, .ref a0), (1, .ref a1)] := hl
  refine lv_aload_n hx hb dX6_start_0 rfl (lv_at hl 0 rfl) ?_
  refine lv_aload_n hx hb dX6_start_1 rfl (lv_at hl 1 rfl) ?_
  refine pfX6_15 (v := (some a1)) C hw hw.2.2.1 h0 dX6_start_2 (fun H locs hw => ?_)
  generalize e2 : uR M0 a0 1 (some a1) = M1 at hw
  replace hq := hq M1 e2.symm
  refine lv_aload_n hx hb dX6_start_5 rfl (lv_at hl 0 rfl) ?_
  refine lv_iconst (v := 1) hx hb dX6_start_6 (by decide) ?_
  refine pfX6_9 C hw hw.2.2.1 h0 (by decide) dX6_start_7 (fun H locs hw => ?_)
  generalize e4 : uI M1 a0 0 1 = M3 at hw
  replace hq := hq M3 e4.symm
  refine lv_aload_n hx hb dX6_start_10 rfl (lv_at hl 0 rfl) ?_
  refine lv_iconst (v := 0) hx hb dX6_start_11 (by decide) ?_
  refine pfX6_30 C hw hw.2.2.1 h0 dX6_start_12 (fun H locs hw => ?_)
  generalize e6 : uI M3 a0 3 0 = M5 at hw
  replace hq := hq M5 e6.symm
  refine lv_aload_n hx hb dX6_start_15 rfl (lv_at hl 0 rfl) ?_
  refine r_callV (T := TX6) (N := 9) (ci := 6) (index := 34) (n := 0) (d2 := 4) (mc := 0) (ms := 0) (As := []) (rest := []) C hw (ct_X6_replay hq) kvX6_34 hq.1 (by decide) rfl ⟨by decide, by decide⟩ ⟨by decide, by decide⟩ rfl hl.1 rfl (Nat.le_of_ble_eq_true rfl) dX6_start_16 (fun r M8 H locs hp hle hw => ?_)
  obtain ⟨rfl, hq⟩ := hp
  refine W.eq (g2 := F0 m 19 ls []) rfl ?_
  exact r_vret C hr hlk hw dX6_start_19 (Nat.le_refl _) (Nat.le_refl _) ⟨rfl, hq⟩

set_option maxRecDepth 100000 in
def wp_X6_drop  (g : Gh) (M0 : Mem) (a0 : Nat) (post : Mem → Prop) : Prop :=
  okc (gB g) M0 a0 6 ∧ (∀ M1, M1 = uI M0 a0 0 0 → (∀ M3, M3 = uI M1 a0 3 0 → (post M3)))
set_option maxHeartbeats 4000000 in
set_option maxRecDepth 100000 in
theorem ct_X6_drop {l : Launch} {g : Gh} {M0 : Mem} {a0 : Nat} {post : Mem → Prop}  (hq : wp_X6_drop  g M0 a0 post) : Ct l g yX6_drop cX6_drop 1 none 0 0 0 [.ref a0] M0 (pV post) := by
  unfold wp_X6_drop at hq
  obtain ⟨h0, hq⟩ := hq
  refine Ct.of (by decide) (Nat.le_of_ble_eq_true rfl) ?_
  intro p e s m below meth c ls C hr hlk hn hl hw
  have hx := C.1.1
  have hb := C.1.2.1
  have hl : lv_has ls 1 [(0, .ref a0)] := hl
  refine lv_aload_n hx hb dX6_drop_0 rfl (lv_at hl 0 rfl) ?_
  refine lv_iconst (v := 0) hx hb dX6_drop_1 (by decide) ?_
  refine pfX6_9 C hw hw.2.2.1 h0 (by decide) dX6_drop_2 (fun H locs hw => ?_)
  generalize e2 : uI M0 a0 0 0 = M1 at hw
  replace hq := hq M1 e2.symm
  refine lv_aload_n hx hb dX6_drop_5 rfl (lv_at hl 0 rfl) ?_
  refine lv_iconst (v := 0) hx hb dX6_drop_6 (by decide) ?_
  refine pfX6_30 C hw hw.2.2.1 h0 dX6_drop_7 (fun H locs hw => ?_)
  generalize e4 : uI M1 a0 3 0 = M3 at hw
  replace hq := hq M3 e4.symm
  exact r_vret C hr hlk hw dX6_drop_10 (Nat.le_refl _) (Nat.le_refl _) ⟨rfl, hq⟩

set_option maxRecDepth 100000 in
def lb_X6_mayCome_65  (g : Gh) (M0 : Mem) (a0 : Nat) (p1 : Int32) (p2 : Int32) (post : Int32 → Mem → Prop)    (M : Mem) : Prop :=
  wp_X6_isFor g M a0 p2 (fun v1 M2 => ((v1 = 0) → post 0 M2) ∧ (¬ (v1 = 0) → post 1 M2))
set_option maxRecDepth 100000 in
def lb_X6_mayCome_51  (g : Gh) (M0 : Mem) (a0 : Nat) (p1 : Int32) (p2 : Int32) (post : Int32 → Mem → Prop)   (s0 : Int32) (M : Mem) : Prop :=
  ((s0 = 0) → post 0 M) ∧ (¬ (s0 = 0) → ((p2 = 0) → lb_X6_mayCome_65  g M0 a0 p1 p2 post   M) ∧ (¬ (p2 = 0) → ((p2 = 1) → lb_X6_mayCome_65  g M0 a0 p1 p2 post   M) ∧ (¬ (p2 = 1) → post 0 M)))
set_option maxRecDepth 100000 in
def wp_X6_mayCome  (g : Gh) (M0 : Mem) (a0 : Nat) (p1 : Int32) (p2 : Int32) (post : Int32 → Mem → Prop) : Prop :=
  okc (gB g) M0 a0 6 ∧ ((((mI M0 a0 0) = 0) → post 0 M0) ∧ (¬ ((mI M0 a0 0) = 0) → wp_X6_isOver g M0 a0 (fun v8 M9 => ((v8 = 0) → (((mI M9 a0 3) < 120) → ((p1 = 2) → wp_X6_isBuzz g M9 a0 (fun v17 M18 => (v17 = 0 ∨ v17 = 1) ∧ (post v17 M18))) ∧ (¬ (p1 = 2) → ((p1 = 0) → lb_X6_mayCome_51  g M0 a0 p1 p2 post  1 M9) ∧ (¬ (p1 = 0) → wp_X6_isBuzz g M9 a0 (fun v14 M15 => ((v14 = 0) → lb_X6_mayCome_51  g M0 a0 p1 p2 post  1 M15) ∧ (¬ (v14 = 0) → lb_X6_mayCome_51  g M0 a0 p1 p2 post  0 M15))))) ∧ (¬ ((mI M9 a0 3) < 120) → post 0 M9)) ∧ (¬ (v8 = 0) → post 0 M9))))
set_option maxHeartbeats 4000000 in
set_option maxRecDepth 100000 in
theorem lt_X6_mayCome_65 {l : Launch} {g : Gh} {p : Program} {e : Env} {s : State} {m : MethodId} {args : Array Value} {below : List Frame} {meth : Method} {c : Code} {H : Heap} {locs : List Loc} {ls : Array Slot} {M0 M : Mem} {a0 : Nat} {p1 : Int32} {p2 : Int32} {post : Int32 → Mem → Prop}    (C : Cx g p s m args c cX6_mayCome 4 RX6) (hr : meth.sig.returnType = (some .boolean)) (hlk : meth.locks = false) (hn : meth.name = "mayCome") (h0 : okc (gB g) M0 a0 6)  (hq : lb_X6_mayCome_65  g M0 a0 p1 p2 post   M) (hw : Wd g s M0 M H locs) (hl : lv_has ls 4 [(0, .ref a0), (1, .int p1), (2, .int p2)]) : W p l e (rmo 2 0 0) s m args below meth c H locs 0 0 (MQ below (Cq g M0 (pI post)) args s 0 0 (gA g)) (F0 m 65 ls []) := by
  have hx := C.1.1
  have hb := C.1.2.1
  unfold lb_X6_mayCome_65 at hq
  refine lv_aload_n hx hb dX6_mayCome_65 rfl (lv_at hl 0 rfl) ?_
  refine lv_iload_n hx hb dX6_mayCome_66 rfl (lv_at hl 2 rfl) ?_
  refine r_callV (T := TX6) (N := 9) (ci := 6) (index := 52) (n := 1) (d2 := 0) (mc := 0) (ms := 0) (As := [.int p2]) (rest := []) C hw (ct_X6_isFor hq) kvX6_52 hq.1 (by decide) rfl ⟨by decide, by decide⟩ ⟨by decide, by decide⟩ rfl hl.1 rfl (Nat.le_of_ble_eq_true rfl) dX6_mayCome_67 (fun r M2 H locs hp hle hw => ?_)
  obtain ⟨v1, rfl, hq⟩ := hp
  refine W.eq (g2 := F0 m 70 ls [.int v1]) rfl ?_
  refine lv_if_eq (tgt := 77) hx hb dX6_mayCome_70 (by decide) (fun c3 => ?_) (fun c3 => ?_)
  · replace hq := hq.1 c3
    refine lv_iconst (v := 0) hx hb dX6_mayCome_77 (by decide) ?_
    exact r_zret C hr hlk hw dX6_mayCome_78 (Nat.le_refl _) (Nat.le_refl _) (by decide) ⟨_, rfl, hq⟩
  · replace hq := hq.2 c3
    refine lv_iconst (v := 1) hx hb dX6_mayCome_73 (by decide) ?_
    refine lv_goto (tgt := 78) hx hb dX6_mayCome_74 (by decide) ?_
    exact r_zret C hr hlk hw dX6_mayCome_78 (Nat.le_refl _) (Nat.le_refl _) (by decide) ⟨_, rfl, hq⟩
set_option maxHeartbeats 4000000 in
set_option maxRecDepth 100000 in
theorem lt_X6_mayCome_51 {l : Launch} {g : Gh} {p : Program} {e : Env} {s : State} {m : MethodId} {args : Array Value} {below : List Frame} {meth : Method} {c : Code} {H : Heap} {locs : List Loc} {ls : Array Slot} {M0 M : Mem} {a0 : Nat} {p1 : Int32} {p2 : Int32} {post : Int32 → Mem → Prop}  {s0 : Int32}  (C : Cx g p s m args c cX6_mayCome 4 RX6) (hr : meth.sig.returnType = (some .boolean)) (hlk : meth.locks = false) (hn : meth.name = "mayCome") (h0 : okc (gB g) M0 a0 6)  (hq : lb_X6_mayCome_51  g M0 a0 p1 p2 post  s0 M) (hw : Wd g s M0 M H locs) (hl : lv_has ls 4 [(0, .ref a0), (1, .int p1), (2, .int p2)]) : W p l e (rmo 2 0 0) s m args below meth c H locs 0 0 (MQ below (Cq g M0 (pI post)) args s 0 0 (gA g)) (F0 m 51 ls [.int s0]) := by
  have hx := C.1.1
  have hb := C.1.2.1
  unfold lb_X6_mayCome_51 at hq
  refine lv_istore_n (lv' := [(3, .int s0), (0, .ref a0), (1, .int p1), (2, .int p2)]) hx hb dX6_mayCome_51 rfl hl (by decide) rfl (fun ls hl => ?_)
  refine lv_iload_n hx hb dX6_mayCome_52 rfl (lv_at hl 0 rfl) ?_
  refine lv_if_eq (tgt := 77) hx hb dX6_mayCome_53 (by decide) (fun c4 => ?_) (fun c4 => ?_)
  · replace hq := hq.1 c4
    refine lv_iconst (v := 0) hx hb dX6_mayCome_77 (by decide) ?_
    exact r_zret C hr hlk hw dX6_mayCome_78 (Nat.le_refl _) (Nat.le_refl _) (by decide) ⟨_, rfl, hq⟩
  · replace hq := hq.2 c4
    refine lv_iload_n hx hb dX6_mayCome_56 rfl (lv_at hl 3 rfl) ?_
    refine lv_if_eq (tgt := 65) hx hb dX6_mayCome_57 (by decide) (fun c5 => ?_) (fun c5 => ?_)
    · replace hq := hq.1 c5
      exact lt_X6_mayCome_65  C hr hlk hn h0  hq hw (lv_sub hl [1, 2, 3] rfl)
    · replace hq := hq.2 c5
      refine lv_iload_n hx hb dX6_mayCome_60 rfl (lv_at hl 3 rfl) ?_
      refine lv_iconst (v := 1) hx hb dX6_mayCome_61 (by decide) ?_
      refine lv_icmp_ne (tgt := 77) hx hb dX6_mayCome_62 (by decide) (fun c6 => ?_) (fun c6 => ?_)
      · replace hq := hq.2 c6
        refine lv_iconst (v := 0) hx hb dX6_mayCome_77 (by decide) ?_
        exact r_zret C hr hlk hw dX6_mayCome_78 (Nat.le_refl _) (Nat.le_refl _) (by decide) ⟨_, rfl, hq⟩
      · replace hq := hq.1 c6
        exact lt_X6_mayCome_65  C hr hlk hn h0  hq hw (lv_sub hl [1, 2, 3] rfl)
set_option maxHeartbeats 4000000 in
set_option maxRecDepth 100000 in
theorem ct_X6_mayCome {l : Launch} {g : Gh} {M0 : Mem} {a0 : Nat} {p1 : Int32} {p2 : Int32} {post : Int32 → Mem → Prop}  (hq : wp_X6_mayCome  g M0 a0 p1 p2 post) : Ct l g yX6_mayCome cX6_mayCome 4 (some .boolean) 2 0 0 [.ref a0, .int p1, .int p2] M0 (pI post) := by
  unfold wp_X6_mayCome at hq
  obtain ⟨h0, hq⟩ := hq
  refine Ct.of (by decide) (Nat.le_of_ble_eq_true rfl) ?_
  intro p e s m below meth c ls C hr hlk hn hl hw
  have hx := C.1.1
  have hb := C.1.2.1
  have hl : lv_has ls 4 [(0, .ref a0), (1, .int p1), (2, .int p2)] := hl
  refine lv_aload_n hx hb dX6_mayCome_0 rfl (lv_at hl 0 rfl) ?_
  refine gfX6_9 C hw hw.2.2.1 h0 dX6_mayCome_1 ?_
  refine lv_if_eq (tgt := 23) hx hb dX6_mayCome_4 (by decide) (fun c7 => ?_) (fun c7 => ?_)
  · replace hq := hq.1 c7
    refine lv_iconst (v := 0) hx hb dX6_mayCome_23 (by decide) ?_
    exact r_zret C hr hlk hw dX6_mayCome_24 (Nat.le_refl _) (Nat.le_refl _) (by decide) ⟨_, rfl, hq⟩
  · replace hq := hq.2 c7
    refine lv_aload_n hx hb dX6_mayCome_7 rfl (lv_at hl 0 rfl) ?_
    refine r_callV (T := TX6) (N := 9) (ci := 6) (index := 45) (n := 0) (d2 := 0) (mc := 0) (ms := 0) (As := []) (rest := []) C hw (ct_X6_isOver hq) kvX6_45 hq.1 (by decide) rfl ⟨by decide, by decide⟩ ⟨by decide, by decide⟩ rfl hl.1 rfl (Nat.le_of_ble_eq_true rfl) dX6_mayCome_8 (fun r M9 H locs hp hle hw => ?_)
    obtain ⟨v8, rfl, hq⟩ := hp
    refine W.eq (g2 := F0 m 11 ls [.int v8]) rfl ?_
    refine lv_if_ne (tgt := 23) hx hb dX6_mayCome_11 (by decide) (fun c10 => ?_) (fun c10 => ?_)
    · replace hq := hq.2 c10
      refine lv_iconst (v := 0) hx hb dX6_mayCome_23 (by decide) ?_
      exact r_zret C hr hlk hw dX6_mayCome_24 (Nat.le_refl _) (Nat.le_refl _) (by decide) ⟨_, rfl, hq⟩
    · replace hq := hq.1 c10
      refine lv_aload_n hx hb dX6_mayCome_14 rfl (lv_at hl 0 rfl) ?_
      refine gfX6_30 C hw hw.2.2.1 h0 dX6_mayCome_15 ?_
      refine lv_bipush (v := 120) hx hb dX6_mayCome_18 (by decide) ?_
      refine lv_icmp_lt (tgt := 25) hx hb dX6_mayCome_20 (by decide) (fun c11 => ?_) (fun c11 => ?_)
      · replace hq := hq.1 c11
        refine lv_iload_n hx hb dX6_mayCome_25 rfl (lv_at hl 1 rfl) ?_
        refine lv_iconst (v := 2) hx hb dX6_mayCome_26 (by decide) ?_
        refine lv_icmp_ne (tgt := 35) hx hb dX6_mayCome_27 (by decide) (fun c12 => ?_) (fun c12 => ?_)
        · replace hq := hq.2 c12
          refine lv_iload_n hx hb dX6_mayCome_35 rfl (lv_at hl 1 rfl) ?_
          refine lv_if_eq (tgt := 46) hx hb dX6_mayCome_36 (by decide) (fun c13 => ?_) (fun c13 => ?_)
          · replace hq := hq.1 c13
            refine lv_iconst (v := 1) hx hb dX6_mayCome_46 (by decide) ?_
            refine lv_goto (tgt := 51) hx hb dX6_mayCome_47 (by decide) ?_
            exact lt_X6_mayCome_51  C hr hlk hn h0  hq hw (lv_sub hl [0, 1, 2] rfl)
          · replace hq := hq.2 c13
            refine lv_aload_n hx hb dX6_mayCome_39 rfl (lv_at hl 0 rfl) ?_
            refine r_callV (T := TX6) (N := 9) (ci := 6) (index := 49) (n := 0) (d2 := 1) (mc := 0) (ms := 0) (As := []) (rest := []) C hw (ct_X6_isBuzz hq) kvX6_49 hq.1 (by decide) rfl ⟨by decide, by decide⟩ ⟨by decide, by decide⟩ rfl hl.1 rfl (Nat.le_of_ble_eq_true rfl) dX6_mayCome_40 (fun r M15 H locs hp hle hw => ?_)
            obtain ⟨v14, rfl, hq⟩ := hp
            refine W.eq (g2 := F0 m 43 ls [.int v14]) rfl ?_
            refine lv_if_ne (tgt := 50) hx hb dX6_mayCome_43 (by decide) (fun c16 => ?_) (fun c16 => ?_)
            · replace hq := hq.2 c16
              refine lv_iconst (v := 0) hx hb dX6_mayCome_50 (by decide) ?_
              exact lt_X6_mayCome_51  C hr hlk hn h0  hq hw (lv_sub hl [0, 1, 2] rfl)
            · replace hq := hq.1 c16
              refine lv_iconst (v := 1) hx hb dX6_mayCome_46 (by decide) ?_
              refine lv_goto (tgt := 51) hx hb dX6_mayCome_47 (by decide) ?_
              exact lt_X6_mayCome_51  C hr hlk hn h0  hq hw (lv_sub hl [0, 1, 2] rfl)
        · replace hq := hq.1 c12
          refine lv_aload_n hx hb dX6_mayCome_30 rfl (lv_at hl 0 rfl) ?_
          refine r_callV (T := TX6) (N := 9) (ci := 6) (index := 49) (n := 0) (d2 := 1) (mc := 0) (ms := 0) (As := []) (rest := []) C hw (ct_X6_isBuzz hq) kvX6_49 hq.1 (by decide) rfl ⟨by decide, by decide⟩ ⟨by decide, by decide⟩ rfl hl.1 rfl (Nat.le_of_ble_eq_true rfl) dX6_mayCome_31 (fun r M18 H locs hp hle hw => ?_)
          obtain ⟨v17, rfl, hq⟩ := hp
          refine W.eq (g2 := F0 m 34 ls [.int v17]) rfl ?_
          obtain ⟨h19, hq⟩ := hq
          exact r_zret C hr hlk hw dX6_mayCome_34 (Nat.le_refl _) (Nat.le_refl _) h19 ⟨_, rfl, hq⟩
      · replace hq := hq.2 c11
        refine lv_iconst (v := 0) hx hb dX6_mayCome_23 (by decide) ?_
        exact r_zret C hr hlk hw dX6_mayCome_24 (Nat.le_refl _) (Nat.le_refl _) (by decide) ⟨_, rfl, hq⟩

set_option maxRecDepth 100000 in
def lb_X6_add_58  (g : Gh) (M0 : Mem) (a0 : Nat) (p1 : Int32) (p2 : Int32) (p3 : Int32) (post : Mem → Prop)  (b4 : Nat)  (M : Mem) : Prop :=
  wp_X6_apply g M a0 b4 (fun M2 => post M2)
set_option maxRecDepth 100000 in
def wp_X6_add  (g : Gh) (M0 : Mem) (a0 : Nat) (p1 : Int32) (p2 : Int32) (p3 : Int32) (post : Mem → Prop) : Prop :=
  okc (gB g) M0 a0 6 ∧ ((((mI M0 a0 3) < 120) → ∃ q4, mR M0 a0 2 = some q4 ∧ (okc (gB g) M0 q4 18 ∧ (vp_in (mI M0 a0 3) (mN M0 q4) ∧ (∃ q8, mR M0 q4 (Int32.toNatClampNeg (mI M0 a0 3)) = some q8 ∧ (okc (gB g) M0 q8 0 ∧ (∀ M11, M11 = uI M0 q8 0 (mI M0 a0 5) → (∀ M13, M13 = uI M11 q8 1 p1 → (∀ M15, M15 = uI M13 q8 2 p2 → ((p3 = 0 ∨ p3 = 1) ∧ (∀ M18, M18 = uI M15 q8 3 p3 → (∀ M20, M20 = uI M18 a0 3 ((mI M18 a0 3) + 1) → (lb_X6_add_58  g M0 a0 p1 p2 p3 post  q8 M20)))))))))))) ∧ (¬ ((mI M0 a0 3) < 120) → post M0))
set_option maxHeartbeats 4000000 in
set_option maxRecDepth 100000 in
theorem lt_X6_add_58 {l : Launch} {g : Gh} {p : Program} {e : Env} {s : State} {m : MethodId} {args : Array Value} {below : List Frame} {meth : Method} {c : Code} {H : Heap} {locs : List Loc} {ls : Array Slot} {M0 M : Mem} {a0 : Nat} {p1 : Int32} {p2 : Int32} {p3 : Int32} {post : Mem → Prop} {b4 : Nat}   (C : Cx g p s m args c cX6_add 5 RX6) (hr : meth.sig.returnType = none) (hlk : meth.locks = false) (hn : meth.name = "add") (h0 : okc (gB g) M0 a0 6)  (hq : lb_X6_add_58  g M0 a0 p1 p2 p3 post  b4 M) (hw : Wd g s M0 M H locs) (hl : lv_has ls 5 [(0, .ref a0), (1, .int p1), (2, .int p2), (3, .int p3), (4, .ref b4)]) : W p l e (rmo 4 0 0) s m args below meth c H locs 0 0 (MQ below (Cq g M0 (pV post)) args s 0 0 (gA g)) (F0 m 58 ls []) := by
  have hx := C.1.1
  have hb := C.1.2.1
  unfold lb_X6_add_58 at hq
  refine lv_aload_n hx hb dX6_add_58 rfl (lv_at hl 0 rfl) ?_
  refine lv_aload hx hb dX6_add_59 (lv_at hl 4 rfl) ?_
  refine r_callV (T := TX6) (N := 9) (ci := 6) (index := 68) (n := 1) (d2 := 3) (mc := 0) (ms := 0) (As := [.ref b4]) (rest := []) C hw (ct_X6_apply hq) kvX6_68 hq.1 (by decide) rfl ⟨by decide, by decide⟩ ⟨by decide, by decide⟩ rfl hl.1 rfl (Nat.le_of_ble_eq_true rfl) dX6_add_61 (fun r M2 H locs hp hle hw => ?_)
  obtain ⟨rfl, hq⟩ := hp
  refine W.eq (g2 := F0 m 64 ls []) rfl ?_
  exact r_vret C hr hlk hw dX6_add_64 (Nat.le_refl _) (Nat.le_refl _) ⟨rfl, hq⟩
set_option maxHeartbeats 4000000 in
set_option maxRecDepth 100000 in
theorem ct_X6_add {l : Launch} {g : Gh} {M0 : Mem} {a0 : Nat} {p1 : Int32} {p2 : Int32} {p3 : Int32} {post : Mem → Prop}  (hq : wp_X6_add  g M0 a0 p1 p2 p3 post) : Ct l g yX6_add cX6_add 5 none 4 0 0 [.ref a0, .int p1, .int p2, .int p3] M0 (pV post) := by
  unfold wp_X6_add at hq
  obtain ⟨h0, hq⟩ := hq
  refine Ct.of (by decide) (Nat.le_of_ble_eq_true rfl) ?_
  intro p e s m below meth c ls C hr hlk hn hl hw
  have hx := C.1.1
  have hb := C.1.2.1
  have hl : lv_has ls 5 [(0, .ref a0), (1, .int p1), (2, .int p2), (3, .int p3)] := hl
  refine lv_aload_n hx hb dX6_add_0 rfl (lv_at hl 0 rfl) ?_
  refine gfX6_30 C hw hw.2.2.1 h0 dX6_add_1 ?_
  refine lv_bipush (v := 120) hx hb dX6_add_4 (by decide) ?_
  refine lv_icmp_lt (tgt := 10) hx hb dX6_add_6 (by decide) (fun c3 => ?_) (fun c3 => ?_)
  · replace hq := hq.1 c3
    refine lv_aload_n hx hb dX6_add_10 rfl (lv_at hl 0 rfl) ?_
    obtain ⟨q4, e5, hq⟩ := hq
    refine gfX6_21 C hw hw.2.2.1 h0 e5 dX6_add_11 ?_
    refine lv_aload_n hx hb dX6_add_14 rfl (lv_at hl 0 rfl) ?_
    refine gfX6_30 C hw hw.2.2.1 h0 dX6_add_15 ?_
    obtain ⟨h6, hq⟩ := hq
    obtain ⟨h7, hq⟩ := hq
    obtain ⟨q8, e9, hq⟩ := hq
    refine q_aald C hw hw.2.2.1 h6 (by decide) (by decide) rfl h7 e9 dX6_add_18 ?_
    refine lv_astore (lv' := [(4, .ref q8), (0, .ref a0), (1, .int p1), (2, .int p2), (3, .int p3)]) hx hb dX6_add_19 hl (by decide) rfl (fun ls hl => ?_)
    refine lv_aload hx hb dX6_add_21 (lv_at hl 0 rfl) ?_
    refine lv_aload_n hx hb dX6_add_23 rfl (lv_at hl 1 rfl) ?_
    refine gfX6_37 C hw hw.2.2.1 h0 dX6_add_24 ?_
    obtain ⟨h10, hq⟩ := hq
    refine pfX6_56 C hw hw.2.2.1 h10 dX6_add_27 (fun H locs hw => ?_)
    generalize e12 : uI M0 q8 0 (mI M0 a0 5) = M11 at hw
    replace hq := hq M11 e12.symm
    have e5 : mR M11 a0 2 = some q4 := by rw [← e12, mR_uI]; exact e5
    have e9 : mR M11 q4 (Int32.toNatClampNeg (mI M0 a0 3)) = some q8 := by rw [← e12, mR_uI]; exact e9
    refine lv_aload hx hb dX6_add_30 (lv_at hl 0 rfl) ?_
    refine lv_iload_n hx hb dX6_add_32 rfl (lv_at hl 2 rfl) ?_
    refine pfX6_59 C hw hw.2.2.1 h10 dX6_add_33 (fun H locs hw => ?_)
    generalize e14 : uI M11 q8 1 p1 = M13 at hw
    replace hq := hq M13 e14.symm
    have e5 : mR M13 a0 2 = some q4 := by rw [← e14, mR_uI]; exact e5
    have e9 : mR M13 q4 (Int32.toNatClampNeg (mI M0 a0 3)) = some q8 := by rw [← e14, mR_uI]; exact e9
    refine lv_aload hx hb dX6_add_36 (lv_at hl 0 rfl) ?_
    refine lv_iload_n hx hb dX6_add_38 rfl (lv_at hl 3 rfl) ?_
    refine pfX6_62 C hw hw.2.2.1 h10 dX6_add_39 (fun H locs hw => ?_)
    generalize e16 : uI M13 q8 2 p2 = M15 at hw
    replace hq := hq M15 e16.symm
    have e5 : mR M15 a0 2 = some q4 := by rw [← e16, mR_uI]; exact e5
    have e9 : mR M15 q4 (Int32.toNatClampNeg (mI M0 a0 3)) = some q8 := by rw [← e16, mR_uI]; exact e9
    refine lv_aload hx hb dX6_add_42 (lv_at hl 0 rfl) ?_
    refine lv_iload_n hx hb dX6_add_44 rfl (lv_at hl 4 rfl) ?_
    obtain ⟨h17, hq⟩ := hq
    refine pfX6_65 C hw hw.2.2.1 h10 h17 dX6_add_45 (fun H locs hw => ?_)
    generalize e19 : uI M15 q8 3 p3 = M18 at hw
    replace hq := hq M18 e19.symm
    have e5 : mR M18 a0 2 = some q4 := by rw [← e19, mR_uI]; exact e5
    have e9 : mR M18 q4 (Int32.toNatClampNeg (mI M0 a0 3)) = some q8 := by rw [← e19, mR_uI]; exact e9
    refine lv_aload_n hx hb dX6_add_48 rfl (lv_at hl 1 rfl) ?_
    refine lv_dup hx hb dX6_add_49 rfl ?_
    refine gfX6_30 C hw hw.2.2.1 h0 dX6_add_50 ?_
    refine lv_iconst (v := 1) hx hb dX6_add_53 (by decide) ?_
    refine lv_iadd hx hb dX6_add_54 ?_
    refine pfX6_30 C hw hw.2.2.1 h0 dX6_add_55 (fun H locs hw => ?_)
    generalize e21 : uI M18 a0 3 ((mI M18 a0 3) + 1) = M20 at hw
    replace hq := hq M20 e21.symm
    have e5 : mR M20 a0 2 = some q4 := by rw [← e21, mR_uI]; exact e5
    have e9 : mR M20 q4 (Int32.toNatClampNeg (mI M0 a0 3)) = some q8 := by rw [← e21, mR_uI]; exact e9
    exact lt_X6_add_58  C hr hlk hn h0  hq hw (lv_sub hl [1, 2, 3, 4, 0] rfl)
  · replace hq := hq.2 c3
    exact r_vret C hr hlk hw dX6_add_9 (Nat.le_refl _) (Nat.le_refl _) ⟨rfl, hq⟩
