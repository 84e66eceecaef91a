def lb_X8_search_117 (g : Gh) (M0 : Mem) (a0 : Nat) (p1 : Int32) (p2 : Int32) (post : Int32 → Mem → Prop) (bk28 : Int32 × Int32 × Mem → Prop) (x4 : Int32) (s0 : Int32) (M : Mem) : Prop :=
  (((mI M a0 7) ≤ s0) → (((mI M a0 9) ≤ 0) → post 1 M) ∧ (¬ ((mI M a0 9) ≤ 0) → wp_X8_takeOut g M a0 (fun v3 M4 => bk28 ((v3 + 1), (x4 + 1), M4)))) ∧ (¬ ((mI M a0 7) ≤ s0) → (((mI M a0 3) < p2) → wp_X8_putIn g M a0 s0 (fun M7 => bk28 ((s0 + 1), (x4 + 1), M7))) ∧ (¬ ((mI M a0 3) < p2) → post 2 M))
def lb_X8_search_100 (g : Gh) (M0 : Mem) (a0 : Nat) (p1 : Int32) (p2 : Int32) (post : Int32 → Mem → Prop) (bk28 : Int32 × Int32 × Mem → Prop) (x3 : Int32) (x4 : Int32) (x5 : Int32)  (M : Mem) : Prop :=
  ((x5 = 0) → wp_X8_nextWithRoom g M a0 x3 (fun v9 M10 => lb_X8_search_117 g M0 a0 p1 p2 post bk28 x4 v9 M10)) ∧ (¬ (x5 = 0) → lb_X8_search_117 g M0 a0 p1 p2 post bk28 x4 (mI M a0 7) M)
def lb_X8_search_90 (g : Gh) (M0 : Mem) (a0 : Nat) (p1 : Int32) (p2 : Int32) (post : Int32 → Mem → Prop)    (M : Mem) : Prop :=
  ∀ M11, M11 = uI M a0 2 (mI M a0 9) → (post 0 M11)
def lb_X8_search_61 (g : Gh) (M0 : Mem) (a0 : Nat) (p1 : Int32) (p2 : Int32) (post : Int32 → Mem → Prop) (bk28 : Int32 × Int32 × Mem → Prop) (x3 : Int32) (x4 : Int32) (s0 : Int32) (M : Mem) : Prop :=
  ((s0 = 0) → lb_X8_search_100 g M0 a0 p1 p2 post bk28 x3 x4 s0 M) ∧ (¬ (s0 = 0) → (((mI M a0 11) < (mI M a0 13)) → lb_X8_search_100 g M0 a0 p1 p2 post bk28 x3 x4 s0 M) ∧ (¬ ((mI M a0 11) < (mI M a0 13)) → (((mI M a0 14) < (mI M a0 11)) → lb_X8_search_100 g M0 a0 p1 p2 post bk28 x3 x4 s0 M) ∧ (¬ ((mI M a0 14) < (mI M a0 11)) → lb_X8_search_90 g M0 a0 p1 p2 post   M)))
def bd_X8_search_28 (g : Gh) (M0 : Mem) (a0 : Nat) (p1 : Int32) (p2 : Int32) (post : Int32 → Mem → Prop)  (bk28 : Int32 × Int32 × Mem → Prop) (x3 : Int32) (x4 : Int32)  (M : Mem) : Prop :=
  (((2 * p2) < x4) → post 2 M) ∧ (¬ ((2 * p2) < x4) → ((p1 ≤ (mI M a0 9)) → lb_X8_search_61 g M0 a0 p1 p2 post bk28 x3 x4 1 M) ∧ (¬ (p1 ≤ (mI M a0 9)) → ∃ q18, mR M a0 8 = some q18 ∧ (okc (gB g) M0 q18 14 ∧ ((((mI M a0 9) < (nI (mN M0 q18))) → lb_X8_search_61 g M0 a0 p1 p2 post bk28 x3 x4 0 M) ∧ (¬ ((mI M a0 9) < (nI (mN M0 q18))) → lb_X8_search_61 g M0 a0 p1 p2 post bk28 x3 x4 1 M)))))
def wp_X8_search (g : Gh) (M0 : Mem) (a0 : Nat) (p1 : Int32) (p2 : Int32) (post : Int32 → Mem → Prop) : Prop :=
  okc (gB g) M0 a0 8 ∧ (∀ M22, M22 = uI M0 a0 9 0 → (∀ M24, M24 = uI M22 a0 11 0 → (∀ M26, M26 = uI M24 a0 3 0 → (∃ q28, mR M26 a0 10 = some q28 ∧ (wp_J7_fill_53178 g M26 q28 0 (fun M31 => (∃ n : Nat, lfp (fun bk z => bd_X8_search_28 g M0 a0 p1 p2 post  bk z.1 z.2.1 z.2.2) n (0, 0, M31))))))))
set_option maxHeartbeats 4000000 in
set_option maxRecDepth 100000 in
theorem lt_X8_search_117 {l : Launch} {g : Gh} {p : Program} {e : Env} {s : State} {m : MethodId} {args : Array Value} {below : List Frame} {meth : Method} {c : Code} {H : Heap} {locs : List Loc} {ls : Array Slot} {M0 M : Mem} {a0 : Nat} {p1 : Int32} {p2 : Int32} {post : Int32 → Mem → Prop} {x4 : Int32} {s0 : Int32} (C : Cx g p s m args c cX8_search 7 RX8) (hr : meth.sig.returnType = (some .int)) (hlk : meth.locks = false) (hn : meth.name = "search") (h0 : okc (gB g) M0 a0 8) {bk28 : Int32 × Int32 × Mem → Prop} (hk28 : ∀ (x3 : Int32) (x4 : Int32) (M : Mem) (H : Heap) (locs : List Loc) (ls : Array Slot), bk28 (x3, x4, M) → Wd g s M0 M H locs → lv_has ls 7 [(0, .ref a0), (1, .int p1), (2, .int p2), (3, .int x3), (4, .int x4)] → W p l e (rmo 2 0 0) s m args below meth c H locs 0 0 (MQ below (Cq g M0 (pI post)) args s 0 0 (gA g)) (F0 m 28 ls [])) (hq : lb_X8_search_117 g M0 a0 p1 p2 post bk28 x4 s0 M) (hw : Wd g s M0 M H locs) (hl : lv_has ls 7 [(0, .ref a0), (1, .int p1), (2, .int p2), (4, .int x4)]) : W p l e (rmo 2 0 0) s m args below meth c H locs 0 0 (MQ below (Cq g M0 (pI post)) args s 0 0 (gA g)) (F0 m 117 ls [.int s0]) := by
  have hx := C.1.1
  have hb := C.1.2.1
  unfold lb_X8_search_117 at hq
  refine lv_istore (lv' := [(6, .int s0), (0, .ref a0), (1, .int p1), (2, .int p2), (4, .int x4)]) hx hb dX8_search_117 hl (by decide) rfl (fun ls hl => ?_)
  refine lv_iload hx hb dX8_search_119 (lv_at hl 0 rfl) ?_
  refine lv_aload_n hx hb dX8_search_121 rfl (lv_at hl 1 rfl) ?_
  refine gfX8_37 C hw hw.2.2.1 h0 dX8_search_122 ?_
  refine lv_icmp_ge (tgt := 152) hx hb dX8_search_125 (by decide) (fun c1 => ?_) (fun c1 => ?_)
  · replace hq := hq.1 c1
    refine lv_aload_n hx hb dX8_search_152 rfl (lv_at hl 1 rfl) ?_
    refine gfX8_62 C hw hw.2.2.1 h0 dX8_search_153 ?_
    refine lv_if_le (tgt := 169) hx hb dX8_search_156 (by decide) (fun c2 => ?_) (fun c2 => ?_)
    · replace hq := hq.1 c2
      refine lv_iconst (v := 1) hx hb dX8_search_169 (by decide) ?_
      exact r_iret C hr hlk hw dX8_search_170 (by decide) (by decide) ⟨_, rfl, hq⟩
    · replace hq := hq.2 c2
      refine lv_aload_n hx hb dX8_search_159 rfl (lv_at hl 1 rfl) ?_
      refine r_callV (T := TX8) (N := 15) (ci := 8) (index := 85) (n := 0) (d2 := 1) (mc := 0) (ms := 0) (As := []) (rest := []) C hw (ct_X8_takeOut hq) kvX8_85 hq.1 (by decide) rfl ⟨by decide, by decide⟩ ⟨by decide, by decide⟩ rfl hl.1 rfl (Nat.le_of_ble_eq_true rfl) dX8_search_160 (fun r M4 H locs hp hle hw => ?_)
      obtain ⟨v3, rfl, hq⟩ := hp
      refine W.eq (g2 := F0 m 163 ls [.int v3]) rfl ?_
      refine lv_iconst (v := 1) hx hb dX8_search_163 (by decide) ?_
      refine lv_iadd hx hb dX8_search_164 ?_
      refine lv_istore_n (lv' := [(3, .int (v3 + 1)), (6, .int s0), (0, .ref a0), (1, .int p1), (2, .int p2), (4, .int x4)]) hx hb dX8_search_165 rfl hl (by decide) rfl (fun ls hl => ?_)
      refine lv_goto (tgt := 171) hx hb dX8_search_166 (by decide) ?_
      refine lv_iinc (v := (x4 + 1)) (lv' := [(4, .int (x4 + 1)), (3, .int (v3 + 1)), (6, .int s0), (0, .ref a0), (1, .int p1), (2, .int p2)]) hx hb dX8_search_171 hl (k := 5) rfl rfl (by decide) rfl (fun ls hl => ?_)
      refine lv_goto (tgt := 28) hx hb dX8_search_174 (by decide) ?_
      exact hk28 _ _ _ _ _ _ hq hw (lv_sub hl [3, 4, 5, 1, 0] rfl)
  · replace hq := hq.2 c1
    refine lv_aload_n hx hb dX8_search_128 rfl (lv_at hl 1 rfl) ?_
    refine gfX8_68 C hw hw.2.2.1 h0 dX8_search_129 ?_
    refine lv_iload_n hx hb dX8_search_132 rfl (lv_at hl 3 rfl) ?_
    refine lv_icmp_lt (tgt := 138) hx hb dX8_search_133 (by decide) (fun c5 => ?_) (fun c5 => ?_)
    · replace hq := hq.1 c5
      refine lv_aload_n hx hb dX8_search_138 rfl (lv_at hl 1 rfl) ?_
      refine lv_iload hx hb dX8_search_139 (lv_at hl 0 rfl) ?_
      refine r_callV (T := TX8) (N := 15) (ci := 8) (index := 81) (n := 1) (d2 := 1) (mc := 0) (ms := 0) (As := [.int s0]) (rest := []) C hw (ct_X8_putIn hq) kvX8_81 hq.1 (by decide) rfl ⟨by decide, by decide⟩ ⟨by decide, by decide⟩ rfl hl.1 rfl (Nat.le_of_ble_eq_true rfl) dX8_search_141 (fun r M7 H locs hp hle hw => ?_)
      obtain ⟨rfl, hq⟩ := hp
      refine W.eq (g2 := F0 m 144 ls []) rfl ?_
      refine lv_iload hx hb dX8_search_144 (lv_at hl 0 rfl) ?_
      refine lv_iconst (v := 1) hx hb dX8_search_146 (by decide) ?_
      refine lv_iadd hx hb dX8_search_147 ?_
      refine lv_istore_n (lv' := [(3, .int (s0 + 1)), (6, .int s0), (0, .ref a0), (1, .int p1), (2, .int p2), (4, .int x4)]) hx hb dX8_search_148 rfl hl (by decide) rfl (fun ls hl => ?_)
      refine lv_goto (tgt := 171) hx hb dX8_search_149 (by decide) ?_
      refine lv_iinc (v := (x4 + 1)) (lv' := [(4, .int (x4 + 1)), (3, .int (s0 + 1)), (6, .int s0), (0, .ref a0), (1, .int p1), (2, .int p2)]) hx hb dX8_search_171 hl (k := 5) rfl rfl (by decide) rfl (fun ls hl => ?_)
      refine lv_goto (tgt := 28) hx hb dX8_search_174 (by decide) ?_
      exact hk28 _ _ _ _ _ _ hq hw (lv_sub hl [3, 4, 5, 1, 0] rfl)
    · replace hq := hq.2 c5
      refine lv_iconst (v := 2) hx hb dX8_search_136 (by decide) ?_
      exact r_iret C hr hlk hw dX8_search_137 (by decide) (by decide) ⟨_, rfl, hq⟩
set_option maxHeartbeats 4000000 in
set_option maxRecDepth 100000 in
theorem lt_X8_search_100 {l : Launch} {g : Gh} {p : Program} {e : Env} {s : State} {m : MethodId} {args : Array Value} {below : List Frame} {meth : Method} {c : Code} {H : Heap} {locs : List Loc} {ls : Array Slot} {M0 M : Mem} {a0 : Nat} {p1 : Int32} {p2 : Int32} {post : Int32 → Mem → Prop} {x3 : Int32} {x4 : Int32} {x5 : Int32}  (C : Cx g p s m args c cX8_search 7 RX8) (hr : meth.sig.returnType = (some .int)) (hlk : meth.locks = false) (hn : meth.name = "search") (h0 : okc (gB g) M0 a0 8) {bk28 : Int32 × Int32 × Mem → Prop} (hk28 : ∀ (x3 : Int32) (x4 : Int32) (M : Mem) (H : Heap) (locs : List Loc) (ls : Array Slot), bk28 (x3, x4, M) → Wd g s M0 M H locs → lv_has ls 7 [(0, .ref a0), (1, .int p1), (2, .int p2), (3, .int x3), (4, .int x4)] → W p l e (rmo 2 0 0) s m args below meth c H locs 0 0 (MQ below (Cq g M0 (pI post)) args s 0 0 (gA g)) (F0 m 28 ls [])) (hq : lb_X8_search_100 g M0 a0 p1 p2 post bk28 x3 x4 x5 M) (hw : Wd g s M0 M H locs) (hl : lv_has ls 7 [(0, .ref a0), (1, .int p1), (2, .int p2), (3, .int x3), (4, .int x4), (5, .int x5)]) : W p l e (rmo 2 0 0) s m args below meth c H locs 0 0 (MQ below (Cq g M0 (pI post)) args s 0 0 (gA g)) (F0 m 100 ls []) := by
  have hx := C.1.1
  have hb := C.1.2.1
  unfold lb_X8_search_100 at hq
  refine lv_iload hx hb dX8_search_100 (lv_at hl 5 rfl) ?_
  refine lv_if_eq (tgt := 112) hx hb dX8_search_102 (by decide) (fun c8 => ?_) (fun c8 => ?_)
  · replace hq := hq.1 c8
    refine lv_aload_n hx hb dX8_search_112 rfl (lv_at hl 0 rfl) ?_
    refine lv_iload_n hx hb dX8_search_113 rfl (lv_at hl 3 rfl) ?_
    refine r_callV (T := TX8) (N := 15) (ci := 8) (index := 77) (n := 1) (d2 := 0) (mc := 0) (ms := 0) (As := [.int x3]) (rest := []) C hw (ct_X8_nextWithRoom hq) kvX8_77 hq.1 (by decide) rfl ⟨by decide, by decide⟩ ⟨by decide, by decide⟩ rfl hl.1 rfl (Nat.le_of_ble_eq_true rfl) dX8_search_114 (fun r M10 H locs hp hle hw => ?_)
    obtain ⟨v9, rfl, hq⟩ := hp
    refine W.eq (g2 := F0 m 117 ls [.int v9]) rfl ?_
    exact lt_X8_search_117 C hr hlk hn h0 hk28 hq hw (lv_sub hl [0, 1, 2, 4] rfl)
  · replace hq := hq.2 c8
    refine lv_aload_n hx hb dX8_search_105 rfl (lv_at hl 0 rfl) ?_
    refine gfX8_37 C hw hw.2.2.1 h0 dX8_search_106 ?_
    refine lv_goto (tgt := 117) hx hb dX8_search_109 (by decide) ?_
    exact lt_X8_search_117 C hr hlk hn h0 hk28 hq hw (lv_sub hl [0, 1, 2, 4] rfl)
set_option maxHeartbeats 4000000 in
set_option maxRecDepth 100000 in
theorem lt_X8_search_90 {l : Launch} {g : Gh} {p : Program} {e : Env} {s : State} {m : MethodId} {args : Array Value} {below : List Frame} {meth : Method} {c : Code} {H : Heap} {locs : List Loc} {ls : Array Slot} {M0 M : Mem} {a0 : Nat} {p1 : Int32} {p2 : Int32} {post : Int32 → Mem → Prop}   (C : Cx g p s m args c cX8_search 7 RX8) (hr : meth.sig.returnType = (some .int)) (hlk : meth.locks = false) (hn : meth.name = "search") (h0 : okc (gB g) M0 a0 8)  (hq : lb_X8_search_90 g M0 a0 p1 p2 post   M) (hw : Wd g s M0 M H locs) (hl : lv_has ls 7 [(0, .ref a0), (1, .int p1), (2, .int p2)]) : W p l e (rmo 2 0 0) s m args below meth c H locs 0 0 (MQ below (Cq g M0 (pI post)) args s 0 0 (gA g)) (F0 m 90 ls []) := by
  have hx := C.1.1
  have hb := C.1.2.1
  unfold lb_X8_search_90 at hq
  refine lv_aload_n hx hb dX8_search_90 rfl (lv_at hl 0 rfl) ?_
  refine lv_aload_n hx hb dX8_search_91 rfl (lv_at hl 0 rfl) ?_
  refine gfX8_62 C hw hw.2.2.1 h0 dX8_search_92 ?_
  refine pfX8_34 C hw hw.2.2.1 h0 dX8_search_95 (fun H locs hw => ?_)
  generalize e12 : uI M a0 2 (mI M a0 9) = M11 at hw
  replace hq := hq M11 e12.symm
  refine lv_iconst (v := 0) hx hb dX8_search_98 (by decide) ?_
  exact r_iret C hr hlk hw dX8_search_99 (by decide) (by decide) ⟨_, rfl, hq⟩
set_option maxHeartbeats 4000000 in
set_option maxRecDepth 100000 in
theorem lt_X8_search_61 {l : Launch} {g : Gh} {p : Program} {e : Env} {s : State} {m : MethodId} {args : Array Value} {below : List Frame} {meth : Method} {c : Code} {H : Heap} {locs : List Loc} {ls : Array Slot} {M0 M : Mem} {a0 : Nat} {p1 : Int32} {p2 : Int32} {post : Int32 → Mem → Prop} {x3 : Int32} {x4 : Int32} {s0 : Int32} (C : Cx g p s m args c cX8_search 7 RX8) (hr : meth.sig.returnType = (some .int)) (hlk : meth.locks = false) (hn : meth.name = "search") (h0 : okc (gB g) M0 a0 8) {bk28 : Int32 × Int32 × Mem → Prop} (hk28 : ∀ (x3 : Int32) (x4 : Int32) (M : Mem) (H : Heap) (locs : List Loc) (ls : Array Slot), bk28 (x3, x4, M) → Wd g s M0 M H locs → lv_has ls 7 [(0, .ref a0), (1, .int p1), (2, .int p2), (3, .int x3), (4, .int x4)] → W p l e (rmo 2 0 0) s m args below meth c H locs 0 0 (MQ below (Cq g M0 (pI post)) args s 0 0 (gA g)) (F0 m 28 ls [])) (hq : lb_X8_search_61 g M0 a0 p1 p2 post bk28 x3 x4 s0 M) (hw : Wd g s M0 M H locs) (hl : lv_has ls 7 [(0, .ref a0), (1, .int p1), (2, .int p2), (3, .int x3), (4, .int x4)]) : W p l e (rmo 2 0 0) s m args below meth c H locs 0 0 (MQ below (Cq g M0 (pI post)) args s 0 0 (gA g)) (F0 m 61 ls [.int s0]) := by
  have hx := C.1.1
  have hb := C.1.2.1
  unfold lb_X8_search_61 at hq
  refine lv_istore (lv' := [(5, .int s0), (0, .ref a0), (1, .int p1), (2, .int p2), (3, .int x3), (4, .int x4)]) hx hb dX8_search_61 hl (by decide) rfl (fun ls hl => ?_)
  refine lv_iload hx hb dX8_search_63 (lv_at hl 0 rfl) ?_
  refine lv_if_eq (tgt := 100) hx hb dX8_search_65 (by decide) (fun c13 => ?_) (fun c13 => ?_)
  · replace hq := hq.1 c13
    exact lt_X8_search_100 C hr hlk hn h0 hk28 hq hw (lv_sub hl [1, 2, 3, 4, 5, 0] rfl)
  · replace hq := hq.2 c13
    refine lv_aload_n hx hb dX8_search_68 rfl (lv_at hl 1 rfl) ?_
    refine gfX8_56 C hw hw.2.2.1 h0 dX8_search_69 ?_
    refine lv_aload_n hx hb dX8_search_72 rfl (lv_at hl 1 rfl) ?_
    refine gfX8_65 C hw hw.2.2.1 h0 dX8_search_73 ?_
    refine lv_icmp_gt (tgt := 100) hx hb dX8_search_76 (by decide) (fun c14 => ?_) (fun c14 => ?_)
    · replace hq := hq.1 c14
      exact lt_X8_search_100 C hr hlk hn h0 hk28 hq hw (lv_sub hl [1, 2, 3, 4, 5, 0] rfl)
    · replace hq := hq.2 c14
      refine lv_aload_n hx hb dX8_search_79 rfl (lv_at hl 1 rfl) ?_
      refine gfX8_65 C hw hw.2.2.1 h0 dX8_search_80 ?_
      refine lv_aload_n hx hb dX8_search_83 rfl (lv_at hl 1 rfl) ?_
      refine gfX8_59 C hw hw.2.2.1 h0 dX8_search_84 ?_
      refine lv_icmp_gt (tgt := 100) hx hb dX8_search_87 (by decide) (fun c15 => ?_) (fun c15 => ?_)
      · replace hq := hq.1 c15
        exact lt_X8_search_100 C hr hlk hn h0 hk28 hq hw (lv_sub hl [1, 2, 3, 4, 5, 0] rfl)
      · replace hq := hq.2 c15
        exact lt_X8_search_90 C hr hlk hn h0  hq hw (lv_sub hl [1, 2, 3] rfl)
set_option maxHeartbeats 4000000 in
set_option maxRecDepth 100000 in
theorem lp_X8_search_28 {l : Launch} {g : Gh} {p : Program} {e : Env} {s : State} {m : MethodId} {args : Array Value} {below : List Frame} {meth : Method} {c : Code} {M0 : Mem} {a0 : Nat} {p1 : Int32} {p2 : Int32} {post : Int32 → Mem → Prop} (C : Cx g p s m args c cX8_search 7 RX8) (hr : meth.sig.returnType = (some .int)) (hlk : meth.locks = false) (hn : meth.name = "search") (h0 : okc (gB g) M0 a0 8)  : ∀ (nf : Nat) (x3 : Int32) (x4 : Int32)  (M : Mem) (H : Heap) (locs : List Loc) (ls : Array Slot), lfp (fun bk z => bd_X8_search_28 g M0 a0 p1 p2 post  bk z.1 z.2.1 z.2.2) nf (x3, x4, M) → Wd g s M0 M H locs → lv_has ls 7 [(0, .ref a0), (1, .int p1), (2, .int p2), (3, .int x3), (4, .int x4)] → W p l e (rmo 2 0 0) s m args below meth c H locs 0 0 (MQ below (Cq g M0 (pI post)) args s 0 0 (gA g)) (F0 m 28 ls []) := by
  have hx := C.1.1
  have hb := C.1.2.1
  intro nf
  induction nf with
  | zero => intro _ _ _ H locs ls hq; exact hq.elim
  | succ nf hk28 =>
    intro x3 x4 M H locs ls hq hw hl
    replace hq : bd_X8_search_28 g M0 a0 p1 p2 post  (lfp (fun bk z => bd_X8_search_28 g M0 a0 p1 p2 post  bk z.1 z.2.1 z.2.2) nf) x3 x4 M := hq
    unfold bd_X8_search_28 at hq
    refine lv_iload hx hb dX8_search_28 (lv_at hl 4 rfl) ?_
    refine lv_iconst (v := 2) hx hb dX8_search_30 (by decide) ?_
    refine lv_iload_n hx hb dX8_search_31 rfl (lv_at hl 2 rfl) ?_
    refine lv_imul hx hb dX8_search_32 ?_
    refine lv_icmp_gt (tgt := 177) hx hb dX8_search_33 (by decide) (fun c16 => ?_) (fun c16 => ?_)
    · replace hq := hq.1 c16
      refine lv_iconst (v := 2) hx hb dX8_search_177 (by decide) ?_
      exact r_iret C hr hlk hw dX8_search_178 (by decide) (by decide) ⟨_, rfl, hq⟩
    · replace hq := hq.2 c16
      refine lv_aload_n hx hb dX8_search_36 rfl (lv_at hl 0 rfl) ?_
      refine gfX8_62 C hw hw.2.2.1 h0 dX8_search_37 ?_
      refine lv_iload_n hx hb dX8_search_40 rfl (lv_at hl 1 rfl) ?_
      refine lv_icmp_ge (tgt := 56) hx hb dX8_search_41 (by decide) (fun c17 => ?_) (fun c17 => ?_)
      · replace hq := hq.1 c17
        refine lv_iconst (v := 1) hx hb dX8_search_56 (by decide) ?_
        refine lv_goto (tgt := 61) hx hb dX8_search_57 (by decide) ?_
        exact lt_X8_search_61 C hr hlk hn h0 hk28 hq hw (lv_sub hl [0, 1, 2, 3, 4] rfl)
      · replace hq := hq.2 c17
        refine lv_aload_n hx hb dX8_search_44 rfl (lv_at hl 0 rfl) ?_
        refine gfX8_62 C hw hw.2.2.1 h0 dX8_search_45 ?_
        refine lv_aload_n hx hb dX8_search_48 rfl (lv_at hl 0 rfl) ?_
        obtain ⟨q18, e19, hq⟩ := hq
        refine gfX8_21 C hw hw.2.2.1 h0 e19 dX8_search_49 ?_
        obtain ⟨h20, hq⟩ := hq
        refine q_alen C hw hw.2.2.1 h20 (by decide) (by decide) rfl dX8_search_52 ?_
        refine lv_icmp_lt (tgt := 60) hx hb dX8_search_53 (by decide) (fun c21 => ?_) (fun c21 => ?_)
        · replace hq := hq.1 c21
          refine lv_iconst (v := 0) hx hb dX8_search_60 (by decide) ?_
          exact lt_X8_search_61 C hr hlk hn h0 hk28 hq hw (lv_sub hl [0, 1, 2, 3, 4] rfl)
        · replace hq := hq.2 c21
          refine lv_iconst (v := 1) hx hb dX8_search_56 (by decide) ?_
          refine lv_goto (tgt := 61) hx hb dX8_search_57 (by decide) ?_
          exact lt_X8_search_61 C hr hlk hn h0 hk28 hq hw (lv_sub hl [0, 1, 2, 3, 4] rfl)
set_option maxHeartbeats 4000000 in
set_option maxRecDepth 100000 in
theorem ct_X8_search {l : Launch} {g : Gh} {M0 : Mem} {a0 : Nat} {p1 : Int32} {p2 : Int32} {post : Int32 → Mem → Prop} (hq : wp_X8_search g M0 a0 p1 p2 post) : Ct l g yX8_search cX8_search 7 (some .int) 2 0 0 [.ref a0, .int p1, .int p2] M0 (pI post) := by
  unfold wp_X8_search at hq
  obtain ⟨h0, hq⟩ := hq
  refine Ct.of (by decide) (Nat.le_of_ble_eq_true rfl) ?_
  intro p e s m below meth c ls C hr hlk hn hl hw
  have hx := C.1.1
  have hb := C.1.2.1
  have hl : lv_has ls 7 [(0, .ref a0), (1, .int p1), (2, .int p2)] := hl
  refine lv_aload_n hx hb dX8_search_0 rfl (lv_at hl 0 rfl) ?_
  refine lv_iconst (v := 0) hx hb dX8_search_1 (by decide) ?_
  refine pfX8_62 C hw hw.2.2.1 h0 dX8_search_2 (fun H locs hw => ?_)
  generalize e23 : uI M0 a0 9 0 = M22 at hw
  replace hq := hq M22 e23.symm
  refine lv_aload_n hx hb dX8_search_5 rfl (lv_at hl 0 rfl) ?_
  refine lv_iconst (v := 0) hx hb dX8_search_6 (by decide) ?_
  refine pfX8_65 C hw hw.2.2.1 h0 dX8_search_7 (fun H locs hw => ?_)
  generalize e25 : uI M22 a0 11 0 = M24 at hw
  replace hq := hq M24 e25.symm
  refine lv_aload_n hx hb dX8_search_10 rfl (lv_at hl 0 rfl) ?_
  refine lv_iconst (v := 0) hx hb dX8_search_11 (by decide) ?_
  refine pfX8_68 C hw hw.2.2.1 h0 dX8_search_12 (fun H locs hw => ?_)
  generalize e27 : uI M24 a0 3 0 = M26 at hw
  replace hq := hq M26 e27.symm
  refine lv_aload_n hx hb dX8_search_15 rfl (lv_at hl 0 rfl) ?_
  obtain ⟨q28, e29, hq⟩ := hq
  refine gfX8_24 C hw hw.2.2.1 h0 e29 dX8_search_16 ?_
  refine lv_iconst (v := 0) hx hb dX8_search_19 (by decide) ?_
  refine r_callS (index := 71) (n := 2) (d2 := 0) (mc := 0) (ms := 0) (As := [.ref q28, .int 0]) (rest := []) C hw (ct_J7_fill_53178 hq) ksX8_71 ⟨by decide, by decide⟩ ⟨by decide, by decide⟩ rfl hl.1 rfl (Nat.le_of_ble_eq_true rfl) dX8_search_20 (fun r M31 H locs hp hle hw => ?_)
  obtain ⟨rfl, hq⟩ := hp
  refine W.eq (g2 := F0 m 23 ls []) rfl ?_
  refine lv_iconst (v := 0) hx hb dX8_search_23 (by decide) ?_
  refine lv_istore_n (lv' := [(3, .int 0), (0, .ref a0), (1, .int p1), (2, .int p2)]) hx hb dX8_search_24 rfl hl (by decide) rfl (fun ls hl => ?_)
  refine lv_iconst (v := 0) hx hb dX8_search_25 (by decide) ?_
  refine lv_istore (lv' := [(4, .int 0), (3, .int 0), (0, .ref a0), (1, .int p1), (2, .int p2)]) hx hb dX8_search_26 hl (by decide) rfl (fun ls hl => ?_)
  obtain ⟨nf, hq⟩ := hq
  exact lp_X8_search_28 C hr hlk hn h0  nf _ _ _ _ _ _ hq hw (lv_sub hl [2, 3, 4, 1, 0] rfl)

def wp_X8_numberAt (g : Gh) (M0 : Mem) (a0 : Nat) (p1 : Int32) (post : Int32 → Mem → Prop) : Prop :=
  okc (gB g) M0 a0 8 ∧ (((p1 < 0) → post (-1) M0) ∧ (¬ (p1 < 0) → (((mI M0 a0 2) ≤ p1) → post (-1) M0) ∧ (¬ ((mI M0 a0 2) ≤ p1) → ∃ q3, mR M0 a0 8 = some q3 ∧ (okc (gB g) M0 q3 14 ∧ (((p1 < (nI (mN M0 q3))) → vp_in p1 (mN M0 q3) ∧ ((((mI M0 q3 (Int32.toNatClampNeg p1)) < 0) → post (-1) M0) ∧ (¬ ((mI M0 q3 (Int32.toNatClampNeg p1)) < 0) → ∃ q9, mR M0 a0 4 = some q9 ∧ (okc (gB g) M0 q9 14 ∧ ((((nI (mN M0 q9)) ≤ (mI M0 q3 (Int32.toNatClampNeg p1))) → post (-1) M0) ∧ (¬ ((nI (mN M0 q9)) ≤ (mI M0 q3 (Int32.toNatClampNeg p1))) → vp_in (mI M0 q3 (Int32.toNatClampNeg p1)) (mN M0 q9) ∧ (post (mI M0 q9 (Int32.toNatClampNeg (mI M0 q3 (Int32.toNatClampNeg p1)))) M0))))))) ∧ (¬ (p1 < (nI (mN M0 q3))) → post (-1) M0))))))
set_option maxHeartbeats 4000000 in
set_option maxRecDepth 100000 in
theorem ct_X8_numberAt {l : Launch} {g : Gh} {M0 : Mem} {a0 : Nat} {p1 : Int32} {post : Int32 → Mem → Prop} (hq : wp_X8_numberAt g M0 a0 p1 post) : Ct l g yX8_numberAt cX8_numberAt 3 (some .int) 0 0 0 [.ref a0, .int p1] M0 (pI post) := by
  unfold wp_X8_numberAt at hq
  obtain ⟨h0, hq⟩ := hq
  refine Ct.of (by decide) (Nat.le_of_ble_eq_true rfl) ?_
  intro p e s m below meth c ls C hr hlk hn hl hw
  have hx := C.1.1
  have hb := C.1.2.1
  have hl : lv_has ls 3 [(0, .ref a0), (1, .int p1)] := hl
  refine lv_iload_n hx hb dX8_numberAt_0 rfl (lv_at hl 1 rfl) ?_
  refine lv_if_lt (tgt := 21) hx hb dX8_numberAt_1 (by decide) (fun c1 => ?_) (fun c1 => ?_)
  · replace hq := hq.1 c1
    refine lv_iconst (v := (-1)) hx hb dX8_numberAt_21 (by decide) ?_
    exact r_iret C hr hlk hw dX8_numberAt_22 (by decide) (by decide) ⟨_, rfl, hq⟩
  · replace hq := hq.2 c1
    refine lv_iload_n hx hb dX8_numberAt_4 rfl (lv_at hl 1 rfl) ?_
    refine lv_aload_n hx hb dX8_numberAt_5 rfl (lv_at hl 0 rfl) ?_
    refine gfX8_34 C hw hw.2.2.1 h0 dX8_numberAt_6 ?_
    refine lv_icmp_ge (tgt := 21) hx hb dX8_numberAt_9 (by decide) (fun c2 => ?_) (fun c2 => ?_)
    · replace hq := hq.1 c2
      refine lv_iconst (v := (-1)) hx hb dX8_numberAt_21 (by decide) ?_
      exact r_iret C hr hlk hw dX8_numberAt_22 (by decide) (by decide) ⟨_, rfl, hq⟩
    · replace hq := hq.2 c2
      refine lv_iload_n hx hb dX8_numberAt_12 rfl (lv_at hl 1 rfl) ?_
      refine lv_aload_n hx hb dX8_numberAt_13 rfl (lv_at hl 0 rfl) ?_
      obtain ⟨q3, e4, hq⟩ := hq
      refine gfX8_21 C hw hw.2.2.1 h0 e4 dX8_numberAt_14 ?_
      obtain ⟨h5, hq⟩ := hq
      refine q_alen C hw hw.2.2.1 h5 (by decide) (by decide) rfl dX8_numberAt_17 ?_
      refine lv_icmp_lt (tgt := 23) hx hb dX8_numberAt_18 (by decide) (fun c6 => ?_) (fun c6 => ?_)
      · replace hq := hq.1 c6
        refine lv_aload_n hx hb dX8_numberAt_23 rfl (lv_at hl 0 rfl) ?_
        refine gfX8_21 C hw hw.2.2.1 h0 e4 dX8_numberAt_24 ?_
        refine lv_iload_n hx hb dX8_numberAt_27 rfl (lv_at hl 1 rfl) ?_
        obtain ⟨h7, hq⟩ := hq
        refine q_iald C hw hw.2.2.1 h5 h7 dX8_numberAt_28 ?_
        refine lv_istore_n (lv' := [(2, .int (mI M0 q3 (Int32.toNatClampNeg p1))), (0, .ref a0), (1, .int p1)]) hx hb dX8_numberAt_29 rfl hl (by decide) rfl (fun ls hl => ?_)
        refine lv_iload_n hx hb dX8_numberAt_30 rfl (lv_at hl 0 rfl) ?_
        refine lv_if_lt (tgt := 52) hx hb dX8_numberAt_31 (by decide) (fun c8 => ?_) (fun c8 => ?_)
        · replace hq := hq.1 c8
          refine lv_iconst (v := (-1)) hx hb dX8_numberAt_52 (by decide) ?_
          exact r_iret C hr hlk hw dX8_numberAt_53 (by decide) (by decide) ⟨_, rfl, hq⟩
        · replace hq := hq.2 c8
          refine lv_iload_n hx hb dX8_numberAt_34 rfl (lv_at hl 0 rfl) ?_
          refine lv_aload_n hx hb dX8_numberAt_35 rfl (lv_at hl 1 rfl) ?_
          obtain ⟨q9, e10, hq⟩ := hq
          refine gfX8_9 C hw hw.2.2.1 h0 e10 dX8_numberAt_36 ?_
          obtain ⟨h11, hq⟩ := hq
          refine q_alen C hw hw.2.2.1 h11 (by decide) (by decide) rfl dX8_numberAt_39 ?_
          refine lv_icmp_ge (tgt := 52) hx hb dX8_numberAt_40 (by decide) (fun c12 => ?_) (fun c12 => ?_)
          · replace hq := hq.1 c12
            refine lv_iconst (v := (-1)) hx hb dX8_numberAt_52 (by decide) ?_
            exact r_iret C hr hlk hw dX8_numberAt_53 (by decide) (by decide) ⟨_, rfl, hq⟩
          · replace hq := hq.2 c12
            refine lv_aload_n hx hb dX8_numberAt_43 rfl (lv_at hl 1 rfl) ?_
            refine gfX8_9 C hw hw.2.2.1 h0 e10 dX8_numberAt_44 ?_
            refine lv_iload_n hx hb dX8_numberAt_47 rfl (lv_at hl 0 rfl) ?_
            obtain ⟨h13, hq⟩ := hq
            refine q_iald C hw hw.2.2.1 h11 h13 dX8_numberAt_48 ?_
            refine lv_goto (tgt := 53) hx hb dX8_numberAt_49 (by decide) ?_
            exact r_iret C hr hlk hw dX8_numberAt_53 (by decide) (by decide) ⟨_, rfl, hq⟩
      · replace hq := hq.2 c6
        refine lv_iconst (v := (-1)) hx hb dX8_numberAt_21 (by decide) ?_
        exact r_iret C hr hlk hw dX8_numberAt_22 (by decide) (by decide) ⟨_, rfl, hq⟩

def lb_X9_addPlay_24 (g : Gh) (M0 : Mem) (a0 : Nat) (p1 : Int32) (p2 : Int32) (p3 : Int32) (post : Mem → Prop)    (M : Mem) : Prop :=
  ∀ M1, M1 = uI M a0 5 ((mI M a0 5) ||| ((1 <<< (p2 &&& 31)) ||| (1 <<< (p3 &&& 31)))) → (post M1)
def wp_X9_addPlay (g : Gh) (M0 : Mem) (a0 : Nat) (p1 : Int32) (p2 : Int32) (p3 : Int32) (post : Mem → Prop) : Prop :=
  okc (gB g) M0 a0 9 ∧ (∀ M3, M3 = uI M0 a0 2 ((mI M0 a0 2) + 1) → (((p1 = 0) → lb_X9_addPlay_24 g M0 a0 p1 p2 p3 post   M3) ∧ (¬ (p1 = 0) → ∀ M6, M6 = uI M3 a0 3 ((mI M3 a0 3) + 1) → (lb_X9_addPlay_24 g M0 a0 p1 p2 p3 post   M6))))
set_option maxHeartbeats 4000000 in
set_option maxRecDepth 100000 in
theorem lt_X9_addPlay_24 {l : Launch} {g : Gh} {p : Program} {e : Env} {s : State} {m : MethodId} {args : Array Value} {below : List Frame} {meth : Method} {c : Code} {H : Heap} {locs : List Loc} {ls : Array Slot} {M0 M : Mem} {a0 : Nat} {p1 : Int32} {p2 : Int32} {p3 : Int32} {post : Mem → Prop}   (C : Cx g p s m args c cX9_addPlay 4 RX9) (hr : meth.sig.returnType = none) (hlk : meth.locks = false) (hn : meth.name = "addPlay") (h0 : okc (gB g) M0 a0 9)  (hq : lb_X9_addPlay_24 g M0 a0 p1 p2 p3 post   M) (hw : Wd g s M0 M H locs) (hl : lv_has ls 4 [(0, .ref a0), (1, .int p1), (2, .int p2), (3, .int p3)]) : W p l e (rmo 0 0 0) s m args below meth c H locs 0 0 (MQ below (Cq g M0 (pV post)) args s 0 0 (gA g)) (F0 m 24 ls []) := by
  have hx := C.1.1
  have hb := C.1.2.1
  unfold lb_X9_addPlay_24 at hq
  refine lv_aload_n hx hb dX9_addPlay_24 rfl (lv_at hl 0 rfl) ?_
  refine lv_dup hx hb dX9_addPlay_25 rfl ?_
  refine gfX9_25 C hw hw.2.2.1 h0 dX9_addPlay_26 ?_
  refine lv_iconst (v := 1) hx hb dX9_addPlay_29 (by decide) ?_
  refine lv_iload_n hx hb dX9_addPlay_30 rfl (lv_at hl 2 rfl) ?_
  refine lv_ishl hx hb dX9_addPlay_31 ?_
  refine lv_iconst (v := 1) hx hb dX9_addPlay_32 (by decide) ?_
  refine lv_iload_n hx hb dX9_addPlay_33 rfl (lv_at hl 3 rfl) ?_
  refine lv_ishl hx hb dX9_addPlay_34 ?_
  refine lv_ior hx hb dX9_addPlay_35 ?_
  refine lv_ior hx hb dX9_addPlay_36 ?_
  refine pfX9_25 C hw hw.2.2.1 h0 dX9_addPlay_37 (fun H locs hw => ?_)
  generalize e2 : uI M a0 5 ((mI M a0 5) ||| ((1 <<< (p2 &&& 31)) ||| (1 <<< (p3 &&& 31)))) = M1 at hw
  replace hq := hq M1 e2.symm
  exact r_vret C hr hlk hw dX9_addPlay_40 (by decide) (by decide) ⟨rfl, hq⟩
set_option maxHeartbeats 4000000 in
set_option maxRecDepth 100000 in
theorem ct_X9_addPlay {l : Launch} {g : Gh} {M0 : Mem} {a0 : Nat} {p1 : Int32} {p2 : Int32} {p3 : Int32} {post : Mem → Prop} (hq : wp_X9_addPlay g M0 a0 p1 p2 p3 post) : Ct l g yX9_addPlay cX9_addPlay 4 none 0 0 0 [.ref a0, .int p1, .int p2, .int p3] M0 (pV post) := by
  unfold wp_X9_addPlay at hq
  obtain ⟨h0, hq⟩ := hq
  refine Ct.of (by decide) (Nat.le_of_ble_eq_true rfl) ?_
  intro p e s m below meth c ls C hr hlk hn hl hw
  have hx := C.1.1
  have hb := C.1.2.1
  have hl : lv_has ls 4 [(0, .ref a0), (1, .int p1), (2, .int p2), (3, .int p3)] := hl
  refine lv_aload_n hx hb dX9_addPlay_0 rfl (lv_at hl 0 rfl) ?_
  refine lv_dup hx hb dX9_addPlay_1 rfl ?_
  refine gfX9_19 C hw hw.2.2.1 h0 dX9_addPlay_2 ?_
  refine lv_iconst (v := 1) hx hb dX9_addPlay_5 (by decide) ?_
  refine lv_iadd hx hb dX9_addPlay_6 ?_
  refine pfX9_19 C hw hw.2.2.1 h0 dX9_addPlay_7 (fun H locs hw => ?_)
  generalize e4 : uI M0 a0 2 ((mI M0 a0 2) + 1) = M3 at hw
  replace hq := hq M3 e4.symm
  refine lv_iload_n hx hb dX9_addPlay_10 rfl (lv_at hl 1 rfl) ?_
  refine lv_if_eq (tgt := 24) hx hb dX9_addPlay_11 (by decide) (fun c5 => ?_) (fun c5 => ?_)
  · replace hq := hq.1 c5
    exact lt_X9_addPlay_24 C hr hlk hn h0  hq hw (lv_sub hl [0, 1, 2, 3] rfl)
  · replace hq := hq.2 c5
    refine lv_aload_n hx hb dX9_addPlay_14 rfl (lv_at hl 0 rfl) ?_
    refine lv_dup hx hb dX9_addPlay_15 rfl ?_
    refine gfX9_22 C hw hw.2.2.1 h0 dX9_addPlay_16 ?_
    refine lv_iconst (v := 1) hx hb dX9_addPlay_19 (by decide) ?_
    refine lv_iadd hx hb dX9_addPlay_20 ?_
    refine pfX9_22 C hw hw.2.2.1 h0 dX9_addPlay_21 (fun H locs hw => ?_)
    generalize e7 : uI M3 a0 3 ((mI M3 a0 3) + 1) = M6 at hw
    replace hq := hq M6 e7.symm
    exact lt_X9_addPlay_24 C hr hlk hn h0  hq hw (lv_sub hl [0, 1, 2, 3] rfl)

def wp_J6_bitCount_0f7a4 (g : Gh) (M0 : Mem) (p0 : Int32) (post : Int32 → Mem → Prop) : Prop :=
  post ((((((((p0 - (((Int32.toUInt32 p0 >>> (Int32.toUInt32 1 &&& Int32.toUInt32 31)).toInt32) &&& 1431655765)) &&& 858993459) + (((Int32.toUInt32 (p0 - (((Int32.toUInt32 p0 >>> (Int32.toUInt32 1 &&& Int32.toUInt32 31)).toInt32) &&& 1431655765)) >>> (Int32.toUInt32 2 &&& Int32.toUInt32 31)).toInt32) &&& 858993459)) + ((Int32.toUInt32 (((p0 - (((Int32.toUInt32 p0 >>> (Int32.toUInt32 1 &&& Int32.toUInt32 31)).toInt32) &&& 1431655765)) &&& 858993459) + (((Int32.toUInt32 (p0 - (((Int32.toUInt32 p0 >>> (Int32.toUInt32 1 &&& Int32.toUInt32 31)).toInt32) &&& 1431655765)) >>> (Int32.toUInt32 2 &&& Int32.toUInt32 31)).toInt32) &&& 858993459)) >>> (Int32.toUInt32 4 &&& Int32.toUInt32 31)).toInt32)) &&& 252645135) + ((Int32.toUInt32 (((((p0 - (((Int32.toUInt32 p0 >>> (Int32.toUInt32 1 &&& Int32.toUInt32 31)).toInt32) &&& 1431655765)) &&& 858993459) + (((Int32.toUInt32 (p0 - (((Int32.toUInt32 p0 >>> (Int32.toUInt32 1 &&& Int32.toUInt32 31)).toInt32) &&& 1431655765)) >>> (Int32.toUInt32 2 &&& Int32.toUInt32 31)).toInt32) &&& 858993459)) + ((Int32.toUInt32 (((p0 - (((Int32.toUInt32 p0 >>> (Int32.toUInt32 1 &&& Int32.toUInt32 31)).toInt32) &&& 1431655765)) &&& 858993459) + (((Int32.toUInt32 (p0 - (((Int32.toUInt32 p0 >>> (Int32.toUInt32 1 &&& Int32.toUInt32 31)).toInt32) &&& 1431655765)) >>> (Int32.toUInt32 2 &&& Int32.toUInt32 31)).toInt32) &&& 858993459)) >>> (Int32.toUInt32 4 &&& Int32.toUInt32 31)).toInt32)) &&& 252645135) >>> (Int32.toUInt32 8 &&& Int32.toUInt32 31)).toInt32)) + ((Int32.toUInt32 ((((((p0 - (((Int32.toUInt32 p0 >>> (Int32.toUInt32 1 &&& Int32.toUInt32 31)).toInt32) &&& 1431655765)) &&& 858993459) + (((Int32.toUInt32 (p0 - (((Int32.toUInt32 p0 >>> (Int32.toUInt32 1 &&& Int32.toUInt32 31)).toInt32) &&& 1431655765)) >>> (Int32.toUInt32 2 &&& Int32.toUInt32 31)).toInt32) &&& 858993459)) + ((Int32.toUInt32 (((p0 - (((Int32.toUInt32 p0 >>> (Int32.toUInt32 1 &&& Int32.toUInt32 31)).toInt32) &&& 1431655765)) &&& 858993459) + (((Int32.toUInt32 (p0 - (((Int32.toUInt32 p0 >>> (Int32.toUInt32 1 &&& Int32.toUInt32 31)).toInt32) &&& 1431655765)) >>> (Int32.toUInt32 2 &&& Int32.toUInt32 31)).toInt32) &&& 858993459)) >>> (Int32.toUInt32 4 &&& Int32.toUInt32 31)).toInt32)) &&& 252645135) + ((Int32.toUInt32 (((((p0 - (((Int32.toUInt32 p0 >>> (Int32.toUInt32 1 &&& Int32.toUInt32 31)).toInt32) &&& 1431655765)) &&& 858993459) + (((Int32.toUInt32 (p0 - (((Int32.toUInt32 p0 >>> (Int32.toUInt32 1 &&& Int32.toUInt32 31)).toInt32) &&& 1431655765)) >>> (Int32.toUInt32 2 &&& Int32.toUInt32 31)).toInt32) &&& 858993459)) + ((Int32.toUInt32 (((p0 - (((Int32.toUInt32 p0 >>> (Int32.toUInt32 1 &&& Int32.toUInt32 31)).toInt32) &&& 1431655765)) &&& 858993459) + (((Int32.toUInt32 (p0 - (((Int32.toUInt32 p0 >>> (Int32.toUInt32 1 &&& Int32.toUInt32 31)).toInt32) &&& 1431655765)) >>> (Int32.toUInt32 2 &&& Int32.toUInt32 31)).toInt32) &&& 858993459)) >>> (Int32.toUInt32 4 &&& Int32.toUInt32 31)).toInt32)) &&& 252645135) >>> (Int32.toUInt32 8 &&& Int32.toUInt32 31)).toInt32)) >>> (Int32.toUInt32 16 &&& Int32.toUInt32 31)).toInt32)) &&& 63) M0
set_option maxHeartbeats 4000000 in
set_option maxRecDepth 100000 in
theorem ct_J6_bitCount_0f7a4 {l : Launch} {g : Gh} {M0 : Mem} {p0 : Int32} {post : Int32 → Mem → Prop} (hq : wp_J6_bitCount_0f7a4 g M0 p0 post) : Ct l g yJ6_bitCount_0f7a4 cJ6_bitCount_0f7a4 1 (some .int) 0 0 0 [.int p0] M0 (pI post) := by
  unfold wp_J6_bitCount_0f7a4 at hq
  refine Ct.of (by decide) (Nat.le_of_ble_eq_true rfl) ?_
  intro p e s m below meth c ls C hr hlk hn hl hw
  have hx := C.1.1
  have hb := C.1.2.1
  have hl : lv_has ls 1 [(0, .int p0)] := hl
  refine lv_iload_n hx hb dJ6_bitCount_0f7a4_0 rfl (lv_at hl 0 rfl) ?_
  refine lv_iload_n hx hb dJ6_bitCount_0f7a4_1 rfl (lv_at hl 0 rfl) ?_
  refine lv_iconst (v := 1) hx hb dJ6_bitCount_0f7a4_2 (by decide) ?_
  refine lv_iushr (v := ((Int32.toUInt32 p0 >>> (Int32.toUInt32 1 &&& Int32.toUInt32 31)).toInt32)) hx hb dJ6_bitCount_0f7a4_3 rfl ?_
  refine lv_ldcw (v := 1431655765) hx hb C.1.2.2.2.1 (C.1.2.2.2.2 _ w_1057) dJ6_bitCount_0f7a4_4 ?_
  refine lv_iand hx hb dJ6_bitCount_0f7a4_7 ?_
  refine lv_isub hx hb dJ6_bitCount_0f7a4_8 ?_
  refine lv_istore_n (lv' := [(0, .int (p0 - (((Int32.toUInt32 p0 >>> (Int32.toUInt32 1 &&& Int32.toUInt32 31)).toInt32) &&& 1431655765)))]) hx hb dJ6_bitCount_0f7a4_9 rfl hl (by decide) rfl (fun ls hl => ?_)
  refine lv_iload_n hx hb dJ6_bitCount_0f7a4_10 rfl (lv_at hl 0 rfl) ?_
  refine lv_ldcw (v := 858993459) hx hb C.1.2.2.2.1 (C.1.2.2.2.2 _ w_1058) dJ6_bitCount_0f7a4_11 ?_
  refine lv_iand hx hb dJ6_bitCount_0f7a4_14 ?_
  refine lv_iload_n hx hb dJ6_bitCount_0f7a4_15 rfl (lv_at hl 0 rfl) ?_
  refine lv_iconst (v := 2) hx hb dJ6_bitCount_0f7a4_16 (by decide) ?_
  refine lv_iushr (v := ((Int32.toUInt32 (p0 - (((Int32.toUInt32 p0 >>> (Int32.toUInt32 1 &&& Int32.toUInt32 31)).toInt32) &&& 1431655765)) >>> (Int32.toUInt32 2 &&& Int32.toUInt32 31)).toInt32)) hx hb dJ6_bitCount_0f7a4_17 rfl ?_
  refine lv_ldcw (v := 858993459) hx hb C.1.2.2.2.1 (C.1.2.2.2.2 _ w_1058) dJ6_bitCount_0f7a4_18 ?_
  refine lv_iand hx hb dJ6_bitCount_0f7a4_21 ?_
  refine lv_iadd hx hb dJ6_bitCount_0f7a4_22 ?_
  refine lv_istore_n (lv' := [(0, .int (((p0 - (((Int32.toUInt32 p0 >>> (Int32.toUInt32 1 &&& Int32.toUInt32 31)).toInt32) &&& 1431655765)) &&& 858993459) + (((Int32.toUInt32 (p0 - (((Int32.toUInt32 p0 >>> (Int32.toUInt32 1 &&& Int32.toUInt32 31)).toInt32) &&& 1431655765)) >>> (Int32.toUInt32 2 &&& Int32.toUInt32 31)).toInt32) &&& 858993459)))]) hx hb dJ6_bitCount_0f7a4_23 rfl hl (by decide) rfl (fun ls hl => ?_)
  refine lv_iload_n hx hb dJ6_bitCount_0f7a4_24 rfl (lv_at hl 0 rfl) ?_
  refine lv_iload_n hx hb dJ6_bitCount_0f7a4_25 rfl (lv_at hl 0 rfl) ?_
  refine lv_iconst (v := 4) hx hb dJ6_bitCount_0f7a4_26 (by decide) ?_
  refine lv_iushr (v := ((Int32.toUInt32 (((p0 - (((Int32.toUInt32 p0 >>> (Int32.toUInt32 1 &&& Int32.toUInt32 31)).toInt32) &&& 1431655765)) &&& 858993459) + (((Int32.toUInt32 (p0 - (((Int32.toUInt32 p0 >>> (Int32.toUInt32 1 &&& Int32.toUInt32 31)).toInt32) &&& 1431655765)) >>> (Int32.toUInt32 2 &&& Int32.toUInt32 31)).toInt32) &&& 858993459)) >>> (Int32.toUInt32 4 &&& Int32.toUInt32 31)).toInt32)) hx hb dJ6_bitCount_0f7a4_27 rfl ?_
  refine lv_iadd hx hb dJ6_bitCount_0f7a4_28 ?_
  refine lv_ldcw (v := 252645135) hx hb C.1.2.2.2.1 (C.1.2.2.2.2 _ w_1059) dJ6_bitCount_0f7a4_29 ?_
  refine lv_iand hx hb dJ6_bitCount_0f7a4_32 ?_
  refine lv_istore_n (lv' := [(0, .int (((((p0 - (((Int32.toUInt32 p0 >>> (Int32.toUInt32 1 &&& Int32.toUInt32 31)).toInt32) &&& 1431655765)) &&& 858993459) + (((Int32.toUInt32 (p0 - (((Int32.toUInt32 p0 >>> (Int32.toUInt32 1 &&& Int32.toUInt32 31)).toInt32) &&& 1431655765)) >>> (Int32.toUInt32 2 &&& Int32.toUInt32 31)).toInt32) &&& 858993459)) + ((Int32.toUInt32 (((p0 - (((Int32.toUInt32 p0 >>> (Int32.toUInt32 1 &&& Int32.toUInt32 31)).toInt32) &&& 1431655765)) &&& 858993459) + (((Int32.toUInt32 (p0 - (((Int32.toUInt32 p0 >>> (Int32.toUInt32 1 &&& Int32.toUInt32 31)).toInt32) &&& 1431655765)) >>> (Int32.toUInt32 2 &&& Int32.toUInt32 31)).toInt32) &&& 858993459)) >>> (Int32.toUInt32 4 &&& Int32.toUInt32 31)).toInt32)) &&& 252645135))]) hx hb dJ6_bitCount_0f7a4_33 rfl hl (by decide) rfl (fun ls hl => ?_)
  refine lv_iload_n hx hb dJ6_bitCount_0f7a4_34 rfl (lv_at hl 0 rfl) ?_
  refine lv_iload_n hx hb dJ6_bitCount_0f7a4_35 rfl (lv_at hl 0 rfl) ?_
  refine lv_bipush (v := 8) hx hb dJ6_bitCount_0f7a4_36 (by decide) ?_
  refine lv_iushr (v := ((Int32.toUInt32 (((((p0 - (((Int32.toUInt32 p0 >>> (Int32.toUInt32 1 &&& Int32.toUInt32 31)).toInt32) &&& 1431655765)) &&& 858993459) + (((Int32.toUInt32 (p0 - (((Int32.toUInt32 p0 >>> (Int32.toUInt32 1 &&& Int32.toUInt32 31)).toInt32) &&& 1431655765)) >>> (Int32.toUInt32 2 &&& Int32.toUInt32 31)).toInt32) &&& 858993459)) + ((Int32.toUInt32 (((p0 - (((Int32.toUInt32 p0 >>> (Int32.toUInt32 1 &&& Int32.toUInt32 31)).toInt32) &&& 1431655765)) &&& 858993459) + (((Int32.toUInt32 (p0 - (((Int32.toUInt32 p0 >>> (Int32.toUInt32 1 &&& Int32.toUInt32 31)).toInt32) &&& 1431655765)) >>> (Int32.toUInt32 2 &&& Int32.toUInt32 31)).toInt32) &&& 858993459)) >>> (Int32.toUInt32 4 &&& Int32.toUInt32 31)).toInt32)) &&& 252645135) >>> (Int32.toUInt32 8 &&& Int32.toUInt32 31)).toInt32)) hx hb dJ6_bitCount_0f7a4_38 rfl ?_
  refine lv_iadd hx hb dJ6_bitCount_0f7a4_39 ?_
  refine lv_istore_n (lv' := [(0, .int ((((((p0 - (((Int32.toUInt32 p0 >>> (Int32.toUInt32 1 &&& Int32.toUInt32 31)).toInt32) &&& 1431655765)) &&& 858993459) + (((Int32.toUInt32 (p0 - (((Int32.toUInt32 p0 >>> (Int32.toUInt32 1 &&& Int32.toUInt32 31)).toInt32) &&& 1431655765)) >>> (Int32.toUInt32 2 &&& Int32.toUInt32 31)).toInt32) &&& 858993459)) + ((Int32.toUInt32 (((p0 - (((Int32.toUInt32 p0 >>> (Int32.toUInt32 1 &&& Int32.toUInt32 31)).toInt32) &&& 1431655765)) &&& 858993459) + (((Int32.toUInt32 (p0 - (((Int32.toUInt32 p0 >>> (Int32.toUInt32 1 &&& Int32.toUInt32 31)).toInt32) &&& 1431655765)) >>> (Int32.toUInt32 2 &&& Int32.toUInt32 31)).toInt32) &&& 858993459)) >>> (Int32.toUInt32 4 &&& Int32.toUInt32 31)).toInt32)) &&& 252645135) + ((Int32.toUInt32 (((((p0 - (((Int32.toUInt32 p0 >>> (Int32.toUInt32 1 &&& Int32.toUInt32 31)).toInt32) &&& 1431655765)) &&& 858993459) + (((Int32.toUInt32 (p0 - (((Int32.toUInt32 p0 >>> (Int32.toUInt32 1 &&& Int32.toUInt32 31)).toInt32) &&& 1431655765)) >>> (Int32.toUInt32 2 &&& Int32.toUInt32 31)).toInt32) &&& 858993459)) + ((Int32.toUInt32 (((p0 - (((Int32.toUInt32 p0 >>> (Int32.toUInt32 1 &&& Int32.toUInt32 31)).toInt32) &&& 1431655765)) &&& 858993459) + (((Int32.toUInt32 (p0 - (((Int32.toUInt32 p0 >>> (Int32.toUInt32 1 &&& Int32.toUInt32 31)).toInt32) &&& 1431655765)) >>> (Int32.toUInt32 2 &&& Int32.toUInt32 31)).toInt32) &&& 858993459)) >>> (Int32.toUInt32 4 &&& Int32.toUInt32 31)).toInt32)) &&& 252645135) >>> (Int32.toUInt32 8 &&& Int32.toUInt32 31)).toInt32)))]) hx hb dJ6_bitCount_0f7a4_40 rfl hl (by decide) rfl (fun ls hl => ?_)
  refine lv_iload_n hx hb dJ6_bitCount_0f7a4_41 rfl (lv_at hl 0 rfl) ?_
  refine lv_iload_n hx hb dJ6_bitCount_0f7a4_42 rfl (lv_at hl 0 rfl) ?_
  refine lv_bipush (v := 16) hx hb dJ6_bitCount_0f7a4_43 (by decide) ?_
  refine lv_iushr (v := ((Int32.toUInt32 ((((((p0 - (((Int32.toUInt32 p0 >>> (Int32.toUInt32 1 &&& Int32.toUInt32 31)).toInt32) &&& 1431655765)) &&& 858993459) + (((Int32.toUInt32 (p0 - (((Int32.toUInt32 p0 >>> (Int32.toUInt32 1 &&& Int32.toUInt32 31)).toInt32) &&& 1431655765)) >>> (Int32.toUInt32 2 &&& Int32.toUInt32 31)).toInt32) &&& 858993459)) + ((Int32.toUInt32 (((p0 - (((Int32.toUInt32 p0 >>> (Int32.toUInt32 1 &&& Int32.toUInt32 31)).toInt32) &&& 1431655765)) &&& 858993459) + (((Int32.toUInt32 (p0 - (((Int32.toUInt32 p0 >>> (Int32.toUInt32 1 &&& Int32.toUInt32 31)).toInt32) &&& 1431655765)) >>> (Int32.toUInt32 2 &&& Int32.toUInt32 31)).toInt32) &&& 858993459)) >>> (Int32.toUInt32 4 &&& Int32.toUInt32 31)).toInt32)) &&& 252645135) + ((Int32.toUInt32 (((((p0 - (((Int32.toUInt32 p0 >>> (Int32.toUInt32 1 &&& Int32.toUInt32 31)).toInt32) &&& 1431655765)) &&& 858993459) + (((Int32.toUInt32 (p0 - (((Int32.toUInt32 p0 >>> (Int32.toUInt32 1 &&& Int32.toUInt32 31)).toInt32) &&& 1431655765)) >>> (Int32.toUInt32 2 &&& Int32.toUInt32 31)).toInt32) &&& 858993459)) + ((Int32.toUInt32 (((p0 - (((Int32.toUInt32 p0 >>> (Int32.toUInt32 1 &&& Int32.toUInt32 31)).toInt32) &&& 1431655765)) &&& 858993459) + (((Int32.toUInt32 (p0 - (((Int32.toUInt32 p0 >>> (Int32.toUInt32 1 &&& Int32.toUInt32 31)).toInt32) &&& 1431655765)) >>> (Int32.toUInt32 2 &&& Int32.toUInt32 31)).toInt32) &&& 858993459)) >>> (Int32.toUInt32 4 &&& Int32.toUInt32 31)).toInt32)) &&& 252645135) >>> (Int32.toUInt32 8 &&& Int32.toUInt32 31)).toInt32)) >>> (Int32.toUInt32 16 &&& Int32.toUInt32 31)).toInt32)) hx hb dJ6_bitCount_0f7a4_45 rfl ?_
  refine lv_iadd hx hb dJ6_bitCount_0f7a4_46 ?_
  refine lv_istore_n (lv' := [(0, .int (((((((p0 - (((Int32.toUInt32 p0 >>> (Int32.toUInt32 1 &&& Int32.toUInt32 31)).toInt32) &&& 1431655765)) &&& 858993459) + (((Int32.toUInt32 (p0 - (((Int32.toUInt32 p0 >>> (Int32.toUInt32 1 &&& Int32.toUInt32 31)).toInt32) &&& 1431655765)) >>> (Int32.toUInt32 2 &&& Int32.toUInt32 31)).toInt32) &&& 858993459)) + ((Int32.toUInt32 (((p0 - (((Int32.toUInt32 p0 >>> (Int32.toUInt32 1 &&& Int32.toUInt32 31)).toInt32) &&& 1431655765)) &&& 858993459) + (((Int32.toUInt32 (p0 - (((Int32.toUInt32 p0 >>> (Int32.toUInt32 1 &&& Int32.toUInt32 31)).toInt32) &&& 1431655765)) >>> (Int32.toUInt32 2 &&& Int32.toUInt32 31)).toInt32) &&& 858993459)) >>> (Int32.toUInt32 4 &&& Int32.toUInt32 31)).toInt32)) &&& 252645135) + ((Int32.toUInt32 (((((p0 - (((Int32.toUInt32 p0 >>> (Int32.toUInt32 1 &&& Int32.toUInt32 31)).toInt32) &&& 1431655765)) &&& 858993459) + (((Int32.toUInt32 (p0 - (((Int32.toUInt32 p0 >>> (Int32.toUInt32 1 &&& Int32.toUInt32 31)).toInt32) &&& 1431655765)) >>> (Int32.toUInt32 2 &&& Int32.toUInt32 31)).toInt32) &&& 858993459)) + ((Int32.toUInt32 (((p0 - (((Int32.toUInt32 p0 >>> (Int32.toUInt32 1 &&& Int32.toUInt32 31)).toInt32) &&& 1431655765)) &&& 858993459) + (((Int32.toUInt32 (p0 - (((Int32.toUInt32 p0 >>> (Int32.toUInt32 1 &&& Int32.toUInt32 31)).toInt32) &&& 1431655765)) >>> (Int32.toUInt32 2 &&& Int32.toUInt32 31)).toInt32) &&& 858993459)) >>> (Int32.toUInt32 4 &&& Int32.toUInt32 31)).toInt32)) &&& 252645135) >>> (Int32.toUInt32 8 &&& Int32.toUInt32 31)).toInt32)) + ((Int32.toUInt32 ((((((p0 - (((Int32.toUInt32 p0 >>> (Int32.toUInt32 1 &&& Int32.toUInt32 31)).toInt32) &&& 1431655765)) &&& 858993459) + (((Int32.toUInt32 (p0 - (((Int32.toUInt32 p0 >>> (Int32.toUInt32 1 &&& Int32.toUInt32 31)).toInt32) &&& 1431655765)) >>> (Int32.toUInt32 2 &&& Int32.toUInt32 31)).toInt32) &&& 858993459)) + ((Int32.toUInt32 (((p0 - (((Int32.toUInt32 p0 >>> (Int32.toUInt32 1 &&& Int32.toUInt32 31)).toInt32) &&& 1431655765)) &&& 858993459) + (((Int32.toUInt32 (p0 - (((Int32.toUInt32 p0 >>> (Int32.toUInt32 1 &&& Int32.toUInt32 31)).toInt32) &&& 1431655765)) >>> (Int32.toUInt32 2 &&& Int32.toUInt32 31)).toInt32) &&& 858993459)) >>> (Int32.toUInt32 4 &&& Int32.toUInt32 31)).toInt32)) &&& 252645135) + ((Int32.toUInt32 (((((p0 - (((Int32.toUInt32 p0 >>> (Int32.toUInt32 1 &&& Int32.toUInt32 31)).toInt32) &&& 1431655765)) &&& 858993459) + (((Int32.toUInt32 (p0 - (((Int32.toUInt32 p0 >>> (Int32.toUInt32 1 &&& Int32.toUInt32 31)).toInt32) &&& 1431655765)) >>> (Int32.toUInt32 2 &&& Int32.toUInt32 31)).toInt32) &&& 858993459)) + ((Int32.toUInt32 (((p0 - (((Int32.toUInt32 p0 >>> (Int32.toUInt32 1 &&& Int32.toUInt32 31)).toInt32) &&& 1431655765)) &&& 858993459) + (((Int32.toUInt32 (p0 - (((Int32.toUInt32 p0 >>> (Int32.toUInt32 1 &&& Int32.toUInt32 31)).toInt32) &&& 1431655765)) >>> (Int32.toUInt32 2 &&& Int32.toUInt32 31)).toInt32) &&& 858993459)) >>> (Int32.toUInt32 4 &&& Int32.toUInt32 31)).toInt32)) &&& 252645135) >>> (Int32.toUInt32 8 &&& Int32.toUInt32 31)).toInt32)) >>> (Int32.toUInt32 16 &&& Int32.toUInt32 31)).toInt32)))]) hx hb dJ6_bitCount_0f7a4_47 rfl hl (by decide) rfl (fun ls hl => ?_)
  refine lv_iload_n hx hb dJ6_bitCount_0f7a4_48 rfl (lv_at hl 0 rfl) ?_
  refine lv_bipush (v := 63) hx hb dJ6_bitCount_0f7a4_49 (by decide) ?_
  refine lv_iand hx hb dJ6_bitCount_0f7a4_51 ?_
  exact r_iret C hr hlk hw dJ6_bitCount_0f7a4_52 (by decide) (by decide) ⟨_, rfl, hq⟩

def wp_X9_tell (g : Gh) (M0 : Mem) (a0 : Nat) (p1 : Int32) (post : Int32 → Mem → Prop) : Prop :=
  okc (gB g) M0 a0 9 ∧ (((p1 = 0) → post (mI M0 a0 0) M0) ∧ ((p1 = 1) → post (mI M0 a0 2) M0) ∧ ((p1 = 2) → post (mI M0 a0 3) M0) ∧ ((p1 = 3) → wp_X9_hard g M0 a0 (fun v2 M3 => post v2 M3)) ∧ ((p1 = 4) → (((mI M0 a0 4) = 0) → post 0 M0) ∧ (¬ ((mI M0 a0 4) = 0) → post 1 M0)) ∧ ((p1 = 5) → wp_J6_bitCount_0f7a4 g M0 (mI M0 a0 5) (fun v5 M6 => post v5 M6)) ∧ ((¬ (p1 = 0) ∧ ¬ (p1 = 1) ∧ ¬ (p1 = 2) ∧ ¬ (p1 = 3) ∧ ¬ (p1 = 4) ∧ ¬ (p1 = 5)) → post (-1) M0))
set_option maxHeartbeats 4000000 in
set_option maxRecDepth 100000 in
theorem ct_X9_tell {l : Launch} {g : Gh} {M0 : Mem} {a0 : Nat} {p1 : Int32} {post : Int32 → Mem → Prop} (hq : wp_X9_tell g M0 a0 p1 post) : Ct l g yX9_tell cX9_tell 2 (some .int) 1 0 0 [.ref a0, .int p1] M0 (pI post) := by
  unfold wp_X9_tell at hq
  obtain ⟨h0, hq⟩ := hq
  refine Ct.of (by decide) (Nat.le_of_ble_eq_true rfl) ?_
  intro p e s m below meth c ls C hr hlk hn hl hw
  have hx := C.1.1
  have hb := C.1.2.1
  have hl : lv_has ls 2 [(0, .ref a0), (1, .int p1)] := hl
  refine lv_iload_n hx hb dX9_tell_0 rfl (lv_at hl 1 rfl) ?_
  by_cases c7 : p1 = 0
  · refine r_table (v := 0) (off := 39) (tgt := 40) hx hb dX9_tell_1 c7 (by decide) (by decide) rfl (by decide) ?_
    replace hq := hq.1 c7
    refine lv_aload_n hx hb dX9_tell_40 rfl (lv_at hl 0 rfl) ?_
    refine gfX9_9 C hw hw.2.2.1 h0 dX9_tell_41 ?_
    exact r_iret C hr hlk hw dX9_tell_44 (by decide) (by decide) ⟨_, rfl, hq⟩
  by_cases c8 : p1 = 1
  · refine r_table (v := 1) (off := 44) (tgt := 45) hx hb dX9_tell_1 c8 (by decide) (by decide) rfl (by decide) ?_
    replace hq := hq.2.1 c8
    refine lv_aload_n hx hb dX9_tell_45 rfl (lv_at hl 0 rfl) ?_
    refine gfX9_19 C hw hw.2.2.1 h0 dX9_tell_46 ?_
    exact r_iret C hr hlk hw dX9_tell_49 (by decide) (by decide) ⟨_, rfl, hq⟩
  by_cases c9 : p1 = 2
  · refine r_table (v := 2) (off := 49) (tgt := 50) hx hb dX9_tell_1 c9 (by decide) (by decide) rfl (by decide) ?_
    replace hq := hq.2.2.1 c9
    refine lv_aload_n hx hb dX9_tell_50 rfl (lv_at hl 0 rfl) ?_
    refine gfX9_22 C hw hw.2.2.1 h0 dX9_tell_51 ?_
    exact r_iret C hr hlk hw dX9_tell_54 (by decide) (by decide) ⟨_, rfl, hq⟩
  by_cases c10 : p1 = 3
  · refine r_table (v := 3) (off := 54) (tgt := 55) hx hb dX9_tell_1 c10 (by decide) (by decide) rfl (by decide) ?_
    replace hq := hq.2.2.2.1 c10
    refine lv_aload_n hx hb dX9_tell_55 rfl (lv_at hl 0 rfl) ?_
    refine r_callV (T := TX9) (N := 6) (ci := 9) (index := 36) (n := 0) (d2 := 0) (mc := 0) (ms := 0) (As := []) (rest := []) C hw (ct_X9_hard hq) kvX9_36 hq.1 (by decide) rfl ⟨by decide, by decide⟩ ⟨by decide, by decide⟩ rfl hl.1 rfl (Nat.le_of_ble_eq_true rfl) dX9_tell_56 (fun r M3 H locs hp hle hw => ?_)
    obtain ⟨v2, rfl, hq⟩ := hp
    refine W.eq (g2 := F0 m 59 ls [.int v2]) rfl ?_
    exact r_iret C hr hlk hw dX9_tell_59 (by decide) (by decide) ⟨_, rfl, hq⟩
  by_cases c11 : p1 = 4
  · refine r_table (v := 4) (off := 59) (tgt := 60) hx hb dX9_tell_1 c11 (by decide) (by decide) rfl (by decide) ?_
    replace hq := hq.2.2.2.2.1 c11
    refine lv_aload_n hx hb dX9_tell_60 rfl (lv_at hl 0 rfl) ?_
    refine gfX9_28 C hw hw.2.2.1 h0 dX9_tell_61 ?_
    refine lv_if_eq (tgt := 71) hx hb dX9_tell_64 (by decide) (fun c4 => ?_) (fun c4 => ?_)
    · replace hq := hq.1 c4
      refine lv_iconst (v := 0) hx hb dX9_tell_71 (by decide) ?_
      exact r_iret C hr hlk hw dX9_tell_72 (by decide) (by decide) ⟨_, rfl, hq⟩
    · replace hq := hq.2 c4
      refine lv_iconst (v := 1) hx hb dX9_tell_67 (by decide) ?_
      refine lv_goto (tgt := 72) hx hb dX9_tell_68 (by decide) ?_
      exact r_iret C hr hlk hw dX9_tell_72 (by decide) (by decide) ⟨_, rfl, hq⟩
  by_cases c12 : p1 = 5
  · refine r_table (v := 5) (off := 72) (tgt := 73) hx hb dX9_tell_1 c12 (by decide) (by decide) rfl (by decide) ?_
    replace hq := hq.2.2.2.2.2.1 c12
    refine lv_aload_n hx hb dX9_tell_73 rfl (lv_at hl 0 rfl) ?_
    refine gfX9_25 C hw hw.2.2.1 h0 dX9_tell_74 ?_
    refine r_callS (index := 40) (n := 1) (d2 := 0) (mc := 0) (ms := 0) (As := [.int (mI M0 a0 5)]) (rest := []) C hw (ct_J6_bitCount_0f7a4 hq) ksX9_40 ⟨by decide, by decide⟩ ⟨by decide, by decide⟩ rfl hl.1 rfl (Nat.le_of_ble_eq_true rfl) dX9_tell_77 (fun r M6 H locs hp hle hw => ?_)
    obtain ⟨v5, rfl, hq⟩ := hp
    refine W.eq (g2 := F0 m 80 ls [.int v5]) rfl ?_
    exact r_iret C hr hlk hw dX9_tell_80 (by decide) (by decide) ⟨_, rfl, hq⟩
  refine r_tableOut (tgt := 81) (k := 5) hx hb dX9_tell_1 (by decide) (fun j hj => by rcases (show j = 0 ∨ j = 1 ∨ j = 2 ∨ j = 3 ∨ j = 4 ∨ j = 5 by omega) with rfl | rfl | rfl | rfl | rfl | rfl <;> assumption) (by decide) ?_
  replace hq := hq.2.2.2.2.2.2 ⟨c7, c8, c9, c10, c11, c12⟩
  refine lv_iconst (v := (-1)) hx hb dX9_tell_81 (by decide) ?_
  exact r_iret C hr hlk hw dX9_tell_82 (by decide) (by decide) ⟨_, rfl, hq⟩

def wp_X10_hasRoomFor (g : Gh) (M0 : Mem) (a0 : Nat) (p1 : Int32) (post : Int32 → Mem → Prop) : Prop :=
  okc (gB g) M0 a0 10 ∧ (((260 < ((mI M0 a0 1) + p1)) → post 0 M0) ∧ (¬ (260 < ((mI M0 a0 1) + p1)) → post 1 M0))
set_option maxHeartbeats 4000000 in
set_option maxRecDepth 100000 in
theorem ct_X10_hasRoomFor {l : Launch} {g : Gh} {M0 : Mem} {a0 : Nat} {p1 : Int32} {post : Int32 → Mem → Prop} (hq : wp_X10_hasRoomFor g M0 a0 p1 post) : Ct l g yX10_hasRoomFor cX10_hasRoomFor 2 (some .boolean) 0 0 0 [.ref a0, .int p1] M0 (pI post) := by
  unfold wp_X10_hasRoomFor at hq
  obtain ⟨h0, hq⟩ := hq
  refine Ct.of (by decide) (Nat.le_of_ble_eq_true rfl) ?_
  intro p e s m below meth c ls C hr hlk hn hl hw
  have hx := C.1.1
  have hb := C.1.2.1
  have hl : lv_has ls 2 [(0, .ref a0), (1, .int p1)] := hl
  refine lv_aload_n hx hb dX10_hasRoomFor_0 rfl (lv_at hl 0 rfl) ?_
  refine gfX10_15 C hw hw.2.2.1 h0 dX10_hasRoomFor_1 ?_
  refine lv_iload_n hx hb dX10_hasRoomFor_4 rfl (lv_at hl 1 rfl) ?_
  refine lv_iadd hx hb dX10_hasRoomFor_5 ?_
  refine lv_sipush (v := 260) hx hb dX10_hasRoomFor_6 (by decide) ?_
  refine lv_icmp_gt (tgt := 16) hx hb dX10_hasRoomFor_9 (by decide) (fun c1 => ?_) (fun c1 => ?_)
  · replace hq := hq.1 c1
    refine lv_iconst (v := 0) hx hb dX10_hasRoomFor_16 (by decide) ?_
    exact r_zret C hr hlk hw dX10_hasRoomFor_17 (by decide) (by decide) (by decide) ⟨_, rfl, hq⟩
  · replace hq := hq.2 c1
    refine lv_iconst (v := 1) hx hb dX10_hasRoomFor_12 (by decide) ?_
    refine lv_goto (tgt := 17) hx hb dX10_hasRoomFor_13 (by decide) ?_
    exact r_zret C hr hlk hw dX10_hasRoomFor_17 (by decide) (by decide) (by decide) ⟨_, rfl, hq⟩

def bd_X10_addNumber_3 (g : Gh) (M0 : Mem) (a0 : Nat) (p1 : Int32) (post : Mem → Prop)  (bk3 : Int32 × Mem → Prop) (x2 : Int32)  (M : Mem) : Prop :=
  ((x2 < 0) → post M) ∧ (¬ (x2 < 0) → ((260 ≤ (mI M a0 1)) → post M) ∧ (¬ (260 ≤ (mI M a0 1)) → ∃ q3, mR M a0 0 = some q3 ∧ (okc (gB g) M0 q3 16 ∧ (vp_in (mI M a0 1) (mN M0 q3) ∧ (∀ M7, M7 = uI M q3 (Int32.toNatClampNeg (mI M a0 1)) (vp_nar .short ((Int32.toInt16 (((Int32.toUInt32 p1 >>> (Int32.toUInt32 x2 &&& Int32.toUInt32 31)).toInt32) &&& 255)).toInt32)) → (∀ M9, M9 = uI M7 a0 1 ((mI M7 a0 1) + 1) → (bk3 ((x2 + (-8)), M9))))))))
def wp_X10_addNumber (g : Gh) (M0 : Mem) (a0 : Nat) (p1 : Int32) (post : Mem → Prop) : Prop :=
  okc (gB g) M0 a0 10 ∧ ((∃ n : Nat, lfp (fun bk z => bd_X10_addNumber_3 g M0 a0 p1 post  bk z.1 z.2) n (24, M0)))
set_option maxHeartbeats 4000000 in
set_option maxRecDepth 100000 in
theorem lp_X10_addNumber_3 {l : Launch} {g : Gh} {p : Program} {e : Env} {s : State} {m : MethodId} {args : Array Value} {below : List Frame} {meth : Method} {c : Code} {M0 : Mem} {a0 : Nat} {p1 : Int32} {post : Mem → Prop} (C : Cx g p s m args c cX10_addNumber 3 RX10) (hr : meth.sig.returnType = none) (hlk : meth.locks = false) (hn : meth.name = "addNumber") (h0 : okc (gB g) M0 a0 10)  : ∀ (nf : Nat) (x2 : Int32)  (M : Mem) (H : Heap) (locs : List Loc) (ls : Array Slot), lfp (fun bk z => bd_X10_addNumber_3 g M0 a0 p1 post  bk z.1 z.2) nf (x2, M) → Wd g s M0 M H locs → lv_has ls 3 [(0, .ref a0), (1, .int p1), (2, .int x2)] → W p l e (rmo 0 0 0) s m args below meth c H locs 0 0 (MQ below (Cq g M0 (pV post)) args s 0 0 (gA g)) (F0 m 3 ls []) := by
  have hx := C.1.1
  have hb := C.1.2.1
  intro nf
  induction nf with
  | zero => intro _ _ H locs ls hq; exact hq.elim
  | succ nf hk3 =>
    intro x2 M H locs ls hq hw hl
    replace hq : bd_X10_addNumber_3 g M0 a0 p1 post  (lfp (fun bk z => bd_X10_addNumber_3 g M0 a0 p1 post  bk z.1 z.2) nf) x2 M := hq
    unfold bd_X10_addNumber_3 at hq
    refine lv_iload_n hx hb dX10_addNumber_3 rfl (lv_at hl 2 rfl) ?_
    refine lv_if_lt (tgt := 50) hx hb dX10_addNumber_4 (by decide) (fun c1 => ?_) (fun c1 => ?_)
    · replace hq := hq.1 c1
      exact r_vret C hr hlk hw dX10_addNumber_50 (by decide) (by decide) ⟨rfl, hq⟩
    · replace hq := hq.2 c1
      refine lv_aload_n hx hb dX10_addNumber_7 rfl (lv_at hl 0 rfl) ?_
      refine gfX10_15 C hw hw.2.2.1 h0 dX10_addNumber_8 ?_
      refine lv_sipush (v := 260) hx hb dX10_addNumber_11 (by decide) ?_
      refine lv_icmp_ge (tgt := 50) hx hb dX10_addNumber_14 (by decide) (fun c2 => ?_) (fun c2 => ?_)
      · replace hq := hq.1 c2
        exact r_vret C hr hlk hw dX10_addNumber_50 (by decide) (by decide) ⟨rfl, hq⟩
      · replace hq := hq.2 c2
        refine lv_aload_n hx hb dX10_addNumber_17 rfl (lv_at hl 0 rfl) ?_
        obtain ⟨q3, e4, hq⟩ := hq
        refine gfX10_11 C hw hw.2.2.1 h0 e4 dX10_addNumber_18 ?_
        refine lv_aload_n hx hb dX10_addNumber_21 rfl (lv_at hl 0 rfl) ?_
        refine gfX10_15 C hw hw.2.2.1 h0 dX10_addNumber_22 ?_
        refine lv_iload_n hx hb dX10_addNumber_25 rfl (lv_at hl 1 rfl) ?_
        refine lv_iload_n hx hb dX10_addNumber_26 rfl (lv_at hl 2 rfl) ?_
        refine lv_iushr (v := ((Int32.toUInt32 p1 >>> (Int32.toUInt32 x2 &&& Int32.toUInt32 31)).toInt32)) hx hb dX10_addNumber_27 rfl ?_
        refine lv_sipush (v := 255) hx hb dX10_addNumber_28 (by decide) ?_
        refine lv_iand hx hb dX10_addNumber_31 ?_
        refine lv_i2s (v := ((Int32.toInt16 (((Int32.toUInt32 p1 >>> (Int32.toUInt32 x2 &&& Int32.toUInt32 31)).toInt32) &&& 255)).toInt32)) hx hb dX10_addNumber_32 rfl ?_
        obtain ⟨h5, hq⟩ := hq
        obtain ⟨h6, hq⟩ := hq
        refine q_sast C hw hw.2.2.1 h5 h6 dX10_addNumber_33 (fun H locs hw => ?_)
        generalize e8 : uI M q3 (Int32.toNatClampNeg (mI M a0 1)) (vp_nar .short ((Int32.toInt16 (((Int32.toUInt32 p1 >>> (Int32.toUInt32 x2 &&& Int32.toUInt32 31)).toInt32) &&& 255)).toInt32)) = M7 at hw
        replace hq := hq M7 e8.symm
        have e4 : mR M7 a0 0 = some q3 := by rw [← e8, mR_uI]; exact e4
        refine lv_aload_n hx hb dX10_addNumber_34 rfl (lv_at hl 0 rfl) ?_
        refine lv_dup hx hb dX10_addNumber_35 rfl ?_
        refine gfX10_15 C hw hw.2.2.1 h0 dX10_addNumber_36 ?_
        refine lv_iconst (v := 1) hx hb dX10_addNumber_39 (by decide) ?_
        refine lv_iadd hx hb dX10_addNumber_40 ?_
        refine pfX10_15 C hw hw.2.2.1 h0 dX10_addNumber_41 (fun H locs hw => ?_)
        generalize e10 : uI M7 a0 1 ((mI M7 a0 1) + 1) = M9 at hw
        replace hq := hq M9 e10.symm
        have e4 : mR M9 a0 0 = some q3 := by rw [← e10, mR_uI]; exact e4
        refine lv_iinc (v := (x2 + (-8))) (lv' := [(2, .int (x2 + (-8))), (0, .ref a0), (1, .int p1)]) hx hb dX10_addNumber_44 hl (k := 2) rfl rfl (by decide) rfl (fun ls hl => ?_)
        refine lv_goto (tgt := 3) hx hb dX10_addNumber_47 (by decide) ?_
        exact hk3 _ _ _ _ _ hq hw (lv_sub hl [1, 2, 0] rfl)
set_option maxHeartbeats 4000000 in
set_option maxRecDepth 100000 in
theorem ct_X10_addNumber {l : Launch} {g : Gh} {M0 : Mem} {a0 : Nat} {p1 : Int32} {post : Mem → Prop} (hq : wp_X10_addNumber g M0 a0 p1 post) : Ct l g yX10_addNumber cX10_addNumber 3 none 0 0 0 [.ref a0, .int p1] M0 (pV post) := by
  unfold wp_X10_addNumber at hq
  obtain ⟨h0, hq⟩ := hq
  refine Ct.of (by decide) (Nat.le_of_ble_eq_true rfl) ?_
  intro p e s m below meth c ls C hr hlk hn hl hw
  have hx := C.1.1
  have hb := C.1.2.1
  have hl : lv_has ls 3 [(0, .ref a0), (1, .int p1)] := hl
  refine lv_bipush (v := 24) hx hb dX10_addNumber_0 (by decide) ?_
  refine lv_istore_n (lv' := [(2, .int 24), (0, .ref a0), (1, .int p1)]) hx hb dX10_addNumber_2 rfl hl (by decide) rfl (fun ls hl => ?_)
  obtain ⟨nf, hq⟩ := hq
  exact lp_X10_addNumber_3 C hr hlk hn h0  nf _ _ _ _ _ hq hw (lv_sub hl [1, 2, 0] rfl)

def wp_X10_cutTo (g : Gh) (M0 : Mem) (a0 : Nat) (p1 : Int32) (post : Int32 → Mem → Prop) : Prop :=
  okc (gB g) M0 a0 10 ∧ (((p1 < 0) → post 0 M0) ∧ (¬ (p1 < 0) → ((p1 ≤ (mI M0 a0 1)) → ∀ M3, M3 = uI M0 a0 1 p1 → (post 1 M3)) ∧ (¬ (p1 ≤ (mI M0 a0 1)) → post 0 M0)))
set_option maxHeartbeats 4000000 in
set_option maxRecDepth 100000 in
theorem ct_X10_cutTo {l : Launch} {g : Gh} {M0 : Mem} {a0 : Nat} {p1 : Int32} {post : Int32 → Mem → Prop} (hq : wp_X10_cutTo g M0 a0 p1 post) : Ct l g yX10_cutTo cX10_cutTo 2 (some .boolean) 0 0 0 [.ref a0, .int p1] M0 (pI post) := by
  unfold wp_X10_cutTo at hq
  obtain ⟨h0, hq⟩ := hq
  refine Ct.of (by decide) (Nat.le_of_ble_eq_true rfl) ?_
  intro p e s m below meth c ls C hr hlk hn hl hw
  have hx := C.1.1
  have hb := C.1.2.1
  have hl : lv_has ls 2 [(0, .ref a0), (1, .int p1)] := hl
  refine lv_iload_n hx hb dX10_cutTo_0 rfl (lv_at hl 1 rfl) ?_
  refine lv_if_lt (tgt := 12) hx hb dX10_cutTo_1 (by decide) (fun c1 => ?_) (fun c1 => ?_)
  · replace hq := hq.1 c1
    refine lv_iconst (v := 0) hx hb dX10_cutTo_12 (by decide) ?_
    exact r_zret C hr hlk hw dX10_cutTo_13 (by decide) (by decide) (by decide) ⟨_, rfl, hq⟩
  · replace hq := hq.2 c1
    refine lv_iload_n hx hb dX10_cutTo_4 rfl (lv_at hl 1 rfl) ?_
    refine lv_aload_n hx hb dX10_cutTo_5 rfl (lv_at hl 0 rfl) ?_
    refine gfX10_15 C hw hw.2.2.1 h0 dX10_cutTo_6 ?_
    refine lv_icmp_le (tgt := 14) hx hb dX10_cutTo_9 (by decide) (fun c2 => ?_) (fun c2 => ?_)
    · replace hq := hq.1 c2
      refine lv_aload_n hx hb dX10_cutTo_14 rfl (lv_at hl 0 rfl) ?_
      refine lv_iload_n hx hb dX10_cutTo_15 rfl (lv_at hl 1 rfl) ?_
      refine pfX10_15 C hw hw.2.2.1 h0 dX10_cutTo_16 (fun H locs hw => ?_)
      generalize e4 : uI M0 a0 1 p1 = M3 at hw
      replace hq := hq M3 e4.symm
      refine lv_iconst (v := 1) hx hb dX10_cutTo_19 (by decide) ?_
      exact r_zret C hr hlk hw dX10_cutTo_20 (by decide) (by decide) (by decide) ⟨_, rfl, hq⟩
    · replace hq := hq.2 c2
      refine lv_iconst (v := 0) hx hb dX10_cutTo_12 (by decide) ?_
      exact r_zret C hr hlk hw dX10_cutTo_13 (by decide) (by decide) (by decide) ⟨_, rfl, hq⟩

def wp_X10_wipe (g : Gh) (M0 : Mem) (a0 : Nat) (post : Mem → Prop) : Prop :=
  okc (gB g) M0 a0 10 ∧ (∀ M1, M1 = uI M0 a0 1 0 → (post M1))
set_option maxHeartbeats 4000000 in
set_option maxRecDepth 100000 in
theorem ct_X10_wipe {l : Launch} {g : Gh} {M0 : Mem} {a0 : Nat} {post : Mem → Prop} (hq : wp_X10_wipe g M0 a0 post) : Ct l g yX10_wipe cX10_wipe 1 none 0 0 0 [.ref a0] M0 (pV post) := by
  unfold wp_X10_wipe at hq
  obtain ⟨h0, hq⟩ := hq
  refine Ct.of (by decide) (Nat.le_of_ble_eq_true rfl) ?_
  intro p e s m below meth c ls C hr hlk hn hl hw
  have hx := C.1.1
  have hb := C.1.2.1
  have hl : lv_has ls 1 [(0, .ref a0)] := hl
  refine lv_aload_n hx hb dX10_wipe_0 rfl (lv_at hl 0 rfl) ?_
  refine lv_iconst (v := 0) hx hb dX10_wipe_1 (by decide) ?_
  refine pfX10_15 C hw hw.2.2.1 h0 dX10_wipe_2 (fun H locs hw => ?_)
  generalize e2 : uI M0 a0 1 0 = M1 at hw
  replace hq := hq M1 e2.symm
  exact r_vret C hr hlk hw dX10_wipe_5 (by decide) (by decide) ⟨rfl, hq⟩

def wp_X11_feed (g : Gh) (M0 : Mem) (a0 : Nat) (p1 : Int32) (p2 : Int32) (p3 : Int32) (p4 : Int32) (p5 : Int32) (post : Int32 → Mem → Prop) : Prop :=
  okc (gB g) M0 a0 11 ∧ (∃ q1, mR M0 a0 0 = some q1 ∧ (wp_X10_hasRoomFor g M0 q1 20 (fun v3 M4 => ((v3 = 0) → post (-1) M4) ∧ (¬ (v3 = 0) → ∃ q6, mR M4 a0 0 = some q6 ∧ (wp_X10_addNumber g M4 q6 p1 (fun M9 => ∃ q10, mR M9 a0 0 = some q10 ∧ (wp_X10_addNumber g M9 q10 p2 (fun M13 => ∃ q14, mR M13 a0 0 = some q14 ∧ (wp_X10_addNumber g M13 q14 p3 (fun M17 => ∃ q18, mR M17 a0 0 = some q18 ∧ (wp_X10_addNumber g M17 q18 p4 (fun M21 => ∃ q22, mR M21 a0 0 = some q22 ∧ (wp_X10_addNumber g M21 q22 p5 (fun M25 => ∃ q26, mR M25 a0 0 = some q26 ∧ (okc (gB g) M0 q26 10 ∧ (post (mI M25 q26 1) M25))))))))))))))))
set_option maxHeartbeats 4000000 in
set_option maxRecDepth 100000 in
theorem ct_X11_feed {l : Launch} {g : Gh} {M0 : Mem} {a0 : Nat} {p1 : Int32} {p2 : Int32} {p3 : Int32} {p4 : Int32} {p5 : Int32} {post : Int32 → Mem → Prop} (hq : wp_X11_feed g M0 a0 p1 p2 p3 p4 p5 post) : Ct l g yX11_feed cX11_feed 6 (some .int) 1 0 0 [.ref a0, .int p1, .int p2, .int p3, .int p4, .int p5] M0 (pI post) := by
  unfold wp_X11_feed at hq
  obtain ⟨h0, hq⟩ := hq
  refine Ct.of (by decide) (Nat.le_of_ble_eq_true rfl) ?_
  intro p e s m below meth c ls C hr hlk hn hl hw
  have hx := C.1.1
  have hb := C.1.2.1
  have hl : lv_has ls 6 [(0, .ref a0), (1, .int p1), (2, .int p2), (3, .int p3), (4, .int p4), (5, .int p5)] := hl
  refine lv_aload_n hx hb dX11_feed_0 rfl (lv_at hl 0 rfl) ?_
  obtain ⟨q1, e2, hq⟩ := hq
  refine gfX11_10 C hw hw.2.2.1 h0 e2 dX11_feed_1 ?_
  refine lv_bipush (v := 20) hx hb dX11_feed_4 (by decide) ?_
  refine r_callV (T := TX10) (N := 6) (ci := 10) (index := 76) (n := 1) (d2 := 0) (mc := 0) (ms := 0) (As := [.int 20]) (rest := []) C hw (ct_X10_hasRoomFor hq) kvX11_76 hq.1 (by decide) rfl ⟨by decide, by decide⟩ ⟨by decide, by decide⟩ rfl hl.1 rfl (Nat.le_of_ble_eq_true rfl) dX11_feed_6 (fun r M4 H locs hp hle hw => ?_)
  obtain ⟨v3, rfl, hq⟩ := hp
  refine W.eq (g2 := F0 m 9 ls [.int v3]) rfl ?_
  refine lv_if_ne (tgt := 14) hx hb dX11_feed_9 (by decide) (fun c5 => ?_) (fun c5 => ?_)
  · replace hq := hq.2 c5
    refine lv_aload_n hx hb dX11_feed_14 rfl (lv_at hl 0 rfl) ?_
    obtain ⟨q6, e7, hq⟩ := hq
    refine gfX11_10 C hw hw.2.2.1 h0 e7 dX11_feed_15 ?_
    refine lv_iload_n hx hb dX11_feed_18 rfl (lv_at hl 1 rfl) ?_
    refine r_callV (T := TX10) (N := 6) (ci := 10) (index := 80) (n := 1) (d2 := 0) (mc := 0) (ms := 0) (As := [.int p1]) (rest := []) C hw (ct_X10_addNumber hq) kvX11_80 hq.1 (by decide) rfl ⟨by decide, by decide⟩ ⟨by decide, by decide⟩ rfl hl.1 rfl (Nat.le_of_ble_eq_true rfl) dX11_feed_19 (fun r M9 H locs hp hle hw => ?_)
    obtain ⟨rfl, hq⟩ := hp
    refine W.eq (g2 := F0 m 22 ls []) rfl ?_
    refine lv_aload_n hx hb dX11_feed_22 rfl (lv_at hl 0 rfl) ?_
    obtain ⟨q10, e11, hq⟩ := hq
    refine gfX11_10 C hw hw.2.2.1 h0 e11 dX11_feed_23 ?_
    refine lv_iload_n hx hb dX11_feed_26 rfl (lv_at hl 2 rfl) ?_
    refine r_callV (T := TX10) (N := 6) (ci := 10) (index := 80) (n := 1) (d2 := 0) (mc := 0) (ms := 0) (As := [.int p2]) (rest := []) C hw (ct_X10_addNumber hq) kvX11_80 hq.1 (by decide) rfl ⟨by decide, by decide⟩ ⟨by decide, by decide⟩ rfl hl.1 rfl (Nat.le_of_ble_eq_true rfl) dX11_feed_27 (fun r M13 H locs hp hle hw => ?_)
    obtain ⟨rfl, hq⟩ := hp
    refine W.eq (g2 := F0 m 30 ls []) rfl ?_
    refine lv_aload_n hx hb dX11_feed_30 rfl (lv_at hl 0 rfl) ?_
    obtain ⟨q14, e15, hq⟩ := hq
    refine gfX11_10 C hw hw.2.2.1 h0 e15 dX11_feed_31 ?_
    refine lv_iload_n hx hb dX11_feed_34 rfl (lv_at hl 3 rfl) ?_
    refine r_callV (T := TX10) (N := 6) (ci := 10) (index := 80) (n := 1) (d2 := 0) (mc := 0) (ms := 0) (As := [.int p3]) (rest := []) C hw (ct_X10_addNumber hq) kvX11_80 hq.1 (by decide) rfl ⟨by decide, by decide⟩ ⟨by decide, by decide⟩ rfl hl.1 rfl (Nat.le_of_ble_eq_true rfl) dX11_feed_35 (fun r M17 H locs hp hle hw => ?_)
    obtain ⟨rfl, hq⟩ := hp
    refine W.eq (g2 := F0 m 38 ls []) rfl ?_
    refine lv_aload_n hx hb dX11_feed_38 rfl (lv_at hl 0 rfl) ?_
    obtain ⟨q18, e19, hq⟩ := hq
    refine gfX11_10 C hw hw.2.2.1 h0 e19 dX11_feed_39 ?_
    refine lv_iload hx hb dX11_feed_42 (lv_at hl 4 rfl) ?_
    refine r_callV (T := TX10) (N := 6) (ci := 10) (index := 80) (n := 1) (d2 := 0) (mc := 0) (ms := 0) (As := [.int p4]) (rest := []) C hw (ct_X10_addNumber hq) kvX11_80 hq.1 (by decide) rfl ⟨by decide, by decide⟩ ⟨by decide, by decide⟩ rfl hl.1 rfl (Nat.le_of_ble_eq_true rfl) dX11_feed_44 (fun r M21 H locs hp hle hw => ?_)
    obtain ⟨rfl, hq⟩ := hp
    refine W.eq (g2 := F0 m 47 ls []) rfl ?_
    refine lv_aload_n hx hb dX11_feed_47 rfl (lv_at hl 0 rfl) ?_
    obtain ⟨q22, e23, hq⟩ := hq
    refine gfX11_10 C hw hw.2.2.1 h0 e23 dX11_feed_48 ?_
    refine lv_iload hx hb dX11_feed_51 (lv_at hl 5 rfl) ?_
    refine r_callV (T := TX10) (N := 6) (ci := 10) (index := 80) (n := 1) (d2 := 0) (mc := 0) (ms := 0) (As := [.int p5]) (rest := []) C hw (ct_X10_addNumber hq) kvX11_80 hq.1 (by decide) rfl ⟨by decide, by decide⟩ ⟨by decide, by decide⟩ rfl hl.1 rfl (Nat.le_of_ble_eq_true rfl) dX11_feed_53 (fun r M25 H locs hp hle hw => ?_)
    obtain ⟨rfl, hq⟩ := hp
    refine W.eq (g2 := F0 m 56 ls []) rfl ?_
    refine lv_aload_n hx hb dX11_feed_56 rfl (lv_at hl 0 rfl) ?_
    obtain ⟨q26, e27, hq⟩ := hq
    refine gfX11_10 C hw hw.2.2.1 h0 e27 dX11_feed_57 ?_
    obtain ⟨h28, hq⟩ := hq
    refine gfX11_84 C hw hw.2.2.1 h28 dX11_feed_60 ?_
    exact r_iret C hr hlk hw dX11_feed_63 (by decide) (by decide) ⟨_, rfl, hq⟩
  · replace hq := hq.1 c5
    refine lv_iconst (v := (-1)) hx hb dX11_feed_12 (by decide) ?_
    exact r_iret C hr hlk hw dX11_feed_13 (by decide) (by decide) ⟨_, rfl, hq⟩

def wp_X11_end (g : Gh) (M0 : Mem) (a0 : Nat) (p1 : Int32) (post : Int32 → Mem → Prop) : Prop :=
  okc (gB g) M0 a0 11 ∧ (∃ q1, mR M0 a0 0 = some q1 ∧ (wp_X10_cutTo g M0 q1 p1 (fun v3 M4 => (v3 = 0 ∨ v3 = 1) ∧ (post v3 M4))))
set_option maxHeartbeats 4000000 in
set_option maxRecDepth 100000 in
theorem ct_X11_end {l : Launch} {g : Gh} {M0 : Mem} {a0 : Nat} {p1 : Int32} {post : Int32 → Mem → Prop} (hq : wp_X11_end g M0 a0 p1 post) : Ct l g yX11_end cX11_end 2 (some .boolean) 1 0 0 [.ref a0, .int p1] M0 (pI post) := by
  unfold wp_X11_end at hq
  obtain ⟨h0, hq⟩ := hq
  refine Ct.of (by decide) (Nat.le_of_ble_eq_true rfl) ?_
  intro p e s m below meth c ls C hr hlk hn hl hw
  have hx := C.1.1
  have hb := C.1.2.1
  have hl : lv_has ls 2 [(0, .ref a0), (1, .int p1)] := hl
  refine lv_aload_n hx hb dX11_end_0 rfl (lv_at hl 0 rfl) ?_
  obtain ⟨q1, e2, hq⟩ := hq
  refine gfX11_10 C hw hw.2.2.1 h0 e2 dX11_end_1 ?_
  refine lv_iload_n hx hb dX11_end_4 rfl (lv_at hl 1 rfl) ?_
  refine r_callV (T := TX10) (N := 6) (ci := 10) (index := 87) (n := 1) (d2 := 0) (mc := 0) (ms := 0) (As := [.int p1]) (rest := []) C hw (ct_X10_cutTo hq) kvX11_87 hq.1 (by decide) rfl ⟨by decide, by decide⟩ ⟨by decide, by decide⟩ rfl hl.1 rfl (Nat.le_of_ble_eq_true rfl) dX11_end_5 (fun r M4 H locs hp hle hw => ?_)
  obtain ⟨v3, rfl, hq⟩ := hp
  refine W.eq (g2 := F0 m 8 ls [.int v3]) rfl ?_
  obtain ⟨h5, hq⟩ := hq
  exact r_zret C hr hlk hw dX11_end_8 (by decide) (by decide) h5 ⟨_, rfl, hq⟩

def wp_X11_questionAt (g : Gh) (M0 : Mem) (a0 : Nat) (p1 : Int32) (post : Option Nat → Mem → Prop) : Prop :=
  okc (gB g) M0 a0 11 ∧ (((p1 < 0) → post none M0) ∧ (¬ (p1 < 0) → (((mI M0 a0 4) ≤ p1) → post none M0) ∧ (¬ ((mI M0 a0 4) ≤ p1) → ∃ q3, mR M0 a0 3 = some q3 ∧ (okc (gB g) M0 q3 20 ∧ ((((nI (mN M0 q3)) ≤ p1) → post none M0) ∧ (¬ ((nI (mN M0 q3)) ≤ p1) → vp_in p1 (mN M0 q3) ∧ (∃ q8, mR M0 q3 (Int32.toNatClampNeg p1) = some q8 ∧ (post (some q8) M0))))))))
set_option maxHeartbeats 4000000 in
set_option maxRecDepth 100000 in
theorem ct_X11_questionAt {l : Launch} {g : Gh} {M0 : Mem} {a0 : Nat} {p1 : Int32} {post : Option Nat → Mem → Prop} (hq : wp_X11_questionAt g M0 a0 p1 post) : Ct l g yX11_questionAt cX11_questionAt 2 (some (.object "QuizLeague$Question")) 0 0 0 [.ref a0, .int p1] M0 (pR post) := by
  unfold wp_X11_questionAt at hq
  obtain ⟨h0, hq⟩ := hq
  refine Ct.of (by decide) (Nat.le_of_ble_eq_true rfl) ?_
  intro p e s m below meth c ls C hr hlk hn hl hw
  have hx := C.1.1
  have hb := C.1.2.1
  have hl : lv_has ls 2 [(0, .ref a0), (1, .int p1)] := hl
  refine lv_iload_n hx hb dX11_questionAt_0 rfl (lv_at hl 1 rfl) ?_
  refine lv_if_lt (tgt := 30) hx hb dX11_questionAt_1 (by decide) (fun c1 => ?_) (fun c1 => ?_)
  · replace hq := hq.1 c1
    refine lv_null hx hb dX11_questionAt_30 ?_
    exact r_aret (v := none) C hr (Or.inl ⟨_, rfl⟩) hlk hw dX11_questionAt_31 (by decide) (by decide) ⟨_, rfl, hq⟩
  · replace hq := hq.2 c1
    refine lv_iload_n hx hb dX11_questionAt_4 rfl (lv_at hl 1 rfl) ?_
    refine lv_aload_n hx hb dX11_questionAt_5 rfl (lv_at hl 0 rfl) ?_
    refine gfX11_36 C hw hw.2.2.1 h0 dX11_questionAt_6 ?_
    refine lv_icmp_ge (tgt := 30) hx hb dX11_questionAt_9 (by decide) (fun c2 => ?_) (fun c2 => ?_)
    · replace hq := hq.1 c2
      refine lv_null hx hb dX11_questionAt_30 ?_
      exact r_aret (v := none) C hr (Or.inl ⟨_, rfl⟩) hlk hw dX11_questionAt_31 (by decide) (by decide) ⟨_, rfl, hq⟩
    · replace hq := hq.2 c2
      refine lv_iload_n hx hb dX11_questionAt_12 rfl (lv_at hl 1 rfl) ?_
      refine lv_aload_n hx hb dX11_questionAt_13 rfl (lv_at hl 0 rfl) ?_
      obtain ⟨q3, e4, hq⟩ := hq
      refine gfX11_32 C hw hw.2.2.1 h0 e4 dX11_questionAt_14 ?_
      obtain ⟨h5, hq⟩ := hq
      refine q_alen C hw hw.2.2.1 h5 (by decide) (by decide) rfl dX11_questionAt_17 ?_
      refine lv_icmp_ge (tgt := 30) hx hb dX11_questionAt_18 (by decide) (fun c6 => ?_) (fun c6 => ?_)
      · replace hq := hq.1 c6
        refine lv_null hx hb dX11_questionAt_30 ?_
        exact r_aret (v := none) C hr (Or.inl ⟨_, rfl⟩) hlk hw dX11_questionAt_31 (by decide) (by decide) ⟨_, rfl, hq⟩
      · replace hq := hq.2 c6
        refine lv_aload_n hx hb dX11_questionAt_21 rfl (lv_at hl 0 rfl) ?_
        refine gfX11_32 C hw hw.2.2.1 h0 e4 dX11_questionAt_22 ?_
        refine lv_iload_n hx hb dX11_questionAt_25 rfl (lv_at hl 1 rfl) ?_
        obtain ⟨h7, hq⟩ := hq
        obtain ⟨q8, e9, hq⟩ := hq
        refine q_aald C hw hw.2.2.1 h5 (by decide) (by decide) rfl h7 e9 dX11_questionAt_26 ?_
        refine lv_goto (tgt := 31) hx hb dX11_questionAt_27 (by decide) ?_
        exact r_aret (v := (some q8)) C hr (Or.inl ⟨_, rfl⟩) hlk hw dX11_questionAt_31 (by decide) (by decide) ⟨_, rfl, hq⟩

def wp_X11_strike (g : Gh) (M0 : Mem) (a0 : Nat) (p1 : Int32) (p2 : Int32) (post : Int32 → Mem → Prop) : Prop :=
  okc (gB g) M0 a0 11 ∧ (wp_X11_questionAt g M0 a0 p1 (fun v1 M2 => (v1 = none → post 0 M2) ∧ (∀ q4, v1 = some q4 → ∃ q5, mR M2 a0 9 = some q5 ∧ (okc (gB g) M0 q5 6 ∧ ((((mI M2 q5 0) = 0) → okc (gB g) M0 q4 9 ∧ ((((mI M2 q4 4) = p2) → post 0 M2) ∧ (¬ ((mI M2 q4 4) = p2) → (p2 = 0 ∨ p2 = 1) ∧ (∀ M12, M12 = uI M2 q4 4 p2 → (post 1 M12))))) ∧ (¬ ((mI M2 q5 0) = 0) → post 0 M2))))))
set_option maxHeartbeats 4000000 in
set_option maxRecDepth 100000 in
theorem ct_X11_strike {l : Launch} {g : Gh} {M0 : Mem} {a0 : Nat} {p1 : Int32} {p2 : Int32} {post : Int32 → Mem → Prop} (hq : wp_X11_strike g M0 a0 p1 p2 post) : Ct l g yX11_strike cX11_strike 4 (some .boolean) 1 0 0 [.ref a0, .int p1, .int p2] M0 (pI post) := by
  unfold wp_X11_strike at hq
  obtain ⟨h0, hq⟩ := hq
  refine Ct.of (by decide) (Nat.le_of_ble_eq_true rfl) ?_
  intro p e s m below meth c ls C hr hlk hn hl hw
  have hx := C.1.1
  have hb := C.1.2.1
  have hl : lv_has ls 4 [(0, .ref a0), (1, .int p1), (2, .int p2)] := hl
  refine lv_aload_n hx hb dX11_strike_0 rfl (lv_at hl 0 rfl) ?_
  refine lv_iload_n hx hb dX11_strike_1 rfl (lv_at hl 1 rfl) ?_
  refine r_callV (T := TX11) (N := 11) (ci := 11) (index := 113) (n := 1) (d2 := 0) (mc := 0) (ms := 0) (As := [.int p1]) (rest := []) C hw (ct_X11_questionAt hq) kvX11_113 hq.1 (by decide) rfl ⟨by decide, by decide⟩ ⟨by decide, by decide⟩ rfl hl.1 rfl (Nat.le_of_ble_eq_true rfl) dX11_strike_2 (fun r M2 H locs hp hle hw => ?_)
  obtain ⟨v1, rfl, hq⟩ := hp
  refine W.eq (g2 := F0 m 5 ls [va_rf v1]) rfl ?_
  refine r_astore_n (lv' := [(3, va_rf v1), (0, .ref a0), (1, .int p1), (2, .int p2)]) hx hb dX11_strike_5 rfl hl (by decide) (by first | rfl | simp [va_cat]) (fun ls hl => ?_)
  refine r_aload_n hx hb dX11_strike_6 rfl (lv_at hl 0 rfl) ?_
  rcases v1 with _ | q4
  · refine lv_ifnullN (tgt := 28) hx hb dX11_strike_7 (by decide) ?_
    have hl : lv_has ls 4 [(3, .null), (0, .ref a0), (1, .int p1), (2, .int p2)] := hl
    replace hq := hq.1 rfl
    refine lv_iconst (v := 0) hx hb dX11_strike_28 (by decide) ?_
    exact r_zret C hr hlk hw dX11_strike_29 (by decide) (by decide) (by decide) ⟨_, rfl, hq⟩
  · refine lv_ifnull hx hb dX11_strike_7 ?_
    have hl : lv_has ls 4 [(3, .ref q4), (0, .ref a0), (1, .int p1), (2, .int p2)] := hl
    replace hq := hq.2 q4 rfl
    refine lv_aload_n hx hb dX11_strike_10 rfl (lv_at hl 1 rfl) ?_
    obtain ⟨q5, e6, hq⟩ := hq
    refine gfX11_65 C hw hw.2.2.1 h0 e6 dX11_strike_11 ?_
    obtain ⟨h7, hq⟩ := hq
    refine gfX11_125 C hw hw.2.2.1 h7 dX11_strike_14 ?_
    refine lv_if_ne (tgt := 28) hx hb dX11_strike_17 (by decide) (fun c8 => ?_) (fun c8 => ?_)
    · replace hq := hq.2 c8
      refine lv_iconst (v := 0) hx hb dX11_strike_28 (by decide) ?_
      exact r_zret C hr hlk hw dX11_strike_29 (by decide) (by decide) (by decide) ⟨_, rfl, hq⟩
    · replace hq := hq.1 c8
      refine lv_aload_n hx hb dX11_strike_20 rfl (lv_at hl 0 rfl) ?_
      obtain ⟨h9, hq⟩ := hq
      refine gfX11_129 C hw hw.2.2.1 h9 dX11_strike_21 ?_
      refine lv_iload_n hx hb dX11_strike_24 rfl (lv_at hl 3 rfl) ?_
      refine lv_icmp_ne (tgt := 30) hx hb dX11_strike_25 (by decide) (fun c10 => ?_) (fun c10 => ?_)
      · replace hq := hq.2 c10
        refine lv_aload_n hx hb dX11_strike_30 rfl (lv_at hl 0 rfl) ?_
        refine lv_iload_n hx hb dX11_strike_31 rfl (lv_at hl 3 rfl) ?_
        obtain ⟨h11, hq⟩ := hq
        refine pfX11_129 C hw hw.2.2.1 h9 h11 dX11_strike_32 (fun H locs hw => ?_)
        generalize e13 : uI M2 q4 4 p2 = M12 at hw
        replace hq := hq M12 e13.symm
        have e6 : mR M12 a0 9 = some q5 := by rw [← e13, mR_uI]; exact e6
        refine lv_iconst (v := 1) hx hb dX11_strike_35 (by decide) ?_
        exact r_zret C hr hlk hw dX11_strike_36 (by decide) (by decide) (by decide) ⟨_, rfl, hq⟩
      · replace hq := hq.1 c10
        refine lv_iconst (v := 0) hx hb dX11_strike_28 (by decide) ?_
        exact r_zret C hr hlk hw dX11_strike_29 (by decide) (by decide) (by decide) ⟨_, rfl, hq⟩

def wp_X11_seen (g : Gh) (M0 : Mem) (a0 : Nat) (p1 : Int32) (p2 : Int32) (post : Int32 → Mem → Prop) : Prop :=
  okc (gB g) M0 a0 11 ∧ (wp_X11_questionAt g M0 a0 p2 (fun v1 M2 => (v1 = none → post 0 M2) ∧ (∀ q4, v1 = some q4 → wp_X11_isTeam g M2 p1 (fun v5 M6 => ((v5 = 0) → post 0 M6) ∧ (¬ (v5 = 0) → wp_X9_isSeenBy g M6 q4 p1 (fun v8 M9 => ((v8 = 0) → post 0 M9) ∧ (¬ (v8 = 0) → post 1 M9)))))))
set_option maxHeartbeats 4000000 in
set_option maxRecDepth 100000 in
theorem ct_X11_seen {l : Launch} {g : Gh} {M0 : Mem} {a0 : Nat} {p1 : Int32} {p2 : Int32} {post : Int32 → Mem → Prop} (hq : wp_X11_seen g M0 a0 p1 p2 post) : Ct l g yX11_seen cX11_seen 4 (some .boolean) 1 0 0 [.ref a0, .int p1, .int p2] M0 (pI post) := by
  unfold wp_X11_seen at hq
  obtain ⟨h0, hq⟩ := hq
  refine Ct.of (by decide) (Nat.le_of_ble_eq_true rfl) ?_
  intro p e s m below meth c ls C hr hlk hn hl hw
  have hx := C.1.1
  have hb := C.1.2.1
  have hl : lv_has ls 4 [(0, .ref a0), (1, .int p1), (2, .int p2)] := hl
  refine lv_aload_n hx hb dX11_seen_0 rfl (lv_at hl 0 rfl) ?_
  refine lv_iload_n hx hb dX11_seen_1 rfl (lv_at hl 2 rfl) ?_
  refine r_callV (T := TX11) (N := 11) (ci := 11) (index := 113) (n := 1) (d2 := 0) (mc := 0) (ms := 0) (As := [.int p2]) (rest := []) C hw (ct_X11_questionAt hq) kvX11_113 hq.1 (by decide) rfl ⟨by decide, by decide⟩ ⟨by decide, by decide⟩ rfl hl.1 rfl (Nat.le_of_ble_eq_true rfl) dX11_seen_2 (fun r M2 H locs hp hle hw => ?_)
  obtain ⟨v1, rfl, hq⟩ := hp
  refine W.eq (g2 := F0 m 5 ls [va_rf v1]) rfl ?_
  refine r_astore_n (lv' := [(3, va_rf v1), (0, .ref a0), (1, .int p1), (2, .int p2)]) hx hb dX11_seen_5 rfl hl (by decide) (by first | rfl | simp [va_cat]) (fun ls hl => ?_)
  refine r_aload_n hx hb dX11_seen_6 rfl (lv_at hl 0 rfl) ?_
  rcases v1 with _ | q4
  · refine lv_ifnullN (tgt := 29) hx hb dX11_seen_7 (by decide) ?_
    have hl : lv_has ls 4 [(3, .null), (0, .ref a0), (1, .int p1), (2, .int p2)] := hl
    replace hq := hq.1 rfl
    refine lv_iconst (v := 0) hx hb dX11_seen_29 (by decide) ?_
    exact r_zret C hr hlk hw dX11_seen_30 (by decide) (by decide) (by decide) ⟨_, rfl, hq⟩
  · refine lv_ifnull hx hb dX11_seen_7 ?_
    have hl : lv_has ls 4 [(3, .ref q4), (0, .ref a0), (1, .int p1), (2, .int p2)] := hl
    replace hq := hq.2 q4 rfl
    refine lv_iload_n hx hb dX11_seen_10 rfl (lv_at hl 2 rfl) ?_
    refine r_callS (index := 143) (n := 1) (d2 := 0) (mc := 0) (ms := 0) (As := [.int p1]) (rest := []) C hw (ct_X11_isTeam hq) ksX11_143 ⟨by decide, by decide⟩ ⟨by decide, by decide⟩ rfl hl.1 rfl (Nat.le_of_ble_eq_true rfl) dX11_seen_11 (fun r M6 H locs hp hle hw => ?_)
    obtain ⟨v5, rfl, hq⟩ := hp
    refine W.eq (g2 := F0 m 14 ls [.int v5]) rfl ?_
    refine lv_if_eq (tgt := 29) hx hb dX11_seen_14 (by decide) (fun c7 => ?_) (fun c7 => ?_)
    · replace hq := hq.1 c7
      refine lv_iconst (v := 0) hx hb dX11_seen_29 (by decide) ?_
      exact r_zret C hr hlk hw dX11_seen_30 (by decide) (by decide) (by decide) ⟨_, rfl, hq⟩
    · replace hq := hq.2 c7
      refine lv_aload_n hx hb dX11_seen_17 rfl (lv_at hl 0 rfl) ?_
      refine lv_iload_n hx hb dX11_seen_18 rfl (lv_at hl 2 rfl) ?_
      refine r_callV (T := TX9) (N := 6) (ci := 9) (index := 146) (n := 1) (d2 := 0) (mc := 0) (ms := 0) (As := [.int p1]) (rest := []) C hw (ct_X9_isSeenBy hq) kvX11_146 hq.1 (by decide) rfl ⟨by decide, by decide⟩ ⟨by decide, by decide⟩ rfl hl.1 rfl (Nat.le_of_ble_eq_true rfl) dX11_seen_19 (fun r M9 H locs hp hle hw => ?_)
      obtain ⟨v8, rfl, hq⟩ := hp
      refine W.eq (g2 := F0 m 22 ls [.int v8]) rfl ?_
      refine lv_if_eq (tgt := 29) hx hb dX11_seen_22 (by decide) (fun c10 => ?_) (fun c10 => ?_)
      · replace hq := hq.1 c10
        refine lv_iconst (v := 0) hx hb dX11_seen_29 (by decide) ?_
        exact r_zret C hr hlk hw dX11_seen_30 (by decide) (by decide) (by decide) ⟨_, rfl, hq⟩
      · replace hq := hq.2 c10
        refine lv_iconst (v := 1) hx hb dX11_seen_25 (by decide) ?_
        refine lv_goto (tgt := 30) hx hb dX11_seen_26 (by decide) ?_
        exact r_zret C hr hlk hw dX11_seen_30 (by decide) (by decide) (by decide) ⟨_, rfl, hq⟩

def wp_X11_fault (g : Gh) (M0 : Mem) (a0 : Nat) (post : Int32 → Mem → Prop) : Prop :=
  okc (gB g) M0 a0 11 ∧ (post (mI M0 a0 7) M0)
set_option maxHeartbeats 4000000 in
set_option maxRecDepth 100000 in
theorem ct_X11_fault {l : Launch} {g : Gh} {M0 : Mem} {a0 : Nat} {post : Int32 → Mem → Prop} (hq : wp_X11_fault g M0 a0 post) : Ct l g yX11_fault cX11_fault 1 (some .int) 0 0 0 [.ref a0] M0 (pI post) := by
  unfold wp_X11_fault at hq
  obtain ⟨h0, hq⟩ := hq
  refine Ct.of (by decide) (Nat.le_of_ble_eq_true rfl) ?_
  intro p e s m below meth c ls C hr hlk hn hl hw
  have hx := C.1.1
  have hb := C.1.2.1
  have hl : lv_has ls 1 [(0, .ref a0)] := hl
  refine lv_aload_n hx hb dX11_fault_0 rfl (lv_at hl 0 rfl) ?_
  refine gfX11_50 C hw hw.2.2.1 h0 dX11_fault_1 ?_
  exact r_iret C hr hlk hw dX11_fault_4 (by decide) (by decide) ⟨_, rfl, hq⟩

def wp_X11_packed (g : Gh) (M0 : Mem) (a0 : Nat) (p1 : Int32) (post : Int32 → Mem → Prop) : Prop :=
  okc (gB g) M0 a0 11 ∧ (∃ q1, mR M0 a0 8 = some q1 ∧ (wp_X8_numberAt g M0 q1 p1 (fun v3 M4 => post v3 M4)))
set_option maxHeartbeats 4000000 in
set_option maxRecDepth 100000 in
theorem ct_X11_packed {l : Launch} {g : Gh} {M0 : Mem} {a0 : Nat} {p1 : Int32} {post : Int32 → Mem → Prop} (hq : wp_X11_packed g M0 a0 p1 post) : Ct l g yX11_packed cX11_packed 2 (some .int) 1 0 0 [.ref a0, .int p1] M0 (pI post) := by
  unfold wp_X11_packed at hq
  obtain ⟨h0, hq⟩ := hq
  refine Ct.of (by decide) (Nat.le_of_ble_eq_true rfl) ?_
  intro p e s m below meth c ls C hr hlk hn hl hw
  have hx := C.1.1
  have hb := C.1.2.1
  have hl : lv_has ls 2 [(0, .ref a0), (1, .int p1)] := hl
  refine lv_aload_n hx hb dX11_packed_0 rfl (lv_at hl 0 rfl) ?_
  obtain ⟨q1, e2, hq⟩ := hq
  refine gfX11_56 C hw hw.2.2.1 h0 e2 dX11_packed_1 ?_
  refine lv_iload_n hx hb dX11_packed_4 rfl (lv_at hl 1 rfl) ?_
  refine r_callV (T := TX8) (N := 15) (ci := 8) (index := 180) (n := 1) (d2 := 0) (mc := 0) (ms := 0) (As := [.int p1]) (rest := []) C hw (ct_X8_numberAt hq) kvX11_180 hq.1 (by decide) rfl ⟨by decide, by decide⟩ ⟨by decide, by decide⟩ rfl hl.1 rfl (Nat.le_of_ble_eq_true rfl) dX11_packed_5 (fun r M4 H locs hp hle hw => ?_)
  obtain ⟨v3, rfl, hq⟩ := hp
  refine W.eq (g2 := F0 m 8 ls [.int v3]) rfl ?_
  exact r_iret C hr hlk hw dX11_packed_8 (by decide) (by decide) ⟨_, rfl, hq⟩

def bd_X11_isPackSpoilt_2 (g : Gh) (M0 : Mem) (a0 : Nat) (post : Int32 → Mem → Prop)  (bk2 : Int32 × Mem → Prop) (x1 : Int32)  (M : Mem) : Prop :=
  ∃ q1, mR M a0 8 = some q1 ∧ (okc (gB g) M0 q1 8 ∧ ((((mI M q1 2) ≤ x1) → post 0 M) ∧ (¬ ((mI M q1 2) ≤ x1) → wp_X8_numberAt g M q1 x1 (fun v5 M6 => wp_X11_questionAt g M6 a0 v5 (fun v7 M8 => (v7 = none → post 1 M8) ∧ (∀ q10, v7 = some q10 → ∃ q11, mR M8 a0 8 = some q11 ∧ (okc (gB g) M0 q11 8 ∧ (wp_X9_isFreeFor g M8 q10 (mI M8 q11 0) (mI M8 q11 1) (fun v14 M15 => ((v14 = 0) → post 1 M15) ∧ (¬ (v14 = 0) → bk2 ((x1 + 1), M15)))))))))))
def wp_X11_isPackSpoilt (g : Gh) (M0 : Mem) (a0 : Nat) (post : Int32 → Mem → Prop) : Prop :=
  okc (gB g) M0 a0 11 ∧ ((∃ n : Nat, lfp (fun bk z => bd_X11_isPackSpoilt_2 g M0 a0 post  bk z.1 z.2) n (0, M0)))
set_option maxHeartbeats 4000000 in
set_option maxRecDepth 100000 in
theorem lp_X11_isPackSpoilt_2 {l : Launch} {g : Gh} {p : Program} {e : Env} {s : State} {m : MethodId} {args : Array Value} {below : List Frame} {meth : Method} {c : Code} {M0 : Mem} {a0 : Nat} {post : Int32 → Mem → Prop} (C : Cx g p s m args c cX11_isPackSpoilt 3 RX11) (hr : meth.sig.returnType = (some .boolean)) (hlk : meth.locks = false) (hn : meth.name = "isPackSpoilt") (h0 : okc (gB g) M0 a0 11)  : ∀ (nf : Nat) (x1 : Int32)  (M : Mem) (H : Heap) (locs : List Loc) (ls : Array Slot), lfp (fun bk z => bd_X11_isPackSpoilt_2 g M0 a0 post  bk z.1 z.2) nf (x1, M) → Wd g s M0 M H locs → lv_has ls 3 [(0, .ref a0), (1, .int x1)] → W p l e (rmo 2 0 0) s m args below meth c H locs 0 0 (MQ below (Cq g M0 (pI post)) args s 0 0 (gA g)) (F0 m 2 ls []) := by
  have hx := C.1.1
  have hb := C.1.2.1
  intro nf
  induction nf with
  | zero => intro _ _ H locs ls hq; exact hq.elim
  | succ nf hk2 =>
    intro x1 M H locs ls hq hw hl
    replace hq : bd_X11_isPackSpoilt_2 g M0 a0 post  (lfp (fun bk z => bd_X11_isPackSpoilt_2 g M0 a0 post  bk z.1 z.2) nf) x1 M := hq
    unfold bd_X11_isPackSpoilt_2 at hq
    refine lv_iload_n hx hb dX11_isPackSpoilt_2 rfl (lv_at hl 1 rfl) ?_
    refine lv_aload_n hx hb dX11_isPackSpoilt_3 rfl (lv_at hl 0 rfl) ?_
    obtain ⟨q1, e2, hq⟩ := hq
    refine gfX11_56 C hw hw.2.2.1 h0 e2 dX11_isPackSpoilt_4 ?_
    obtain ⟨h3, hq⟩ := hq
    refine gfX11_183 C hw hw.2.2.1 h3 dX11_isPackSpoilt_7 ?_
    refine lv_icmp_ge (tgt := 59) hx hb dX11_isPackSpoilt_10 (by decide) (fun c4 => ?_) (fun c4 => ?_)
    · replace hq := hq.1 c4
      refine lv_iconst (v := 0) hx hb dX11_isPackSpoilt_59 (by decide) ?_
      exact r_zret C hr hlk hw dX11_isPackSpoilt_60 (by decide) (by decide) (by decide) ⟨_, rfl, hq⟩
    · replace hq := hq.2 c4
      refine lv_aload_n hx hb dX11_isPackSpoilt_13 rfl (lv_at hl 0 rfl) ?_
      refine lv_aload_n hx hb dX11_isPackSpoilt_14 rfl (lv_at hl 0 rfl) ?_
      refine gfX11_56 C hw hw.2.2.1 h0 e2 dX11_isPackSpoilt_15 ?_
      refine lv_iload_n hx hb dX11_isPackSpoilt_18 rfl (lv_at hl 1 rfl) ?_
      refine r_callV (T := TX8) (N := 15) (ci := 8) (index := 180) (n := 1) (d2 := 0) (mc := 0) (ms := 0) (As := [.int x1]) (rest := [.ref a0]) C hw (ct_X8_numberAt hq) kvX11_180 hq.1 (by decide) rfl ⟨by decide, by decide⟩ ⟨by decide, by decide⟩ rfl hl.1 rfl (Nat.le_of_ble_eq_true rfl) dX11_isPackSpoilt_19 (fun r M6 H locs hp hle hw => ?_)
      obtain ⟨v5, rfl, hq⟩ := hp
      refine W.eq (g2 := F0 m 22 ls [.int v5, .ref a0]) rfl ?_
      refine r_callV (T := TX11) (N := 11) (ci := 11) (index := 113) (n := 1) (d2 := 0) (mc := 0) (ms := 0) (As := [.int v5]) (rest := []) C hw (ct_X11_questionAt hq) kvX11_113 hq.1 (by decide) rfl ⟨by decide, by decide⟩ ⟨by decide, by decide⟩ rfl hl.1 rfl (Nat.le_of_ble_eq_true rfl) dX11_isPackSpoilt_22 (fun r M8 H locs hp hle hw => ?_)
      obtain ⟨v7, rfl, hq⟩ := hp
      refine W.eq (g2 := F0 m 25 ls [va_rf v7]) rfl ?_
      refine r_astore_n (lv' := [(2, va_rf v7), (0, .ref a0), (1, .int x1)]) hx hb dX11_isPackSpoilt_25 rfl hl (by decide) (by first | rfl | simp [va_cat]) (fun ls hl => ?_)
      refine r_aload_n hx hb dX11_isPackSpoilt_26 rfl (lv_at hl 0 rfl) ?_
      rcases v7 with _ | q10
      · refine lv_ifnullN (tgt := 51) hx hb dX11_isPackSpoilt_27 (by decide) ?_
        have hl : lv_has ls 3 [(2, .null), (0, .ref a0), (1, .int x1)] := hl
        replace hq := hq.1 rfl
        refine lv_iconst (v := 1) hx hb dX11_isPackSpoilt_51 (by decide) ?_
        exact r_zret C hr hlk hw dX11_isPackSpoilt_52 (by decide) (by decide) (by decide) ⟨_, rfl, hq⟩
      · refine lv_ifnull hx hb dX11_isPackSpoilt_27 ?_
        have hl : lv_has ls 3 [(2, .ref q10), (0, .ref a0), (1, .int x1)] := hl
        replace hq := hq.2 q10 rfl
        refine lv_aload_n hx hb dX11_isPackSpoilt_30 rfl (lv_at hl 0 rfl) ?_
        refine lv_aload_n hx hb dX11_isPackSpoilt_31 rfl (lv_at hl 1 rfl) ?_
        obtain ⟨q11, e12, hq⟩ := hq
        refine gfX11_56 C hw hw.2.2.1 h0 e12 dX11_isPackSpoilt_32 ?_
        obtain ⟨h13, hq⟩ := hq
        refine gfX11_222 C hw hw.2.2.1 h13 dX11_isPackSpoilt_35 ?_
        refine lv_aload_n hx hb dX11_isPackSpoilt_38 rfl (lv_at hl 1 rfl) ?_
        refine gfX11_56 C hw hw.2.2.1 h0 e12 dX11_isPackSpoilt_39 ?_
        refine gfX11_225 C hw hw.2.2.1 h13 dX11_isPackSpoilt_42 ?_
        refine r_callV (T := TX9) (N := 6) (ci := 9) (index := 259) (n := 2) (d2 := 1) (mc := 0) (ms := 0) (As := [.int (mI M8 q11 0), .int (mI M8 q11 1)]) (rest := []) C hw (ct_X9_isFreeFor hq) kvX11_259 hq.1 (by decide) rfl ⟨by decide, by decide⟩ ⟨by decide, by decide⟩ rfl hl.1 rfl (Nat.le_of_ble_eq_true rfl) dX11_isPackSpoilt_45 (fun r M15 H locs hp hle hw => ?_)
        obtain ⟨v14, rfl, hq⟩ := hp
        refine W.eq (g2 := F0 m 48 ls [.int v14]) rfl ?_
        refine lv_if_ne (tgt := 53) hx hb dX11_isPackSpoilt_48 (by decide) (fun c16 => ?_) (fun c16 => ?_)
        · replace hq := hq.2 c16
          refine lv_iinc (v := (x1 + 1)) (lv' := [(1, .int (x1 + 1)), (2, .ref q10), (0, .ref a0)]) hx hb dX11_isPackSpoilt_53 hl (k := 2) rfl rfl (by decide) rfl (fun ls hl => ?_)
          refine lv_goto (tgt := 2) hx hb dX11_isPackSpoilt_56 (by decide) ?_
          exact hk2 _ _ _ _ _ hq hw (lv_sub hl [2, 0] rfl)
        · replace hq := hq.1 c16
          refine lv_iconst (v := 1) hx hb dX11_isPackSpoilt_51 (by decide) ?_
          exact r_zret C hr hlk hw dX11_isPackSpoilt_52 (by decide) (by decide) (by decide) ⟨_, rfl, hq⟩
set_option maxHeartbeats 4000000 in
set_option maxRecDepth 100000 in
theorem ct_X11_isPackSpoilt {l : Launch} {g : Gh} {M0 : Mem} {a0 : Nat} {post : Int32 → Mem → Prop} (hq : wp_X11_isPackSpoilt g M0 a0 post) : Ct l g yX11_isPackSpoilt cX11_isPackSpoilt 3 (some .boolean) 2 0 0 [.ref a0] M0 (pI post) := by
  unfold wp_X11_isPackSpoilt at hq
  obtain ⟨h0, hq⟩ := hq
  refine Ct.of (by decide) (Nat.le_of_ble_eq_true rfl) ?_
  intro p e s m below meth c ls C hr hlk hn hl hw
  have hx := C.1.1
  have hb := C.1.2.1
  have hl : lv_has ls 3 [(0, .ref a0)] := hl
  refine lv_iconst (v := 0) hx hb dX11_isPackSpoilt_0 (by decide) ?_
  refine lv_istore_n (lv' := [(1, .int 0), (0, .ref a0)]) hx hb dX11_isPackSpoilt_1 rfl hl (by decide) rfl (fun ls hl => ?_)
  obtain ⟨nf, hq⟩ := hq
  exact lp_X11_isPackSpoilt_2 C hr hlk hn h0  nf _ _ _ _ _ hq hw (lv_sub hl [1, 0] rfl)

def wp_X11_begin (g : Gh) (M0 : Mem) (a0 : Nat) (post : Int32 → Mem → Prop) : Prop :=
  okc (gB g) M0 a0 11 ∧ (∃ q1, mR M0 a0 9 = some q1 ∧ (okc (gB g) M0 q1 6 ∧ ((((mI M0 q1 0) = 0) → ∃ q5, mR M0 a0 8 = some q5 ∧ (okc (gB g) M0 q5 8 ∧ ((((mI M0 q5 2) = 0) → post 0 M0) ∧ (¬ ((mI M0 q5 2) = 0) → ∃ q9, mR M0 a0 5 = some q9 ∧ (okc (gB g) M0 q9 4 ∧ ((((mI M0 q5 2) = (mI M0 q9 1)) → wp_X11_isPackSpoilt g M0 a0 (fun v13 M14 => ((v13 = 0) → ∃ q16, mR M14 a0 9 = some q16 ∧ (∃ q18, mR M14 a0 5 = some q18 ∧ (wp_X6_start g M14 q16 q18 (fun M21 => post 1 M21)))) ∧ (¬ (v13 = 0) → post 0 M14))) ∧ (¬ ((mI M0 q5 2) = (mI M0 q9 1)) → post 0 M0))))))) ∧ (¬ ((mI M0 q1 0) = 0) → post 0 M0))))
set_option maxHeartbeats 4000000 in
set_option maxRecDepth 100000 in
theorem ct_X11_begin {l : Launch} {g : Gh} {M0 : Mem} {a0 : Nat} {post : Int32 → Mem → Prop} (hq : wp_X11_begin g M0 a0 post) : Ct l g yX11_begin cX11_begin 1 (some .boolean) 6 0 0 [.ref a0] M0 (pI post) := by
  unfold wp_X11_begin at hq
  obtain ⟨h0, hq⟩ := hq
  refine Ct.of (by decide) (Nat.le_of_ble_eq_true rfl) ?_
  intro p e s m below meth c ls C hr hlk hn hl hw
  have hx := C.1.1
  have hb := C.1.2.1
  have hl : lv_has ls 1 [(0, .ref a0)] := hl
  refine lv_aload_n hx hb dX11_begin_0 rfl (lv_at hl 0 rfl) ?_
  obtain ⟨q1, e2, hq⟩ := hq
  refine gfX11_65 C hw hw.2.2.1 h0 e2 dX11_begin_1 ?_
  obtain ⟨h3, hq⟩ := hq
  refine gfX11_125 C hw hw.2.2.1 h3 dX11_begin_4 ?_
  refine lv_if_ne (tgt := 44) hx hb dX11_begin_7 (by decide) (fun c4 => ?_) (fun c4 => ?_)
  · replace hq := hq.2 c4
    refine lv_iconst (v := 0) hx hb dX11_begin_44 (by decide) ?_
    exact r_zret C hr hlk hw dX11_begin_45 (by decide) (by decide) (by decide) ⟨_, rfl, hq⟩
  · replace hq := hq.1 c4
    refine lv_aload_n hx hb dX11_begin_10 rfl (lv_at hl 0 rfl) ?_
    obtain ⟨q5, e6, hq⟩ := hq
    refine gfX11_56 C hw hw.2.2.1 h0 e6 dX11_begin_11 ?_
    obtain ⟨h7, hq⟩ := hq
    refine gfX11_183 C hw hw.2.2.1 h7 dX11_begin_14 ?_
    refine lv_if_eq (tgt := 44) hx hb dX11_begin_17 (by decide) (fun c8 => ?_) (fun c8 => ?_)
    · replace hq := hq.1 c8
      refine lv_iconst (v := 0) hx hb dX11_begin_44 (by decide) ?_
      exact r_zret C hr hlk hw dX11_begin_45 (by decide) (by decide) (by decide) ⟨_, rfl, hq⟩
    · replace hq := hq.2 c8
      refine lv_aload_n hx hb dX11_begin_20 rfl (lv_at hl 0 rfl) ?_
      refine gfX11_56 C hw hw.2.2.1 h0 e6 dX11_begin_21 ?_
      refine gfX11_183 C hw hw.2.2.1 h7 dX11_begin_24 ?_
      refine lv_aload_n hx hb dX11_begin_27 rfl (lv_at hl 0 rfl) ?_
      obtain ⟨q9, e10, hq⟩ := hq
      refine gfX11_43 C hw hw.2.2.1 h0 e10 dX11_begin_28 ?_
      obtain ⟨h11, hq⟩ := hq
      refine gfX11_152 C hw hw.2.2.1 h11 dX11_begin_31 ?_
      refine lv_icmp_ne (tgt := 44) hx hb dX11_begin_34 (by decide) (fun c12 => ?_) (fun c12 => ?_)
      · replace hq := hq.2 c12
        refine lv_iconst (v := 0) hx hb dX11_begin_44 (by decide) ?_
        exact r_zret C hr hlk hw dX11_begin_45 (by decide) (by decide) (by decide) ⟨_, rfl, hq⟩
      · replace hq := hq.1 c12
        refine lv_aload_n hx hb dX11_begin_37 rfl (lv_at hl 0 rfl) ?_
        refine r_callV (T := TX11) (N := 11) (ci := 11) (index := 184) (n := 0) (d2 := 2) (mc := 0) (ms := 0) (As := []) (rest := []) C hw (ct_X11_isPackSpoilt hq) kvX11_184 hq.1 (by decide) rfl ⟨by decide, by decide⟩ ⟨by decide, by decide⟩ rfl hl.1 rfl (Nat.le_of_ble_eq_true rfl) dX11_begin_38 (fun r M14 H locs hp hle hw => ?_)
        obtain ⟨v13, rfl, hq⟩ := hp
        refine W.eq (g2 := F0 m 41 ls [.int v13]) rfl ?_
        refine lv_if_eq (tgt := 46) hx hb dX11_begin_41 (by decide) (fun c15 => ?_) (fun c15 => ?_)
        · replace hq := hq.1 c15
          refine lv_aload_n hx hb dX11_begin_46 rfl (lv_at hl 0 rfl) ?_
          obtain ⟨q16, e17, hq⟩ := hq
          refine gfX11_65 C hw hw.2.2.1 h0 e17 dX11_begin_47 ?_
          refine lv_aload_n hx hb dX11_begin_50 rfl (lv_at hl 0 rfl) ?_
          obtain ⟨q18, e19, hq⟩ := hq
          refine gfX11_43 C hw hw.2.2.1 h0 e19 dX11_begin_51 ?_
          refine r_callV (T := TX6) (N := 9) (ci := 6) (index := 188) (n := 1) (d2 := 5) (mc := 0) (ms := 0) (As := [.ref q18]) (rest := []) C hw (ct_X6_start hq) kvX11_188 hq.1 (by decide) rfl ⟨by decide, by decide⟩ ⟨by decide, by decide⟩ rfl hl.1 rfl (Nat.le_of_ble_eq_true rfl) dX11_begin_54 (fun r M21 H locs hp hle hw => ?_)
          obtain ⟨rfl, hq⟩ := hp
          refine W.eq (g2 := F0 m 57 ls []) rfl ?_
          refine lv_iconst (v := 1) hx hb dX11_begin_57 (by decide) ?_
          exact r_zret C hr hlk hw dX11_begin_58 (by decide) (by decide) (by decide) ⟨_, rfl, hq⟩
        · replace hq := hq.2 c15
          refine lv_iconst (v := 0) hx hb dX11_begin_44 (by decide) ?_
          exact r_zret C hr hlk hw dX11_begin_45 (by decide) (by decide) (by decide) ⟨_, rfl, hq⟩

def wp_X11_nothing (g : Gh) (M0 : Mem) (a0 : Nat) (p1 : Int32) (post : Int32 → Mem → Prop) : Prop :=
  okc (gB g) M0 a0 11 ∧ (∃ q1, mR M0 a0 9 = some q1 ∧ (wp_X6_mayCome g M0 q1 1 p1 (fun v3 M4 => ((v3 = 0) → post 0 M4) ∧ (¬ (v3 = 0) → ∃ q6, mR M4 a0 9 = some q6 ∧ (wp_X6_add g M4 q6 1 p1 0 (fun M9 => post 1 M9))))))
set_option maxHeartbeats 4000000 in
set_option maxRecDepth 100000 in
theorem ct_X11_nothing {l : Launch} {g : Gh} {M0 : Mem} {a0 : Nat} {p1 : Int32} {post : Int32 → Mem → Prop} (hq : wp_X11_nothing g M0 a0 p1 post) : Ct l g yX11_nothing cX11_nothing 2 (some .boolean) 5 0 0 [.ref a0, .int p1] M0 (pI post) := by
  unfold wp_X11_nothing at hq
  obtain ⟨h0, hq⟩ := hq
  refine Ct.of (by decide) (Nat.le_of_ble_eq_true rfl) ?_
  intro p e s m below meth c ls C hr hlk hn hl hw
  have hx := C.1.1
  have hb := C.1.2.1
  have hl : lv_has ls 2 [(0, .ref a0), (1, .int p1)] := hl
  refine lv_aload_n hx hb dX11_nothing_0 rfl (lv_at hl 0 rfl) ?_
  obtain ⟨q1, e2, hq⟩ := hq
  refine gfX11_65 C hw hw.2.2.1 h0 e2 dX11_nothing_1 ?_
  refine lv_iconst (v := 1) hx hb dX11_nothing_4 (by decide) ?_
  refine lv_iload_n hx hb dX11_nothing_5 rfl (lv_at hl 1 rfl) ?_
  refine r_callV (T := TX6) (N := 9) (ci := 6) (index := 191) (n := 2) (d2 := 2) (mc := 0) (ms := 0) (As := [.int 1, .int p1]) (rest := []) C hw (ct_X6_mayCome hq) kvX11_191 hq.1 (by decide) rfl ⟨by decide, by decide⟩ ⟨by decide, by decide⟩ rfl hl.1 rfl (Nat.le_of_ble_eq_true rfl) dX11_nothing_6 (fun r M4 H locs hp hle hw => ?_)
  obtain ⟨v3, rfl, hq⟩ := hp
  refine W.eq (g2 := F0 m 9 ls [.int v3]) rfl ?_
  refine lv_if_ne (tgt := 14) hx hb dX11_nothing_9 (by decide) (fun c5 => ?_) (fun c5 => ?_)
  · replace hq := hq.2 c5
    refine lv_aload_n hx hb dX11_nothing_14 rfl (lv_at hl 0 rfl) ?_
    obtain ⟨q6, e7, hq⟩ := hq
    refine gfX11_65 C hw hw.2.2.1 h0 e7 dX11_nothing_15 ?_
    refine lv_iconst (v := 1) hx hb dX11_nothing_18 (by decide) ?_
    refine lv_iload_n hx hb dX11_nothing_19 rfl (lv_at hl 1 rfl) ?_
    refine lv_iconst (v := 0) hx hb dX11_nothing_20 (by decide) ?_
    refine r_callV (T := TX6) (N := 9) (ci := 6) (index := 198) (n := 3) (d2 := 4) (mc := 0) (ms := 0) (As := [.int 1, .int p1, .int 0]) (rest := []) C hw (ct_X6_add hq) kvX11_198 hq.1 (by decide) rfl ⟨by decide, by decide⟩ ⟨by decide, by decide⟩ rfl hl.1 rfl (Nat.le_of_ble_eq_true rfl) dX11_nothing_21 (fun r M9 H locs hp hle hw => ?_)
    obtain ⟨rfl, hq⟩ := hp
    refine W.eq (g2 := F0 m 24 ls []) rfl ?_
    refine lv_iconst (v := 1) hx hb dX11_nothing_24 (by decide) ?_
    exact r_zret C hr hlk hw dX11_nothing_25 (by decide) (by decide) (by decide) ⟨_, rfl, hq⟩
  · replace hq := hq.1 c5
    refine lv_iconst (v := 0) hx hb dX11_nothing_12 (by decide) ?_
    exact r_zret C hr hlk hw dX11_nothing_13 (by decide) (by decide) (by decide) ⟨_, rfl, hq⟩

def wp_X11_dead (g : Gh) (M0 : Mem) (a0 : Nat) (post : Int32 → Mem → Prop) : Prop :=
  okc (gB g) M0 a0 11 ∧ (∃ q1, mR M0 a0 9 = some q1 ∧ (wp_X6_mayCome g M0 q1 2 (-1) (fun v3 M4 => ((v3 = 0) → post 0 M4) ∧ (¬ (v3 = 0) → ∃ q6, mR M4 a0 9 = some q6 ∧ (wp_X6_add g M4 q6 2 (-1) 0 (fun M9 => post 1 M9))))))
set_option maxHeartbeats 4000000 in
set_option maxRecDepth 100000 in
theorem ct_X11_dead {l : Launch} {g : Gh} {M0 : Mem} {a0 : Nat} {post : Int32 → Mem → Prop} (hq : wp_X11_dead g M0 a0 post) : Ct l g yX11_dead cX11_dead 1 (some .boolean) 5 0 0 [.ref a0] M0 (pI post) := by
  unfold wp_X11_dead at hq
  obtain ⟨h0, hq⟩ := hq
  refine Ct.of (by decide) (Nat.le_of_ble_eq_true rfl) ?_
  intro p e s m below meth c ls C hr hlk hn hl hw
  have hx := C.1.1
  have hb := C.1.2.1
  have hl : lv_has ls 1 [(0, .ref a0)] := hl
  refine lv_aload_n hx hb dX11_dead_0 rfl (lv_at hl 0 rfl) ?_
  obtain ⟨q1, e2, hq⟩ := hq
  refine gfX11_65 C hw hw.2.2.1 h0 e2 dX11_dead_1 ?_
  refine lv_iconst (v := 2) hx hb dX11_dead_4 (by decide) ?_
  refine lv_iconst (v := (-1)) hx hb dX11_dead_5 (by decide) ?_
  refine r_callV (T := TX6) (N := 9) (ci := 6) (index := 191) (n := 2) (d2 := 2) (mc := 0) (ms := 0) (As := [.int 2, .int (-1)]) (rest := []) C hw (ct_X6_mayCome hq) kvX11_191 hq.1 (by decide) rfl ⟨by decide, by decide⟩ ⟨by decide, by decide⟩ rfl hl.1 rfl (Nat.le_of_ble_eq_true rfl) dX11_dead_6 (fun r M4 H locs hp hle hw => ?_)
  obtain ⟨v3, rfl, hq⟩ := hp
  refine W.eq (g2 := F0 m 9 ls [.int v3]) rfl ?_
  refine lv_if_ne (tgt := 14) hx hb dX11_dead_9 (by decide) (fun c5 => ?_) (fun c5 => ?_)
  · replace hq := hq.2 c5
    refine lv_aload_n hx hb dX11_dead_14 rfl (lv_at hl 0 rfl) ?_
    obtain ⟨q6, e7, hq⟩ := hq
    refine gfX11_65 C hw hw.2.2.1 h0 e7 dX11_dead_15 ?_
    refine lv_iconst (v := 2) hx hb dX11_dead_18 (by decide) ?_
    refine lv_iconst (v := (-1)) hx hb dX11_dead_19 (by decide) ?_
    refine lv_iconst (v := 0) hx hb dX11_dead_20 (by decide) ?_
    refine r_callV (T := TX6) (N := 9) (ci := 6) (index := 198) (n := 3) (d2 := 4) (mc := 0) (ms := 0) (As := [.int 2, .int (-1), .int 0]) (rest := []) C hw (ct_X6_add hq) kvX11_198 hq.1 (by decide) rfl ⟨by decide, by decide⟩ ⟨by decide, by decide⟩ rfl hl.1 rfl (Nat.le_of_ble_eq_true rfl) dX11_dead_21 (fun r M9 H locs hp hle hw => ?_)
    obtain ⟨rfl, hq⟩ := hp
    refine W.eq (g2 := F0 m 24 ls []) rfl ?_
    refine lv_iconst (v := 1) hx hb dX11_dead_24 (by decide) ?_
    exact r_zret C hr hlk hw dX11_dead_25 (by decide) (by decide) (by decide) ⟨_, rfl, hq⟩
  · replace hq := hq.1 c5
    refine lv_iconst (v := 0) hx hb dX11_dead_12 (by decide) ?_
    exact r_zret C hr hlk hw dX11_dead_13 (by decide) (by decide) (by decide) ⟨_, rfl, hq⟩

def wp_X11_appeal (g : Gh) (M0 : Mem) (a0 : Nat) (p1 : Int32) (p2 : Int32) (post : Int32 → Mem → Prop) : Prop :=
  okc (gB g) M0 a0 11 ∧ (∃ q1, mR M0 a0 9 = some q1 ∧ (wp_X6_overrule g M0 q1 p1 p2 (fun v3 M4 => (v3 = 0 ∨ v3 = 1) ∧ (post v3 M4))))
set_option maxHeartbeats 4000000 in
set_option maxRecDepth 100000 in
theorem ct_X11_appeal {l : Launch} {g : Gh} {M0 : Mem} {a0 : Nat} {p1 : Int32} {p2 : Int32} {post : Int32 → Mem → Prop} (hq : wp_X11_appeal g M0 a0 p1 p2 post) : Ct l g yX11_appeal cX11_appeal 3 (some .boolean) 6 0 0 [.ref a0, .int p1, .int p2] M0 (pI post) := by
  unfold wp_X11_appeal at hq
  obtain ⟨h0, hq⟩ := hq
  refine Ct.of (by decide) (Nat.le_of_ble_eq_true rfl) ?_
  intro p e s m below meth c ls C hr hlk hn hl hw
  have hx := C.1.1
  have hb := C.1.2.1
  have hl : lv_has ls 3 [(0, .ref a0), (1, .int p1), (2, .int p2)] := hl
  refine lv_aload_n hx hb dX11_appeal_0 rfl (lv_at hl 0 rfl) ?_
  obtain ⟨q1, e2, hq⟩ := hq
  refine gfX11_65 C hw hw.2.2.1 h0 e2 dX11_appeal_1 ?_
  refine lv_iload_n hx hb dX11_appeal_4 rfl (lv_at hl 1 rfl) ?_
  refine lv_iload_n hx hb dX11_appeal_5 rfl (lv_at hl 2 rfl) ?_
  refine r_callV (T := TX6) (N := 9) (ci := 6) (index := 202) (n := 2) (d2 := 5) (mc := 0) (ms := 0) (As := [.int p1, .int p2]) (rest := []) C hw (ct_X6_overrule hq) kvX11_202 hq.1 (by decide) rfl ⟨by decide, by decide⟩ ⟨by decide, by decide⟩ rfl hl.1 rfl (Nat.le_of_ble_eq_true rfl) dX11_appeal_6 (fun r M4 H locs hp hle hw => ?_)
  obtain ⟨v3, rfl, hq⟩ := hp
  refine W.eq (g2 := F0 m 9 ls [.int v3]) rfl ?_
  obtain ⟨h5, hq⟩ := hq
  exact r_zret C hr hlk hw dX11_appeal_9 (by decide) (by decide) h5 ⟨_, rfl, hq⟩

def wp_X11_undo (g : Gh) (M0 : Mem) (a0 : Nat) (post : Int32 → Mem → Prop) : Prop :=
  okc (gB g) M0 a0 11 ∧ (∃ q1, mR M0 a0 9 = some q1 ∧ (wp_X6_takeBack g M0 q1 (fun v3 M4 => (v3 = 0 ∨ v3 = 1) ∧ (post v3 M4))))
set_option maxHeartbeats 4000000 in
set_option maxRecDepth 100000 in
theorem ct_X11_undo {l : Launch} {g : Gh} {M0 : Mem} {a0 : Nat} {post : Int32 → Mem → Prop} (hq : wp_X11_undo g M0 a0 post) : Ct l g yX11_undo cX11_undo 1 (some .boolean) 6 0 0 [.ref a0] M0 (pI post) := by
  unfold wp_X11_undo at hq
  obtain ⟨h0, hq⟩ := hq
  refine Ct.of (by decide) (Nat.le_of_ble_eq_true rfl) ?_
  intro p e s m below meth c ls C hr hlk hn hl hw
  have hx := C.1.1
  have hb := C.1.2.1
  have hl : lv_has ls 1 [(0, .ref a0)] := hl
  refine lv_aload_n hx hb dX11_undo_0 rfl (lv_at hl 0 rfl) ?_
  obtain ⟨q1, e2, hq⟩ := hq
  refine gfX11_65 C hw hw.2.2.1 h0 e2 dX11_undo_1 ?_
  refine r_callV (T := TX6) (N := 9) (ci := 6) (index := 206) (n := 0) (d2 := 5) (mc := 0) (ms := 0) (As := []) (rest := []) C hw (ct_X6_takeBack hq) kvX11_206 hq.1 (by decide) rfl ⟨by decide, by decide⟩ ⟨by decide, by decide⟩ rfl hl.1 rfl (Nat.le_of_ble_eq_true rfl) dX11_undo_4 (fun r M4 H locs hp hle hw => ?_)
  obtain ⟨v3, rfl, hq⟩ := hp
  refine W.eq (g2 := F0 m 7 ls [.int v3]) rfl ?_
  obtain ⟨h5, hq⟩ := hq
  exact r_zret C hr hlk hw dX11_undo_7 (by decide) (by decide) h5 ⟨_, rfl, hq⟩

def wp_X11_now (g : Gh) (M0 : Mem) (a0 : Nat) (p1 : Int32) (post : Int32 → Mem → Prop) : Prop :=
  okc (gB g) M0 a0 11 ∧ (∃ q1, mR M0 a0 9 = some q1 ∧ (okc (gB g) M0 q1 6 ∧ ((((mI M0 q1 0) = 0) → post (-1) M0) ∧ (¬ ((mI M0 q1 0) = 0) → wp_X6_tell g M0 q1 p1 (fun v5 M6 => post v5 M6)))))
set_option maxHeartbeats 4000000 in
set_option maxRecDepth 100000 in
theorem ct_X11_now {l : Launch} {g : Gh} {M0 : Mem} {a0 : Nat} {p1 : Int32} {post : Int32 → Mem → Prop} (hq : wp_X11_now g M0 a0 p1 post) : Ct l g yX11_now cX11_now 2 (some .int) 2 0 0 [.ref a0, .int p1] M0 (pI post) := by
  unfold wp_X11_now at hq
  obtain ⟨h0, hq⟩ := hq
  refine Ct.of (by decide) (Nat.le_of_ble_eq_true rfl) ?_
  intro p e s m below meth c ls C hr hlk hn hl hw
  have hx := C.1.1
  have hb := C.1.2.1
  have hl : lv_has ls 2 [(0, .ref a0), (1, .int p1)] := hl
  refine lv_aload_n hx hb dX11_now_0 rfl (lv_at hl 0 rfl) ?_
  obtain ⟨q1, e2, hq⟩ := hq
  refine gfX11_65 C hw hw.2.2.1 h0 e2 dX11_now_1 ?_
  obtain ⟨h3, hq⟩ := hq
  refine gfX11_125 C hw hw.2.2.1 h3 dX11_now_4 ?_
  refine lv_if_eq (tgt := 21) hx hb dX11_now_7 (by decide) (fun c4 => ?_) (fun c4 => ?_)
  · replace hq := hq.1 c4
    refine lv_iconst (v := (-1)) hx hb dX11_now_21 (by decide) ?_
    exact r_iret C hr hlk hw dX11_now_22 (by decide) (by decide) ⟨_, rfl, hq⟩
  · replace hq := hq.2 c4
    refine lv_aload_n hx hb dX11_now_10 rfl (lv_at hl 0 rfl) ?_
    refine gfX11_65 C hw hw.2.2.1 h0 e2 dX11_now_11 ?_
    refine lv_iload_n hx hb dX11_now_14 rfl (lv_at hl 1 rfl) ?_
    refine r_callV (T := TX6) (N := 9) (ci := 6) (index := 209) (n := 1) (d2 := 1) (mc := 0) (ms := 0) (As := [.int p1]) (rest := []) C hw (ct_X6_tell hq) kvX11_209 hq.1 (by decide) rfl ⟨by decide, by decide⟩ ⟨by decide, by decide⟩ rfl hl.1 rfl (Nat.le_of_ble_eq_true rfl) dX11_now_15 (fun r M6 H locs hp hle hw => ?_)
    obtain ⟨v5, rfl, hq⟩ := hp
    refine W.eq (g2 := F0 m 18 ls [.int v5]) rfl ?_
    refine lv_goto (tgt := 22) hx hb dX11_now_18 (by decide) ?_
    exact r_iret C hr hlk hw dX11_now_22 (by decide) (by decide) ⟨_, rfl, hq⟩

def lb_X11_finish_121 (g : Gh) (M0 : Mem) (a0 : Nat) (post : Int32 → Mem → Prop)    (M : Mem) : Prop :=
  ∃ q1, mR M a0 9 = some q1 ∧ (wp_X6_drop g M q1 (fun M4 => post 1 M4))
def bd_X11_finish_61 (g : Gh) (M0 : Mem) (a0 : Nat) (post : Int32 → Mem → Prop)  (bk61 : Int32 × Mem → Prop) (x1 : Int32)  (M : Mem) : Prop :=
  ∃ q5, mR M a0 8 = some q5 ∧ (okc (gB g) M0 q5 8 ∧ ((((mI M q5 2) ≤ x1) → lb_X11_finish_121 g M0 a0 post   M) ∧ (¬ ((mI M q5 2) ≤ x1) → wp_X8_numberAt g M q5 x1 (fun v9 M10 => wp_X11_questionAt g M10 a0 v9 (fun v11 M12 => (v11 = none → bk61 ((x1 + 1), M12)) ∧ (∀ q14, v11 = some q14 → ∃ q15, mR M12 a0 9 = some q15 ∧ (wp_X6_isKnown g M12 q15 x1 (fun v17 M18 => ∃ q19, mR M18 a0 8 = some q19 ∧ (okc (gB g) M0 q19 8 ∧ (wp_X9_addPlay g M18 q14 v17 (mI M18 q19 0) (mI M18 q19 1) (fun M23 => bk61 ((x1 + 1), M23))))))))))))
def wp_X11_finish (g : Gh) (M0 : Mem) (a0 : Nat) (post : Int32 → Mem → Prop) : Prop :=
  okc (gB g) M0 a0 11 ∧ (∃ q24, mR M0 a0 9 = some q24 ∧ (okc (gB g) M0 q24 6 ∧ ((((mI M0 q24 0) = 0) → post 0 M0) ∧ (¬ ((mI M0 q24 0) = 0) → wp_X6_isOver g M0 q24 (fun v28 M29 => ((v28 = 0) → post 0 M29) ∧ (¬ (v28 = 0) → ∃ q31, mR M29 a0 10 = some q31 ∧ (∃ q33, mR M29 a0 8 = some q33 ∧ (okc (gB g) M0 q33 8 ∧ (∃ q36, mR M29 a0 9 = some q36 ∧ (wp_X6_pointsOf g M29 q36 0 (fun v38 M39 => ∃ q40, mR M39 a0 9 = some q40 ∧ (wp_X6_pointsOf g M39 q40 1 (fun v42 M43 => wp_X5_addMatch g M43 q31 (mI M29 q33 0) (mI M29 q33 1) v38 v42 (fun M45 => (∃ n : Nat, lfp (fun bk z => bd_X11_finish_61 g M0 a0 post  bk z.1 z.2) n (0, M45))))))))))))))))
set_option maxHeartbeats 4000000 in
set_option maxRecDepth 100000 in
theorem lt_X11_finish_121 {l : Launch} {g : Gh} {p : Program} {e : Env} {s : State} {m : MethodId} {args : Array Value} {below : List Frame} {meth : Method} {c : Code} {H : Heap} {locs : List Loc} {ls : Array Slot} {M0 M : Mem} {a0 : Nat} {post : Int32 → Mem → Prop}   (C : Cx g p s m args c cX11_finish 3 RX11) (hr : meth.sig.returnType = (some .boolean)) (hlk : meth.locks = false) (hn : meth.name = "finish") (h0 : okc (gB g) M0 a0 11)  (hq : lb_X11_finish_121 g M0 a0 post   M) (hw : Wd g s M0 M H locs) (hl : lv_has ls 3 [(0, .ref a0)]) : W p l e (rmo 3 0 0) s m args below meth c H locs 0 0 (MQ below (Cq g M0 (pI post)) args s 0 0 (gA g)) (F0 m 121 ls []) := by
  have hx := C.1.1
  have hb := C.1.2.1
  unfold lb_X11_finish_121 at hq
  refine lv_aload_n hx hb dX11_finish_121 rfl (lv_at hl 0 rfl) ?_
  obtain ⟨q1, e2, hq⟩ := hq
  refine gfX11_65 C hw hw.2.2.1 h0 e2 dX11_finish_122 ?_
  refine r_callV (T := TX6) (N := 9) (ci := 6) (index := 242) (n := 0) (d2 := 0) (mc := 0) (ms := 0) (As := []) (rest := []) C hw (ct_X6_drop hq) kvX11_242 hq.1 (by decide) rfl ⟨by decide, by decide⟩ ⟨by decide, by decide⟩ rfl hl.1 rfl (Nat.le_of_ble_eq_true rfl) dX11_finish_125 (fun r M4 H locs hp hle hw => ?_)
  obtain ⟨rfl, hq⟩ := hp
  refine W.eq (g2 := F0 m 128 ls []) rfl ?_
  refine lv_iconst (v := 1) hx hb dX11_finish_128 (by decide) ?_
  exact r_zret C hr hlk hw dX11_finish_129 (by decide) (by decide) (by decide) ⟨_, rfl, hq⟩
set_option maxHeartbeats 4000000 in
set_option maxRecDepth 100000 in
theorem lp_X11_finish_61 {l : Launch} {g : Gh} {p : Program} {e : Env} {s : State} {m : MethodId} {args : Array Value} {below : List Frame} {meth : Method} {c : Code} {M0 : Mem} {a0 : Nat} {post : Int32 → Mem → Prop} (C : Cx g p s m args c cX11_finish 3 RX11) (hr : meth.sig.returnType = (some .boolean)) (hlk : meth.locks = false) (hn : meth.name = "finish") (h0 : okc (gB g) M0 a0 11)  : ∀ (nf : Nat) (x1 : Int32)  (M : Mem) (H : Heap) (locs : List Loc) (ls : Array Slot), lfp (fun bk z => bd_X11_finish_61 g M0 a0 post  bk z.1 z.2) nf (x1, M) → Wd g s M0 M H locs → lv_has ls 3 [(0, .ref a0), (1, .int x1)] → W p l e (rmo 3 0 0) s m args below meth c H locs 0 0 (MQ below (Cq g M0 (pI post)) args s 0 0 (gA g)) (F0 m 61 ls []) := by
  have hx := C.1.1
  have hb := C.1.2.1
  intro nf
  induction nf with
  | zero => intro _ _ H locs ls hq; exact hq.elim
  | succ nf hk61 =>
    intro x1 M H locs ls hq hw hl
    replace hq : bd_X11_finish_61 g M0 a0 post  (lfp (fun bk z => bd_X11_finish_61 g M0 a0 post  bk z.1 z.2) nf) x1 M := hq
    unfold bd_X11_finish_61 at hq
    refine lv_iload_n hx hb dX11_finish_61 rfl (lv_at hl 1 rfl) ?_
    refine lv_aload_n hx hb dX11_finish_62 rfl (lv_at hl 0 rfl) ?_
    obtain ⟨q5, e6, hq⟩ := hq
    refine gfX11_56 C hw hw.2.2.1 h0 e6 dX11_finish_63 ?_
    obtain ⟨h7, hq⟩ := hq
    refine gfX11_183 C hw hw.2.2.1 h7 dX11_finish_66 ?_
    refine lv_icmp_ge (tgt := 121) hx hb dX11_finish_69 (by decide) (fun c8 => ?_) (fun c8 => ?_)
    · replace hq := hq.1 c8
      exact lt_X11_finish_121 C hr hlk hn h0  hq hw (lv_sub hl [0] rfl)
    · replace hq := hq.2 c8
      refine lv_aload_n hx hb dX11_finish_72 rfl (lv_at hl 0 rfl) ?_
      refine lv_aload_n hx hb dX11_finish_73 rfl (lv_at hl 0 rfl) ?_
      refine gfX11_56 C hw hw.2.2.1 h0 e6 dX11_finish_74 ?_
      refine lv_iload_n hx hb dX11_finish_77 rfl (lv_at hl 1 rfl) ?_
      refine r_callV (T := TX8) (N := 15) (ci := 8) (index := 180) (n := 1) (d2 := 0) (mc := 0) (ms := 0) (As := [.int x1]) (rest := [.ref a0]) C hw (ct_X8_numberAt hq) kvX11_180 hq.1 (by decide) rfl ⟨by decide, by decide⟩ ⟨by decide, by decide⟩ rfl hl.1 rfl (Nat.le_of_ble_eq_true rfl) dX11_finish_78 (fun r M10 H locs hp hle hw => ?_)
      obtain ⟨v9, rfl, hq⟩ := hp
      refine W.eq (g2 := F0 m 81 ls [.int v9, .ref a0]) rfl ?_
      refine r_callV (T := TX11) (N := 11) (ci := 11) (index := 113) (n := 1) (d2 := 0) (mc := 0) (ms := 0) (As := [.int v9]) (rest := []) C hw (ct_X11_questionAt hq) kvX11_113 hq.1 (by decide) rfl ⟨by decide, by decide⟩ ⟨by decide, by decide⟩ rfl hl.1 rfl (Nat.le_of_ble_eq_true rfl) dX11_finish_81 (fun r M12 H locs hp hle hw => ?_)
      obtain ⟨v11, rfl, hq⟩ := hp
      refine W.eq (g2 := F0 m 84 ls [va_rf v11]) rfl ?_
      refine r_astore_n (lv' := [(2, va_rf v11), (0, .ref a0), (1, .int x1)]) hx hb dX11_finish_84 rfl hl (by decide) (by first | rfl | simp [va_cat]) (fun ls hl => ?_)
      refine r_aload_n hx hb dX11_finish_85 rfl (lv_at hl 0 rfl) ?_
      rcases v11 with _ | q14
      · refine lv_ifnullN (tgt := 115) hx hb dX11_finish_86 (by decide) ?_
        have hl : lv_has ls 3 [(2, .null), (0, .ref a0), (1, .int x1)] := hl
        replace hq := hq.1 rfl
        refine lv_iinc (v := (x1 + 1)) (lv' := [(1, .int (x1 + 1)), (2, .null), (0, .ref a0)]) hx hb dX11_finish_115 hl (k := 2) rfl rfl (by decide) rfl (fun ls hl => ?_)
        refine lv_goto (tgt := 61) hx hb dX11_finish_118 (by decide) ?_
        exact hk61 _ _ _ _ _ hq hw (lv_sub hl [2, 0] rfl)
      · refine lv_ifnull hx hb dX11_finish_86 ?_
        have hl : lv_has ls 3 [(2, .ref q14), (0, .ref a0), (1, .int x1)] := hl
        replace hq := hq.2 q14 rfl
        refine lv_aload_n hx hb dX11_finish_89 rfl (lv_at hl 0 rfl) ?_
        refine lv_aload_n hx hb dX11_finish_90 rfl (lv_at hl 1 rfl) ?_
        obtain ⟨q15, e16, hq⟩ := hq
        refine gfX11_65 C hw hw.2.2.1 h0 e16 dX11_finish_91 ?_
        refine lv_iload_n hx hb dX11_finish_94 rfl (lv_at hl 2 rfl) ?_
        refine r_callV (T := TX6) (N := 9) (ci := 6) (index := 235) (n := 1) (d2 := 0) (mc := 0) (ms := 0) (As := [.int x1]) (rest := [.ref q14]) C hw (ct_X6_isKnown hq) kvX11_235 hq.1 (by decide) rfl ⟨by decide, by decide⟩ ⟨by decide, by decide⟩ rfl hl.1 rfl (Nat.le_of_ble_eq_true rfl) dX11_finish_95 (fun r M18 H locs hp hle hw => ?_)
        obtain ⟨v17, rfl, hq⟩ := hp
        refine W.eq (g2 := F0 m 98 ls [.int v17, .ref q14]) rfl ?_
        refine lv_aload_n hx hb dX11_finish_98 rfl (lv_at hl 1 rfl) ?_
        obtain ⟨q19, e20, hq⟩ := hq
        refine gfX11_56 C hw hw.2.2.1 h0 e20 dX11_finish_99 ?_
        obtain ⟨h21, hq⟩ := hq
        refine gfX11_222 C hw hw.2.2.1 h21 dX11_finish_102 ?_
        refine lv_aload_n hx hb dX11_finish_105 rfl (lv_at hl 1 rfl) ?_
        refine gfX11_56 C hw hw.2.2.1 h0 e20 dX11_finish_106 ?_
        refine gfX11_225 C hw hw.2.2.1 h21 dX11_finish_109 ?_
        refine r_callV (T := TX9) (N := 6) (ci := 9) (index := 238) (n := 3) (d2 := 0) (mc := 0) (ms := 0) (As := [.int v17, .int (mI M18 q19 0), .int (mI M18 q19 1)]) (rest := []) C hw (ct_X9_addPlay hq) kvX11_238 hq.1 (by decide) rfl ⟨by decide, by decide⟩ ⟨by decide, by decide⟩ rfl hl.1 rfl (Nat.le_of_ble_eq_true rfl) dX11_finish_112 (fun r M23 H locs hp hle hw => ?_)
        obtain ⟨rfl, hq⟩ := hp
        refine W.eq (g2 := F0 m 115 ls []) rfl ?_
        refine lv_iinc (v := (x1 + 1)) (lv' := [(1, .int (x1 + 1)), (2, .ref q14), (0, .ref a0)]) hx hb dX11_finish_115 hl (k := 2) rfl rfl (by decide) rfl (fun ls hl => ?_)
        refine lv_goto (tgt := 61) hx hb dX11_finish_118 (by decide) ?_
        exact hk61 _ _ _ _ _ hq hw (lv_sub hl [2, 0] rfl)
set_option maxHeartbeats 4000000 in
set_option maxRecDepth 100000 in
theorem ct_X11_finish {l : Launch} {g : Gh} {M0 : Mem} {a0 : Nat} {post : Int32 → Mem → Prop} (hq : wp_X11_finish g M0 a0 post) : Ct l g yX11_finish cX11_finish 3 (some .boolean) 3 0 0 [.ref a0] M0 (pI post) := by
  unfold wp_X11_finish at hq
  obtain ⟨h0, hq⟩ := hq
  refine Ct.of (by decide) (Nat.le_of_ble_eq_true rfl) ?_
  intro p e s m below meth c ls C hr hlk hn hl hw
  have hx := C.1.1
  have hb := C.1.2.1
  have hl : lv_has ls 3 [(0, .ref a0)] := hl
  refine lv_aload_n hx hb dX11_finish_0 rfl (lv_at hl 0 rfl) ?_
  obtain ⟨q24, e25, hq⟩ := hq
  refine gfX11_65 C hw hw.2.2.1 h0 e25 dX11_finish_1 ?_
  obtain ⟨h26, hq⟩ := hq
  refine gfX11_125 C hw hw.2.2.1 h26 dX11_finish_4 ?_
  refine lv_if_eq (tgt := 20) hx hb dX11_finish_7 (by decide) (fun c27 => ?_) (fun c27 => ?_)
  · replace hq := hq.1 c27
    refine lv_iconst (v := 0) hx hb dX11_finish_20 (by decide) ?_
    exact r_zret C hr hlk hw dX11_finish_21 (by decide) (by decide) (by decide) ⟨_, rfl, hq⟩
  · replace hq := hq.2 c27
    refine lv_aload_n hx hb dX11_finish_10 rfl (lv_at hl 0 rfl) ?_
    refine gfX11_65 C hw hw.2.2.1 h0 e25 dX11_finish_11 ?_
    refine r_callV (T := TX6) (N := 9) (ci := 6) (index := 219) (n := 0) (d2 := 0) (mc := 0) (ms := 0) (As := []) (rest := []) C hw (ct_X6_isOver hq) kvX11_219 hq.1 (by decide) rfl ⟨by decide, by decide⟩ ⟨by decide, by decide⟩ rfl hl.1 rfl (Nat.le_of_ble_eq_true rfl) dX11_finish_14 (fun r M29 H locs hp hle hw => ?_)
    obtain ⟨v28, rfl, hq⟩ := hp
    refine W.eq (g2 := F0 m 17 ls [.int v28]) rfl ?_
    refine lv_if_ne (tgt := 22) hx hb dX11_finish_17 (by decide) (fun c30 => ?_) (fun c30 => ?_)
    · replace hq := hq.2 c30
      refine lv_aload_n hx hb dX11_finish_22 rfl (lv_at hl 0 rfl) ?_
      obtain ⟨q31, e32, hq⟩ := hq
      refine gfX11_72 C hw hw.2.2.1 h0 e32 dX11_finish_23 ?_
      refine lv_aload_n hx hb dX11_finish_26 rfl (lv_at hl 0 rfl) ?_
      obtain ⟨q33, e34, hq⟩ := hq
      refine gfX11_56 C hw hw.2.2.1 h0 e34 dX11_finish_27 ?_
      obtain ⟨h35, hq⟩ := hq
      refine gfX11_222 C hw hw.2.2.1 h35 dX11_finish_30 ?_
      refine lv_aload_n hx hb dX11_finish_33 rfl (lv_at hl 0 rfl) ?_
      refine gfX11_56 C hw hw.2.2.1 h0 e34 dX11_finish_34 ?_
      refine gfX11_225 C hw hw.2.2.1 h35 dX11_finish_37 ?_
      refine lv_aload_n hx hb dX11_finish_40 rfl (lv_at hl 0 rfl) ?_
      obtain ⟨q36, e37, hq⟩ := hq
      refine gfX11_65 C hw hw.2.2.1 h0 e37 dX11_finish_41 ?_
      refine lv_iconst (v := 0) hx hb dX11_finish_44 (by decide) ?_
      refine r_callV (T := TX6) (N := 9) (ci := 6) (index := 228) (n := 1) (d2 := 0) (mc := 0) (ms := 0) (As := [.int 0]) (rest := [.int (mI M29 q33 1), .int (mI M29 q33 0), .ref q31]) C hw (ct_X6_pointsOf hq) kvX11_228 hq.1 (by decide) rfl ⟨by decide, by decide⟩ ⟨by decide, by decide⟩ rfl hl.1 rfl (Nat.le_of_ble_eq_true rfl) dX11_finish_45 (fun r M39 H locs hp hle hw => ?_)
      obtain ⟨v38, rfl, hq⟩ := hp
      refine W.eq (g2 := F0 m 48 ls [.int v38, .int (mI M29 q33 1), .int (mI M29 q33 0), .ref q31]) rfl ?_
      refine lv_aload_n hx hb dX11_finish_48 rfl (lv_at hl 0 rfl) ?_
      obtain ⟨q40, e41, hq⟩ := hq
      refine gfX11_65 C hw hw.2.2.1 h0 e41 dX11_finish_49 ?_
      refine lv_iconst (v := 1) hx hb dX11_finish_52 (by decide) ?_
      refine r_callV (T := TX6) (N := 9) (ci := 6) (index := 228) (n := 1) (d2 := 0) (mc := 0) (ms := 0) (As := [.int 1]) (rest := [.int v38, .int (mI M29 q33 1), .int (mI M29 q33 0), .ref q31]) C hw (ct_X6_pointsOf hq) kvX11_228 hq.1 (by decide) rfl ⟨by decide, by decide⟩ ⟨by decide, by decide⟩ rfl hl.1 rfl (Nat.le_of_ble_eq_true rfl) dX11_finish_53 (fun r M43 H locs hp hle hw => ?_)
      obtain ⟨v42, rfl, hq⟩ := hp
      refine W.eq (g2 := F0 m 56 ls [.int v42, .int v38, .int (mI M29 q33 1), .int (mI M29 q33 0), .ref q31]) rfl ?_
      refine r_callV (T := TX5) (N := 5) (ci := 5) (index := 231) (n := 4) (d2 := 2) (mc := 0) (ms := 0) (As := [.int (mI M29 q33 0), .int (mI M29 q33 1), .int v38, .int v42]) (rest := []) C hw (ct_X5_addMatch hq) kvX11_231 hq.1 (by decide) rfl ⟨by decide, by decide⟩ ⟨by decide, by decide⟩ rfl hl.1 rfl (Nat.le_of_ble_eq_true rfl) dX11_finish_56 (fun r M45 H locs hp hle hw => ?_)
      obtain ⟨rfl, hq⟩ := hp
      refine W.eq (g2 := F0 m 59 ls []) rfl ?_
      refine lv_iconst (v := 0) hx hb dX11_finish_59 (by decide) ?_
      refine lv_istore_n (lv' := [(1, .int 0), (0, .ref a0)]) hx hb dX11_finish_60 rfl hl (by decide) rfl (fun ls hl => ?_)
      obtain ⟨nf, hq⟩ := hq
      exact lp_X11_finish_61 C hr hlk hn h0  nf _ _ _ _ _ hq hw (lv_sub hl [1, 0] rfl)
    · replace hq := hq.1 c30
      refine lv_iconst (v := 0) hx hb dX11_finish_20 (by decide) ?_
      exact r_zret C hr hlk hw dX11_finish_21 (by decide) (by decide) (by decide) ⟨_, rfl, hq⟩

def wp_X11_call (g : Gh) (M0 : Mem) (a0 : Nat) (post : Int32 → Mem → Prop) : Prop :=
  okc (gB g) M0 a0 11 ∧ (∃ q1, mR M0 a0 9 = some q1 ∧ (okc (gB g) M0 q1 6 ∧ (wp_X6_drop g M0 q1 (fun M5 => ((mI M0 q1 0) = 0 ∨ (mI M0 q1 0) = 1) ∧ (post (mI M0 q1 0) M5)))))
set_option maxHeartbeats 4000000 in
set_option maxRecDepth 100000 in
theorem ct_X11_call {l : Launch} {g : Gh} {M0 : Mem} {a0 : Nat} {post : Int32 → Mem → Prop} (hq : wp_X11_call g M0 a0 post) : Ct l g yX11_call cX11_call 2 (some .boolean) 1 0 0 [.ref a0] M0 (pI post) := by
  unfold wp_X11_call at hq
  obtain ⟨h0, hq⟩ := hq
  refine Ct.of (by decide) (Nat.le_of_ble_eq_true rfl) ?_
  intro p e s m below meth c ls C hr hlk hn hl hw
  have hx := C.1.1
  have hb := C.1.2.1
  have hl : lv_has ls 2 [(0, .ref a0)] := hl
  refine lv_aload_n hx hb dX11_call_0 rfl (lv_at hl 0 rfl) ?_
  obtain ⟨q1, e2, hq⟩ := hq
  refine gfX11_65 C hw hw.2.2.1 h0 e2 dX11_call_1 ?_
  obtain ⟨h3, hq⟩ := hq
  refine gfX11_125 C hw hw.2.2.1 h3 dX11_call_4 ?_
  refine lv_istore_n (lv' := [(1, .int (mI M0 q1 0)), (0, .ref a0)]) hx hb dX11_call_7 rfl hl (by decide) rfl (fun ls hl => ?_)
  refine lv_aload_n hx hb dX11_call_8 rfl (lv_at hl 1 rfl) ?_
  refine gfX11_65 C hw hw.2.2.1 h0 e2 dX11_call_9 ?_
  refine r_callV (T := TX6) (N := 9) (ci := 6) (index := 242) (n := 0) (d2 := 0) (mc := 0) (ms := 0) (As := []) (rest := []) C hw (ct_X6_drop hq) kvX11_242 hq.1 (by decide) rfl ⟨by decide, by decide⟩ ⟨by decide, by decide⟩ rfl hl.1 rfl (Nat.le_of_ble_eq_true rfl) dX11_call_12 (fun r M5 H locs hp hle hw => ?_)
  obtain ⟨rfl, hq⟩ := hp
  refine W.eq (g2 := F0 m 15 ls []) rfl ?_
  refine lv_iload_n hx hb dX11_call_15 rfl (lv_at hl 0 rfl) ?_
  obtain ⟨h6, hq⟩ := hq
  exact r_zret C hr hlk hw dX11_call_16 (by decide) (by decide) h6 ⟨_, rfl, hq⟩
