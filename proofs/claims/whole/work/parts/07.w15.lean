set_option maxRecDepth 100000 in
def lb_X8_search_174  (g : Gh) (M0 : Mem) (a0 : Nat) (p1 : Int32) (p2 : Int32) (post : Int32 → Mem → Prop) (bk28 : Int32 × Int32 × Mem → Prop) (x3 : Int32) (x4 : Int32)  (M : Mem) : Prop :=
  bk28 (x3, x4, M)
set_option maxRecDepth 100000 in
def lb_X8_search_117  (g : Gh) (M0 : Mem) (a0 : Nat) (p1 : Int32) (p2 : Int32) (post : Int32 → Mem → Prop) (bk28 : Int32 × Int32 × Mem → Prop) (x4 : Int32) (s0 : Int32) (M : Mem) : Prop :=
  (((mI M a0 7) ≤ s0) → (((mI M a0 9) ≤ 0) → post 1 M) ∧ (¬ ((mI M a0 9) ≤ 0) → wp_X8_takeOut g M a0 (fun v3 M4 => lb_X8_search_174  g M0 a0 p1 p2 post bk28 (v3 + 1) (x4 + 1) M4))) ∧ (¬ ((mI M a0 7) ≤ s0) → (((mI M a0 3) < p2) → wp_X8_putIn g M a0 s0 (fun M7 => lb_X8_search_174  g M0 a0 p1 p2 post bk28 (s0 + 1) (x4 + 1) M7)) ∧ (¬ ((mI M a0 3) < p2) → post 2 M))
set_option maxRecDepth 100000 in
def lb_X8_search_100  (g : Gh) (M0 : Mem) (a0 : Nat) (p1 : Int32) (p2 : Int32) (post : Int32 → Mem → Prop) (bk28 : Int32 × Int32 × Mem → Prop) (x3 : Int32) (x4 : Int32) (x5 : Int32)  (M : Mem) : Prop :=
  ((x5 = 0) → wp_X8_nextWithRoom g M a0 x3 (fun v9 M10 => lb_X8_search_117  g M0 a0 p1 p2 post bk28 x4 v9 M10)) ∧ (¬ (x5 = 0) → lb_X8_search_117  g M0 a0 p1 p2 post bk28 x4 (mI M a0 7) M)
set_option maxRecDepth 100000 in
def lb_X8_search_90  (g : Gh) (M0 : Mem) (a0 : Nat) (p1 : Int32) (p2 : Int32) (post : Int32 → Mem → Prop)    (M : Mem) : Prop :=
  ∀ M11, M11 = uI M a0 2 (mI M a0 9) → (post 0 M11)
set_option maxRecDepth 100000 in
def lb_X8_search_61  (g : Gh) (M0 : Mem) (a0 : Nat) (p1 : Int32) (p2 : Int32) (post : Int32 → Mem → Prop) (bk28 : Int32 × Int32 × Mem → Prop) (x3 : Int32) (x4 : Int32) (s0 : Int32) (M : Mem) : Prop :=
  ((s0 = 0) → lb_X8_search_100  g M0 a0 p1 p2 post bk28 x3 x4 s0 M) ∧ (¬ (s0 = 0) → (((mI M a0 11) < (mI M a0 13)) → lb_X8_search_100  g M0 a0 p1 p2 post bk28 x3 x4 s0 M) ∧ (¬ ((mI M a0 11) < (mI M a0 13)) → (((mI M a0 14) < (mI M a0 11)) → lb_X8_search_100  g M0 a0 p1 p2 post bk28 x3 x4 s0 M) ∧ (¬ ((mI M a0 14) < (mI M a0 11)) → lb_X8_search_90  g M0 a0 p1 p2 post   M)))
set_option maxRecDepth 100000 in
def bd_X8_search_28  (g : Gh) (M0 : Mem) (a0 : Nat) (p1 : Int32) (p2 : Int32) (post : Int32 → Mem → Prop)  (bk28 : Int32 × Int32 × Mem → Prop) (x3 : Int32) (x4 : Int32)  (M : Mem) : Prop :=
  (((2 * p2) < x4) → post 2 M) ∧ (¬ ((2 * p2) < x4) → ((p1 ≤ (mI M a0 9)) → lb_X8_search_61  g M0 a0 p1 p2 post bk28 x3 x4 1 M) ∧ (¬ (p1 ≤ (mI M a0 9)) → ∃ q18, mR M a0 8 = some q18 ∧ (okc (gB g) M0 q18 14 ∧ ((((mI M a0 9) < (nI (mN M0 q18))) → lb_X8_search_61  g M0 a0 p1 p2 post bk28 x3 x4 0 M) ∧ (¬ ((mI M a0 9) < (nI (mN M0 q18))) → lb_X8_search_61  g M0 a0 p1 p2 post bk28 x3 x4 1 M)))))
set_option maxRecDepth 100000 in
def wp_X8_search  (g : Gh) (M0 : Mem) (a0 : Nat) (p1 : Int32) (p2 : Int32) (post : Int32 → Mem → Prop) : Prop :=
  okc (gB g) M0 a0 8 ∧ (∀ M22, M22 = uI M0 a0 9 0 → (∀ M24, M24 = uI M22 a0 11 0 → (∀ M26, M26 = uI M24 a0 3 0 → (∃ q28, mR M26 a0 10 = some q28 ∧ (wp_J7_fill_53178 g M26 q28 0 (fun M31 => (∃ n : Nat, lfp (fun bk z => bd_X8_search_28  g M0 a0 p1 p2 post  bk z.1 z.2.1 z.2.2) n (0, 0, M31))))))))
set_option maxHeartbeats 4000000 in
set_option maxRecDepth 100000 in
theorem lt_X8_search_174 {l : Launch} {g : Gh} {p : Program} {e : Env} {s : State} {m : MethodId} {args : Array Value} {below : List Frame} {meth : Method} {c : Code} {H : Heap} {locs : List Loc} {ls : Array Slot} {M0 M : Mem} {a0 : Nat} {p1 : Int32} {p2 : Int32} {post : Int32 → Mem → Prop} {x3 : Int32} {x4 : Int32}   (C : Cx g p s m args c cX8_search 7 RX8) (hr : meth.sig.returnType = (some .int)) (hlk : meth.locks = false) (hn : meth.name = "search") (h0 : okc (gB g) M0 a0 8) {bk28 : Int32 × Int32 × Mem → Prop} (hk28 : ∀ (x3 : Int32) (x4 : Int32) (M : Mem) (H : Heap) (locs : List Loc) (ls : Array Slot), bk28 (x3, x4, M) → Wd g s M0 M H locs → lv_has ls 7 [(0, .ref a0), (1, .int p1), (2, .int p2), (3, .int x3), (4, .int x4)] → W p l e (rmo 2 0 0) s m args below meth c H locs 0 0 (MQ below (Cq g M0 (pI post)) args s 0 0 (gA g)) (F0 m 28 ls [])) (hq : lb_X8_search_174  g M0 a0 p1 p2 post bk28 x3 x4 M) (hw : Wd g s M0 M H locs) (hl : lv_has ls 7 [(0, .ref a0), (1, .int p1), (2, .int p2), (3, .int x3), (4, .int x4)]) : W p l e (rmo 2 0 0) s m args below meth c H locs 0 0 (MQ below (Cq g M0 (pI post)) args s 0 0 (gA g)) (F0 m 174 ls []) := by
  have hx := C.1.1
  have hb := C.1.2.1
  unfold lb_X8_search_174 at hq
  refine lv_goto (tgt := 28) hx hb dX8_search_174 (by decide) ?_
  exact hk28 _ _ _ _ _ _ hq hw (lv_sub hl [0, 1, 2, 3, 4] rfl)
set_option maxHeartbeats 4000000 in
set_option maxRecDepth 100000 in
theorem lt_X8_search_117 {l : Launch} {g : Gh} {p : Program} {e : Env} {s : State} {m : MethodId} {args : Array Value} {below : List Frame} {meth : Method} {c : Code} {H : Heap} {locs : List Loc} {ls : Array Slot} {M0 M : Mem} {a0 : Nat} {p1 : Int32} {p2 : Int32} {post : Int32 → Mem → Prop} {x4 : Int32} {s0 : Int32}  (C : Cx g p s m args c cX8_search 7 RX8) (hr : meth.sig.returnType = (some .int)) (hlk : meth.locks = false) (hn : meth.name = "search") (h0 : okc (gB g) M0 a0 8) {bk28 : Int32 × Int32 × Mem → Prop} (hk28 : ∀ (x3 : Int32) (x4 : Int32) (M : Mem) (H : Heap) (locs : List Loc) (ls : Array Slot), bk28 (x3, x4, M) → Wd g s M0 M H locs → lv_has ls 7 [(0, .ref a0), (1, .int p1), (2, .int p2), (3, .int x3), (4, .int x4)] → W p l e (rmo 2 0 0) s m args below meth c H locs 0 0 (MQ below (Cq g M0 (pI post)) args s 0 0 (gA g)) (F0 m 28 ls [])) (hq : lb_X8_search_117  g M0 a0 p1 p2 post bk28 x4 s0 M) (hw : Wd g s M0 M H locs) (hl : lv_has ls 7 [(0, .ref a0), (1, .int p1), (2, .int p2), (4, .int x4)]) : W p l e (rmo 2 0 0) s m args below meth c H locs 0 0 (MQ below (Cq g M0 (pI post)) args s 0 0 (gA g)) (F0 m 117 ls [.int s0]) := by
  have hx := C.1.1
  have hb := C.1.2.1
  unfold lb_X8_search_117 at hq
  refine lv_istore (lv' := [(6, .int s0), (0, .ref a0), (1, .int p1), (2, .int p2), (4, .int x4)]) hx hb dX8_search_117 hl (by decide) rfl (fun ls hl => ?_)
  refine lv_iload hx hb dX8_search_119 (lv_at hl 0 rfl) ?_
  refine lv_aload_n hx hb dX8_search_121 rfl (lv_at hl 1 rfl) ?_
  refine gfX8_37 C hw hw.2.2.1 h0 dX8_search_122 ?_
  refine lv_icmp_ge (tgt := 152) hx hb dX8_search_125 (by decide) (fun c1 => ?_) (fun c1 => ?_)
  · replace hq := hq.1 c1
    refine lv_aload_n hx hb dX8_search_152 rfl (lv_at hl 1 rfl) ?_
    refine gfX8_62 C hw hw.2.2.1 h0 dX8_search_153 ?_
    refine lv_if_le (tgt := 169) hx hb dX8_search_156 (by decide) (fun c2 => ?_) (fun c2 => ?_)
    · replace hq := hq.1 c2
      refine lv_iconst (v := 1) hx hb dX8_search_169 (by decide) ?_
      exact r_iret C hr hlk hw dX8_search_170 (Nat.le_refl _) (Nat.le_refl _) ⟨_, rfl, hq⟩
    · replace hq := hq.2 c2
      refine lv_aload_n hx hb dX8_search_159 rfl (lv_at hl 1 rfl) ?_
      refine r_callV (T := TX8) (N := 15) (ci := 8) (index := 85) (n := 0) (d2 := 1) (mc := 0) (ms := 0) (As := []) (rest := []) C hw (ct_X8_takeOut hq) kvX8_85 hq.1 (by decide) rfl ⟨by decide, by decide⟩ ⟨by decide, by decide⟩ rfl hl.1 rfl (Nat.le_of_ble_eq_true rfl) dX8_search_160 (fun r M4 H locs hp hle hw => ?_)
      obtain ⟨v3, rfl, hq⟩ := hp
      refine W.eq (g2 := F0 m 163 ls [.int v3]) rfl ?_
      refine lv_iconst (v := 1) hx hb dX8_search_163 (by decide) ?_
      refine lv_iadd hx hb dX8_search_164 ?_
      refine lv_istore_n (lv' := [(3, .int (v3 + 1)), (6, .int s0), (0, .ref a0), (1, .int p1), (2, .int p2), (4, .int x4)]) hx hb dX8_search_165 rfl hl (by decide) rfl (fun ls hl => ?_)
      refine lv_goto (tgt := 171) hx hb dX8_search_166 (by decide) ?_
      refine lv_iinc (v := (x4 + 1)) (lv' := [(4, .int (x4 + 1)), (3, .int (v3 + 1)), (6, .int s0), (0, .ref a0), (1, .int p1), (2, .int p2)]) hx hb dX8_search_171 hl (k := 5) rfl rfl (by decide) rfl (fun ls hl => ?_)
      exact lt_X8_search_174  C hr hlk hn h0 hk28 hq hw (lv_sub hl [3, 4, 5, 1, 0] rfl)
  · replace hq := hq.2 c1
    refine lv_aload_n hx hb dX8_search_128 rfl (lv_at hl 1 rfl) ?_
    refine gfX8_68 C hw hw.2.2.1 h0 dX8_search_129 ?_
    refine lv_iload_n hx hb dX8_search_132 rfl (lv_at hl 3 rfl) ?_
    refine lv_icmp_lt (tgt := 138) hx hb dX8_search_133 (by decide) (fun c5 => ?_) (fun c5 => ?_)
    · replace hq := hq.1 c5
      refine lv_aload_n hx hb dX8_search_138 rfl (lv_at hl 1 rfl) ?_
      refine lv_iload hx hb dX8_search_139 (lv_at hl 0 rfl) ?_
      refine r_callV (T := TX8) (N := 15) (ci := 8) (index := 81) (n := 1) (d2 := 1) (mc := 0) (ms := 0) (As := [.int s0]) (rest := []) C hw (ct_X8_putIn hq) kvX8_81 hq.1 (by decide) rfl ⟨by decide, by decide⟩ ⟨by decide, by decide⟩ rfl hl.1 rfl (Nat.le_of_ble_eq_true rfl) dX8_search_141 (fun r M7 H locs hp hle hw => ?_)
      obtain ⟨rfl, hq⟩ := hp
      refine W.eq (g2 := F0 m 144 ls []) rfl ?_
      refine lv_iload hx hb dX8_search_144 (lv_at hl 0 rfl) ?_
      refine lv_iconst (v := 1) hx hb dX8_search_146 (by decide) ?_
      refine lv_iadd hx hb dX8_search_147 ?_
      refine lv_istore_n (lv' := [(3, .int (s0 + 1)), (6, .int s0), (0, .ref a0), (1, .int p1), (2, .int p2), (4, .int x4)]) hx hb dX8_search_148 rfl hl (by decide) rfl (fun ls hl => ?_)
      refine lv_goto (tgt := 171) hx hb dX8_search_149 (by decide) ?_
      refine lv_iinc (v := (x4 + 1)) (lv' := [(4, .int (x4 + 1)), (3, .int (s0 + 1)), (6, .int s0), (0, .ref a0), (1, .int p1), (2, .int p2)]) hx hb dX8_search_171 hl (k := 5) rfl rfl (by decide) rfl (fun ls hl => ?_)
      exact lt_X8_search_174  C hr hlk hn h0 hk28 hq hw (lv_sub hl [3, 4, 5, 1, 0] rfl)
    · replace hq := hq.2 c5
      refine lv_iconst (v := 2) hx hb dX8_search_136 (by decide) ?_
      exact r_iret C hr hlk hw dX8_search_137 (Nat.le_refl _) (Nat.le_refl _) ⟨_, rfl, hq⟩
set_option maxHeartbeats 4000000 in
set_option maxRecDepth 100000 in
theorem lt_X8_search_100 {l : Launch} {g : Gh} {p : Program} {e : Env} {s : State} {m : MethodId} {args : Array Value} {below : List Frame} {meth : Method} {c : Code} {H : Heap} {locs : List Loc} {ls : Array Slot} {M0 M : Mem} {a0 : Nat} {p1 : Int32} {p2 : Int32} {post : Int32 → Mem → Prop} {x3 : Int32} {x4 : Int32} {x5 : Int32}   (C : Cx g p s m args c cX8_search 7 RX8) (hr : meth.sig.returnType = (some .int)) (hlk : meth.locks = false) (hn : meth.name = "search") (h0 : okc (gB g) M0 a0 8) {bk28 : Int32 × Int32 × Mem → Prop} (hk28 : ∀ (x3 : Int32) (x4 : Int32) (M : Mem) (H : Heap) (locs : List Loc) (ls : Array Slot), bk28 (x3, x4, M) → Wd g s M0 M H locs → lv_has ls 7 [(0, .ref a0), (1, .int p1), (2, .int p2), (3, .int x3), (4, .int x4)] → W p l e (rmo 2 0 0) s m args below meth c H locs 0 0 (MQ below (Cq g M0 (pI post)) args s 0 0 (gA g)) (F0 m 28 ls [])) (hq : lb_X8_search_100  g M0 a0 p1 p2 post bk28 x3 x4 x5 M) (hw : Wd g s M0 M H locs) (hl : lv_has ls 7 [(0, .ref a0), (1, .int p1), (2, .int p2), (3, .int x3), (4, .int x4), (5, .int x5)]) : W p l e (rmo 2 0 0) s m args below meth c H locs 0 0 (MQ below (Cq g M0 (pI post)) args s 0 0 (gA g)) (F0 m 100 ls []) := by
  have hx := C.1.1
  have hb := C.1.2.1
  unfold lb_X8_search_100 at hq
  refine lv_iload hx hb dX8_search_100 (lv_at hl 5 rfl) ?_
  refine lv_if_eq (tgt := 112) hx hb dX8_search_102 (by decide) (fun c8 => ?_) (fun c8 => ?_)
  · replace hq := hq.1 c8
    refine lv_aload_n hx hb dX8_search_112 rfl (lv_at hl 0 rfl) ?_
    refine lv_iload_n hx hb dX8_search_113 rfl (lv_at hl 3 rfl) ?_
    refine r_callV (T := TX8) (N := 15) (ci := 8) (index := 77) (n := 1) (d2 := 0) (mc := 0) (ms := 0) (As := [.int x3]) (rest := []) C hw (ct_X8_nextWithRoom hq) kvX8_77 hq.1 (by decide) rfl ⟨by decide, by decide⟩ ⟨by decide, by decide⟩ rfl hl.1 rfl (Nat.le_of_ble_eq_true rfl) dX8_search_114 (fun r M10 H locs hp hle hw => ?_)
    obtain ⟨v9, rfl, hq⟩ := hp
    refine W.eq (g2 := F0 m 117 ls [.int v9]) rfl ?_
    exact lt_X8_search_117  C hr hlk hn h0 hk28 hq hw (lv_sub hl [0, 1, 2, 4] rfl)
  · replace hq := hq.2 c8
    refine lv_aload_n hx hb dX8_search_105 rfl (lv_at hl 0 rfl) ?_
    refine gfX8_37 C hw hw.2.2.1 h0 dX8_search_106 ?_
    refine lv_goto (tgt := 117) hx hb dX8_search_109 (by decide) ?_
    exact lt_X8_search_117  C hr hlk hn h0 hk28 hq hw (lv_sub hl [0, 1, 2, 4] rfl)
set_option maxHeartbeats 4000000 in
set_option maxRecDepth 100000 in
theorem lt_X8_search_90 {l : Launch} {g : Gh} {p : Program} {e : Env} {s : State} {m : MethodId} {args : Array Value} {below : List Frame} {meth : Method} {c : Code} {H : Heap} {locs : List Loc} {ls : Array Slot} {M0 M : Mem} {a0 : Nat} {p1 : Int32} {p2 : Int32} {post : Int32 → Mem → Prop}    (C : Cx g p s m args c cX8_search 7 RX8) (hr : meth.sig.returnType = (some .int)) (hlk : meth.locks = false) (hn : meth.name = "search") (h0 : okc (gB g) M0 a0 8)  (hq : lb_X8_search_90  g M0 a0 p1 p2 post   M) (hw : Wd g s M0 M H locs) (hl : lv_has ls 7 [(0, .ref a0), (1, .int p1), (2, .int p2)]) : W p l e (rmo 2 0 0) s m args below meth c H locs 0 0 (MQ below (Cq g M0 (pI post)) args s 0 0 (gA g)) (F0 m 90 ls []) := by
  have hx := C.1.1
  have hb := C.1.2.1
  unfold lb_X8_search_90 at hq
  refine lv_aload_n hx hb dX8_search_90 rfl (lv_at hl 0 rfl) ?_
  refine lv_aload_n hx hb dX8_search_91 rfl (lv_at hl 0 rfl) ?_
  refine gfX8_62 C hw hw.2.2.1 h0 dX8_search_92 ?_
  refine pfX8_34 C hw hw.2.2.1 h0 dX8_search_95 (fun H locs hw => ?_)
  generalize e12 : uI M a0 2 (mI M a0 9) = M11 at hw
  replace hq := hq M11 e12.symm
  refine lv_iconst (v := 0) hx hb dX8_search_98 (by decide) ?_
  exact r_iret C hr hlk hw dX8_search_99 (Nat.le_refl _) (Nat.le_refl _) ⟨_, rfl, hq⟩
set_option maxHeartbeats 4000000 in
set_option maxRecDepth 100000 in
theorem lt_X8_search_61 {l : Launch} {g : Gh} {p : Program} {e : Env} {s : State} {m : MethodId} {args : Array Value} {below : List Frame} {meth : Method} {c : Code} {H : Heap} {locs : List Loc} {ls : Array Slot} {M0 M : Mem} {a0 : Nat} {p1 : Int32} {p2 : Int32} {post : Int32 → Mem → Prop} {x3 : Int32} {x4 : Int32} {s0 : Int32}  (C : Cx g p s m args c cX8_search 7 RX8) (hr : meth.sig.returnType = (some .int)) (hlk : meth.locks = false) (hn : meth.name = "search") (h0 : okc (gB g) M0 a0 8) {bk28 : Int32 × Int32 × Mem → Prop} (hk28 : ∀ (x3 : Int32) (x4 : Int32) (M : Mem) (H : Heap) (locs : List Loc) (ls : Array Slot), bk28 (x3, x4, M) → Wd g s M0 M H locs → lv_has ls 7 [(0, .ref a0), (1, .int p1), (2, .int p2), (3, .int x3), (4, .int x4)] → W p l e (rmo 2 0 0) s m args below meth c H locs 0 0 (MQ below (Cq g M0 (pI post)) args s 0 0 (gA g)) (F0 m 28 ls [])) (hq : lb_X8_search_61  g M0 a0 p1 p2 post bk28 x3 x4 s0 M) (hw : Wd g s M0 M H locs) (hl : lv_has ls 7 [(0, .ref a0), (1, .int p1), (2, .int p2), (3, .int x3), (4, .int x4)]) : W p l e (rmo 2 0 0) s m args below meth c H locs 0 0 (MQ below (Cq g M0 (pI post)) args s 0 0 (gA g)) (F0 m 61 ls [.int s0]) := by
  have hx := C.1.1
  have hb := C.1.2.1
  unfold lb_X8_search_61 at hq
  refine lv_istore (lv' := [(5, .int s0), (0, .ref a0), (1, .int p1), (2, .int p2), (3, .int x3), (4, .int x4)]) hx hb dX8_search_61 hl (by decide) rfl (fun ls hl => ?_)
  refine lv_iload hx hb dX8_search_63 (lv_at hl 0 rfl) ?_
  refine lv_if_eq (tgt := 100) hx hb dX8_search_65 (by decide) (fun c13 => ?_) (fun c13 => ?_)
  · replace hq := hq.1 c13
    exact lt_X8_search_100  C hr hlk hn h0 hk28 hq hw (lv_sub hl [1, 2, 3, 4, 5, 0] rfl)
  · replace hq := hq.2 c13
    refine lv_aload_n hx hb dX8_search_68 rfl (lv_at hl 1 rfl) ?_
    refine gfX8_56 C hw hw.2.2.1 h0 dX8_search_69 ?_
    refine lv_aload_n hx hb dX8_search_72 rfl (lv_at hl 1 rfl) ?_
    refine gfX8_65 C hw hw.2.2.1 h0 dX8_search_73 ?_
    refine lv_icmp_gt (tgt := 100) hx hb dX8_search_76 (by decide) (fun c14 => ?_) (fun c14 => ?_)
    · replace hq := hq.1 c14
      exact lt_X8_search_100  C hr hlk hn h0 hk28 hq hw (lv_sub hl [1, 2, 3, 4, 5, 0] rfl)
    · replace hq := hq.2 c14
      refine lv_aload_n hx hb dX8_search_79 rfl (lv_at hl 1 rfl) ?_
      refine gfX8_65 C hw hw.2.2.1 h0 dX8_search_80 ?_
      refine lv_aload_n hx hb dX8_search_83 rfl (lv_at hl 1 rfl) ?_
      refine gfX8_59 C hw hw.2.2.1 h0 dX8_search_84 ?_
      refine lv_icmp_gt (tgt := 100) hx hb dX8_search_87 (by decide) (fun c15 => ?_) (fun c15 => ?_)
      · replace hq := hq.1 c15
        exact lt_X8_search_100  C hr hlk hn h0 hk28 hq hw (lv_sub hl [1, 2, 3, 4, 5, 0] rfl)
      · replace hq := hq.2 c15
        exact lt_X8_search_90  C hr hlk hn h0  hq hw (lv_sub hl [1, 2, 3] rfl)
set_option maxHeartbeats 4000000 in
set_option maxRecDepth 100000 in
theorem lp_X8_search_28 {l : Launch} {g : Gh} {p : Program} {e : Env} {s : State} {m : MethodId} {args : Array Value} {below : List Frame} {meth : Method} {c : Code} {M0 : Mem} {a0 : Nat} {p1 : Int32} {p2 : Int32} {post : Int32 → Mem → Prop}  (C : Cx g p s m args c cX8_search 7 RX8) (hr : meth.sig.returnType = (some .int)) (hlk : meth.locks = false) (hn : meth.name = "search") (h0 : okc (gB g) M0 a0 8)  : ∀ (nf : Nat) (x3 : Int32) (x4 : Int32)  (M : Mem) (H : Heap) (locs : List Loc) (ls : Array Slot), lfp (fun bk z => bd_X8_search_28  g M0 a0 p1 p2 post  bk z.1 z.2.1 z.2.2) nf (x3, x4, M) → Wd g s M0 M H locs → lv_has ls 7 [(0, .ref a0), (1, .int p1), (2, .int p2), (3, .int x3), (4, .int x4)] → W p l e (rmo 2 0 0) s m args below meth c H locs 0 0 (MQ below (Cq g M0 (pI post)) args s 0 0 (gA g)) (F0 m 28 ls []) := by
  have hx := C.1.1
  have hb := C.1.2.1
  intro nf
  induction nf with
  | zero => intro _ _ _ H locs ls hq; exact hq.elim
  | succ nf hk28 =>
    intro x3 x4 M H locs ls hq hw hl
    replace hq : bd_X8_search_28  g M0 a0 p1 p2 post  (lfp (fun bk z => bd_X8_search_28  g M0 a0 p1 p2 post  bk z.1 z.2.1 z.2.2) nf) x3 x4 M := hq
    unfold bd_X8_search_28 at hq
    refine lv_iload hx hb dX8_search_28 (lv_at hl 4 rfl) ?_
    refine lv_iconst (v := 2) hx hb dX8_search_30 (by decide) ?_
    refine lv_iload_n hx hb dX8_search_31 rfl (lv_at hl 2 rfl) ?_
    refine lv_imul hx hb dX8_search_32 ?_
    refine lv_icmp_gt (tgt := 177) hx hb dX8_search_33 (by decide) (fun c16 => ?_) (fun c16 => ?_)
    · replace hq := hq.1 c16
      refine lv_iconst (v := 2) hx hb dX8_search_177 (by decide) ?_
      exact r_iret C hr hlk hw dX8_search_178 (Nat.le_refl _) (Nat.le_refl _) ⟨_, rfl, hq⟩
    · replace hq := hq.2 c16
      refine lv_aload_n hx hb dX8_search_36 rfl (lv_at hl 0 rfl) ?_
      refine gfX8_62 C hw hw.2.2.1 h0 dX8_search_37 ?_
      refine lv_iload_n hx hb dX8_search_40 rfl (lv_at hl 1 rfl) ?_
      refine lv_icmp_ge (tgt := 56) hx hb dX8_search_41 (by decide) (fun c17 => ?_) (fun c17 => ?_)
      · replace hq := hq.1 c17
        refine lv_iconst (v := 1) hx hb dX8_search_56 (by decide) ?_
        refine lv_goto (tgt := 61) hx hb dX8_search_57 (by decide) ?_
        exact lt_X8_search_61  C hr hlk hn h0 hk28 hq hw (lv_sub hl [0, 1, 2, 3, 4] rfl)
      · replace hq := hq.2 c17
        refine lv_aload_n hx hb dX8_search_44 rfl (lv_at hl 0 rfl) ?_
        refine gfX8_62 C hw hw.2.2.1 h0 dX8_search_45 ?_
        refine lv_aload_n hx hb dX8_search_48 rfl (lv_at hl 0 rfl) ?_
        obtain ⟨q18, e19, hq⟩ := hq
        refine gfX8_21 C hw hw.2.2.1 h0 e19 dX8_search_49 ?_
        obtain ⟨h20, hq⟩ := hq
        refine q_alen C hw hw.2.2.1 h20 (by decide) (by decide) rfl dX8_search_52 ?_
        refine lv_icmp_lt (tgt := 60) hx hb dX8_search_53 (by decide) (fun c21 => ?_) (fun c21 => ?_)
        · replace hq := hq.1 c21
          refine lv_iconst (v := 0) hx hb dX8_search_60 (by decide) ?_
          exact lt_X8_search_61  C hr hlk hn h0 hk28 hq hw (lv_sub hl [0, 1, 2, 3, 4] rfl)
        · replace hq := hq.2 c21
          refine lv_iconst (v := 1) hx hb dX8_search_56 (by decide) ?_
          refine lv_goto (tgt := 61) hx hb dX8_search_57 (by decide) ?_
          exact lt_X8_search_61  C hr hlk hn h0 hk28 hq hw (lv_sub hl [0, 1, 2, 3, 4] rfl)
set_option maxHeartbeats 4000000 in
set_option maxRecDepth 100000 in
theorem ct_X8_search {l : Launch} {g : Gh} {M0 : Mem} {a0 : Nat} {p1 : Int32} {p2 : Int32} {post : Int32 → Mem → Prop}  (hq : wp_X8_search  g M0 a0 p1 p2 post) : Ct l g yX8_search cX8_search 7 (some .int) 2 0 0 [.ref a0, .int p1, .int p2] M0 (pI post) := by
  unfold wp_X8_search at hq
  obtain ⟨h0, hq⟩ := hq
  refine Ct.of (by decide) (Nat.le_of_ble_eq_true rfl) ?_
  intro p e s m below meth c ls C hr hlk hn hl hw
  have hx := C.1.1
  have hb := C.1.2.1
  have hl : lv_has ls 7 [(0, .ref a0), (1, .int p1), (2, .int p2)] := hl
  refine lv_aload_n hx hb dX8_search_0 rfl (lv_at hl 0 rfl) ?_
  refine lv_iconst (v := 0) hx hb dX8_search_1 (by decide) ?_
  refine pfX8_62 C hw hw.2.2.1 h0 dX8_search_2 (fun H locs hw => ?_)
  generalize e23 : uI M0 a0 9 0 = M22 at hw
  replace hq := hq M22 e23.symm
  refine lv_aload_n hx hb dX8_search_5 rfl (lv_at hl 0 rfl) ?_
  refine lv_iconst (v := 0) hx hb dX8_search_6 (by decide) ?_
  refine pfX8_65 C hw hw.2.2.1 h0 dX8_search_7 (fun H locs hw => ?_)
  generalize e25 : uI M22 a0 11 0 = M24 at hw
  replace hq := hq M24 e25.symm
  refine lv_aload_n hx hb dX8_search_10 rfl (lv_at hl 0 rfl) ?_
  refine lv_iconst (v := 0) hx hb dX8_search_11 (by decide) ?_
  refine pfX8_68 C hw hw.2.2.1 h0 dX8_search_12 (fun H locs hw => ?_)
  generalize e27 : uI M24 a0 3 0 = M26 at hw
  replace hq := hq M26 e27.symm
  refine lv_aload_n hx hb dX8_search_15 rfl (lv_at hl 0 rfl) ?_
  obtain ⟨q28, e29, hq⟩ := hq
  refine gfX8_24 C hw hw.2.2.1 h0 e29 dX8_search_16 ?_
  refine lv_iconst (v := 0) hx hb dX8_search_19 (by decide) ?_
  refine r_callS (index := 71) (n := 2) (d2 := 0) (mc := 0) (ms := 0) (As := [.ref q28, .int 0]) (rest := []) C hw (ct_J7_fill_53178 hq) ksX8_71 ⟨by decide, by decide⟩ ⟨by decide, by decide⟩ rfl hl.1 rfl (Nat.le_of_ble_eq_true rfl) dX8_search_20 (fun r M31 H locs hp hle hw => ?_)
  obtain ⟨rfl, hq⟩ := hp
  refine W.eq (g2 := F0 m 23 ls []) rfl ?_
  refine lv_iconst (v := 0) hx hb dX8_search_23 (by decide) ?_
  refine lv_istore_n (lv' := [(3, .int 0), (0, .ref a0), (1, .int p1), (2, .int p2)]) hx hb dX8_search_24 rfl hl (by decide) rfl (fun ls hl => ?_)
  refine lv_iconst (v := 0) hx hb dX8_search_25 (by decide) ?_
  refine lv_istore (lv' := [(4, .int 0), (3, .int 0), (0, .ref a0), (1, .int p1), (2, .int p2)]) hx hb dX8_search_26 hl (by decide) rfl (fun ls hl => ?_)
  obtain ⟨nf, hq⟩ := hq
  exact lp_X8_search_28  C hr hlk hn h0  nf _ _ _ _ _ _ hq hw (lv_sub hl [2, 3, 4, 1, 0] rfl)

set_option maxRecDepth 100000 in
def wp_X8_numberAt  (g : Gh) (M0 : Mem) (a0 : Nat) (p1 : Int32) (post : Int32 → Mem → Prop) : Prop :=
  okc (gB g) M0 a0 8 ∧ (((p1 < 0) → post (-1) M0) ∧ (¬ (p1 < 0) → (((mI M0 a0 2) ≤ p1) → post (-1) M0) ∧ (¬ ((mI M0 a0 2) ≤ p1) → ∃ q3, mR M0 a0 8 = some q3 ∧ (okc (gB g) M0 q3 14 ∧ (((p1 < (nI (mN M0 q3))) → vp_in p1 (mN M0 q3) ∧ ((((mI M0 q3 (Int32.toNatClampNeg p1)) < 0) → post (-1) M0) ∧ (¬ ((mI M0 q3 (Int32.toNatClampNeg p1)) < 0) → ∃ q9, mR M0 a0 4 = some q9 ∧ (okc (gB g) M0 q9 14 ∧ ((((nI (mN M0 q9)) ≤ (mI M0 q3 (Int32.toNatClampNeg p1))) → post (-1) M0) ∧ (¬ ((nI (mN M0 q9)) ≤ (mI M0 q3 (Int32.toNatClampNeg p1))) → vp_in (mI M0 q3 (Int32.toNatClampNeg p1)) (mN M0 q9) ∧ (post (mI M0 q9 (Int32.toNatClampNeg (mI M0 q3 (Int32.toNatClampNeg p1)))) M0))))))) ∧ (¬ (p1 < (nI (mN M0 q3))) → post (-1) M0))))))
set_option maxHeartbeats 4000000 in
set_option maxRecDepth 100000 in
theorem ct_X8_numberAt {l : Launch} {g : Gh} {M0 : Mem} {a0 : Nat} {p1 : Int32} {post : Int32 → Mem → Prop}  (hq : wp_X8_numberAt  g M0 a0 p1 post) : Ct l g yX8_numberAt cX8_numberAt 3 (some .int) 0 0 0 [.ref a0, .int p1] M0 (pI post) := by
  unfold wp_X8_numberAt at hq
  obtain ⟨h0, hq⟩ := hq
  refine Ct.of (by decide) (Nat.le_of_ble_eq_true rfl) ?_
  intro p e s m below meth c ls C hr hlk hn hl hw
  have hx := C.1.1
  have hb := C.1.2.1
  have hl : lv_has ls 3 [(0, .ref a0), (1, .int p1)] := hl
  refine lv_iload_n hx hb dX8_numberAt_0 rfl (lv_at hl 1 rfl) ?_
  refine lv_if_lt (tgt := 21) hx hb dX8_numberAt_1 (by decide) (fun c1 => ?_) (fun c1 => ?_)
  · replace hq := hq.1 c1
    refine lv_iconst (v := (-1)) hx hb dX8_numberAt_21 (by decide) ?_
    exact r_iret C hr hlk hw dX8_numberAt_22 (Nat.le_refl _) (Nat.le_refl _) ⟨_, rfl, hq⟩
  · replace hq := hq.2 c1
    refine lv_iload_n hx hb dX8_numberAt_4 rfl (lv_at hl 1 rfl) ?_
    refine lv_aload_n hx hb dX8_numberAt_5 rfl (lv_at hl 0 rfl) ?_
    refine gfX8_34 C hw hw.2.2.1 h0 dX8_numberAt_6 ?_
    refine lv_icmp_ge (tgt := 21) hx hb dX8_numberAt_9 (by decide) (fun c2 => ?_) (fun c2 => ?_)
    · replace hq := hq.1 c2
      refine lv_iconst (v := (-1)) hx hb dX8_numberAt_21 (by decide) ?_
      exact r_iret C hr hlk hw dX8_numberAt_22 (Nat.le_refl _) (Nat.le_refl _) ⟨_, rfl, hq⟩
    · replace hq := hq.2 c2
      refine lv_iload_n hx hb dX8_numberAt_12 rfl (lv_at hl 1 rfl) ?_
      refine lv_aload_n hx hb dX8_numberAt_13 rfl (lv_at hl 0 rfl) ?_
      obtain ⟨q3, e4, hq⟩ := hq
      refine gfX8_21 C hw hw.2.2.1 h0 e4 dX8_numberAt_14 ?_
      obtain ⟨h5, hq⟩ := hq
      refine q_alen C hw hw.2.2.1 h5 (by decide) (by decide) rfl dX8_numberAt_17 ?_
      refine lv_icmp_lt (tgt := 23) hx hb dX8_numberAt_18 (by decide) (fun c6 => ?_) (fun c6 => ?_)
      · replace hq := hq.1 c6
        refine lv_aload_n hx hb dX8_numberAt_23 rfl (lv_at hl 0 rfl) ?_
        refine gfX8_21 C hw hw.2.2.1 h0 e4 dX8_numberAt_24 ?_
        refine lv_iload_n hx hb dX8_numberAt_27 rfl (lv_at hl 1 rfl) ?_
        obtain ⟨h7, hq⟩ := hq
        refine q_iald C hw hw.2.2.1 h5 h7 dX8_numberAt_28 ?_
        refine lv_istore_n (lv' := [(2, .int (mI M0 q3 (Int32.toNatClampNeg p1))), (0, .ref a0), (1, .int p1)]) hx hb dX8_numberAt_29 rfl hl (by decide) rfl (fun ls hl => ?_)
        refine lv_iload_n hx hb dX8_numberAt_30 rfl (lv_at hl 0 rfl) ?_
        refine lv_if_lt (tgt := 52) hx hb dX8_numberAt_31 (by decide) (fun c8 => ?_) (fun c8 => ?_)
        · replace hq := hq.1 c8
          refine lv_iconst (v := (-1)) hx hb dX8_numberAt_52 (by decide) ?_
          exact r_iret C hr hlk hw dX8_numberAt_53 (Nat.le_refl _) (Nat.le_refl _) ⟨_, rfl, hq⟩
        · replace hq := hq.2 c8
          refine lv_iload_n hx hb dX8_numberAt_34 rfl (lv_at hl 0 rfl) ?_
          refine lv_aload_n hx hb dX8_numberAt_35 rfl (lv_at hl 1 rfl) ?_
          obtain ⟨q9, e10, hq⟩ := hq
          refine gfX8_9 C hw hw.2.2.1 h0 e10 dX8_numberAt_36 ?_
          obtain ⟨h11, hq⟩ := hq
          refine q_alen C hw hw.2.2.1 h11 (by decide) (by decide) rfl dX8_numberAt_39 ?_
          refine lv_icmp_ge (tgt := 52) hx hb dX8_numberAt_40 (by decide) (fun c12 => ?_) (fun c12 => ?_)
          · replace hq := hq.1 c12
            refine lv_iconst (v := (-1)) hx hb dX8_numberAt_52 (by decide) ?_
            exact r_iret C hr hlk hw dX8_numberAt_53 (Nat.le_refl _) (Nat.le_refl _) ⟨_, rfl, hq⟩
          · replace hq := hq.2 c12
            refine lv_aload_n hx hb dX8_numberAt_43 rfl (lv_at hl 1 rfl) ?_
            refine gfX8_9 C hw hw.2.2.1 h0 e10 dX8_numberAt_44 ?_
            refine lv_iload_n hx hb dX8_numberAt_47 rfl (lv_at hl 0 rfl) ?_
            obtain ⟨h13, hq⟩ := hq
            refine q_iald C hw hw.2.2.1 h11 h13 dX8_numberAt_48 ?_
            refine lv_goto (tgt := 53) hx hb dX8_numberAt_49 (by decide) ?_
            exact r_iret C hr hlk hw dX8_numberAt_53 (Nat.le_refl _) (Nat.le_refl _) ⟨_, rfl, hq⟩
      · replace hq := hq.2 c6
        refine lv_iconst (v := (-1)) hx hb dX8_numberAt_21 (by decide) ?_
        exact r_iret C hr hlk hw dX8_numberAt_22 (Nat.le_refl _) (Nat.le_refl _) ⟨_, rfl, hq⟩

set_option maxRecDepth 100000 in
def wp_X9_init  (g : Gh) (M0 : Mem) (a0 : Nat) (p1 : Int32) (a2 : Nat) (post : Mem → Prop) : Prop :=
  okc (gB g) M0 a0 9 ∧ (∀ M1, M1 = uI M0 a0 0 p1 → (∀ M3, M3 = uR M1 a0 1 (some a2) → (post M3)))
set_option maxHeartbeats 4000000 in
set_option maxRecDepth 100000 in
theorem ct_X9_init {l : Launch} {g : Gh} {M0 : Mem} {a0 : Nat} {p1 : Int32} {a2 : Nat} {post : Mem → Prop}  (hq : wp_X9_init  g M0 a0 p1 a2 post) : Ct l g yX9_init cX9_init 3 none 1 0 0 [.ref a0, .int p1, .ref a2] M0 (pV post) := by
  unfold wp_X9_init at hq
  obtain ⟨h0, hq⟩ := hq
  refine Ct.of (by decide) (Nat.le_of_ble_eq_true rfl) ?_
  intro p e s m below meth c ls C hr hlk hn hl hw
  have hx := C.1.1
  have hb := C.1.2.1
  have hl : lv_has ls 3 [(0, .ref a0), (1, .int p1), (2, .ref a2)] := hl
  refine lv_aload_n hx hb dX9_init_0 rfl (lv_at hl 0 rfl) ?_
  refine W.objInit hx hb C.1.2.2.2.1 (C.1.2.2.2.2 _ w_622) (C.1.2.2.2.2 _ w_35) (C.1.2.2.2.2 _ w_objInit) rfl (by rw [C.1.2.2.1]; exact hl.1) rfl dX9_init_1 (Nat.le_of_ble_eq_true rfl) (Nat.le_of_ble_eq_true rfl) ?_
  refine W.eq (g2 := F0 m 4 ls []) rfl ?_
  refine lv_aload_n hx hb dX9_init_4 rfl (lv_at hl 0 rfl) ?_
  refine lv_iload_n hx hb dX9_init_5 rfl (lv_at hl 1 rfl) ?_
  refine pfX9_9 C hw hw.2.2.1 h0 hn dX9_init_6 (fun H locs hw => ?_)
  generalize e2 : uI M0 a0 0 p1 = M1 at hw
  replace hq := hq M1 e2.symm
  refine lv_aload_n hx hb dX9_init_9 rfl (lv_at hl 0 rfl) ?_
  refine lv_aload_n hx hb dX9_init_10 rfl (lv_at hl 2 rfl) ?_
  refine pfX9_15 (v := (some a2)) C hw hw.2.2.1 h0 hn dX9_init_11 (fun H locs hw => ?_)
  generalize e4 : uR M1 a0 1 (some a2) = M3 at hw
  replace hq := hq M3 e4.symm
  exact r_vret C hr hlk hw dX9_init_14 (Nat.le_refl _) (Nat.le_refl _) ⟨rfl, hq⟩

set_option maxRecDepth 100000 in
def lb_X9_addPlay_24  (g : Gh) (M0 : Mem) (a0 : Nat) (p1 : Int32) (p2 : Int32) (p3 : Int32) (post : Mem → Prop)    (M : Mem) : Prop :=
  ∀ M1, M1 = uI M a0 5 ((mI M a0 5) ||| ((1 <<< (p2 &&& 31)) ||| (1 <<< (p3 &&& 31)))) → (post M1)
set_option maxRecDepth 100000 in
def wp_X9_addPlay  (g : Gh) (M0 : Mem) (a0 : Nat) (p1 : Int32) (p2 : Int32) (p3 : Int32) (post : Mem → Prop) : Prop :=
  okc (gB g) M0 a0 9 ∧ (∀ M3, M3 = uI M0 a0 2 ((mI M0 a0 2) + 1) → (((p1 = 0) → lb_X9_addPlay_24  g M0 a0 p1 p2 p3 post   M3) ∧ (¬ (p1 = 0) → ∀ M6, M6 = uI M3 a0 3 ((mI M3 a0 3) + 1) → (lb_X9_addPlay_24  g M0 a0 p1 p2 p3 post   M6))))
set_option maxHeartbeats 4000000 in
set_option maxRecDepth 100000 in
theorem lt_X9_addPlay_24 {l : Launch} {g : Gh} {p : Program} {e : Env} {s : State} {m : MethodId} {args : Array Value} {below : List Frame} {meth : Method} {c : Code} {H : Heap} {locs : List Loc} {ls : Array Slot} {M0 M : Mem} {a0 : Nat} {p1 : Int32} {p2 : Int32} {p3 : Int32} {post : Mem → Prop}    (C : Cx g p s m args c cX9_addPlay 4 RX9) (hr : meth.sig.returnType = none) (hlk : meth.locks = false) (hn : meth.name = "addPlay") (h0 : okc (gB g) M0 a0 9)  (hq : lb_X9_addPlay_24  g M0 a0 p1 p2 p3 post   M) (hw : Wd g s M0 M H locs) (hl : lv_has ls 4 [(0, .ref a0), (1, .int p1), (2, .int p2), (3, .int p3)]) : W p l e (rmo 0 0 0) s m args below meth c H locs 0 0 (MQ below (Cq g M0 (pV post)) args s 0 0 (gA g)) (F0 m 24 ls []) := by
  have hx := C.1.1
  have hb := C.1.2.1
  unfold lb_X9_addPlay_24 at hq
  refine lv_aload_n hx hb dX9_addPlay_24 rfl (lv_at hl 0 rfl) ?_
  refine lv_dup hx hb dX9_addPlay_25 rfl ?_
  refine gfX9_25 C hw hw.2.2.1 h0 dX9_addPlay_26 ?_
  refine lv_iconst (v := 1) hx hb dX9_addPlay_29 (by decide) ?_
  refine lv_iload_n hx hb dX9_addPlay_30 rfl (lv_at hl 2 rfl) ?_
  refine lv_ishl hx hb dX9_addPlay_31 ?_
  refine lv_iconst (v := 1) hx hb dX9_addPlay_32 (by decide) ?_
  refine lv_iload_n hx hb dX9_addPlay_33 rfl (lv_at hl 3 rfl) ?_
  refine lv_ishl hx hb dX9_addPlay_34 ?_
  refine lv_ior hx hb dX9_addPlay_35 ?_
  refine lv_ior hx hb dX9_addPlay_36 ?_
  refine pfX9_25 C hw hw.2.2.1 h0 dX9_addPlay_37 (fun H locs hw => ?_)
  generalize e2 : uI M a0 5 ((mI M a0 5) ||| ((1 <<< (p2 &&& 31)) ||| (1 <<< (p3 &&& 31)))) = M1 at hw
  replace hq := hq M1 e2.symm
  exact r_vret C hr hlk hw dX9_addPlay_40 (Nat.le_refl _) (Nat.le_refl _) ⟨rfl, hq⟩
set_option maxHeartbeats 4000000 in
set_option maxRecDepth 100000 in
theorem ct_X9_addPlay {l : Launch} {g : Gh} {M0 : Mem} {a0 : Nat} {p1 : Int32} {p2 : Int32} {p3 : Int32} {post : Mem → Prop}  (hq : wp_X9_addPlay  g M0 a0 p1 p2 p3 post) : Ct l g yX9_addPlay cX9_addPlay 4 none 0 0 0 [.ref a0, .int p1, .int p2, .int p3] M0 (pV post) := by
  unfold wp_X9_addPlay at hq
  obtain ⟨h0, hq⟩ := hq
  refine Ct.of (by decide) (Nat.le_of_ble_eq_true rfl) ?_
  intro p e s m below meth c ls C hr hlk hn hl hw
  have hx := C.1.1
  have hb := C.1.2.1
  have hl : lv_has ls 4 [(0, .ref a0), (1, .int p1), (2, .int p2), (3, .int p3)] := hl
  refine lv_aload_n hx hb dX9_addPlay_0 rfl (lv_at hl 0 rfl) ?_
  refine lv_dup hx hb dX9_addPlay_1 rfl ?_
  refine gfX9_19 C hw hw.2.2.1 h0 dX9_addPlay_2 ?_
  refine lv_iconst (v := 1) hx hb dX9_addPlay_5 (by decide) ?_
  refine lv_iadd hx hb dX9_addPlay_6 ?_
  refine pfX9_19 C hw hw.2.2.1 h0 dX9_addPlay_7 (fun H locs hw => ?_)
  generalize e4 : uI M0 a0 2 ((mI M0 a0 2) + 1) = M3 at hw
  replace hq := hq M3 e4.symm
  refine lv_iload_n hx hb dX9_addPlay_10 rfl (lv_at hl 1 rfl) ?_
  refine lv_if_eq (tgt := 24) hx hb dX9_addPlay_11 (by decide) (fun c5 => ?_) (fun c5 => ?_)
  · replace hq := hq.1 c5
    exact lt_X9_addPlay_24  C hr hlk hn h0  hq hw (lv_sub hl [0, 1, 2, 3] rfl)
  · replace hq := hq.2 c5
    refine lv_aload_n hx hb dX9_addPlay_14 rfl (lv_at hl 0 rfl) ?_
    refine lv_dup hx hb dX9_addPlay_15 rfl ?_
    refine gfX9_22 C hw hw.2.2.1 h0 dX9_addPlay_16 ?_
    refine lv_iconst (v := 1) hx hb dX9_addPlay_19 (by decide) ?_
    refine lv_iadd hx hb dX9_addPlay_20 ?_
    refine pfX9_22 C hw hw.2.2.1 h0 dX9_addPlay_21 (fun H locs hw => ?_)
    generalize e7 : uI M3 a0 3 ((mI M3 a0 3) + 1) = M6 at hw
    replace hq := hq M6 e7.symm
    exact lt_X9_addPlay_24  C hr hlk hn h0  hq hw (lv_sub hl [0, 1, 2, 3] rfl)

set_option maxRecDepth 100000 in
def lb_J6_bitCount_0f7a4_41  (g : Gh) (M0 : Mem)  (post : Int32 → Mem → Prop)  (x0 : Int32)  (M : Mem) : Prop :=
  post ((x0 + ((Int32.toUInt32 x0 >>> (Int32.toUInt32 16 &&& Int32.toUInt32 31)).toInt32)) &&& 63) M
set_option maxRecDepth 100000 in
def wp_J6_bitCount_0f7a4  (g : Gh) (M0 : Mem) (p0 : Int32) (post : Int32 → Mem → Prop) : Prop :=
  lb_J6_bitCount_0f7a4_41  g M0  post  ((((((p0 - (((Int32.toUInt32 p0 >>> (Int32.toUInt32 1 &&& Int32.toUInt32 31)).toInt32) &&& 1431655765)) &&& 858993459) + (((Int32.toUInt32 (p0 - (((Int32.toUInt32 p0 >>> (Int32.toUInt32 1 &&& Int32.toUInt32 31)).toInt32) &&& 1431655765)) >>> (Int32.toUInt32 2 &&& Int32.toUInt32 31)).toInt32) &&& 858993459)) + ((Int32.toUInt32 (((p0 - (((Int32.toUInt32 p0 >>> (Int32.toUInt32 1 &&& Int32.toUInt32 31)).toInt32) &&& 1431655765)) &&& 858993459) + (((Int32.toUInt32 (p0 - (((Int32.toUInt32 p0 >>> (Int32.toUInt32 1 &&& Int32.toUInt32 31)).toInt32) &&& 1431655765)) >>> (Int32.toUInt32 2 &&& Int32.toUInt32 31)).toInt32) &&& 858993459)) >>> (Int32.toUInt32 4 &&& Int32.toUInt32 31)).toInt32)) &&& 252645135) + ((Int32.toUInt32 (((((p0 - (((Int32.toUInt32 p0 >>> (Int32.toUInt32 1 &&& Int32.toUInt32 31)).toInt32) &&& 1431655765)) &&& 858993459) + (((Int32.toUInt32 (p0 - (((Int32.toUInt32 p0 >>> (Int32.toUInt32 1 &&& Int32.toUInt32 31)).toInt32) &&& 1431655765)) >>> (Int32.toUInt32 2 &&& Int32.toUInt32 31)).toInt32) &&& 858993459)) + ((Int32.toUInt32 (((p0 - (((Int32.toUInt32 p0 >>> (Int32.toUInt32 1 &&& Int32.toUInt32 31)).toInt32) &&& 1431655765)) &&& 858993459) + (((Int32.toUInt32 (p0 - (((Int32.toUInt32 p0 >>> (Int32.toUInt32 1 &&& Int32.toUInt32 31)).toInt32) &&& 1431655765)) >>> (Int32.toUInt32 2 &&& Int32.toUInt32 31)).toInt32) &&& 858993459)) >>> (Int32.toUInt32 4 &&& Int32.toUInt32 31)).toInt32)) &&& 252645135) >>> (Int32.toUInt32 8 &&& Int32.toUInt32 31)).toInt32)) M0
set_option maxHeartbeats 4000000 in
set_option maxRecDepth 100000 in
theorem lt_J6_bitCount_0f7a4_41 {l : Launch} {g : Gh} {p : Program} {e : Env} {s : State} {m : MethodId} {args : Array Value} {below : List Frame} {meth : Method} {c : Code} {H : Heap} {locs : List Loc} {ls : Array Slot} {M0 M : Mem}  {post : Int32 → Mem → Prop} {x0 : Int32}   (C : Cx g p s m args c cJ6_bitCount_0f7a4 1 RJ6) (hr : meth.sig.returnType = (some .int)) (hlk : meth.locks = false) (hn : meth.name = "bitCount")   (hq : lb_J6_bitCount_0f7a4_41  g M0  post  x0 M) (hw : Wd g s M0 M H locs) (hl : lv_has ls 1 [(0, .int x0)]) : W p l e (rmo 0 0 0) s m args below meth c H locs 0 0 (MQ below (Cq g M0 (pI post)) args s 0 0 (gA g)) (F0 m 41 ls []) := by
  have hx := C.1.1
  have hb := C.1.2.1
  unfold lb_J6_bitCount_0f7a4_41 at hq
  refine lv_iload_n hx hb dJ6_bitCount_0f7a4_41 rfl (lv_at hl 0 rfl) ?_
  refine lv_iload_n hx hb dJ6_bitCount_0f7a4_42 rfl (lv_at hl 0 rfl) ?_
  refine lv_bipush (v := 16) hx hb dJ6_bitCount_0f7a4_43 (by decide) ?_
  refine lv_iushr (v := ((Int32.toUInt32 x0 >>> (Int32.toUInt32 16 &&& Int32.toUInt32 31)).toInt32)) hx hb dJ6_bitCount_0f7a4_45 rfl ?_
  refine lv_iadd hx hb dJ6_bitCount_0f7a4_46 ?_
  refine lv_istore_n (lv' := [(0, .int (x0 + ((Int32.toUInt32 x0 >>> (Int32.toUInt32 16 &&& Int32.toUInt32 31)).toInt32)))]) hx hb dJ6_bitCount_0f7a4_47 rfl hl (by decide) rfl (fun ls hl => ?_)
  refine lv_iload_n hx hb dJ6_bitCount_0f7a4_48 rfl (lv_at hl 0 rfl) ?_
  refine lv_bipush (v := 63) hx hb dJ6_bitCount_0f7a4_49 (by decide) ?_
  refine lv_iand hx hb dJ6_bitCount_0f7a4_51 ?_
  exact r_iret C hr hlk hw dJ6_bitCount_0f7a4_52 (Nat.le_refl _) (Nat.le_refl _) ⟨_, rfl, hq⟩
set_option maxHeartbeats 4000000 in
set_option maxRecDepth 100000 in
theorem ct_J6_bitCount_0f7a4 {l : Launch} {g : Gh} {M0 : Mem} {p0 : Int32} {post : Int32 → Mem → Prop}  (hq : wp_J6_bitCount_0f7a4  g M0 p0 post) : Ct l g yJ6_bitCount_0f7a4 cJ6_bitCount_0f7a4 1 (some .int) 0 0 0 [.int p0] M0 (pI post) := by
  unfold wp_J6_bitCount_0f7a4 at hq
  refine Ct.of (by decide) (Nat.le_of_ble_eq_true rfl) ?_
  intro p e s m below meth c ls C hr hlk hn hl hw
  have hx := C.1.1
  have hb := C.1.2.1
  have hl : lv_has ls 1 [(0, .int p0)] := hl
  refine lv_iload_n hx hb dJ6_bitCount_0f7a4_0 rfl (lv_at hl 0 rfl) ?_
  refine lv_iload_n hx hb dJ6_bitCount_0f7a4_1 rfl (lv_at hl 0 rfl) ?_
  refine lv_iconst (v := 1) hx hb dJ6_bitCount_0f7a4_2 (by decide) ?_
  refine lv_iushr (v := ((Int32.toUInt32 p0 >>> (Int32.toUInt32 1 &&& Int32.toUInt32 31)).toInt32)) hx hb dJ6_bitCount_0f7a4_3 rfl ?_
  refine lv_ldcw (v := 1431655765) hx hb C.1.2.2.2.1 (C.1.2.2.2.2 _ w_1057) dJ6_bitCount_0f7a4_4 ?_
  refine lv_iand hx hb dJ6_bitCount_0f7a4_7 ?_
  refine lv_isub hx hb dJ6_bitCount_0f7a4_8 ?_
  refine lv_istore_n (lv' := [(0, .int (p0 - (((Int32.toUInt32 p0 >>> (Int32.toUInt32 1 &&& Int32.toUInt32 31)).toInt32) &&& 1431655765)))]) hx hb dJ6_bitCount_0f7a4_9 rfl hl (by decide) rfl (fun ls hl => ?_)
  refine lv_iload_n hx hb dJ6_bitCount_0f7a4_10 rfl (lv_at hl 0 rfl) ?_
  refine lv_ldcw (v := 858993459) hx hb C.1.2.2.2.1 (C.1.2.2.2.2 _ w_1058) dJ6_bitCount_0f7a4_11 ?_
  refine lv_iand hx hb dJ6_bitCount_0f7a4_14 ?_
  refine lv_iload_n hx hb dJ6_bitCount_0f7a4_15 rfl (lv_at hl 0 rfl) ?_
  refine lv_iconst (v := 2) hx hb dJ6_bitCount_0f7a4_16 (by decide) ?_
  refine lv_iushr (v := ((Int32.toUInt32 (p0 - (((Int32.toUInt32 p0 >>> (Int32.toUInt32 1 &&& Int32.toUInt32 31)).toInt32) &&& 1431655765)) >>> (Int32.toUInt32 2 &&& Int32.toUInt32 31)).toInt32)) hx hb dJ6_bitCount_0f7a4_17 rfl ?_
  refine lv_ldcw (v := 858993459) hx hb C.1.2.2.2.1 (C.1.2.2.2.2 _ w_1058) dJ6_bitCount_0f7a4_18 ?_
  refine lv_iand hx hb dJ6_bitCount_0f7a4_21 ?_
  refine lv_iadd hx hb dJ6_bitCount_0f7a4_22 ?_
  refine lv_istore_n (lv' := [(0, .int (((p0 - (((Int32.toUInt32 p0 >>> (Int32.toUInt32 1 &&& Int32.toUInt32 31)).toInt32) &&& 1431655765)) &&& 858993459) + (((Int32.toUInt32 (p0 - (((Int32.toUInt32 p0 >>> (Int32.toUInt32 1 &&& Int32.toUInt32 31)).toInt32) &&& 1431655765)) >>> (Int32.toUInt32 2 &&& Int32.toUInt32 31)).toInt32) &&& 858993459)))]) hx hb dJ6_bitCount_0f7a4_23 rfl hl (by decide) rfl (fun ls hl => ?_)
  refine lv_iload_n hx hb dJ6_bitCount_0f7a4_24 rfl (lv_at hl 0 rfl) ?_
  refine lv_iload_n hx hb dJ6_bitCount_0f7a4_25 rfl (lv_at hl 0 rfl) ?_
  refine lv_iconst (v := 4) hx hb dJ6_bitCount_0f7a4_26 (by decide) ?_
  refine lv_iushr (v := ((Int32.toUInt32 (((p0 - (((Int32.toUInt32 p0 >>> (Int32.toUInt32 1 &&& Int32.toUInt32 31)).toInt32) &&& 1431655765)) &&& 858993459) + (((Int32.toUInt32 (p0 - (((Int32.toUInt32 p0 >>> (Int32.toUInt32 1 &&& Int32.toUInt32 31)).toInt32) &&& 1431655765)) >>> (Int32.toUInt32 2 &&& Int32.toUInt32 31)).toInt32) &&& 858993459)) >>> (Int32.toUInt32 4 &&& Int32.toUInt32 31)).toInt32)) hx hb dJ6_bitCount_0f7a4_27 rfl ?_
  refine lv_iadd hx hb dJ6_bitCount_0f7a4_28 ?_
  refine lv_ldcw (v := 252645135) hx hb C.1.2.2.2.1 (C.1.2.2.2.2 _ w_1059) dJ6_bitCount_0f7a4_29 ?_
  refine lv_iand hx hb dJ6_bitCount_0f7a4_32 ?_
  refine lv_istore_n (lv' := [(0, .int (((((p0 - (((Int32.toUInt32 p0 >>> (Int32.toUInt32 1 &&& Int32.toUInt32 31)).toInt32) &&& 1431655765)) &&& 858993459) + (((Int32.toUInt32 (p0 - (((Int32.toUInt32 p0 >>> (Int32.toUInt32 1 &&& Int32.toUInt32 31)).toInt32) &&& 1431655765)) >>> (Int32.toUInt32 2 &&& Int32.toUInt32 31)).toInt32) &&& 858993459)) + ((Int32.toUInt32 (((p0 - (((Int32.toUInt32 p0 >>> (Int32.toUInt32 1 &&& Int32.toUInt32 31)).toInt32) &&& 1431655765)) &&& 858993459) + (((Int32.toUInt32 (p0 - (((Int32.toUInt32 p0 >>> (Int32.toUInt32 1 &&& Int32.toUInt32 31)).toInt32) &&& 1431655765)) >>> (Int32.toUInt32 2 &&& Int32.toUInt32 31)).toInt32) &&& 858993459)) >>> (Int32.toUInt32 4 &&& Int32.toUInt32 31)).toInt32)) &&& 252645135))]) hx hb dJ6_bitCount_0f7a4_33 rfl hl (by decide) rfl (fun ls hl => ?_)
  refine lv_iload_n hx hb dJ6_bitCount_0f7a4_34 rfl (lv_at hl 0 rfl) ?_
  refine lv_iload_n hx hb dJ6_bitCount_0f7a4_35 rfl (lv_at hl 0 rfl) ?_
  refine lv_bipush (v := 8) hx hb dJ6_bitCount_0f7a4_36 (by decide) ?_
  refine lv_iushr (v := ((Int32.toUInt32 (((((p0 - (((Int32.toUInt32 p0 >>> (Int32.toUInt32 1 &&& Int32.toUInt32 31)).toInt32) &&& 1431655765)) &&& 858993459) + (((Int32.toUInt32 (p0 - (((Int32.toUInt32 p0 >>> (Int32.toUInt32 1 &&& Int32.toUInt32 31)).toInt32) &&& 1431655765)) >>> (Int32.toUInt32 2 &&& Int32.toUInt32 31)).toInt32) &&& 858993459)) + ((Int32.toUInt32 (((p0 - (((Int32.toUInt32 p0 >>> (Int32.toUInt32 1 &&& Int32.toUInt32 31)).toInt32) &&& 1431655765)) &&& 858993459) + (((Int32.toUInt32 (p0 - (((Int32.toUInt32 p0 >>> (Int32.toUInt32 1 &&& Int32.toUInt32 31)).toInt32) &&& 1431655765)) >>> (Int32.toUInt32 2 &&& Int32.toUInt32 31)).toInt32) &&& 858993459)) >>> (Int32.toUInt32 4 &&& Int32.toUInt32 31)).toInt32)) &&& 252645135) >>> (Int32.toUInt32 8 &&& Int32.toUInt32 31)).toInt32)) hx hb dJ6_bitCount_0f7a4_38 rfl ?_
  refine lv_iadd hx hb dJ6_bitCount_0f7a4_39 ?_
  refine lv_istore_n (lv' := [(0, .int ((((((p0 - (((Int32.toUInt32 p0 >>> (Int32.toUInt32 1 &&& Int32.toUInt32 31)).toInt32) &&& 1431655765)) &&& 858993459) + (((Int32.toUInt32 (p0 - (((Int32.toUInt32 p0 >>> (Int32.toUInt32 1 &&& Int32.toUInt32 31)).toInt32) &&& 1431655765)) >>> (Int32.toUInt32 2 &&& Int32.toUInt32 31)).toInt32) &&& 858993459)) + ((Int32.toUInt32 (((p0 - (((Int32.toUInt32 p0 >>> (Int32.toUInt32 1 &&& Int32.toUInt32 31)).toInt32) &&& 1431655765)) &&& 858993459) + (((Int32.toUInt32 (p0 - (((Int32.toUInt32 p0 >>> (Int32.toUInt32 1 &&& Int32.toUInt32 31)).toInt32) &&& 1431655765)) >>> (Int32.toUInt32 2 &&& Int32.toUInt32 31)).toInt32) &&& 858993459)) >>> (Int32.toUInt32 4 &&& Int32.toUInt32 31)).toInt32)) &&& 252645135) + ((Int32.toUInt32 (((((p0 - (((Int32.toUInt32 p0 >>> (Int32.toUInt32 1 &&& Int32.toUInt32 31)).toInt32) &&& 1431655765)) &&& 858993459) + (((Int32.toUInt32 (p0 - (((Int32.toUInt32 p0 >>> (Int32.toUInt32 1 &&& Int32.toUInt32 31)).toInt32) &&& 1431655765)) >>> (Int32.toUInt32 2 &&& Int32.toUInt32 31)).toInt32) &&& 858993459)) + ((Int32.toUInt32 (((p0 - (((Int32.toUInt32 p0 >>> (Int32.toUInt32 1 &&& Int32.toUInt32 31)).toInt32) &&& 1431655765)) &&& 858993459) + (((Int32.toUInt32 (p0 - (((Int32.toUInt32 p0 >>> (Int32.toUInt32 1 &&& Int32.toUInt32 31)).toInt32) &&& 1431655765)) >>> (Int32.toUInt32 2 &&& Int32.toUInt32 31)).toInt32) &&& 858993459)) >>> (Int32.toUInt32 4 &&& Int32.toUInt32 31)).toInt32)) &&& 252645135) >>> (Int32.toUInt32 8 &&& Int32.toUInt32 31)).toInt32)))]) hx hb dJ6_bitCount_0f7a4_40 rfl hl (by decide) rfl (fun ls hl => ?_)
  exact lt_J6_bitCount_0f7a4_41  C hr hlk hn  hq hw (lv_sub hl [0] rfl)
