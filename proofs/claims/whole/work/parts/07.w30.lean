set_option maxRecDepth 100000 in
def lb_X12_isKey_95  (g : Gh) (M0 : Mem) (a0 : Nat) (p1 : Int32) (p2 : Int32) (p3 : Int32) (p4 : Int32) (p5 : Int32) (post : Int32 → Mem → Prop)  (x6 : Int64)  (M : Mem) : Prop :=
  (((mI M a0 6) = 2) → (((lg_cmp (mJ M a0 8) x6) = 0) → post 1 M) ∧ (¬ ((lg_cmp (mJ M a0 8) x6) = 0) → post 0 M)) ∧ (¬ ((mI M a0 6) = 2) → post 0 M)
set_option maxRecDepth 100000 in
def lb_X12_isKey_74  (g : Gh) (M0 : Mem) (a0 : Nat) (p1 : Int32) (p2 : Int32) (p3 : Int32) (p4 : Int32) (p5 : Int32) (post : Int32 → Mem → Prop)  (x6 : Int64)  (M : Mem) : Prop :=
  ((p5 ≤ 0) → lb_X12_isKey_95  g M0 a0 p1 p2 p3 p4 p5 post  x6 M) ∧ (¬ (p5 ≤ 0) → lb_X12_isKey_95  g M0 a0 p1 p2 p3 p4 p5 post  (((27 * x6) + (Int32.toInt64 p5)) - 96) M)
set_option maxRecDepth 100000 in
def lb_X12_isKey_53  (g : Gh) (M0 : Mem) (a0 : Nat) (p1 : Int32) (p2 : Int32) (p3 : Int32) (p4 : Int32) (p5 : Int32) (post : Int32 → Mem → Prop)  (x6 : Int64)  (M : Mem) : Prop :=
  ((p4 ≤ 0) → lb_X12_isKey_74  g M0 a0 p1 p2 p3 p4 p5 post  x6 M) ∧ (¬ (p4 ≤ 0) → lb_X12_isKey_74  g M0 a0 p1 p2 p3 p4 p5 post  (((27 * x6) + (Int32.toInt64 p4)) - 96) M)
set_option maxRecDepth 100000 in
def lb_X12_isKey_34  (g : Gh) (M0 : Mem) (a0 : Nat) (p1 : Int32) (p2 : Int32) (p3 : Int32) (p4 : Int32) (p5 : Int32) (post : Int32 → Mem → Prop)  (x6 : Int64)  (M : Mem) : Prop :=
  ((p3 ≤ 0) → lb_X12_isKey_53  g M0 a0 p1 p2 p3 p4 p5 post  x6 M) ∧ (¬ (p3 ≤ 0) → lb_X12_isKey_53  g M0 a0 p1 p2 p3 p4 p5 post  (((27 * x6) + (Int32.toInt64 p3)) - 96) M)
set_option maxRecDepth 100000 in
def lb_X12_isKey_15  (g : Gh) (M0 : Mem) (a0 : Nat) (p1 : Int32) (p2 : Int32) (p3 : Int32) (p4 : Int32) (p5 : Int32) (post : Int32 → Mem → Prop)  (x6 : Int64)  (M : Mem) : Prop :=
  ((p2 ≤ 0) → lb_X12_isKey_34  g M0 a0 p1 p2 p3 p4 p5 post  x6 M) ∧ (¬ (p2 ≤ 0) → lb_X12_isKey_34  g M0 a0 p1 p2 p3 p4 p5 post  (((27 * x6) + (Int32.toInt64 p2)) - 96) M)
set_option maxRecDepth 100000 in
def wp_X12_isKey  (g : Gh) (M0 : Mem) (a0 : Nat) (p1 : Int32) (p2 : Int32) (p3 : Int32) (p4 : Int32) (p5 : Int32) (post : Int32 → Mem → Prop) : Prop :=
  okc (gB g) M0 a0 12 ∧ (((p1 ≤ 0) → lb_X12_isKey_15  g M0 a0 p1 p2 p3 p4 p5 post  0 M0) ∧ (¬ (p1 ≤ 0) → lb_X12_isKey_15  g M0 a0 p1 p2 p3 p4 p5 post  ((Int32.toInt64 p1) - 96) M0))
set_option maxHeartbeats 4000000 in
set_option maxRecDepth 100000 in
theorem lt_X12_isKey_95 {l : Launch} {g : Gh} {p : Program} {e : Env} {s : State} {m : MethodId} {args : Array Value} {below : List Frame} {meth : Method} {c : Code} {H : Heap} {locs : List Loc} {ls : Array Slot} {M0 M : Mem} {a0 : Nat} {p1 : Int32} {p2 : Int32} {p3 : Int32} {p4 : Int32} {p5 : Int32} {post : Int32 → Mem → Prop} {x6 : Int64}   (C : Cx g p s m args c cX12_isKey 8 RX12) (hr : meth.sig.returnType = (some .boolean)) (hlk : meth.locks = false) (hn : meth.name = "isKey") (h0 : okc (gB g) M0 a0 12)  (hq : lb_X12_isKey_95  g M0 a0 p1 p2 p3 p4 p5 post  x6 M) (hw : Wd g s M0 M H locs) (hl : lv_has ls 8 [(0, .ref a0), (1, .int p1), (2, .int p2), (3, .int p3), (4, .int p4), (5, .int p5), (6, .long x6)]) : W p l e (rmo 0 0 0) s m args below meth c H locs 0 0 (MQ below (Cq g M0 (pI post)) args s 0 0 (gA g)) (F0 m 95 ls []) := by
  have hx := C.1.1
  have hb := C.1.2.1
  unfold lb_X12_isKey_95 at hq
  refine lv_aload_n hx hb dX12_isKey_95 rfl (lv_at hl 0 rfl) ?_
  refine gfX12_143 C hw hw.2.2.1 h0 dX12_isKey_96 ?_
  refine lv_iconst (v := 2) hx hb dX12_isKey_99 (by decide) ?_
  refine lv_icmp_ne (tgt := 117) hx hb dX12_isKey_100 (by decide) (fun c1 => ?_) (fun c1 => ?_)
  · replace hq := hq.2 c1
    refine lv_iconst (v := 0) hx hb dX12_isKey_117 (by decide) ?_
    exact r_zret C hr hlk hw dX12_isKey_118 (Nat.le_refl _) (Nat.le_refl _) (by decide) ⟨_, rfl, hq⟩
  · replace hq := hq.1 c1
    refine lv_aload_n hx hb dX12_isKey_103 rfl (lv_at hl 0 rfl) ?_
    refine gfX12_163 C hw hw.2.2.1 h0 dX12_isKey_104 ?_
    refine lv_lload hx hb dX12_isKey_107 (lv_at hl 6 rfl) ?_
    refine W.lcmp hx hb dX12_isKey_109 ?_
    refine lv_if_ne (tgt := 117) hx hb dX12_isKey_110 (by decide) (fun c2 => ?_) (fun c2 => ?_)
    · replace hq := hq.2 c2
      refine lv_iconst (v := 0) hx hb dX12_isKey_117 (by decide) ?_
      exact r_zret C hr hlk hw dX12_isKey_118 (Nat.le_refl _) (Nat.le_refl _) (by decide) ⟨_, rfl, hq⟩
    · replace hq := hq.1 c2
      refine lv_iconst (v := 1) hx hb dX12_isKey_113 (by decide) ?_
      refine lv_goto (tgt := 118) hx hb dX12_isKey_114 (by decide) ?_
      exact r_zret C hr hlk hw dX12_isKey_118 (Nat.le_refl _) (Nat.le_refl _) (by decide) ⟨_, rfl, hq⟩
set_option maxHeartbeats 4000000 in
set_option maxRecDepth 100000 in
theorem lt_X12_isKey_74 {l : Launch} {g : Gh} {p : Program} {e : Env} {s : State} {m : MethodId} {args : Array Value} {below : List Frame} {meth : Method} {c : Code} {H : Heap} {locs : List Loc} {ls : Array Slot} {M0 M : Mem} {a0 : Nat} {p1 : Int32} {p2 : Int32} {p3 : Int32} {p4 : Int32} {p5 : Int32} {post : Int32 → Mem → Prop} {x6 : Int64}   (C : Cx g p s m args c cX12_isKey 8 RX12) (hr : meth.sig.returnType = (some .boolean)) (hlk : meth.locks = false) (hn : meth.name = "isKey") (h0 : okc (gB g) M0 a0 12)  (hq : lb_X12_isKey_74  g M0 a0 p1 p2 p3 p4 p5 post  x6 M) (hw : Wd g s M0 M H locs) (hl : lv_has ls 8 [(0, .ref a0), (1, .int p1), (2, .int p2), (3, .int p3), (4, .int p4), (5, .int p5), (6, .long x6)]) : W p l e (rmo 0 0 0) s m args below meth c H locs 0 0 (MQ below (Cq g M0 (pI post)) args s 0 0 (gA g)) (F0 m 74 ls []) := by
  have hx := C.1.1
  have hb := C.1.2.1
  unfold lb_X12_isKey_74 at hq
  refine lv_iload hx hb dX12_isKey_74 (lv_at hl 5 rfl) ?_
  refine lv_if_le (tgt := 95) hx hb dX12_isKey_76 (by decide) (fun c3 => ?_) (fun c3 => ?_)
  · replace hq := hq.1 c3
    exact lt_X12_isKey_95  C hr hlk hn h0  hq hw (lv_sub hl [0, 1, 2, 3, 4, 5, 6] rfl)
  · replace hq := hq.2 c3
    refine lv_ldc2 (v := 27) hx hb C.1.2.2.2.1 (C.1.2.2.2.2 _ w_1393) dX12_isKey_79 ?_
    refine lv_lload hx hb dX12_isKey_82 (lv_at hl 6 rfl) ?_
    refine lv_lmul hx hb dX12_isKey_84 ?_
    refine lv_iload hx hb dX12_isKey_85 (lv_at hl 5 rfl) ?_
    refine lv_i2l (v := (Int32.toInt64 p5)) hx hb dX12_isKey_87 rfl ?_
    refine lv_ladd hx hb dX12_isKey_88 ?_
    refine lv_ldc2 (v := 96) hx hb C.1.2.2.2.1 (C.1.2.2.2.2 _ w_1394) dX12_isKey_89 ?_
    refine lv_lsub hx hb dX12_isKey_92 ?_
    refine lv_lstore (lv' := [(6, .long (((27 * x6) + (Int32.toInt64 p5)) - 96)), (0, .ref a0), (1, .int p1), (2, .int p2), (3, .int p3), (4, .int p4), (5, .int p5)]) hx hb dX12_isKey_93 hl (by decide) rfl (fun ls hl => ?_)
    exact lt_X12_isKey_95  C hr hlk hn h0  hq hw (lv_sub hl [1, 2, 3, 4, 5, 6, 0] rfl)
set_option maxHeartbeats 4000000 in
set_option maxRecDepth 100000 in
theorem lt_X12_isKey_53 {l : Launch} {g : Gh} {p : Program} {e : Env} {s : State} {m : MethodId} {args : Array Value} {below : List Frame} {meth : Method} {c : Code} {H : Heap} {locs : List Loc} {ls : Array Slot} {M0 M : Mem} {a0 : Nat} {p1 : Int32} {p2 : Int32} {p3 : Int32} {p4 : Int32} {p5 : Int32} {post : Int32 → Mem → Prop} {x6 : Int64}   (C : Cx g p s m args c cX12_isKey 8 RX12) (hr : meth.sig.returnType = (some .boolean)) (hlk : meth.locks = false) (hn : meth.name = "isKey") (h0 : okc (gB g) M0 a0 12)  (hq : lb_X12_isKey_53  g M0 a0 p1 p2 p3 p4 p5 post  x6 M) (hw : Wd g s M0 M H locs) (hl : lv_has ls 8 [(0, .ref a0), (1, .int p1), (2, .int p2), (3, .int p3), (4, .int p4), (5, .int p5), (6, .long x6)]) : W p l e (rmo 0 0 0) s m args below meth c H locs 0 0 (MQ below (Cq g M0 (pI post)) args s 0 0 (gA g)) (F0 m 53 ls []) := by
  have hx := C.1.1
  have hb := C.1.2.1
  unfold lb_X12_isKey_53 at hq
  refine lv_iload hx hb dX12_isKey_53 (lv_at hl 4 rfl) ?_
  refine lv_if_le (tgt := 74) hx hb dX12_isKey_55 (by decide) (fun c4 => ?_) (fun c4 => ?_)
  · replace hq := hq.1 c4
    exact lt_X12_isKey_74  C hr hlk hn h0  hq hw (lv_sub hl [0, 1, 2, 3, 4, 5, 6] rfl)
  · replace hq := hq.2 c4
    refine lv_ldc2 (v := 27) hx hb C.1.2.2.2.1 (C.1.2.2.2.2 _ w_1393) dX12_isKey_58 ?_
    refine lv_lload hx hb dX12_isKey_61 (lv_at hl 6 rfl) ?_
    refine lv_lmul hx hb dX12_isKey_63 ?_
    refine lv_iload hx hb dX12_isKey_64 (lv_at hl 4 rfl) ?_
    refine lv_i2l (v := (Int32.toInt64 p4)) hx hb dX12_isKey_66 rfl ?_
    refine lv_ladd hx hb dX12_isKey_67 ?_
    refine lv_ldc2 (v := 96) hx hb C.1.2.2.2.1 (C.1.2.2.2.2 _ w_1394) dX12_isKey_68 ?_
    refine lv_lsub hx hb dX12_isKey_71 ?_
    refine lv_lstore (lv' := [(6, .long (((27 * x6) + (Int32.toInt64 p4)) - 96)), (0, .ref a0), (1, .int p1), (2, .int p2), (3, .int p3), (4, .int p4), (5, .int p5)]) hx hb dX12_isKey_72 hl (by decide) rfl (fun ls hl => ?_)
    exact lt_X12_isKey_74  C hr hlk hn h0  hq hw (lv_sub hl [1, 2, 3, 4, 5, 6, 0] rfl)
set_option maxHeartbeats 4000000 in
set_option maxRecDepth 100000 in
theorem lt_X12_isKey_34 {l : Launch} {g : Gh} {p : Program} {e : Env} {s : State} {m : MethodId} {args : Array Value} {below : List Frame} {meth : Method} {c : Code} {H : Heap} {locs : List Loc} {ls : Array Slot} {M0 M : Mem} {a0 : Nat} {p1 : Int32} {p2 : Int32} {p3 : Int32} {p4 : Int32} {p5 : Int32} {post : Int32 → Mem → Prop} {x6 : Int64}   (C : Cx g p s m args c cX12_isKey 8 RX12) (hr : meth.sig.returnType = (some .boolean)) (hlk : meth.locks = false) (hn : meth.name = "isKey") (h0 : okc (gB g) M0 a0 12)  (hq : lb_X12_isKey_34  g M0 a0 p1 p2 p3 p4 p5 post  x6 M) (hw : Wd g s M0 M H locs) (hl : lv_has ls 8 [(0, .ref a0), (1, .int p1), (2, .int p2), (3, .int p3), (4, .int p4), (5, .int p5), (6, .long x6)]) : W p l e (rmo 0 0 0) s m args below meth c H locs 0 0 (MQ below (Cq g M0 (pI post)) args s 0 0 (gA g)) (F0 m 34 ls []) := by
  have hx := C.1.1
  have hb := C.1.2.1
  unfold lb_X12_isKey_34 at hq
  refine lv_iload_n hx hb dX12_isKey_34 rfl (lv_at hl 3 rfl) ?_
  refine lv_if_le (tgt := 53) hx hb dX12_isKey_35 (by decide) (fun c5 => ?_) (fun c5 => ?_)
  · replace hq := hq.1 c5
    exact lt_X12_isKey_53  C hr hlk hn h0  hq hw (lv_sub hl [0, 1, 2, 3, 4, 5, 6] rfl)
  · replace hq := hq.2 c5
    refine lv_ldc2 (v := 27) hx hb C.1.2.2.2.1 (C.1.2.2.2.2 _ w_1393) dX12_isKey_38 ?_
    refine lv_lload hx hb dX12_isKey_41 (lv_at hl 6 rfl) ?_
    refine lv_lmul hx hb dX12_isKey_43 ?_
    refine lv_iload_n hx hb dX12_isKey_44 rfl (lv_at hl 3 rfl) ?_
    refine lv_i2l (v := (Int32.toInt64 p3)) hx hb dX12_isKey_45 rfl ?_
    refine lv_ladd hx hb dX12_isKey_46 ?_
    refine lv_ldc2 (v := 96) hx hb C.1.2.2.2.1 (C.1.2.2.2.2 _ w_1394) dX12_isKey_47 ?_
    refine lv_lsub hx hb dX12_isKey_50 ?_
    refine lv_lstore (lv' := [(6, .long (((27 * x6) + (Int32.toInt64 p3)) - 96)), (0, .ref a0), (1, .int p1), (2, .int p2), (3, .int p3), (4, .int p4), (5, .int p5)]) hx hb dX12_isKey_51 hl (by decide) rfl (fun ls hl => ?_)
    exact lt_X12_isKey_53  C hr hlk hn h0  hq hw (lv_sub hl [1, 2, 3, 4, 5, 6, 0] rfl)
set_option maxHeartbeats 4000000 in
set_option maxRecDepth 100000 in
theorem lt_X12_isKey_15 {l : Launch} {g : Gh} {p : Program} {e : Env} {s : State} {m : MethodId} {args : Array Value} {below : List Frame} {meth : Method} {c : Code} {H : Heap} {locs : List Loc} {ls : Array Slot} {M0 M : Mem} {a0 : Nat} {p1 : Int32} {p2 : Int32} {p3 : Int32} {p4 : Int32} {p5 : Int32} {post : Int32 → Mem → Prop} {x6 : Int64}   (C : Cx g p s m args c cX12_isKey 8 RX12) (hr : meth.sig.returnType = (some .boolean)) (hlk : meth.locks = false) (hn : meth.name = "isKey") (h0 : okc (gB g) M0 a0 12)  (hq : lb_X12_isKey_15  g M0 a0 p1 p2 p3 p4 p5 post  x6 M) (hw : Wd g s M0 M H locs) (hl : lv_has ls 8 [(0, .ref a0), (1, .int p1), (2, .int p2), (3, .int p3), (4, .int p4), (5, .int p5), (6, .long x6)]) : W p l e (rmo 0 0 0) s m args below meth c H locs 0 0 (MQ below (Cq g M0 (pI post)) args s 0 0 (gA g)) (F0 m 15 ls []) := by
  have hx := C.1.1
  have hb := C.1.2.1
  unfold lb_X12_isKey_15 at hq
  refine lv_iload_n hx hb dX12_isKey_15 rfl (lv_at hl 2 rfl) ?_
  refine lv_if_le (tgt := 34) hx hb dX12_isKey_16 (by decide) (fun c6 => ?_) (fun c6 => ?_)
  · replace hq := hq.1 c6
    exact lt_X12_isKey_34  C hr hlk hn h0  hq hw (lv_sub hl [0, 1, 2, 3, 4, 5, 6] rfl)
  · replace hq := hq.2 c6
    refine lv_ldc2 (v := 27) hx hb C.1.2.2.2.1 (C.1.2.2.2.2 _ w_1393) dX12_isKey_19 ?_
    refine lv_lload hx hb dX12_isKey_22 (lv_at hl 6 rfl) ?_
    refine lv_lmul hx hb dX12_isKey_24 ?_
    refine lv_iload_n hx hb dX12_isKey_25 rfl (lv_at hl 2 rfl) ?_
    refine lv_i2l (v := (Int32.toInt64 p2)) hx hb dX12_isKey_26 rfl ?_
    refine lv_ladd hx hb dX12_isKey_27 ?_
    refine lv_ldc2 (v := 96) hx hb C.1.2.2.2.1 (C.1.2.2.2.2 _ w_1394) dX12_isKey_28 ?_
    refine lv_lsub hx hb dX12_isKey_31 ?_
    refine lv_lstore (lv' := [(6, .long (((27 * x6) + (Int32.toInt64 p2)) - 96)), (0, .ref a0), (1, .int p1), (2, .int p2), (3, .int p3), (4, .int p4), (5, .int p5)]) hx hb dX12_isKey_32 hl (by decide) rfl (fun ls hl => ?_)
    exact lt_X12_isKey_34  C hr hlk hn h0  hq hw (lv_sub hl [1, 2, 3, 4, 5, 6, 0] rfl)
set_option maxHeartbeats 4000000 in
set_option maxRecDepth 100000 in
theorem ct_X12_isKey {l : Launch} {g : Gh} {M0 : Mem} {a0 : Nat} {p1 : Int32} {p2 : Int32} {p3 : Int32} {p4 : Int32} {p5 : Int32} {post : Int32 → Mem → Prop}  (hq : wp_X12_isKey  g M0 a0 p1 p2 p3 p4 p5 post) : Ct l g yX12_isKey cX12_isKey 8 (some .boolean) 0 0 0 [.ref a0, .int p1, .int p2, .int p3, .int p4, .int p5] M0 (pI post) := by
  unfold wp_X12_isKey at hq
  obtain ⟨h0, hq⟩ := hq
  refine Ct.of (by decide) (Nat.le_of_ble_eq_true rfl) ?_
  intro p e s m below meth c ls C hr hlk hn hl hw
  have hx := C.1.1
  have hb := C.1.2.1
  have hl : lv_has ls 8 [(0, .ref a0), (1, .int p1), (2, .int p2), (3, .int p3), (4, .int p4), (5, .int p5)] := hl
  refine lv_lconst (v := 0) hx hb dX12_isKey_0 (by decide) ?_
  refine lv_lstore (lv' := [(6, .long 0), (0, .ref a0), (1, .int p1), (2, .int p2), (3, .int p3), (4, .int p4), (5, .int p5)]) hx hb dX12_isKey_1 hl (by decide) rfl (fun ls hl => ?_)
  refine lv_iload_n hx hb dX12_isKey_3 rfl (lv_at hl 2 rfl) ?_
  refine lv_if_le (tgt := 15) hx hb dX12_isKey_4 (by decide) (fun c7 => ?_) (fun c7 => ?_)
  · replace hq := hq.1 c7
    exact lt_X12_isKey_15  C hr hlk hn h0  hq hw (lv_sub hl [1, 2, 3, 4, 5, 6, 0] rfl)
  · replace hq := hq.2 c7
    refine lv_iload_n hx hb dX12_isKey_7 rfl (lv_at hl 2 rfl) ?_
    refine lv_i2l (v := (Int32.toInt64 p1)) hx hb dX12_isKey_8 rfl ?_
    refine lv_ldc2 (v := 96) hx hb C.1.2.2.2.1 (C.1.2.2.2.2 _ w_1394) dX12_isKey_9 ?_
    refine lv_lsub hx hb dX12_isKey_12 ?_
    refine lv_lstore (lv' := [(6, .long ((Int32.toInt64 p1) - 96)), (0, .ref a0), (1, .int p1), (2, .int p2), (3, .int p3), (4, .int p4), (5, .int p5)]) hx hb dX12_isKey_13 hl (by decide) rfl (fun ls hl => ?_)
    exact lt_X12_isKey_15  C hr hlk hn h0  hq hw (lv_sub hl [1, 2, 3, 4, 5, 6, 0] rfl)

set_option maxRecDepth 100000 in
def lb_X12_number_51  (g : Gh) (M0 : Mem) (a0 : Nat) (p1 : Int32) (p2 : Int32) (post : Int32 → Mem → Prop)  (x3 : Int32)  (M : Mem) : Prop :=
  post x3 M
set_option maxRecDepth 100000 in
def wp_X12_number  (g : Gh) (M0 : Mem) (a0 : Nat) (p1 : Int32) (p2 : Int32) (post : Int32 → Mem → Prop) : Prop :=
  okc (gB g) M0 a0 12 ∧ ((((mI M0 a0 6) = 3) → (((lg_cmp (mJ M0 a0 8) (Int32.toInt64 p1)) < 0) → wp_X12_none g M0 a0 2 (fun v3 M4 => post v3 M4)) ∧ (¬ ((lg_cmp (mJ M0 a0 8) (Int32.toInt64 p1)) < 0) → (((lg_cmp (mJ M0 a0 8) (Int32.toInt64 p2)) ≤ 0) → wp_X12_go g M0 a0 0 (fun M7 => lb_X12_number_51  g M0 a0 p1 p2 post  (Int64.toInt32 (mJ M0 a0 8)) M7)) ∧ (¬ ((lg_cmp (mJ M0 a0 8) (Int32.toInt64 p2)) ≤ 0) → wp_X12_none g M0 a0 2 (fun v8 M9 => post v8 M9)))) ∧ (¬ ((mI M0 a0 6) = 3) → wp_X12_none g M0 a0 1 (fun v10 M11 => post v10 M11)))
set_option maxHeartbeats 4000000 in
set_option maxRecDepth 100000 in
theorem lt_X12_number_51 {l : Launch} {g : Gh} {p : Program} {e : Env} {s : State} {m : MethodId} {args : Array Value} {below : List Frame} {meth : Method} {c : Code} {H : Heap} {locs : List Loc} {ls : Array Slot} {M0 M : Mem} {a0 : Nat} {p1 : Int32} {p2 : Int32} {post : Int32 → Mem → Prop} {x3 : Int32}   (C : Cx g p s m args c cX12_number 4 RX12) (hr : meth.sig.returnType = (some .int)) (hlk : meth.locks = false) (hn : meth.name = "number") (h0 : okc (gB g) M0 a0 12)  (hq : lb_X12_number_51  g M0 a0 p1 p2 post  x3 M) (hw : Wd g s M0 M H locs) (hl : lv_has ls 4 [(0, .ref a0), (1, .int p1), (2, .int p2), (3, .int x3)]) : W p l e (rmo 3 0 0) s m args below meth c H locs 0 0 (MQ below (Cq g M0 (pI post)) args s 0 0 (gA g)) (F0 m 51 ls []) := by
  have hx := C.1.1
  have hb := C.1.2.1
  unfold lb_X12_number_51 at hq
  refine lv_iload_n hx hb dX12_number_51 rfl (lv_at hl 3 rfl) ?_
  exact r_iret C hr hlk hw dX12_number_52 (Nat.le_refl _) (Nat.le_refl _) ⟨_, rfl, hq⟩
set_option maxHeartbeats 4000000 in
set_option maxRecDepth 100000 in
theorem ct_X12_number {l : Launch} {g : Gh} {M0 : Mem} {a0 : Nat} {p1 : Int32} {p2 : Int32} {post : Int32 → Mem → Prop}  (hq : wp_X12_number  g M0 a0 p1 p2 post) : Ct l g yX12_number cX12_number 4 (some .int) 3 0 0 [.ref a0, .int p1, .int p2] M0 (pI post) := by
  unfold wp_X12_number at hq
  obtain ⟨h0, hq⟩ := hq
  refine Ct.of (by decide) (Nat.le_of_ble_eq_true rfl) ?_
  intro p e s m below meth c ls C hr hlk hn hl hw
  have hx := C.1.1
  have hb := C.1.2.1
  have hl : lv_has ls 4 [(0, .ref a0), (1, .int p1), (2, .int p2)] := hl
  refine lv_aload_n hx hb dX12_number_0 rfl (lv_at hl 0 rfl) ?_
  refine gfX12_143 C hw hw.2.2.1 h0 dX12_number_1 ?_
  refine lv_iconst (v := 3) hx hb dX12_number_4 (by decide) ?_
  refine lv_icmp_eq (tgt := 14) hx hb dX12_number_5 (by decide) (fun c1 => ?_) (fun c1 => ?_)
  · replace hq := hq.1 c1
    refine lv_aload_n hx hb dX12_number_14 rfl (lv_at hl 0 rfl) ?_
    refine gfX12_163 C hw hw.2.2.1 h0 dX12_number_15 ?_
    refine lv_iload_n hx hb dX12_number_18 rfl (lv_at hl 1 rfl) ?_
    refine lv_i2l (v := (Int32.toInt64 p1)) hx hb dX12_number_19 rfl ?_
    refine W.lcmp hx hb dX12_number_20 ?_
    refine lv_if_lt (tgt := 34) hx hb dX12_number_21 (by decide) (fun c2 => ?_) (fun c2 => ?_)
    · replace hq := hq.1 c2
      refine lv_aload_n hx hb dX12_number_34 rfl (lv_at hl 0 rfl) ?_
      refine lv_iconst (v := 2) hx hb dX12_number_35 (by decide) ?_
      refine r_callV (T := TX12) (N := 67) (ci := 12) (index := 216) (n := 1) (d2 := 1) (mc := 0) (ms := 0) (As := [.int 2]) (rest := []) C hw (ct_X12_none hq) kvX12_216 hq.1 (by decide) rfl ⟨by decide, by decide⟩ ⟨by decide, by decide⟩ rfl hl.1 rfl (Nat.le_of_ble_eq_true rfl) dX12_number_36 (fun r M4 H locs hp hle hw => ?_)
      obtain ⟨v3, rfl, hq⟩ := hp
      refine W.eq (g2 := F0 m 39 ls [.int v3]) rfl ?_
      exact r_iret C hr hlk hw dX12_number_39 (Nat.le_refl _) (Nat.le_refl _) ⟨_, rfl, hq⟩
    · replace hq := hq.2 c2
      refine lv_aload_n hx hb dX12_number_24 rfl (lv_at hl 0 rfl) ?_
      refine gfX12_163 C hw hw.2.2.1 h0 dX12_number_25 ?_
      refine lv_iload_n hx hb dX12_number_28 rfl (lv_at hl 2 rfl) ?_
      refine lv_i2l (v := (Int32.toInt64 p2)) hx hb dX12_number_29 rfl ?_
      refine W.lcmp hx hb dX12_number_30 ?_
      refine lv_if_le (tgt := 40) hx hb dX12_number_31 (by decide) (fun c5 => ?_) (fun c5 => ?_)
      · replace hq := hq.1 c5
        refine lv_aload_n hx hb dX12_number_40 rfl (lv_at hl 0 rfl) ?_
        refine gfX12_163 C hw hw.2.2.1 h0 dX12_number_41 ?_
        refine lv_l2i (v := (Int64.toInt32 (mJ M0 a0 8))) hx hb dX12_number_44 rfl ?_
        refine lv_istore_n (lv' := [(3, .int (Int64.toInt32 (mJ M0 a0 8))), (0, .ref a0), (1, .int p1), (2, .int p2)]) hx hb dX12_number_45 rfl hl (by decide) rfl (fun ls hl => ?_)
        refine lv_aload_n hx hb dX12_number_46 rfl (lv_at hl 1 rfl) ?_
        refine lv_iconst (v := 0) hx hb dX12_number_47 (by decide) ?_
        refine r_callV (T := TX12) (N := 67) (ci := 12) (index := 202) (n := 1) (d2 := 2) (mc := 0) (ms := 0) (As := [.int 0]) (rest := []) C hw (ct_X12_go hq) kvX12_202 hq.1 (by decide) rfl ⟨by decide, by decide⟩ ⟨by decide, by decide⟩ rfl hl.1 rfl (Nat.le_of_ble_eq_true rfl) dX12_number_48 (fun r M7 H locs hp hle hw => ?_)
        obtain ⟨rfl, hq⟩ := hp
        refine W.eq (g2 := F0 m 51 ls []) rfl ?_
        exact lt_X12_number_51  C hr hlk hn h0  hq hw (lv_sub hl [1, 2, 3, 0] rfl)
      · replace hq := hq.2 c5
        refine lv_aload_n hx hb dX12_number_34 rfl (lv_at hl 0 rfl) ?_
        refine lv_iconst (v := 2) hx hb dX12_number_35 (by decide) ?_
        refine r_callV (T := TX12) (N := 67) (ci := 12) (index := 216) (n := 1) (d2 := 1) (mc := 0) (ms := 0) (As := [.int 2]) (rest := []) C hw (ct_X12_none hq) kvX12_216 hq.1 (by decide) rfl ⟨by decide, by decide⟩ ⟨by decide, by decide⟩ rfl hl.1 rfl (Nat.le_of_ble_eq_true rfl) dX12_number_36 (fun r M9 H locs hp hle hw => ?_)
        obtain ⟨v8, rfl, hq⟩ := hp
        refine W.eq (g2 := F0 m 39 ls [.int v8]) rfl ?_
        exact r_iret C hr hlk hw dX12_number_39 (Nat.le_refl _) (Nat.le_refl _) ⟨_, rfl, hq⟩
  · replace hq := hq.2 c1
    refine lv_aload_n hx hb dX12_number_8 rfl (lv_at hl 0 rfl) ?_
    refine lv_iconst (v := 1) hx hb dX12_number_9 (by decide) ?_
    refine r_callV (T := TX12) (N := 67) (ci := 12) (index := 216) (n := 1) (d2 := 1) (mc := 0) (ms := 0) (As := [.int 1]) (rest := []) C hw (ct_X12_none hq) kvX12_216 hq.1 (by decide) rfl ⟨by decide, by decide⟩ ⟨by decide, by decide⟩ rfl hl.1 rfl (Nat.le_of_ble_eq_true rfl) dX12_number_10 (fun r M11 H locs hp hle hw => ?_)
    obtain ⟨v10, rfl, hq⟩ := hp
    refine W.eq (g2 := F0 m 13 ls [.int v10]) rfl ?_
    exact r_iret C hr hlk hw dX12_number_13 (Nat.le_refl _) (Nat.le_refl _) ⟨_, rfl, hq⟩
