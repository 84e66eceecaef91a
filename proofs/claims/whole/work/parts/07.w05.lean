set_option maxRecDepth 100000 in
def lb_X3_endsInAnyOrder_107  (g : Gh) (M0 : Mem) (a0 : Nat) (p1 : Int32) (post : Int32 → Mem → Prop)  (x2 : Int32)  (M : Mem) : Prop :=
  ∃ q1, mR M a0 4 = some q1 ∧ (okc (gB g) M0 q1 14 ∧ (vp_in x2 (mN M0 q1) ∧ (post (mI M q1 (Int32.toNatClampNeg x2)) M)))
set_option maxRecDepth 100000 in
def lb_X3_endsInAnyOrder_98  (g : Gh) (M0 : Mem) (a0 : Nat) (p1 : Int32) (post : Int32 → Mem → Prop) (bk28 : Int32 × Int32 × Mem → Prop) (bk36 : Int32 × Int32 × Int32 × Mem → Prop) (x2 : Int32) (x3 : Int32) (x4 : Int32)  (M : Mem) : Prop :=
  bk36 (x2, x3, x4, M)
set_option maxRecDepth 100000 in
def bd_X3_endsInAnyOrder_36  (g : Gh) (M0 : Mem) (a0 : Nat) (p1 : Int32) (post : Int32 → Mem → Prop) (bk28 : Int32 × Int32 × Mem → Prop) (bk36 : Int32 × Int32 × Int32 × Mem → Prop) (x2 : Int32) (x3 : Int32) (x4 : Int32)  (M : Mem) : Prop :=
  (((mI M a0 3) ≤ x4) → bk28 (x2, (x3 + 1), M)) ∧ (¬ ((mI M a0 3) ≤ x4) → ∃ q6, mR M a0 4 = some q6 ∧ (okc (gB g) M0 q6 14 ∧ (vp_in x3 (mN M0 q6) ∧ ((((mI M q6 (Int32.toNatClampNeg x3)) = 0) → bk28 (x2, (x3 + 1), M)) ∧ (¬ ((mI M q6 (Int32.toNatClampNeg x3)) = 0) → ((((x3 >>> (x4 &&& 31)) &&& 1) = 0) → vp_in (x3 ||| (1 <<< (x4 &&& 31))) (mN M0 q6) ∧ (∃ q13, mR M a0 2 = some q13 ∧ (wp_X3_endsBehind g M (mI M q6 (Int32.toNatClampNeg x3)) q13 (x4 * 21) (fun v15 M16 => ∀ M17, M17 = uI M16 q6 (Int32.toNatClampNeg (x3 ||| (1 <<< (x4 &&& 31)))) ((mI M q6 (Int32.toNatClampNeg (x3 ||| (1 <<< (x4 &&& 31))))) ||| v15) → (lb_X3_endsInAnyOrder_98  g M0 a0 p1 post bk28 bk36 x2 x3 (x4 + 1) M17))))) ∧ (¬ (((x3 >>> (x4 &&& 31)) &&& 1) = 0) → lb_X3_endsInAnyOrder_98  g M0 a0 p1 post bk28 bk36 x2 x3 (x4 + 1) M))))))
set_option maxRecDepth 100000 in
def bd_X3_endsInAnyOrder_28  (g : Gh) (M0 : Mem) (a0 : Nat) (p1 : Int32) (post : Int32 → Mem → Prop)  (bk28 : Int32 × Int32 × Mem → Prop) (x2 : Int32) (x3 : Int32)  (M : Mem) : Prop :=
  ((x2 ≤ x3) → lb_X3_endsInAnyOrder_107  g M0 a0 p1 post  x2 M) ∧ (¬ (x2 ≤ x3) → (∃ n : Nat, lfp (fun bk z => bd_X3_endsInAnyOrder_36  g M0 a0 p1 post bk28 bk z.1 z.2.1 z.2.2.1 z.2.2.2) n (x2, x3, 0, M)))
set_option maxRecDepth 100000 in
def wp_X3_endsInAnyOrder  (g : Gh) (M0 : Mem) (a0 : Nat) (p1 : Int32) (post : Int32 → Mem → Prop) : Prop :=
  okc (gB g) M0 a0 3 ∧ (∃ q20, mR M0 a0 4 = some q20 ∧ (wp_J7_fill_53178 g M0 q20 0 (fun M23 => ∃ q24, mR M23 a0 4 = some q24 ∧ (okc (gB g) M0 q24 14 ∧ (vp_in 0 (mN M0 q24) ∧ (∀ M28, M28 = uI M23 q24 (Int32.toNatClampNeg 0) (1 <<< (p1 &&& 31)) → ((∃ n : Nat, lfp (fun bk z => bd_X3_endsInAnyOrder_28  g M0 a0 p1 post  bk z.1 z.2.1 z.2.2) n (((1 <<< ((mI M0 a0 3) &&& 31)) - 1), 0, M28)))))))))
set_option maxHeartbeats 4000000 in
set_option maxRecDepth 100000 in
theorem lt_X3_endsInAnyOrder_107 {l : Launch} {g : Gh} {p : Program} {e : Env} {s : State} {m : MethodId} {args : Array Value} {below : List Frame} {meth : Method} {c : Code} {H : Heap} {locs : List Loc} {ls : Array Slot} {M0 M : Mem} {a0 : Nat} {p1 : Int32} {post : Int32 → Mem → Prop} {x2 : Int32}   (C : Cx g p s m args c cX3_endsInAnyOrder 5 RX3) (hr : meth.sig.returnType = (some .int)) (hlk : meth.locks = false) (hn : meth.name = "endsInAnyOrder") (h0 : okc (gB g) M0 a0 3)  (hq : lb_X3_endsInAnyOrder_107  g M0 a0 p1 post  x2 M) (hw : Wd g s M0 M H locs) (hl : lv_has ls 5 [(0, .ref a0), (1, .int p1), (2, .int x2)]) : W p l e (rmo 1 0 0) s m args below meth c H locs 0 0 (MQ below (Cq g M0 (pI post)) args s 0 0 (gA g)) (F0 m 107 ls []) := by
  have hx := C.1.1
  have hb := C.1.2.1
  unfold lb_X3_endsInAnyOrder_107 at hq
  refine lv_aload_n hx hb dX3_endsInAnyOrder_107 rfl (lv_at hl 0 rfl) ?_
  obtain ⟨q1, e2, hq⟩ := hq
  refine gfX3_27 C hw hw.2.2.1 h0 e2 dX3_endsInAnyOrder_108 ?_
  refine lv_iload_n hx hb dX3_endsInAnyOrder_111 rfl (lv_at hl 2 rfl) ?_
  obtain ⟨h3, hq⟩ := hq
  obtain ⟨h4, hq⟩ := hq
  refine q_iald C hw hw.2.2.1 h3 h4 dX3_endsInAnyOrder_112 ?_
  exact r_iret C hr hlk hw dX3_endsInAnyOrder_113 (Nat.le_refl _) (Nat.le_refl _) ⟨_, rfl, hq⟩
set_option maxHeartbeats 4000000 in
set_option maxRecDepth 100000 in
theorem lt_X3_endsInAnyOrder_98 {l : Launch} {g : Gh} {p : Program} {e : Env} {s : State} {m : MethodId} {args : Array Value} {below : List Frame} {meth : Method} {c : Code} {H : Heap} {locs : List Loc} {ls : Array Slot} {M0 M : Mem} {a0 : Nat} {p1 : Int32} {post : Int32 → Mem → Prop} {x2 : Int32} {x3 : Int32} {x4 : Int32}   (C : Cx g p s m args c cX3_endsInAnyOrder 5 RX3) (hr : meth.sig.returnType = (some .int)) (hlk : meth.locks = false) (hn : meth.name = "endsInAnyOrder") (h0 : okc (gB g) M0 a0 3) {bk28 : Int32 × Int32 × Mem → Prop} (hk28 : ∀ (x2 : Int32) (x3 : Int32) (M : Mem) (H : Heap) (locs : List Loc) (ls : Array Slot), bk28 (x2, x3, M) → Wd g s M0 M H locs → lv_has ls 5 [(0, .ref a0), (1, .int p1), (2, .int x2), (3, .int x3)] → W p l e (rmo 1 0 0) s m args below meth c H locs 0 0 (MQ below (Cq g M0 (pI post)) args s 0 0 (gA g)) (F0 m 28 ls [])) {bk36 : Int32 × Int32 × Int32 × Mem → Prop} (hk36 : ∀ (x2 : Int32) (x3 : Int32) (x4 : Int32) (M : Mem) (H : Heap) (locs : List Loc) (ls : Array Slot), bk36 (x2, x3, x4, M) → Wd g s M0 M H locs → lv_has ls 5 [(0, .ref a0), (1, .int p1), (2, .int x2), (3, .int x3), (4, .int x4)] → W p l e (rmo 1 0 0) s m args below meth c H locs 0 0 (MQ below (Cq g M0 (pI post)) args s 0 0 (gA g)) (F0 m 36 ls [])) (hq : lb_X3_endsInAnyOrder_98  g M0 a0 p1 post bk28 bk36 x2 x3 x4 M) (hw : Wd g s M0 M H locs) (hl : lv_has ls 5 [(0, .ref a0), (1, .int p1), (2, .int x2), (3, .int x3), (4, .int x4)]) : W p l e (rmo 1 0 0) s m args below meth c H locs 0 0 (MQ below (Cq g M0 (pI post)) args s 0 0 (gA g)) (F0 m 98 ls []) := by
  have hx := C.1.1
  have hb := C.1.2.1
  unfold lb_X3_endsInAnyOrder_98 at hq
  refine lv_goto (tgt := 36) hx hb dX3_endsInAnyOrder_98 (by decide) ?_
  exact hk36 _ _ _ _ _ _ _ hq hw (lv_sub hl [0, 1, 2, 3, 4] rfl)
set_option maxHeartbeats 4000000 in
set_option maxRecDepth 100000 in
theorem lp_X3_endsInAnyOrder_36 {l : Launch} {g : Gh} {p : Program} {e : Env} {s : State} {m : MethodId} {args : Array Value} {below : List Frame} {meth : Method} {c : Code} {M0 : Mem} {a0 : Nat} {p1 : Int32} {post : Int32 → Mem → Prop}  (C : Cx g p s m args c cX3_endsInAnyOrder 5 RX3) (hr : meth.sig.returnType = (some .int)) (hlk : meth.locks = false) (hn : meth.name = "endsInAnyOrder") (h0 : okc (gB g) M0 a0 3) {bk28 : Int32 × Int32 × Mem → Prop} (hk28 : ∀ (x2 : Int32) (x3 : Int32) (M : Mem) (H : Heap) (locs : List Loc) (ls : Array Slot), bk28 (x2, x3, M) → Wd g s M0 M H locs → lv_has ls 5 [(0, .ref a0), (1, .int p1), (2, .int x2), (3, .int x3)] → W p l e (rmo 1 0 0) s m args below meth c H locs 0 0 (MQ below (Cq g M0 (pI post)) args s 0 0 (gA g)) (F0 m 28 ls [])) : ∀ (nf : Nat) (x2 : Int32) (x3 : Int32) (x4 : Int32)  (M : Mem) (H : Heap) (locs : List Loc) (ls : Array Slot), lfp (fun bk z => bd_X3_endsInAnyOrder_36  g M0 a0 p1 post bk28 bk z.1 z.2.1 z.2.2.1 z.2.2.2) nf (x2, x3, x4, M) → Wd g s M0 M H locs → lv_has ls 5 [(0, .ref a0), (1, .int p1), (2, .int x2), (3, .int x3), (4, .int x4)] → W p l e (rmo 1 0 0) s m args below meth c H locs 0 0 (MQ below (Cq g M0 (pI post)) args s 0 0 (gA g)) (F0 m 36 ls []) := by
  have hx := C.1.1
  have hb := C.1.2.1
  intro nf
  induction nf with
  | zero => intro _ _ _ _ H locs ls hq; exact hq.elim
  | succ nf hk36 =>
    intro x2 x3 x4 M H locs ls hq hw hl
    replace hq : bd_X3_endsInAnyOrder_36  g M0 a0 p1 post bk28 (lfp (fun bk z => bd_X3_endsInAnyOrder_36  g M0 a0 p1 post bk28 bk z.1 z.2.1 z.2.2.1 z.2.2.2) nf) x2 x3 x4 M := hq
    unfold bd_X3_endsInAnyOrder_36 at hq
    refine lv_iload hx hb dX3_endsInAnyOrder_36 (lv_at hl 4 rfl) ?_
    refine lv_aload_n hx hb dX3_endsInAnyOrder_38 rfl (lv_at hl 0 rfl) ?_
    refine gfX3_23 C hw hw.2.2.1 h0 dX3_endsInAnyOrder_39 ?_
    refine lv_icmp_ge (tgt := 101) hx hb dX3_endsInAnyOrder_42 (by decide) (fun c5 => ?_) (fun c5 => ?_)
    · replace hq := hq.1 c5
      refine lv_iinc (v := (x3 + 1)) (lv' := [(3, .int (x3 + 1)), (0, .ref a0), (1, .int p1), (2, .int x2), (4, .int x4)]) hx hb dX3_endsInAnyOrder_101 hl (k := 3) rfl rfl (by decide) rfl (fun ls hl => ?_)
      refine lv_goto (tgt := 28) hx hb dX3_endsInAnyOrder_104 (by decide) ?_
      exact hk28 _ _ _ _ _ _ hq hw (lv_sub hl [1, 2, 3, 0] rfl)
    · replace hq := hq.2 c5
      refine lv_aload_n hx hb dX3_endsInAnyOrder_45 rfl (lv_at hl 0 rfl) ?_
      obtain ⟨q6, e7, hq⟩ := hq
      refine gfX3_27 C hw hw.2.2.1 h0 e7 dX3_endsInAnyOrder_46 ?_
      refine lv_iload_n hx hb dX3_endsInAnyOrder_49 rfl (lv_at hl 3 rfl) ?_
      obtain ⟨h8, hq⟩ := hq
      obtain ⟨h9, hq⟩ := hq
      refine q_iald C hw hw.2.2.1 h8 h9 dX3_endsInAnyOrder_50 ?_
      refine lv_if_eq (tgt := 101) hx hb dX3_endsInAnyOrder_51 (by decide) (fun c10 => ?_) (fun c10 => ?_)
      · replace hq := hq.1 c10
        refine lv_iinc (v := (x3 + 1)) (lv' := [(3, .int (x3 + 1)), (0, .ref a0), (1, .int p1), (2, .int x2), (4, .int x4)]) hx hb dX3_endsInAnyOrder_101 hl (k := 3) rfl rfl (by decide) rfl (fun ls hl => ?_)
        refine lv_goto (tgt := 28) hx hb dX3_endsInAnyOrder_104 (by decide) ?_
        exact hk28 _ _ _ _ _ _ hq hw (lv_sub hl [1, 2, 3, 0] rfl)
      · replace hq := hq.2 c10
        refine lv_iload_n hx hb dX3_endsInAnyOrder_54 rfl (lv_at hl 3 rfl) ?_
        refine lv_iload hx hb dX3_endsInAnyOrder_55 (lv_at hl 4 rfl) ?_
        refine lv_ishr hx hb dX3_endsInAnyOrder_57 ?_
        refine lv_iconst (v := 1) hx hb dX3_endsInAnyOrder_58 (by decide) ?_
        refine lv_iand hx hb dX3_endsInAnyOrder_59 ?_
        refine lv_if_ne (tgt := 95) hx hb dX3_endsInAnyOrder_60 (by decide) (fun c11 => ?_) (fun c11 => ?_)
        · replace hq := hq.2 c11
          refine lv_iinc (v := (x4 + 1)) (lv' := [(4, .int (x4 + 1)), (0, .ref a0), (1, .int p1), (2, .int x2), (3, .int x3)]) hx hb dX3_endsInAnyOrder_95 hl (k := 4) rfl rfl (by decide) rfl (fun ls hl => ?_)
          exact lt_X3_endsInAnyOrder_98  C hr hlk hn h0 hk28 hk36 hq hw (lv_sub hl [1, 2, 3, 4, 0] rfl)
        · replace hq := hq.1 c11
          refine lv_aload_n hx hb dX3_endsInAnyOrder_63 rfl (lv_at hl 0 rfl) ?_
          refine gfX3_27 C hw hw.2.2.1 h0 e7 dX3_endsInAnyOrder_64 ?_
          refine lv_iload_n hx hb dX3_endsInAnyOrder_67 rfl (lv_at hl 3 rfl) ?_
          refine lv_iconst (v := 1) hx hb dX3_endsInAnyOrder_68 (by decide) ?_
          refine lv_iload hx hb dX3_endsInAnyOrder_69 (lv_at hl 4 rfl) ?_
          refine lv_ishl hx hb dX3_endsInAnyOrder_71 ?_
          refine lv_ior hx hb dX3_endsInAnyOrder_72 ?_
          refine lv_dup2_11 hx hb dX3_endsInAnyOrder_73 rfl rfl ?_
          obtain ⟨h12, hq⟩ := hq
          refine q_iald C hw hw.2.2.1 h8 h12 dX3_endsInAnyOrder_74 ?_
          refine lv_aload_n hx hb dX3_endsInAnyOrder_75 rfl (lv_at hl 0 rfl) ?_
          refine gfX3_27 C hw hw.2.2.1 h0 e7 dX3_endsInAnyOrder_76 ?_
          refine lv_iload_n hx hb dX3_endsInAnyOrder_79 rfl (lv_at hl 3 rfl) ?_
          refine q_iald C hw hw.2.2.1 h8 h9 dX3_endsInAnyOrder_80 ?_
          refine lv_aload_n hx hb dX3_endsInAnyOrder_81 rfl (lv_at hl 0 rfl) ?_
          obtain ⟨q13, e14, hq⟩ := hq
          refine gfX3_20 C hw hw.2.2.1 h0 e14 dX3_endsInAnyOrder_82 ?_
          refine lv_iload hx hb dX3_endsInAnyOrder_85 (lv_at hl 4 rfl) ?_
          refine lv_bipush (v := 21) hx hb dX3_endsInAnyOrder_87 (by decide) ?_
          refine lv_imul hx hb dX3_endsInAnyOrder_89 ?_
          refine r_callS (index := 33) (n := 3) (d2 := 0) (mc := 0) (ms := 0) (As := [.int (mI M q6 (Int32.toNatClampNeg x3)), .ref q13, .int (x4 * 21)]) (rest := [.int (mI M q6 (Int32.toNatClampNeg (x3 ||| (1 <<< (x4 &&& 31))))), .int (x3 ||| (1 <<< (x4 &&& 31))), .ref q6]) C hw (ct_X3_endsBehind hq) ksX3_33 ⟨by decide, by decide⟩ ⟨by decide, by decide⟩ rfl hl.1 rfl (Nat.le_of_ble_eq_true rfl) dX3_endsInAnyOrder_90 (fun r M16 H locs hp hle hw => ?_)
          obtain ⟨v15, rfl, hq⟩ := hp
          refine W.eq (g2 := F0 m 93 ls [.int v15, .int (mI M q6 (Int32.toNatClampNeg (x3 ||| (1 <<< (x4 &&& 31))))), .int (x3 ||| (1 <<< (x4 &&& 31))), .ref q6]) rfl ?_
          refine lv_ior hx hb dX3_endsInAnyOrder_93 ?_
          refine q_iast C hw hw.2.2.1 h8 h12 dX3_endsInAnyOrder_94 (fun H locs hw => ?_)
          generalize e18 : uI M16 q6 (Int32.toNatClampNeg (x3 ||| (1 <<< (x4 &&& 31)))) ((mI M q6 (Int32.toNatClampNeg (x3 ||| (1 <<< (x4 &&& 31))))) ||| v15) = M17 at hw
          replace hq := hq M17 e18.symm
          refine lv_iinc (v := (x4 + 1)) (lv' := [(4, .int (x4 + 1)), (0, .ref a0), (1, .int p1), (2, .int x2), (3, .int x3)]) hx hb dX3_endsInAnyOrder_95 hl (k := 4) rfl rfl (by decide) rfl (fun ls hl => ?_)
          exact lt_X3_endsInAnyOrder_98  C hr hlk hn h0 hk28 hk36 hq hw (lv_sub hl [1, 2, 3, 4, 0] rfl)
set_option maxHeartbeats 4000000 in
set_option maxRecDepth 100000 in
theorem lp_X3_endsInAnyOrder_28 {l : Launch} {g : Gh} {p : Program} {e : Env} {s : State} {m : MethodId} {args : Array Value} {below : List Frame} {meth : Method} {c : Code} {M0 : Mem} {a0 : Nat} {p1 : Int32} {post : Int32 → Mem → Prop}  (C : Cx g p s m args c cX3_endsInAnyOrder 5 RX3) (hr : meth.sig.returnType = (some .int)) (hlk : meth.locks = false) (hn : meth.name = "endsInAnyOrder") (h0 : okc (gB g) M0 a0 3)  : ∀ (nf : Nat) (x2 : Int32) (x3 : Int32)  (M : Mem) (H : Heap) (locs : List Loc) (ls : Array Slot), lfp (fun bk z => bd_X3_endsInAnyOrder_28  g M0 a0 p1 post  bk z.1 z.2.1 z.2.2) nf (x2, x3, M) → Wd g s M0 M H locs → lv_has ls 5 [(0, .ref a0), (1, .int p1), (2, .int x2), (3, .int x3)] → W p l e (rmo 1 0 0) s m args below meth c H locs 0 0 (MQ below (Cq g M0 (pI post)) args s 0 0 (gA g)) (F0 m 28 ls []) := by
  have hx := C.1.1
  have hb := C.1.2.1
  intro nf
  induction nf with
  | zero => intro _ _ _ H locs ls hq; exact hq.elim
  | succ nf hk28 =>
    intro x2 x3 M H locs ls hq hw hl
    replace hq : bd_X3_endsInAnyOrder_28  g M0 a0 p1 post  (lfp (fun bk z => bd_X3_endsInAnyOrder_28  g M0 a0 p1 post  bk z.1 z.2.1 z.2.2) nf) x2 x3 M := hq
    unfold bd_X3_endsInAnyOrder_28 at hq
    refine lv_iload_n hx hb dX3_endsInAnyOrder_28 rfl (lv_at hl 3 rfl) ?_
    refine lv_iload_n hx hb dX3_endsInAnyOrder_29 rfl (lv_at hl 2 rfl) ?_
    refine lv_icmp_ge (tgt := 107) hx hb dX3_endsInAnyOrder_30 (by decide) (fun c19 => ?_) (fun c19 => ?_)
    · replace hq := hq.1 c19
      exact lt_X3_endsInAnyOrder_107  C hr hlk hn h0  hq hw (lv_sub hl [0, 1, 2] rfl)
    · replace hq := hq.2 c19
      refine lv_iconst (v := 0) hx hb dX3_endsInAnyOrder_33 (by decide) ?_
      refine lv_istore (lv' := [(4, .int 0), (0, .ref a0), (1, .int p1), (2, .int x2), (3, .int x3)]) hx hb dX3_endsInAnyOrder_34 hl (by decide) rfl (fun ls hl => ?_)
      obtain ⟨nf, hq⟩ := hq
      exact lp_X3_endsInAnyOrder_36  C hr hlk hn h0 hk28 nf _ _ _ _ _ _ _ hq hw (lv_sub hl [1, 2, 3, 4, 0] rfl)
set_option maxHeartbeats 4000000 in
set_option maxRecDepth 100000 in
theorem ct_X3_endsInAnyOrder {l : Launch} {g : Gh} {M0 : Mem} {a0 : Nat} {p1 : Int32} {post : Int32 → Mem → Prop}  (hq : wp_X3_endsInAnyOrder  g M0 a0 p1 post) : Ct l g yX3_endsInAnyOrder cX3_endsInAnyOrder 5 (some .int) 1 0 0 [.ref a0, .int p1] M0 (pI post) := by
  unfold wp_X3_endsInAnyOrder at hq
  obtain ⟨h0, hq⟩ := hq
  refine Ct.of (by decide) (Nat.le_of_ble_eq_true rfl) ?_
  intro p e s m below meth c ls C hr hlk hn hl hw
  have hx := C.1.1
  have hb := C.1.2.1
  have hl : lv_has ls 5 [(0, .ref a0), (1, .int p1)] := hl
  refine lv_iconst (v := 1) hx hb dX3_endsInAnyOrder_0 (by decide) ?_
  refine lv_aload_n hx hb dX3_endsInAnyOrder_1 rfl (lv_at hl 0 rfl) ?_
  refine gfX3_23 C hw hw.2.2.1 h0 dX3_endsInAnyOrder_2 ?_
  refine lv_ishl hx hb dX3_endsInAnyOrder_5 ?_
  refine lv_iconst (v := 1) hx hb dX3_endsInAnyOrder_6 (by decide) ?_
  refine lv_isub hx hb dX3_endsInAnyOrder_7 ?_
  refine lv_istore_n (lv' := [(2, .int ((1 <<< ((mI M0 a0 3) &&& 31)) - 1)), (0, .ref a0), (1, .int p1)]) hx hb dX3_endsInAnyOrder_8 rfl hl (by decide) rfl (fun ls hl => ?_)
  refine lv_aload_n hx hb dX3_endsInAnyOrder_9 rfl (lv_at hl 1 rfl) ?_
  obtain ⟨q20, e21, hq⟩ := hq
  refine gfX3_27 C hw hw.2.2.1 h0 e21 dX3_endsInAnyOrder_10 ?_
  refine lv_iconst (v := 0) hx hb dX3_endsInAnyOrder_13 (by decide) ?_
  refine r_callS (index := 43) (n := 2) (d2 := 0) (mc := 0) (ms := 0) (As := [.ref q20, .int 0]) (rest := []) C hw (ct_J7_fill_53178 hq) ksX3_43 ⟨by decide, by decide⟩ ⟨by decide, by decide⟩ rfl hl.1 rfl (Nat.le_of_ble_eq_true rfl) dX3_endsInAnyOrder_14 (fun r M23 H locs hp hle hw => ?_)
  obtain ⟨rfl, hq⟩ := hp
  refine W.eq (g2 := F0 m 17 ls []) rfl ?_
  refine lv_aload_n hx hb dX3_endsInAnyOrder_17 rfl (lv_at hl 1 rfl) ?_
  obtain ⟨q24, e25, hq⟩ := hq
  refine gfX3_27 C hw hw.2.2.1 h0 e25 dX3_endsInAnyOrder_18 ?_
  refine lv_iconst (v := 0) hx hb dX3_endsInAnyOrder_21 (by decide) ?_
  refine lv_iconst (v := 1) hx hb dX3_endsInAnyOrder_22 (by decide) ?_
  refine lv_iload_n hx hb dX3_endsInAnyOrder_23 rfl (lv_at hl 2 rfl) ?_
  refine lv_ishl hx hb dX3_endsInAnyOrder_24 ?_
  obtain ⟨h26, hq⟩ := hq
  obtain ⟨h27, hq⟩ := hq
  refine q_iast C hw hw.2.2.1 h26 h27 dX3_endsInAnyOrder_25 (fun H locs hw => ?_)
  generalize e29 : uI M23 q24 (Int32.toNatClampNeg 0) (1 <<< (p1 &&& 31)) = M28 at hw
  replace hq := hq M28 e29.symm
  have e25 : mR M28 a0 4 = some q24 := by rw [← e29, mR_uI]; exact e25
  refine lv_iconst (v := 0) hx hb dX3_endsInAnyOrder_26 (by decide) ?_
  refine lv_istore_n (lv' := [(3, .int 0), (2, .int ((1 <<< ((mI M0 a0 3) &&& 31)) - 1)), (0, .ref a0), (1, .int p1)]) hx hb dX3_endsInAnyOrder_27 rfl hl (by decide) rfl (fun ls hl => ?_)
  obtain ⟨nf, hq⟩ := hq
  exact lp_X3_endsInAnyOrder_28  C hr hlk hn h0  nf _ _ _ _ _ _ hq hw (lv_sub hl [2, 3, 1, 0] rfl)

set_option maxRecDepth 100000 in
def wp_X4_init  (g : Gh) (M0 : Mem) (a0 : Nat) (post : Mem → Prop) : Prop :=
  okc (gB g) M0 a0 4 ∧ (∀ q2 M3, q2 = mT M0 → M3 = nw M0 14 6 → (∀ M7, M7 = uR M3 a0 2 (some q2) → (∀ q10 M11, q10 = mT M7 → M11 = nw M7 17 6 → (∀ M15, M15 = uR M11 a0 3 (some q10) → (∀ q18 M19, q18 = mT M15 → M19 = nw M15 14 6 → (∀ M23, M23 = uR M19 a0 4 (some q18) → (∀ q26 M27, q26 = mT M23 → M27 = nw M23 14 6 → (∀ M31, M31 = uR M27 a0 5 (some q26) → (∀ q34 M35, q34 = mT M31 → M35 = nw M31 14 6 → (∀ M39, M39 = uR M35 a0 6 (some q34) → (post M39)))))))))))
set_option maxHeartbeats 4000000 in
set_option maxRecDepth 100000 in
theorem ct_X4_init {l : Launch} {g : Gh} {M0 : Mem} {a0 : Nat} {post : Mem → Prop}  (hq : wp_X4_init  g M0 a0 post) : Ct l g yX4_init cX4_init 1 none 1 5 30 [.ref a0] M0 (pV post) := by
  unfold wp_X4_init at hq
  obtain ⟨h0, hq⟩ := hq
  have h00 := h0
  refine Ct.of (by decide) (Nat.le_of_ble_eq_true rfl) ?_
  intro p e s m below meth c ls C hr hlk hn hl hw
  have hx := C.1.1
  have hb := C.1.2.1
  have hl : lv_has ls 1 [(0, .ref a0)] := hl
  refine lv_aload_n hx hb dX4_init_0 rfl (lv_at hl 0 rfl) ?_
  refine W.objInit hx hb C.1.2.2.2.1 (C.1.2.2.2.2 _ w_167) (C.1.2.2.2.2 _ w_35) (C.1.2.2.2.2 _ w_objInit) rfl (by rw [C.1.2.2.1]; exact hl.1) rfl dX4_init_1 (Nat.le_of_ble_eq_true rfl) (Nat.le_of_ble_eq_true rfl) ?_
  refine W.eq (g2 := F0 m 4 ls []) rfl ?_
  refine lv_aload_n hx hb dX4_init_4 rfl (lv_at hl 0 rfl) ?_
  refine lv_bipush (v := 6) hx hb dX4_init_5 (by decide) ?_
  have hB := hw.B C.2.2.2.2.2
  have h1 : 0 + 1 ≤ 5 ∧ 0 + 6 ≤ 30 := by decide
  refine q_newa_14 (N' := 6) C hw (by decide) (by decide) (by decide) h1.1 h1.2 dX4_init_7 (fun H hw => ?_)
  have h6 := okc_nw (gB g) M0 14 6 hB
  have h0 := h0.up (mle_nw M0 14 6)
  generalize e4 : nw M0 14 6 = M3 at hw h6 h0
  generalize e5 : mT M0 = q2 at h6 ⊢
  replace hq := hq q2 M3 e5.symm e4.symm
  refine pfX4_11 (v := (some q2)) C hw (mle_rf _) h0 hn dX4_init_9 (fun H locs hw => ?_)
  generalize e8 : uR M3 a0 2 (some q2) = M7 at hw
  replace hq := hq M7 e8.symm
  have h0 : okc (gB g) M7 a0 4 := by rw [← e8]; exact okc_uR h0
  refine lv_aload_n hx hb dX4_init_12 rfl (lv_at hl 0 rfl) ?_
  refine lv_bipush (v := 6) hx hb dX4_init_13 (by decide) ?_
  have hB := hw.B C.2.2.2.2.2
  have h9 : 1 + 1 ≤ 5 ∧ 6 + 6 ≤ 30 := by decide
  refine q_newa_17 (N' := 6) C hw (by decide) (by decide) (by decide) h9.1 h9.2 dX4_init_15 (fun H hw => ?_)
  have h14 := okc_nw (gB g) M7 17 6 hB
  have h0 := h0.up (mle_nw M7 17 6)
  generalize e12 : nw M7 17 6 = M11 at hw h14 h0
  generalize e13 : mT M7 = q10 at h14 ⊢
  replace hq := hq q10 M11 e13.symm e12.symm
  refine pfX4_15 (v := (some q10)) C hw (mle_rf _) h0 hn dX4_init_17 (fun H locs hw => ?_)
  generalize e16 : uR M11 a0 3 (some q10) = M15 at hw
  replace hq := hq M15 e16.symm
  have h0 : okc (gB g) M15 a0 4 := by rw [← e16]; exact okc_uR h0
  refine lv_aload_n hx hb dX4_init_20 rfl (lv_at hl 0 rfl) ?_
  refine lv_bipush (v := 6) hx hb dX4_init_21 (by decide) ?_
  have hB := hw.B C.2.2.2.2.2
  have h17 : 2 + 1 ≤ 5 ∧ 12 + 6 ≤ 30 := by decide
  refine q_newa_14 (N' := 6) C hw (by decide) (by decide) (by decide) h17.1 h17.2 dX4_init_23 (fun H hw => ?_)
  have h22 := okc_nw (gB g) M15 14 6 hB
  have h0 := h0.up (mle_nw M15 14 6)
  generalize e20 : nw M15 14 6 = M19 at hw h22 h0
  generalize e21 : mT M15 = q18 at h22 ⊢
  replace hq := hq q18 M19 e21.symm e20.symm
  refine pfX4_19 (v := (some q18)) C hw (mle_rf _) h0 hn dX4_init_25 (fun H locs hw => ?_)
  generalize e24 : uR M19 a0 4 (some q18) = M23 at hw
  replace hq := hq M23 e24.symm
  have h0 : okc (gB g) M23 a0 4 := by rw [← e24]; exact okc_uR h0
  refine lv_aload_n hx hb dX4_init_28 rfl (lv_at hl 0 rfl) ?_
  refine lv_bipush (v := 6) hx hb dX4_init_29 (by decide) ?_
  have hB := hw.B C.2.2.2.2.2
  have h25 : 3 + 1 ≤ 5 ∧ 18 + 6 ≤ 30 := by decide
  refine q_newa_14 (N' := 6) C hw (by decide) (by decide) (by decide) h25.1 h25.2 dX4_init_31 (fun H hw => ?_)
  have h30 := okc_nw (gB g) M23 14 6 hB
  have h0 := h0.up (mle_nw M23 14 6)
  generalize e28 : nw M23 14 6 = M27 at hw h30 h0
  generalize e29 : mT M23 = q26 at h30 ⊢
  replace hq := hq q26 M27 e29.symm e28.symm
  refine pfX4_22 (v := (some q26)) C hw (mle_rf _) h0 hn dX4_init_33 (fun H locs hw => ?_)
  generalize e32 : uR M27 a0 5 (some q26) = M31 at hw
  replace hq := hq M31 e32.symm
  have h0 : okc (gB g) M31 a0 4 := by rw [← e32]; exact okc_uR h0
  refine lv_aload_n hx hb dX4_init_36 rfl (lv_at hl 0 rfl) ?_
  refine lv_bipush (v := 6) hx hb dX4_init_37 (by decide) ?_
  have hB := hw.B C.2.2.2.2.2
  have h33 : 4 + 1 ≤ 5 ∧ 24 + 6 ≤ 30 := by decide
  refine q_newa_14 (N' := 6) C hw (by decide) (by decide) (by decide) h33.1 h33.2 dX4_init_39 (fun H hw => ?_)
  have h38 := okc_nw (gB g) M31 14 6 hB
  have h0 := h0.up (mle_nw M31 14 6)
  generalize e36 : nw M31 14 6 = M35 at hw h38 h0
  generalize e37 : mT M31 = q34 at h38 ⊢
  replace hq := hq q34 M35 e37.symm e36.symm
  refine pfX4_25 (v := (some q34)) C hw (mle_rf _) h0 hn dX4_init_41 (fun H locs hw => ?_)
  generalize e40 : uR M35 a0 6 (some q34) = M39 at hw
  replace hq := hq M39 e40.symm
  have h0 : okc (gB g) M39 a0 4 := by rw [← e40]; exact okc_uR h0
  have h41 : 5 ≤ 5 ∧ 30 ≤ 30 := by decide
  exact r_vret C hr hlk hw dX4_init_44 h41.1 h41.2 ⟨rfl, hq⟩

set_option maxRecDepth 100000 in
def wp_J3_checkIndex_8e157  (g : Gh) (M0 : Mem) (p0 : Int32) (p1 : Int32) (r2 : Option Nat) (post : Int32 → Mem → Prop) : Prop :=
  ((p0 < 0) → False) ∧ (¬ (p0 < 0) → ((p0 < p1) → post p0 M0) ∧ (¬ (p0 < p1) → False))
set_option maxHeartbeats 4000000 in
set_option maxRecDepth 100000 in
theorem ct_J3_checkIndex_8e157 {l : Launch} {g : Gh} {M0 : Mem} {p0 : Int32} {p1 : Int32} {r2 : Option Nat} {post : Int32 → Mem → Prop}  (hq : wp_J3_checkIndex_8e157  g M0 p0 p1 r2 post) : Ct l g yJ3_checkIndex_8e157 cJ3_checkIndex_8e157 3 (some .int) 0 0 0 [.int p0, .int p1, va_rf r2] M0 (pI post) := by
  unfold wp_J3_checkIndex_8e157 at hq
  refine Ct.of (by decide) (by cases r2 <;> exact Nat.le_of_ble_eq_true rfl) ?_
  intro p e s m below meth c ls C hr hlk hn hl hw
  have hx := C.1.1
  have hb := C.1.2.1
  have hl : lv_has ls 3 [(0, .int p0), (1, .int p1), (2, va_rf r2)] := hl
  refine lv_iload_n hx hb dJ3_checkIndex_8e157_0 rfl (lv_at hl 0 rfl) ?_
  refine lv_if_lt (tgt := 9) hx hb dJ3_checkIndex_8e157_1 (by decide) (fun c1 => ?_) (fun c1 => ?_)
  · replace hq := hq.1 c1
    refine r_aload_n hx hb dJ3_checkIndex_8e157_9 rfl (lv_at hl 2 rfl) ?_
    refine lv_iload_n hx hb dJ3_checkIndex_8e157_10 rfl (lv_at hl 0 rfl) ?_
    refine lv_iload_n hx hb dJ3_checkIndex_8e157_11 rfl (lv_at hl 1 rfl) ?_
    exact hq.elim
  · replace hq := hq.2 c1
    refine lv_iload_n hx hb dJ3_checkIndex_8e157_4 rfl (lv_at hl 0 rfl) ?_
    refine lv_iload_n hx hb dJ3_checkIndex_8e157_5 rfl (lv_at hl 1 rfl) ?_
    refine lv_icmp_lt (tgt := 16) hx hb dJ3_checkIndex_8e157_6 (by decide) (fun c2 => ?_) (fun c2 => ?_)
    · replace hq := hq.1 c2
      refine lv_iload_n hx hb dJ3_checkIndex_8e157_16 rfl (lv_at hl 0 rfl) ?_
      exact r_iret C hr hlk hw dJ3_checkIndex_8e157_17 (Nat.le_refl _) (Nat.le_refl _) ⟨_, rfl, hq⟩
    · replace hq := hq.2 c2
      refine r_aload_n hx hb dJ3_checkIndex_8e157_9 rfl (lv_at hl 2 rfl) ?_
      refine lv_iload_n hx hb dJ3_checkIndex_8e157_10 rfl (lv_at hl 0 rfl) ?_
      refine lv_iload_n hx hb dJ3_checkIndex_8e157_11 rfl (lv_at hl 1 rfl) ?_
      exact hq.elim

set_option maxRecDepth 100000 in
def wp_J0_checkIndex_df160  (g : Gh) (M0 : Mem) (p0 : Int32) (p1 : Int32) (post : Mem → Prop) : Prop :=
  ∀ r1 : Option Nat, (wp_J3_checkIndex_8e157 g M0 p0 p1 r1 (fun v2 M3 => post M3))
set_option maxHeartbeats 4000000 in
set_option maxRecDepth 100000 in
theorem ct_J0_checkIndex_df160 {l : Launch} {g : Gh} {M0 : Mem} {p0 : Int32} {p1 : Int32} {post : Mem → Prop}  (hq : wp_J0_checkIndex_df160  g M0 p0 p1 post) : Ct l g yJ0_checkIndex_df160 cJ0_checkIndex_df160 2 none 1 0 0 [.int p0, .int p1] M0 (pV post) := by
  unfold wp_J0_checkIndex_df160 at hq
  refine Ct.of (by decide) (Nat.le_of_ble_eq_true rfl) ?_
  intro p e s m below meth c ls C hr hlk hn hl hw
  have hx := C.1.1
  have hb := C.1.2.1
  have hl : lv_has ls 2 [(0, .int p0), (1, .int p1)] := hl
  refine lv_iload_n hx hb dJ0_checkIndex_df160_0 rfl (lv_at hl 0 rfl) ?_
  refine lv_iload_n hx hb dJ0_checkIndex_df160_1 rfl (lv_at hl 1 rfl) ?_
  refine r_sfmt C hw w_510 dJ0_checkIndex_df160_2 (fun r1 => ?_)
  replace hq := hq r1
  refine r_callS (index := 1059) (n := 3) (d2 := 0) (mc := 0) (ms := 0) (As := [.int p0, .int p1, va_rf r1]) (rest := []) C hw (ct_J3_checkIndex_8e157 hq) ksJ0_1059 ⟨by decide, by decide⟩ ⟨by decide, by decide⟩ rfl hl.1 rfl (Nat.le_of_ble_eq_true rfl) dJ0_checkIndex_df160_5 (fun r M3 H locs hp hle hw => ?_)
  obtain ⟨v2, rfl, hq⟩ := hp
  refine W.eq (g2 := F0 m 8 ls [.int v2]) rfl ?_
  refine lv_pop hx hb dJ0_checkIndex_df160_8 rfl ?_
  exact r_vret C hr hlk hw dJ0_checkIndex_df160_9 (Nat.le_refl _) (Nat.le_refl _) ⟨rfl, hq⟩

set_option maxRecDepth 100000 in
def wp_J1_charAt_3b067  (g : Gh) (M0 : Mem) (i : Nat) (p1 : Int32) (post : Int32 → Mem → Prop) : Prop :=
  i < 14 ∧ (wp_J0_checkIndex_df160 g M0 p1 (nI (stl.getD i 0)) (fun M2 => vp_in p1 (stl.getD i 0) ∧ (post ((Int32.toUInt32 (((stb.getD i []).getD (Int32.toNatClampNeg p1) 0) &&& 255) % 65536).toInt32) M2)))
set_option maxHeartbeats 4000000 in
set_option maxRecDepth 100000 in
theorem ct_J1_charAt_3b067 {l : Launch} {g : Gh} {M0 : Mem} {i : Nat} {p1 : Int32} {post : Int32 → Mem → Prop}  (hq : wp_J1_charAt_3b067  g M0 i p1 post) : Ct l g yJ1_charAt_3b067 cJ1_charAt_3b067 2 (some .char) 2 0 0 [.ref (gV g i), .int p1] M0 (pI post) := by
  unfold wp_J1_charAt_3b067 at hq
  obtain ⟨h0, hq⟩ := hq
  refine Ct.of (by decide) (Nat.le_of_ble_eq_true rfl) ?_
  intro p e s m below meth c ls C hr hlk hn hl hw
  have hx := C.1.1
  have hb := C.1.2.1
  have hl : lv_has ls 2 [(0, .ref (gV g i)), (1, .int p1)] := hl
  refine lv_iload_n hx hb dJ1_charAt_3b067_0 rfl (lv_at hl 1 rfl) ?_
  refine lv_aload_n hx hb dJ1_charAt_3b067_1 rfl (lv_at hl 0 rfl) ?_
  refine r_slen C hw h0 dJ1_charAt_3b067_2 ?_
  refine r_callS (index := 9) (n := 2) (d2 := 1) (mc := 0) (ms := 0) (As := [.int p1, .int (nI (stl.getD i 0))]) (rest := []) C hw (ct_J0_checkIndex_df160 hq) ksJ1_9 ⟨by decide, by decide⟩ ⟨by decide, by decide⟩ rfl hl.1 rfl (Nat.le_of_ble_eq_true rfl) dJ1_charAt_3b067_3 (fun r M2 H locs hp hle hw => ?_)
  obtain ⟨rfl, hq⟩ := hp
  refine W.eq (g2 := F0 m 6 ls []) rfl ?_
  refine lv_aload_n hx hb dJ1_charAt_3b067_6 rfl (lv_at hl 0 rfl) ?_
  refine lv_iload_n hx hb dJ1_charAt_3b067_7 rfl (lv_at hl 1 rfl) ?_
  obtain ⟨h3, hq⟩ := hq
  refine r_sbal C hw h0 h3 dJ1_charAt_3b067_8 ?_
  refine lv_sipush (v := 255) hx hb dJ1_charAt_3b067_9 (by decide) ?_
  refine lv_iand hx hb dJ1_charAt_3b067_12 ?_
  refine lv_i2c (v := ((Int32.toUInt32 (((stb.getD i []).getD (Int32.toNatClampNeg p1) 0) &&& 255) % 65536).toInt32)) hx hb dJ1_charAt_3b067_13 rfl ?_
  exact r_nret C hr hlk hw dJ1_charAt_3b067_14 (Nat.le_refl _) (Nat.le_refl _) (pk_nc _) ⟨_, rfl, hq⟩

set_option maxRecDepth 100000 in
def wp_J0_charAt_5068e  (g : Gh) (M0 : Mem) (i : Nat) (p1 : Int32) (post : Int32 → Mem → Prop) : Prop :=
  i < 14 ∧ (wp_J0_isLatin1_aae02 g M0 i (fun v1 M2 => ((v1 = 0) → False) ∧ (¬ (v1 = 0) → wp_J1_charAt_3b067 g M2 i p1 (fun v4 M5 => (narrow .char (.int v4) = .int v4) ∧ (post v4 M5)))))
set_option maxHeartbeats 4000000 in
set_option maxRecDepth 100000 in
theorem ct_J0_charAt_5068e {l : Launch} {g : Gh} {M0 : Mem} {i : Nat} {p1 : Int32} {post : Int32 → Mem → Prop}  (hq : wp_J0_charAt_5068e  g M0 i p1 post) : Ct l g yJ0_charAt_5068e cJ0_charAt_5068e 2 (some .char) 4 0 0 [.ref (gK g i), .int p1] M0 (pI post) := by
  unfold wp_J0_charAt_5068e at hq
  obtain ⟨h0, hq⟩ := hq
  refine Ct.of (by decide) (Nat.le_of_ble_eq_true rfl) ?_
  intro p e s m below meth c ls C hr hlk hn hl hw
  have hx := C.1.1
  have hb := C.1.2.1
  have hl : lv_has ls 2 [(0, .ref (gK g i)), (1, .int p1)] := hl
  refine lv_aload_n hx hb dJ0_charAt_5068e_0 rfl (lv_at hl 0 rfl) ?_
  refine r_callT (index := 492) (n := 0) (d2 := 0) (mc := 0) (ms := 0) (As := []) (rest := []) C hw (ct_J0_isLatin1_aae02 hq) kvJ0_492 hq.1 ⟨by decide, by decide⟩ ⟨by decide, by decide⟩ rfl hl.1 rfl (Nat.le_of_ble_eq_true rfl) dJ0_charAt_5068e_1 (fun r M2 H locs hp hle hw => ?_)
  obtain ⟨v1, rfl, hq⟩ := hp
  refine W.eq (g2 := F0 m 4 ls [.int v1]) rfl ?_
  refine lv_if_eq (tgt := 16) hx hb dJ0_charAt_5068e_4 (by decide) (fun c3 => ?_) (fun c3 => ?_)
  · replace hq := hq.1 c3
    refine lv_aload_n hx hb dJ0_charAt_5068e_16 rfl (lv_at hl 0 rfl) ?_
    refine r_sval C hw h0 w_1609 dJ0_charAt_5068e_17 ?_
    refine lv_iload_n hx hb dJ0_charAt_5068e_20 rfl (lv_at hl 1 rfl) ?_
    exact hq.elim
  · replace hq := hq.2 c3
    refine lv_aload_n hx hb dJ0_charAt_5068e_7 rfl (lv_at hl 0 rfl) ?_
    refine r_sval C hw h0 w_1609 dJ0_charAt_5068e_8 ?_
    refine lv_iload_n hx hb dJ0_charAt_5068e_11 rfl (lv_at hl 1 rfl) ?_
    refine r_callS (index := 495) (n := 2) (d2 := 2) (mc := 0) (ms := 0) (As := [.ref (gV g i), .int p1]) (rest := []) C hw (ct_J1_charAt_3b067 hq) ksJ0_495 ⟨by decide, by decide⟩ ⟨by decide, by decide⟩ rfl hl.1 rfl (Nat.le_of_ble_eq_true rfl) dJ0_charAt_5068e_12 (fun r M5 H locs hp hle hw => ?_)
    obtain ⟨v4, rfl, hq⟩ := hp
    refine W.eq (g2 := F0 m 15 ls [.int v4]) rfl ?_
    obtain ⟨h6, hq⟩ := hq
    exact r_nret C hr hlk hw dJ0_charAt_5068e_15 (Nat.le_refl _) (Nat.le_refl _) h6 ⟨_, rfl, hq⟩

set_option maxRecDepth 100000 in
def bd_X10_isWord_28  (g : Gh) (M0 : Mem) (a0 : Nat) (a1 : Nat) (post : Int32 → Mem → Prop)  (bk28 : Int32 × Mem → Prop) (x2 : Int32)  (M : Mem) : Prop :=
  ∃ i1, a1 = gK g i1 ∧ (wp_J0_length_8abf5 g M i1 (fun v3 M4 => ((v3 ≤ x2) → post 1 M4) ∧ (¬ (v3 ≤ x2) → wp_X10_byteAt g M4 a0 ((mI M4 a0 3) + x2) (fun v6 M7 => ∃ i8, a1 = gK g i8 ∧ (wp_J0_charAt_5068e g M7 i8 x2 (fun v10 M11 => ((v6 = v10) → bk28 ((x2 + 1), M11)) ∧ (¬ (v6 = v10) → post 0 M11)))))))
set_option maxRecDepth 100000 in
def wp_X10_isWord  (g : Gh) (M0 : Mem) (a0 : Nat) (a1 : Nat) (post : Int32 → Mem → Prop) : Prop :=
  okc (gB g) M0 a0 10 ∧ ((((mI M0 a0 2) = 1) → ∃ i14, a1 = gK g i14 ∧ (wp_J0_length_8abf5 g M0 i14 (fun v16 M17 => ((((mI M0 a0 5) - (mI M0 a0 3)) = v16) → (∃ n : Nat, lfp (fun bk z => bd_X10_isWord_28  g M0 a0 a1 post  bk z.1 z.2) n (0, M17))) ∧ (¬ (((mI M0 a0 5) - (mI M0 a0 3)) = v16) → post 0 M17)))) ∧ (¬ ((mI M0 a0 2) = 1) → post 0 M0))
set_option maxHeartbeats 4000000 in
set_option maxRecDepth 100000 in
theorem lp_X10_isWord_28 {l : Launch} {g : Gh} {p : Program} {e : Env} {s : State} {m : MethodId} {args : Array Value} {below : List Frame} {meth : Method} {c : Code} {M0 : Mem} {a0 : Nat} {a1 : Nat} {post : Int32 → Mem → Prop}  (C : Cx g p s m args c cX10_isWord 3 RX10) (hr : meth.sig.returnType = (some .boolean)) (hlk : meth.locks = false) (hn : meth.name = "isWord") (h0 : okc (gB g) M0 a0 10)  : ∀ (nf : Nat) (x2 : Int32)  (M : Mem) (H : Heap) (locs : List Loc) (ls : Array Slot), lfp (fun bk z => bd_X10_isWord_28  g M0 a0 a1 post  bk z.1 z.2) nf (x2, M) → Wd g s M0 M H locs → lv_has ls 3 [(0, .ref a0), (1, .ref a1), (2, .int x2)] → W p l e (rmo 5 0 0) s m args below meth c H locs 0 0 (MQ below (Cq g M0 (pI post)) args s 0 0 (gA g)) (F0 m 28 ls []) := by
  have hx := C.1.1
  have hb := C.1.2.1
  intro nf
  induction nf with
  | zero => intro _ _ H locs ls hq; exact hq.elim
  | succ nf hk28 =>
    intro x2 M H locs ls hq hw hl
    replace hq : bd_X10_isWord_28  g M0 a0 a1 post  (lfp (fun bk z => bd_X10_isWord_28  g M0 a0 a1 post  bk z.1 z.2) nf) x2 M := hq
    unfold bd_X10_isWord_28 at hq
    refine lv_iload_n hx hb dX10_isWord_28 rfl (lv_at hl 2 rfl) ?_
    refine lv_aload_n hx hb dX10_isWord_29 rfl (lv_at hl 1 rfl) ?_
    obtain ⟨i1, e2, hq⟩ := hq
    refine W.eq (g2 := F0 m 30 ls [.ref (gK g i1), .int x2]) (by rw [e2]) ?_
    refine r_callT (index := 53) (n := 0) (d2 := 1) (mc := 0) (ms := 0) (As := []) (rest := [.int x2]) C hw (ct_J0_length_8abf5 hq) kvX10_53 hq.1 ⟨by decide, by decide⟩ ⟨by decide, by decide⟩ rfl hl.1 rfl (Nat.le_of_ble_eq_true rfl) dX10_isWord_30 (fun r M4 H locs hp hle hw => ?_)
    obtain ⟨v3, rfl, hq⟩ := hp
    refine W.eq (g2 := F0 m 33 ls [.int v3, .int x2]) rfl ?_
    refine lv_icmp_ge (tgt := 62) hx hb dX10_isWord_33 (by decide) (fun c5 => ?_) (fun c5 => ?_)
    · replace hq := hq.1 c5
      refine lv_iconst (v := 1) hx hb dX10_isWord_62 (by decide) ?_
      exact r_zret C hr hlk hw dX10_isWord_63 (Nat.le_refl _) (Nat.le_refl _) (by decide) ⟨_, rfl, hq⟩
    · replace hq := hq.2 c5
      refine lv_aload_n hx hb dX10_isWord_36 rfl (lv_at hl 0 rfl) ?_
      refine lv_aload_n hx hb dX10_isWord_37 rfl (lv_at hl 0 rfl) ?_
      refine gfX10_22 C hw hw.2.2.1 h0 dX10_isWord_38 ?_
      refine lv_iload_n hx hb dX10_isWord_41 rfl (lv_at hl 2 rfl) ?_
      refine lv_iadd hx hb dX10_isWord_42 ?_
      refine r_callV (T := TX10) (N := 6) (ci := 10) (index := 35) (n := 1) (d2 := 0) (mc := 0) (ms := 0) (As := [.int ((mI M4 a0 3) + x2)]) (rest := []) C hw (ct_X10_byteAt hq) kvX10_35 hq.1 (by decide) rfl ⟨by decide, by decide⟩ ⟨by decide, by decide⟩ rfl hl.1 rfl (Nat.le_of_ble_eq_true rfl) dX10_isWord_43 (fun r M7 H locs hp hle hw => ?_)
      obtain ⟨v6, rfl, hq⟩ := hp
      refine W.eq (g2 := F0 m 46 ls [.int v6]) rfl ?_
      refine lv_aload_n hx hb dX10_isWord_46 rfl (lv_at hl 1 rfl) ?_
      refine lv_iload_n hx hb dX10_isWord_47 rfl (lv_at hl 2 rfl) ?_
      obtain ⟨i8, e9, hq⟩ := hq
      refine W.eq (g2 := F0 m 48 ls [.int x2, .ref (gK g i8), .int v6]) (by rw [e9]) ?_
      refine r_callT (index := 59) (n := 1) (d2 := 4) (mc := 0) (ms := 0) (As := [.int x2]) (rest := [.int v6]) C hw (ct_J0_charAt_5068e hq) kvX10_59 hq.1 ⟨by decide, by decide⟩ ⟨by decide, by decide⟩ rfl hl.1 rfl (Nat.le_of_ble_eq_true rfl) dX10_isWord_48 (fun r M11 H locs hp hle hw => ?_)
      obtain ⟨v10, rfl, hq⟩ := hp
      refine W.eq (g2 := F0 m 51 ls [.int v10, .int v6]) rfl ?_
      refine lv_icmp_eq (tgt := 56) hx hb dX10_isWord_51 (by decide) (fun c12 => ?_) (fun c12 => ?_)
      · replace hq := hq.1 c12
        refine lv_iinc (v := (x2 + 1)) (lv' := [(2, .int (x2 + 1)), (0, .ref a0), (1, .ref a1)]) hx hb dX10_isWord_56 hl (k := 2) rfl rfl (by decide) rfl (fun ls hl => ?_)
        refine lv_goto (tgt := 28) hx hb dX10_isWord_59 (by decide) ?_
        exact hk28 _ _ _ _ _ hq hw (lv_sub hl [1, 2, 0] rfl)
      · replace hq := hq.2 c12
        refine lv_iconst (v := 0) hx hb dX10_isWord_54 (by decide) ?_
        exact r_zret C hr hlk hw dX10_isWord_55 (Nat.le_refl _) (Nat.le_refl _) (by decide) ⟨_, rfl, hq⟩
set_option maxHeartbeats 4000000 in
set_option maxRecDepth 100000 in
theorem ct_X10_isWord {l : Launch} {g : Gh} {M0 : Mem} {a0 : Nat} {a1 : Nat} {post : Int32 → Mem → Prop}  (hq : wp_X10_isWord  g M0 a0 a1 post) : Ct l g yX10_isWord cX10_isWord 3 (some .boolean) 5 0 0 [.ref a0, .ref a1] M0 (pI post) := by
  unfold wp_X10_isWord at hq
  obtain ⟨h0, hq⟩ := hq
  refine Ct.of (by decide) (Nat.le_of_ble_eq_true rfl) ?_
  intro p e s m below meth c ls C hr hlk hn hl hw
  have hx := C.1.1
  have hb := C.1.2.1
  have hl : lv_has ls 3 [(0, .ref a0), (1, .ref a1)] := hl
  refine lv_aload_n hx hb dX10_isWord_0 rfl (lv_at hl 0 rfl) ?_
  refine gfX10_19 C hw hw.2.2.1 h0 dX10_isWord_1 ?_
  refine lv_iconst (v := 1) hx hb dX10_isWord_4 (by decide) ?_
  refine lv_icmp_ne (tgt := 24) hx hb dX10_isWord_5 (by decide) (fun c13 => ?_) (fun c13 => ?_)
  · replace hq := hq.2 c13
    refine lv_iconst (v := 0) hx hb dX10_isWord_24 (by decide) ?_
    exact r_zret C hr hlk hw dX10_isWord_25 (Nat.le_refl _) (Nat.le_refl _) (by decide) ⟨_, rfl, hq⟩
  · replace hq := hq.1 c13
    refine lv_aload_n hx hb dX10_isWord_8 rfl (lv_at hl 0 rfl) ?_
    refine gfX10_29 C hw hw.2.2.1 h0 dX10_isWord_9 ?_
    refine lv_aload_n hx hb dX10_isWord_12 rfl (lv_at hl 0 rfl) ?_
    refine gfX10_22 C hw hw.2.2.1 h0 dX10_isWord_13 ?_
    refine lv_isub hx hb dX10_isWord_16 ?_
    refine lv_aload_n hx hb dX10_isWord_17 rfl (lv_at hl 1 rfl) ?_
    obtain ⟨i14, e15, hq⟩ := hq
    refine W.eq (g2 := F0 m 18 ls [.ref (gK g i14), .int ((mI M0 a0 5) - (mI M0 a0 3))]) (by rw [e15]) ?_
    refine r_callT (index := 53) (n := 0) (d2 := 1) (mc := 0) (ms := 0) (As := []) (rest := [.int ((mI M0 a0 5) - (mI M0 a0 3))]) C hw (ct_J0_length_8abf5 hq) kvX10_53 hq.1 ⟨by decide, by decide⟩ ⟨by decide, by decide⟩ rfl hl.1 rfl (Nat.le_of_ble_eq_true rfl) dX10_isWord_18 (fun r M17 H locs hp hle hw => ?_)
    obtain ⟨v16, rfl, hq⟩ := hp
    refine W.eq (g2 := F0 m 21 ls [.int v16, .int ((mI M0 a0 5) - (mI M0 a0 3))]) rfl ?_
    refine lv_icmp_eq (tgt := 26) hx hb dX10_isWord_21 (by decide) (fun c18 => ?_) (fun c18 => ?_)
    · replace hq := hq.1 c18
      refine lv_iconst (v := 0) hx hb dX10_isWord_26 (by decide) ?_
      refine lv_istore_n (lv' := [(2, .int 0), (0, .ref a0), (1, .ref a1)]) hx hb dX10_isWord_27 rfl hl (by decide) rfl (fun ls hl => ?_)
      obtain ⟨nf, hq⟩ := hq
      exact lp_X10_isWord_28  C hr hlk hn h0  nf _ _ _ _ _ hq hw (lv_sub hl [1, 2, 0] rfl)
    · replace hq := hq.2 c18
      refine lv_iconst (v := 0) hx hb dX10_isWord_24 (by decide) ?_
      exact r_zret C hr hlk hw dX10_isWord_25 (Nat.le_refl _) (Nat.le_refl _) (by decide) ⟨_, rfl, hq⟩

set_option maxRecDepth 100000 in
def wp_X4_faultOfNumber  (g : Gh) (M0 : Mem) (a0 : Nat) (p1 : Int32) (p2 : Int32) (post : Int32 → Mem → Prop) : Prop :=
  okc (gB g) M0 a0 10 ∧ ((((mI M0 a0 2) = 2) → (((lg_cmp (mJ M0 a0 4) (Int32.toInt64 p1)) < 0) → post 2 M0) ∧ (¬ ((lg_cmp (mJ M0 a0 4) (Int32.toInt64 p1)) < 0) → (((lg_cmp (mJ M0 a0 4) (Int32.toInt64 p2)) ≤ 0) → post 0 M0) ∧ (¬ ((lg_cmp (mJ M0 a0 4) (Int32.toInt64 p2)) ≤ 0) → post 2 M0))) ∧ (¬ ((mI M0 a0 2) = 2) → post 1 M0))
set_option maxHeartbeats 4000000 in
set_option maxRecDepth 100000 in
theorem ct_X4_faultOfNumber {l : Launch} {g : Gh} {M0 : Mem} {a0 : Nat} {p1 : Int32} {p2 : Int32} {post : Int32 → Mem → Prop}  (hq : wp_X4_faultOfNumber  g M0 a0 p1 p2 post) : Ct l g yX4_faultOfNumber cX4_faultOfNumber 3 (some .int) 0 0 0 [.ref a0, .int p1, .int p2] M0 (pI post) := by
  unfold wp_X4_faultOfNumber at hq
  refine Ct.of (by decide) (Nat.le_of_ble_eq_true rfl) ?_
  intro p e s m below meth c ls C hr hlk hn hl hw
  have hx := C.1.1
  have hb := C.1.2.1
  have hl : lv_has ls 3 [(0, .ref a0), (1, .int p1), (2, .int p2)] := hl
  refine lv_aload_n hx hb dX4_faultOfNumber_0 rfl (lv_at hl 0 rfl) ?_
  obtain ⟨h1, hq⟩ := hq
  refine gfX4_52 C hw hw.2.2.1 h1 dX4_faultOfNumber_1 ?_
  refine lv_iconst (v := 2) hx hb dX4_faultOfNumber_4 (by decide) ?_
  refine lv_icmp_eq (tgt := 10) hx hb dX4_faultOfNumber_5 (by decide) (fun c2 => ?_) (fun c2 => ?_)
  · replace hq := hq.1 c2
    refine lv_aload_n hx hb dX4_faultOfNumber_10 rfl (lv_at hl 0 rfl) ?_
    refine gfX4_74 C hw hw.2.2.1 h1 dX4_faultOfNumber_11 ?_
    refine lv_iload_n hx hb dX4_faultOfNumber_14 rfl (lv_at hl 1 rfl) ?_
    refine lv_i2l (v := (Int32.toInt64 p1)) hx hb dX4_faultOfNumber_15 rfl ?_
    refine W.lcmp hx hb dX4_faultOfNumber_16 ?_
    refine lv_if_lt (tgt := 30) hx hb dX4_faultOfNumber_17 (by decide) (fun c3 => ?_) (fun c3 => ?_)
    · replace hq := hq.1 c3
      refine lv_iconst (v := 2) hx hb dX4_faultOfNumber_30 (by decide) ?_
      refine lv_goto (tgt := 35) hx hb dX4_faultOfNumber_31 (by decide) ?_
      exact r_iret C hr hlk hw dX4_faultOfNumber_35 (Nat.le_refl _) (Nat.le_refl _) ⟨_, rfl, hq⟩
    · replace hq := hq.2 c3
      refine lv_aload_n hx hb dX4_faultOfNumber_20 rfl (lv_at hl 0 rfl) ?_
      refine gfX4_74 C hw hw.2.2.1 h1 dX4_faultOfNumber_21 ?_
      refine lv_iload_n hx hb dX4_faultOfNumber_24 rfl (lv_at hl 2 rfl) ?_
      refine lv_i2l (v := (Int32.toInt64 p2)) hx hb dX4_faultOfNumber_25 rfl ?_
      refine W.lcmp hx hb dX4_faultOfNumber_26 ?_
      refine lv_if_le (tgt := 34) hx hb dX4_faultOfNumber_27 (by decide) (fun c4 => ?_) (fun c4 => ?_)
      · replace hq := hq.1 c4
        refine lv_iconst (v := 0) hx hb dX4_faultOfNumber_34 (by decide) ?_
        exact r_iret C hr hlk hw dX4_faultOfNumber_35 (Nat.le_refl _) (Nat.le_refl _) ⟨_, rfl, hq⟩
      · replace hq := hq.2 c4
        refine lv_iconst (v := 2) hx hb dX4_faultOfNumber_30 (by decide) ?_
        refine lv_goto (tgt := 35) hx hb dX4_faultOfNumber_31 (by decide) ?_
        exact r_iret C hr hlk hw dX4_faultOfNumber_35 (Nat.le_refl _) (Nat.le_refl _) ⟨_, rfl, hq⟩
  · replace hq := hq.2 c2
    refine lv_iconst (v := 1) hx hb dX4_faultOfNumber_8 (by decide) ?_
    exact r_iret C hr hlk hw dX4_faultOfNumber_9 (Nat.le_refl _) (Nat.le_refl _) ⟨_, rfl, hq⟩
