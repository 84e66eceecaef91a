def lb_X3_endsInAnyOrder_107 (g : Gh) (M0 : Mem) (a0 : Nat) (p1 : Int32) (post : Int32 → Mem → Prop)  (x2 : Int32)  (M : Mem) : Prop :=
  ∃ q1, mR M a0 4 = some q1 ∧ (okc (gB g) M0 q1 14 ∧ (vp_in x2 (mN M0 q1) ∧ (post (mI M q1 (Int32.toNatClampNeg x2)) M)))
def bd_X3_endsInAnyOrder_36 (g : Gh) (M0 : Mem) (a0 : Nat) (p1 : Int32) (post : Int32 → Mem → Prop) (bk28 : Int32 × Int32 × Mem → Prop) (bk36 : Int32 × Int32 × Int32 × Mem → Prop) (x2 : Int32) (x3 : Int32) (x4 : Int32)  (M : Mem) : Prop :=
  (((mI M a0 3) ≤ x4) → bk28 (x2, (x3 + 1), M)) ∧ (¬ ((mI M a0 3) ≤ x4) → ∃ q6, mR M a0 4 = some q6 ∧ (okc (gB g) M0 q6 14 ∧ (vp_in x3 (mN M0 q6) ∧ ((((mI M q6 (Int32.toNatClampNeg x3)) = 0) → bk28 (x2, (x3 + 1), M)) ∧ (¬ ((mI M q6 (Int32.toNatClampNeg x3)) = 0) → ((((x3 >>> (x4 &&& 31)) &&& 1) = 0) → vp_in (x3 ||| (1 <<< (x4 &&& 31))) (mN M0 q6) ∧ (∃ q13, mR M a0 2 = some q13 ∧ (wp_X3_endsBehind g M (mI M q6 (Int32.toNatClampNeg x3)) q13 (x4 * 21) (fun v15 M16 => ∀ M17, M17 = uI M16 q6 (Int32.toNatClampNeg (x3 ||| (1 <<< (x4 &&& 31)))) ((mI M q6 (Int32.toNatClampNeg (x3 ||| (1 <<< (x4 &&& 31))))) ||| v15) → (bk36 (x2, x3, (x4 + 1), M17)))))) ∧ (¬ (((x3 >>> (x4 &&& 31)) &&& 1) = 0) → bk36 (x2, x3, (x4 + 1), M)))))))
def bd_X3_endsInAnyOrder_28 (g : Gh) (M0 : Mem) (a0 : Nat) (p1 : Int32) (post : Int32 → Mem → Prop)  (bk28 : Int32 × Int32 × Mem → Prop) (x2 : Int32) (x3 : Int32)  (M : Mem) : Prop :=
  ((x2 ≤ x3) → lb_X3_endsInAnyOrder_107 g M0 a0 p1 post  x2 M) ∧ (¬ (x2 ≤ x3) → (∃ n : Nat, lfp (fun bk z => bd_X3_endsInAnyOrder_36 g M0 a0 p1 post bk28 bk z.1 z.2.1 z.2.2.1 z.2.2.2) n (x2, x3, 0, M)))
def wp_X3_endsInAnyOrder (g : Gh) (M0 : Mem) (a0 : Nat) (p1 : Int32) (post : Int32 → Mem → Prop) : Prop :=
  okc (gB g) M0 a0 3 ∧ (∃ q20, mR M0 a0 4 = some q20 ∧ (wp_J7_fill_53178 g M0 q20 0 (fun M23 => ∃ q24, mR M23 a0 4 = some q24 ∧ (okc (gB g) M0 q24 14 ∧ (vp_in 0 (mN M0 q24) ∧ (∀ M28, M28 = uI M23 q24 (Int32.toNatClampNeg 0) (1 <<< (p1 &&& 31)) → ((∃ n : Nat, lfp (fun bk z => bd_X3_endsInAnyOrder_28 g M0 a0 p1 post  bk z.1 z.2.1 z.2.2) n (((1 <<< ((mI M0 a0 3) &&& 31)) - 1), 0, M28)))))))))
set_option maxHeartbeats 4000000 in
set_option maxRecDepth 100000 in
theorem lt_X3_endsInAnyOrder_107 {l : Launch} {g : Gh} {p : Program} {e : Env} {s : State} {m : MethodId} {args : Array Value} {below : List Frame} {meth : Method} {c : Code} {H : Heap} {locs : List Loc} {ls : Array Slot} {M0 M : Mem} {a0 : Nat} {p1 : Int32} {post : Int32 → Mem → Prop} {x2 : Int32}  (C : Cx g p s m args c cX3_endsInAnyOrder 5 RX3) (hr : meth.sig.returnType = (some .int)) (hlk : meth.locks = false) (hn : meth.name = "endsInAnyOrder") (h0 : okc (gB g) M0 a0 3)  (hq : lb_X3_endsInAnyOrder_107 g M0 a0 p1 post  x2 M) (hw : Wd g s M0 M H locs) (hl : lv_has ls 5 [(0, .ref a0), (1, .int p1), (2, .int x2)]) : W p l e (rmo 1 0 0) s m args below meth c H locs 0 0 (MQ below (Cq g M0 (pI post)) args s 0 0 (gA g)) (F0 m 107 ls []) := by
  have hx := C.1.1
  have hb := C.1.2.1
  unfold lb_X3_endsInAnyOrder_107 at hq
  refine lv_aload_n hx hb dX3_endsInAnyOrder_107 rfl (lv_at hl 0 rfl) ?_
  obtain ⟨q1, e2, hq⟩ := hq
  refine gfX3_27 C hw hw.2.2.1 h0 e2 dX3_endsInAnyOrder_108 ?_
  refine lv_iload_n hx hb dX3_endsInAnyOrder_111 rfl (lv_at hl 2 rfl) ?_
  obtain ⟨h3, hq⟩ := hq
  obtain ⟨h4, hq⟩ := hq
  refine q_iald C hw hw.2.2.1 h3 h4 dX3_endsInAnyOrder_112 ?_
  exact r_iret C hr hlk hw dX3_endsInAnyOrder_113 (by decide) (by decide) ⟨_, rfl, hq⟩
set_option maxHeartbeats 4000000 in
set_option maxRecDepth 100000 in
theorem lp_X3_endsInAnyOrder_36 {l : Launch} {g : Gh} {p : Program} {e : Env} {s : State} {m : MethodId} {args : Array Value} {below : List Frame} {meth : Method} {c : Code} {M0 : Mem} {a0 : Nat} {p1 : Int32} {post : Int32 → Mem → Prop} (C : Cx g p s m args c cX3_endsInAnyOrder 5 RX3) (hr : meth.sig.returnType = (some .int)) (hlk : meth.locks = false) (hn : meth.name = "endsInAnyOrder") (h0 : okc (gB g) M0 a0 3) {bk28 : Int32 × Int32 × Mem → Prop} (hk28 : ∀ (x2 : Int32) (x3 : Int32) (M : Mem) (H : Heap) (locs : List Loc) (ls : Array Slot), bk28 (x2, x3, M) → Wd g s M0 M H locs → lv_has ls 5 [(0, .ref a0), (1, .int p1), (2, .int x2), (3, .int x3)] → W p l e (rmo 1 0 0) s m args below meth c H locs 0 0 (MQ below (Cq g M0 (pI post)) args s 0 0 (gA g)) (F0 m 28 ls [])) : ∀ (nf : Nat) (x2 : Int32) (x3 : Int32) (x4 : Int32)  (M : Mem) (H : Heap) (locs : List Loc) (ls : Array Slot), lfp (fun bk z => bd_X3_endsInAnyOrder_36 g M0 a0 p1 post bk28 bk z.1 z.2.1 z.2.2.1 z.2.2.2) nf (x2, x3, x4, M) → Wd g s M0 M H locs → lv_has ls 5 [(0, .ref a0), (1, .int p1), (2, .int x2), (3, .int x3), (4, .int x4)] → W p l e (rmo 1 0 0) s m args below meth c H locs 0 0 (MQ below (Cq g M0 (pI post)) args s 0 0 (gA g)) (F0 m 36 ls []) := by
  have hx := C.1.1
  have hb := C.1.2.1
  intro nf
  induction nf with
  | zero => intro _ _ _ _ H locs ls hq; exact hq.elim
  | succ nf hk36 =>
    intro x2 x3 x4 M H locs ls hq hw hl
    replace hq : bd_X3_endsInAnyOrder_36 g M0 a0 p1 post bk28 (lfp (fun bk z => bd_X3_endsInAnyOrder_36 g M0 a0 p1 post bk28 bk z.1 z.2.1 z.2.2.1 z.2.2.2) nf) x2 x3 x4 M := hq
    unfold bd_X3_endsInAnyOrder_36 at hq
    refine lv_iload hx hb dX3_endsInAnyOrder_36 (lv_at hl 4 rfl) ?_
    refine lv_aload_n hx hb dX3_endsInAnyOrder_38 rfl (lv_at hl 0 rfl) ?_
    refine gfX3_23 C hw hw.2.2.1 h0 dX3_endsInAnyOrder_39 ?_
    refine lv_icmp_ge (tgt := 101) hx hb dX3_endsInAnyOrder_42 (by decide) (fun c5 => ?_) (fun c5 => ?_)
    · replace hq := hq.1 c5
      refine lv_iinc (v := (x3 + 1)) (lv' := [(3, .int (x3 + 1)), (0, .ref a0), (1, .int p1), (2, .int x2), (4, .int x4)]) hx hb dX3_endsInAnyOrder_101 hl (k := 3) rfl rfl (by decide) rfl (fun ls hl => ?_)
      refine lv_goto (tgt := 28) hx hb dX3_endsInAnyOrder_104 (by decide) ?_
      exact hk28 _ _ _ _ _ _ hq hw (lv_sub hl [1, 2, 3, 0] rfl)
    · replace hq := hq.2 c5
      refine lv_aload_n hx hb dX3_endsInAnyOrder_45 rfl (lv_at hl 0 rfl) ?_
      obtain ⟨q6, e7, hq⟩ := hq
      refine gfX3_27 C hw hw.2.2.1 h0 e7 dX3_endsInAnyOrder_46 ?_
      refine lv_iload_n hx hb dX3_endsInAnyOrder_49 rfl (lv_at hl 3 rfl) ?_
      obtain ⟨h8, hq⟩ := hq
      obtain ⟨h9, hq⟩ := hq
      refine q_iald C hw hw.2.2.1 h8 h9 dX3_endsInAnyOrder_50 ?_
      refine lv_if_eq (tgt := 101) hx hb dX3_endsInAnyOrder_51 (by decide) (fun c10 => ?_) (fun c10 => ?_)
      · replace hq := hq.1 c10
        refine lv_iinc (v := (x3 + 1)) (lv' := [(3, .int (x3 + 1)), (0, .ref a0), (1, .int p1), (2, .int x2), (4, .int x4)]) hx hb dX3_endsInAnyOrder_101 hl (k := 3) rfl rfl (by decide) rfl (fun ls hl => ?_)
        refine lv_goto (tgt := 28) hx hb dX3_endsInAnyOrder_104 (by decide) ?_
        exact hk28 _ _ _ _ _ _ hq hw (lv_sub hl [1, 2, 3, 0] rfl)
      · replace hq := hq.2 c10
        refine lv_iload_n hx hb dX3_endsInAnyOrder_54 rfl (lv_at hl 3 rfl) ?_
        refine lv_iload hx hb dX3_endsInAnyOrder_55 (lv_at hl 4 rfl) ?_
        refine lv_ishr hx hb dX3_endsInAnyOrder_57 ?_
        refine lv_iconst (v := 1) hx hb dX3_endsInAnyOrder_58 (by decide) ?_
        refine lv_iand hx hb dX3_endsInAnyOrder_59 ?_
        refine lv_if_ne (tgt := 95) hx hb dX3_endsInAnyOrder_60 (by decide) (fun c11 => ?_) (fun c11 => ?_)
        · replace hq := hq.2 c11
          refine lv_iinc (v := (x4 + 1)) (lv' := [(4, .int (x4 + 1)), (0, .ref a0), (1, .int p1), (2, .int x2), (3, .int x3)]) hx hb dX3_endsInAnyOrder_95 hl (k := 4) rfl rfl (by decide) rfl (fun ls hl => ?_)
          refine lv_goto (tgt := 36) hx hb dX3_endsInAnyOrder_98 (by decide) ?_
          exact hk36 _ _ _ _ _ _ _ hq hw (lv_sub hl [1, 2, 3, 4, 0] rfl)
        · replace hq := hq.1 c11
          refine lv_aload_n hx hb dX3_endsInAnyOrder_63 rfl (lv_at hl 0 rfl) ?_
          refine gfX3_27 C hw hw.2.2.1 h0 e7 dX3_endsInAnyOrder_64 ?_
          refine lv_iload_n hx hb dX3_endsInAnyOrder_67 rfl (lv_at hl 3 rfl) ?_
          refine lv_iconst (v := 1) hx hb dX3_endsInAnyOrder_68 (by decide) ?_
          refine lv_iload hx hb dX3_endsInAnyOrder_69 (lv_at hl 4 rfl) ?_
          refine lv_ishl hx hb dX3_endsInAnyOrder_71 ?_
          refine lv_ior hx hb dX3_endsInAnyOrder_72 ?_
          refine lv_dup2_11 hx hb dX3_endsInAnyOrder_73 rfl rfl ?_
          obtain ⟨h12, hq⟩ := hq
          refine q_iald C hw hw.2.2.1 h8 h12 dX3_endsInAnyOrder_74 ?_
          refine lv_aload_n hx hb dX3_endsInAnyOrder_75 rfl (lv_at hl 0 rfl) ?_
          refine gfX3_27 C hw hw.2.2.1 h0 e7 dX3_endsInAnyOrder_76 ?_
          refine lv_iload_n hx hb dX3_endsInAnyOrder_79 rfl (lv_at hl 3 rfl) ?_
          refine q_iald C hw hw.2.2.1 h8 h9 dX3_endsInAnyOrder_80 ?_
          refine lv_aload_n hx hb dX3_endsInAnyOrder_81 rfl (lv_at hl 0 rfl) ?_
          obtain ⟨q13, e14, hq⟩ := hq
          refine gfX3_20 C hw hw.2.2.1 h0 e14 dX3_endsInAnyOrder_82 ?_
          refine lv_iload hx hb dX3_endsInAnyOrder_85 (lv_at hl 4 rfl) ?_
          refine lv_bipush (v := 21) hx hb dX3_endsInAnyOrder_87 (by decide) ?_
          refine lv_imul hx hb dX3_endsInAnyOrder_89 ?_
          refine r_callS (index := 33) (n := 3) (d2 := 0) (mc := 0) (ms := 0) (As := [.int (mI M q6 (Int32.toNatClampNeg x3)), .ref q13, .int (x4 * 21)]) (rest := [.int (mI M q6 (Int32.toNatClampNeg (x3 ||| (1 <<< (x4 &&& 31))))), .int (x3 ||| (1 <<< (x4 &&& 31))), .ref q6]) C hw (ct_X3_endsBehind hq) ksX3_33 ⟨by decide, by decide⟩ ⟨by decide, by decide⟩ rfl hl.1 rfl (Nat.le_of_ble_eq_true rfl) dX3_endsInAnyOrder_90 (fun r M16 H locs hp hle hw => ?_)
          obtain ⟨v15, rfl, hq⟩ := hp
          refine W.eq (g2 := F0 m 93 ls [.int v15, .int (mI M q6 (Int32.toNatClampNeg (x3 ||| (1 <<< (x4 &&& 31))))), .int (x3 ||| (1 <<< (x4 &&& 31))), .ref q6]) rfl ?_
          refine lv_ior hx hb dX3_endsInAnyOrder_93 ?_
          refine q_iast C hw hw.2.2.1 h8 h12 dX3_endsInAnyOrder_94 (fun H locs hw => ?_)
          generalize e18 : uI M16 q6 (Int32.toNatClampNeg (x3 ||| (1 <<< (x4 &&& 31)))) ((mI M q6 (Int32.toNatClampNeg (x3 ||| (1 <<< (x4 &&& 31))))) ||| v15) = M17 at hw
          replace hq := hq M17 e18.symm
          refine lv_iinc (v := (x4 + 1)) (lv' := [(4, .int (x4 + 1)), (0, .ref a0), (1, .int p1), (2, .int x2), (3, .int x3)]) hx hb dX3_endsInAnyOrder_95 hl (k := 4) rfl rfl (by decide) rfl (fun ls hl => ?_)
          refine lv_goto (tgt := 36) hx hb dX3_endsInAnyOrder_98 (by decide) ?_
          exact hk36 _ _ _ _ _ _ _ hq hw (lv_sub hl [1, 2, 3, 4, 0] rfl)
set_option maxHeartbeats 4000000 in
set_option maxRecDepth 100000 in
theorem lp_X3_endsInAnyOrder_28 {l : Launch} {g : Gh} {p : Program} {e : Env} {s : State} {m : MethodId} {args : Array Value} {below : List Frame} {meth : Method} {c : Code} {M0 : Mem} {a0 : Nat} {p1 : Int32} {post : Int32 → Mem → Prop} (C : Cx g p s m args c cX3_endsInAnyOrder 5 RX3) (hr : meth.sig.returnType = (some .int)) (hlk : meth.locks = false) (hn : meth.name = "endsInAnyOrder") (h0 : okc (gB g) M0 a0 3)  : ∀ (nf : Nat) (x2 : Int32) (x3 : Int32)  (M : Mem) (H : Heap) (locs : List Loc) (ls : Array Slot), lfp (fun bk z => bd_X3_endsInAnyOrder_28 g M0 a0 p1 post  bk z.1 z.2.1 z.2.2) nf (x2, x3, M) → Wd g s M0 M H locs → lv_has ls 5 [(0, .ref a0), (1, .int p1), (2, .int x2), (3, .int x3)] → W p l e (rmo 1 0 0) s m args below meth c H locs 0 0 (MQ below (Cq g M0 (pI post)) args s 0 0 (gA g)) (F0 m 28 ls []) := by
  have hx := C.1.1
  have hb := C.1.2.1
  intro nf
  induction nf with
  | zero => intro _ _ _ H locs ls hq; exact hq.elim
  | succ nf hk28 =>
    intro x2 x3 M H locs ls hq hw hl
    replace hq : bd_X3_endsInAnyOrder_28 g M0 a0 p1 post  (lfp (fun bk z => bd_X3_endsInAnyOrder_28 g M0 a0 p1 post  bk z.1 z.2.1 z.2.2) nf) x2 x3 M := hq
    unfold bd_X3_endsInAnyOrder_28 at hq
    refine lv_iload_n hx hb dX3_endsInAnyOrder_28 rfl (lv_at hl 3 rfl) ?_
    refine lv_iload_n hx hb dX3_endsInAnyOrder_29 rfl (lv_at hl 2 rfl) ?_
    refine lv_icmp_ge (tgt := 107) hx hb dX3_endsInAnyOrder_30 (by decide) (fun c19 => ?_) (fun c19 => ?_)
    · replace hq := hq.1 c19
      exact lt_X3_endsInAnyOrder_107 C hr hlk hn h0  hq hw (lv_sub hl [0, 1, 2] rfl)
    · replace hq := hq.2 c19
      refine lv_iconst (v := 0) hx hb dX3_endsInAnyOrder_33 (by decide) ?_
      refine lv_istore (lv' := [(4, .int 0), (0, .ref a0), (1, .int p1), (2, .int x2), (3, .int x3)]) hx hb dX3_endsInAnyOrder_34 hl (by decide) rfl (fun ls hl => ?_)
      obtain ⟨nf, hq⟩ := hq
      exact lp_X3_endsInAnyOrder_36 C hr hlk hn h0 hk28 nf _ _ _ _ _ _ _ hq hw (lv_sub hl [1, 2, 3, 4, 0] rfl)
set_option maxHeartbeats 4000000 in
set_option maxRecDepth 100000 in
theorem ct_X3_endsInAnyOrder {l : Launch} {g : Gh} {M0 : Mem} {a0 : Nat} {p1 : Int32} {post : Int32 → Mem → Prop} (hq : wp_X3_endsInAnyOrder g M0 a0 p1 post) : Ct l g yX3_endsInAnyOrder cX3_endsInAnyOrder 5 (some .int) 1 0 0 [.ref a0, .int p1] M0 (pI post) := by
  unfold wp_X3_endsInAnyOrder at hq
  obtain ⟨h0, hq⟩ := hq
  refine Ct.of (by decide) (Nat.le_of_ble_eq_true rfl) ?_
  intro p e s m below meth c ls C hr hlk hn hl hw
  have hx := C.1.1
  have hb := C.1.2.1
  have hl : lv_has ls 5 [(0, .ref a0), (1, .int p1)] := hl
  refine lv_iconst (v := 1) hx hb dX3_endsInAnyOrder_0 (by decide) ?_
  refine lv_aload_n hx hb dX3_endsInAnyOrder_1 rfl (lv_at hl 0 rfl) ?_
  refine gfX3_23 C hw hw.2.2.1 h0 dX3_endsInAnyOrder_2 ?_
  refine lv_ishl hx hb dX3_endsInAnyOrder_5 ?_
  refine lv_iconst (v := 1) hx hb dX3_endsInAnyOrder_6 (by decide) ?_
  refine lv_isub hx hb dX3_endsInAnyOrder_7 ?_
  refine lv_istore_n (lv' := [(2, .int ((1 <<< ((mI M0 a0 3) &&& 31)) - 1)), (0, .ref a0), (1, .int p1)]) hx hb dX3_endsInAnyOrder_8 rfl hl (by decide) rfl (fun ls hl => ?_)
  refine lv_aload_n hx hb dX3_endsInAnyOrder_9 rfl (lv_at hl 1 rfl) ?_
  obtain ⟨q20, e21, hq⟩ := hq
  refine gfX3_27 C hw hw.2.2.1 h0 e21 dX3_endsInAnyOrder_10 ?_
  refine lv_iconst (v := 0) hx hb dX3_endsInAnyOrder_13 (by decide) ?_
  refine r_callS (index := 43) (n := 2) (d2 := 0) (mc := 0) (ms := 0) (As := [.ref q20, .int 0]) (rest := []) C hw (ct_J7_fill_53178 hq) ksX3_43 ⟨by decide, by decide⟩ ⟨by decide, by decide⟩ rfl hl.1 rfl (Nat.le_of_ble_eq_true rfl) dX3_endsInAnyOrder_14 (fun r M23 H locs hp hle hw => ?_)
  obtain ⟨rfl, hq⟩ := hp
  refine W.eq (g2 := F0 m 17 ls []) rfl ?_
  refine lv_aload_n hx hb dX3_endsInAnyOrder_17 rfl (lv_at hl 1 rfl) ?_
  obtain ⟨q24, e25, hq⟩ := hq
  refine gfX3_27 C hw hw.2.2.1 h0 e25 dX3_endsInAnyOrder_18 ?_
  refine lv_iconst (v := 0) hx hb dX3_endsInAnyOrder_21 (by decide) ?_
  refine lv_iconst (v := 1) hx hb dX3_endsInAnyOrder_22 (by decide) ?_
  refine lv_iload_n hx hb dX3_endsInAnyOrder_23 rfl (lv_at hl 2 rfl) ?_
  refine lv_ishl hx hb dX3_endsInAnyOrder_24 ?_
  obtain ⟨h26, hq⟩ := hq
  obtain ⟨h27, hq⟩ := hq
  refine q_iast C hw hw.2.2.1 h26 h27 dX3_endsInAnyOrder_25 (fun H locs hw => ?_)
  generalize e29 : uI M23 q24 (Int32.toNatClampNeg 0) (1 <<< (p1 &&& 31)) = M28 at hw
  replace hq := hq M28 e29.symm
  have e25 : mR M28 a0 4 = some q24 := by rw [← e29, mR_uI]; exact e25
  refine lv_iconst (v := 0) hx hb dX3_endsInAnyOrder_26 (by decide) ?_
  refine lv_istore_n (lv' := [(3, .int 0), (2, .int ((1 <<< ((mI M0 a0 3) &&& 31)) - 1)), (0, .ref a0), (1, .int p1)]) hx hb dX3_endsInAnyOrder_27 rfl hl (by decide) rfl (fun ls hl => ?_)
  obtain ⟨nf, hq⟩ := hq
  exact lp_X3_endsInAnyOrder_28 C hr hlk hn h0  nf _ _ _ _ _ _ hq hw (lv_sub hl [2, 3, 1, 0] rfl)

def wp_X4_faultOfNumber (g : Gh) (M0 : Mem) (a0 : Nat) (p1 : Int32) (p2 : Int32) (post : Int32 → Mem → Prop) : Prop :=
  okc (gB g) M0 a0 10 ∧ ((((mI M0 a0 2) = 2) → (((lg_cmp (mJ M0 a0 4) (Int32.toInt64 p1)) < 0) → post 2 M0) ∧ (¬ ((lg_cmp (mJ M0 a0 4) (Int32.toInt64 p1)) < 0) → (((lg_cmp (mJ M0 a0 4) (Int32.toInt64 p2)) ≤ 0) → post 0 M0) ∧ (¬ ((lg_cmp (mJ M0 a0 4) (Int32.toInt64 p2)) ≤ 0) → post 2 M0))) ∧ (¬ ((mI M0 a0 2) = 2) → post 1 M0))
set_option maxHeartbeats 4000000 in
set_option maxRecDepth 100000 in
theorem ct_X4_faultOfNumber {l : Launch} {g : Gh} {M0 : Mem} {a0 : Nat} {p1 : Int32} {p2 : Int32} {post : Int32 → Mem → Prop} (hq : wp_X4_faultOfNumber g M0 a0 p1 p2 post) : Ct l g yX4_faultOfNumber cX4_faultOfNumber 3 (some .int) 0 0 0 [.ref a0, .int p1, .int p2] M0 (pI post) := by
  unfold wp_X4_faultOfNumber at hq
  refine Ct.of (by decide) (Nat.le_of_ble_eq_true rfl) ?_
  intro p e s m below meth c ls C hr hlk hn hl hw
  have hx := C.1.1
  have hb := C.1.2.1
  have hl : lv_has ls 3 [(0, .ref a0), (1, .int p1), (2, .int p2)] := hl
  refine lv_aload_n hx hb dX4_faultOfNumber_0 rfl (lv_at hl 0 rfl) ?_
  obtain ⟨h1, hq⟩ := hq
  refine gfX4_52 C hw hw.2.2.1 h1 dX4_faultOfNumber_1 ?_
  refine lv_iconst (v := 2) hx hb dX4_faultOfNumber_4 (by decide) ?_
  refine lv_icmp_eq (tgt := 10) hx hb dX4_faultOfNumber_5 (by decide) (fun c2 => ?_) (fun c2 => ?_)
  · replace hq := hq.1 c2
    refine lv_aload_n hx hb dX4_faultOfNumber_10 rfl (lv_at hl 0 rfl) ?_
    refine gfX4_74 C hw hw.2.2.1 h1 dX4_faultOfNumber_11 ?_
    refine lv_iload_n hx hb dX4_faultOfNumber_14 rfl (lv_at hl 1 rfl) ?_
    refine lv_i2l (v := (Int32.toInt64 p1)) hx hb dX4_faultOfNumber_15 rfl ?_
    refine W.lcmp hx hb dX4_faultOfNumber_16 ?_
    refine lv_if_lt (tgt := 30) hx hb dX4_faultOfNumber_17 (by decide) (fun c3 => ?_) (fun c3 => ?_)
    · replace hq := hq.1 c3
      refine lv_iconst (v := 2) hx hb dX4_faultOfNumber_30 (by decide) ?_
      refine lv_goto (tgt := 35) hx hb dX4_faultOfNumber_31 (by decide) ?_
      exact r_iret C hr hlk hw dX4_faultOfNumber_35 (by decide) (by decide) ⟨_, rfl, hq⟩
    · replace hq := hq.2 c3
      refine lv_aload_n hx hb dX4_faultOfNumber_20 rfl (lv_at hl 0 rfl) ?_
      refine gfX4_74 C hw hw.2.2.1 h1 dX4_faultOfNumber_21 ?_
      refine lv_iload_n hx hb dX4_faultOfNumber_24 rfl (lv_at hl 2 rfl) ?_
      refine lv_i2l (v := (Int32.toInt64 p2)) hx hb dX4_faultOfNumber_25 rfl ?_
      refine W.lcmp hx hb dX4_faultOfNumber_26 ?_
      refine lv_if_le (tgt := 34) hx hb dX4_faultOfNumber_27 (by decide) (fun c4 => ?_) (fun c4 => ?_)
      · replace hq := hq.1 c4
        refine lv_iconst (v := 0) hx hb dX4_faultOfNumber_34 (by decide) ?_
        exact r_iret C hr hlk hw dX4_faultOfNumber_35 (by decide) (by decide) ⟨_, rfl, hq⟩
      · replace hq := hq.2 c4
        refine lv_iconst (v := 2) hx hb dX4_faultOfNumber_30 (by decide) ?_
        refine lv_goto (tgt := 35) hx hb dX4_faultOfNumber_31 (by decide) ?_
        exact r_iret C hr hlk hw dX4_faultOfNumber_35 (by decide) (by decide) ⟨_, rfl, hq⟩
  · replace hq := hq.2 c2
    refine lv_iconst (v := 1) hx hb dX4_faultOfNumber_8 (by decide) ?_
    exact r_iret C hr hlk hw dX4_faultOfNumber_9 (by decide) (by decide) ⟨_, rfl, hq⟩

def bd_X4_roundOf_4 (g : Gh) (M0 : Mem) (a0 : Nat) (p1 : Int32) (post : Int32 → Mem → Prop)  (bk4 : Int32 × Int32 × Mem → Prop) (x2 : Int32) (x3 : Int32)  (M : Mem) : Prop :=
  (((mI M a0 0) ≤ x3) → post 0 M) ∧ (¬ ((mI M a0 0) ≤ x3) → ((6 ≤ x3) → post 0 M) ∧ (¬ (6 ≤ x3) → ∃ q3, mR M a0 2 = some q3 ∧ (okc (gB g) M0 q3 14 ∧ (vp_in x3 (mN M0 q3) ∧ ((((x2 + (mI M q3 (Int32.toNatClampNeg x3))) ≤ p1) → bk4 ((x2 + (mI M q3 (Int32.toNatClampNeg x3))), (x3 + 1), M)) ∧ (¬ ((x2 + (mI M q3 (Int32.toNatClampNeg x3))) ≤ p1) → post x3 M))))))
def wp_X4_roundOf (g : Gh) (M0 : Mem) (a0 : Nat) (p1 : Int32) (post : Int32 → Mem → Prop) : Prop :=
  okc (gB g) M0 a0 4 ∧ ((∃ n : Nat, lfp (fun bk z => bd_X4_roundOf_4 g M0 a0 p1 post  bk z.1 z.2.1 z.2.2) n (0, 0, M0)))
set_option maxHeartbeats 4000000 in
set_option maxRecDepth 100000 in
theorem lp_X4_roundOf_4 {l : Launch} {g : Gh} {p : Program} {e : Env} {s : State} {m : MethodId} {args : Array Value} {below : List Frame} {meth : Method} {c : Code} {M0 : Mem} {a0 : Nat} {p1 : Int32} {post : Int32 → Mem → Prop} (C : Cx g p s m args c cX4_roundOf 4 RX4) (hr : meth.sig.returnType = (some .int)) (hlk : meth.locks = false) (hn : meth.name = "roundOf") (h0 : okc (gB g) M0 a0 4)  : ∀ (nf : Nat) (x2 : Int32) (x3 : Int32)  (M : Mem) (H : Heap) (locs : List Loc) (ls : Array Slot), lfp (fun bk z => bd_X4_roundOf_4 g M0 a0 p1 post  bk z.1 z.2.1 z.2.2) nf (x2, x3, M) → Wd g s M0 M H locs → lv_has ls 4 [(0, .ref a0), (1, .int p1), (2, .int x2), (3, .int x3)] → W p l e (rmo 0 0 0) s m args below meth c H locs 0 0 (MQ below (Cq g M0 (pI post)) args s 0 0 (gA g)) (F0 m 4 ls []) := by
  have hx := C.1.1
  have hb := C.1.2.1
  intro nf
  induction nf with
  | zero => intro _ _ _ H locs ls hq; exact hq.elim
  | succ nf hk4 =>
    intro x2 x3 M H locs ls hq hw hl
    replace hq : bd_X4_roundOf_4 g M0 a0 p1 post  (lfp (fun bk z => bd_X4_roundOf_4 g M0 a0 p1 post  bk z.1 z.2.1 z.2.2) nf) x2 x3 M := hq
    unfold bd_X4_roundOf_4 at hq
    refine lv_iload_n hx hb dX4_roundOf_4 rfl (lv_at hl 3 rfl) ?_
    refine lv_aload_n hx hb dX4_roundOf_5 rfl (lv_at hl 0 rfl) ?_
    refine gfX4_28 C hw hw.2.2.1 h0 dX4_roundOf_6 ?_
    refine lv_icmp_ge (tgt := 40) hx hb dX4_roundOf_9 (by decide) (fun c1 => ?_) (fun c1 => ?_)
    · replace hq := hq.1 c1
      refine lv_iconst (v := 0) hx hb dX4_roundOf_40 (by decide) ?_
      exact r_iret C hr hlk hw dX4_roundOf_41 (by decide) (by decide) ⟨_, rfl, hq⟩
    · replace hq := hq.2 c1
      refine lv_iload_n hx hb dX4_roundOf_12 rfl (lv_at hl 3 rfl) ?_
      refine lv_bipush (v := 6) hx hb dX4_roundOf_13 (by decide) ?_
      refine lv_icmp_ge (tgt := 40) hx hb dX4_roundOf_15 (by decide) (fun c2 => ?_) (fun c2 => ?_)
      · replace hq := hq.1 c2
        refine lv_iconst (v := 0) hx hb dX4_roundOf_40 (by decide) ?_
        exact r_iret C hr hlk hw dX4_roundOf_41 (by decide) (by decide) ⟨_, rfl, hq⟩
      · replace hq := hq.2 c2
        refine lv_iload_n hx hb dX4_roundOf_18 rfl (lv_at hl 2 rfl) ?_
        refine lv_aload_n hx hb dX4_roundOf_19 rfl (lv_at hl 0 rfl) ?_
        obtain ⟨q3, e4, hq⟩ := hq
        refine gfX4_11 C hw hw.2.2.1 h0 e4 dX4_roundOf_20 ?_
        refine lv_iload_n hx hb dX4_roundOf_23 rfl (lv_at hl 3 rfl) ?_
        obtain ⟨h5, hq⟩ := hq
        obtain ⟨h6, hq⟩ := hq
        refine q_iald C hw hw.2.2.1 h5 h6 dX4_roundOf_24 ?_
        refine lv_iadd hx hb dX4_roundOf_25 ?_
        refine lv_istore_n (lv' := [(2, .int (x2 + (mI M q3 (Int32.toNatClampNeg x3)))), (0, .ref a0), (1, .int p1), (3, .int x3)]) hx hb dX4_roundOf_26 rfl hl (by decide) rfl (fun ls hl => ?_)
        refine lv_iload_n hx hb dX4_roundOf_27 rfl (lv_at hl 2 rfl) ?_
        refine lv_iload_n hx hb dX4_roundOf_28 rfl (lv_at hl 0 rfl) ?_
        refine lv_icmp_ge (tgt := 34) hx hb dX4_roundOf_29 (by decide) (fun c7 => ?_) (fun c7 => ?_)
        · replace hq := hq.1 c7
          refine lv_iinc (v := (x3 + 1)) (lv' := [(3, .int (x3 + 1)), (2, .int (x2 + (mI M q3 (Int32.toNatClampNeg x3)))), (0, .ref a0), (1, .int p1)]) hx hb dX4_roundOf_34 hl (k := 3) rfl rfl (by decide) rfl (fun ls hl => ?_)
          refine lv_goto (tgt := 4) hx hb dX4_roundOf_37 (by decide) ?_
          exact hk4 _ _ _ _ _ _ hq hw (lv_sub hl [2, 3, 1, 0] rfl)
        · replace hq := hq.2 c7
          refine lv_iload_n hx hb dX4_roundOf_32 rfl (lv_at hl 3 rfl) ?_
          exact r_iret C hr hlk hw dX4_roundOf_33 (by decide) (by decide) ⟨_, rfl, hq⟩
set_option maxHeartbeats 4000000 in
set_option maxRecDepth 100000 in
theorem ct_X4_roundOf {l : Launch} {g : Gh} {M0 : Mem} {a0 : Nat} {p1 : Int32} {post : Int32 → Mem → Prop} (hq : wp_X4_roundOf g M0 a0 p1 post) : Ct l g yX4_roundOf cX4_roundOf 4 (some .int) 0 0 0 [.ref a0, .int p1] M0 (pI post) := by
  unfold wp_X4_roundOf at hq
  obtain ⟨h0, hq⟩ := hq
  refine Ct.of (by decide) (Nat.le_of_ble_eq_true rfl) ?_
  intro p e s m below meth c ls C hr hlk hn hl hw
  have hx := C.1.1
  have hb := C.1.2.1
  have hl : lv_has ls 4 [(0, .ref a0), (1, .int p1)] := hl
  refine lv_iconst (v := 0) hx hb dX4_roundOf_0 (by decide) ?_
  refine lv_istore_n (lv' := [(2, .int 0), (0, .ref a0), (1, .int p1)]) hx hb dX4_roundOf_1 rfl hl (by decide) rfl (fun ls hl => ?_)
  refine lv_iconst (v := 0) hx hb dX4_roundOf_2 (by decide) ?_
  refine lv_istore_n (lv' := [(3, .int 0), (2, .int 0), (0, .ref a0), (1, .int p1)]) hx hb dX4_roundOf_3 rfl hl (by decide) rfl (fun ls hl => ?_)
  obtain ⟨nf, hq⟩ := hq
  exact lp_X4_roundOf_4 C hr hlk hn h0  nf _ _ _ _ _ _ hq hw (lv_sub hl [2, 3, 1, 0] rfl)

def wp_X11_isTeam (g : Gh) (M0 : Mem) (p0 : Int32) (post : Int32 → Mem → Prop) : Prop :=
  ((p0 < 0) → post 0 M0) ∧ (¬ (p0 < 0) → ((12 ≤ p0) → post 0 M0) ∧ (¬ (12 ≤ p0) → post 1 M0))
set_option maxHeartbeats 4000000 in
set_option maxRecDepth 100000 in
theorem ct_X11_isTeam {l : Launch} {g : Gh} {M0 : Mem} {p0 : Int32} {post : Int32 → Mem → Prop} (hq : wp_X11_isTeam g M0 p0 post) : Ct l g yX11_isTeam cX11_isTeam 1 (some .boolean) 0 0 0 [.int p0] M0 (pI post) := by
  unfold wp_X11_isTeam at hq
  refine Ct.of (by decide) (Nat.le_of_ble_eq_true rfl) ?_
  intro p e s m below meth c ls C hr hlk hn hl hw
  have hx := C.1.1
  have hb := C.1.2.1
  have hl : lv_has ls 1 [(0, .int p0)] := hl
  refine lv_iload_n hx hb dX11_isTeam_0 rfl (lv_at hl 0 rfl) ?_
  refine lv_if_lt (tgt := 14) hx hb dX11_isTeam_1 (by decide) (fun c1 => ?_) (fun c1 => ?_)
  · replace hq := hq.1 c1
    refine lv_iconst (v := 0) hx hb dX11_isTeam_14 (by decide) ?_
    exact r_zret C hr hlk hw dX11_isTeam_15 (by decide) (by decide) (by decide) ⟨_, rfl, hq⟩
  · replace hq := hq.2 c1
    refine lv_iload_n hx hb dX11_isTeam_4 rfl (lv_at hl 0 rfl) ?_
    refine lv_bipush (v := 12) hx hb dX11_isTeam_5 (by decide) ?_
    refine lv_icmp_ge (tgt := 14) hx hb dX11_isTeam_7 (by decide) (fun c2 => ?_) (fun c2 => ?_)
    · replace hq := hq.1 c2
      refine lv_iconst (v := 0) hx hb dX11_isTeam_14 (by decide) ?_
      exact r_zret C hr hlk hw dX11_isTeam_15 (by decide) (by decide) (by decide) ⟨_, rfl, hq⟩
    · replace hq := hq.2 c2
      refine lv_iconst (v := 1) hx hb dX11_isTeam_10 (by decide) ?_
      refine lv_goto (tgt := 15) hx hb dX11_isTeam_11 (by decide) ?_
      exact r_zret C hr hlk hw dX11_isTeam_15 (by decide) (by decide) (by decide) ⟨_, rfl, hq⟩

def lb_X5_addSide_37 (g : Gh) (M0 : Mem) (a0 : Nat) (p1 : Int32) (p2 : Int32) (p3 : Int32) (post : Mem → Prop)   (s0 : Nat) (s1 : Int32) (s2 : Int32) (s3 : Int32) (M : Mem) : Prop :=
  okc (gB g) M0 s0 14 ∧ (vp_in s1 (mN M0 s0) ∧ (∀ M3, M3 = uI M s0 (Int32.toNatClampNeg s1) (s2 + s3) → (∃ q5, mR M3 a0 1 = some q5 ∧ (okc (gB g) M0 q5 14 ∧ (vp_in p1 (mN M0 q5) ∧ (∀ M9, M9 = uI M3 q5 (Int32.toNatClampNeg p1) ((mI M3 q5 (Int32.toNatClampNeg p1)) + 1) → (∃ q11, mR M9 a0 2 = some q11 ∧ (okc (gB g) M0 q11 14 ∧ (vp_in p1 (mN M0 q11) ∧ (∀ M15, M15 = uI M9 q11 (Int32.toNatClampNeg p1) ((mI M9 q11 (Int32.toNatClampNeg p1)) + p2) → (∃ q17, mR M15 a0 3 = some q17 ∧ (okc (gB g) M0 q17 14 ∧ (vp_in p1 (mN M0 q17) ∧ (∀ M21, M21 = uI M15 q17 (Int32.toNatClampNeg p1) ((mI M15 q17 (Int32.toNatClampNeg p1)) + p3) → (post M21)))))))))))))))
def lb_X5_addSide_17 (g : Gh) (M0 : Mem) (a0 : Nat) (p1 : Int32) (p2 : Int32) (p3 : Int32) (post : Mem → Prop)   (s0 : Int32) (M : Mem) : Prop :=
  ∃ q23, mR M a0 0 = some q23 ∧ (okc (gB g) M0 q23 14 ∧ (vp_in p1 (mN M0 q23) ∧ (((p2 = p3) → lb_X5_addSide_37 g M0 a0 p1 p2 p3 post  q23 p1 (mI M q23 (Int32.toNatClampNeg p1)) 1 M) ∧ (¬ (p2 = p3) → lb_X5_addSide_37 g M0 a0 p1 p2 p3 post  q23 p1 (mI M q23 (Int32.toNatClampNeg p1)) s0 M))))
def wp_X5_addSide (g : Gh) (M0 : Mem) (a0 : Nat) (p1 : Int32) (p2 : Int32) (p3 : Int32) (post : Mem → Prop) : Prop :=
  okc (gB g) M0 a0 5 ∧ (wp_X11_isTeam g M0 p1 (fun v28 M29 => ((v28 = 0) → post M29) ∧ (¬ (v28 = 0) → ((p2 ≤ p3) → lb_X5_addSide_17 g M0 a0 p1 p2 p3 post  0 M29) ∧ (¬ (p2 ≤ p3) → lb_X5_addSide_17 g M0 a0 p1 p2 p3 post  2 M29))))
set_option maxHeartbeats 4000000 in
set_option maxRecDepth 100000 in
theorem lt_X5_addSide_37 {l : Launch} {g : Gh} {p : Program} {e : Env} {s : State} {m : MethodId} {args : Array Value} {below : List Frame} {meth : Method} {c : Code} {H : Heap} {locs : List Loc} {ls : Array Slot} {M0 M : Mem} {a0 : Nat} {p1 : Int32} {p2 : Int32} {p3 : Int32} {post : Mem → Prop}  {s0 : Nat} {s1 : Int32} {s2 : Int32} {s3 : Int32} (C : Cx g p s m args c cX5_addSide 5 RX5) (hr : meth.sig.returnType = none) (hlk : meth.locks = false) (hn : meth.name = "addSide") (h0 : okc (gB g) M0 a0 5)  (hq : lb_X5_addSide_37 g M0 a0 p1 p2 p3 post  s0 s1 s2 s3 M) (hw : Wd g s M0 M H locs) (hl : lv_has ls 5 [(0, .ref a0), (1, .int p1), (2, .int p2), (3, .int p3)]) : W p l e (rmo 1 0 0) s m args below meth c H locs 0 0 (MQ below (Cq g M0 (pV post)) args s 0 0 (gA g)) (F0 m 37 ls [.int s3, .int s2, .int s1, .ref s0]) := by
  have hx := C.1.1
  have hb := C.1.2.1
  unfold lb_X5_addSide_37 at hq
  refine lv_iadd hx hb dX5_addSide_37 ?_
  obtain ⟨h1, hq⟩ := hq
  obtain ⟨h2, hq⟩ := hq
  refine q_iast C hw hw.2.2.1 h1 h2 dX5_addSide_38 (fun H locs hw => ?_)
  generalize e4 : uI M s0 (Int32.toNatClampNeg s1) (s2 + s3) = M3 at hw
  replace hq := hq M3 e4.symm
  refine lv_aload_n hx hb dX5_addSide_39 rfl (lv_at hl 0 rfl) ?_
  obtain ⟨q5, e6, hq⟩ := hq
  refine gfX5_15 C hw hw.2.2.1 h0 e6 dX5_addSide_40 ?_
  refine lv_iload_n hx hb dX5_addSide_43 rfl (lv_at hl 1 rfl) ?_
  refine lv_dup2_11 hx hb dX5_addSide_44 rfl rfl ?_
  obtain ⟨h7, hq⟩ := hq
  obtain ⟨h8, hq⟩ := hq
  refine q_iald C hw hw.2.2.1 h7 h8 dX5_addSide_45 ?_
  refine lv_iconst (v := 1) hx hb dX5_addSide_46 (by decide) ?_
  refine lv_iadd hx hb dX5_addSide_47 ?_
  refine q_iast C hw hw.2.2.1 h7 h8 dX5_addSide_48 (fun H locs hw => ?_)
  generalize e10 : uI M3 q5 (Int32.toNatClampNeg p1) ((mI M3 q5 (Int32.toNatClampNeg p1)) + 1) = M9 at hw
  replace hq := hq M9 e10.symm
  have e6 : mR M9 a0 1 = some q5 := by rw [← e10, mR_uI]; exact e6
  refine lv_aload_n hx hb dX5_addSide_49 rfl (lv_at hl 0 rfl) ?_
  obtain ⟨q11, e12, hq⟩ := hq
  refine gfX5_18 C hw hw.2.2.1 h0 e12 dX5_addSide_50 ?_
  refine lv_iload_n hx hb dX5_addSide_53 rfl (lv_at hl 1 rfl) ?_
  refine lv_dup2_11 hx hb dX5_addSide_54 rfl rfl ?_
  obtain ⟨h13, hq⟩ := hq
  obtain ⟨h14, hq⟩ := hq
  refine q_iald C hw hw.2.2.1 h13 h14 dX5_addSide_55 ?_
  refine lv_iload_n hx hb dX5_addSide_56 rfl (lv_at hl 2 rfl) ?_
  refine lv_iadd hx hb dX5_addSide_57 ?_
  refine q_iast C hw hw.2.2.1 h13 h14 dX5_addSide_58 (fun H locs hw => ?_)
  generalize e16 : uI M9 q11 (Int32.toNatClampNeg p1) ((mI M9 q11 (Int32.toNatClampNeg p1)) + p2) = M15 at hw
  replace hq := hq M15 e16.symm
  have e6 : mR M15 a0 1 = some q5 := by rw [← e16, mR_uI]; exact e6
  have e12 : mR M15 a0 2 = some q11 := by rw [← e16, mR_uI]; exact e12
  refine lv_aload_n hx hb dX5_addSide_59 rfl (lv_at hl 0 rfl) ?_
  obtain ⟨q17, e18, hq⟩ := hq
  refine gfX5_21 C hw hw.2.2.1 h0 e18 dX5_addSide_60 ?_
  refine lv_iload_n hx hb dX5_addSide_63 rfl (lv_at hl 1 rfl) ?_
  refine lv_dup2_11 hx hb dX5_addSide_64 rfl rfl ?_
  obtain ⟨h19, hq⟩ := hq
  obtain ⟨h20, hq⟩ := hq
  refine q_iald C hw hw.2.2.1 h19 h20 dX5_addSide_65 ?_
  refine lv_iload_n hx hb dX5_addSide_66 rfl (lv_at hl 3 rfl) ?_
  refine lv_iadd hx hb dX5_addSide_67 ?_
  refine q_iast C hw hw.2.2.1 h19 h20 dX5_addSide_68 (fun H locs hw => ?_)
  generalize e22 : uI M15 q17 (Int32.toNatClampNeg p1) ((mI M15 q17 (Int32.toNatClampNeg p1)) + p3) = M21 at hw
  replace hq := hq M21 e22.symm
  have e6 : mR M21 a0 1 = some q5 := by rw [← e22, mR_uI]; exact e6
  have e12 : mR M21 a0 2 = some q11 := by rw [← e22, mR_uI]; exact e12
  have e18 : mR M21 a0 3 = some q17 := by rw [← e22, mR_uI]; exact e18
  exact r_vret C hr hlk hw dX5_addSide_69 (by decide) (by decide) ⟨rfl, hq⟩
set_option maxHeartbeats 4000000 in
set_option maxRecDepth 100000 in
theorem lt_X5_addSide_17 {l : Launch} {g : Gh} {p : Program} {e : Env} {s : State} {m : MethodId} {args : Array Value} {below : List Frame} {meth : Method} {c : Code} {H : Heap} {locs : List Loc} {ls : Array Slot} {M0 M : Mem} {a0 : Nat} {p1 : Int32} {p2 : Int32} {p3 : Int32} {post : Mem → Prop}  {s0 : Int32} (C : Cx g p s m args c cX5_addSide 5 RX5) (hr : meth.sig.returnType = none) (hlk : meth.locks = false) (hn : meth.name = "addSide") (h0 : okc (gB g) M0 a0 5)  (hq : lb_X5_addSide_17 g M0 a0 p1 p2 p3 post  s0 M) (hw : Wd g s M0 M H locs) (hl : lv_has ls 5 [(0, .ref a0), (1, .int p1), (2, .int p2), (3, .int p3)]) : W p l e (rmo 1 0 0) s m args below meth c H locs 0 0 (MQ below (Cq g M0 (pV post)) args s 0 0 (gA g)) (F0 m 17 ls [.int s0]) := by
  have hx := C.1.1
  have hb := C.1.2.1
  unfold lb_X5_addSide_17 at hq
  refine lv_istore (lv' := [(4, .int s0), (0, .ref a0), (1, .int p1), (2, .int p2), (3, .int p3)]) hx hb dX5_addSide_17 hl (by decide) rfl (fun ls hl => ?_)
  refine lv_aload_n hx hb dX5_addSide_19 rfl (lv_at hl 1 rfl) ?_
  obtain ⟨q23, e24, hq⟩ := hq
  refine gfX5_9 C hw hw.2.2.1 h0 e24 dX5_addSide_20 ?_
  refine lv_iload_n hx hb dX5_addSide_23 rfl (lv_at hl 2 rfl) ?_
  refine lv_dup2_11 hx hb dX5_addSide_24 rfl rfl ?_
  obtain ⟨h25, hq⟩ := hq
  obtain ⟨h26, hq⟩ := hq
  refine q_iald C hw hw.2.2.1 h25 h26 dX5_addSide_25 ?_
  refine lv_iload_n hx hb dX5_addSide_26 rfl (lv_at hl 3 rfl) ?_
  refine lv_iload_n hx hb dX5_addSide_27 rfl (lv_at hl 4 rfl) ?_
  refine lv_icmp_ne (tgt := 35) hx hb dX5_addSide_28 (by decide) (fun c27 => ?_) (fun c27 => ?_)
  · replace hq := hq.2 c27
    refine lv_iload hx hb dX5_addSide_35 (lv_at hl 0 rfl) ?_
    exact lt_X5_addSide_37 C hr hlk hn h0  hq hw (lv_sub hl [1, 2, 3, 4] rfl)
  · replace hq := hq.1 c27
    refine lv_iconst (v := 1) hx hb dX5_addSide_31 (by decide) ?_
    refine lv_goto (tgt := 37) hx hb dX5_addSide_32 (by decide) ?_
    exact lt_X5_addSide_37 C hr hlk hn h0  hq hw (lv_sub hl [1, 2, 3, 4] rfl)
set_option maxHeartbeats 4000000 in
set_option maxRecDepth 100000 in
theorem ct_X5_addSide {l : Launch} {g : Gh} {M0 : Mem} {a0 : Nat} {p1 : Int32} {p2 : Int32} {p3 : Int32} {post : Mem → Prop} (hq : wp_X5_addSide g M0 a0 p1 p2 p3 post) : Ct l g yX5_addSide cX5_addSide 5 none 1 0 0 [.ref a0, .int p1, .int p2, .int p3] M0 (pV post) := by
  unfold wp_X5_addSide at hq
  obtain ⟨h0, hq⟩ := hq
  refine Ct.of (by decide) (Nat.le_of_ble_eq_true rfl) ?_
  intro p e s m below meth c ls C hr hlk hn hl hw
  have hx := C.1.1
  have hb := C.1.2.1
  have hl : lv_has ls 5 [(0, .ref a0), (1, .int p1), (2, .int p2), (3, .int p3)] := hl
  refine lv_iload_n hx hb dX5_addSide_0 rfl (lv_at hl 1 rfl) ?_
  refine r_callSN (index := 36) (n := 1) (d2 := 0) (mc := 0) (ms := 0) (As := [.int p1]) (rest := []) C hw (ct_X11_isTeam hq) ksX5_36 ⟨by decide, by decide⟩ ⟨by decide, by decide⟩ rfl hl.1 rfl (Nat.le_of_ble_eq_true rfl) dX5_addSide_1 (fun r M29 H locs hp hle hw => ?_)
  obtain ⟨v28, rfl, hq⟩ := hp
  refine W.eq (g2 := F0 m 4 ls [.int v28]) rfl ?_
  refine lv_if_eq (tgt := 69) hx hb dX5_addSide_4 (by decide) (fun c30 => ?_) (fun c30 => ?_)
  · replace hq := hq.1 c30
    exact r_vret C hr hlk hw dX5_addSide_69 (by decide) (by decide) ⟨rfl, hq⟩
  · replace hq := hq.2 c30
    refine lv_iload_n hx hb dX5_addSide_7 rfl (lv_at hl 2 rfl) ?_
    refine lv_iload_n hx hb dX5_addSide_8 rfl (lv_at hl 3 rfl) ?_
    refine lv_icmp_le (tgt := 16) hx hb dX5_addSide_9 (by decide) (fun c31 => ?_) (fun c31 => ?_)
    · replace hq := hq.1 c31
      refine lv_iconst (v := 0) hx hb dX5_addSide_16 (by decide) ?_
      exact lt_X5_addSide_17 C hr hlk hn h0  hq hw (lv_sub hl [0, 1, 2, 3] rfl)
    · replace hq := hq.2 c31
      refine lv_iconst (v := 2) hx hb dX5_addSide_12 (by decide) ?_
      refine lv_goto (tgt := 17) hx hb dX5_addSide_13 (by decide) ?_
      exact lt_X5_addSide_17 C hr hlk hn h0  hq hw (lv_sub hl [0, 1, 2, 3] rfl)

def wp_X5_addMatch (g : Gh) (M0 : Mem) (a0 : Nat) (p1 : Int32) (p2 : Int32) (p3 : Int32) (p4 : Int32) (post : Mem → Prop) : Prop :=
  okc (gB g) M0 a0 5 ∧ (∀ M1, M1 = uI M0 a0 4 ((mI M0 a0 4) + 1) → (wp_X5_addSide g M1 a0 p1 p3 p4 (fun M4 => wp_X5_addSide g M4 a0 p2 p4 p3 (fun M6 => post M6))))
set_option maxHeartbeats 4000000 in
set_option maxRecDepth 100000 in
theorem ct_X5_addMatch {l : Launch} {g : Gh} {M0 : Mem} {a0 : Nat} {p1 : Int32} {p2 : Int32} {p3 : Int32} {p4 : Int32} {post : Mem → Prop} (hq : wp_X5_addMatch g M0 a0 p1 p2 p3 p4 post) : Ct l g yX5_addMatch cX5_addMatch 5 none 2 0 0 [.ref a0, .int p1, .int p2, .int p3, .int p4] M0 (pV post) := by
  unfold wp_X5_addMatch at hq
  obtain ⟨h0, hq⟩ := hq
  refine Ct.of (by decide) (Nat.le_of_ble_eq_true rfl) ?_
  intro p e s m below meth c ls C hr hlk hn hl hw
  have hx := C.1.1
  have hb := C.1.2.1
  have hl : lv_has ls 5 [(0, .ref a0), (1, .int p1), (2, .int p2), (3, .int p3), (4, .int p4)] := hl
  refine lv_aload_n hx hb dX5_addMatch_0 rfl (lv_at hl 0 rfl) ?_
  refine lv_dup hx hb dX5_addMatch_1 rfl ?_
  refine gfX5_24 C hw hw.2.2.1 h0 dX5_addMatch_2 ?_
  refine lv_iconst (v := 1) hx hb dX5_addMatch_5 (by decide) ?_
  refine lv_iadd hx hb dX5_addMatch_6 ?_
  refine pfX5_24 C hw hw.2.2.1 h0 dX5_addMatch_7 (fun H locs hw => ?_)
  generalize e2 : uI M0 a0 4 ((mI M0 a0 4) + 1) = M1 at hw
  replace hq := hq M1 e2.symm
  refine lv_aload_n hx hb dX5_addMatch_10 rfl (lv_at hl 0 rfl) ?_
  refine lv_iload_n hx hb dX5_addMatch_11 rfl (lv_at hl 1 rfl) ?_
  refine lv_iload_n hx hb dX5_addMatch_12 rfl (lv_at hl 3 rfl) ?_
  refine lv_iload hx hb dX5_addMatch_13 (lv_at hl 4 rfl) ?_
  refine r_callV (T := TX5) (N := 5) (ci := 5) (index := 28) (n := 3) (d2 := 1) (mc := 0) (ms := 0) (As := [.int p1, .int p3, .int p4]) (rest := []) C hw (ct_X5_addSide hq) kvX5_28 hq.1 (by decide) rfl ⟨by decide, by decide⟩ ⟨by decide, by decide⟩ rfl hl.1 rfl (Nat.le_of_ble_eq_true rfl) dX5_addMatch_15 (fun r M4 H locs hp hle hw => ?_)
  obtain ⟨rfl, hq⟩ := hp
  refine W.eq (g2 := F0 m 18 ls []) rfl ?_
  refine lv_aload_n hx hb dX5_addMatch_18 rfl (lv_at hl 0 rfl) ?_
  refine lv_iload_n hx hb dX5_addMatch_19 rfl (lv_at hl 2 rfl) ?_
  refine lv_iload hx hb dX5_addMatch_20 (lv_at hl 4 rfl) ?_
  refine lv_iload_n hx hb dX5_addMatch_22 rfl (lv_at hl 3 rfl) ?_
  refine r_callV (T := TX5) (N := 5) (ci := 5) (index := 28) (n := 3) (d2 := 1) (mc := 0) (ms := 0) (As := [.int p2, .int p4, .int p3]) (rest := []) C hw (ct_X5_addSide hq) kvX5_28 hq.1 (by decide) rfl ⟨by decide, by decide⟩ ⟨by decide, by decide⟩ rfl hl.1 rfl (Nat.le_of_ble_eq_true rfl) dX5_addMatch_23 (fun r M6 H locs hp hle hw => ?_)
  obtain ⟨rfl, hq⟩ := hp
  refine W.eq (g2 := F0 m 26 ls []) rfl ?_
  exact r_vret C hr hlk hw dX5_addMatch_26 (by decide) (by decide) ⟨rfl, hq⟩

def wp_X5_isAhead (g : Gh) (M0 : Mem) (a0 : Nat) (p1 : Int32) (p2 : Int32) (post : Int32 → Mem → Prop) : Prop :=
  okc (gB g) M0 a0 5 ∧ (wp_X11_isTeam g M0 p1 (fun v1 M2 => ((v1 = 0) → post 0 M2) ∧ (¬ (v1 = 0) → wp_X11_isTeam g M2 p2 (fun v4 M5 => ((v4 = 0) → post 0 M5) ∧ (¬ (v4 = 0) → ∃ q7, mR M5 a0 0 = some q7 ∧ (okc (gB g) M0 q7 14 ∧ (vp_in p1 (mN M0 q7) ∧ (vp_in p2 (mN M0 q7) ∧ ((((mI M5 q7 (Int32.toNatClampNeg p1)) = (mI M5 q7 (Int32.toNatClampNeg p2))) → ∃ q13, mR M5 a0 2 = some q13 ∧ (okc (gB g) M0 q13 14 ∧ (vp_in p1 (mN M0 q13) ∧ (∃ q17, mR M5 a0 3 = some q17 ∧ (okc (gB g) M0 q17 14 ∧ (vp_in p1 (mN M0 q17) ∧ (vp_in p2 (mN M0 q13) ∧ (vp_in p2 (mN M0 q17) ∧ (((((mI M5 q13 (Int32.toNatClampNeg p1)) - (mI M5 q17 (Int32.toNatClampNeg p1))) = ((mI M5 q13 (Int32.toNatClampNeg p2)) - (mI M5 q17 (Int32.toNatClampNeg p2)))) → (((mI M5 q13 (Int32.toNatClampNeg p1)) = (mI M5 q13 (Int32.toNatClampNeg p2))) → ((p2 ≤ p1) → post 0 M5) ∧ (¬ (p2 ≤ p1) → post 1 M5)) ∧ (¬ ((mI M5 q13 (Int32.toNatClampNeg p1)) = (mI M5 q13 (Int32.toNatClampNeg p2))) → (((mI M5 q13 (Int32.toNatClampNeg p1)) ≤ (mI M5 q13 (Int32.toNatClampNeg p2))) → post 0 M5) ∧ (¬ ((mI M5 q13 (Int32.toNatClampNeg p1)) ≤ (mI M5 q13 (Int32.toNatClampNeg p2))) → post 1 M5))) ∧ (¬ (((mI M5 q13 (Int32.toNatClampNeg p1)) - (mI M5 q17 (Int32.toNatClampNeg p1))) = ((mI M5 q13 (Int32.toNatClampNeg p2)) - (mI M5 q17 (Int32.toNatClampNeg p2)))) → ((((mI M5 q13 (Int32.toNatClampNeg p1)) - (mI M5 q17 (Int32.toNatClampNeg p1))) ≤ ((mI M5 q13 (Int32.toNatClampNeg p2)) - (mI M5 q17 (Int32.toNatClampNeg p2)))) → post 0 M5) ∧ (¬ (((mI M5 q13 (Int32.toNatClampNeg p1)) - (mI M5 q17 (Int32.toNatClampNeg p1))) ≤ ((mI M5 q13 (Int32.toNatClampNeg p2)) - (mI M5 q17 (Int32.toNatClampNeg p2)))) → post 1 M5))))))))))) ∧ (¬ ((mI M5 q7 (Int32.toNatClampNeg p1)) = (mI M5 q7 (Int32.toNatClampNeg p2))) → (((mI M5 q7 (Int32.toNatClampNeg p1)) ≤ (mI M5 q7 (Int32.toNatClampNeg p2))) → post 0 M5) ∧ (¬ ((mI M5 q7 (Int32.toNatClampNeg p1)) ≤ (mI M5 q7 (Int32.toNatClampNeg p2))) → post 1 M5)))))))))))
set_option maxHeartbeats 4000000 in
set_option maxRecDepth 100000 in
theorem ct_X5_isAhead {l : Launch} {g : Gh} {M0 : Mem} {a0 : Nat} {p1 : Int32} {p2 : Int32} {post : Int32 → Mem → Prop} (hq : wp_X5_isAhead g M0 a0 p1 p2 post) : Ct l g yX5_isAhead cX5_isAhead 5 (some .boolean) 1 0 0 [.ref a0, .int p1, .int p2] M0 (pI post) := by
  unfold wp_X5_isAhead at hq
  obtain ⟨h0, hq⟩ := hq
  refine Ct.of (by decide) (Nat.le_of_ble_eq_true rfl) ?_
  intro p e s m below meth c ls C hr hlk hn hl hw
  have hx := C.1.1
  have hb := C.1.2.1
  have hl : lv_has ls 5 [(0, .ref a0), (1, .int p1), (2, .int p2)] := hl
  refine lv_iload_n hx hb dX5_isAhead_0 rfl (lv_at hl 1 rfl) ?_
  refine r_callSN (index := 36) (n := 1) (d2 := 0) (mc := 0) (ms := 0) (As := [.int p1]) (rest := []) C hw (ct_X11_isTeam hq) ksX5_36 ⟨by decide, by decide⟩ ⟨by decide, by decide⟩ rfl hl.1 rfl (Nat.le_of_ble_eq_true rfl) dX5_isAhead_1 (fun r M2 H locs hp hle hw => ?_)
  obtain ⟨v1, rfl, hq⟩ := hp
  refine W.eq (g2 := F0 m 4 ls [.int v1]) rfl ?_
  refine lv_if_eq (tgt := 14) hx hb dX5_isAhead_4 (by decide) (fun c3 => ?_) (fun c3 => ?_)
  · replace hq := hq.1 c3
    refine lv_iconst (v := 0) hx hb dX5_isAhead_14 (by decide) ?_
    exact r_zret C hr hlk hw dX5_isAhead_15 (by decide) (by decide) (by decide) ⟨_, rfl, hq⟩
  · replace hq := hq.2 c3
    refine lv_iload_n hx hb dX5_isAhead_7 rfl (lv_at hl 2 rfl) ?_
    refine r_callSN (index := 36) (n := 1) (d2 := 0) (mc := 0) (ms := 0) (As := [.int p2]) (rest := []) C hw (ct_X11_isTeam hq) ksX5_36 ⟨by decide, by decide⟩ ⟨by decide, by decide⟩ rfl hl.1 rfl (Nat.le_of_ble_eq_true rfl) dX5_isAhead_8 (fun r M5 H locs hp hle hw => ?_)
    obtain ⟨v4, rfl, hq⟩ := hp
    refine W.eq (g2 := F0 m 11 ls [.int v4]) rfl ?_
    refine lv_if_ne (tgt := 16) hx hb dX5_isAhead_11 (by decide) (fun c6 => ?_) (fun c6 => ?_)
    · replace hq := hq.2 c6
      refine lv_aload_n hx hb dX5_isAhead_16 rfl (lv_at hl 0 rfl) ?_
      obtain ⟨q7, e8, hq⟩ := hq
      refine gfX5_9 C hw hw.2.2.1 h0 e8 dX5_isAhead_17 ?_
      refine lv_iload_n hx hb dX5_isAhead_20 rfl (lv_at hl 1 rfl) ?_
      obtain ⟨h9, hq⟩ := hq
      obtain ⟨h10, hq⟩ := hq
      refine q_iald C hw hw.2.2.1 h9 h10 dX5_isAhead_21 ?_
      refine lv_aload_n hx hb dX5_isAhead_22 rfl (lv_at hl 0 rfl) ?_
      refine gfX5_9 C hw hw.2.2.1 h0 e8 dX5_isAhead_23 ?_
      refine lv_iload_n hx hb dX5_isAhead_26 rfl (lv_at hl 2 rfl) ?_
      obtain ⟨h11, hq⟩ := hq
      refine q_iald C hw hw.2.2.1 h9 h11 dX5_isAhead_27 ?_
      refine lv_icmp_eq (tgt := 52) hx hb dX5_isAhead_28 (by decide) (fun c12 => ?_) (fun c12 => ?_)
      · replace hq := hq.1 c12
        refine lv_aload_n hx hb dX5_isAhead_52 rfl (lv_at hl 0 rfl) ?_
        obtain ⟨q13, e14, hq⟩ := hq
        refine gfX5_18 C hw hw.2.2.1 h0 e14 dX5_isAhead_53 ?_
        refine lv_iload_n hx hb dX5_isAhead_56 rfl (lv_at hl 1 rfl) ?_
        obtain ⟨h15, hq⟩ := hq
        obtain ⟨h16, hq⟩ := hq
        refine q_iald C hw hw.2.2.1 h15 h16 dX5_isAhead_57 ?_
        refine lv_aload_n hx hb dX5_isAhead_58 rfl (lv_at hl 0 rfl) ?_
        obtain ⟨q17, e18, hq⟩ := hq
        refine gfX5_21 C hw hw.2.2.1 h0 e18 dX5_isAhead_59 ?_
        refine lv_iload_n hx hb dX5_isAhead_62 rfl (lv_at hl 1 rfl) ?_
        obtain ⟨h19, hq⟩ := hq
        obtain ⟨h20, hq⟩ := hq
        refine q_iald C hw hw.2.2.1 h19 h20 dX5_isAhead_63 ?_
        refine lv_isub hx hb dX5_isAhead_64 ?_
        refine lv_istore_n (lv' := [(3, .int ((mI M5 q13 (Int32.toNatClampNeg p1)) - (mI M5 q17 (Int32.toNatClampNeg p1)))), (0, .ref a0), (1, .int p1), (2, .int p2)]) hx hb dX5_isAhead_65 rfl hl (by decide) rfl (fun ls hl => ?_)
        refine lv_aload_n hx hb dX5_isAhead_66 rfl (lv_at hl 1 rfl) ?_
        refine gfX5_18 C hw hw.2.2.1 h0 e14 dX5_isAhead_67 ?_
        refine lv_iload_n hx hb dX5_isAhead_70 rfl (lv_at hl 3 rfl) ?_
        obtain ⟨h21, hq⟩ := hq
        refine q_iald C hw hw.2.2.1 h15 h21 dX5_isAhead_71 ?_
        refine lv_aload_n hx hb dX5_isAhead_72 rfl (lv_at hl 1 rfl) ?_
        refine gfX5_21 C hw hw.2.2.1 h0 e18 dX5_isAhead_73 ?_
        refine lv_iload_n hx hb dX5_isAhead_76 rfl (lv_at hl 3 rfl) ?_
        obtain ⟨h22, hq⟩ := hq
        refine q_iald C hw hw.2.2.1 h19 h22 dX5_isAhead_77 ?_
        refine lv_isub hx hb dX5_isAhead_78 ?_
        refine lv_istore (lv' := [(4, .int ((mI M5 q13 (Int32.toNatClampNeg p2)) - (mI M5 q17 (Int32.toNatClampNeg p2)))), (3, .int ((mI M5 q13 (Int32.toNatClampNeg p1)) - (mI M5 q17 (Int32.toNatClampNeg p1)))), (0, .ref a0), (1, .int p1), (2, .int p2)]) hx hb dX5_isAhead_79 hl (by decide) rfl (fun ls hl => ?_)
        refine lv_iload_n hx hb dX5_isAhead_81 rfl (lv_at hl 1 rfl) ?_
        refine lv_iload hx hb dX5_isAhead_82 (lv_at hl 0 rfl) ?_
        refine lv_icmp_eq (tgt := 99) hx hb dX5_isAhead_84 (by decide) (fun c23 => ?_) (fun c23 => ?_)
        · replace hq := hq.1 c23
          refine lv_aload_n hx hb dX5_isAhead_99 rfl (lv_at hl 2 rfl) ?_
          refine gfX5_18 C hw hw.2.2.1 h0 e14 dX5_isAhead_100 ?_
          refine lv_iload_n hx hb dX5_isAhead_103 rfl (lv_at hl 3 rfl) ?_
          refine q_iald C hw hw.2.2.1 h15 h16 dX5_isAhead_104 ?_
          refine lv_aload_n hx hb dX5_isAhead_105 rfl (lv_at hl 2 rfl) ?_
          refine gfX5_18 C hw hw.2.2.1 h0 e14 dX5_isAhead_106 ?_
          refine lv_iload_n hx hb dX5_isAhead_109 rfl (lv_at hl 4 rfl) ?_
          refine q_iald C hw hw.2.2.1 h15 h21 dX5_isAhead_110 ?_
          refine lv_icmp_eq (tgt := 137) hx hb dX5_isAhead_111 (by decide) (fun c24 => ?_) (fun c24 => ?_)
          · replace hq := hq.1 c24
            refine lv_iload_n hx hb dX5_isAhead_137 rfl (lv_at hl 3 rfl) ?_
            refine lv_iload_n hx hb dX5_isAhead_138 rfl (lv_at hl 4 rfl) ?_
            refine lv_icmp_ge (tgt := 146) hx hb dX5_isAhead_139 (by decide) (fun c25 => ?_) (fun c25 => ?_)
            · replace hq := hq.1 c25
              refine lv_iconst (v := 0) hx hb dX5_isAhead_146 (by decide) ?_
              exact r_zret C hr hlk hw dX5_isAhead_147 (by decide) (by decide) (by decide) ⟨_, rfl, hq⟩
            · replace hq := hq.2 c25
              refine lv_iconst (v := 1) hx hb dX5_isAhead_142 (by decide) ?_
              refine lv_goto (tgt := 147) hx hb dX5_isAhead_143 (by decide) ?_
              exact r_zret C hr hlk hw dX5_isAhead_147 (by decide) (by decide) (by decide) ⟨_, rfl, hq⟩
          · replace hq := hq.2 c24
            refine lv_aload_n hx hb dX5_isAhead_114 rfl (lv_at hl 2 rfl) ?_
            refine gfX5_18 C hw hw.2.2.1 h0 e14 dX5_isAhead_115 ?_
            refine lv_iload_n hx hb dX5_isAhead_118 rfl (lv_at hl 3 rfl) ?_
            refine q_iald C hw hw.2.2.1 h15 h16 dX5_isAhead_119 ?_
            refine lv_aload_n hx hb dX5_isAhead_120 rfl (lv_at hl 2 rfl) ?_
            refine gfX5_18 C hw hw.2.2.1 h0 e14 dX5_isAhead_121 ?_
            refine lv_iload_n hx hb dX5_isAhead_124 rfl (lv_at hl 4 rfl) ?_
            refine q_iald C hw hw.2.2.1 h15 h21 dX5_isAhead_125 ?_
            refine lv_icmp_le (tgt := 133) hx hb dX5_isAhead_126 (by decide) (fun c26 => ?_) (fun c26 => ?_)
            · replace hq := hq.1 c26
              refine lv_iconst (v := 0) hx hb dX5_isAhead_133 (by decide) ?_
              refine lv_goto (tgt := 147) hx hb dX5_isAhead_134 (by decide) ?_
              exact r_zret C hr hlk hw dX5_isAhead_147 (by decide) (by decide) (by decide) ⟨_, rfl, hq⟩
            · replace hq := hq.2 c26
              refine lv_iconst (v := 1) hx hb dX5_isAhead_129 (by decide) ?_
              refine lv_goto (tgt := 147) hx hb dX5_isAhead_130 (by decide) ?_
              exact r_zret C hr hlk hw dX5_isAhead_147 (by decide) (by decide) (by decide) ⟨_, rfl, hq⟩
        · replace hq := hq.2 c23
          refine lv_iload_n hx hb dX5_isAhead_87 rfl (lv_at hl 1 rfl) ?_
          refine lv_iload hx hb dX5_isAhead_88 (lv_at hl 0 rfl) ?_
          refine lv_icmp_le (tgt := 97) hx hb dX5_isAhead_90 (by decide) (fun c27 => ?_) (fun c27 => ?_)
          · replace hq := hq.1 c27
            refine lv_iconst (v := 0) hx hb dX5_isAhead_97 (by decide) ?_
            exact r_zret C hr hlk hw dX5_isAhead_98 (by decide) (by decide) (by decide) ⟨_, rfl, hq⟩
          · replace hq := hq.2 c27
            refine lv_iconst (v := 1) hx hb dX5_isAhead_93 (by decide) ?_
            refine lv_goto (tgt := 98) hx hb dX5_isAhead_94 (by decide) ?_
            exact r_zret C hr hlk hw dX5_isAhead_98 (by decide) (by decide) (by decide) ⟨_, rfl, hq⟩
      · replace hq := hq.2 c12
        refine lv_aload_n hx hb dX5_isAhead_31 rfl (lv_at hl 0 rfl) ?_
        refine gfX5_9 C hw hw.2.2.1 h0 e8 dX5_isAhead_32 ?_
        refine lv_iload_n hx hb dX5_isAhead_35 rfl (lv_at hl 1 rfl) ?_
        refine q_iald C hw hw.2.2.1 h9 h10 dX5_isAhead_36 ?_
        refine lv_aload_n hx hb dX5_isAhead_37 rfl (lv_at hl 0 rfl) ?_
        refine gfX5_9 C hw hw.2.2.1 h0 e8 dX5_isAhead_38 ?_
        refine lv_iload_n hx hb dX5_isAhead_41 rfl (lv_at hl 2 rfl) ?_
        refine q_iald C hw hw.2.2.1 h9 h11 dX5_isAhead_42 ?_
        refine lv_icmp_le (tgt := 50) hx hb dX5_isAhead_43 (by decide) (fun c28 => ?_) (fun c28 => ?_)
        · replace hq := hq.1 c28
          refine lv_iconst (v := 0) hx hb dX5_isAhead_50 (by decide) ?_
          exact r_zret C hr hlk hw dX5_isAhead_51 (by decide) (by decide) (by decide) ⟨_, rfl, hq⟩
        · replace hq := hq.2 c28
          refine lv_iconst (v := 1) hx hb dX5_isAhead_46 (by decide) ?_
          refine lv_goto (tgt := 51) hx hb dX5_isAhead_47 (by decide) ?_
          exact r_zret C hr hlk hw dX5_isAhead_51 (by decide) (by decide) (by decide) ⟨_, rfl, hq⟩
    · replace hq := hq.1 c6
      refine lv_iconst (v := 0) hx hb dX5_isAhead_14 (by decide) ?_
      exact r_zret C hr hlk hw dX5_isAhead_15 (by decide) (by decide) (by decide) ⟨_, rfl, hq⟩

def bd_X5_placeOf_4 (g : Gh) (M0 : Mem) (a0 : Nat) (p1 : Int32) (post : Int32 → Mem → Prop)  (bk4 : Int32 × Int32 × Mem → Prop) (x2 : Int32) (x3 : Int32)  (M : Mem) : Prop :=
  ((12 ≤ x3) → post x2 M) ∧ (¬ (12 ≤ x3) → ((x3 = p1) → bk4 (x2, (x3 + 1), M)) ∧ (¬ (x3 = p1) → wp_X5_isAhead g M a0 x3 p1 (fun v3 M4 => ((v3 = 0) → bk4 (x2, (x3 + 1), M4)) ∧ (¬ (v3 = 0) → bk4 ((x2 + 1), (x3 + 1), M4)))))
def wp_X5_placeOf (g : Gh) (M0 : Mem) (a0 : Nat) (p1 : Int32) (post : Int32 → Mem → Prop) : Prop :=
  okc (gB g) M0 a0 5 ∧ ((∃ n : Nat, lfp (fun bk z => bd_X5_placeOf_4 g M0 a0 p1 post  bk z.1 z.2.1 z.2.2) n (0, 0, M0)))
set_option maxHeartbeats 4000000 in
set_option maxRecDepth 100000 in
theorem lp_X5_placeOf_4 {l : Launch} {g : Gh} {p : Program} {e : Env} {s : State} {m : MethodId} {args : Array Value} {below : List Frame} {meth : Method} {c : Code} {M0 : Mem} {a0 : Nat} {p1 : Int32} {post : Int32 → Mem → Prop} (C : Cx g p s m args c cX5_placeOf 4 RX5) (hr : meth.sig.returnType = (some .int)) (hlk : meth.locks = false) (hn : meth.name = "placeOf") (h0 : okc (gB g) M0 a0 5)  : ∀ (nf : Nat) (x2 : Int32) (x3 : Int32)  (M : Mem) (H : Heap) (locs : List Loc) (ls : Array Slot), lfp (fun bk z => bd_X5_placeOf_4 g M0 a0 p1 post  bk z.1 z.2.1 z.2.2) nf (x2, x3, M) → Wd g s M0 M H locs → lv_has ls 4 [(0, .ref a0), (1, .int p1), (2, .int x2), (3, .int x3)] → W p l e (rmo 2 0 0) s m args below meth c H locs 0 0 (MQ below (Cq g M0 (pI post)) args s 0 0 (gA g)) (F0 m 4 ls []) := by
  have hx := C.1.1
  have hb := C.1.2.1
  intro nf
  induction nf with
  | zero => intro _ _ _ H locs ls hq; exact hq.elim
  | succ nf hk4 =>
    intro x2 x3 M H locs ls hq hw hl
    replace hq : bd_X5_placeOf_4 g M0 a0 p1 post  (lfp (fun bk z => bd_X5_placeOf_4 g M0 a0 p1 post  bk z.1 z.2.1 z.2.2) nf) x2 x3 M := hq
    unfold bd_X5_placeOf_4 at hq
    refine lv_iload_n hx hb dX5_placeOf_4 rfl (lv_at hl 3 rfl) ?_
    refine lv_bipush (v := 12) hx hb dX5_placeOf_5 (by decide) ?_
    refine lv_icmp_ge (tgt := 33) hx hb dX5_placeOf_7 (by decide) (fun c1 => ?_) (fun c1 => ?_)
    · replace hq := hq.1 c1
      refine lv_iload_n hx hb dX5_placeOf_33 rfl (lv_at hl 2 rfl) ?_
      exact r_iret C hr hlk hw dX5_placeOf_34 (by decide) (by decide) ⟨_, rfl, hq⟩
    · replace hq := hq.2 c1
      refine lv_iload_n hx hb dX5_placeOf_10 rfl (lv_at hl 3 rfl) ?_
      refine lv_iload_n hx hb dX5_placeOf_11 rfl (lv_at hl 1 rfl) ?_
      refine lv_icmp_eq (tgt := 27) hx hb dX5_placeOf_12 (by decide) (fun c2 => ?_) (fun c2 => ?_)
      · replace hq := hq.1 c2
        refine lv_iinc (v := (x3 + 1)) (lv' := [(3, .int (x3 + 1)), (0, .ref a0), (1, .int p1), (2, .int x2)]) hx hb dX5_placeOf_27 hl (k := 3) rfl rfl (by decide) rfl (fun ls hl => ?_)
        refine lv_goto (tgt := 4) hx hb dX5_placeOf_30 (by decide) ?_
        exact hk4 _ _ _ _ _ _ hq hw (lv_sub hl [1, 2, 3, 0] rfl)
      · replace hq := hq.2 c2
        refine lv_aload_n hx hb dX5_placeOf_15 rfl (lv_at hl 0 rfl) ?_
        refine lv_iload_n hx hb dX5_placeOf_16 rfl (lv_at hl 3 rfl) ?_
        refine lv_iload_n hx hb dX5_placeOf_17 rfl (lv_at hl 1 rfl) ?_
        refine r_callV (T := TX5) (N := 5) (ci := 5) (index := 40) (n := 2) (d2 := 1) (mc := 0) (ms := 0) (As := [.int x3, .int p1]) (rest := []) C hw (ct_X5_isAhead hq) kvX5_40 hq.1 (by decide) rfl ⟨by decide, by decide⟩ ⟨by decide, by decide⟩ rfl hl.1 rfl (Nat.le_of_ble_eq_true rfl) dX5_placeOf_18 (fun r M4 H locs hp hle hw => ?_)
        obtain ⟨v3, rfl, hq⟩ := hp
        refine W.eq (g2 := F0 m 21 ls [.int v3]) rfl ?_
        refine lv_if_eq (tgt := 27) hx hb dX5_placeOf_21 (by decide) (fun c5 => ?_) (fun c5 => ?_)
        · replace hq := hq.1 c5
          refine lv_iinc (v := (x3 + 1)) (lv' := [(3, .int (x3 + 1)), (0, .ref a0), (1, .int p1), (2, .int x2)]) hx hb dX5_placeOf_27 hl (k := 3) rfl rfl (by decide) rfl (fun ls hl => ?_)
          refine lv_goto (tgt := 4) hx hb dX5_placeOf_30 (by decide) ?_
          exact hk4 _ _ _ _ _ _ hq hw (lv_sub hl [1, 2, 3, 0] rfl)
        · replace hq := hq.2 c5
          refine lv_iinc (v := (x2 + 1)) (lv' := [(2, .int (x2 + 1)), (0, .ref a0), (1, .int p1), (3, .int x3)]) hx hb dX5_placeOf_24 hl (k := 2) rfl rfl (by decide) rfl (fun ls hl => ?_)
          refine lv_iinc (v := (x3 + 1)) (lv' := [(3, .int (x3 + 1)), (2, .int (x2 + 1)), (0, .ref a0), (1, .int p1)]) hx hb dX5_placeOf_27 hl (k := 3) rfl rfl (by decide) rfl (fun ls hl => ?_)
          refine lv_goto (tgt := 4) hx hb dX5_placeOf_30 (by decide) ?_
          exact hk4 _ _ _ _ _ _ hq hw (lv_sub hl [2, 3, 1, 0] rfl)
set_option maxHeartbeats 4000000 in
set_option maxRecDepth 100000 in
theorem ct_X5_placeOf {l : Launch} {g : Gh} {M0 : Mem} {a0 : Nat} {p1 : Int32} {post : Int32 → Mem → Prop} (hq : wp_X5_placeOf g M0 a0 p1 post) : Ct l g yX5_placeOf cX5_placeOf 4 (some .int) 2 0 0 [.ref a0, .int p1] M0 (pI post) := by
  unfold wp_X5_placeOf at hq
  obtain ⟨h0, hq⟩ := hq
  refine Ct.of (by decide) (Nat.le_of_ble_eq_true rfl) ?_
  intro p e s m below meth c ls C hr hlk hn hl hw
  have hx := C.1.1
  have hb := C.1.2.1
  have hl : lv_has ls 4 [(0, .ref a0), (1, .int p1)] := hl
  refine lv_iconst (v := 0) hx hb dX5_placeOf_0 (by decide) ?_
  refine lv_istore_n (lv' := [(2, .int 0), (0, .ref a0), (1, .int p1)]) hx hb dX5_placeOf_1 rfl hl (by decide) rfl (fun ls hl => ?_)
  refine lv_iconst (v := 0) hx hb dX5_placeOf_2 (by decide) ?_
  refine lv_istore_n (lv' := [(3, .int 0), (2, .int 0), (0, .ref a0), (1, .int p1)]) hx hb dX5_placeOf_3 rfl hl (by decide) rfl (fun ls hl => ?_)
  obtain ⟨nf, hq⟩ := hq
  exact lp_X5_placeOf_4 C hr hlk hn h0  nf _ _ _ _ _ _ hq hw (lv_sub hl [2, 3, 1, 0] rfl)

def bd_X5_teamAt_2 (g : Gh) (M0 : Mem) (a0 : Nat) (p1 : Int32) (post : Int32 → Mem → Prop)  (bk2 : Int32 × Mem → Prop) (x2 : Int32)  (M : Mem) : Prop :=
  ((12 ≤ x2) → post (-1) M) ∧ (¬ (12 ≤ x2) → wp_X5_placeOf g M a0 x2 (fun v2 M3 => ((v2 = p1) → post x2 M3) ∧ (¬ (v2 = p1) → bk2 ((x2 + 1), M3))))
def wp_X5_teamAt (g : Gh) (M0 : Mem) (a0 : Nat) (p1 : Int32) (post : Int32 → Mem → Prop) : Prop :=
  okc (gB g) M0 a0 5 ∧ ((∃ n : Nat, lfp (fun bk z => bd_X5_teamAt_2 g M0 a0 p1 post  bk z.1 z.2) n (0, M0)))
set_option maxHeartbeats 4000000 in
set_option maxRecDepth 100000 in
theorem lp_X5_teamAt_2 {l : Launch} {g : Gh} {p : Program} {e : Env} {s : State} {m : MethodId} {args : Array Value} {below : List Frame} {meth : Method} {c : Code} {M0 : Mem} {a0 : Nat} {p1 : Int32} {post : Int32 → Mem → Prop} (C : Cx g p s m args c cX5_teamAt 3 RX5) (hr : meth.sig.returnType = (some .int)) (hlk : meth.locks = false) (hn : meth.name = "teamAt") (h0 : okc (gB g) M0 a0 5)  : ∀ (nf : Nat) (x2 : Int32)  (M : Mem) (H : Heap) (locs : List Loc) (ls : Array Slot), lfp (fun bk z => bd_X5_teamAt_2 g M0 a0 p1 post  bk z.1 z.2) nf (x2, M) → Wd g s M0 M H locs → lv_has ls 3 [(0, .ref a0), (1, .int p1), (2, .int x2)] → W p l e (rmo 3 0 0) s m args below meth c H locs 0 0 (MQ below (Cq g M0 (pI post)) args s 0 0 (gA g)) (F0 m 2 ls []) := by
  have hx := C.1.1
  have hb := C.1.2.1
  intro nf
  induction nf with
  | zero => intro _ _ H locs ls hq; exact hq.elim
  | succ nf hk2 =>
    intro x2 M H locs ls hq hw hl
    replace hq : bd_X5_teamAt_2 g M0 a0 p1 post  (lfp (fun bk z => bd_X5_teamAt_2 g M0 a0 p1 post  bk z.1 z.2) nf) x2 M := hq
    unfold bd_X5_teamAt_2 at hq
    refine lv_iload_n hx hb dX5_teamAt_2 rfl (lv_at hl 2 rfl) ?_
    refine lv_bipush (v := 12) hx hb dX5_teamAt_3 (by decide) ?_
    refine lv_icmp_ge (tgt := 25) hx hb dX5_teamAt_5 (by decide) (fun c1 => ?_) (fun c1 => ?_)
    · replace hq := hq.1 c1
      refine lv_iconst (v := (-1)) hx hb dX5_teamAt_25 (by decide) ?_
      exact r_iret C hr hlk hw dX5_teamAt_26 (by decide) (by decide) ⟨_, rfl, hq⟩
    · replace hq := hq.2 c1
      refine lv_aload_n hx hb dX5_teamAt_8 rfl (lv_at hl 0 rfl) ?_
      refine lv_iload_n hx hb dX5_teamAt_9 rfl (lv_at hl 2 rfl) ?_
      refine r_callV (T := TX5) (N := 5) (ci := 5) (index := 32) (n := 1) (d2 := 2) (mc := 0) (ms := 0) (As := [.int x2]) (rest := []) C hw (ct_X5_placeOf hq) kvX5_32 hq.1 (by decide) rfl ⟨by decide, by decide⟩ ⟨by decide, by decide⟩ rfl hl.1 rfl (Nat.le_of_ble_eq_true rfl) dX5_teamAt_10 (fun r M3 H locs hp hle hw => ?_)
      obtain ⟨v2, rfl, hq⟩ := hp
      refine W.eq (g2 := F0 m 13 ls [.int v2]) rfl ?_
      refine lv_iload_n hx hb dX5_teamAt_13 rfl (lv_at hl 1 rfl) ?_
      refine lv_icmp_ne (tgt := 19) hx hb dX5_teamAt_14 (by decide) (fun c4 => ?_) (fun c4 => ?_)
      · replace hq := hq.2 c4
        refine lv_iinc (v := (x2 + 1)) (lv' := [(2, .int (x2 + 1)), (0, .ref a0), (1, .int p1)]) hx hb dX5_teamAt_19 hl (k := 2) rfl rfl (by decide) rfl (fun ls hl => ?_)
        refine lv_goto (tgt := 2) hx hb dX5_teamAt_22 (by decide) ?_
        exact hk2 _ _ _ _ _ hq hw (lv_sub hl [1, 2, 0] rfl)
      · replace hq := hq.1 c4
        refine lv_iload_n hx hb dX5_teamAt_17 rfl (lv_at hl 2 rfl) ?_
        exact r_iret C hr hlk hw dX5_teamAt_18 (by decide) (by decide) ⟨_, rfl, hq⟩
set_option maxHeartbeats 4000000 in
set_option maxRecDepth 100000 in
theorem ct_X5_teamAt {l : Launch} {g : Gh} {M0 : Mem} {a0 : Nat} {p1 : Int32} {post : Int32 → Mem → Prop} (hq : wp_X5_teamAt g M0 a0 p1 post) : Ct l g yX5_teamAt cX5_teamAt 3 (some .int) 3 0 0 [.ref a0, .int p1] M0 (pI post) := by
  unfold wp_X5_teamAt at hq
  obtain ⟨h0, hq⟩ := hq
  refine Ct.of (by decide) (Nat.le_of_ble_eq_true rfl) ?_
  intro p e s m below meth c ls C hr hlk hn hl hw
  have hx := C.1.1
  have hb := C.1.2.1
  have hl : lv_has ls 3 [(0, .ref a0), (1, .int p1)] := hl
  refine lv_iconst (v := 0) hx hb dX5_teamAt_0 (by decide) ?_
  refine lv_istore_n (lv' := [(2, .int 0), (0, .ref a0), (1, .int p1)]) hx hb dX5_teamAt_1 rfl hl (by decide) rfl (fun ls hl => ?_)
  obtain ⟨nf, hq⟩ := hq
  exact lp_X5_teamAt_2 C hr hlk hn h0  nf _ _ _ _ _ hq hw (lv_sub hl [1, 2, 0] rfl)

def wp_X5_tell (g : Gh) (M0 : Mem) (a0 : Nat) (p1 : Int32) (p2 : Int32) (post : Int32 → Mem → Prop) : Prop :=
  okc (gB g) M0 a0 5 ∧ (wp_X11_isTeam g M0 p1 (fun v1 M2 => ((v1 = 0) → post (-1) M2) ∧ (¬ (v1 = 0) → ((p2 = 0) → post p1 M2) ∧ ((p2 = 1) → ∃ q5, mR M2 a0 0 = some q5 ∧ (okc (gB g) M0 q5 14 ∧ (vp_in p1 (mN M0 q5) ∧ (post (mI M2 q5 (Int32.toNatClampNeg p1)) M2)))) ∧ ((p2 = 2) → ∃ q9, mR M2 a0 1 = some q9 ∧ (okc (gB g) M0 q9 14 ∧ (vp_in p1 (mN M0 q9) ∧ (post (mI M2 q9 (Int32.toNatClampNeg p1)) M2)))) ∧ ((p2 = 3) → ∃ q13, mR M2 a0 2 = some q13 ∧ (okc (gB g) M0 q13 14 ∧ (vp_in p1 (mN M0 q13) ∧ (post (mI M2 q13 (Int32.toNatClampNeg p1)) M2)))) ∧ ((p2 = 4) → ∃ q17, mR M2 a0 3 = some q17 ∧ (okc (gB g) M0 q17 14 ∧ (vp_in p1 (mN M0 q17) ∧ (post (mI M2 q17 (Int32.toNatClampNeg p1)) M2)))) ∧ ((¬ (p2 = 0) ∧ ¬ (p2 = 1) ∧ ¬ (p2 = 2) ∧ ¬ (p2 = 3) ∧ ¬ (p2 = 4)) → post (-1) M2))))
set_option maxHeartbeats 4000000 in
set_option maxRecDepth 100000 in
theorem ct_X5_tell {l : Launch} {g : Gh} {M0 : Mem} {a0 : Nat} {p1 : Int32} {p2 : Int32} {post : Int32 → Mem → Prop} (hq : wp_X5_tell g M0 a0 p1 p2 post) : Ct l g yX5_tell cX5_tell 3 (some .int) 1 0 0 [.ref a0, .int p1, .int p2] M0 (pI post) := by
  unfold wp_X5_tell at hq
  obtain ⟨h0, hq⟩ := hq
  refine Ct.of (by decide) (Nat.le_of_ble_eq_true rfl) ?_
  intro p e s m below meth c ls C hr hlk hn hl hw
  have hx := C.1.1
  have hb := C.1.2.1
  have hl : lv_has ls 3 [(0, .ref a0), (1, .int p1), (2, .int p2)] := hl
  refine lv_iload_n hx hb dX5_tell_0 rfl (lv_at hl 1 rfl) ?_
  refine r_callSN (index := 36) (n := 1) (d2 := 0) (mc := 0) (ms := 0) (As := [.int p1]) (rest := []) C hw (ct_X11_isTeam hq) ksX5_36 ⟨by decide, by decide⟩ ⟨by decide, by decide⟩ rfl hl.1 rfl (Nat.le_of_ble_eq_true rfl) dX5_tell_1 (fun r M2 H locs hp hle hw => ?_)
  obtain ⟨v1, rfl, hq⟩ := hp
  refine W.eq (g2 := F0 m 4 ls [.int v1]) rfl ?_
  refine lv_if_ne (tgt := 9) hx hb dX5_tell_4 (by decide) (fun c3 => ?_) (fun c3 => ?_)
  · replace hq := hq.2 c3
    refine lv_iload_n hx hb dX5_tell_9 rfl (lv_at hl 2 rfl) ?_
    by_cases c21 : p2 = 0
    · refine r_table (v := 0) (off := 34) (tgt := 44) hx hb dX5_tell_10 c21 (by decide) (by decide) rfl (by decide) ?_
      replace hq := hq.1 c21
      refine lv_iload_n hx hb dX5_tell_44 rfl (lv_at hl 1 rfl) ?_
      exact r_iret C hr hlk hw dX5_tell_45 (by decide) (by decide) ⟨_, rfl, hq⟩
    by_cases c22 : p2 = 1
    · refine r_table (v := 1) (off := 36) (tgt := 46) hx hb dX5_tell_10 c22 (by decide) (by decide) rfl (by decide) ?_
      replace hq := hq.2.1 c22
      refine lv_aload_n hx hb dX5_tell_46 rfl (lv_at hl 0 rfl) ?_
      obtain ⟨q5, e6, hq⟩ := hq
      refine gfX5_9 C hw hw.2.2.1 h0 e6 dX5_tell_47 ?_
      refine lv_iload_n hx hb dX5_tell_50 rfl (lv_at hl 1 rfl) ?_
      obtain ⟨h7, hq⟩ := hq
      obtain ⟨h8, hq⟩ := hq
      refine q_iald C hw hw.2.2.1 h7 h8 dX5_tell_51 ?_
      exact r_iret C hr hlk hw dX5_tell_52 (by decide) (by decide) ⟨_, rfl, hq⟩
    by_cases c23 : p2 = 2
    · refine r_table (v := 2) (off := 43) (tgt := 53) hx hb dX5_tell_10 c23 (by decide) (by decide) rfl (by decide) ?_
      replace hq := hq.2.2.1 c23
      refine lv_aload_n hx hb dX5_tell_53 rfl (lv_at hl 0 rfl) ?_
      obtain ⟨q9, e10, hq⟩ := hq
      refine gfX5_15 C hw hw.2.2.1 h0 e10 dX5_tell_54 ?_
      refine lv_iload_n hx hb dX5_tell_57 rfl (lv_at hl 1 rfl) ?_
      obtain ⟨h11, hq⟩ := hq
      obtain ⟨h12, hq⟩ := hq
      refine q_iald C hw hw.2.2.1 h11 h12 dX5_tell_58 ?_
      exact r_iret C hr hlk hw dX5_tell_59 (by decide) (by decide) ⟨_, rfl, hq⟩
    by_cases c24 : p2 = 3
    · refine r_table (v := 3) (off := 50) (tgt := 60) hx hb dX5_tell_10 c24 (by decide) (by decide) rfl (by decide) ?_
      replace hq := hq.2.2.2.1 c24
      refine lv_aload_n hx hb dX5_tell_60 rfl (lv_at hl 0 rfl) ?_
      obtain ⟨q13, e14, hq⟩ := hq
      refine gfX5_18 C hw hw.2.2.1 h0 e14 dX5_tell_61 ?_
      refine lv_iload_n hx hb dX5_tell_64 rfl (lv_at hl 1 rfl) ?_
      obtain ⟨h15, hq⟩ := hq
      obtain ⟨h16, hq⟩ := hq
      refine q_iald C hw hw.2.2.1 h15 h16 dX5_tell_65 ?_
      exact r_iret C hr hlk hw dX5_tell_66 (by decide) (by decide) ⟨_, rfl, hq⟩
    by_cases c25 : p2 = 4
    · refine r_table (v := 4) (off := 57) (tgt := 67) hx hb dX5_tell_10 c25 (by decide) (by decide) rfl (by decide) ?_
      replace hq := hq.2.2.2.2.1 c25
      refine lv_aload_n hx hb dX5_tell_67 rfl (lv_at hl 0 rfl) ?_
      obtain ⟨q17, e18, hq⟩ := hq
      refine gfX5_21 C hw hw.2.2.1 h0 e18 dX5_tell_68 ?_
      refine lv_iload_n hx hb dX5_tell_71 rfl (lv_at hl 1 rfl) ?_
      obtain ⟨h19, hq⟩ := hq
      obtain ⟨h20, hq⟩ := hq
      refine q_iald C hw hw.2.2.1 h19 h20 dX5_tell_72 ?_
      exact r_iret C hr hlk hw dX5_tell_73 (by decide) (by decide) ⟨_, rfl, hq⟩
    refine r_tableOut (tgt := 74) (k := 4) hx hb dX5_tell_10 (by decide) (fun j hj => by rcases (show j = 0 ∨ j = 1 ∨ j = 2 ∨ j = 3 ∨ j = 4 by omega) with rfl | rfl | rfl | rfl | rfl <;> assumption) (by decide) ?_
    replace hq := hq.2.2.2.2.2 ⟨c21, c22, c23, c24, c25⟩
    refine lv_iconst (v := (-1)) hx hb dX5_tell_74 (by decide) ?_
    exact r_iret C hr hlk hw dX5_tell_75 (by decide) (by decide) ⟨_, rfl, hq⟩
  · replace hq := hq.1 c3
    refine lv_iconst (v := (-1)) hx hb dX5_tell_7 (by decide) ?_
    exact r_iret C hr hlk hw dX5_tell_8 (by decide) (by decide) ⟨_, rfl, hq⟩

def wp_X6_isOver (g : Gh) (M0 : Mem) (a0 : Nat) (post : Int32 → Mem → Prop) : Prop :=
  okc (gB g) M0 a0 6 ∧ (∃ q1, mR M0 a0 1 = some q1 ∧ (okc (gB g) M0 q1 4 ∧ ((((mI M0 a0 5) < (mI M0 q1 1)) → post 0 M0) ∧ (¬ ((mI M0 a0 5) < (mI M0 q1 1)) → post 1 M0))))
set_option maxHeartbeats 4000000 in
set_option maxRecDepth 100000 in
theorem ct_X6_isOver {l : Launch} {g : Gh} {M0 : Mem} {a0 : Nat} {post : Int32 → Mem → Prop} (hq : wp_X6_isOver g M0 a0 post) : Ct l g yX6_isOver cX6_isOver 1 (some .boolean) 0 0 0 [.ref a0] M0 (pI post) := by
  unfold wp_X6_isOver at hq
  obtain ⟨h0, hq⟩ := hq
  refine Ct.of (by decide) (Nat.le_of_ble_eq_true rfl) ?_
  intro p e s m below meth c ls C hr hlk hn hl hw
  have hx := C.1.1
  have hb := C.1.2.1
  have hl : lv_has ls 1 [(0, .ref a0)] := hl
  refine lv_aload_n hx hb dX6_isOver_0 rfl (lv_at hl 0 rfl) ?_
  refine gfX6_37 C hw hw.2.2.1 h0 dX6_isOver_1 ?_
  refine lv_aload_n hx hb dX6_isOver_4 rfl (lv_at hl 0 rfl) ?_
  obtain ⟨q1, e2, hq⟩ := hq
  refine gfX6_15 C hw hw.2.2.1 h0 e2 dX6_isOver_5 ?_
  obtain ⟨h3, hq⟩ := hq
  refine gfX6_40 C hw hw.2.2.1 h3 dX6_isOver_8 ?_
  refine lv_icmp_lt (tgt := 18) hx hb dX6_isOver_11 (by decide) (fun c4 => ?_) (fun c4 => ?_)
  · replace hq := hq.1 c4
    refine lv_iconst (v := 0) hx hb dX6_isOver_18 (by decide) ?_
    exact r_zret C hr hlk hw dX6_isOver_19 (by decide) (by decide) (by decide) ⟨_, rfl, hq⟩
  · replace hq := hq.2 c4
    refine lv_iconst (v := 1) hx hb dX6_isOver_14 (by decide) ?_
    refine lv_goto (tgt := 19) hx hb dX6_isOver_15 (by decide) ?_
    exact r_zret C hr hlk hw dX6_isOver_19 (by decide) (by decide) (by decide) ⟨_, rfl, hq⟩

def wp_X6_isBuzz (g : Gh) (M0 : Mem) (a0 : Nat) (post : Int32 → Mem → Prop) : Prop :=
  okc (gB g) M0 a0 6 ∧ (∃ q1, mR M0 a0 1 = some q1 ∧ (wp_X4_roundOf g M0 q1 (mI M0 a0 5) (fun v3 M4 => ((v3 < 0) → post 0 M4) ∧ (¬ (v3 < 0) → ((6 ≤ v3) → post 0 M4) ∧ (¬ (6 ≤ v3) → ∃ q7, mR M4 a0 1 = some q7 ∧ (okc (gB g) M0 q7 4 ∧ (∃ q10, mR M4 q7 3 = some q10 ∧ (okc (gB g) M0 q10 17 ∧ (vp_in v3 (mN M0 q10) ∧ ((((mI M4 q10 (Int32.toNatClampNeg v3)) = 0) → post 0 M4) ∧ (¬ ((mI M4 q10 (Int32.toNatClampNeg v3)) = 0) → post 1 M4)))))))))))
set_option maxHeartbeats 4000000 in
set_option maxRecDepth 100000 in
theorem ct_X6_isBuzz {l : Launch} {g : Gh} {M0 : Mem} {a0 : Nat} {post : Int32 → Mem → Prop} (hq : wp_X6_isBuzz g M0 a0 post) : Ct l g yX6_isBuzz cX6_isBuzz 2 (some .boolean) 1 0 0 [.ref a0] M0 (pI post) := by
  unfold wp_X6_isBuzz at hq
  obtain ⟨h0, hq⟩ := hq
  refine Ct.of (by decide) (Nat.le_of_ble_eq_true rfl) ?_
  intro p e s m below meth c ls C hr hlk hn hl hw
  have hx := C.1.1
  have hb := C.1.2.1
  have hl : lv_has ls 2 [(0, .ref a0)] := hl
  refine lv_aload_n hx hb dX6_isBuzz_0 rfl (lv_at hl 0 rfl) ?_
  obtain ⟨q1, e2, hq⟩ := hq
  refine gfX6_15 C hw hw.2.2.1 h0 e2 dX6_isBuzz_1 ?_
  refine lv_aload_n hx hb dX6_isBuzz_4 rfl (lv_at hl 0 rfl) ?_
  refine gfX6_37 C hw hw.2.2.1 h0 dX6_isBuzz_5 ?_
  refine r_callV (T := TX4) (N := 9) (ci := 4) (index := 106) (n := 1) (d2 := 0) (mc := 0) (ms := 0) (As := [.int (mI M0 a0 5)]) (rest := []) C hw (ct_X4_roundOf hq) kvX6_106 hq.1 (by decide) rfl ⟨by decide, by decide⟩ ⟨by decide, by decide⟩ rfl hl.1 rfl (Nat.le_of_ble_eq_true rfl) dX6_isBuzz_8 (fun r M4 H locs hp hle hw => ?_)
  obtain ⟨v3, rfl, hq⟩ := hp
  refine W.eq (g2 := F0 m 11 ls [.int v3]) rfl ?_
  refine lv_istore_n (lv' := [(1, .int v3), (0, .ref a0)]) hx hb dX6_isBuzz_11 rfl hl (by decide) rfl (fun ls hl => ?_)
  refine lv_iload_n hx hb dX6_isBuzz_12 rfl (lv_at hl 0 rfl) ?_
  refine lv_if_lt (tgt := 38) hx hb dX6_isBuzz_13 (by decide) (fun c5 => ?_) (fun c5 => ?_)
  · replace hq := hq.1 c5
    refine lv_iconst (v := 0) hx hb dX6_isBuzz_38 (by decide) ?_
    exact r_zret C hr hlk hw dX6_isBuzz_39 (by decide) (by decide) (by decide) ⟨_, rfl, hq⟩
  · replace hq := hq.2 c5
    refine lv_iload_n hx hb dX6_isBuzz_16 rfl (lv_at hl 0 rfl) ?_
    refine lv_bipush (v := 6) hx hb dX6_isBuzz_17 (by decide) ?_
    refine lv_icmp_ge (tgt := 38) hx hb dX6_isBuzz_19 (by decide) (fun c6 => ?_) (fun c6 => ?_)
    · replace hq := hq.1 c6
      refine lv_iconst (v := 0) hx hb dX6_isBuzz_38 (by decide) ?_
      exact r_zret C hr hlk hw dX6_isBuzz_39 (by decide) (by decide) (by decide) ⟨_, rfl, hq⟩
    · replace hq := hq.2 c6
      refine lv_aload_n hx hb dX6_isBuzz_22 rfl (lv_at hl 1 rfl) ?_
      obtain ⟨q7, e8, hq⟩ := hq
      refine gfX6_15 C hw hw.2.2.1 h0 e8 dX6_isBuzz_23 ?_
      obtain ⟨h9, hq⟩ := hq
      obtain ⟨q10, e11, hq⟩ := hq
      refine gfX6_121 C hw hw.2.2.1 h9 e11 dX6_isBuzz_26 ?_
      refine lv_iload_n hx hb dX6_isBuzz_29 rfl (lv_at hl 0 rfl) ?_
      obtain ⟨h12, hq⟩ := hq
      obtain ⟨h13, hq⟩ := hq
      refine q_zald C hw hw.2.2.1 h12 h13 dX6_isBuzz_30 ?_
      refine lv_if_eq (tgt := 38) hx hb dX6_isBuzz_31 (by decide) (fun c14 => ?_) (fun c14 => ?_)
      · replace hq := hq.1 c14
        refine lv_iconst (v := 0) hx hb dX6_isBuzz_38 (by decide) ?_
        exact r_zret C hr hlk hw dX6_isBuzz_39 (by decide) (by decide) (by decide) ⟨_, rfl, hq⟩
      · replace hq := hq.2 c14
        refine lv_iconst (v := 1) hx hb dX6_isBuzz_34 (by decide) ?_
        refine lv_goto (tgt := 39) hx hb dX6_isBuzz_35 (by decide) ?_
        exact r_zret C hr hlk hw dX6_isBuzz_39 (by decide) (by decide) (by decide) ⟨_, rfl, hq⟩

def wp_X6_goTo (g : Gh) (M0 : Mem) (a0 : Nat) (p1 : Int32) (post : Mem → Prop) : Prop :=
  okc (gB g) M0 a0 6 ∧ (∀ M1, M1 = uI M0 a0 5 p1 → (∀ M3, M3 = uI M1 a0 7 0 → (wp_X6_isOver g M3 a0 (fun v5 M6 => ((v5 = 0) → wp_X6_isBuzz g M6 a0 (fun v8 M9 => ((v8 = 0) → ∀ M11, M11 = uI M9 a0 6 (p1 - p1 / 2 * 2) → (post M11)) ∧ (¬ (v8 = 0) → ∀ M13, M13 = uI M9 a0 6 2 → (post M13)))) ∧ (¬ (v5 = 0) → ∀ M15, M15 = uI M6 a0 6 3 → (post M15))))))
set_option maxHeartbeats 4000000 in
set_option maxRecDepth 100000 in
theorem ct_X6_goTo {l : Launch} {g : Gh} {M0 : Mem} {a0 : Nat} {p1 : Int32} {post : Mem → Prop} (hq : wp_X6_goTo g M0 a0 p1 post) : Ct l g yX6_goTo cX6_goTo 2 none 2 0 0 [.ref a0, .int p1] M0 (pV post) := by
  unfold wp_X6_goTo at hq
  obtain ⟨h0, hq⟩ := hq
  refine Ct.of (by decide) (Nat.le_of_ble_eq_true rfl) ?_
  intro p e s m below meth c ls C hr hlk hn hl hw
  have hx := C.1.1
  have hb := C.1.2.1
  have hl : lv_has ls 2 [(0, .ref a0), (1, .int p1)] := hl
  refine lv_aload_n hx hb dX6_goTo_0 rfl (lv_at hl 0 rfl) ?_
  refine lv_iload_n hx hb dX6_goTo_1 rfl (lv_at hl 1 rfl) ?_
  refine pfX6_37 C hw hw.2.2.1 h0 dX6_goTo_2 (fun H locs hw => ?_)
  generalize e2 : uI M0 a0 5 p1 = M1 at hw
  replace hq := hq M1 e2.symm
  refine lv_aload_n hx hb dX6_goTo_5 rfl (lv_at hl 0 rfl) ?_
  refine lv_iconst (v := 0) hx hb dX6_goTo_6 (by decide) ?_
  refine pfX6_93 C hw hw.2.2.1 h0 (by decide) dX6_goTo_7 (fun H locs hw => ?_)
  generalize e4 : uI M1 a0 7 0 = M3 at hw
  replace hq := hq M3 e4.symm
  refine lv_aload_n hx hb dX6_goTo_10 rfl (lv_at hl 0 rfl) ?_
  refine r_callV (T := TX6) (N := 9) (ci := 6) (index := 45) (n := 0) (d2 := 0) (mc := 0) (ms := 0) (As := []) (rest := []) C hw (ct_X6_isOver hq) kvX6_45 hq.1 (by decide) rfl ⟨by decide, by decide⟩ ⟨by decide, by decide⟩ rfl hl.1 rfl (Nat.le_of_ble_eq_true rfl) dX6_goTo_11 (fun r M6 H locs hp hle hw => ?_)
  obtain ⟨v5, rfl, hq⟩ := hp
  refine W.eq (g2 := F0 m 14 ls [.int v5]) rfl ?_
  refine lv_if_eq (tgt := 25) hx hb dX6_goTo_14 (by decide) (fun c7 => ?_) (fun c7 => ?_)
  · replace hq := hq.1 c7
    refine lv_aload_n hx hb dX6_goTo_25 rfl (lv_at hl 0 rfl) ?_
    refine lv_aload_n hx hb dX6_goTo_26 rfl (lv_at hl 0 rfl) ?_
    refine r_callV (T := TX6) (N := 9) (ci := 6) (index := 49) (n := 0) (d2 := 1) (mc := 0) (ms := 0) (As := []) (rest := [.ref a0]) C hw (ct_X6_isBuzz hq) kvX6_49 hq.1 (by decide) rfl ⟨by decide, by decide⟩ ⟨by decide, by decide⟩ rfl hl.1 rfl (Nat.le_of_ble_eq_true rfl) dX6_goTo_27 (fun r M9 H locs hp hle hw => ?_)
    obtain ⟨v8, rfl, hq⟩ := hp
    refine W.eq (g2 := F0 m 30 ls [.int v8, .ref a0]) rfl ?_
    refine lv_if_eq (tgt := 37) hx hb dX6_goTo_30 (by decide) (fun c10 => ?_) (fun c10 => ?_)
    · replace hq := hq.1 c10
      refine lv_iload_n hx hb dX6_goTo_37 rfl (lv_at hl 1 rfl) ?_
      refine lv_iconst (v := 2) hx hb dX6_goTo_38 (by decide) ?_
      refine lv_irem hx hb dX6_goTo_39 (by decide) ?_
      refine pfX6_79 C hw hw.2.2.1 h0 dX6_goTo_40 (fun H locs hw => ?_)
      generalize e12 : uI M9 a0 6 (p1 - p1 / 2 * 2) = M11 at hw
      replace hq := hq M11 e12.symm
      exact r_vret C hr hlk hw dX6_goTo_43 (by decide) (by decide) ⟨rfl, hq⟩
    · replace hq := hq.2 c10
      refine lv_iconst (v := 2) hx hb dX6_goTo_33 (by decide) ?_
      refine lv_goto (tgt := 40) hx hb dX6_goTo_34 (by decide) ?_
      refine pfX6_79 C hw hw.2.2.1 h0 dX6_goTo_40 (fun H locs hw => ?_)
      generalize e14 : uI M9 a0 6 2 = M13 at hw
      replace hq := hq M13 e14.symm
      exact r_vret C hr hlk hw dX6_goTo_43 (by decide) (by decide) ⟨rfl, hq⟩
  · replace hq := hq.2 c7
    refine lv_aload_n hx hb dX6_goTo_17 rfl (lv_at hl 0 rfl) ?_
    refine lv_iconst (v := 3) hx hb dX6_goTo_18 (by decide) ?_
    refine pfX6_79 C hw hw.2.2.1 h0 dX6_goTo_19 (fun H locs hw => ?_)
    generalize e16 : uI M6 a0 6 3 = M15 at hw
    replace hq := hq M15 e16.symm
    refine lv_goto (tgt := 43) hx hb dX6_goTo_22 (by decide) ?_
    exact r_vret C hr hlk hw dX6_goTo_43 (by decide) (by decide) ⟨rfl, hq⟩

def wp_X6_isFor (g : Gh) (M0 : Mem) (a0 : Nat) (p1 : Int32) (post : Int32 → Mem → Prop) : Prop :=
  okc (gB g) M0 a0 6 ∧ ((((mI M0 a0 6) = 2) → post 1 M0) ∧ (¬ ((mI M0 a0 6) = 2) → (((mI M0 a0 6) = p1) → post 1 M0) ∧ (¬ ((mI M0 a0 6) = p1) → post 0 M0)))
set_option maxHeartbeats 4000000 in
set_option maxRecDepth 100000 in
theorem ct_X6_isFor {l : Launch} {g : Gh} {M0 : Mem} {a0 : Nat} {p1 : Int32} {post : Int32 → Mem → Prop} (hq : wp_X6_isFor g M0 a0 p1 post) : Ct l g yX6_isFor cX6_isFor 2 (some .boolean) 0 0 0 [.ref a0, .int p1] M0 (pI post) := by
  unfold wp_X6_isFor at hq
  obtain ⟨h0, hq⟩ := hq
  refine Ct.of (by decide) (Nat.le_of_ble_eq_true rfl) ?_
  intro p e s m below meth c ls C hr hlk hn hl hw
  have hx := C.1.1
  have hb := C.1.2.1
  have hl : lv_has ls 2 [(0, .ref a0), (1, .int p1)] := hl
  refine lv_aload_n hx hb dX6_isFor_0 rfl (lv_at hl 0 rfl) ?_
  refine gfX6_79 C hw hw.2.2.1 h0 dX6_isFor_1 ?_
  refine lv_iconst (v := 2) hx hb dX6_isFor_4 (by decide) ?_
  refine lv_icmp_eq (tgt := 16) hx hb dX6_isFor_5 (by decide) (fun c1 => ?_) (fun c1 => ?_)
  · replace hq := hq.1 c1
    refine lv_iconst (v := 1) hx hb dX6_isFor_16 (by decide) ?_
    refine lv_goto (tgt := 21) hx hb dX6_isFor_17 (by decide) ?_
    exact r_zret C hr hlk hw dX6_isFor_21 (by decide) (by decide) (by decide) ⟨_, rfl, hq⟩
  · replace hq := hq.2 c1
    refine lv_aload_n hx hb dX6_isFor_8 rfl (lv_at hl 0 rfl) ?_
    refine gfX6_79 C hw hw.2.2.1 h0 dX6_isFor_9 ?_
    refine lv_iload_n hx hb dX6_isFor_12 rfl (lv_at hl 1 rfl) ?_
    refine lv_icmp_ne (tgt := 20) hx hb dX6_isFor_13 (by decide) (fun c2 => ?_) (fun c2 => ?_)
    · replace hq := hq.2 c2
      refine lv_iconst (v := 0) hx hb dX6_isFor_20 (by decide) ?_
      exact r_zret C hr hlk hw dX6_isFor_21 (by decide) (by decide) (by decide) ⟨_, rfl, hq⟩
    · replace hq := hq.1 c2
      refine lv_iconst (v := 1) hx hb dX6_isFor_16 (by decide) ?_
      refine lv_goto (tgt := 21) hx hb dX6_isFor_17 (by decide) ?_
      exact r_zret C hr hlk hw dX6_isFor_21 (by decide) (by decide) (by decide) ⟨_, rfl, hq⟩

def lb_X6_worthOf_50 (g : Gh) (M0 : Mem) (a0 : Nat) (a1 : Nat) (post : Int32 → Mem → Prop)  (x2 : Int32) (s0 : Int32) (M : Mem) : Prop :=
  okc (gB g) M0 a1 0 ∧ ((((mI M a1 3) = 0) → ((s0 = 0) → ∃ q4, mR M a0 1 = some q4 ∧ (okc (gB g) M0 q4 4 ∧ (∃ q7, mR M q4 6 = some q7 ∧ (okc (gB g) M0 q7 14 ∧ (vp_in x2 (mN M0 q7) ∧ (post (-(mI M q7 (Int32.toNatClampNeg x2))) M)))))) ∧ (¬ (s0 = 0) → post 0 M)) ∧ (¬ ((mI M a1 3) = 0) → ((s0 = 0) → ∃ q12, mR M a0 1 = some q12 ∧ (okc (gB g) M0 q12 4 ∧ (∃ q15, mR M q12 4 = some q15 ∧ (okc (gB g) M0 q15 14 ∧ (vp_in x2 (mN M0 q15) ∧ (post (mI M q15 (Int32.toNatClampNeg x2)) M)))))) ∧ (¬ (s0 = 0) → ∃ q19, mR M a0 1 = some q19 ∧ (okc (gB g) M0 q19 4 ∧ (∃ q22, mR M q19 5 = some q22 ∧ (okc (gB g) M0 q22 14 ∧ (vp_in x2 (mN M0 q22) ∧ (post (mI M q22 (Int32.toNatClampNeg x2)) M))))))))
def wp_X6_worthOf (g : Gh) (M0 : Mem) (a0 : Nat) (a1 : Nat) (post : Int32 → Mem → Prop) : Prop :=
  okc (gB g) M0 a0 6 ∧ (∃ q26, mR M0 a0 1 = some q26 ∧ (wp_X4_roundOf g M0 q26 (mI M0 a0 5) (fun v28 M29 => okc (gB g) M0 a1 0 ∧ ((((mI M29 a1 1) = 0) → ((v28 < 0) → post 0 M29) ∧ (¬ (v28 < 0) → ((v28 < 6) → (((mI M29 a0 7) = 0) → lb_X6_worthOf_50 g M0 a0 a1 post  v28 0 M29) ∧ (¬ ((mI M29 a0 7) = 0) → wp_X6_isBuzz g M29 a0 (fun v35 M36 => ((v35 = 0) → lb_X6_worthOf_50 g M0 a0 a1 post  v28 1 M36) ∧ (¬ (v35 = 0) → lb_X6_worthOf_50 g M0 a0 a1 post  v28 0 M36)))) ∧ (¬ (v28 < 6) → post 0 M29))) ∧ (¬ ((mI M29 a1 1) = 0) → post 0 M29)))))
set_option maxHeartbeats 4000000 in
set_option maxRecDepth 100000 in
theorem lt_X6_worthOf_50 {l : Launch} {g : Gh} {p : Program} {e : Env} {s : State} {m : MethodId} {args : Array Value} {below : List Frame} {meth : Method} {c : Code} {H : Heap} {locs : List Loc} {ls : Array Slot} {M0 M : Mem} {a0 : Nat} {a1 : Nat} {post : Int32 → Mem → Prop} {x2 : Int32} {s0 : Int32} (C : Cx g p s m args c cX6_worthOf 4 RX6) (hr : meth.sig.returnType = (some .int)) (hlk : meth.locks = false) (hn : meth.name = "worthOf") (h0 : okc (gB g) M0 a0 6)  (hq : lb_X6_worthOf_50 g M0 a0 a1 post  x2 s0 M) (hw : Wd g s M0 M H locs) (hl : lv_has ls 4 [(0, .ref a0), (1, .ref a1), (2, .int x2)]) : W p l e (rmo 2 0 0) s m args below meth c H locs 0 0 (MQ below (Cq g M0 (pI post)) args s 0 0 (gA g)) (F0 m 50 ls [.int s0]) := by
  have hx := C.1.1
  have hb := C.1.2.1
  unfold lb_X6_worthOf_50 at hq
  refine lv_istore_n (lv' := [(3, .int s0), (0, .ref a0), (1, .ref a1), (2, .int x2)]) hx hb dX6_worthOf_50 rfl hl (by decide) rfl (fun ls hl => ?_)
  refine lv_aload_n hx hb dX6_worthOf_51 rfl (lv_at hl 2 rfl) ?_
  obtain ⟨h1, hq⟩ := hq
  refine gfX6_65 C hw hw.2.2.1 h1 dX6_worthOf_52 ?_
  refine lv_if_eq (tgt := 84) hx hb dX6_worthOf_55 (by decide) (fun c2 => ?_) (fun c2 => ?_)
  · replace hq := hq.1 c2
    refine lv_iload_n hx hb dX6_worthOf_84 rfl (lv_at hl 0 rfl) ?_
    refine lv_if_eq (tgt := 92) hx hb dX6_worthOf_85 (by decide) (fun c3 => ?_) (fun c3 => ?_)
    · replace hq := hq.1 c3
      refine lv_aload_n hx hb dX6_worthOf_92 rfl (lv_at hl 1 rfl) ?_
      obtain ⟨q4, e5, hq⟩ := hq
      refine gfX6_15 C hw hw.2.2.1 h0 e5 dX6_worthOf_93 ?_
      obtain ⟨h6, hq⟩ := hq
      obtain ⟨q7, e8, hq⟩ := hq
      refine gfX6_115 C hw hw.2.2.1 h6 e8 dX6_worthOf_96 ?_
      refine lv_iload_n hx hb dX6_worthOf_99 rfl (lv_at hl 3 rfl) ?_
      obtain ⟨h9, hq⟩ := hq
      obtain ⟨h10, hq⟩ := hq
      refine q_iald C hw hw.2.2.1 h9 h10 dX6_worthOf_100 ?_
      refine lv_ineg hx hb dX6_worthOf_101 ?_
      exact r_iret C hr hlk hw dX6_worthOf_102 (by decide) (by decide) ⟨_, rfl, hq⟩
    · replace hq := hq.2 c3
      refine lv_iconst (v := 0) hx hb dX6_worthOf_88 (by decide) ?_
      refine lv_goto (tgt := 102) hx hb dX6_worthOf_89 (by decide) ?_
      exact r_iret C hr hlk hw dX6_worthOf_102 (by decide) (by decide) ⟨_, rfl, hq⟩
  · replace hq := hq.2 c2
    refine lv_iload_n hx hb dX6_worthOf_58 rfl (lv_at hl 0 rfl) ?_
    refine lv_if_eq (tgt := 74) hx hb dX6_worthOf_59 (by decide) (fun c11 => ?_) (fun c11 => ?_)
    · replace hq := hq.1 c11
      refine lv_aload_n hx hb dX6_worthOf_74 rfl (lv_at hl 1 rfl) ?_
      obtain ⟨q12, e13, hq⟩ := hq
      refine gfX6_15 C hw hw.2.2.1 h0 e13 dX6_worthOf_75 ?_
      obtain ⟨h14, hq⟩ := hq
      obtain ⟨q15, e16, hq⟩ := hq
      refine gfX6_112 C hw hw.2.2.1 h14 e16 dX6_worthOf_78 ?_
      refine lv_iload_n hx hb dX6_worthOf_81 rfl (lv_at hl 3 rfl) ?_
      obtain ⟨h17, hq⟩ := hq
      obtain ⟨h18, hq⟩ := hq
      refine q_iald C hw hw.2.2.1 h17 h18 dX6_worthOf_82 ?_
      exact r_iret C hr hlk hw dX6_worthOf_83 (by decide) (by decide) ⟨_, rfl, hq⟩
    · replace hq := hq.2 c11
      refine lv_aload_n hx hb dX6_worthOf_62 rfl (lv_at hl 1 rfl) ?_
      obtain ⟨q19, e20, hq⟩ := hq
      refine gfX6_15 C hw hw.2.2.1 h0 e20 dX6_worthOf_63 ?_
      obtain ⟨h21, hq⟩ := hq
      obtain ⟨q22, e23, hq⟩ := hq
      refine gfX6_109 C hw hw.2.2.1 h21 e23 dX6_worthOf_66 ?_
      refine lv_iload_n hx hb dX6_worthOf_69 rfl (lv_at hl 3 rfl) ?_
      obtain ⟨h24, hq⟩ := hq
      obtain ⟨h25, hq⟩ := hq
      refine q_iald C hw hw.2.2.1 h24 h25 dX6_worthOf_70 ?_
      refine lv_goto (tgt := 83) hx hb dX6_worthOf_71 (by decide) ?_
      exact r_iret C hr hlk hw dX6_worthOf_83 (by decide) (by decide) ⟨_, rfl, hq⟩
set_option maxHeartbeats 4000000 in
set_option maxRecDepth 100000 in
theorem ct_X6_worthOf {l : Launch} {g : Gh} {M0 : Mem} {a0 : Nat} {a1 : Nat} {post : Int32 → Mem → Prop} (hq : wp_X6_worthOf g M0 a0 a1 post) : Ct l g yX6_worthOf cX6_worthOf 4 (some .int) 2 0 0 [.ref a0, .ref a1] M0 (pI post) := by
  unfold wp_X6_worthOf at hq
  obtain ⟨h0, hq⟩ := hq
  refine Ct.of (by decide) (Nat.le_of_ble_eq_true rfl) ?_
  intro p e s m below meth c ls C hr hlk hn hl hw
  have hx := C.1.1
  have hb := C.1.2.1
  have hl : lv_has ls 4 [(0, .ref a0), (1, .ref a1)] := hl
  refine lv_aload_n hx hb dX6_worthOf_0 rfl (lv_at hl 0 rfl) ?_
  obtain ⟨q26, e27, hq⟩ := hq
  refine gfX6_15 C hw hw.2.2.1 h0 e27 dX6_worthOf_1 ?_
  refine lv_aload_n hx hb dX6_worthOf_4 rfl (lv_at hl 0 rfl) ?_
  refine gfX6_37 C hw hw.2.2.1 h0 dX6_worthOf_5 ?_
  refine r_callV (T := TX4) (N := 9) (ci := 4) (index := 106) (n := 1) (d2 := 0) (mc := 0) (ms := 0) (As := [.int (mI M0 a0 5)]) (rest := []) C hw (ct_X4_roundOf hq) kvX6_106 hq.1 (by decide) rfl ⟨by decide, by decide⟩ ⟨by decide, by decide⟩ rfl hl.1 rfl (Nat.le_of_ble_eq_true rfl) dX6_worthOf_8 (fun r M29 H locs hp hle hw => ?_)
  obtain ⟨v28, rfl, hq⟩ := hp
  refine W.eq (g2 := F0 m 11 ls [.int v28]) rfl ?_
  refine lv_istore_n (lv' := [(2, .int v28), (0, .ref a0), (1, .ref a1)]) hx hb dX6_worthOf_11 rfl hl (by decide) rfl (fun ls hl => ?_)
  refine lv_aload_n hx hb dX6_worthOf_12 rfl (lv_at hl 2 rfl) ?_
  obtain ⟨h30, hq⟩ := hq
  refine gfX6_59 C hw hw.2.2.1 h30 dX6_worthOf_13 ?_
  refine lv_if_ne (tgt := 29) hx hb dX6_worthOf_16 (by decide) (fun c31 => ?_) (fun c31 => ?_)
  · replace hq := hq.2 c31
    refine lv_iconst (v := 0) hx hb dX6_worthOf_29 (by decide) ?_
    exact r_iret C hr hlk hw dX6_worthOf_30 (by decide) (by decide) ⟨_, rfl, hq⟩
  · replace hq := hq.1 c31
    refine lv_iload_n hx hb dX6_worthOf_19 rfl (lv_at hl 0 rfl) ?_
    refine lv_if_lt (tgt := 29) hx hb dX6_worthOf_20 (by decide) (fun c32 => ?_) (fun c32 => ?_)
    · replace hq := hq.1 c32
      refine lv_iconst (v := 0) hx hb dX6_worthOf_29 (by decide) ?_
      exact r_iret C hr hlk hw dX6_worthOf_30 (by decide) (by decide) ⟨_, rfl, hq⟩
    · replace hq := hq.2 c32
      refine lv_iload_n hx hb dX6_worthOf_23 rfl (lv_at hl 0 rfl) ?_
      refine lv_bipush (v := 6) hx hb dX6_worthOf_24 (by decide) ?_
      refine lv_icmp_lt (tgt := 31) hx hb dX6_worthOf_26 (by decide) (fun c33 => ?_) (fun c33 => ?_)
      · replace hq := hq.1 c33
        refine lv_aload_n hx hb dX6_worthOf_31 rfl (lv_at hl 1 rfl) ?_
        refine gfX6_93 C hw hw.2.2.1 h0 dX6_worthOf_32 ?_
        refine lv_if_eq (tgt := 49) hx hb dX6_worthOf_35 (by decide) (fun c34 => ?_) (fun c34 => ?_)
        · replace hq := hq.1 c34
          refine lv_iconst (v := 0) hx hb dX6_worthOf_49 (by decide) ?_
          exact lt_X6_worthOf_50 C hr hlk hn h0  hq hw (lv_sub hl [1, 2, 0] rfl)
        · replace hq := hq.2 c34
          refine lv_aload_n hx hb dX6_worthOf_38 rfl (lv_at hl 1 rfl) ?_
          refine r_callV (T := TX6) (N := 9) (ci := 6) (index := 49) (n := 0) (d2 := 1) (mc := 0) (ms := 0) (As := []) (rest := []) C hw (ct_X6_isBuzz hq) kvX6_49 hq.1 (by decide) rfl ⟨by decide, by decide⟩ ⟨by decide, by decide⟩ rfl hl.1 rfl (Nat.le_of_ble_eq_true rfl) dX6_worthOf_39 (fun r M36 H locs hp hle hw => ?_)
          obtain ⟨v35, rfl, hq⟩ := hp
          refine W.eq (g2 := F0 m 42 ls [.int v35]) rfl ?_
          refine lv_if_ne (tgt := 49) hx hb dX6_worthOf_42 (by decide) (fun c37 => ?_) (fun c37 => ?_)
          · replace hq := hq.2 c37
            refine lv_iconst (v := 0) hx hb dX6_worthOf_49 (by decide) ?_
            exact lt_X6_worthOf_50 C hr hlk hn h0  hq hw (lv_sub hl [1, 2, 0] rfl)
          · replace hq := hq.1 c37
            refine lv_iconst (v := 1) hx hb dX6_worthOf_45 (by decide) ?_
            refine lv_goto (tgt := 50) hx hb dX6_worthOf_46 (by decide) ?_
            exact lt_X6_worthOf_50 C hr hlk hn h0  hq hw (lv_sub hl [1, 2, 0] rfl)
      · replace hq := hq.2 c33
        refine lv_iconst (v := 0) hx hb dX6_worthOf_29 (by decide) ?_
        exact r_iret C hr hlk hw dX6_worthOf_30 (by decide) (by decide) ⟨_, rfl, hq⟩

def wp_X6_hasPass (g : Gh) (M0 : Mem) (a0 : Nat) (post : Int32 → Mem → Prop) : Prop :=
  okc (gB g) M0 a0 6 ∧ (∃ q1, mR M0 a0 1 = some q1 ∧ (wp_X4_roundOf g M0 q1 (mI M0 a0 5) (fun v3 M4 => ((v3 < 0) → post 0 M4) ∧ (¬ (v3 < 0) → ((6 ≤ v3) → post 0 M4) ∧ (¬ (6 ≤ v3) → ∃ q7, mR M4 a0 1 = some q7 ∧ (okc (gB g) M0 q7 4 ∧ (∃ q10, mR M4 q7 5 = some q10 ∧ (okc (gB g) M0 q10 14 ∧ (vp_in v3 (mN M0 q10) ∧ ((((mI M4 q10 (Int32.toNatClampNeg v3)) = (-1)) → post 0 M4) ∧ (¬ ((mI M4 q10 (Int32.toNatClampNeg v3)) = (-1)) → post 1 M4)))))))))))
set_option maxHeartbeats 4000000 in
set_option maxRecDepth 100000 in
theorem ct_X6_hasPass {l : Launch} {g : Gh} {M0 : Mem} {a0 : Nat} {post : Int32 → Mem → Prop} (hq : wp_X6_hasPass g M0 a0 post) : Ct l g yX6_hasPass cX6_hasPass 2 (some .boolean) 1 0 0 [.ref a0] M0 (pI post) := by
  unfold wp_X6_hasPass at hq
  obtain ⟨h0, hq⟩ := hq
  refine Ct.of (by decide) (Nat.le_of_ble_eq_true rfl) ?_
  intro p e s m below meth c ls C hr hlk hn hl hw
  have hx := C.1.1
  have hb := C.1.2.1
  have hl : lv_has ls 2 [(0, .ref a0)] := hl
  refine lv_aload_n hx hb dX6_hasPass_0 rfl (lv_at hl 0 rfl) ?_
  obtain ⟨q1, e2, hq⟩ := hq
  refine gfX6_15 C hw hw.2.2.1 h0 e2 dX6_hasPass_1 ?_
  refine lv_aload_n hx hb dX6_hasPass_4 rfl (lv_at hl 0 rfl) ?_
  refine gfX6_37 C hw hw.2.2.1 h0 dX6_hasPass_5 ?_
  refine r_callV (T := TX4) (N := 9) (ci := 4) (index := 106) (n := 1) (d2 := 0) (mc := 0) (ms := 0) (As := [.int (mI M0 a0 5)]) (rest := []) C hw (ct_X4_roundOf hq) kvX6_106 hq.1 (by decide) rfl ⟨by decide, by decide⟩ ⟨by decide, by decide⟩ rfl hl.1 rfl (Nat.le_of_ble_eq_true rfl) dX6_hasPass_8 (fun r M4 H locs hp hle hw => ?_)
  obtain ⟨v3, rfl, hq⟩ := hp
  refine W.eq (g2 := F0 m 11 ls [.int v3]) rfl ?_
  refine lv_istore_n (lv' := [(1, .int v3), (0, .ref a0)]) hx hb dX6_hasPass_11 rfl hl (by decide) rfl (fun ls hl => ?_)
  refine lv_iload_n hx hb dX6_hasPass_12 rfl (lv_at hl 0 rfl) ?_
  refine lv_if_lt (tgt := 39) hx hb dX6_hasPass_13 (by decide) (fun c5 => ?_) (fun c5 => ?_)
  · replace hq := hq.1 c5
    refine lv_iconst (v := 0) hx hb dX6_hasPass_39 (by decide) ?_
    exact r_zret C hr hlk hw dX6_hasPass_40 (by decide) (by decide) (by decide) ⟨_, rfl, hq⟩
  · replace hq := hq.2 c5
    refine lv_iload_n hx hb dX6_hasPass_16 rfl (lv_at hl 0 rfl) ?_
    refine lv_bipush (v := 6) hx hb dX6_hasPass_17 (by decide) ?_
    refine lv_icmp_ge (tgt := 39) hx hb dX6_hasPass_19 (by decide) (fun c6 => ?_) (fun c6 => ?_)
    · replace hq := hq.1 c6
      refine lv_iconst (v := 0) hx hb dX6_hasPass_39 (by decide) ?_
      exact r_zret C hr hlk hw dX6_hasPass_40 (by decide) (by decide) (by decide) ⟨_, rfl, hq⟩
    · replace hq := hq.2 c6
      refine lv_aload_n hx hb dX6_hasPass_22 rfl (lv_at hl 1 rfl) ?_
      obtain ⟨q7, e8, hq⟩ := hq
      refine gfX6_15 C hw hw.2.2.1 h0 e8 dX6_hasPass_23 ?_
      obtain ⟨h9, hq⟩ := hq
      obtain ⟨q10, e11, hq⟩ := hq
      refine gfX6_109 C hw hw.2.2.1 h9 e11 dX6_hasPass_26 ?_
      refine lv_iload_n hx hb dX6_hasPass_29 rfl (lv_at hl 0 rfl) ?_
      obtain ⟨h12, hq⟩ := hq
      obtain ⟨h13, hq⟩ := hq
      refine q_iald C hw hw.2.2.1 h12 h13 dX6_hasPass_30 ?_
      refine lv_iconst (v := (-1)) hx hb dX6_hasPass_31 (by decide) ?_
      refine lv_icmp_eq (tgt := 39) hx hb dX6_hasPass_32 (by decide) (fun c14 => ?_) (fun c14 => ?_)
      · replace hq := hq.1 c14
        refine lv_iconst (v := 0) hx hb dX6_hasPass_39 (by decide) ?_
        exact r_zret C hr hlk hw dX6_hasPass_40 (by decide) (by decide) (by decide) ⟨_, rfl, hq⟩
      · replace hq := hq.2 c14
        refine lv_iconst (v := 1) hx hb dX6_hasPass_35 (by decide) ?_
        refine lv_goto (tgt := 40) hx hb dX6_hasPass_36 (by decide) ?_
        exact r_zret C hr hlk hw dX6_hasPass_40 (by decide) (by decide) (by decide) ⟨_, rfl, hq⟩

def lb_X6_goesToOther_27 (g : Gh) (M0 : Mem) (a0 : Nat) (a1 : Nat) (post : Int32 → Mem → Prop)   (s0 : Int32) (M : Mem) : Prop :=
  ((s0 = 0) → post 0 M) ∧ (¬ (s0 = 0) → wp_X6_isBuzz g M a0 (fun v2 M3 => ((v2 = 0) → wp_X6_hasPass g M3 a0 (fun v5 M6 => ((v5 = 0) → post 0 M6) ∧ (¬ (v5 = 0) → post 1 M6))) ∧ (¬ (v2 = 0) → post 1 M3)))
def wp_X6_goesToOther (g : Gh) (M0 : Mem) (a0 : Nat) (a1 : Nat) (post : Int32 → Mem → Prop) : Prop :=
  okc (gB g) M0 a0 6 ∧ ((((mI M0 a0 7) = 0) → okc (gB g) M0 a1 0 ∧ ((((mI M0 a1 3) = 0) → (((mI M0 a1 1) = 2) → lb_X6_goesToOther_27 g M0 a0 a1 post  0 M0) ∧ (¬ ((mI M0 a1 1) = 2) → lb_X6_goesToOther_27 g M0 a0 a1 post  1 M0)) ∧ (¬ ((mI M0 a1 3) = 0) → lb_X6_goesToOther_27 g M0 a0 a1 post  0 M0))) ∧ (¬ ((mI M0 a0 7) = 0) → lb_X6_goesToOther_27 g M0 a0 a1 post  0 M0))
set_option maxHeartbeats 4000000 in
set_option maxRecDepth 100000 in
theorem lt_X6_goesToOther_27 {l : Launch} {g : Gh} {p : Program} {e : Env} {s : State} {m : MethodId} {args : Array Value} {below : List Frame} {meth : Method} {c : Code} {H : Heap} {locs : List Loc} {ls : Array Slot} {M0 M : Mem} {a0 : Nat} {a1 : Nat} {post : Int32 → Mem → Prop}  {s0 : Int32} (C : Cx g p s m args c cX6_goesToOther 3 RX6) (hr : meth.sig.returnType = (some .boolean)) (hlk : meth.locks = false) (hn : meth.name = "goesToOther") (h0 : okc (gB g) M0 a0 6)  (hq : lb_X6_goesToOther_27 g M0 a0 a1 post  s0 M) (hw : Wd g s M0 M H locs) (hl : lv_has ls 3 [(0, .ref a0), (1, .ref a1)]) : W p l e (rmo 2 0 0) s m args below meth c H locs 0 0 (MQ below (Cq g M0 (pI post)) args s 0 0 (gA g)) (F0 m 27 ls [.int s0]) := by
  have hx := C.1.1
  have hb := C.1.2.1
  unfold lb_X6_goesToOther_27 at hq
  refine lv_istore_n (lv' := [(2, .int s0), (0, .ref a0), (1, .ref a1)]) hx hb dX6_goesToOther_27 rfl hl (by decide) rfl (fun ls hl => ?_)
  refine lv_iload_n hx hb dX6_goesToOther_28 rfl (lv_at hl 0 rfl) ?_
  refine lv_if_eq (tgt := 50) hx hb dX6_goesToOther_29 (by decide) (fun c1 => ?_) (fun c1 => ?_)
  · replace hq := hq.1 c1
    refine lv_iconst (v := 0) hx hb dX6_goesToOther_50 (by decide) ?_
    exact r_zret C hr hlk hw dX6_goesToOther_51 (by decide) (by decide) (by decide) ⟨_, rfl, hq⟩
  · replace hq := hq.2 c1
    refine lv_aload_n hx hb dX6_goesToOther_32 rfl (lv_at hl 1 rfl) ?_
    refine r_callV (T := TX6) (N := 9) (ci := 6) (index := 49) (n := 0) (d2 := 1) (mc := 0) (ms := 0) (As := []) (rest := []) C hw (ct_X6_isBuzz hq) kvX6_49 hq.1 (by decide) rfl ⟨by decide, by decide⟩ ⟨by decide, by decide⟩ rfl hl.1 rfl (Nat.le_of_ble_eq_true rfl) dX6_goesToOther_33 (fun r M3 H locs hp hle hw => ?_)
    obtain ⟨v2, rfl, hq⟩ := hp
    refine W.eq (g2 := F0 m 36 ls [.int v2]) rfl ?_
    refine lv_if_ne (tgt := 46) hx hb dX6_goesToOther_36 (by decide) (fun c4 => ?_) (fun c4 => ?_)
    · replace hq := hq.2 c4
      refine lv_iconst (v := 1) hx hb dX6_goesToOther_46 (by decide) ?_
      refine lv_goto (tgt := 51) hx hb dX6_goesToOther_47 (by decide) ?_
      exact r_zret C hr hlk hw dX6_goesToOther_51 (by decide) (by decide) (by decide) ⟨_, rfl, hq⟩
    · replace hq := hq.1 c4
      refine lv_aload_n hx hb dX6_goesToOther_39 rfl (lv_at hl 1 rfl) ?_
      refine r_callV (T := TX6) (N := 9) (ci := 6) (index := 118) (n := 0) (d2 := 1) (mc := 0) (ms := 0) (As := []) (rest := []) C hw (ct_X6_hasPass hq) kvX6_118 hq.1 (by decide) rfl ⟨by decide, by decide⟩ ⟨by decide, by decide⟩ rfl hl.1 rfl (Nat.le_of_ble_eq_true rfl) dX6_goesToOther_40 (fun r M6 H locs hp hle hw => ?_)
      obtain ⟨v5, rfl, hq⟩ := hp
      refine W.eq (g2 := F0 m 43 ls [.int v5]) rfl ?_
      refine lv_if_eq (tgt := 50) hx hb dX6_goesToOther_43 (by decide) (fun c7 => ?_) (fun c7 => ?_)
      · replace hq := hq.1 c7
        refine lv_iconst (v := 0) hx hb dX6_goesToOther_50 (by decide) ?_
        exact r_zret C hr hlk hw dX6_goesToOther_51 (by decide) (by decide) (by decide) ⟨_, rfl, hq⟩
      · replace hq := hq.2 c7
        refine lv_iconst (v := 1) hx hb dX6_goesToOther_46 (by decide) ?_
        refine lv_goto (tgt := 51) hx hb dX6_goesToOther_47 (by decide) ?_
        exact r_zret C hr hlk hw dX6_goesToOther_51 (by decide) (by decide) (by decide) ⟨_, rfl, hq⟩
set_option maxHeartbeats 4000000 in
set_option maxRecDepth 100000 in
theorem ct_X6_goesToOther {l : Launch} {g : Gh} {M0 : Mem} {a0 : Nat} {a1 : Nat} {post : Int32 → Mem → Prop} (hq : wp_X6_goesToOther g M0 a0 a1 post) : Ct l g yX6_goesToOther cX6_goesToOther 3 (some .boolean) 2 0 0 [.ref a0, .ref a1] M0 (pI post) := by
  unfold wp_X6_goesToOther at hq
  obtain ⟨h0, hq⟩ := hq
  refine Ct.of (by decide) (Nat.le_of_ble_eq_true rfl) ?_
  intro p e s m below meth c ls C hr hlk hn hl hw
  have hx := C.1.1
  have hb := C.1.2.1
  have hl : lv_has ls 3 [(0, .ref a0), (1, .ref a1)] := hl
  refine lv_aload_n hx hb dX6_goesToOther_0 rfl (lv_at hl 0 rfl) ?_
  refine gfX6_93 C hw hw.2.2.1 h0 dX6_goesToOther_1 ?_
  refine lv_if_ne (tgt := 26) hx hb dX6_goesToOther_4 (by decide) (fun c8 => ?_) (fun c8 => ?_)
  · replace hq := hq.2 c8
    refine lv_iconst (v := 0) hx hb dX6_goesToOther_26 (by decide) ?_
    exact lt_X6_goesToOther_27 C hr hlk hn h0  hq hw (lv_sub hl [0, 1] rfl)
  · replace hq := hq.1 c8
    refine lv_aload_n hx hb dX6_goesToOther_7 rfl (lv_at hl 1 rfl) ?_
    obtain ⟨h9, hq⟩ := hq
    refine gfX6_65 C hw hw.2.2.1 h9 dX6_goesToOther_8 ?_
    refine lv_if_ne (tgt := 26) hx hb dX6_goesToOther_11 (by decide) (fun c10 => ?_) (fun c10 => ?_)
    · replace hq := hq.2 c10
      refine lv_iconst (v := 0) hx hb dX6_goesToOther_26 (by decide) ?_
      exact lt_X6_goesToOther_27 C hr hlk hn h0  hq hw (lv_sub hl [0, 1] rfl)
    · replace hq := hq.1 c10
      refine lv_aload_n hx hb dX6_goesToOther_14 rfl (lv_at hl 1 rfl) ?_
      refine gfX6_59 C hw hw.2.2.1 h9 dX6_goesToOther_15 ?_
      refine lv_iconst (v := 2) hx hb dX6_goesToOther_18 (by decide) ?_
      refine lv_icmp_eq (tgt := 26) hx hb dX6_goesToOther_19 (by decide) (fun c11 => ?_) (fun c11 => ?_)
      · replace hq := hq.1 c11
        refine lv_iconst (v := 0) hx hb dX6_goesToOther_26 (by decide) ?_
        exact lt_X6_goesToOther_27 C hr hlk hn h0  hq hw (lv_sub hl [0, 1] rfl)
      · replace hq := hq.2 c11
        refine lv_iconst (v := 1) hx hb dX6_goesToOther_22 (by decide) ?_
        refine lv_goto (tgt := 27) hx hb dX6_goesToOther_23 (by decide) ?_
        exact lt_X6_goesToOther_27 C hr hlk hn h0  hq hw (lv_sub hl [0, 1] rfl)

def lb_X6_apply_128 (g : Gh) (M0 : Mem) (a0 : Nat) (a1 : Nat) (post : Mem → Prop)    (M : Mem) : Prop :=
  wp_X6_goesToOther g M a0 a1 (fun v1 M2 => ((v1 = 0) → wp_X6_goTo g M2 a0 ((mI M2 a0 5) + 1) (fun M5 => post M5)) ∧ (¬ (v1 = 0) → ∀ M6, M6 = uI M2 a0 7 1 → (okc (gB g) M0 a1 0 ∧ (∀ M9, M9 = uI M6 a0 6 (1 - (mI M6 a1 2)) → (post M9)))))
def lb_X6_apply_112 (g : Gh) (M0 : Mem) (a0 : Nat) (a1 : Nat) (post : Mem → Prop)    (M : Mem) : Prop :=
  ∃ q11, mR M a0 8 = some q11 ∧ (okc (gB g) M0 a1 0 ∧ (okc (gB g) M0 q11 14 ∧ (vp_in (mI M a1 2) (mN M0 q11) ∧ (∀ M16, M16 = uI M q11 (Int32.toNatClampNeg (mI M a1 2)) ((mI M q11 (Int32.toNatClampNeg (mI M a1 2))) + (mI M a1 5)) → (lb_X6_apply_128 g M0 a0 a1 post   M16)))))
def lb_X6_apply_67 (g : Gh) (M0 : Mem) (a0 : Nat) (a1 : Nat) (post : Mem → Prop)   (s0 : Nat) (s1 : Int32) (M : Mem) : Prop :=
  okc (gB g) M0 s0 0 ∧ ((s1 = 0 ∨ s1 = 1) ∧ (∀ M20, M20 = uI M s0 4 s1 → (okc (gB g) M0 a1 0 ∧ ((((mI M20 a1 4) = 0) → wp_X6_worthOf g M20 a0 a1 (fun v24 M25 => ∀ M26, M26 = uI M25 a1 5 v24 → ((((mI M26 a1 2) = 0) → lb_X6_apply_112 g M0 a0 a1 post   M26) ∧ (¬ ((mI M26 a1 2) = 0) → (((mI M26 a1 2) = 1) → lb_X6_apply_112 g M0 a0 a1 post   M26) ∧ (¬ ((mI M26 a1 2) = 1) → lb_X6_apply_128 g M0 a0 a1 post   M26))))) ∧ (¬ ((mI M20 a1 4) = 0) → ∀ M30, M30 = uI M20 a0 4 ((mI M20 a0 4) + 1) → (post M30))))))
def lb_X6_apply_19 (g : Gh) (M0 : Mem) (a0 : Nat) (a1 : Nat) (post : Mem → Prop)    (M : Mem) : Prop :=
  okc (gB g) M0 a1 0 ∧ (∀ M33, M33 = uI M a1 5 0 → ((((mI M33 a1 0) < (mI M33 a0 5)) → lb_X6_apply_67 g M0 a0 a1 post  a1 1 M33) ∧ (¬ ((mI M33 a1 0) < (mI M33 a0 5)) → wp_X6_isOver g M33 a0 (fun v36 M37 => ((v36 = 0) → (((mI M37 a1 1) = 2) → lb_X6_apply_67 g M0 a0 a1 post  a1 0 M37) ∧ (¬ ((mI M37 a1 1) = 2) → wp_X6_isFor g M37 a0 (mI M37 a1 2) (fun v40 M41 => ((v40 = 0) → lb_X6_apply_67 g M0 a0 a1 post  a1 1 M41) ∧ (¬ (v40 = 0) → lb_X6_apply_67 g M0 a0 a1 post  a1 0 M41)))) ∧ (¬ (v36 = 0) → lb_X6_apply_67 g M0 a0 a1 post  a1 1 M37)))))
def wp_X6_apply (g : Gh) (M0 : Mem) (a0 : Nat) (a1 : Nat) (post : Mem → Prop) : Prop :=
  okc (gB g) M0 a0 6 ∧ (okc (gB g) M0 a1 0 ∧ ((((mI M0 a1 0) ≤ (mI M0 a0 5)) → lb_X6_apply_19 g M0 a0 a1 post   M0) ∧ (¬ ((mI M0 a1 0) ≤ (mI M0 a0 5)) → wp_X6_goTo g M0 a0 (mI M0 a1 0) (fun M46 => lb_X6_apply_19 g M0 a0 a1 post   M46))))
set_option maxHeartbeats 4000000 in
set_option maxRecDepth 100000 in
theorem lt_X6_apply_128 {l : Launch} {g : Gh} {p : Program} {e : Env} {s : State} {m : MethodId} {args : Array Value} {below : List Frame} {meth : Method} {c : Code} {H : Heap} {locs : List Loc} {ls : Array Slot} {M0 M : Mem} {a0 : Nat} {a1 : Nat} {post : Mem → Prop}   (C : Cx g p s m args c cX6_apply 2 RX6) (hr : meth.sig.returnType = none) (hlk : meth.locks = false) (hn : meth.name = "apply") (h0 : okc (gB g) M0 a0 6)  (hq : lb_X6_apply_128 g M0 a0 a1 post   M) (hw : Wd g s M0 M H locs) (hl : lv_has ls 2 [(0, .ref a0), (1, .ref a1)]) : W p l e (rmo 3 0 0) s m args below meth c H locs 0 0 (MQ below (Cq g M0 (pV post)) args s 0 0 (gA g)) (F0 m 128 ls []) := by
  have hx := C.1.1
  have hb := C.1.2.1
  unfold lb_X6_apply_128 at hq
  refine lv_aload_n hx hb dX6_apply_128 rfl (lv_at hl 0 rfl) ?_
  refine lv_aload_n hx hb dX6_apply_129 rfl (lv_at hl 1 rfl) ?_
  refine r_callV (T := TX6) (N := 9) (ci := 6) (index := 102) (n := 1) (d2 := 2) (mc := 0) (ms := 0) (As := [.ref a1]) (rest := []) C hw (ct_X6_goesToOther hq) kvX6_102 hq.1 (by decide) rfl ⟨by decide, by decide⟩ ⟨by decide, by decide⟩ rfl hl.1 rfl (Nat.le_of_ble_eq_true rfl) dX6_apply_130 (fun r M2 H locs hp hle hw => ?_)
  obtain ⟨v1, rfl, hq⟩ := hp
  refine W.eq (g2 := F0 m 133 ls [.int v1]) rfl ?_
  refine lv_if_eq (tgt := 154) hx hb dX6_apply_133 (by decide) (fun c3 => ?_) (fun c3 => ?_)
  · replace hq := hq.1 c3
    refine lv_aload_n hx hb dX6_apply_154 rfl (lv_at hl 0 rfl) ?_
    refine lv_aload_n hx hb dX6_apply_155 rfl (lv_at hl 0 rfl) ?_
    refine gfX6_37 C hw hw.2.2.1 h0 dX6_apply_156 ?_
    refine lv_iconst (v := 1) hx hb dX6_apply_159 (by decide) ?_
    refine lv_iadd hx hb dX6_apply_160 ?_
    refine r_callV (T := TX6) (N := 9) (ci := 6) (index := 89) (n := 1) (d2 := 2) (mc := 0) (ms := 0) (As := [.int ((mI M2 a0 5) + 1)]) (rest := []) C hw (ct_X6_goTo hq) kvX6_89 hq.1 (by decide) rfl ⟨by decide, by decide⟩ ⟨by decide, by decide⟩ rfl hl.1 rfl (Nat.le_of_ble_eq_true rfl) dX6_apply_161 (fun r M5 H locs hp hle hw => ?_)
    obtain ⟨rfl, hq⟩ := hp
    refine W.eq (g2 := F0 m 164 ls []) rfl ?_
    exact r_vret C hr hlk hw dX6_apply_164 (by decide) (by decide) ⟨rfl, hq⟩
  · replace hq := hq.2 c3
    refine lv_aload_n hx hb dX6_apply_136 rfl (lv_at hl 0 rfl) ?_
    refine lv_iconst (v := 1) hx hb dX6_apply_137 (by decide) ?_
    refine pfX6_93 C hw hw.2.2.1 h0 (by decide) dX6_apply_138 (fun H locs hw => ?_)
    generalize e7 : uI M2 a0 7 1 = M6 at hw
    replace hq := hq M6 e7.symm
    refine lv_aload_n hx hb dX6_apply_141 rfl (lv_at hl 0 rfl) ?_
    refine lv_iconst (v := 1) hx hb dX6_apply_142 (by decide) ?_
    refine lv_aload_n hx hb dX6_apply_143 rfl (lv_at hl 1 rfl) ?_
    obtain ⟨h8, hq⟩ := hq
    refine gfX6_62 C hw hw.2.2.1 h8 dX6_apply_144 ?_
    refine lv_isub hx hb dX6_apply_147 ?_
    refine pfX6_79 C hw hw.2.2.1 h0 dX6_apply_148 (fun H locs hw => ?_)
    generalize e10 : uI M6 a0 6 (1 - (mI M6 a1 2)) = M9 at hw
    replace hq := hq M9 e10.symm
    refine lv_goto (tgt := 164) hx hb dX6_apply_151 (by decide) ?_
    exact r_vret C hr hlk hw dX6_apply_164 (by decide) (by decide) ⟨rfl, hq⟩
set_option maxHeartbeats 4000000 in
set_option maxRecDepth 100000 in
theorem lt_X6_apply_112 {l : Launch} {g : Gh} {p : Program} {e : Env} {s : State} {m : MethodId} {args : Array Value} {below : List Frame} {meth : Method} {c : Code} {H : Heap} {locs : List Loc} {ls : Array Slot} {M0 M : Mem} {a0 : Nat} {a1 : Nat} {post : Mem → Prop}   (C : Cx g p s m args c cX6_apply 2 RX6) (hr : meth.sig.returnType = none) (hlk : meth.locks = false) (hn : meth.name = "apply") (h0 : okc (gB g) M0 a0 6)  (hq : lb_X6_apply_112 g M0 a0 a1 post   M) (hw : Wd g s M0 M H locs) (hl : lv_has ls 2 [(0, .ref a0), (1, .ref a1)]) : W p l e (rmo 3 0 0) s m args below meth c H locs 0 0 (MQ below (Cq g M0 (pV post)) args s 0 0 (gA g)) (F0 m 112 ls []) := by
  have hx := C.1.1
  have hb := C.1.2.1
  unfold lb_X6_apply_112 at hq
  refine lv_aload_n hx hb dX6_apply_112 rfl (lv_at hl 0 rfl) ?_
  obtain ⟨q11, e12, hq⟩ := hq
  refine gfX6_26 C hw hw.2.2.1 h0 e12 dX6_apply_113 ?_
  refine lv_aload_n hx hb dX6_apply_116 rfl (lv_at hl 1 rfl) ?_
  obtain ⟨h13, hq⟩ := hq
  refine gfX6_62 C hw hw.2.2.1 h13 dX6_apply_117 ?_
  refine lv_dup2_11 hx hb dX6_apply_120 rfl rfl ?_
  obtain ⟨h14, hq⟩ := hq
  obtain ⟨h15, hq⟩ := hq
  refine q_iald C hw hw.2.2.1 h14 h15 dX6_apply_121 ?_
  refine lv_aload_n hx hb dX6_apply_122 rfl (lv_at hl 1 rfl) ?_
  refine gfX6_96 C hw hw.2.2.1 h13 dX6_apply_123 ?_
  refine lv_iadd hx hb dX6_apply_126 ?_
  refine q_iast C hw hw.2.2.1 h14 h15 dX6_apply_127 (fun H locs hw => ?_)
  generalize e17 : uI M q11 (Int32.toNatClampNeg (mI M a1 2)) ((mI M q11 (Int32.toNatClampNeg (mI M a1 2))) + (mI M a1 5)) = M16 at hw
  replace hq := hq M16 e17.symm
  have e12 : mR M16 a0 8 = some q11 := by rw [← e17, mR_uI]; exact e12
  exact lt_X6_apply_128 C hr hlk hn h0  hq hw (lv_sub hl [0, 1] rfl)
set_option maxHeartbeats 4000000 in
set_option maxRecDepth 100000 in
theorem lt_X6_apply_67 {l : Launch} {g : Gh} {p : Program} {e : Env} {s : State} {m : MethodId} {args : Array Value} {below : List Frame} {meth : Method} {c : Code} {H : Heap} {locs : List Loc} {ls : Array Slot} {M0 M : Mem} {a0 : Nat} {a1 : Nat} {post : Mem → Prop}  {s0 : Nat} {s1 : Int32} (C : Cx g p s m args c cX6_apply 2 RX6) (hr : meth.sig.returnType = none) (hlk : meth.locks = false) (hn : meth.name = "apply") (h0 : okc (gB g) M0 a0 6)  (hq : lb_X6_apply_67 g M0 a0 a1 post  s0 s1 M) (hw : Wd g s M0 M H locs) (hl : lv_has ls 2 [(0, .ref a0), (1, .ref a1)]) : W p l e (rmo 3 0 0) s m args below meth c H locs 0 0 (MQ below (Cq g M0 (pV post)) args s 0 0 (gA g)) (F0 m 67 ls [.int s1, .ref s0]) := by
  have hx := C.1.1
  have hb := C.1.2.1
  unfold lb_X6_apply_67 at hq
  obtain ⟨h18, hq⟩ := hq
  obtain ⟨h19, hq⟩ := hq
  refine pfX6_76 C hw hw.2.2.1 h18 h19 dX6_apply_67 (fun H locs hw => ?_)
  generalize e21 : uI M s0 4 s1 = M20 at hw
  replace hq := hq M20 e21.symm
  refine lv_aload_n hx hb dX6_apply_70 rfl (lv_at hl 1 rfl) ?_
  obtain ⟨h22, hq⟩ := hq
  refine gfX6_76 C hw hw.2.2.1 h22 dX6_apply_71 ?_
  refine lv_if_eq (tgt := 88) hx hb dX6_apply_74 (by decide) (fun c23 => ?_) (fun c23 => ?_)
  · replace hq := hq.1 c23
    refine lv_aload_n hx hb dX6_apply_88 rfl (lv_at hl 1 rfl) ?_
    refine lv_aload_n hx hb dX6_apply_89 rfl (lv_at hl 0 rfl) ?_
    refine lv_aload_n hx hb dX6_apply_90 rfl (lv_at hl 1 rfl) ?_
    refine r_callV (T := TX6) (N := 9) (ci := 6) (index := 98) (n := 1) (d2 := 2) (mc := 0) (ms := 0) (As := [.ref a1]) (rest := [.ref a1]) C hw (ct_X6_worthOf hq) kvX6_98 hq.1 (by decide) rfl ⟨by decide, by decide⟩ ⟨by decide, by decide⟩ rfl hl.1 rfl (Nat.le_of_ble_eq_true rfl) dX6_apply_91 (fun r M25 H locs hp hle hw => ?_)
    obtain ⟨v24, rfl, hq⟩ := hp
    refine W.eq (g2 := F0 m 94 ls [.int v24, .ref a1]) rfl ?_
    refine pfX6_96 C hw hw.2.2.1 h22 dX6_apply_94 (fun H locs hw => ?_)
    generalize e27 : uI M25 a1 5 v24 = M26 at hw
    replace hq := hq M26 e27.symm
    refine lv_aload_n hx hb dX6_apply_97 rfl (lv_at hl 1 rfl) ?_
    refine gfX6_62 C hw hw.2.2.1 h22 dX6_apply_98 ?_
    refine lv_if_eq (tgt := 112) hx hb dX6_apply_101 (by decide) (fun c28 => ?_) (fun c28 => ?_)
    · replace hq := hq.1 c28
      exact lt_X6_apply_112 C hr hlk hn h0  hq hw (lv_sub hl [0, 1] rfl)
    · replace hq := hq.2 c28
      refine lv_aload_n hx hb dX6_apply_104 rfl (lv_at hl 1 rfl) ?_
      refine gfX6_62 C hw hw.2.2.1 h22 dX6_apply_105 ?_
      refine lv_iconst (v := 1) hx hb dX6_apply_108 (by decide) ?_
      refine lv_icmp_ne (tgt := 128) hx hb dX6_apply_109 (by decide) (fun c29 => ?_) (fun c29 => ?_)
      · replace hq := hq.2 c29
        exact lt_X6_apply_128 C hr hlk hn h0  hq hw (lv_sub hl [0, 1] rfl)
      · replace hq := hq.1 c29
        exact lt_X6_apply_112 C hr hlk hn h0  hq hw (lv_sub hl [0, 1] rfl)
  · replace hq := hq.2 c23
    refine lv_aload_n hx hb dX6_apply_77 rfl (lv_at hl 0 rfl) ?_
    refine lv_dup hx hb dX6_apply_78 rfl ?_
    refine gfX6_86 C hw hw.2.2.1 h0 dX6_apply_79 ?_
    refine lv_iconst (v := 1) hx hb dX6_apply_82 (by decide) ?_
    refine lv_iadd hx hb dX6_apply_83 ?_
    refine pfX6_86 C hw hw.2.2.1 h0 dX6_apply_84 (fun H locs hw => ?_)
    generalize e31 : uI M20 a0 4 ((mI M20 a0 4) + 1) = M30 at hw
    replace hq := hq M30 e31.symm
    exact r_vret C hr hlk hw dX6_apply_87 (by decide) (by decide) ⟨rfl, hq⟩
set_option maxHeartbeats 4000000 in
set_option maxRecDepth 100000 in
theorem lt_X6_apply_19 {l : Launch} {g : Gh} {p : Program} {e : Env} {s : State} {m : MethodId} {args : Array Value} {below : List Frame} {meth : Method} {c : Code} {H : Heap} {locs : List Loc} {ls : Array Slot} {M0 M : Mem} {a0 : Nat} {a1 : Nat} {post : Mem → Prop}   (C : Cx g p s m args c cX6_apply 2 RX6) (hr : meth.sig.returnType = none) (hlk : meth.locks = false) (hn : meth.name = "apply") (h0 : okc (gB g) M0 a0 6)  (hq : lb_X6_apply_19 g M0 a0 a1 post   M) (hw : Wd g s M0 M H locs) (hl : lv_has ls 2 [(0, .ref a0), (1, .ref a1)]) : W p l e (rmo 3 0 0) s m args below meth c H locs 0 0 (MQ below (Cq g M0 (pV post)) args s 0 0 (gA g)) (F0 m 19 ls []) := by
  have hx := C.1.1
  have hb := C.1.2.1
  unfold lb_X6_apply_19 at hq
  refine lv_aload_n hx hb dX6_apply_19 rfl (lv_at hl 1 rfl) ?_
  refine lv_iconst (v := 0) hx hb dX6_apply_20 (by decide) ?_
  obtain ⟨h32, hq⟩ := hq
  refine pfX6_96 C hw hw.2.2.1 h32 dX6_apply_21 (fun H locs hw => ?_)
  generalize e34 : uI M a1 5 0 = M33 at hw
  replace hq := hq M33 e34.symm
  refine lv_aload_n hx hb dX6_apply_24 rfl (lv_at hl 1 rfl) ?_
  refine lv_aload_n hx hb dX6_apply_25 rfl (lv_at hl 1 rfl) ?_
  refine gfX6_56 C hw hw.2.2.1 h32 dX6_apply_26 ?_
  refine lv_aload_n hx hb dX6_apply_29 rfl (lv_at hl 0 rfl) ?_
  refine gfX6_37 C hw hw.2.2.1 h0 dX6_apply_30 ?_
  refine lv_icmp_lt (tgt := 62) hx hb dX6_apply_33 (by decide) (fun c35 => ?_) (fun c35 => ?_)
  · replace hq := hq.1 c35
    refine lv_iconst (v := 1) hx hb dX6_apply_62 (by decide) ?_
    refine lv_goto (tgt := 67) hx hb dX6_apply_63 (by decide) ?_
    exact lt_X6_apply_67 C hr hlk hn h0  hq hw (lv_sub hl [0, 1] rfl)
  · replace hq := hq.2 c35
    refine lv_aload_n hx hb dX6_apply_36 rfl (lv_at hl 0 rfl) ?_
    refine r_callV (T := TX6) (N := 9) (ci := 6) (index := 45) (n := 0) (d2 := 0) (mc := 0) (ms := 0) (As := []) (rest := [.ref a1]) C hw (ct_X6_isOver hq) kvX6_45 hq.1 (by decide) rfl ⟨by decide, by decide⟩ ⟨by decide, by decide⟩ rfl hl.1 rfl (Nat.le_of_ble_eq_true rfl) dX6_apply_37 (fun r M37 H locs hp hle hw => ?_)
    obtain ⟨v36, rfl, hq⟩ := hp
    refine W.eq (g2 := F0 m 40 ls [.int v36, .ref a1]) rfl ?_
    refine lv_if_ne (tgt := 62) hx hb dX6_apply_40 (by decide) (fun c38 => ?_) (fun c38 => ?_)
    · replace hq := hq.2 c38
      refine lv_iconst (v := 1) hx hb dX6_apply_62 (by decide) ?_
      refine lv_goto (tgt := 67) hx hb dX6_apply_63 (by decide) ?_
      exact lt_X6_apply_67 C hr hlk hn h0  hq hw (lv_sub hl [0, 1] rfl)
    · replace hq := hq.1 c38
      refine lv_aload_n hx hb dX6_apply_43 rfl (lv_at hl 1 rfl) ?_
      refine gfX6_59 C hw hw.2.2.1 h32 dX6_apply_44 ?_
      refine lv_iconst (v := 2) hx hb dX6_apply_47 (by decide) ?_
      refine lv_icmp_eq (tgt := 66) hx hb dX6_apply_48 (by decide) (fun c39 => ?_) (fun c39 => ?_)
      · replace hq := hq.1 c39
        refine lv_iconst (v := 0) hx hb dX6_apply_66 (by decide) ?_
        exact lt_X6_apply_67 C hr hlk hn h0  hq hw (lv_sub hl [0, 1] rfl)
      · replace hq := hq.2 c39
        refine lv_aload_n hx hb dX6_apply_51 rfl (lv_at hl 0 rfl) ?_
        refine lv_aload_n hx hb dX6_apply_52 rfl (lv_at hl 1 rfl) ?_
        refine gfX6_62 C hw hw.2.2.1 h32 dX6_apply_53 ?_
        refine r_callV (T := TX6) (N := 9) (ci := 6) (index := 52) (n := 1) (d2 := 0) (mc := 0) (ms := 0) (As := [.int (mI M37 a1 2)]) (rest := [.ref a1]) C hw (ct_X6_isFor hq) kvX6_52 hq.1 (by decide) rfl ⟨by decide, by decide⟩ ⟨by decide, by decide⟩ rfl hl.1 rfl (Nat.le_of_ble_eq_true rfl) dX6_apply_56 (fun r M41 H locs hp hle hw => ?_)
        obtain ⟨v40, rfl, hq⟩ := hp
        refine W.eq (g2 := F0 m 59 ls [.int v40, .ref a1]) rfl ?_
        refine lv_if_ne (tgt := 66) hx hb dX6_apply_59 (by decide) (fun c42 => ?_) (fun c42 => ?_)
        · replace hq := hq.2 c42
          refine lv_iconst (v := 0) hx hb dX6_apply_66 (by decide) ?_
          exact lt_X6_apply_67 C hr hlk hn h0  hq hw (lv_sub hl [0, 1] rfl)
        · replace hq := hq.1 c42
          refine lv_iconst (v := 1) hx hb dX6_apply_62 (by decide) ?_
          refine lv_goto (tgt := 67) hx hb dX6_apply_63 (by decide) ?_
          exact lt_X6_apply_67 C hr hlk hn h0  hq hw (lv_sub hl [0, 1] rfl)
set_option maxHeartbeats 4000000 in
set_option maxRecDepth 100000 in
theorem ct_X6_apply {l : Launch} {g : Gh} {M0 : Mem} {a0 : Nat} {a1 : Nat} {post : Mem → Prop} (hq : wp_X6_apply g M0 a0 a1 post) : Ct l g yX6_apply cX6_apply 2 none 3 0 0 [.ref a0, .ref a1] M0 (pV post) := by
  unfold wp_X6_apply at hq
  obtain ⟨h0, hq⟩ := hq
  refine Ct.of (by decide) (Nat.le_of_ble_eq_true rfl) ?_
  intro p e s m below meth c ls C hr hlk hn hl hw
  have hx := C.1.1
  have hb := C.1.2.1
  have hl : lv_has ls 2 [(0, .ref a0), (1, .ref a1)] := hl
  refine lv_aload_n hx hb dX6_apply_0 rfl (lv_at hl 1 rfl) ?_
  obtain ⟨h43, hq⟩ := hq
  refine gfX6_56 C hw hw.2.2.1 h43 dX6_apply_1 ?_
  refine lv_aload_n hx hb dX6_apply_4 rfl (lv_at hl 0 rfl) ?_
  refine gfX6_37 C hw hw.2.2.1 h0 dX6_apply_5 ?_
  refine lv_icmp_le (tgt := 19) hx hb dX6_apply_8 (by decide) (fun c44 => ?_) (fun c44 => ?_)
  · replace hq := hq.1 c44
    exact lt_X6_apply_19 C hr hlk hn h0  hq hw (lv_sub hl [0, 1] rfl)
  · replace hq := hq.2 c44
    refine lv_aload_n hx hb dX6_apply_11 rfl (lv_at hl 0 rfl) ?_
    refine lv_aload_n hx hb dX6_apply_12 rfl (lv_at hl 1 rfl) ?_
    refine gfX6_56 C hw hw.2.2.1 h43 dX6_apply_13 ?_
    refine r_callV (T := TX6) (N := 9) (ci := 6) (index := 89) (n := 1) (d2 := 2) (mc := 0) (ms := 0) (As := [.int (mI M0 a1 0)]) (rest := []) C hw (ct_X6_goTo hq) kvX6_89 hq.1 (by decide) rfl ⟨by decide, by decide⟩ ⟨by decide, by decide⟩ rfl hl.1 rfl (Nat.le_of_ble_eq_true rfl) dX6_apply_16 (fun r M46 H locs hp hle hw => ?_)
    obtain ⟨rfl, hq⟩ := hp
    refine W.eq (g2 := F0 m 19 ls []) rfl ?_
    exact lt_X6_apply_19 C hr hlk hn h0  hq hw (lv_sub hl [0, 1] rfl)

def bd_X6_replay_26 (g : Gh) (M0 : Mem) (a0 : Nat) (post : Mem → Prop)  (bk26 : Int32 × Mem → Prop) (x1 : Int32)  (M : Mem) : Prop :=
  (((mI M a0 3) ≤ x1) → post M) ∧ (¬ ((mI M a0 3) ≤ x1) → ((120 ≤ x1) → post M) ∧ (¬ (120 ≤ x1) → ∃ q3, mR M a0 2 = some q3 ∧ (okc (gB g) M0 q3 18 ∧ (vp_in x1 (mN M0 q3) ∧ (∃ q7, mR M q3 (Int32.toNatClampNeg x1) = some q7 ∧ (wp_X6_apply g M a0 q7 (fun M10 => bk26 ((x1 + 1), M10))))))))
def wp_X6_replay (g : Gh) (M0 : Mem) (a0 : Nat) (post : Mem → Prop) : Prop :=
  okc (gB g) M0 a0 6 ∧ (∀ M11, M11 = uI M0 a0 4 0 → (∃ q13, mR M11 a0 8 = some q13 ∧ (okc (gB g) M0 q13 14 ∧ (vp_in 0 (mN M0 q13) ∧ (∀ M17, M17 = uI M11 q13 (Int32.toNatClampNeg 0) 0 → (vp_in 1 (mN M0 q13) ∧ (∀ M20, M20 = uI M17 q13 (Int32.toNatClampNeg 1) 0 → (wp_X6_goTo g M20 a0 0 (fun M23 => (∃ n : Nat, lfp (fun bk z => bd_X6_replay_26 g M0 a0 post  bk z.1 z.2) n (0, M23)))))))))))
set_option maxHeartbeats 4000000 in
set_option maxRecDepth 100000 in
theorem lp_X6_replay_26 {l : Launch} {g : Gh} {p : Program} {e : Env} {s : State} {m : MethodId} {args : Array Value} {below : List Frame} {meth : Method} {c : Code} {M0 : Mem} {a0 : Nat} {post : Mem → Prop} (C : Cx g p s m args c cX6_replay 2 RX6) (hr : meth.sig.returnType = none) (hlk : meth.locks = false) (hn : meth.name = "replay") (h0 : okc (gB g) M0 a0 6)  : ∀ (nf : Nat) (x1 : Int32)  (M : Mem) (H : Heap) (locs : List Loc) (ls : Array Slot), lfp (fun bk z => bd_X6_replay_26 g M0 a0 post  bk z.1 z.2) nf (x1, M) → Wd g s M0 M H locs → lv_has ls 2 [(0, .ref a0), (1, .int x1)] → W p l e (rmo 4 0 0) s m args below meth c H locs 0 0 (MQ below (Cq g M0 (pV post)) args s 0 0 (gA g)) (F0 m 26 ls []) := by
  have hx := C.1.1
  have hb := C.1.2.1
  intro nf
  induction nf with
  | zero => intro _ _ H locs ls hq; exact hq.elim
  | succ nf hk26 =>
    intro x1 M H locs ls hq hw hl
    replace hq : bd_X6_replay_26 g M0 a0 post  (lfp (fun bk z => bd_X6_replay_26 g M0 a0 post  bk z.1 z.2) nf) x1 M := hq
    unfold bd_X6_replay_26 at hq
    refine lv_iload_n hx hb dX6_replay_26 rfl (lv_at hl 1 rfl) ?_
    refine lv_aload_n hx hb dX6_replay_27 rfl (lv_at hl 0 rfl) ?_
    refine gfX6_30 C hw hw.2.2.1 h0 dX6_replay_28 ?_
    refine lv_icmp_ge (tgt := 56) hx hb dX6_replay_31 (by decide) (fun c1 => ?_) (fun c1 => ?_)
    · replace hq := hq.1 c1
      exact r_vret C hr hlk hw dX6_replay_56 (by decide) (by decide) ⟨rfl, hq⟩
    · replace hq := hq.2 c1
      refine lv_iload_n hx hb dX6_replay_34 rfl (lv_at hl 1 rfl) ?_
      refine lv_bipush (v := 120) hx hb dX6_replay_35 (by decide) ?_
      refine lv_icmp_ge (tgt := 56) hx hb dX6_replay_37 (by decide) (fun c2 => ?_) (fun c2 => ?_)
      · replace hq := hq.1 c2
        exact r_vret C hr hlk hw dX6_replay_56 (by decide) (by decide) ⟨rfl, hq⟩
      · replace hq := hq.2 c2
        refine lv_aload_n hx hb dX6_replay_40 rfl (lv_at hl 0 rfl) ?_
        refine lv_aload_n hx hb dX6_replay_41 rfl (lv_at hl 0 rfl) ?_
        obtain ⟨q3, e4, hq⟩ := hq
        refine gfX6_21 C hw hw.2.2.1 h0 e4 dX6_replay_42 ?_
        refine lv_iload_n hx hb dX6_replay_45 rfl (lv_at hl 1 rfl) ?_
        obtain ⟨h5, hq⟩ := hq
        obtain ⟨h6, hq⟩ := hq
        obtain ⟨q7, e8, hq⟩ := hq
        refine q_aald C hw hw.2.2.1 h5 (by decide) (by decide) rfl h6 e8 dX6_replay_46 ?_
        refine r_callV (T := TX6) (N := 9) (ci := 6) (index := 68) (n := 1) (d2 := 3) (mc := 0) (ms := 0) (As := [.ref q7]) (rest := []) C hw (ct_X6_apply hq) kvX6_68 hq.1 (by decide) rfl ⟨by decide, by decide⟩ ⟨by decide, by decide⟩ rfl hl.1 rfl (Nat.le_of_ble_eq_true rfl) dX6_replay_47 (fun r M10 H locs hp hle hw => ?_)
        obtain ⟨rfl, hq⟩ := hp
        refine W.eq (g2 := F0 m 50 ls []) rfl ?_
        refine lv_iinc (v := (x1 + 1)) (lv' := [(1, .int (x1 + 1)), (0, .ref a0)]) hx hb dX6_replay_50 hl (k := 1) rfl rfl (by decide) rfl (fun ls hl => ?_)
        refine lv_goto (tgt := 26) hx hb dX6_replay_53 (by decide) ?_
        exact hk26 _ _ _ _ _ hq hw (lv_sub hl [1, 0] rfl)
set_option maxHeartbeats 4000000 in
set_option maxRecDepth 100000 in
theorem ct_X6_replay {l : Launch} {g : Gh} {M0 : Mem} {a0 : Nat} {post : Mem → Prop} (hq : wp_X6_replay g M0 a0 post) : Ct l g yX6_replay cX6_replay 2 none 4 0 0 [.ref a0] M0 (pV post) := by
  unfold wp_X6_replay at hq
  obtain ⟨h0, hq⟩ := hq
  refine Ct.of (by decide) (Nat.le_of_ble_eq_true rfl) ?_
  intro p e s m below meth c ls C hr hlk hn hl hw
  have hx := C.1.1
  have hb := C.1.2.1
  have hl : lv_has ls 2 [(0, .ref a0)] := hl
  refine lv_aload_n hx hb dX6_replay_0 rfl (lv_at hl 0 rfl) ?_
  refine lv_iconst (v := 0) hx hb dX6_replay_1 (by decide) ?_
  refine pfX6_86 C hw hw.2.2.1 h0 dX6_replay_2 (fun H locs hw => ?_)
  generalize e12 : uI M0 a0 4 0 = M11 at hw
  replace hq := hq M11 e12.symm
  refine lv_aload_n hx hb dX6_replay_5 rfl (lv_at hl 0 rfl) ?_
  obtain ⟨q13, e14, hq⟩ := hq
  refine gfX6_26 C hw hw.2.2.1 h0 e14 dX6_replay_6 ?_
  refine lv_iconst (v := 0) hx hb dX6_replay_9 (by decide) ?_
  refine lv_iconst (v := 0) hx hb dX6_replay_10 (by decide) ?_
  obtain ⟨h15, hq⟩ := hq
  obtain ⟨h16, hq⟩ := hq
  refine q_iast C hw hw.2.2.1 h15 h16 dX6_replay_11 (fun H locs hw => ?_)
  generalize e18 : uI M11 q13 (Int32.toNatClampNeg 0) 0 = M17 at hw
  replace hq := hq M17 e18.symm
  have e14 : mR M17 a0 8 = some q13 := by rw [← e18, mR_uI]; exact e14
  refine lv_aload_n hx hb dX6_replay_12 rfl (lv_at hl 0 rfl) ?_
  refine gfX6_26 C hw hw.2.2.1 h0 e14 dX6_replay_13 ?_
  refine lv_iconst (v := 1) hx hb dX6_replay_16 (by decide) ?_
  refine lv_iconst (v := 0) hx hb dX6_replay_17 (by decide) ?_
  obtain ⟨h19, hq⟩ := hq
  refine q_iast C hw hw.2.2.1 h15 h19 dX6_replay_18 (fun H locs hw => ?_)
  generalize e21 : uI M17 q13 (Int32.toNatClampNeg 1) 0 = M20 at hw
  replace hq := hq M20 e21.symm
  have e14 : mR M20 a0 8 = some q13 := by rw [← e21, mR_uI]; exact e14
  refine lv_aload_n hx hb dX6_replay_19 rfl (lv_at hl 0 rfl) ?_
  refine lv_iconst (v := 0) hx hb dX6_replay_20 (by decide) ?_
  refine r_callV (T := TX6) (N := 9) (ci := 6) (index := 89) (n := 1) (d2 := 2) (mc := 0) (ms := 0) (As := [.int 0]) (rest := []) C hw (ct_X6_goTo hq) kvX6_89 hq.1 (by decide) rfl ⟨by decide, by decide⟩ ⟨by decide, by decide⟩ rfl hl.1 rfl (Nat.le_of_ble_eq_true rfl) dX6_replay_21 (fun r M23 H locs hp hle hw => ?_)
  obtain ⟨rfl, hq⟩ := hp
  refine W.eq (g2 := F0 m 24 ls []) rfl ?_
  refine lv_iconst (v := 0) hx hb dX6_replay_24 (by decide) ?_
  refine lv_istore_n (lv' := [(1, .int 0), (0, .ref a0)]) hx hb dX6_replay_25 rfl hl (by decide) rfl (fun ls hl => ?_)
  obtain ⟨nf, hq⟩ := hq
  exact lp_X6_replay_26 C hr hlk hn h0  nf _ _ _ _ _ hq hw (lv_sub hl [1, 0] rfl)
