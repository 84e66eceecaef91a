set_option maxRecDepth 100000 in
def lb_X10_readRun_91  (g : Gh) (M0 : Mem) (a0 : Nat) (post : Mem → Prop)  (x1 : Int32) (x2 : Int32) (x3 : Int64) (x5 : Int32)  (M : Mem) : Prop :=
  ∀ M1, M1 = uI M a0 5 (((mI M a0 3) + x1) + x2) → (wp_X10_setRun g M1 a0 x1 x2 x3 x5 (fun M4 => post M4))
set_option maxRecDepth 100000 in
def lb_X10_readRun_88  (g : Gh) (M0 : Mem) (a0 : Nat) (post : Mem → Prop) (bk15 : Int32 × Int32 × Int64 × Int32 × Int32 × Mem → Prop) (x1 : Int32) (x2 : Int32) (x3 : Int64) (x5 : Int32) (x6 : Int32)  (M : Mem) : Prop :=
  bk15 (x1, x2, x3, x5, x6, M)
set_option maxRecDepth 100000 in
def bd_X10_readRun_15  (g : Gh) (M0 : Mem) (a0 : Nat) (post : Mem → Prop)  (bk15 : Int32 × Int32 × Int64 × Int32 × Int32 × Mem → Prop) (x1 : Int32) (x2 : Int32) (x3 : Int64) (x5 : Int32) (x6 : Int32)  (M : Mem) : Prop :=
  (((mI M a0 1) ≤ x6) → lb_X10_readRun_91  g M0 a0 post  x1 x2 x3 x5 M) ∧ (¬ ((mI M a0 1) ≤ x6) → wp_X10_byteAt g M a0 x6 (fun v6 M7 => wp_X10_isLetter g M7 v6 (fun v8 M9 => ((v8 = 0) → wp_X10_isDigit g M9 v6 (fun v11 M12 => ((v11 = 0) → lb_X10_readRun_91  g M0 a0 post  x1 x2 x3 x5 M12) ∧ (¬ (v11 = 0) → lb_X10_readRun_88  g M0 a0 post bk15 x1 (x2 + 1) x3 ((x5 * 10) + (v6 - 48)) (x6 + 1) M12))) ∧ (¬ (v8 = 0) → lb_X10_readRun_88  g M0 a0 post bk15 (x1 + 1) x2 ((x3 * 27) + (Int32.toInt64 ((v6 - 97) + 1))) x5 (x6 + 1) M9))))
set_option maxRecDepth 100000 in
def wp_X10_readRun  (g : Gh) (M0 : Mem) (a0 : Nat) (post : Mem → Prop) : Prop :=
  okc (gB g) M0 a0 10 ∧ ((∃ n : Nat, lfp (fun bk z => bd_X10_readRun_15  g M0 a0 post  bk z.1 z.2.1 z.2.2.1 z.2.2.2.1 z.2.2.2.2.1 z.2.2.2.2.2) n (0, 0, 0, 0, (mI M0 a0 3), M0)))
set_option maxHeartbeats 4000000 in
set_option maxRecDepth 100000 in
theorem lt_X10_readRun_91 {l : Launch} {g : Gh} {p : Program} {e : Env} {s : State} {m : MethodId} {args : Array Value} {below : List Frame} {meth : Method} {c : Code} {H : Heap} {locs : List Loc} {ls : Array Slot} {M0 M : Mem} {a0 : Nat} {post : Mem → Prop} {x1 : Int32} {x2 : Int32} {x3 : Int64} {x5 : Int32}   (C : Cx g p s m args c cX10_readRun 8 RX10) (hr : meth.sig.returnType = none) (hlk : meth.locks = false) (hn : meth.name = "readRun") (h0 : okc (gB g) M0 a0 10)  (hq : lb_X10_readRun_91  g M0 a0 post  x1 x2 x3 x5 M) (hw : Wd g s M0 M H locs) (hl : lv_has ls 8 [(0, .ref a0), (1, .int x1), (2, .int x2), (3, .long x3), (5, .int x5)]) : W p l e (rmo 1 0 0) s m args below meth c H locs 0 0 (MQ below (Cq g M0 (pV post)) args s 0 0 (gA g)) (F0 m 91 ls []) := by
  have hx := C.1.1
  have hb := C.1.2.1
  unfold lb_X10_readRun_91 at hq
  refine lv_aload_n hx hb dX10_readRun_91 rfl (lv_at hl 0 rfl) ?_
  refine lv_aload_n hx hb dX10_readRun_92 rfl (lv_at hl 0 rfl) ?_
  refine gfX10_22 C hw hw.2.2.1 h0 dX10_readRun_93 ?_
  refine lv_iload_n hx hb dX10_readRun_96 rfl (lv_at hl 1 rfl) ?_
  refine lv_iadd hx hb dX10_readRun_97 ?_
  refine lv_iload_n hx hb dX10_readRun_98 rfl (lv_at hl 2 rfl) ?_
  refine lv_iadd hx hb dX10_readRun_99 ?_
  refine pfX10_29 C hw hw.2.2.1 h0 dX10_readRun_100 (fun H locs hw => ?_)
  generalize e2 : uI M a0 5 (((mI M a0 3) + x1) + x2) = M1 at hw
  replace hq := hq M1 e2.symm
  refine lv_aload_n hx hb dX10_readRun_103 rfl (lv_at hl 0 rfl) ?_
  refine lv_iload_n hx hb dX10_readRun_104 rfl (lv_at hl 1 rfl) ?_
  refine lv_iload_n hx hb dX10_readRun_105 rfl (lv_at hl 2 rfl) ?_
  refine lv_lload_n hx hb dX10_readRun_106 rfl (lv_at hl 3 rfl) ?_
  refine lv_iload hx hb dX10_readRun_107 (lv_at hl 4 rfl) ?_
  refine r_callV (T := TX10) (N := 6) (ci := 10) (index := 65) (n := 4) (d2 := 0) (mc := 0) (ms := 0) (As := [.int x1, .int x2, .long x3, .int x5]) (rest := []) C hw (ct_X10_setRun hq) kvX10_65 hq.1 (by decide) rfl ⟨by decide, by decide⟩ ⟨by decide, by decide⟩ rfl hl.1 rfl (Nat.le_of_ble_eq_true rfl) dX10_readRun_109 (fun r M4 H locs hp hle hw => ?_)
  obtain ⟨rfl, hq⟩ := hp
  refine W.eq (g2 := F0 m 112 ls []) rfl ?_
  exact r_vret C hr hlk hw dX10_readRun_112 (Nat.le_refl _) (Nat.le_refl _) ⟨rfl, hq⟩
set_option maxHeartbeats 4000000 in
set_option maxRecDepth 100000 in
theorem lt_X10_readRun_88 {l : Launch} {g : Gh} {p : Program} {e : Env} {s : State} {m : MethodId} {args : Array Value} {below : List Frame} {meth : Method} {c : Code} {H : Heap} {locs : List Loc} {ls : Array Slot} {M0 M : Mem} {a0 : Nat} {post : Mem → Prop} {x1 : Int32} {x2 : Int32} {x3 : Int64} {x5 : Int32} {x6 : Int32}   (C : Cx g p s m args c cX10_readRun 8 RX10) (hr : meth.sig.returnType = none) (hlk : meth.locks = false) (hn : meth.name = "readRun") (h0 : okc (gB g) M0 a0 10) {bk15 : Int32 × Int32 × Int64 × Int32 × Int32 × Mem → Prop} (hk15 : ∀ (x1 : Int32) (x2 : Int32) (x3 : Int64) (x5 : Int32) (x6 : Int32) (M : Mem) (H : Heap) (locs : List Loc) (ls : Array Slot), bk15 (x1, x2, x3, x5, x6, M) → Wd g s M0 M H locs → lv_has ls 8 [(0, .ref a0), (1, .int x1), (2, .int x2), (3, .long x3), (5, .int x5), (6, .int x6)] → W p l e (rmo 1 0 0) s m args below meth c H locs 0 0 (MQ below (Cq g M0 (pV post)) args s 0 0 (gA g)) (F0 m 15 ls [])) (hq : lb_X10_readRun_88  g M0 a0 post bk15 x1 x2 x3 x5 x6 M) (hw : Wd g s M0 M H locs) (hl : lv_has ls 8 [(0, .ref a0), (1, .int x1), (2, .int x2), (3, .long x3), (5, .int x5), (6, .int x6)]) : W p l e (rmo 1 0 0) s m args below meth c H locs 0 0 (MQ below (Cq g M0 (pV post)) args s 0 0 (gA g)) (F0 m 88 ls []) := by
  have hx := C.1.1
  have hb := C.1.2.1
  unfold lb_X10_readRun_88 at hq
  refine lv_goto (tgt := 15) hx hb dX10_readRun_88 (by decide) ?_
  exact hk15 _ _ _ _ _ _ _ _ _ hq hw (lv_sub hl [0, 1, 2, 3, 4, 5] rfl)
set_option maxHeartbeats 4000000 in
set_option maxRecDepth 100000 in
theorem lp_X10_readRun_15 {l : Launch} {g : Gh} {p : Program} {e : Env} {s : State} {m : MethodId} {args : Array Value} {below : List Frame} {meth : Method} {c : Code} {M0 : Mem} {a0 : Nat} {post : Mem → Prop}  (C : Cx g p s m args c cX10_readRun 8 RX10) (hr : meth.sig.returnType = none) (hlk : meth.locks = false) (hn : meth.name = "readRun") (h0 : okc (gB g) M0 a0 10)  : ∀ (nf : Nat) (x1 : Int32) (x2 : Int32) (x3 : Int64) (x5 : Int32) (x6 : Int32)  (M : Mem) (H : Heap) (locs : List Loc) (ls : Array Slot), lfp (fun bk z => bd_X10_readRun_15  g M0 a0 post  bk z.1 z.2.1 z.2.2.1 z.2.2.2.1 z.2.2.2.2.1 z.2.2.2.2.2) nf (x1, x2, x3, x5, x6, M) → Wd g s M0 M H locs → lv_has ls 8 [(0, .ref a0), (1, .int x1), (2, .int x2), (3, .long x3), (5, .int x5), (6, .int x6)] → W p l e (rmo 1 0 0) s m args below meth c H locs 0 0 (MQ below (Cq g M0 (pV post)) args s 0 0 (gA g)) (F0 m 15 ls []) := by
  have hx := C.1.1
  have hb := C.1.2.1
  intro nf
  induction nf with
  | zero => intro _ _ _ _ _ _ H locs ls hq; exact hq.elim
  | succ nf hk15 =>
    intro x1 x2 x3 x5 x6 M H locs ls hq hw hl
    replace hq : bd_X10_readRun_15  g M0 a0 post  (lfp (fun bk z => bd_X10_readRun_15  g M0 a0 post  bk z.1 z.2.1 z.2.2.1 z.2.2.2.1 z.2.2.2.2.1 z.2.2.2.2.2) nf) x1 x2 x3 x5 x6 M := hq
    unfold bd_X10_readRun_15 at hq
    refine lv_iload hx hb dX10_readRun_15 (lv_at hl 5 rfl) ?_
    refine lv_aload_n hx hb dX10_readRun_17 rfl (lv_at hl 0 rfl) ?_
    refine gfX10_15 C hw hw.2.2.1 h0 dX10_readRun_18 ?_
    refine lv_icmp_ge (tgt := 91) hx hb dX10_readRun_21 (by decide) (fun c5 => ?_) (fun c5 => ?_)
    · replace hq := hq.1 c5
      exact lt_X10_readRun_91  C hr hlk hn h0  hq hw (lv_sub hl [0, 1, 2, 3, 4] rfl)
    · replace hq := hq.2 c5
      refine lv_aload_n hx hb dX10_readRun_24 rfl (lv_at hl 0 rfl) ?_
      refine lv_iload hx hb dX10_readRun_25 (lv_at hl 5 rfl) ?_
      refine r_callV (T := TX10) (N := 6) (ci := 10) (index := 35) (n := 1) (d2 := 0) (mc := 0) (ms := 0) (As := [.int x6]) (rest := []) C hw (ct_X10_byteAt hq) kvX10_35 hq.1 (by decide) rfl ⟨by decide, by decide⟩ ⟨by decide, by decide⟩ rfl hl.1 rfl (Nat.le_of_ble_eq_true rfl) dX10_readRun_27 (fun r M7 H locs hp hle hw => ?_)
      obtain ⟨v6, rfl, hq⟩ := hp
      refine W.eq (g2 := F0 m 30 ls [.int v6]) rfl ?_
      refine lv_istore (lv' := [(7, .int v6), (0, .ref a0), (1, .int x1), (2, .int x2), (3, .long x3), (5, .int x5), (6, .int x6)]) hx hb dX10_readRun_30 hl (by decide) rfl (fun ls hl => ?_)
      refine lv_iload hx hb dX10_readRun_32 (lv_at hl 0 rfl) ?_
      refine r_callS (index := 39) (n := 1) (d2 := 0) (mc := 0) (ms := 0) (As := [.int v6]) (rest := []) C hw (ct_X10_isLetter hq) ksX10_39 ⟨by decide, by decide⟩ ⟨by decide, by decide⟩ rfl hl.1 rfl (Nat.le_of_ble_eq_true rfl) dX10_readRun_34 (fun r M9 H locs hp hle hw => ?_)
      obtain ⟨v8, rfl, hq⟩ := hp
      refine W.eq (g2 := F0 m 37 ls [.int v8]) rfl ?_
      refine lv_if_eq (tgt := 61) hx hb dX10_readRun_37 (by decide) (fun c10 => ?_) (fun c10 => ?_)
      · replace hq := hq.1 c10
        refine lv_iload hx hb dX10_readRun_61 (lv_at hl 0 rfl) ?_
        refine r_callS (index := 43) (n := 1) (d2 := 0) (mc := 0) (ms := 0) (As := [.int v6]) (rest := []) C hw (ct_X10_isDigit hq) ksX10_43 ⟨by decide, by decide⟩ ⟨by decide, by decide⟩ rfl hl.1 rfl (Nat.le_of_ble_eq_true rfl) dX10_readRun_63 (fun r M12 H locs hp hle hw => ?_)
        obtain ⟨v11, rfl, hq⟩ := hp
        refine W.eq (g2 := F0 m 66 ls [.int v11]) rfl ?_
        refine lv_if_eq (tgt := 91) hx hb dX10_readRun_66 (by decide) (fun c13 => ?_) (fun c13 => ?_)
        · replace hq := hq.1 c13
          exact lt_X10_readRun_91  C hr hlk hn h0  hq hw (lv_sub hl [1, 2, 3, 4, 5] rfl)
        · replace hq := hq.2 c13
          refine lv_iinc (v := (x2 + 1)) (lv' := [(2, .int (x2 + 1)), (7, .int v6), (0, .ref a0), (1, .int x1), (3, .long x3), (5, .int x5), (6, .int x6)]) hx hb dX10_readRun_69 hl (k := 3) rfl rfl (by decide) rfl (fun ls hl => ?_)
          refine lv_iload hx hb dX10_readRun_72 (lv_at hl 5 rfl) ?_
          refine lv_bipush (v := 10) hx hb dX10_readRun_74 (by decide) ?_
          refine lv_imul hx hb dX10_readRun_76 ?_
          refine lv_iload hx hb dX10_readRun_77 (lv_at hl 1 rfl) ?_
          refine lv_bipush (v := 48) hx hb dX10_readRun_79 (by decide) ?_
          refine lv_isub hx hb dX10_readRun_81 ?_
          refine lv_iadd hx hb dX10_readRun_82 ?_
          refine lv_istore (lv' := [(5, .int ((x5 * 10) + (v6 - 48))), (2, .int (x2 + 1)), (7, .int v6), (0, .ref a0), (1, .int x1), (3, .long x3), (6, .int x6)]) hx hb dX10_readRun_83 hl (by decide) rfl (fun ls hl => ?_)
          refine lv_iinc (v := (x6 + 1)) (lv' := [(6, .int (x6 + 1)), (5, .int ((x5 * 10) + (v6 - 48))), (2, .int (x2 + 1)), (7, .int v6), (0, .ref a0), (1, .int x1), (3, .long x3)]) hx hb dX10_readRun_85 hl (k := 6) rfl rfl (by decide) rfl (fun ls hl => ?_)
          exact lt_X10_readRun_88  C hr hlk hn h0 hk15 hq hw (lv_sub hl [4, 5, 2, 6, 1, 0] rfl)
      · replace hq := hq.2 c10
        refine lv_iinc (v := (x1 + 1)) (lv' := [(1, .int (x1 + 1)), (7, .int v6), (0, .ref a0), (2, .int x2), (3, .long x3), (5, .int x5), (6, .int x6)]) hx hb dX10_readRun_40 hl (k := 2) rfl rfl (by decide) rfl (fun ls hl => ?_)
        refine lv_lload_n hx hb dX10_readRun_43 rfl (lv_at hl 4 rfl) ?_
        refine lv_ldc2 (v := 27) hx hb C.1.2.2.2.1 (C.1.2.2.2.2 _ w_446) dX10_readRun_44 ?_
        refine lv_lmul hx hb dX10_readRun_47 ?_
        refine lv_iload hx hb dX10_readRun_48 (lv_at hl 1 rfl) ?_
        refine lv_bipush (v := 97) hx hb dX10_readRun_50 (by decide) ?_
        refine lv_isub hx hb dX10_readRun_52 ?_
        refine lv_iconst (v := 1) hx hb dX10_readRun_53 (by decide) ?_
        refine lv_iadd hx hb dX10_readRun_54 ?_
        refine lv_i2l (v := (Int32.toInt64 ((v6 - 97) + 1))) hx hb dX10_readRun_55 rfl ?_
        refine lv_ladd hx hb dX10_readRun_56 ?_
        refine lv_lstore_n (lv' := [(3, .long ((x3 * 27) + (Int32.toInt64 ((v6 - 97) + 1)))), (1, .int (x1 + 1)), (7, .int v6), (0, .ref a0), (2, .int x2), (5, .int x5), (6, .int x6)]) hx hb dX10_readRun_57 rfl hl (by decide) rfl (fun ls hl => ?_)
        refine lv_goto (tgt := 85) hx hb dX10_readRun_58 (by decide) ?_
        refine lv_iinc (v := (x6 + 1)) (lv' := [(6, .int (x6 + 1)), (3, .long ((x3 * 27) + (Int32.toInt64 ((v6 - 97) + 1)))), (1, .int (x1 + 1)), (7, .int v6), (0, .ref a0), (2, .int x2), (5, .int x5)]) hx hb dX10_readRun_85 hl (k := 6) rfl rfl (by decide) rfl (fun ls hl => ?_)
        exact lt_X10_readRun_88  C hr hlk hn h0 hk15 hq hw (lv_sub hl [4, 2, 5, 1, 6, 0] rfl)
set_option maxHeartbeats 4000000 in
set_option maxRecDepth 100000 in
theorem ct_X10_readRun {l : Launch} {g : Gh} {M0 : Mem} {a0 : Nat} {post : Mem → Prop}  (hq : wp_X10_readRun  g M0 a0 post) : Ct l g yX10_readRun cX10_readRun 8 none 1 0 0 [.ref a0] M0 (pV post) := by
  unfold wp_X10_readRun at hq
  obtain ⟨h0, hq⟩ := hq
  refine Ct.of (by decide) (Nat.le_of_ble_eq_true rfl) ?_
  intro p e s m below meth c ls C hr hlk hn hl hw
  have hx := C.1.1
  have hb := C.1.2.1
  have hl : lv_has ls 8 [(0, .ref a0)] := hl
  refine lv_iconst (v := 0) hx hb dX10_readRun_0 (by decide) ?_
  refine lv_istore_n (lv' := [(1, .int 0), (0, .ref a0)]) hx hb dX10_readRun_1 rfl hl (by decide) rfl (fun ls hl => ?_)
  refine lv_iconst (v := 0) hx hb dX10_readRun_2 (by decide) ?_
  refine lv_istore_n (lv' := [(2, .int 0), (1, .int 0), (0, .ref a0)]) hx hb dX10_readRun_3 rfl hl (by decide) rfl (fun ls hl => ?_)
  refine lv_lconst (v := 0) hx hb dX10_readRun_4 (by decide) ?_
  refine lv_lstore_n (lv' := [(3, .long 0), (2, .int 0), (1, .int 0), (0, .ref a0)]) hx hb dX10_readRun_5 rfl hl (by decide) rfl (fun ls hl => ?_)
  refine lv_iconst (v := 0) hx hb dX10_readRun_6 (by decide) ?_
  refine lv_istore (lv' := [(5, .int 0), (3, .long 0), (2, .int 0), (1, .int 0), (0, .ref a0)]) hx hb dX10_readRun_7 hl (by decide) rfl (fun ls hl => ?_)
  refine lv_aload_n hx hb dX10_readRun_9 rfl (lv_at hl 4 rfl) ?_
  refine gfX10_22 C hw hw.2.2.1 h0 dX10_readRun_10 ?_
  refine lv_istore (lv' := [(6, .int (mI M0 a0 3)), (5, .int 0), (3, .long 0), (2, .int 0), (1, .int 0), (0, .ref a0)]) hx hb dX10_readRun_13 hl (by decide) rfl (fun ls hl => ?_)
  obtain ⟨nf, hq⟩ := hq
  exact lp_X10_readRun_15  C hr hlk hn h0  nf _ _ _ _ _ _ _ _ _ hq hw (lv_sub hl [5, 4, 3, 2, 1, 0] rfl)

set_option maxRecDepth 100000 in
def wp_J0_isLatin1_aae02  (g : Gh) (M0 : Mem) (i : Nat) (post : Int32 → Mem → Prop) : Prop :=
  i < 14 ∧ ((((1 : Int32) = 0) → post 0 M0) ∧ (¬ ((1 : Int32) = 0) → (((0 : Int32) = 0) → post 1 M0) ∧ (¬ ((0 : Int32) = 0) → post 0 M0)))
set_option maxHeartbeats 4000000 in
set_option maxRecDepth 100000 in
theorem ct_J0_isLatin1_aae02 {l : Launch} {g : Gh} {M0 : Mem} {i : Nat} {post : Int32 → Mem → Prop}  (hq : wp_J0_isLatin1_aae02  g M0 i post) : Ct l g yJ0_isLatin1_aae02 cJ0_isLatin1_aae02 1 (some .boolean) 0 0 0 [.ref (gK g i)] M0 (pI post) := by
  unfold wp_J0_isLatin1_aae02 at hq
  obtain ⟨h0, hq⟩ := hq
  refine Ct.of (by decide) (Nat.le_of_ble_eq_true rfl) ?_
  intro p e s m below meth c ls C hr hlk hn hl hw
  have hx := C.1.1
  have hb := C.1.2.1
  have hl : lv_has ls 1 [(0, .ref (gK g i))] := hl
  refine va_gets hx hb C.2.2.2.2.1.2.2.1 hw.2.2.2 C.1.2.2.2.1 (C.1.2.2.2.2 _ w_467) (fun _ h => h) dJ0_isLatin1_aae02_0 ?_
  refine lv_if_eq (tgt := 17) hx hb dJ0_isLatin1_aae02_3 (by decide) (fun c1 => ?_) (fun c1 => ?_)
  · replace hq := hq.1 c1
    refine lv_iconst (v := 0) hx hb dJ0_isLatin1_aae02_17 (by decide) ?_
    exact r_zret C hr hlk hw dJ0_isLatin1_aae02_18 (Nat.le_refl _) (Nat.le_refl _) (by decide) ⟨_, rfl, hq⟩
  · replace hq := hq.2 c1
    refine lv_aload_n hx hb dJ0_isLatin1_aae02_6 rfl (lv_at hl 0 rfl) ?_
    refine r_scod C hw h0 w_1608 dJ0_isLatin1_aae02_7 ?_
    refine lv_if_ne (tgt := 17) hx hb dJ0_isLatin1_aae02_10 (by decide) (fun c2 => ?_) (fun c2 => ?_)
    · replace hq := hq.2 c2
      refine lv_iconst (v := 0) hx hb dJ0_isLatin1_aae02_17 (by decide) ?_
      exact r_zret C hr hlk hw dJ0_isLatin1_aae02_18 (Nat.le_refl _) (Nat.le_refl _) (by decide) ⟨_, rfl, hq⟩
    · replace hq := hq.1 c2
      refine lv_iconst (v := 1) hx hb dJ0_isLatin1_aae02_13 (by decide) ?_
      refine lv_goto (tgt := 18) hx hb dJ0_isLatin1_aae02_14 (by decide) ?_
      exact r_zret C hr hlk hw dJ0_isLatin1_aae02_18 (Nat.le_refl _) (Nat.le_refl _) (by decide) ⟨_, rfl, hq⟩

set_option maxRecDepth 100000 in
def wp_J0_coder_7d493  (g : Gh) (M0 : Mem) (i : Nat) (post : Int32 → Mem → Prop) : Prop :=
  i < 14 ∧ ((((1 : Int32) = 0) → post 1 M0) ∧ (¬ ((1 : Int32) = 0) → post 0 M0))
set_option maxHeartbeats 4000000 in
set_option maxRecDepth 100000 in
theorem ct_J0_coder_7d493 {l : Launch} {g : Gh} {M0 : Mem} {i : Nat} {post : Int32 → Mem → Prop}  (hq : wp_J0_coder_7d493  g M0 i post) : Ct l g yJ0_coder_7d493 cJ0_coder_7d493 1 (some .byte) 0 0 0 [.ref (gK g i)] M0 (pI post) := by
  unfold wp_J0_coder_7d493 at hq
  obtain ⟨h0, hq⟩ := hq
  refine Ct.of (by decide) (Nat.le_of_ble_eq_true rfl) ?_
  intro p e s m below meth c ls C hr hlk hn hl hw
  have hx := C.1.1
  have hb := C.1.2.1
  have hl : lv_has ls 1 [(0, .ref (gK g i))] := hl
  refine va_gets hx hb C.2.2.2.2.1.2.2.1 hw.2.2.2 C.1.2.2.2.1 (C.1.2.2.2.2 _ w_467) (fun _ h => h) dJ0_coder_7d493_0 ?_
  refine lv_if_eq (tgt := 13) hx hb dJ0_coder_7d493_3 (by decide) (fun c1 => ?_) (fun c1 => ?_)
  · replace hq := hq.1 c1
    refine lv_iconst (v := 1) hx hb dJ0_coder_7d493_13 (by decide) ?_
    exact r_nret C hr hlk hw dJ0_coder_7d493_14 (Nat.le_refl _) (Nat.le_refl _) rfl ⟨_, rfl, hq⟩
  · replace hq := hq.2 c1
    refine lv_aload_n hx hb dJ0_coder_7d493_6 rfl (lv_at hl 0 rfl) ?_
    refine r_scod C hw h0 w_1608 dJ0_coder_7d493_7 ?_
    refine lv_goto (tgt := 14) hx hb dJ0_coder_7d493_10 (by decide) ?_
    exact r_nret C hr hlk hw dJ0_coder_7d493_14 (Nat.le_refl _) (Nat.le_refl _) rfl ⟨_, rfl, hq⟩

set_option maxRecDepth 100000 in
def wp_J0_length_8abf5  (g : Gh) (M0 : Mem) (i : Nat) (post : Int32 → Mem → Prop) : Prop :=
  i < 14 ∧ (wp_J0_coder_7d493 g M0 i (fun v1 M2 => post ((nI (stl.getD i 0)) >>> (v1 &&& 31)) M2))
set_option maxHeartbeats 4000000 in
set_option maxRecDepth 100000 in
theorem ct_J0_length_8abf5 {l : Launch} {g : Gh} {M0 : Mem} {i : Nat} {post : Int32 → Mem → Prop}  (hq : wp_J0_length_8abf5  g M0 i post) : Ct l g yJ0_length_8abf5 cJ0_length_8abf5 1 (some .int) 1 0 0 [.ref (gK g i)] M0 (pI post) := by
  unfold wp_J0_length_8abf5 at hq
  obtain ⟨h0, hq⟩ := hq
  refine Ct.of (by decide) (Nat.le_of_ble_eq_true rfl) ?_
  intro p e s m below meth c ls C hr hlk hn hl hw
  have hx := C.1.1
  have hb := C.1.2.1
  have hl : lv_has ls 1 [(0, .ref (gK g i))] := hl
  refine lv_aload_n hx hb dJ0_length_8abf5_0 rfl (lv_at hl 0 rfl) ?_
  refine r_sval C hw h0 w_1609 dJ0_length_8abf5_1 ?_
  refine r_slen C hw h0 dJ0_length_8abf5_4 ?_
  refine lv_aload_n hx hb dJ0_length_8abf5_5 rfl (lv_at hl 0 rfl) ?_
  refine r_callT (index := 335) (n := 0) (d2 := 0) (mc := 0) (ms := 0) (As := []) (rest := [.int (nI (stl.getD i 0))]) C hw (ct_J0_coder_7d493 hq) kvJ0_335 hq.1 ⟨by decide, by decide⟩ ⟨by decide, by decide⟩ rfl hl.1 rfl (Nat.le_of_ble_eq_true rfl) dJ0_length_8abf5_6 (fun r M2 H locs hp hle hw => ?_)
  obtain ⟨v1, rfl, hq⟩ := hp
  refine W.eq (g2 := F0 m 9 ls [.int v1, .int (nI (stl.getD i 0))]) rfl ?_
  refine lv_ishr hx hb dJ0_length_8abf5_9 ?_
  exact r_iret C hr hlk hw dJ0_length_8abf5_10 (Nat.le_refl _) (Nat.le_refl _) ⟨_, rfl, hq⟩

set_option maxRecDepth 100000 in
def wp_J1_canEncode_9a6ad  (g : Gh) (M0 : Mem) (p0 : Int32) (post : Int32 → Mem → Prop) : Prop :=
  ((p0 < 0) → post 0 M0) ∧ (¬ (p0 < 0) → ((255 < p0) → post 0 M0) ∧ (¬ (255 < p0) → post 1 M0))
set_option maxHeartbeats 4000000 in
set_option maxRecDepth 100000 in
theorem ct_J1_canEncode_9a6ad {l : Launch} {g : Gh} {M0 : Mem} {p0 : Int32} {post : Int32 → Mem → Prop}  (hq : wp_J1_canEncode_9a6ad  g M0 p0 post) : Ct l g yJ1_canEncode_9a6ad cJ1_canEncode_9a6ad 1 (some .boolean) 0 0 0 [.int p0] M0 (pI post) := by
  unfold wp_J1_canEncode_9a6ad at hq
  refine Ct.of (by decide) (Nat.le_of_ble_eq_true rfl) ?_
  intro p e s m below meth c ls C hr hlk hn hl hw
  have hx := C.1.1
  have hb := C.1.2.1
  have hl : lv_has ls 1 [(0, .int p0)] := hl
  refine lv_iload_n hx hb dJ1_canEncode_9a6ad_0 rfl (lv_at hl 0 rfl) ?_
  refine lv_if_lt (tgt := 15) hx hb dJ1_canEncode_9a6ad_1 (by decide) (fun c1 => ?_) (fun c1 => ?_)
  · replace hq := hq.1 c1
    refine lv_iconst (v := 0) hx hb dJ1_canEncode_9a6ad_15 (by decide) ?_
    exact r_zret C hr hlk hw dJ1_canEncode_9a6ad_16 (Nat.le_refl _) (Nat.le_refl _) (by decide) ⟨_, rfl, hq⟩
  · replace hq := hq.2 c1
    refine lv_iload_n hx hb dJ1_canEncode_9a6ad_4 rfl (lv_at hl 0 rfl) ?_
    refine lv_sipush (v := 255) hx hb dJ1_canEncode_9a6ad_5 (by decide) ?_
    refine lv_icmp_gt (tgt := 15) hx hb dJ1_canEncode_9a6ad_8 (by decide) (fun c2 => ?_) (fun c2 => ?_)
    · replace hq := hq.1 c2
      refine lv_iconst (v := 0) hx hb dJ1_canEncode_9a6ad_15 (by decide) ?_
      exact r_zret C hr hlk hw dJ1_canEncode_9a6ad_16 (Nat.le_refl _) (Nat.le_refl _) (by decide) ⟨_, rfl, hq⟩
    · replace hq := hq.2 c2
      refine lv_iconst (v := 1) hx hb dJ1_canEncode_9a6ad_11 (by decide) ?_
      refine lv_goto (tgt := 16) hx hb dJ1_canEncode_9a6ad_12 (by decide) ?_
      exact r_zret C hr hlk hw dJ1_canEncode_9a6ad_16 (Nat.le_refl _) (Nat.le_refl _) (by decide) ⟨_, rfl, hq⟩

set_option maxRecDepth 100000 in
def bd_J1_indexOfChar_4cfef_7  (g : Gh) (M0 : Mem) (i : Nat) (p1 : Int32) (p2 : Int32) (p3 : Int32) (post : Int32 → Mem → Prop)  (bk7 : Int32 × Int32 × Mem → Prop) (x4 : Int32) (x5 : Int32)  (M : Mem) : Prop :=
  ((p3 ≤ x5) → post (-1) M) ∧ (¬ (p3 ≤ x5) → vp_in x5 (stl.getD i 0) ∧ (((((stb.getD i []).getD (Int32.toNatClampNeg x5) 0) = x4) → post x5 M) ∧ (¬ (((stb.getD i []).getD (Int32.toNatClampNeg x5) 0) = x4) → bk7 (x4, (x5 + 1), M))))
set_option maxRecDepth 100000 in
def wp_J1_indexOfChar_4cfef  (g : Gh) (M0 : Mem) (i : Nat) (p1 : Int32) (p2 : Int32) (p3 : Int32) (post : Int32 → Mem → Prop) : Prop :=
  i < 14 ∧ ((∃ n : Nat, lfp (fun bk z => bd_J1_indexOfChar_4cfef_7  g M0 i p1 p2 p3 post  bk z.1 z.2.1 z.2.2) n (((Int32.toInt8 p1).toInt32), p2, M0)))
set_option maxHeartbeats 4000000 in
set_option maxRecDepth 100000 in
theorem lp_J1_indexOfChar_4cfef_7 {l : Launch} {g : Gh} {p : Program} {e : Env} {s : State} {m : MethodId} {args : Array Value} {below : List Frame} {meth : Method} {c : Code} {M0 : Mem} {i : Nat} {p1 : Int32} {p2 : Int32} {p3 : Int32} {post : Int32 → Mem → Prop}  (C : Cx g p s m args c cJ1_indexOfChar_4cfef 6 RJ1) (hr : meth.sig.returnType = (some .int)) (hlk : meth.locks = false) (hn : meth.name = "indexOfChar") (h0 : i < 14)  : ∀ (nf : Nat) (x4 : Int32) (x5 : Int32)  (M : Mem) (H : Heap) (locs : List Loc) (ls : Array Slot), lfp (fun bk z => bd_J1_indexOfChar_4cfef_7  g M0 i p1 p2 p3 post  bk z.1 z.2.1 z.2.2) nf (x4, x5, M) → Wd g s M0 M H locs → lv_has ls 6 [(0, .ref (gV g i)), (1, .int p1), (2, .int p2), (3, .int p3), (4, .int x4), (5, .int x5)] → W p l e (rmo 0 0 0) s m args below meth c H locs 0 0 (MQ below (Cq g M0 (pI post)) args s 0 0 (gA g)) (F0 m 7 ls []) := by
  have hx := C.1.1
  have hb := C.1.2.1
  intro nf
  induction nf with
  | zero => intro _ _ _ H locs ls hq; exact hq.elim
  | succ nf hk7 =>
    intro x4 x5 M H locs ls hq hw hl
    replace hq : bd_J1_indexOfChar_4cfef_7  g M0 i p1 p2 p3 post  (lfp (fun bk z => bd_J1_indexOfChar_4cfef_7  g M0 i p1 p2 p3 post  bk z.1 z.2.1 z.2.2) nf) x4 x5 M := hq
    unfold bd_J1_indexOfChar_4cfef_7 at hq
    refine lv_iload hx hb dJ1_indexOfChar_4cfef_7 (lv_at hl 5 rfl) ?_
    refine lv_iload_n hx hb dJ1_indexOfChar_4cfef_9 rfl (lv_at hl 3 rfl) ?_
    refine lv_icmp_ge (tgt := 31) hx hb dJ1_indexOfChar_4cfef_10 (by decide) (fun c1 => ?_) (fun c1 => ?_)
    · replace hq := hq.1 c1
      refine lv_iconst (v := (-1)) hx hb dJ1_indexOfChar_4cfef_31 (by decide) ?_
      exact r_iret C hr hlk hw dJ1_indexOfChar_4cfef_32 (Nat.le_refl _) (Nat.le_refl _) ⟨_, rfl, hq⟩
    · replace hq := hq.2 c1
      refine lv_aload_n hx hb dJ1_indexOfChar_4cfef_13 rfl (lv_at hl 0 rfl) ?_
      refine lv_iload hx hb dJ1_indexOfChar_4cfef_14 (lv_at hl 5 rfl) ?_
      obtain ⟨h2, hq⟩ := hq
      refine r_sbal C hw h0 h2 dJ1_indexOfChar_4cfef_16 ?_
      refine lv_iload hx hb dJ1_indexOfChar_4cfef_17 (lv_at hl 4 rfl) ?_
      refine lv_icmp_ne (tgt := 25) hx hb dJ1_indexOfChar_4cfef_19 (by decide) (fun c3 => ?_) (fun c3 => ?_)
      · replace hq := hq.2 c3
        refine lv_iinc (v := (x5 + 1)) (lv' := [(5, .int (x5 + 1)), (0, .ref (gV g i)), (1, .int p1), (2, .int p2), (3, .int p3), (4, .int x4)]) hx hb dJ1_indexOfChar_4cfef_25 hl (k := 5) rfl rfl (by decide) rfl (fun ls hl => ?_)
        refine lv_goto (tgt := 7) hx hb dJ1_indexOfChar_4cfef_28 (by decide) ?_
        exact hk7 _ _ _ _ _ _ hq hw (lv_sub hl [1, 2, 3, 4, 5, 0] rfl)
      · replace hq := hq.1 c3
        refine lv_iload hx hb dJ1_indexOfChar_4cfef_22 (lv_at hl 5 rfl) ?_
        exact r_iret C hr hlk hw dJ1_indexOfChar_4cfef_24 (Nat.le_refl _) (Nat.le_refl _) ⟨_, rfl, hq⟩
set_option maxHeartbeats 4000000 in
set_option maxRecDepth 100000 in
theorem ct_J1_indexOfChar_4cfef {l : Launch} {g : Gh} {M0 : Mem} {i : Nat} {p1 : Int32} {p2 : Int32} {p3 : Int32} {post : Int32 → Mem → Prop}  (hq : wp_J1_indexOfChar_4cfef  g M0 i p1 p2 p3 post) : Ct l g yJ1_indexOfChar_4cfef cJ1_indexOfChar_4cfef 6 (some .int) 0 0 0 [.ref (gV g i), .int p1, .int p2, .int p3] M0 (pI post) := by
  unfold wp_J1_indexOfChar_4cfef at hq
  obtain ⟨h0, hq⟩ := hq
  refine Ct.of (by decide) (Nat.le_of_ble_eq_true rfl) ?_
  intro p e s m below meth c ls C hr hlk hn hl hw
  have hx := C.1.1
  have hb := C.1.2.1
  have hl : lv_has ls 6 [(0, .ref (gV g i)), (1, .int p1), (2, .int p2), (3, .int p3)] := hl
  refine lv_iload_n hx hb dJ1_indexOfChar_4cfef_0 rfl (lv_at hl 1 rfl) ?_
  refine lv_i2b (v := ((Int32.toInt8 p1).toInt32)) hx hb dJ1_indexOfChar_4cfef_1 rfl ?_
  refine lv_istore (lv' := [(4, .int ((Int32.toInt8 p1).toInt32)), (0, .ref (gV g i)), (1, .int p1), (2, .int p2), (3, .int p3)]) hx hb dJ1_indexOfChar_4cfef_2 hl (by decide) rfl (fun ls hl => ?_)
  refine lv_iload_n hx hb dJ1_indexOfChar_4cfef_4 rfl (lv_at hl 3 rfl) ?_
  refine lv_istore (lv' := [(5, .int p2), (4, .int ((Int32.toInt8 p1).toInt32)), (0, .ref (gV g i)), (1, .int p1), (2, .int p2), (3, .int p3)]) hx hb dJ1_indexOfChar_4cfef_5 hl (by decide) rfl (fun ls hl => ?_)
  obtain ⟨nf, hq⟩ := hq
  exact lp_J1_indexOfChar_4cfef_7  C hr hlk hn h0  nf _ _ _ _ _ _ hq hw (lv_sub hl [2, 3, 4, 5, 1, 0] rfl)

set_option maxRecDepth 100000 in
def wp_J1_indexOf_4cfef  (g : Gh) (M0 : Mem) (i : Nat) (p1 : Int32) (p2 : Int32) (p3 : Int32) (post : Int32 → Mem → Prop) : Prop :=
  i < 14 ∧ (wp_J1_canEncode_9a6ad g M0 p1 (fun v1 M2 => ((v1 = 0) → post (-1) M2) ∧ (¬ (v1 = 0) → (((if p2 < 0 then 0 else p2) < (if (nI (stl.getD i 0)) < p3 then (nI (stl.getD i 0)) else p3)) → wp_J1_indexOfChar_4cfef g M2 i p1 (if p2 < 0 then 0 else p2) (if (nI (stl.getD i 0)) < p3 then (nI (stl.getD i 0)) else p3) (fun v5 M6 => post v5 M6)) ∧ (¬ ((if p2 < 0 then 0 else p2) < (if (nI (stl.getD i 0)) < p3 then (nI (stl.getD i 0)) else p3)) → post (-1) M2))))
set_option maxHeartbeats 4000000 in
set_option maxRecDepth 100000 in
theorem ct_J1_indexOf_4cfef {l : Launch} {g : Gh} {M0 : Mem} {i : Nat} {p1 : Int32} {p2 : Int32} {p3 : Int32} {post : Int32 → Mem → Prop}  (hq : wp_J1_indexOf_4cfef  g M0 i p1 p2 p3 post) : Ct l g yJ1_indexOf_4cfef cJ1_indexOf_4cfef 4 (some .int) 1 0 0 [.ref (gV g i), .int p1, .int p2, .int p3] M0 (pI post) := by
  unfold wp_J1_indexOf_4cfef at hq
  obtain ⟨h0, hq⟩ := hq
  refine Ct.of (by decide) (Nat.le_of_ble_eq_true rfl) ?_
  intro p e s m below meth c ls C hr hlk hn hl hw
  have hx := C.1.1
  have hb := C.1.2.1
  have hl : lv_has ls 4 [(0, .ref (gV g i)), (1, .int p1), (2, .int p2), (3, .int p3)] := hl
  refine lv_iload_n hx hb dJ1_indexOf_4cfef_0 rfl (lv_at hl 1 rfl) ?_
  refine r_callS (index := 88) (n := 1) (d2 := 0) (mc := 0) (ms := 0) (As := [.int p1]) (rest := []) C hw (ct_J1_canEncode_9a6ad hq) ksJ1_88 ⟨by decide, by decide⟩ ⟨by decide, by decide⟩ rfl hl.1 rfl (Nat.le_of_ble_eq_true rfl) dJ1_indexOf_4cfef_1 (fun r M2 H locs hp hle hw => ?_)
  obtain ⟨v1, rfl, hq⟩ := hp
  refine W.eq (g2 := F0 m 4 ls [.int v1]) rfl ?_
  refine lv_if_ne (tgt := 9) hx hb dJ1_indexOf_4cfef_4 (by decide) (fun c3 => ?_) (fun c3 => ?_)
  · replace hq := hq.2 c3
    refine lv_iload_n hx hb dJ1_indexOf_4cfef_9 rfl (lv_at hl 2 rfl) ?_
    refine lv_iconst (v := 0) hx hb dJ1_indexOf_4cfef_10 (by decide) ?_
    refine va_mmax hx hb (by rw [C.1.2.2.1]; exact hl.1.symm) C.1.2.2.2.1 (C.1.2.2.2.2 _ w_483) (C.1.2.2.2.2 _ w_484) (C.1.2.2.2.2 _ w_14) (C.1.2.2.2.2 _ w_485) (by decide) (Nat.le_of_ble_eq_true rfl) (by decide) (by decide) dJ1_indexOf_4cfef_11 ?_
    refine lv_istore_n (lv' := [(2, .int (if p2 < 0 then 0 else p2)), (0, .ref (gV g i)), (1, .int p1), (3, .int p3)]) hx hb dJ1_indexOf_4cfef_14 rfl hl (by decide) rfl (fun ls hl => ?_)
    refine lv_iload_n hx hb dJ1_indexOf_4cfef_15 rfl (lv_at hl 3 rfl) ?_
    refine lv_aload_n hx hb dJ1_indexOf_4cfef_16 rfl (lv_at hl 1 rfl) ?_
    refine r_slen C hw h0 dJ1_indexOf_4cfef_17 ?_
    refine va_mmin hx hb (by rw [C.1.2.2.1]; exact hl.1.symm) C.1.2.2.2.1 (C.1.2.2.2.2 _ w_486) (C.1.2.2.2.2 _ w_487) (C.1.2.2.2.2 _ w_14) (C.1.2.2.2.2 _ w_488) (by decide) (Nat.le_of_ble_eq_true rfl) (by decide) (by decide) dJ1_indexOf_4cfef_18 ?_
    refine lv_istore_n (lv' := [(3, .int (if (nI (stl.getD i 0)) < p3 then (nI (stl.getD i 0)) else p3)), (2, .int (if p2 < 0 then 0 else p2)), (0, .ref (gV g i)), (1, .int p1)]) hx hb dJ1_indexOf_4cfef_21 rfl hl (by decide) rfl (fun ls hl => ?_)
    refine lv_iload_n hx hb dJ1_indexOf_4cfef_22 rfl (lv_at hl 1 rfl) ?_
    refine lv_iload_n hx hb dJ1_indexOf_4cfef_23 rfl (lv_at hl 0 rfl) ?_
    refine lv_icmp_lt (tgt := 29) hx hb dJ1_indexOf_4cfef_24 (by decide) (fun c4 => ?_) (fun c4 => ?_)
    · replace hq := hq.1 c4
      refine lv_aload_n hx hb dJ1_indexOf_4cfef_29 rfl (lv_at hl 2 rfl) ?_
      refine lv_iload_n hx hb dJ1_indexOf_4cfef_30 rfl (lv_at hl 3 rfl) ?_
      refine lv_iload_n hx hb dJ1_indexOf_4cfef_31 rfl (lv_at hl 1 rfl) ?_
      refine lv_iload_n hx hb dJ1_indexOf_4cfef_32 rfl (lv_at hl 0 rfl) ?_
      refine r_callS (index := 95) (n := 4) (d2 := 0) (mc := 0) (ms := 0) (As := [.ref (gV g i), .int p1, .int (if p2 < 0 then 0 else p2), .int (if (nI (stl.getD i 0)) < p3 then (nI (stl.getD i 0)) else p3)]) (rest := []) C hw (ct_J1_indexOfChar_4cfef hq) ksJ1_95 ⟨by decide, by decide⟩ ⟨by decide, by decide⟩ rfl hl.1 rfl (Nat.le_of_ble_eq_true rfl) dJ1_indexOf_4cfef_33 (fun r M6 H locs hp hle hw => ?_)
      obtain ⟨v5, rfl, hq⟩ := hp
      refine W.eq (g2 := F0 m 36 ls [.int v5]) rfl ?_
      exact r_iret C hr hlk hw dJ1_indexOf_4cfef_36 (Nat.le_refl _) (Nat.le_refl _) ⟨_, rfl, hq⟩
    · replace hq := hq.2 c4
      refine lv_iconst (v := (-1)) hx hb dJ1_indexOf_4cfef_27 (by decide) ?_
      exact r_iret C hr hlk hw dJ1_indexOf_4cfef_28 (Nat.le_refl _) (Nat.le_refl _) ⟨_, rfl, hq⟩
  · replace hq := hq.1 c3
    refine lv_iconst (v := (-1)) hx hb dJ1_indexOf_4cfef_7 (by decide) ?_
    exact r_iret C hr hlk hw dJ1_indexOf_4cfef_8 (Nat.le_refl _) (Nat.le_refl _) ⟨_, rfl, hq⟩

set_option maxRecDepth 100000 in
def wp_J0_indexOf_7cf53  (g : Gh) (M0 : Mem) (i : Nat) (p1 : Int32) (p2 : Int32) (post : Int32 → Mem → Prop) : Prop :=
  i < 14 ∧ (wp_J0_isLatin1_aae02 g M0 i (fun v1 M2 => ((v1 = 0) → wp_J0_length_8abf5 g M2 i (fun v4 M5 => False)) ∧ (¬ (v1 = 0) → wp_J0_length_8abf5 g M2 i (fun v6 M7 => wp_J1_indexOf_4cfef g M7 i p1 p2 v6 (fun v8 M9 => post v8 M9)))))
set_option maxHeartbeats 4000000 in
set_option maxRecDepth 100000 in
theorem ct_J0_indexOf_7cf53 {l : Launch} {g : Gh} {M0 : Mem} {i : Nat} {p1 : Int32} {p2 : Int32} {post : Int32 → Mem → Prop}  (hq : wp_J0_indexOf_7cf53  g M0 i p1 p2 post) : Ct l g yJ0_indexOf_7cf53 cJ0_indexOf_7cf53 3 (some .int) 5 0 0 [.ref (gK g i), .int p1, .int p2] M0 (pI post) := by
  unfold wp_J0_indexOf_7cf53 at hq
  obtain ⟨h0, hq⟩ := hq
  refine Ct.of (by decide) (Nat.le_of_ble_eq_true rfl) ?_
  intro p e s m below meth c ls C hr hlk hn hl hw
  have hx := C.1.1
  have hb := C.1.2.1
  have hl : lv_has ls 3 [(0, .ref (gK g i)), (1, .int p1), (2, .int p2)] := hl
  refine lv_aload_n hx hb dJ0_indexOf_7cf53_0 rfl (lv_at hl 0 rfl) ?_
  refine r_callT (index := 492) (n := 0) (d2 := 0) (mc := 0) (ms := 0) (As := []) (rest := []) C hw (ct_J0_isLatin1_aae02 hq) kvJ0_492 hq.1 ⟨by decide, by decide⟩ ⟨by decide, by decide⟩ rfl hl.1 rfl (Nat.le_of_ble_eq_true rfl) dJ0_indexOf_7cf53_1 (fun r M2 H locs hp hle hw => ?_)
  obtain ⟨v1, rfl, hq⟩ := hp
  refine W.eq (g2 := F0 m 4 ls [.int v1]) rfl ?_
  refine lv_if_eq (tgt := 23) hx hb dJ0_indexOf_7cf53_4 (by decide) (fun c3 => ?_) (fun c3 => ?_)
  · replace hq := hq.1 c3
    refine lv_aload_n hx hb dJ0_indexOf_7cf53_23 rfl (lv_at hl 0 rfl) ?_
    refine r_sval C hw h0 w_1609 dJ0_indexOf_7cf53_24 ?_
    refine lv_iload_n hx hb dJ0_indexOf_7cf53_27 rfl (lv_at hl 1 rfl) ?_
    refine lv_iload_n hx hb dJ0_indexOf_7cf53_28 rfl (lv_at hl 2 rfl) ?_
    refine lv_aload_n hx hb dJ0_indexOf_7cf53_29 rfl (lv_at hl 0 rfl) ?_
    refine r_callT (index := 505) (n := 0) (d2 := 1) (mc := 0) (ms := 0) (As := []) (rest := [.int p2, .int p1, .ref (gV g i)]) C hw (ct_J0_length_8abf5 hq) kvJ0_505 hq.1 ⟨by decide, by decide⟩ ⟨by decide, by decide⟩ rfl hl.1 rfl (Nat.le_of_ble_eq_true rfl) dJ0_indexOf_7cf53_30 (fun r M5 H locs hp hle hw => ?_)
    obtain ⟨v4, rfl, hq⟩ := hp
    refine W.eq (g2 := F0 m 33 ls [.int v4, .int p2, .int p1, .ref (gV g i)]) rfl ?_
    exact hq.elim
  · replace hq := hq.2 c3
    refine lv_aload_n hx hb dJ0_indexOf_7cf53_7 rfl (lv_at hl 0 rfl) ?_
    refine r_sval C hw h0 w_1609 dJ0_indexOf_7cf53_8 ?_
    refine lv_iload_n hx hb dJ0_indexOf_7cf53_11 rfl (lv_at hl 1 rfl) ?_
    refine lv_iload_n hx hb dJ0_indexOf_7cf53_12 rfl (lv_at hl 2 rfl) ?_
    refine lv_aload_n hx hb dJ0_indexOf_7cf53_13 rfl (lv_at hl 0 rfl) ?_
    refine r_callT (index := 505) (n := 0) (d2 := 1) (mc := 0) (ms := 0) (As := []) (rest := [.int p2, .int p1, .ref (gV g i)]) C hw (ct_J0_length_8abf5 hq) kvJ0_505 hq.1 ⟨by decide, by decide⟩ ⟨by decide, by decide⟩ rfl hl.1 rfl (Nat.le_of_ble_eq_true rfl) dJ0_indexOf_7cf53_14 (fun r M7 H locs hp hle hw => ?_)
    obtain ⟨v6, rfl, hq⟩ := hp
    refine W.eq (g2 := F0 m 17 ls [.int v6, .int p2, .int p1, .ref (gV g i)]) rfl ?_
    refine r_callS (index := 637) (n := 4) (d2 := 1) (mc := 0) (ms := 0) (As := [.ref (gV g i), .int p1, .int p2, .int v6]) (rest := []) C hw (ct_J1_indexOf_4cfef hq) ksJ0_637 ⟨by decide, by decide⟩ ⟨by decide, by decide⟩ rfl hl.1 rfl (Nat.le_of_ble_eq_true rfl) dJ0_indexOf_7cf53_17 (fun r M9 H locs hp hle hw => ?_)
    obtain ⟨v8, rfl, hq⟩ := hp
    refine W.eq (g2 := F0 m 20 ls [.int v8]) rfl ?_
    refine lv_goto (tgt := 36) hx hb dJ0_indexOf_7cf53_20 (by decide) ?_
    exact r_iret C hr hlk hw dJ0_indexOf_7cf53_36 (Nat.le_refl _) (Nat.le_refl _) ⟨_, rfl, hq⟩

set_option maxRecDepth 100000 in
def wp_J0_indexOf_0f7a4  (g : Gh) (M0 : Mem) (i : Nat) (p1 : Int32) (post : Int32 → Mem → Prop) : Prop :=
  i < 14 ∧ (wp_J0_indexOf_7cf53 g M0 i p1 0 (fun v1 M2 => post v1 M2))
set_option maxHeartbeats 4000000 in
set_option maxRecDepth 100000 in
theorem ct_J0_indexOf_0f7a4 {l : Launch} {g : Gh} {M0 : Mem} {i : Nat} {p1 : Int32} {post : Int32 → Mem → Prop}  (hq : wp_J0_indexOf_0f7a4  g M0 i p1 post) : Ct l g yJ0_indexOf_0f7a4 cJ0_indexOf_0f7a4 2 (some .int) 6 0 0 [.ref (gK g i), .int p1] M0 (pI post) := by
  unfold wp_J0_indexOf_0f7a4 at hq
  obtain ⟨h0, hq⟩ := hq
  refine Ct.of (by decide) (Nat.le_of_ble_eq_true rfl) ?_
  intro p e s m below meth c ls C hr hlk hn hl hw
  have hx := C.1.1
  have hb := C.1.2.1
  have hl : lv_has ls 2 [(0, .ref (gK g i)), (1, .int p1)] := hl
  refine lv_aload_n hx hb dJ0_indexOf_0f7a4_0 rfl (lv_at hl 0 rfl) ?_
  refine lv_iload_n hx hb dJ0_indexOf_0f7a4_1 rfl (lv_at hl 1 rfl) ?_
  refine lv_iconst (v := 0) hx hb dJ0_indexOf_0f7a4_2 (by decide) ?_
  refine r_callT (index := 633) (n := 2) (d2 := 5) (mc := 0) (ms := 0) (As := [.int p1, .int 0]) (rest := []) C hw (ct_J0_indexOf_7cf53 hq) kvJ0_633 hq.1 ⟨by decide, by decide⟩ ⟨by decide, by decide⟩ rfl hl.1 rfl (Nat.le_of_ble_eq_true rfl) dJ0_indexOf_0f7a4_3 (fun r M2 H locs hp hle hw => ?_)
  obtain ⟨v1, rfl, hq⟩ := hp
  refine W.eq (g2 := F0 m 6 ls [.int v1]) rfl ?_
  exact r_iret C hr hlk hw dJ0_indexOf_0f7a4_6 (Nat.le_refl _) (Nat.le_refl _) ⟨_, rfl, hq⟩
