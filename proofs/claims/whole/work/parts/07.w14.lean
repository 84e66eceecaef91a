set_option maxRecDepth 100000 in
def lb_X8_gather_96  (g : Gh) (M0 : Mem) (a0 : Nat) (a1 : Nat) (p2 : Int32) (p3 : Int32) (p4 : Int32) (post : Mem → Prop) (bk24 : Int32 × Mem → Prop) (x5 : Int32) (b6 : Nat)  (M : Mem) : Prop :=
  ∃ q1, mR M a0 6 = some q1 ∧ (wp_X9_hard g M b6 (fun v3 M4 => okc (gB g) M0 q1 14 ∧ (vp_in (mI M a0 7) (mN M0 q1) ∧ (∀ M7, M7 = uI M4 q1 (Int32.toNatClampNeg (mI M a0 7)) v3 → (∀ M9, M9 = uI M7 a0 7 ((mI M7 a0 7) + 1) → (bk24 ((x5 + 1), M9)))))))
set_option maxRecDepth 100000 in
def bd_X8_gather_24  (g : Gh) (M0 : Mem) (a0 : Nat) (a1 : Nat) (p2 : Int32) (p3 : Int32) (p4 : Int32) (post : Mem → Prop)  (bk24 : Int32 × Mem → Prop) (x5 : Int32)  (M : Mem) : Prop :=
  ((p2 ≤ x5) → post M) ∧ (¬ (p2 ≤ x5) → okc (gB g) M0 a1 20 ∧ ((((nI (mN M0 a1)) ≤ x5) → post M) ∧ (¬ ((nI (mN M0 a1)) ≤ x5) → ∃ q14, mR M a0 4 = some q14 ∧ (okc (gB g) M0 q14 14 ∧ ((((nI (mN M0 q14)) ≤ (mI M a0 7)) → post M) ∧ (¬ ((nI (mN M0 q14)) ≤ (mI M a0 7)) → vp_in x5 (mN M0 a1) ∧ (∃ q19, mR M a1 (Int32.toNatClampNeg x5) = some q19 ∧ (wp_X9_isFreeFor g M q19 p3 p4 (fun v22 M23 => ((v22 = 0) → bk24 ((x5 + 1), M23)) ∧ (¬ (v22 = 0) → ∃ q25, mR M23 a0 4 = some q25 ∧ (okc (gB g) M0 q25 14 ∧ (vp_in (mI M23 a0 7) (mN M0 q25) ∧ (∀ M29, M29 = uI M23 q25 (Int32.toNatClampNeg (mI M23 a0 7)) x5 → (∃ q31, mR M29 a0 5 = some q31 ∧ (okc (gB g) M0 q19 9 ∧ (okc (gB g) M0 q31 14 ∧ (vp_in (mI M29 a0 7) (mN M0 q31) ∧ (∀ M36, M36 = uI M29 q31 (Int32.toNatClampNeg (mI M29 a0 7)) (mI M29 q19 0) → (lb_X8_gather_96  g M0 a0 a1 p2 p3 p4 post bk24 x5 q19 M36)))))))))))))))))))
set_option maxRecDepth 100000 in
def wp_X8_gather  (g : Gh) (M0 : Mem) (a0 : Nat) (a1 : Nat) (p2 : Int32) (p3 : Int32) (p4 : Int32) (post : Mem → Prop) : Prop :=
  okc (gB g) M0 a0 8 ∧ (∀ M38, M38 = uI M0 a0 0 p3 → (∀ M40, M40 = uI M38 a0 1 p4 → (∀ M42, M42 = uI M40 a0 2 0 → (∀ M44, M44 = uI M42 a0 7 0 → ((∃ n : Nat, lfp (fun bk z => bd_X8_gather_24  g M0 a0 a1 p2 p3 p4 post  bk z.1 z.2) n (0, M44)))))))
set_option maxHeartbeats 4000000 in
set_option maxRecDepth 100000 in
theorem lt_X8_gather_96 {l : Launch} {g : Gh} {p : Program} {e : Env} {s : State} {m : MethodId} {args : Array Value} {below : List Frame} {meth : Method} {c : Code} {H : Heap} {locs : List Loc} {ls : Array Slot} {M0 M : Mem} {a0 : Nat} {a1 : Nat} {p2 : Int32} {p3 : Int32} {p4 : Int32} {post : Mem → Prop} {x5 : Int32} {b6 : Nat}   (C : Cx g p s m args c cX8_gather 7 RX8) (hr : meth.sig.returnType = none) (hlk : meth.locks = false) (hn : meth.name = "gather") (h0 : okc (gB g) M0 a0 8) {bk24 : Int32 × Mem → Prop} (hk24 : ∀ (x5 : Int32) (M : Mem) (H : Heap) (locs : List Loc) (ls : Array Slot), bk24 (x5, M) → Wd g s M0 M H locs → lv_has ls 7 [(0, .ref a0), (1, .ref a1), (2, .int p2), (3, .int p3), (4, .int p4), (5, .int x5)] → W p l e (rmo 2 0 0) s m args below meth c H locs 0 0 (MQ below (Cq g M0 (pV post)) args s 0 0 (gA g)) (F0 m 24 ls [])) (hq : lb_X8_gather_96  g M0 a0 a1 p2 p3 p4 post bk24 x5 b6 M) (hw : Wd g s M0 M H locs) (hl : lv_has ls 7 [(0, .ref a0), (1, .ref a1), (2, .int p2), (3, .int p3), (4, .int p4), (5, .int x5), (6, .ref b6)]) : W p l e (rmo 2 0 0) s m args below meth c H locs 0 0 (MQ below (Cq g M0 (pV post)) args s 0 0 (gA g)) (F0 m 96 ls []) := by
  have hx := C.1.1
  have hb := C.1.2.1
  unfold lb_X8_gather_96 at hq
  refine lv_aload_n hx hb dX8_gather_96 rfl (lv_at hl 0 rfl) ?_
  obtain ⟨q1, e2, hq⟩ := hq
  refine gfX8_18 C hw hw.2.2.1 h0 e2 dX8_gather_97 ?_
  refine lv_aload_n hx hb dX8_gather_100 rfl (lv_at hl 0 rfl) ?_
  refine gfX8_37 C hw hw.2.2.1 h0 dX8_gather_101 ?_
  refine lv_aload hx hb dX8_gather_104 (lv_at hl 6 rfl) ?_
  refine r_callV (T := TX9) (N := 6) (ci := 9) (index := 49) (n := 0) (d2 := 0) (mc := 0) (ms := 0) (As := []) (rest := [.int (mI M a0 7), .ref q1]) C hw (ct_X9_hard hq) kvX8_49 hq.1 (by decide) rfl ⟨by decide, by decide⟩ ⟨by decide, by decide⟩ rfl hl.1 rfl (Nat.le_of_ble_eq_true rfl) dX8_gather_106 (fun r M4 H locs hp hle hw => ?_)
  obtain ⟨v3, rfl, hq⟩ := hp
  refine W.eq (g2 := F0 m 109 ls [.int v3, .int (mI M a0 7), .ref q1]) rfl ?_
  obtain ⟨h5, hq⟩ := hq
  obtain ⟨h6, hq⟩ := hq
  refine q_iast C hw hw.2.2.1 h5 h6 dX8_gather_109 (fun H locs hw => ?_)
  generalize e8 : uI M4 q1 (Int32.toNatClampNeg (mI M a0 7)) v3 = M7 at hw
  replace hq := hq M7 e8.symm
  refine lv_aload_n hx hb dX8_gather_110 rfl (lv_at hl 0 rfl) ?_
  refine lv_dup hx hb dX8_gather_111 rfl ?_
  refine gfX8_37 C hw hw.2.2.1 h0 dX8_gather_112 ?_
  refine lv_iconst (v := 1) hx hb dX8_gather_115 (by decide) ?_
  refine lv_iadd hx hb dX8_gather_116 ?_
  refine pfX8_37 C hw hw.2.2.1 h0 dX8_gather_117 (fun H locs hw => ?_)
  generalize e10 : uI M7 a0 7 ((mI M7 a0 7) + 1) = M9 at hw
  replace hq := hq M9 e10.symm
  refine lv_iinc (v := (x5 + 1)) (lv' := [(5, .int (x5 + 1)), (0, .ref a0), (1, .ref a1), (2, .int p2), (3, .int p3), (4, .int p4), (6, .ref b6)]) hx hb dX8_gather_120 hl (k := 5) rfl rfl (by decide) rfl (fun ls hl => ?_)
  refine lv_goto (tgt := 24) hx hb dX8_gather_123 (by decide) ?_
  exact hk24 _ _ _ _ _ hq hw (lv_sub hl [1, 2, 3, 4, 5, 0] rfl)
set_option maxHeartbeats 4000000 in
set_option maxRecDepth 100000 in
theorem lp_X8_gather_24 {l : Launch} {g : Gh} {p : Program} {e : Env} {s : State} {m : MethodId} {args : Array Value} {below : List Frame} {meth : Method} {c : Code} {M0 : Mem} {a0 : Nat} {a1 : Nat} {p2 : Int32} {p3 : Int32} {p4 : Int32} {post : Mem → Prop}  (C : Cx g p s m args c cX8_gather 7 RX8) (hr : meth.sig.returnType = none) (hlk : meth.locks = false) (hn : meth.name = "gather") (h0 : okc (gB g) M0 a0 8)  : ∀ (nf : Nat) (x5 : Int32)  (M : Mem) (H : Heap) (locs : List Loc) (ls : Array Slot), lfp (fun bk z => bd_X8_gather_24  g M0 a0 a1 p2 p3 p4 post  bk z.1 z.2) nf (x5, M) → Wd g s M0 M H locs → lv_has ls 7 [(0, .ref a0), (1, .ref a1), (2, .int p2), (3, .int p3), (4, .int p4), (5, .int x5)] → W p l e (rmo 2 0 0) s m args below meth c H locs 0 0 (MQ below (Cq g M0 (pV post)) args s 0 0 (gA g)) (F0 m 24 ls []) := by
  have hx := C.1.1
  have hb := C.1.2.1
  intro nf
  induction nf with
  | zero => intro _ _ H locs ls hq; exact hq.elim
  | succ nf hk24 =>
    intro x5 M H locs ls hq hw hl
    replace hq : bd_X8_gather_24  g M0 a0 a1 p2 p3 p4 post  (lfp (fun bk z => bd_X8_gather_24  g M0 a0 a1 p2 p3 p4 post  bk z.1 z.2) nf) x5 M := hq
    unfold bd_X8_gather_24 at hq
    refine lv_iload hx hb dX8_gather_24 (lv_at hl 5 rfl) ?_
    refine lv_iload_n hx hb dX8_gather_26 rfl (lv_at hl 2 rfl) ?_
    refine lv_icmp_ge (tgt := 126) hx hb dX8_gather_27 (by decide) (fun c11 => ?_) (fun c11 => ?_)
    · replace hq := hq.1 c11
      exact r_vret C hr hlk hw dX8_gather_126 (Nat.le_refl _) (Nat.le_refl _) ⟨rfl, hq⟩
    · replace hq := hq.2 c11
      refine lv_iload hx hb dX8_gather_30 (lv_at hl 5 rfl) ?_
      refine lv_aload_n hx hb dX8_gather_32 rfl (lv_at hl 1 rfl) ?_
      obtain ⟨h12, hq⟩ := hq
      refine q_alen C hw hw.2.2.1 h12 (by decide) (by decide) rfl dX8_gather_33 ?_
      refine lv_icmp_ge (tgt := 126) hx hb dX8_gather_34 (by decide) (fun c13 => ?_) (fun c13 => ?_)
      · replace hq := hq.1 c13
        exact r_vret C hr hlk hw dX8_gather_126 (Nat.le_refl _) (Nat.le_refl _) ⟨rfl, hq⟩
      · replace hq := hq.2 c13
        refine lv_aload_n hx hb dX8_gather_37 rfl (lv_at hl 0 rfl) ?_
        refine gfX8_37 C hw hw.2.2.1 h0 dX8_gather_38 ?_
        refine lv_aload_n hx hb dX8_gather_41 rfl (lv_at hl 0 rfl) ?_
        obtain ⟨q14, e15, hq⟩ := hq
        refine gfX8_9 C hw hw.2.2.1 h0 e15 dX8_gather_42 ?_
        obtain ⟨h16, hq⟩ := hq
        refine q_alen C hw hw.2.2.1 h16 (by decide) (by decide) rfl dX8_gather_45 ?_
        refine lv_icmp_ge (tgt := 126) hx hb dX8_gather_46 (by decide) (fun c17 => ?_) (fun c17 => ?_)
        · replace hq := hq.1 c17
          exact r_vret C hr hlk hw dX8_gather_126 (Nat.le_refl _) (Nat.le_refl _) ⟨rfl, hq⟩
        · replace hq := hq.2 c17
          refine lv_aload_n hx hb dX8_gather_49 rfl (lv_at hl 1 rfl) ?_
          refine lv_iload hx hb dX8_gather_50 (lv_at hl 5 rfl) ?_
          obtain ⟨h18, hq⟩ := hq
          obtain ⟨q19, e20, hq⟩ := hq
          refine q_aald C hw hw.2.2.1 h12 (by decide) (by decide) rfl h18 e20 dX8_gather_52 ?_
          refine lv_astore (lv' := [(6, .ref q19), (0, .ref a0), (1, .ref a1), (2, .int p2), (3, .int p3), (4, .int p4), (5, .int x5)]) hx hb dX8_gather_53 hl (by decide) rfl (fun ls hl => ?_)
          refine lv_aload hx hb dX8_gather_55 (lv_at hl 0 rfl) ?_
          refine lv_ifnull hx hb dX8_gather_57 ?_
          refine lv_aload hx hb dX8_gather_60 (lv_at hl 0 rfl) ?_
          refine lv_iload_n hx hb dX8_gather_62 rfl (lv_at hl 4 rfl) ?_
          refine lv_iload hx hb dX8_gather_63 (lv_at hl 5 rfl) ?_
          refine r_callV (T := TX9) (N := 6) (ci := 9) (index := 40) (n := 2) (d2 := 1) (mc := 0) (ms := 0) (As := [.int p3, .int p4]) (rest := []) C hw (ct_X9_isFreeFor hq) kvX8_40 hq.1 (by decide) rfl ⟨by decide, by decide⟩ ⟨by decide, by decide⟩ rfl hl.1 rfl (Nat.le_of_ble_eq_true rfl) dX8_gather_65 (fun r M23 H locs hp hle hw => ?_)
          obtain ⟨v22, rfl, hq⟩ := hp
          refine W.eq (g2 := F0 m 68 ls [.int v22]) rfl ?_
          refine lv_if_eq (tgt := 120) hx hb dX8_gather_68 (by decide) (fun c24 => ?_) (fun c24 => ?_)
          · replace hq := hq.1 c24
            refine lv_iinc (v := (x5 + 1)) (lv' := [(5, .int (x5 + 1)), (6, .ref q19), (0, .ref a0), (1, .ref a1), (2, .int p2), (3, .int p3), (4, .int p4)]) hx hb dX8_gather_120 hl (k := 6) rfl rfl (by decide) rfl (fun ls hl => ?_)
            refine lv_goto (tgt := 24) hx hb dX8_gather_123 (by decide) ?_
            exact hk24 _ _ _ _ _ hq hw (lv_sub hl [2, 3, 4, 5, 6, 0] rfl)
          · replace hq := hq.2 c24
            refine lv_aload_n hx hb dX8_gather_71 rfl (lv_at hl 1 rfl) ?_
            obtain ⟨q25, e26, hq⟩ := hq
            refine gfX8_9 C hw hw.2.2.1 h0 e26 dX8_gather_72 ?_
            refine lv_aload_n hx hb dX8_gather_75 rfl (lv_at hl 1 rfl) ?_
            refine gfX8_37 C hw hw.2.2.1 h0 dX8_gather_76 ?_
            refine lv_iload hx hb dX8_gather_79 (lv_at hl 6 rfl) ?_
            obtain ⟨h27, hq⟩ := hq
            obtain ⟨h28, hq⟩ := hq
            refine q_iast C hw hw.2.2.1 h27 h28 dX8_gather_81 (fun H locs hw => ?_)
            generalize e30 : uI M23 q25 (Int32.toNatClampNeg (mI M23 a0 7)) x5 = M29 at hw
            replace hq := hq M29 e30.symm
            have e26 : mR M29 a0 4 = some q25 := by rw [← e30, mR_uI]; exact e26
            refine lv_aload_n hx hb dX8_gather_82 rfl (lv_at hl 1 rfl) ?_
            obtain ⟨q31, e32, hq⟩ := hq
            refine gfX8_15 C hw hw.2.2.1 h0 e32 dX8_gather_83 ?_
            refine lv_aload_n hx hb dX8_gather_86 rfl (lv_at hl 1 rfl) ?_
            refine gfX8_37 C hw hw.2.2.1 h0 dX8_gather_87 ?_
            refine lv_aload hx hb dX8_gather_90 (lv_at hl 0 rfl) ?_
            obtain ⟨h33, hq⟩ := hq
            refine gfX8_46 C hw hw.2.2.1 h33 dX8_gather_92 ?_
            obtain ⟨h34, hq⟩ := hq
            obtain ⟨h35, hq⟩ := hq
            refine q_iast C hw hw.2.2.1 h34 h35 dX8_gather_95 (fun H locs hw => ?_)
            generalize e37 : uI M29 q31 (Int32.toNatClampNeg (mI M29 a0 7)) (mI M29 q19 0) = M36 at hw
            replace hq := hq M36 e37.symm
            have e26 : mR M36 a0 4 = some q25 := by rw [← e37, mR_uI]; exact e26
            have e32 : mR M36 a0 5 = some q31 := by rw [← e37, mR_uI]; exact e32
            exact lt_X8_gather_96  C hr hlk hn h0 hk24 hq hw (lv_sub hl [1, 2, 3, 4, 5, 6, 0] rfl)
set_option maxHeartbeats 4000000 in
set_option maxRecDepth 100000 in
theorem ct_X8_gather {l : Launch} {g : Gh} {M0 : Mem} {a0 : Nat} {a1 : Nat} {p2 : Int32} {p3 : Int32} {p4 : Int32} {post : Mem → Prop}  (hq : wp_X8_gather  g M0 a0 a1 p2 p3 p4 post) : Ct l g yX8_gather cX8_gather 7 none 2 0 0 [.ref a0, .ref a1, .int p2, .int p3, .int p4] M0 (pV post) := by
  unfold wp_X8_gather at hq
  obtain ⟨h0, hq⟩ := hq
  refine Ct.of (by decide) (Nat.le_of_ble_eq_true rfl) ?_
  intro p e s m below meth c ls C hr hlk hn hl hw
  have hx := C.1.1
  have hb := C.1.2.1
  have hl : lv_has ls 7 [(0, .ref a0), (1, .ref a1), (2, .int p2), (3, .int p3), (4, .int p4)] := hl
  refine lv_aload_n hx hb dX8_gather_0 rfl (lv_at hl 0 rfl) ?_
  refine lv_iload_n hx hb dX8_gather_1 rfl (lv_at hl 3 rfl) ?_
  refine pfX8_27 C hw hw.2.2.1 h0 dX8_gather_2 (fun H locs hw => ?_)
  generalize e39 : uI M0 a0 0 p3 = M38 at hw
  replace hq := hq M38 e39.symm
  refine lv_aload_n hx hb dX8_gather_5 rfl (lv_at hl 0 rfl) ?_
  refine lv_iload hx hb dX8_gather_6 (lv_at hl 4 rfl) ?_
  refine pfX8_31 C hw hw.2.2.1 h0 dX8_gather_8 (fun H locs hw => ?_)
  generalize e41 : uI M38 a0 1 p4 = M40 at hw
  replace hq := hq M40 e41.symm
  refine lv_aload_n hx hb dX8_gather_11 rfl (lv_at hl 0 rfl) ?_
  refine lv_iconst (v := 0) hx hb dX8_gather_12 (by decide) ?_
  refine pfX8_34 C hw hw.2.2.1 h0 dX8_gather_13 (fun H locs hw => ?_)
  generalize e43 : uI M40 a0 2 0 = M42 at hw
  replace hq := hq M42 e43.symm
  refine lv_aload_n hx hb dX8_gather_16 rfl (lv_at hl 0 rfl) ?_
  refine lv_iconst (v := 0) hx hb dX8_gather_17 (by decide) ?_
  refine pfX8_37 C hw hw.2.2.1 h0 dX8_gather_18 (fun H locs hw => ?_)
  generalize e45 : uI M42 a0 7 0 = M44 at hw
  replace hq := hq M44 e45.symm
  refine lv_iconst (v := 0) hx hb dX8_gather_21 (by decide) ?_
  refine lv_istore (lv' := [(5, .int 0), (0, .ref a0), (1, .ref a1), (2, .int p2), (3, .int p3), (4, .int p4)]) hx hb dX8_gather_22 hl (by decide) rfl (fun ls hl => ?_)
  obtain ⟨nf, hq⟩ := hq
  exact lp_X8_gather_24  C hr hlk hn h0  nf _ _ _ _ _ hq hw (lv_sub hl [1, 2, 3, 4, 5, 0] rfl)

set_option maxRecDepth 100000 in
def wp_X8_setBounds  (g : Gh) (M0 : Mem) (a0 : Nat) (p1 : Int32) (p2 : Int32) (p3 : Int32) (post : Mem → Prop) : Prop :=
  okc (gB g) M0 a0 8 ∧ (∀ M1, M1 = uI M0 a0 12 p1 → (∀ M3, M3 = uI M1 a0 13 p2 → (∀ M5, M5 = uI M3 a0 14 p3 → (post M5))))
set_option maxHeartbeats 4000000 in
set_option maxRecDepth 100000 in
theorem ct_X8_setBounds {l : Launch} {g : Gh} {M0 : Mem} {a0 : Nat} {p1 : Int32} {p2 : Int32} {p3 : Int32} {post : Mem → Prop}  (hq : wp_X8_setBounds  g M0 a0 p1 p2 p3 post) : Ct l g yX8_setBounds cX8_setBounds 4 none 0 0 0 [.ref a0, .int p1, .int p2, .int p3] M0 (pV post) := by
  unfold wp_X8_setBounds at hq
  obtain ⟨h0, hq⟩ := hq
  refine Ct.of (by decide) (Nat.le_of_ble_eq_true rfl) ?_
  intro p e s m below meth c ls C hr hlk hn hl hw
  have hx := C.1.1
  have hb := C.1.2.1
  have hl : lv_has ls 4 [(0, .ref a0), (1, .int p1), (2, .int p2), (3, .int p3)] := hl
  refine lv_aload_n hx hb dX8_setBounds_0 rfl (lv_at hl 0 rfl) ?_
  refine lv_iload_n hx hb dX8_setBounds_1 rfl (lv_at hl 1 rfl) ?_
  refine pfX8_53 C hw hw.2.2.1 h0 dX8_setBounds_2 (fun H locs hw => ?_)
  generalize e2 : uI M0 a0 12 p1 = M1 at hw
  replace hq := hq M1 e2.symm
  refine lv_aload_n hx hb dX8_setBounds_5 rfl (lv_at hl 0 rfl) ?_
  refine lv_iload_n hx hb dX8_setBounds_6 rfl (lv_at hl 2 rfl) ?_
  refine pfX8_56 C hw hw.2.2.1 h0 dX8_setBounds_7 (fun H locs hw => ?_)
  generalize e4 : uI M1 a0 13 p2 = M3 at hw
  replace hq := hq M3 e4.symm
  refine lv_aload_n hx hb dX8_setBounds_10 rfl (lv_at hl 0 rfl) ?_
  refine lv_iload_n hx hb dX8_setBounds_11 rfl (lv_at hl 3 rfl) ?_
  refine pfX8_59 C hw hw.2.2.1 h0 dX8_setBounds_12 (fun H locs hw => ?_)
  generalize e6 : uI M3 a0 14 p3 = M5 at hw
  replace hq := hq M5 e6.symm
  exact r_vret C hr hlk hw dX8_setBounds_15 (Nat.le_refl _) (Nat.le_refl _) ⟨rfl, hq⟩

set_option maxRecDepth 100000 in
def lb_X8_nextWithRoom_58  (g : Gh) (M0 : Mem) (a0 : Nat) (p1 : Int32) (post : Int32 → Mem → Prop) (bk2 : Int32 × Mem → Prop) (x2 : Int32)  (M : Mem) : Prop :=
  bk2 (x2, M)
set_option maxRecDepth 100000 in
def bd_X8_nextWithRoom_2  (g : Gh) (M0 : Mem) (a0 : Nat) (p1 : Int32) (post : Int32 → Mem → Prop)  (bk2 : Int32 × Mem → Prop) (x2 : Int32)  (M : Mem) : Prop :=
  ((x2 < 0) → post (mI M a0 7) M) ∧ (¬ (x2 < 0) → (((mI M a0 7) ≤ x2) → post (mI M a0 7) M) ∧ (¬ ((mI M a0 7) ≤ x2) → ∃ q3, mR M a0 5 = some q3 ∧ (okc (gB g) M0 q3 14 ∧ ((((nI (mN M0 q3)) ≤ x2) → post (mI M a0 7) M) ∧ (¬ ((nI (mN M0 q3)) ≤ x2) → vp_in x2 (mN M0 q3) ∧ ((((mI M q3 (Int32.toNatClampNeg x2)) < 0) → lb_X8_nextWithRoom_58  g M0 a0 p1 post bk2 (x2 + 1) M) ∧ (¬ ((mI M q3 (Int32.toNatClampNeg x2)) < 0) → ((8 ≤ (mI M q3 (Int32.toNatClampNeg x2))) → lb_X8_nextWithRoom_58  g M0 a0 p1 post bk2 (x2 + 1) M) ∧ (¬ (8 ≤ (mI M q3 (Int32.toNatClampNeg x2))) → ∃ q10, mR M a0 10 = some q10 ∧ (okc (gB g) M0 q10 14 ∧ (vp_in (mI M q3 (Int32.toNatClampNeg x2)) (mN M0 q10) ∧ ((((mI M a0 12) ≤ (mI M q10 (Int32.toNatClampNeg (mI M q3 (Int32.toNatClampNeg x2))))) → lb_X8_nextWithRoom_58  g M0 a0 p1 post bk2 (x2 + 1) M) ∧ (¬ ((mI M a0 12) ≤ (mI M q10 (Int32.toNatClampNeg (mI M q3 (Int32.toNatClampNeg x2))))) → post x2 M))))))))))))
set_option maxRecDepth 100000 in
def wp_X8_nextWithRoom  (g : Gh) (M0 : Mem) (a0 : Nat) (p1 : Int32) (post : Int32 → Mem → Prop) : Prop :=
  okc (gB g) M0 a0 8 ∧ ((∃ n : Nat, lfp (fun bk z => bd_X8_nextWithRoom_2  g M0 a0 p1 post  bk z.1 z.2) n (p1, M0)))
set_option maxHeartbeats 4000000 in
set_option maxRecDepth 100000 in
theorem lt_X8_nextWithRoom_58 {l : Launch} {g : Gh} {p : Program} {e : Env} {s : State} {m : MethodId} {args : Array Value} {below : List Frame} {meth : Method} {c : Code} {H : Heap} {locs : List Loc} {ls : Array Slot} {M0 M : Mem} {a0 : Nat} {p1 : Int32} {post : Int32 → Mem → Prop} {x2 : Int32}   (C : Cx g p s m args c cX8_nextWithRoom 4 RX8) (hr : meth.sig.returnType = (some .int)) (hlk : meth.locks = false) (hn : meth.name = "nextWithRoom") (h0 : okc (gB g) M0 a0 8) {bk2 : Int32 × Mem → Prop} (hk2 : ∀ (x2 : Int32) (M : Mem) (H : Heap) (locs : List Loc) (ls : Array Slot), bk2 (x2, M) → Wd g s M0 M H locs → lv_has ls 4 [(0, .ref a0), (1, .int p1), (2, .int x2)] → W p l e (rmo 0 0 0) s m args below meth c H locs 0 0 (MQ below (Cq g M0 (pI post)) args s 0 0 (gA g)) (F0 m 2 ls [])) (hq : lb_X8_nextWithRoom_58  g M0 a0 p1 post bk2 x2 M) (hw : Wd g s M0 M H locs) (hl : lv_has ls 4 [(0, .ref a0), (1, .int p1), (2, .int x2)]) : W p l e (rmo 0 0 0) s m args below meth c H locs 0 0 (MQ below (Cq g M0 (pI post)) args s 0 0 (gA g)) (F0 m 58 ls []) := by
  have hx := C.1.1
  have hb := C.1.2.1
  unfold lb_X8_nextWithRoom_58 at hq
  refine lv_goto (tgt := 2) hx hb dX8_nextWithRoom_58 (by decide) ?_
  exact hk2 _ _ _ _ _ hq hw (lv_sub hl [0, 1, 2] rfl)
set_option maxHeartbeats 4000000 in
set_option maxRecDepth 100000 in
theorem lp_X8_nextWithRoom_2 {l : Launch} {g : Gh} {p : Program} {e : Env} {s : State} {m : MethodId} {args : Array Value} {below : List Frame} {meth : Method} {c : Code} {M0 : Mem} {a0 : Nat} {p1 : Int32} {post : Int32 → Mem → Prop}  (C : Cx g p s m args c cX8_nextWithRoom 4 RX8) (hr : meth.sig.returnType = (some .int)) (hlk : meth.locks = false) (hn : meth.name = "nextWithRoom") (h0 : okc (gB g) M0 a0 8)  : ∀ (nf : Nat) (x2 : Int32)  (M : Mem) (H : Heap) (locs : List Loc) (ls : Array Slot), lfp (fun bk z => bd_X8_nextWithRoom_2  g M0 a0 p1 post  bk z.1 z.2) nf (x2, M) → Wd g s M0 M H locs → lv_has ls 4 [(0, .ref a0), (1, .int p1), (2, .int x2)] → W p l e (rmo 0 0 0) s m args below meth c H locs 0 0 (MQ below (Cq g M0 (pI post)) args s 0 0 (gA g)) (F0 m 2 ls []) := by
  have hx := C.1.1
  have hb := C.1.2.1
  intro nf
  induction nf with
  | zero => intro _ _ H locs ls hq; exact hq.elim
  | succ nf hk2 =>
    intro x2 M H locs ls hq hw hl
    replace hq : bd_X8_nextWithRoom_2  g M0 a0 p1 post  (lfp (fun bk z => bd_X8_nextWithRoom_2  g M0 a0 p1 post  bk z.1 z.2) nf) x2 M := hq
    unfold bd_X8_nextWithRoom_2 at hq
    refine lv_iload_n hx hb dX8_nextWithRoom_2 rfl (lv_at hl 2 rfl) ?_
    refine lv_if_lt (tgt := 61) hx hb dX8_nextWithRoom_3 (by decide) (fun c1 => ?_) (fun c1 => ?_)
    · replace hq := hq.1 c1
      refine lv_aload_n hx hb dX8_nextWithRoom_61 rfl (lv_at hl 0 rfl) ?_
      refine gfX8_37 C hw hw.2.2.1 h0 dX8_nextWithRoom_62 ?_
      exact r_iret C hr hlk hw dX8_nextWithRoom_65 (Nat.le_refl _) (Nat.le_refl _) ⟨_, rfl, hq⟩
    · replace hq := hq.2 c1
      refine lv_iload_n hx hb dX8_nextWithRoom_6 rfl (lv_at hl 2 rfl) ?_
      refine lv_aload_n hx hb dX8_nextWithRoom_7 rfl (lv_at hl 0 rfl) ?_
      refine gfX8_37 C hw hw.2.2.1 h0 dX8_nextWithRoom_8 ?_
      refine lv_icmp_ge (tgt := 61) hx hb dX8_nextWithRoom_11 (by decide) (fun c2 => ?_) (fun c2 => ?_)
      · replace hq := hq.1 c2
        refine lv_aload_n hx hb dX8_nextWithRoom_61 rfl (lv_at hl 0 rfl) ?_
        refine gfX8_37 C hw hw.2.2.1 h0 dX8_nextWithRoom_62 ?_
        exact r_iret C hr hlk hw dX8_nextWithRoom_65 (Nat.le_refl _) (Nat.le_refl _) ⟨_, rfl, hq⟩
      · replace hq := hq.2 c2
        refine lv_iload_n hx hb dX8_nextWithRoom_14 rfl (lv_at hl 2 rfl) ?_
        refine lv_aload_n hx hb dX8_nextWithRoom_15 rfl (lv_at hl 0 rfl) ?_
        obtain ⟨q3, e4, hq⟩ := hq
        refine gfX8_15 C hw hw.2.2.1 h0 e4 dX8_nextWithRoom_16 ?_
        obtain ⟨h5, hq⟩ := hq
        refine q_alen C hw hw.2.2.1 h5 (by decide) (by decide) rfl dX8_nextWithRoom_19 ?_
        refine lv_icmp_ge (tgt := 61) hx hb dX8_nextWithRoom_20 (by decide) (fun c6 => ?_) (fun c6 => ?_)
        · replace hq := hq.1 c6
          refine lv_aload_n hx hb dX8_nextWithRoom_61 rfl (lv_at hl 0 rfl) ?_
          refine gfX8_37 C hw hw.2.2.1 h0 dX8_nextWithRoom_62 ?_
          exact r_iret C hr hlk hw dX8_nextWithRoom_65 (Nat.le_refl _) (Nat.le_refl _) ⟨_, rfl, hq⟩
        · replace hq := hq.2 c6
          refine lv_aload_n hx hb dX8_nextWithRoom_23 rfl (lv_at hl 0 rfl) ?_
          refine gfX8_15 C hw hw.2.2.1 h0 e4 dX8_nextWithRoom_24 ?_
          refine lv_iload_n hx hb dX8_nextWithRoom_27 rfl (lv_at hl 2 rfl) ?_
          obtain ⟨h7, hq⟩ := hq
          refine q_iald C hw hw.2.2.1 h5 h7 dX8_nextWithRoom_28 ?_
          refine lv_istore_n (lv' := [(3, .int (mI M q3 (Int32.toNatClampNeg x2))), (0, .ref a0), (1, .int p1), (2, .int x2)]) hx hb dX8_nextWithRoom_29 rfl hl (by decide) rfl (fun ls hl => ?_)
          refine lv_iload_n hx hb dX8_nextWithRoom_30 rfl (lv_at hl 0 rfl) ?_
          refine lv_if_lt (tgt := 55) hx hb dX8_nextWithRoom_31 (by decide) (fun c8 => ?_) (fun c8 => ?_)
          · replace hq := hq.1 c8
            refine lv_iinc (v := (x2 + 1)) (lv' := [(2, .int (x2 + 1)), (3, .int (mI M q3 (Int32.toNatClampNeg x2))), (0, .ref a0), (1, .int p1)]) hx hb dX8_nextWithRoom_55 hl (k := 3) rfl rfl (by decide) rfl (fun ls hl => ?_)
            exact lt_X8_nextWithRoom_58  C hr hlk hn h0 hk2 hq hw (lv_sub hl [2, 3, 0] rfl)
          · replace hq := hq.2 c8
            refine lv_iload_n hx hb dX8_nextWithRoom_34 rfl (lv_at hl 0 rfl) ?_
            refine lv_bipush (v := 8) hx hb dX8_nextWithRoom_35 (by decide) ?_
            refine lv_icmp_ge (tgt := 55) hx hb dX8_nextWithRoom_37 (by decide) (fun c9 => ?_) (fun c9 => ?_)
            · replace hq := hq.1 c9
              refine lv_iinc (v := (x2 + 1)) (lv' := [(2, .int (x2 + 1)), (3, .int (mI M q3 (Int32.toNatClampNeg x2))), (0, .ref a0), (1, .int p1)]) hx hb dX8_nextWithRoom_55 hl (k := 3) rfl rfl (by decide) rfl (fun ls hl => ?_)
              exact lt_X8_nextWithRoom_58  C hr hlk hn h0 hk2 hq hw (lv_sub hl [2, 3, 0] rfl)
            · replace hq := hq.2 c9
              refine lv_aload_n hx hb dX8_nextWithRoom_40 rfl (lv_at hl 1 rfl) ?_
              obtain ⟨q10, e11, hq⟩ := hq
              refine gfX8_24 C hw hw.2.2.1 h0 e11 dX8_nextWithRoom_41 ?_
              refine lv_iload_n hx hb dX8_nextWithRoom_44 rfl (lv_at hl 0 rfl) ?_
              obtain ⟨h12, hq⟩ := hq
              obtain ⟨h13, hq⟩ := hq
              refine q_iald C hw hw.2.2.1 h12 h13 dX8_nextWithRoom_45 ?_
              refine lv_aload_n hx hb dX8_nextWithRoom_46 rfl (lv_at hl 1 rfl) ?_
              refine gfX8_53 C hw hw.2.2.1 h0 dX8_nextWithRoom_47 ?_
              refine lv_icmp_ge (tgt := 55) hx hb dX8_nextWithRoom_50 (by decide) (fun c14 => ?_) (fun c14 => ?_)
              · replace hq := hq.1 c14
                refine lv_iinc (v := (x2 + 1)) (lv' := [(2, .int (x2 + 1)), (3, .int (mI M q3 (Int32.toNatClampNeg x2))), (0, .ref a0), (1, .int p1)]) hx hb dX8_nextWithRoom_55 hl (k := 3) rfl rfl (by decide) rfl (fun ls hl => ?_)
                exact lt_X8_nextWithRoom_58  C hr hlk hn h0 hk2 hq hw (lv_sub hl [2, 3, 0] rfl)
              · replace hq := hq.2 c14
                refine lv_iload_n hx hb dX8_nextWithRoom_53 rfl (lv_at hl 3 rfl) ?_
                exact r_iret C hr hlk hw dX8_nextWithRoom_54 (Nat.le_refl _) (Nat.le_refl _) ⟨_, rfl, hq⟩
set_option maxHeartbeats 4000000 in
set_option maxRecDepth 100000 in
theorem ct_X8_nextWithRoom {l : Launch} {g : Gh} {M0 : Mem} {a0 : Nat} {p1 : Int32} {post : Int32 → Mem → Prop}  (hq : wp_X8_nextWithRoom  g M0 a0 p1 post) : Ct l g yX8_nextWithRoom cX8_nextWithRoom 4 (some .int) 0 0 0 [.ref a0, .int p1] M0 (pI post) := by
  unfold wp_X8_nextWithRoom at hq
  obtain ⟨h0, hq⟩ := hq
  refine Ct.of (by decide) (Nat.le_of_ble_eq_true rfl) ?_
  intro p e s m below meth c ls C hr hlk hn hl hw
  have hx := C.1.1
  have hb := C.1.2.1
  have hl : lv_has ls 4 [(0, .ref a0), (1, .int p1)] := hl
  refine lv_iload_n hx hb dX8_nextWithRoom_0 rfl (lv_at hl 1 rfl) ?_
  refine lv_istore_n (lv' := [(2, .int p1), (0, .ref a0), (1, .int p1)]) hx hb dX8_nextWithRoom_1 rfl hl (by decide) rfl (fun ls hl => ?_)
  obtain ⟨nf, hq⟩ := hq
  exact lp_X8_nextWithRoom_2  C hr hlk hn h0  nf _ _ _ _ _ hq hw (lv_sub hl [1, 2, 0] rfl)

set_option maxRecDepth 100000 in
def wp_X8_weigh  (g : Gh) (M0 : Mem) (a0 : Nat) (p1 : Int32) (p2 : Int32) (post : Mem → Prop) : Prop :=
  okc (gB g) M0 a0 8 ∧ (((p1 < 0) → post M0) ∧ (¬ (p1 < 0) → ∃ q2, mR M0 a0 5 = some q2 ∧ (okc (gB g) M0 q2 14 ∧ ((((nI (mN M0 q2)) ≤ p1) → post M0) ∧ (¬ ((nI (mN M0 q2)) ≤ p1) → vp_in p1 (mN M0 q2) ∧ ((((mI M0 q2 (Int32.toNatClampNeg p1)) < 0) → post M0) ∧ (¬ ((mI M0 q2 (Int32.toNatClampNeg p1)) < 0) → ((8 ≤ (mI M0 q2 (Int32.toNatClampNeg p1))) → post M0) ∧ (¬ (8 ≤ (mI M0 q2 (Int32.toNatClampNeg p1))) → ∃ q9, mR M0 a0 10 = some q9 ∧ (okc (gB g) M0 q9 14 ∧ (vp_in (mI M0 q2 (Int32.toNatClampNeg p1)) (mN M0 q9) ∧ (∀ M13, M13 = uI M0 q9 (Int32.toNatClampNeg (mI M0 q2 (Int32.toNatClampNeg p1))) ((mI M0 q9 (Int32.toNatClampNeg (mI M0 q2 (Int32.toNatClampNeg p1)))) + p2) → (∃ q15, mR M13 a0 6 = some q15 ∧ (okc (gB g) M0 q15 14 ∧ (vp_in p1 (mN M0 q15) ∧ (∀ M19, M19 = uI M13 a0 11 ((mI M13 a0 11) + (p2 * (mI M13 q15 (Int32.toNatClampNeg p1)))) → (post M19))))))))))))))))
set_option maxHeartbeats 4000000 in
set_option maxRecDepth 100000 in
theorem ct_X8_weigh {l : Launch} {g : Gh} {M0 : Mem} {a0 : Nat} {p1 : Int32} {p2 : Int32} {post : Mem → Prop}  (hq : wp_X8_weigh  g M0 a0 p1 p2 post) : Ct l g yX8_weigh cX8_weigh 3 none 0 0 0 [.ref a0, .int p1, .int p2] M0 (pV post) := by
  unfold wp_X8_weigh at hq
  obtain ⟨h0, hq⟩ := hq
  refine Ct.of (by decide) (Nat.le_of_ble_eq_true rfl) ?_
  intro p e s m below meth c ls C hr hlk hn hl hw
  have hx := C.1.1
  have hb := C.1.2.1
  have hl : lv_has ls 3 [(0, .ref a0), (1, .int p1), (2, .int p2)] := hl
  refine lv_iload_n hx hb dX8_weigh_0 rfl (lv_at hl 1 rfl) ?_
  refine lv_if_lt (tgt := 65) hx hb dX8_weigh_1 (by decide) (fun c1 => ?_) (fun c1 => ?_)
  · replace hq := hq.1 c1
    exact r_vret C hr hlk hw dX8_weigh_65 (Nat.le_refl _) (Nat.le_refl _) ⟨rfl, hq⟩
  · replace hq := hq.2 c1
    refine lv_iload_n hx hb dX8_weigh_4 rfl (lv_at hl 1 rfl) ?_
    refine lv_aload_n hx hb dX8_weigh_5 rfl (lv_at hl 0 rfl) ?_
    obtain ⟨q2, e3, hq⟩ := hq
    refine gfX8_15 C hw hw.2.2.1 h0 e3 dX8_weigh_6 ?_
    obtain ⟨h4, hq⟩ := hq
    refine q_alen C hw hw.2.2.1 h4 (by decide) (by decide) rfl dX8_weigh_9 ?_
    refine lv_icmp_ge (tgt := 65) hx hb dX8_weigh_10 (by decide) (fun c5 => ?_) (fun c5 => ?_)
    · replace hq := hq.1 c5
      exact r_vret C hr hlk hw dX8_weigh_65 (Nat.le_refl _) (Nat.le_refl _) ⟨rfl, hq⟩
    · replace hq := hq.2 c5
      refine lv_aload_n hx hb dX8_weigh_13 rfl (lv_at hl 0 rfl) ?_
      refine gfX8_15 C hw hw.2.2.1 h0 e3 dX8_weigh_14 ?_
      refine lv_iload_n hx hb dX8_weigh_17 rfl (lv_at hl 1 rfl) ?_
      obtain ⟨h6, hq⟩ := hq
      refine q_iald C hw hw.2.2.1 h4 h6 dX8_weigh_18 ?_
      refine lv_if_lt (tgt := 65) hx hb dX8_weigh_19 (by decide) (fun c7 => ?_) (fun c7 => ?_)
      · replace hq := hq.1 c7
        exact r_vret C hr hlk hw dX8_weigh_65 (Nat.le_refl _) (Nat.le_refl _) ⟨rfl, hq⟩
      · replace hq := hq.2 c7
        refine lv_aload_n hx hb dX8_weigh_22 rfl (lv_at hl 0 rfl) ?_
        refine gfX8_15 C hw hw.2.2.1 h0 e3 dX8_weigh_23 ?_
        refine lv_iload_n hx hb dX8_weigh_26 rfl (lv_at hl 1 rfl) ?_
        refine q_iald C hw hw.2.2.1 h4 h6 dX8_weigh_27 ?_
        refine lv_bipush (v := 8) hx hb dX8_weigh_28 (by decide) ?_
        refine lv_icmp_ge (tgt := 65) hx hb dX8_weigh_30 (by decide) (fun c8 => ?_) (fun c8 => ?_)
        · replace hq := hq.1 c8
          exact r_vret C hr hlk hw dX8_weigh_65 (Nat.le_refl _) (Nat.le_refl _) ⟨rfl, hq⟩
        · replace hq := hq.2 c8
          refine lv_aload_n hx hb dX8_weigh_33 rfl (lv_at hl 0 rfl) ?_
          obtain ⟨q9, e10, hq⟩ := hq
          refine gfX8_24 C hw hw.2.2.1 h0 e10 dX8_weigh_34 ?_
          refine lv_aload_n hx hb dX8_weigh_37 rfl (lv_at hl 0 rfl) ?_
          refine gfX8_15 C hw hw.2.2.1 h0 e3 dX8_weigh_38 ?_
          refine lv_iload_n hx hb dX8_weigh_41 rfl (lv_at hl 1 rfl) ?_
          refine q_iald C hw hw.2.2.1 h4 h6 dX8_weigh_42 ?_
          refine lv_dup2_11 hx hb dX8_weigh_43 rfl rfl ?_
          obtain ⟨h11, hq⟩ := hq
          obtain ⟨h12, hq⟩ := hq
          refine q_iald C hw hw.2.2.1 h11 h12 dX8_weigh_44 ?_
          refine lv_iload_n hx hb dX8_weigh_45 rfl (lv_at hl 2 rfl) ?_
          refine lv_iadd hx hb dX8_weigh_46 ?_
          refine q_iast C hw hw.2.2.1 h11 h12 dX8_weigh_47 (fun H locs hw => ?_)
          generalize e14 : uI M0 q9 (Int32.toNatClampNeg (mI M0 q2 (Int32.toNatClampNeg p1))) ((mI M0 q9 (Int32.toNatClampNeg (mI M0 q2 (Int32.toNatClampNeg p1)))) + p2) = M13 at hw
          replace hq := hq M13 e14.symm
          have e3 : mR M13 a0 5 = some q2 := by rw [← e14, mR_uI]; exact e3
          have e10 : mR M13 a0 10 = some q9 := by rw [← e14, mR_uI]; exact e10
          refine lv_aload_n hx hb dX8_weigh_48 rfl (lv_at hl 0 rfl) ?_
          refine lv_dup hx hb dX8_weigh_49 rfl ?_
          refine gfX8_65 C hw hw.2.2.1 h0 dX8_weigh_50 ?_
          refine lv_iload_n hx hb dX8_weigh_53 rfl (lv_at hl 2 rfl) ?_
          refine lv_aload_n hx hb dX8_weigh_54 rfl (lv_at hl 0 rfl) ?_
          obtain ⟨q15, e16, hq⟩ := hq
          refine gfX8_18 C hw hw.2.2.1 h0 e16 dX8_weigh_55 ?_
          refine lv_iload_n hx hb dX8_weigh_58 rfl (lv_at hl 1 rfl) ?_
          obtain ⟨h17, hq⟩ := hq
          obtain ⟨h18, hq⟩ := hq
          refine q_iald C hw hw.2.2.1 h17 h18 dX8_weigh_59 ?_
          refine lv_imul hx hb dX8_weigh_60 ?_
          refine lv_iadd hx hb dX8_weigh_61 ?_
          refine pfX8_65 C hw hw.2.2.1 h0 dX8_weigh_62 (fun H locs hw => ?_)
          generalize e20 : uI M13 a0 11 ((mI M13 a0 11) + (p2 * (mI M13 q15 (Int32.toNatClampNeg p1)))) = M19 at hw
          replace hq := hq M19 e20.symm
          have e3 : mR M19 a0 5 = some q2 := by rw [← e20, mR_uI]; exact e3
          have e10 : mR M19 a0 10 = some q9 := by rw [← e20, mR_uI]; exact e10
          have e16 : mR M19 a0 6 = some q15 := by rw [← e20, mR_uI]; exact e16
          exact r_vret C hr hlk hw dX8_weigh_65 (Nat.le_refl _) (Nat.le_refl _) ⟨rfl, hq⟩

set_option maxRecDepth 100000 in
def wp_X8_putIn  (g : Gh) (M0 : Mem) (a0 : Nat) (p1 : Int32) (post : Mem → Prop) : Prop :=
  okc (gB g) M0 a0 8 ∧ (∃ q1, mR M0 a0 8 = some q1 ∧ (okc (gB g) M0 q1 14 ∧ ((((nI (mN M0 q1)) ≤ (mI M0 a0 9)) → post M0) ∧ (¬ ((nI (mN M0 q1)) ≤ (mI M0 a0 9)) → ∀ M5, M5 = uI M0 a0 3 ((mI M0 a0 3) + 1) → (vp_in (mI M5 a0 9) (mN M0 q1) ∧ (∀ M8, M8 = uI M5 q1 (Int32.toNatClampNeg (mI M5 a0 9)) p1 → (∀ M10, M10 = uI M8 a0 9 ((mI M8 a0 9) + 1) → (wp_X8_weigh g M10 a0 p1 1 (fun M13 => post M13)))))))))
set_option maxHeartbeats 4000000 in
set_option maxRecDepth 100000 in
theorem ct_X8_putIn {l : Launch} {g : Gh} {M0 : Mem} {a0 : Nat} {p1 : Int32} {post : Mem → Prop}  (hq : wp_X8_putIn  g M0 a0 p1 post) : Ct l g yX8_putIn cX8_putIn 2 none 1 0 0 [.ref a0, .int p1] M0 (pV post) := by
  unfold wp_X8_putIn at hq
  obtain ⟨h0, hq⟩ := hq
  refine Ct.of (by decide) (Nat.le_of_ble_eq_true rfl) ?_
  intro p e s m below meth c ls C hr hlk hn hl hw
  have hx := C.1.1
  have hb := C.1.2.1
  have hl : lv_has ls 2 [(0, .ref a0), (1, .int p1)] := hl
  refine lv_aload_n hx hb dX8_putIn_0 rfl (lv_at hl 0 rfl) ?_
  refine gfX8_62 C hw hw.2.2.1 h0 dX8_putIn_1 ?_
  refine lv_aload_n hx hb dX8_putIn_4 rfl (lv_at hl 0 rfl) ?_
  obtain ⟨q1, e2, hq⟩ := hq
  refine gfX8_21 C hw hw.2.2.1 h0 e2 dX8_putIn_5 ?_
  obtain ⟨h3, hq⟩ := hq
  refine q_alen C hw hw.2.2.1 h3 (by decide) (by decide) rfl dX8_putIn_8 ?_
  refine lv_icmp_ge (tgt := 48) hx hb dX8_putIn_9 (by decide) (fun c4 => ?_) (fun c4 => ?_)
  · replace hq := hq.1 c4
    exact r_vret C hr hlk hw dX8_putIn_48 (Nat.le_refl _) (Nat.le_refl _) ⟨rfl, hq⟩
  · replace hq := hq.2 c4
    refine lv_aload_n hx hb dX8_putIn_12 rfl (lv_at hl 0 rfl) ?_
    refine lv_dup hx hb dX8_putIn_13 rfl ?_
    refine gfX8_68 C hw hw.2.2.1 h0 dX8_putIn_14 ?_
    refine lv_iconst (v := 1) hx hb dX8_putIn_17 (by decide) ?_
    refine lv_iadd hx hb dX8_putIn_18 ?_
    refine pfX8_68 C hw hw.2.2.1 h0 dX8_putIn_19 (fun H locs hw => ?_)
    generalize e6 : uI M0 a0 3 ((mI M0 a0 3) + 1) = M5 at hw
    replace hq := hq M5 e6.symm
    have e2 : mR M5 a0 8 = some q1 := by rw [← e6, mR_uI]; exact e2
    refine lv_aload_n hx hb dX8_putIn_22 rfl (lv_at hl 0 rfl) ?_
    refine gfX8_21 C hw hw.2.2.1 h0 e2 dX8_putIn_23 ?_
    refine lv_aload_n hx hb dX8_putIn_26 rfl (lv_at hl 0 rfl) ?_
    refine gfX8_62 C hw hw.2.2.1 h0 dX8_putIn_27 ?_
    refine lv_iload_n hx hb dX8_putIn_30 rfl (lv_at hl 1 rfl) ?_
    obtain ⟨h7, hq⟩ := hq
    refine q_iast C hw hw.2.2.1 h3 h7 dX8_putIn_31 (fun H locs hw => ?_)
    generalize e9 : uI M5 q1 (Int32.toNatClampNeg (mI M5 a0 9)) p1 = M8 at hw
    replace hq := hq M8 e9.symm
    have e2 : mR M8 a0 8 = some q1 := by rw [← e9, mR_uI]; exact e2
    refine lv_aload_n hx hb dX8_putIn_32 rfl (lv_at hl 0 rfl) ?_
    refine lv_dup hx hb dX8_putIn_33 rfl ?_
    refine gfX8_62 C hw hw.2.2.1 h0 dX8_putIn_34 ?_
    refine lv_iconst (v := 1) hx hb dX8_putIn_37 (by decide) ?_
    refine lv_iadd hx hb dX8_putIn_38 ?_
    refine pfX8_62 C hw hw.2.2.1 h0 dX8_putIn_39 (fun H locs hw => ?_)
    generalize e11 : uI M8 a0 9 ((mI M8 a0 9) + 1) = M10 at hw
    replace hq := hq M10 e11.symm
    have e2 : mR M10 a0 8 = some q1 := by rw [← e11, mR_uI]; exact e2
    refine lv_aload_n hx hb dX8_putIn_42 rfl (lv_at hl 0 rfl) ?_
    refine lv_iload_n hx hb dX8_putIn_43 rfl (lv_at hl 1 rfl) ?_
    refine lv_iconst (v := 1) hx hb dX8_putIn_44 (by decide) ?_
    refine r_callV (T := TX8) (N := 15) (ci := 8) (index := 88) (n := 2) (d2 := 0) (mc := 0) (ms := 0) (As := [.int p1, .int 1]) (rest := []) C hw (ct_X8_weigh hq) kvX8_88 hq.1 (by decide) rfl ⟨by decide, by decide⟩ ⟨by decide, by decide⟩ rfl hl.1 rfl (Nat.le_of_ble_eq_true rfl) dX8_putIn_45 (fun r M13 H locs hp hle hw => ?_)
    obtain ⟨rfl, hq⟩ := hp
    refine W.eq (g2 := F0 m 48 ls []) rfl ?_
    exact r_vret C hr hlk hw dX8_putIn_48 (Nat.le_refl _) (Nat.le_refl _) ⟨rfl, hq⟩

set_option maxRecDepth 100000 in
def wp_X8_takeOut  (g : Gh) (M0 : Mem) (a0 : Nat) (post : Int32 → Mem → Prop) : Prop :=
  okc (gB g) M0 a0 8 ∧ ((((mI M0 a0 9) < 1) → post (mI M0 a0 7) M0) ∧ (¬ ((mI M0 a0 9) < 1) → ∃ q2, mR M0 a0 8 = some q2 ∧ (okc (gB g) M0 q2 14 ∧ ((((mI M0 a0 9) ≤ (nI (mN M0 q2))) → ∀ M6, M6 = uI M0 a0 9 ((mI M0 a0 9) - 1) → (vp_in (mI M6 a0 9) (mN M0 q2) ∧ (wp_X8_weigh g M6 a0 (mI M6 q2 (Int32.toNatClampNeg (mI M6 a0 9))) (-1) (fun M10 => ∃ q11, mR M10 a0 8 = some q11 ∧ (okc (gB g) M0 q11 14 ∧ (vp_in (mI M10 a0 9) (mN M0 q11) ∧ (post (mI M10 q11 (Int32.toNatClampNeg (mI M10 a0 9))) M10))))))) ∧ (¬ ((mI M0 a0 9) ≤ (nI (mN M0 q2))) → post (mI M0 a0 7) M0)))))
set_option maxHeartbeats 4000000 in
set_option maxRecDepth 100000 in
theorem ct_X8_takeOut {l : Launch} {g : Gh} {M0 : Mem} {a0 : Nat} {post : Int32 → Mem → Prop}  (hq : wp_X8_takeOut  g M0 a0 post) : Ct l g yX8_takeOut cX8_takeOut 1 (some .int) 1 0 0 [.ref a0] M0 (pI post) := by
  unfold wp_X8_takeOut at hq
  obtain ⟨h0, hq⟩ := hq
  refine Ct.of (by decide) (Nat.le_of_ble_eq_true rfl) ?_
  intro p e s m below meth c ls C hr hlk hn hl hw
  have hx := C.1.1
  have hb := C.1.2.1
  have hl : lv_has ls 1 [(0, .ref a0)] := hl
  refine lv_aload_n hx hb dX8_takeOut_0 rfl (lv_at hl 0 rfl) ?_
  refine gfX8_62 C hw hw.2.2.1 h0 dX8_takeOut_1 ?_
  refine lv_iconst (v := 1) hx hb dX8_takeOut_4 (by decide) ?_
  refine lv_icmp_lt (tgt := 20) hx hb dX8_takeOut_5 (by decide) (fun c1 => ?_) (fun c1 => ?_)
  · replace hq := hq.1 c1
    refine lv_aload_n hx hb dX8_takeOut_20 rfl (lv_at hl 0 rfl) ?_
    refine gfX8_37 C hw hw.2.2.1 h0 dX8_takeOut_21 ?_
    exact r_iret C hr hlk hw dX8_takeOut_24 (Nat.le_refl _) (Nat.le_refl _) ⟨_, rfl, hq⟩
  · replace hq := hq.2 c1
    refine lv_aload_n hx hb dX8_takeOut_8 rfl (lv_at hl 0 rfl) ?_
    refine gfX8_62 C hw hw.2.2.1 h0 dX8_takeOut_9 ?_
    refine lv_aload_n hx hb dX8_takeOut_12 rfl (lv_at hl 0 rfl) ?_
    obtain ⟨q2, e3, hq⟩ := hq
    refine gfX8_21 C hw hw.2.2.1 h0 e3 dX8_takeOut_13 ?_
    obtain ⟨h4, hq⟩ := hq
    refine q_alen C hw hw.2.2.1 h4 (by decide) (by decide) rfl dX8_takeOut_16 ?_
    refine lv_icmp_le (tgt := 25) hx hb dX8_takeOut_17 (by decide) (fun c5 => ?_) (fun c5 => ?_)
    · replace hq := hq.1 c5
      refine lv_aload_n hx hb dX8_takeOut_25 rfl (lv_at hl 0 rfl) ?_
      refine lv_dup hx hb dX8_takeOut_26 rfl ?_
      refine gfX8_62 C hw hw.2.2.1 h0 dX8_takeOut_27 ?_
      refine lv_iconst (v := 1) hx hb dX8_takeOut_30 (by decide) ?_
      refine lv_isub hx hb dX8_takeOut_31 ?_
      refine pfX8_62 C hw hw.2.2.1 h0 dX8_takeOut_32 (fun H locs hw => ?_)
      generalize e7 : uI M0 a0 9 ((mI M0 a0 9) - 1) = M6 at hw
      replace hq := hq M6 e7.symm
      have e3 : mR M6 a0 8 = some q2 := by rw [← e7, mR_uI]; exact e3
      refine lv_aload_n hx hb dX8_takeOut_35 rfl (lv_at hl 0 rfl) ?_
      refine lv_aload_n hx hb dX8_takeOut_36 rfl (lv_at hl 0 rfl) ?_
      refine gfX8_21 C hw hw.2.2.1 h0 e3 dX8_takeOut_37 ?_
      refine lv_aload_n hx hb dX8_takeOut_40 rfl (lv_at hl 0 rfl) ?_
      refine gfX8_62 C hw hw.2.2.1 h0 dX8_takeOut_41 ?_
      obtain ⟨h8, hq⟩ := hq
      refine q_iald C hw hw.2.2.1 h4 h8 dX8_takeOut_44 ?_
      refine lv_iconst (v := (-1)) hx hb dX8_takeOut_45 (by decide) ?_
      refine r_callV (T := TX8) (N := 15) (ci := 8) (index := 88) (n := 2) (d2 := 0) (mc := 0) (ms := 0) (As := [.int (mI M6 q2 (Int32.toNatClampNeg (mI M6 a0 9))), .int (-1)]) (rest := []) C hw (ct_X8_weigh hq) kvX8_88 hq.1 (by decide) rfl ⟨by decide, by decide⟩ ⟨by decide, by decide⟩ rfl hl.1 rfl (Nat.le_of_ble_eq_true rfl) dX8_takeOut_46 (fun r M10 H locs hp hle hw => ?_)
      obtain ⟨rfl, hq⟩ := hp
      refine W.eq (g2 := F0 m 49 ls []) rfl ?_
      refine lv_aload_n hx hb dX8_takeOut_49 rfl (lv_at hl 0 rfl) ?_
      obtain ⟨q11, e12, hq⟩ := hq
      refine gfX8_21 C hw hw.2.2.1 h0 e12 dX8_takeOut_50 ?_
      refine lv_aload_n hx hb dX8_takeOut_53 rfl (lv_at hl 0 rfl) ?_
      refine gfX8_62 C hw hw.2.2.1 h0 dX8_takeOut_54 ?_
      obtain ⟨h13, hq⟩ := hq
      obtain ⟨h14, hq⟩ := hq
      refine q_iald C hw hw.2.2.1 h13 h14 dX8_takeOut_57 ?_
      exact r_iret C hr hlk hw dX8_takeOut_58 (Nat.le_refl _) (Nat.le_refl _) ⟨_, rfl, hq⟩
    · replace hq := hq.2 c5
      refine lv_aload_n hx hb dX8_takeOut_20 rfl (lv_at hl 0 rfl) ?_
      refine gfX8_37 C hw hw.2.2.1 h0 dX8_takeOut_21 ?_
      exact r_iret C hr hlk hw dX8_takeOut_24 (Nat.le_refl _) (Nat.le_refl _) ⟨_, rfl, hq⟩
