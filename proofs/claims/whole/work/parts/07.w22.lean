set_option maxRecDepth 100000 in
def lb_X12_go_247  (g : Gh) (M0 : Mem) (a0 : Nat) (p1 : Int32) (post : Mem → Prop)  (x3 : Int32)  (M : Mem) : Prop :=
  ((x3 = 0) → ∀ M2, M2 = uI M a0 6 1 → (post M2)) ∧ (¬ (x3 = 0) → ∀ M4, M4 = uI M a0 6 4 → (post M4))
set_option maxRecDepth 100000 in
def lb_X12_go_196  (g : Gh) (M0 : Mem) (a0 : Nat) (p1 : Int32) (post : Mem → Prop)  (x2 : Int32) (s0 : Int32) (M : Mem) : Prop :=
  ∀ M6, M6 = uI M a0 7 x2 → (∀ M8, M8 = uI M6 a0 4 ((mI M6 a0 4) + 1) → (((p1 = 0) → lb_X12_go_247  g M0 a0 p1 post  s0 M8) ∧ (¬ (p1 = 0) → ((x2 = 46) → wp_X12_at g M8 a0 (mI M8 a0 4) (fun v12 M13 => ((v12 = 46) → ∀ M15, M15 = uI M13 a0 4 ((mI M13 a0 4) + 1) → (lb_X12_go_247  g M0 a0 p1 post  1 M15)) ∧ (¬ (v12 = 46) → lb_X12_go_247  g M0 a0 p1 post  s0 M13))) ∧ (¬ (x2 = 46) → lb_X12_go_247  g M0 a0 p1 post  s0 M8))))
set_option maxRecDepth 100000 in
def lb_X12_go_141  (g : Gh) (M0 : Mem) (a0 : Nat) (p1 : Int32) (post : Mem → Prop)  (x2 : Int32)  (M : Mem) : Prop :=
  ((x2 = 93) → lb_X12_go_196  g M0 a0 p1 post  x2 1 M) ∧ (¬ (x2 = 93) → ((x2 = 40) → lb_X12_go_196  g M0 a0 p1 post  x2 1 M) ∧ (¬ (x2 = 40) → ((x2 = 41) → lb_X12_go_196  g M0 a0 p1 post  x2 1 M) ∧ (¬ (x2 = 41) → ((x2 = 123) → lb_X12_go_196  g M0 a0 p1 post  x2 1 M) ∧ (¬ (x2 = 123) → ((x2 = 125) → lb_X12_go_196  g M0 a0 p1 post  x2 1 M) ∧ (¬ (x2 = 125) → ((x2 = 44) → lb_X12_go_196  g M0 a0 p1 post  x2 1 M) ∧ (¬ (x2 = 44) → lb_X12_go_196  g M0 a0 p1 post  x2 0 M))))))
set_option maxRecDepth 100000 in
def lb_X12_go_79  (g : Gh) (M0 : Mem) (a0 : Nat) (p1 : Int32) (post : Mem → Prop)    (M : Mem) : Prop :=
  (((mI M a0 4) < (mI M a0 3)) → ∃ q24, mR M a0 1 = some q24 ∧ (okc (gB g) M0 q24 14 ∧ (vp_in (mI M a0 4) (mN M0 q24) ∧ (wp_X12_isLetter g M (mI M q24 (Int32.toNatClampNeg (mI M a0 4))) (fun v28 M29 => ((v28 = 0) → wp_X12_isDigit g M29 (mI M q24 (Int32.toNatClampNeg (mI M a0 4))) (fun v33 M34 => ((v33 = 0) → ((p1 = 0) → (((mI M q24 (Int32.toNatClampNeg (mI M a0 4))) = 59) → lb_X12_go_196  g M0 a0 p1 post  (mI M q24 (Int32.toNatClampNeg (mI M a0 4))) 1 M34) ∧ (¬ ((mI M q24 (Int32.toNatClampNeg (mI M a0 4))) = 59) → lb_X12_go_196  g M0 a0 p1 post  (mI M q24 (Int32.toNatClampNeg (mI M a0 4))) 0 M34)) ∧ (¬ (p1 = 0) → (((mI M q24 (Int32.toNatClampNeg (mI M a0 4))) = 124) → lb_X12_go_196  g M0 a0 p1 post  (mI M q24 (Int32.toNatClampNeg (mI M a0 4))) 1 M34) ∧ (¬ ((mI M q24 (Int32.toNatClampNeg (mI M a0 4))) = 124) → (((mI M q24 (Int32.toNatClampNeg (mI M a0 4))) = 91) → lb_X12_go_196  g M0 a0 p1 post  (mI M q24 (Int32.toNatClampNeg (mI M a0 4))) 1 M34) ∧ (¬ ((mI M q24 (Int32.toNatClampNeg (mI M a0 4))) = 91) → lb_X12_go_141  g M0 a0 p1 post  (mI M q24 (Int32.toNatClampNeg (mI M a0 4))) M34)))) ∧ (¬ (v33 = 0) → wp_X12_readWord g M34 a0 (fun M41 => post M41)))) ∧ (¬ (v28 = 0) → wp_X12_readWord g M29 a0 (fun M32 => post M32))))))) ∧ (¬ ((mI M a0 4) < (mI M a0 3)) → ∀ M42, M42 = uI M a0 6 0 → (post M42))
set_option maxRecDepth 100000 in
def lb_X12_go_38  (g : Gh) (M0 : Mem) (a0 : Nat) (p1 : Int32) (post : Mem → Prop)    (M : Mem) : Prop :=
  ∀ M44, M44 = uI M a0 5 (mI M a0 4) → ((((mI M44 a0 3) ≤ 200) → lb_X12_go_79  g M0 a0 p1 post   M44) ∧ (¬ ((mI M44 a0 3) ≤ 200) → (((mI M44 a0 5) < 200) → lb_X12_go_79  g M0 a0 p1 post   M44) ∧ (¬ ((mI M44 a0 5) < 200) → ∀ M48, M48 = uI M44 a0 5 200 → (∀ M50, M50 = uI M48 a0 6 1 → (post M50)))))
set_option maxRecDepth 100000 in
def bd_X12_go_0  (g : Gh) (M0 : Mem) (a0 : Nat) (p1 : Int32) (post : Mem → Prop)  (bk0 : Mem → Prop)   (M : Mem) : Prop :=
  (((mI M a0 3) ≤ (mI M a0 4)) → lb_X12_go_38  g M0 a0 p1 post   M) ∧ (¬ ((mI M a0 3) ≤ (mI M a0 4)) → ∃ q53, mR M a0 1 = some q53 ∧ (okc (gB g) M0 q53 14 ∧ (vp_in (mI M a0 4) (mN M0 q53) ∧ ((((mI M q53 (Int32.toNatClampNeg (mI M a0 4))) = 32) → ∀ M58, M58 = uI M a0 4 ((mI M a0 4) + 1) → (bk0 (M58))) ∧ (¬ ((mI M q53 (Int32.toNatClampNeg (mI M a0 4))) = 32) → lb_X12_go_38  g M0 a0 p1 post   M)))))
set_option maxRecDepth 100000 in
def wp_X12_go  (g : Gh) (M0 : Mem) (a0 : Nat) (p1 : Int32) (post : Mem → Prop) : Prop :=
  okc (gB g) M0 a0 12 ∧ ((∃ n : Nat, lfp (fun bk z => bd_X12_go_0  g M0 a0 p1 post  bk z) n (M0)))
set_option maxHeartbeats 4000000 in
set_option maxRecDepth 100000 in
theorem lt_X12_go_247 {l : Launch} {g : Gh} {p : Program} {e : Env} {s : State} {m : MethodId} {args : Array Value} {below : List Frame} {meth : Method} {c : Code} {H : Heap} {locs : List Loc} {ls : Array Slot} {M0 M : Mem} {a0 : Nat} {p1 : Int32} {post : Mem → Prop} {x3 : Int32}   (C : Cx g p s m args c cX12_go 4 RX12) (hr : meth.sig.returnType = none) (hlk : meth.locks = false) (hn : meth.name = "go") (h0 : okc (gB g) M0 a0 12)  (hq : lb_X12_go_247  g M0 a0 p1 post  x3 M) (hw : Wd g s M0 M H locs) (hl : lv_has ls 4 [(0, .ref a0), (1, .int p1), (3, .int x3)]) : W p l e (rmo 2 0 0) s m args below meth c H locs 0 0 (MQ below (Cq g M0 (pV post)) args s 0 0 (gA g)) (F0 m 247 ls []) := by
  have hx := C.1.1
  have hb := C.1.2.1
  unfold lb_X12_go_247 at hq
  refine lv_aload_n hx hb dX12_go_247 rfl (lv_at hl 0 rfl) ?_
  refine lv_iload_n hx hb dX12_go_248 rfl (lv_at hl 2 rfl) ?_
  refine lv_if_eq (tgt := 256) hx hb dX12_go_249 (by decide) (fun c1 => ?_) (fun c1 => ?_)
  · replace hq := hq.1 c1
    refine lv_iconst (v := 1) hx hb dX12_go_256 (by decide) ?_
    refine pfX12_143 C hw hw.2.2.1 h0 dX12_go_257 (fun H locs hw => ?_)
    generalize e3 : uI M a0 6 1 = M2 at hw
    replace hq := hq M2 e3.symm
    exact r_vret C hr hlk hw dX12_go_260 (Nat.le_refl _) (Nat.le_refl _) ⟨rfl, hq⟩
  · replace hq := hq.2 c1
    refine lv_iconst (v := 4) hx hb dX12_go_252 (by decide) ?_
    refine lv_goto (tgt := 257) hx hb dX12_go_253 (by decide) ?_
    refine pfX12_143 C hw hw.2.2.1 h0 dX12_go_257 (fun H locs hw => ?_)
    generalize e5 : uI M a0 6 4 = M4 at hw
    replace hq := hq M4 e5.symm
    exact r_vret C hr hlk hw dX12_go_260 (Nat.le_refl _) (Nat.le_refl _) ⟨rfl, hq⟩
set_option maxHeartbeats 4000000 in
set_option maxRecDepth 100000 in
theorem lt_X12_go_196 {l : Launch} {g : Gh} {p : Program} {e : Env} {s : State} {m : MethodId} {args : Array Value} {below : List Frame} {meth : Method} {c : Code} {H : Heap} {locs : List Loc} {ls : Array Slot} {M0 M : Mem} {a0 : Nat} {p1 : Int32} {post : Mem → Prop} {x2 : Int32} {s0 : Int32}  (C : Cx g p s m args c cX12_go 4 RX12) (hr : meth.sig.returnType = none) (hlk : meth.locks = false) (hn : meth.name = "go") (h0 : okc (gB g) M0 a0 12)  (hq : lb_X12_go_196  g M0 a0 p1 post  x2 s0 M) (hw : Wd g s M0 M H locs) (hl : lv_has ls 4 [(0, .ref a0), (1, .int p1), (2, .int x2)]) : W p l e (rmo 2 0 0) s m args below meth c H locs 0 0 (MQ below (Cq g M0 (pV post)) args s 0 0 (gA g)) (F0 m 196 ls [.int s0]) := by
  have hx := C.1.1
  have hb := C.1.2.1
  unfold lb_X12_go_196 at hq
  refine lv_istore_n (lv' := [(3, .int s0), (0, .ref a0), (1, .int p1), (2, .int x2)]) hx hb dX12_go_196 rfl hl (by decide) rfl (fun ls hl => ?_)
  refine lv_aload_n hx hb dX12_go_197 rfl (lv_at hl 1 rfl) ?_
  refine lv_iload_n hx hb dX12_go_198 rfl (lv_at hl 3 rfl) ?_
  refine pfX12_156 C hw hw.2.2.1 h0 dX12_go_199 (fun H locs hw => ?_)
  generalize e7 : uI M a0 7 x2 = M6 at hw
  replace hq := hq M6 e7.symm
  refine lv_aload_n hx hb dX12_go_202 rfl (lv_at hl 1 rfl) ?_
  refine lv_dup hx hb dX12_go_203 rfl ?_
  refine gfX12_137 C hw hw.2.2.1 h0 dX12_go_204 ?_
  refine lv_iconst (v := 1) hx hb dX12_go_207 (by decide) ?_
  refine lv_iadd hx hb dX12_go_208 ?_
  refine pfX12_137 C hw hw.2.2.1 h0 dX12_go_209 (fun H locs hw => ?_)
  generalize e9 : uI M6 a0 4 ((mI M6 a0 4) + 1) = M8 at hw
  replace hq := hq M8 e9.symm
  refine lv_iload_n hx hb dX12_go_212 rfl (lv_at hl 2 rfl) ?_
  refine lv_if_eq (tgt := 247) hx hb dX12_go_213 (by decide) (fun c10 => ?_) (fun c10 => ?_)
  · replace hq := hq.1 c10
    exact lt_X12_go_247  C hr hlk hn h0  hq hw (lv_sub hl [1, 2, 0] rfl)
  · replace hq := hq.2 c10
    refine lv_iload_n hx hb dX12_go_216 rfl (lv_at hl 3 rfl) ?_
    refine lv_bipush (v := 46) hx hb dX12_go_217 (by decide) ?_
    refine lv_icmp_ne (tgt := 247) hx hb dX12_go_219 (by decide) (fun c11 => ?_) (fun c11 => ?_)
    · replace hq := hq.2 c11
      exact lt_X12_go_247  C hr hlk hn h0  hq hw (lv_sub hl [1, 2, 0] rfl)
    · replace hq := hq.1 c11
      refine lv_aload_n hx hb dX12_go_222 rfl (lv_at hl 1 rfl) ?_
      refine lv_aload_n hx hb dX12_go_223 rfl (lv_at hl 1 rfl) ?_
      refine gfX12_137 C hw hw.2.2.1 h0 dX12_go_224 ?_
      refine r_callV (T := TX12) (N := 67) (ci := 12) (index := 159) (n := 1) (d2 := 0) (mc := 0) (ms := 0) (As := [.int (mI M8 a0 4)]) (rest := []) C hw (ct_X12_at hq) kvX12_159 hq.1 (by decide) rfl ⟨by decide, by decide⟩ ⟨by decide, by decide⟩ rfl hl.1 rfl (Nat.le_of_ble_eq_true rfl) dX12_go_227 (fun r M13 H locs hp hle hw => ?_)
      obtain ⟨v12, rfl, hq⟩ := hp
      refine W.eq (g2 := F0 m 230 ls [.int v12]) rfl ?_
      refine lv_bipush (v := 46) hx hb dX12_go_230 (by decide) ?_
      refine lv_icmp_ne (tgt := 247) hx hb dX12_go_232 (by decide) (fun c14 => ?_) (fun c14 => ?_)
      · replace hq := hq.2 c14
        exact lt_X12_go_247  C hr hlk hn h0  hq hw (lv_sub hl [1, 2, 0] rfl)
      · replace hq := hq.1 c14
        refine lv_iconst (v := 1) hx hb dX12_go_235 (by decide) ?_
        refine lv_istore_n (lv' := [(3, .int 1), (0, .ref a0), (1, .int p1), (2, .int x2)]) hx hb dX12_go_236 rfl hl (by decide) rfl (fun ls hl => ?_)
        refine lv_aload_n hx hb dX12_go_237 rfl (lv_at hl 1 rfl) ?_
        refine lv_dup hx hb dX12_go_238 rfl ?_
        refine gfX12_137 C hw hw.2.2.1 h0 dX12_go_239 ?_
        refine lv_iconst (v := 1) hx hb dX12_go_242 (by decide) ?_
        refine lv_iadd hx hb dX12_go_243 ?_
        refine pfX12_137 C hw hw.2.2.1 h0 dX12_go_244 (fun H locs hw => ?_)
        generalize e16 : uI M13 a0 4 ((mI M13 a0 4) + 1) = M15 at hw
        replace hq := hq M15 e16.symm
        exact lt_X12_go_247  C hr hlk hn h0  hq hw (lv_sub hl [1, 2, 0] rfl)
set_option maxHeartbeats 4000000 in
set_option maxRecDepth 100000 in
theorem lt_X12_go_141 {l : Launch} {g : Gh} {p : Program} {e : Env} {s : State} {m : MethodId} {args : Array Value} {below : List Frame} {meth : Method} {c : Code} {H : Heap} {locs : List Loc} {ls : Array Slot} {M0 M : Mem} {a0 : Nat} {p1 : Int32} {post : Mem → Prop} {x2 : Int32}   (C : Cx g p s m args c cX12_go 4 RX12) (hr : meth.sig.returnType = none) (hlk : meth.locks = false) (hn : meth.name = "go") (h0 : okc (gB g) M0 a0 12)  (hq : lb_X12_go_141  g M0 a0 p1 post  x2 M) (hw : Wd g s M0 M H locs) (hl : lv_has ls 4 [(0, .ref a0), (1, .int p1), (2, .int x2)]) : W p l e (rmo 2 0 0) s m args below meth c H locs 0 0 (MQ below (Cq g M0 (pV post)) args s 0 0 (gA g)) (F0 m 141 ls []) := by
  have hx := C.1.1
  have hb := C.1.2.1
  unfold lb_X12_go_141 at hq
  refine lv_iload_n hx hb dX12_go_141 rfl (lv_at hl 2 rfl) ?_
  refine lv_bipush (v := 93) hx hb dX12_go_142 (by decide) ?_
  refine lv_icmp_eq (tgt := 177) hx hb dX12_go_144 (by decide) (fun c17 => ?_) (fun c17 => ?_)
  · replace hq := hq.1 c17
    refine lv_iconst (v := 1) hx hb dX12_go_177 (by decide) ?_
    refine lv_goto (tgt := 196) hx hb dX12_go_178 (by decide) ?_
    exact lt_X12_go_196  C hr hlk hn h0  hq hw (lv_sub hl [0, 1, 2] rfl)
  · replace hq := hq.2 c17
    refine lv_iload_n hx hb dX12_go_147 rfl (lv_at hl 2 rfl) ?_
    refine lv_bipush (v := 40) hx hb dX12_go_148 (by decide) ?_
    refine lv_icmp_eq (tgt := 177) hx hb dX12_go_150 (by decide) (fun c18 => ?_) (fun c18 => ?_)
    · replace hq := hq.1 c18
      refine lv_iconst (v := 1) hx hb dX12_go_177 (by decide) ?_
      refine lv_goto (tgt := 196) hx hb dX12_go_178 (by decide) ?_
      exact lt_X12_go_196  C hr hlk hn h0  hq hw (lv_sub hl [0, 1, 2] rfl)
    · replace hq := hq.2 c18
      refine lv_iload_n hx hb dX12_go_153 rfl (lv_at hl 2 rfl) ?_
      refine lv_bipush (v := 41) hx hb dX12_go_154 (by decide) ?_
      refine lv_icmp_eq (tgt := 177) hx hb dX12_go_156 (by decide) (fun c19 => ?_) (fun c19 => ?_)
      · replace hq := hq.1 c19
        refine lv_iconst (v := 1) hx hb dX12_go_177 (by decide) ?_
        refine lv_goto (tgt := 196) hx hb dX12_go_178 (by decide) ?_
        exact lt_X12_go_196  C hr hlk hn h0  hq hw (lv_sub hl [0, 1, 2] rfl)
      · replace hq := hq.2 c19
        refine lv_iload_n hx hb dX12_go_159 rfl (lv_at hl 2 rfl) ?_
        refine lv_bipush (v := 123) hx hb dX12_go_160 (by decide) ?_
        refine lv_icmp_eq (tgt := 177) hx hb dX12_go_162 (by decide) (fun c20 => ?_) (fun c20 => ?_)
        · replace hq := hq.1 c20
          refine lv_iconst (v := 1) hx hb dX12_go_177 (by decide) ?_
          refine lv_goto (tgt := 196) hx hb dX12_go_178 (by decide) ?_
          exact lt_X12_go_196  C hr hlk hn h0  hq hw (lv_sub hl [0, 1, 2] rfl)
        · replace hq := hq.2 c20
          refine lv_iload_n hx hb dX12_go_165 rfl (lv_at hl 2 rfl) ?_
          refine lv_bipush (v := 125) hx hb dX12_go_166 (by decide) ?_
          refine lv_icmp_eq (tgt := 177) hx hb dX12_go_168 (by decide) (fun c21 => ?_) (fun c21 => ?_)
          · replace hq := hq.1 c21
            refine lv_iconst (v := 1) hx hb dX12_go_177 (by decide) ?_
            refine lv_goto (tgt := 196) hx hb dX12_go_178 (by decide) ?_
            exact lt_X12_go_196  C hr hlk hn h0  hq hw (lv_sub hl [0, 1, 2] rfl)
          · replace hq := hq.2 c21
            refine lv_iload_n hx hb dX12_go_171 rfl (lv_at hl 2 rfl) ?_
            refine lv_bipush (v := 44) hx hb dX12_go_172 (by decide) ?_
            refine lv_icmp_ne (tgt := 181) hx hb dX12_go_174 (by decide) (fun c22 => ?_) (fun c22 => ?_)
            · replace hq := hq.2 c22
              refine lv_iconst (v := 0) hx hb dX12_go_181 (by decide) ?_
              refine lv_goto (tgt := 196) hx hb dX12_go_182 (by decide) ?_
              exact lt_X12_go_196  C hr hlk hn h0  hq hw (lv_sub hl [0, 1, 2] rfl)
            · replace hq := hq.1 c22
              refine lv_iconst (v := 1) hx hb dX12_go_177 (by decide) ?_
              refine lv_goto (tgt := 196) hx hb dX12_go_178 (by decide) ?_
              exact lt_X12_go_196  C hr hlk hn h0  hq hw (lv_sub hl [0, 1, 2] rfl)
set_option maxHeartbeats 4000000 in
set_option maxRecDepth 100000 in
theorem lt_X12_go_79 {l : Launch} {g : Gh} {p : Program} {e : Env} {s : State} {m : MethodId} {args : Array Value} {below : List Frame} {meth : Method} {c : Code} {H : Heap} {locs : List Loc} {ls : Array Slot} {M0 M : Mem} {a0 : Nat} {p1 : Int32} {post : Mem → Prop}    (C : Cx g p s m args c cX12_go 4 RX12) (hr : meth.sig.returnType = none) (hlk : meth.locks = false) (hn : meth.name = "go") (h0 : okc (gB g) M0 a0 12)  (hq : lb_X12_go_79  g M0 a0 p1 post   M) (hw : Wd g s M0 M H locs) (hl : lv_has ls 4 [(0, .ref a0), (1, .int p1)]) : W p l e (rmo 2 0 0) s m args below meth c H locs 0 0 (MQ below (Cq g M0 (pV post)) args s 0 0 (gA g)) (F0 m 79 ls []) := by
  have hx := C.1.1
  have hb := C.1.2.1
  unfold lb_X12_go_79 at hq
  refine lv_aload_n hx hb dX12_go_79 rfl (lv_at hl 0 rfl) ?_
  refine gfX12_137 C hw hw.2.2.1 h0 dX12_go_80 ?_
  refine lv_aload_n hx hb dX12_go_83 rfl (lv_at hl 0 rfl) ?_
  refine gfX12_134 C hw hw.2.2.1 h0 dX12_go_84 ?_
  refine lv_icmp_lt (tgt := 96) hx hb dX12_go_87 (by decide) (fun c23 => ?_) (fun c23 => ?_)
  · replace hq := hq.1 c23
    refine lv_aload_n hx hb dX12_go_96 rfl (lv_at hl 0 rfl) ?_
    obtain ⟨q24, e25, hq⟩ := hq
    refine gfX12_7 C hw hw.2.2.1 h0 e25 dX12_go_97 ?_
    refine lv_aload_n hx hb dX12_go_100 rfl (lv_at hl 0 rfl) ?_
    refine gfX12_137 C hw hw.2.2.1 h0 dX12_go_101 ?_
    obtain ⟨h26, hq⟩ := hq
    obtain ⟨h27, hq⟩ := hq
    refine q_iald C hw hw.2.2.1 h26 h27 dX12_go_104 ?_
    refine lv_istore_n (lv' := [(2, .int (mI M q24 (Int32.toNatClampNeg (mI M a0 4)))), (0, .ref a0), (1, .int p1)]) hx hb dX12_go_105 rfl hl (by decide) rfl (fun ls hl => ?_)
    refine lv_iload_n hx hb dX12_go_106 rfl (lv_at hl 0 rfl) ?_
    refine r_callS (index := 146) (n := 1) (d2 := 0) (mc := 0) (ms := 0) (As := [.int (mI M q24 (Int32.toNatClampNeg (mI M a0 4)))]) (rest := []) C hw (ct_X12_isLetter hq) ksX12_146 ⟨by decide, by decide⟩ ⟨by decide, by decide⟩ rfl hl.1 rfl (Nat.le_of_ble_eq_true rfl) dX12_go_107 (fun r M29 H locs hp hle hw => ?_)
    obtain ⟨v28, rfl, hq⟩ := hp
    refine W.eq (g2 := F0 m 110 ls [.int v28]) rfl ?_
    refine lv_if_ne (tgt := 120) hx hb dX12_go_110 (by decide) (fun c30 => ?_) (fun c30 => ?_)
    · replace hq := hq.2 c30
      refine lv_aload_n hx hb dX12_go_120 rfl (lv_at hl 1 rfl) ?_
      refine r_callV (T := TX12) (N := 67) (ci := 12) (index := 153) (n := 0) (d2 := 1) (mc := 0) (ms := 0) (As := []) (rest := []) C hw (ct_X12_readWord hq) kvX12_153 hq.1 (by decide) rfl ⟨by decide, by decide⟩ ⟨by decide, by decide⟩ rfl hl.1 rfl (Nat.le_of_ble_eq_true rfl) dX12_go_121 (fun r M32 H locs hp hle hw => ?_)
      obtain ⟨rfl, hq⟩ := hp
      refine W.eq (g2 := F0 m 124 ls []) rfl ?_
      exact r_vret C hr hlk hw dX12_go_124 (Nat.le_refl _) (Nat.le_refl _) ⟨rfl, hq⟩
    · replace hq := hq.1 c30
      refine lv_iload_n hx hb dX12_go_113 rfl (lv_at hl 0 rfl) ?_
      refine r_callS (index := 150) (n := 1) (d2 := 0) (mc := 0) (ms := 0) (As := [.int (mI M q24 (Int32.toNatClampNeg (mI M a0 4)))]) (rest := []) C hw (ct_X12_isDigit hq) ksX12_150 ⟨by decide, by decide⟩ ⟨by decide, by decide⟩ rfl hl.1 rfl (Nat.le_of_ble_eq_true rfl) dX12_go_114 (fun r M34 H locs hp hle hw => ?_)
      obtain ⟨v33, rfl, hq⟩ := hp
      refine W.eq (g2 := F0 m 117 ls [.int v33]) rfl ?_
      refine lv_if_eq (tgt := 125) hx hb dX12_go_117 (by decide) (fun c35 => ?_) (fun c35 => ?_)
      · replace hq := hq.1 c35
        refine lv_iload_n hx hb dX12_go_125 rfl (lv_at hl 2 rfl) ?_
        refine lv_if_eq (tgt := 185) hx hb dX12_go_126 (by decide) (fun c36 => ?_) (fun c36 => ?_)
        · replace hq := hq.1 c36
          refine lv_iload_n hx hb dX12_go_185 rfl (lv_at hl 0 rfl) ?_
          refine lv_bipush (v := 59) hx hb dX12_go_186 (by decide) ?_
          refine lv_icmp_ne (tgt := 195) hx hb dX12_go_188 (by decide) (fun c37 => ?_) (fun c37 => ?_)
          · replace hq := hq.2 c37
            refine lv_iconst (v := 0) hx hb dX12_go_195 (by decide) ?_
            exact lt_X12_go_196  C hr hlk hn h0  hq hw (lv_sub hl [1, 2, 0] rfl)
          · replace hq := hq.1 c37
            refine lv_iconst (v := 1) hx hb dX12_go_191 (by decide) ?_
            refine lv_goto (tgt := 196) hx hb dX12_go_192 (by decide) ?_
            exact lt_X12_go_196  C hr hlk hn h0  hq hw (lv_sub hl [1, 2, 0] rfl)
        · replace hq := hq.2 c36
          refine lv_iload_n hx hb dX12_go_129 rfl (lv_at hl 0 rfl) ?_
          refine lv_bipush (v := 124) hx hb dX12_go_130 (by decide) ?_
          refine lv_icmp_eq (tgt := 177) hx hb dX12_go_132 (by decide) (fun c38 => ?_) (fun c38 => ?_)
          · replace hq := hq.1 c38
            refine lv_iconst (v := 1) hx hb dX12_go_177 (by decide) ?_
            refine lv_goto (tgt := 196) hx hb dX12_go_178 (by decide) ?_
            exact lt_X12_go_196  C hr hlk hn h0  hq hw (lv_sub hl [1, 2, 0] rfl)
          · replace hq := hq.2 c38
            refine lv_iload_n hx hb dX12_go_135 rfl (lv_at hl 0 rfl) ?_
            refine lv_bipush (v := 91) hx hb dX12_go_136 (by decide) ?_
            refine lv_icmp_eq (tgt := 177) hx hb dX12_go_138 (by decide) (fun c39 => ?_) (fun c39 => ?_)
            · replace hq := hq.1 c39
              refine lv_iconst (v := 1) hx hb dX12_go_177 (by decide) ?_
              refine lv_goto (tgt := 196) hx hb dX12_go_178 (by decide) ?_
              exact lt_X12_go_196  C hr hlk hn h0  hq hw (lv_sub hl [1, 2, 0] rfl)
            · replace hq := hq.2 c39
              exact lt_X12_go_141  C hr hlk hn h0  hq hw (lv_sub hl [1, 2, 0] rfl)
      · replace hq := hq.2 c35
        refine lv_aload_n hx hb dX12_go_120 rfl (lv_at hl 1 rfl) ?_
        refine r_callV (T := TX12) (N := 67) (ci := 12) (index := 153) (n := 0) (d2 := 1) (mc := 0) (ms := 0) (As := []) (rest := []) C hw (ct_X12_readWord hq) kvX12_153 hq.1 (by decide) rfl ⟨by decide, by decide⟩ ⟨by decide, by decide⟩ rfl hl.1 rfl (Nat.le_of_ble_eq_true rfl) dX12_go_121 (fun r M41 H locs hp hle hw => ?_)
        obtain ⟨rfl, hq⟩ := hp
        refine W.eq (g2 := F0 m 124 ls []) rfl ?_
        exact r_vret C hr hlk hw dX12_go_124 (Nat.le_refl _) (Nat.le_refl _) ⟨rfl, hq⟩
  · replace hq := hq.2 c23
    refine lv_aload_n hx hb dX12_go_90 rfl (lv_at hl 0 rfl) ?_
    refine lv_iconst (v := 0) hx hb dX12_go_91 (by decide) ?_
    refine pfX12_143 C hw hw.2.2.1 h0 dX12_go_92 (fun H locs hw => ?_)
    generalize e43 : uI M a0 6 0 = M42 at hw
    replace hq := hq M42 e43.symm
    exact r_vret C hr hlk hw dX12_go_95 (Nat.le_refl _) (Nat.le_refl _) ⟨rfl, hq⟩
set_option maxHeartbeats 4000000 in
set_option maxRecDepth 100000 in
theorem lt_X12_go_38 {l : Launch} {g : Gh} {p : Program} {e : Env} {s : State} {m : MethodId} {args : Array Value} {below : List Frame} {meth : Method} {c : Code} {H : Heap} {locs : List Loc} {ls : Array Slot} {M0 M : Mem} {a0 : Nat} {p1 : Int32} {post : Mem → Prop}    (C : Cx g p s m args c cX12_go 4 RX12) (hr : meth.sig.returnType = none) (hlk : meth.locks = false) (hn : meth.name = "go") (h0 : okc (gB g) M0 a0 12)  (hq : lb_X12_go_38  g M0 a0 p1 post   M) (hw : Wd g s M0 M H locs) (hl : lv_has ls 4 [(0, .ref a0), (1, .int p1)]) : W p l e (rmo 2 0 0) s m args below meth c H locs 0 0 (MQ below (Cq g M0 (pV post)) args s 0 0 (gA g)) (F0 m 38 ls []) := by
  have hx := C.1.1
  have hb := C.1.2.1
  unfold lb_X12_go_38 at hq
  refine lv_aload_n hx hb dX12_go_38 rfl (lv_at hl 0 rfl) ?_
  refine lv_aload_n hx hb dX12_go_39 rfl (lv_at hl 0 rfl) ?_
  refine gfX12_137 C hw hw.2.2.1 h0 dX12_go_40 ?_
  refine pfX12_140 C hw hw.2.2.1 h0 dX12_go_43 (fun H locs hw => ?_)
  generalize e45 : uI M a0 5 (mI M a0 4) = M44 at hw
  replace hq := hq M44 e45.symm
  refine lv_aload_n hx hb dX12_go_46 rfl (lv_at hl 0 rfl) ?_
  refine gfX12_134 C hw hw.2.2.1 h0 dX12_go_47 ?_
  refine lv_sipush (v := 200) hx hb dX12_go_50 (by decide) ?_
  refine lv_icmp_le (tgt := 79) hx hb dX12_go_53 (by decide) (fun c46 => ?_) (fun c46 => ?_)
  · replace hq := hq.1 c46
    exact lt_X12_go_79  C hr hlk hn h0  hq hw (lv_sub hl [0, 1] rfl)
  · replace hq := hq.2 c46
    refine lv_aload_n hx hb dX12_go_56 rfl (lv_at hl 0 rfl) ?_
    refine gfX12_140 C hw hw.2.2.1 h0 dX12_go_57 ?_
    refine lv_sipush (v := 200) hx hb dX12_go_60 (by decide) ?_
    refine lv_icmp_lt (tgt := 79) hx hb dX12_go_63 (by decide) (fun c47 => ?_) (fun c47 => ?_)
    · replace hq := hq.1 c47
      exact lt_X12_go_79  C hr hlk hn h0  hq hw (lv_sub hl [0, 1] rfl)
    · replace hq := hq.2 c47
      refine lv_aload_n hx hb dX12_go_66 rfl (lv_at hl 0 rfl) ?_
      refine lv_sipush (v := 200) hx hb dX12_go_67 (by decide) ?_
      refine pfX12_140 C hw hw.2.2.1 h0 dX12_go_70 (fun H locs hw => ?_)
      generalize e49 : uI M44 a0 5 200 = M48 at hw
      replace hq := hq M48 e49.symm
      refine lv_aload_n hx hb dX12_go_73 rfl (lv_at hl 0 rfl) ?_
      refine lv_iconst (v := 1) hx hb dX12_go_74 (by decide) ?_
      refine pfX12_143 C hw hw.2.2.1 h0 dX12_go_75 (fun H locs hw => ?_)
      generalize e51 : uI M48 a0 6 1 = M50 at hw
      replace hq := hq M50 e51.symm
      exact r_vret C hr hlk hw dX12_go_78 (Nat.le_refl _) (Nat.le_refl _) ⟨rfl, hq⟩
set_option maxHeartbeats 4000000 in
set_option maxRecDepth 100000 in
theorem lp_X12_go_0 {l : Launch} {g : Gh} {p : Program} {e : Env} {s : State} {m : MethodId} {args : Array Value} {below : List Frame} {meth : Method} {c : Code} {M0 : Mem} {a0 : Nat} {p1 : Int32} {post : Mem → Prop}  (C : Cx g p s m args c cX12_go 4 RX12) (hr : meth.sig.returnType = none) (hlk : meth.locks = false) (hn : meth.name = "go") (h0 : okc (gB g) M0 a0 12)  : ∀ (nf : Nat)   (M : Mem) (H : Heap) (locs : List Loc) (ls : Array Slot), lfp (fun bk z => bd_X12_go_0  g M0 a0 p1 post  bk z) nf (M) → Wd g s M0 M H locs → lv_has ls 4 [(0, .ref a0), (1, .int p1)] → W p l e (rmo 2 0 0) s m args below meth c H locs 0 0 (MQ below (Cq g M0 (pV post)) args s 0 0 (gA g)) (F0 m 0 ls []) := by
  have hx := C.1.1
  have hb := C.1.2.1
  intro nf
  induction nf with
  | zero => intro _ H locs ls hq; exact hq.elim
  | succ nf hk0 =>
    intro M H locs ls hq hw hl
    replace hq : bd_X12_go_0  g M0 a0 p1 post  (lfp (fun bk z => bd_X12_go_0  g M0 a0 p1 post  bk z) nf) M := hq
    unfold bd_X12_go_0 at hq
    refine lv_aload_n hx hb dX12_go_0 rfl (lv_at hl 0 rfl) ?_
    refine gfX12_137 C hw hw.2.2.1 h0 dX12_go_1 ?_
    refine lv_aload_n hx hb dX12_go_4 rfl (lv_at hl 0 rfl) ?_
    refine gfX12_134 C hw hw.2.2.1 h0 dX12_go_5 ?_
    refine lv_icmp_ge (tgt := 38) hx hb dX12_go_8 (by decide) (fun c52 => ?_) (fun c52 => ?_)
    · replace hq := hq.1 c52
      exact lt_X12_go_38  C hr hlk hn h0  hq hw (lv_sub hl [0, 1] rfl)
    · replace hq := hq.2 c52
      refine lv_aload_n hx hb dX12_go_11 rfl (lv_at hl 0 rfl) ?_
      obtain ⟨q53, e54, hq⟩ := hq
      refine gfX12_7 C hw hw.2.2.1 h0 e54 dX12_go_12 ?_
      refine lv_aload_n hx hb dX12_go_15 rfl (lv_at hl 0 rfl) ?_
      refine gfX12_137 C hw hw.2.2.1 h0 dX12_go_16 ?_
      obtain ⟨h55, hq⟩ := hq
      obtain ⟨h56, hq⟩ := hq
      refine q_iald C hw hw.2.2.1 h55 h56 dX12_go_19 ?_
      refine lv_bipush (v := 32) hx hb dX12_go_20 (by decide) ?_
      refine lv_icmp_ne (tgt := 38) hx hb dX12_go_22 (by decide) (fun c57 => ?_) (fun c57 => ?_)
      · replace hq := hq.2 c57
        exact lt_X12_go_38  C hr hlk hn h0  hq hw (lv_sub hl [0, 1] rfl)
      · replace hq := hq.1 c57
        refine lv_aload_n hx hb dX12_go_25 rfl (lv_at hl 0 rfl) ?_
        refine lv_dup hx hb dX12_go_26 rfl ?_
        refine gfX12_137 C hw hw.2.2.1 h0 dX12_go_27 ?_
        refine lv_iconst (v := 1) hx hb dX12_go_30 (by decide) ?_
        refine lv_iadd hx hb dX12_go_31 ?_
        refine pfX12_137 C hw hw.2.2.1 h0 dX12_go_32 (fun H locs hw => ?_)
        generalize e59 : uI M a0 4 ((mI M a0 4) + 1) = M58 at hw
        replace hq := hq M58 e59.symm
        have e54 : mR M58 a0 1 = some q53 := by rw [← e59, mR_uI]; exact e54
        refine lv_goto (tgt := 0) hx hb dX12_go_35 (by decide) ?_
        exact hk0 _ _ _ _ hq hw (lv_sub hl [0, 1] rfl)
set_option maxHeartbeats 4000000 in
set_option maxRecDepth 100000 in
theorem ct_X12_go {l : Launch} {g : Gh} {M0 : Mem} {a0 : Nat} {p1 : Int32} {post : Mem → Prop}  (hq : wp_X12_go  g M0 a0 p1 post) : Ct l g yX12_go cX12_go 4 none 2 0 0 [.ref a0, .int p1] M0 (pV post) := by
  unfold wp_X12_go at hq
  obtain ⟨h0, hq⟩ := hq
  refine Ct.of (by decide) (Nat.le_of_ble_eq_true rfl) ?_
  intro p e s m below meth c ls C hr hlk hn hl hw
  have hx := C.1.1
  have hb := C.1.2.1
  have hl : lv_has ls 4 [(0, .ref a0), (1, .int p1)] := hl
  obtain ⟨nf, hq⟩ := hq
  exact lp_X12_go_0  C hr hlk hn h0  nf _ _ _ _ hq hw (lv_sub hl [0, 1] rfl)

set_option maxRecDepth 100000 in
def wp_X12_bad  (g : Gh) (M0 : Mem) (a0 : Nat) (p1 : Int32) (post : Int32 → Mem → Prop) : Prop :=
  okc (gB g) M0 a0 12 ∧ ((((mI M0 a0 6) = 1) → ∀ M6, M6 = uI M0 a0 9 1 → (∀ M8, M8 = uI M6 a0 10 (mI M6 a0 5) → (post 0 M8))) ∧ (¬ ((mI M0 a0 6) = 1) → ∀ M2, M2 = uI M0 a0 9 p1 → (∀ M4, M4 = uI M2 a0 10 (mI M2 a0 5) → (post 0 M4))))
set_option maxHeartbeats 4000000 in
set_option maxRecDepth 100000 in
theorem ct_X12_bad {l : Launch} {g : Gh} {M0 : Mem} {a0 : Nat} {p1 : Int32} {post : Int32 → Mem → Prop}  (hq : wp_X12_bad  g M0 a0 p1 post) : Ct l g yX12_bad cX12_bad 2 (some .boolean) 0 0 0 [.ref a0, .int p1] M0 (pI post) := by
  unfold wp_X12_bad at hq
  obtain ⟨h0, hq⟩ := hq
  refine Ct.of (by decide) (Nat.le_of_ble_eq_true rfl) ?_
  intro p e s m below meth c ls C hr hlk hn hl hw
  have hx := C.1.1
  have hb := C.1.2.1
  have hl : lv_has ls 2 [(0, .ref a0), (1, .int p1)] := hl
  refine lv_aload_n hx hb dX12_bad_0 rfl (lv_at hl 0 rfl) ?_
  refine lv_aload_n hx hb dX12_bad_1 rfl (lv_at hl 0 rfl) ?_
  refine gfX12_143 C hw hw.2.2.1 h0 dX12_bad_2 ?_
  refine lv_iconst (v := 1) hx hb dX12_bad_5 (by decide) ?_
  refine lv_icmp_ne (tgt := 13) hx hb dX12_bad_6 (by decide) (fun c1 => ?_) (fun c1 => ?_)
  · replace hq := hq.2 c1
    refine lv_iload_n hx hb dX12_bad_13 rfl (lv_at hl 1 rfl) ?_
    refine pfX12_175 C hw hw.2.2.1 h0 dX12_bad_14 (fun H locs hw => ?_)
    generalize e3 : uI M0 a0 9 p1 = M2 at hw
    replace hq := hq M2 e3.symm
    refine lv_aload_n hx hb dX12_bad_17 rfl (lv_at hl 0 rfl) ?_
    refine lv_aload_n hx hb dX12_bad_18 rfl (lv_at hl 0 rfl) ?_
    refine gfX12_140 C hw hw.2.2.1 h0 dX12_bad_19 ?_
    refine pfX12_178 C hw hw.2.2.1 h0 dX12_bad_22 (fun H locs hw => ?_)
    generalize e5 : uI M2 a0 10 (mI M2 a0 5) = M4 at hw
    replace hq := hq M4 e5.symm
    refine lv_iconst (v := 0) hx hb dX12_bad_25 (by decide) ?_
    exact r_zret C hr hlk hw dX12_bad_26 (Nat.le_refl _) (Nat.le_refl _) (by decide) ⟨_, rfl, hq⟩
  · replace hq := hq.1 c1
    refine lv_iconst (v := 1) hx hb dX12_bad_9 (by decide) ?_
    refine lv_goto (tgt := 14) hx hb dX12_bad_10 (by decide) ?_
    refine pfX12_175 C hw hw.2.2.1 h0 dX12_bad_14 (fun H locs hw => ?_)
    generalize e7 : uI M0 a0 9 1 = M6 at hw
    replace hq := hq M6 e7.symm
    refine lv_aload_n hx hb dX12_bad_17 rfl (lv_at hl 0 rfl) ?_
    refine lv_aload_n hx hb dX12_bad_18 rfl (lv_at hl 0 rfl) ?_
    refine gfX12_140 C hw hw.2.2.1 h0 dX12_bad_19 ?_
    refine pfX12_178 C hw hw.2.2.1 h0 dX12_bad_22 (fun H locs hw => ?_)
    generalize e9 : uI M6 a0 10 (mI M6 a0 5) = M8 at hw
    replace hq := hq M8 e9.symm
    refine lv_iconst (v := 0) hx hb dX12_bad_25 (by decide) ?_
    exact r_zret C hr hlk hw dX12_bad_26 (Nat.le_refl _) (Nat.le_refl _) (by decide) ⟨_, rfl, hq⟩

set_option maxRecDepth 100000 in
def wp_X12_isSign  (g : Gh) (M0 : Mem) (a0 : Nat) (p1 : Int32) (post : Int32 → Mem → Prop) : Prop :=
  okc (gB g) M0 a0 12 ∧ ((((mI M0 a0 6) = 4) → (((mI M0 a0 7) = p1) → post 1 M0) ∧ (¬ ((mI M0 a0 7) = p1) → post 0 M0)) ∧ (¬ ((mI M0 a0 6) = 4) → post 0 M0))
set_option maxHeartbeats 4000000 in
set_option maxRecDepth 100000 in
theorem ct_X12_isSign {l : Launch} {g : Gh} {M0 : Mem} {a0 : Nat} {p1 : Int32} {post : Int32 → Mem → Prop}  (hq : wp_X12_isSign  g M0 a0 p1 post) : Ct l g yX12_isSign cX12_isSign 2 (some .boolean) 0 0 0 [.ref a0, .int p1] M0 (pI post) := by
  unfold wp_X12_isSign at hq
  obtain ⟨h0, hq⟩ := hq
  refine Ct.of (by decide) (Nat.le_of_ble_eq_true rfl) ?_
  intro p e s m below meth c ls C hr hlk hn hl hw
  have hx := C.1.1
  have hb := C.1.2.1
  have hl : lv_has ls 2 [(0, .ref a0), (1, .int p1)] := hl
  refine lv_aload_n hx hb dX12_isSign_0 rfl (lv_at hl 0 rfl) ?_
  refine gfX12_143 C hw hw.2.2.1 h0 dX12_isSign_1 ?_
  refine lv_iconst (v := 4) hx hb dX12_isSign_4 (by decide) ?_
  refine lv_icmp_ne (tgt := 20) hx hb dX12_isSign_5 (by decide) (fun c1 => ?_) (fun c1 => ?_)
  · replace hq := hq.2 c1
    refine lv_iconst (v := 0) hx hb dX12_isSign_20 (by decide) ?_
    exact r_zret C hr hlk hw dX12_isSign_21 (Nat.le_refl _) (Nat.le_refl _) (by decide) ⟨_, rfl, hq⟩
  · replace hq := hq.1 c1
    refine lv_aload_n hx hb dX12_isSign_8 rfl (lv_at hl 0 rfl) ?_
    refine gfX12_156 C hw hw.2.2.1 h0 dX12_isSign_9 ?_
    refine lv_iload_n hx hb dX12_isSign_12 rfl (lv_at hl 1 rfl) ?_
    refine lv_icmp_ne (tgt := 20) hx hb dX12_isSign_13 (by decide) (fun c2 => ?_) (fun c2 => ?_)
    · replace hq := hq.2 c2
      refine lv_iconst (v := 0) hx hb dX12_isSign_20 (by decide) ?_
      exact r_zret C hr hlk hw dX12_isSign_21 (Nat.le_refl _) (Nat.le_refl _) (by decide) ⟨_, rfl, hq⟩
    · replace hq := hq.1 c2
      refine lv_iconst (v := 1) hx hb dX12_isSign_16 (by decide) ?_
      refine lv_goto (tgt := 21) hx hb dX12_isSign_17 (by decide) ?_
      exact r_zret C hr hlk hw dX12_isSign_21 (Nat.le_refl _) (Nat.le_refl _) (by decide) ⟨_, rfl, hq⟩

set_option maxRecDepth 100000 in
def lb_X12_node_57  (g : Gh) (M0 : Mem) (a0 : Nat) (p1 : Int32) (p2 : Int64) (p4 : Int64) (post : Int32 → Mem → Prop)  (x6 : Int32)  (M : Mem) : Prop :=
  ∃ q1, mR M a0 15 = some q1 ∧ (okc (gB g) M0 q1 15 ∧ (vp_in x6 (mN M0 q1) ∧ (∀ M5, M5 = uJ M q1 (Int32.toNatClampNeg x6) p4 → (post x6 M5))))
set_option maxRecDepth 100000 in
def wp_X12_node  (g : Gh) (M0 : Mem) (a0 : Nat) (p1 : Int32) (p2 : Int64) (p4 : Int64) (post : Int32 → Mem → Prop) : Prop :=
  okc (gB g) M0 a0 12 ∧ (∀ M7, M7 = uI M0 a0 17 ((mI M0 a0 17) + 1) → (∃ q9, mR M7 a0 11 = some q9 ∧ (okc (gB g) M0 q9 14 ∧ (vp_in ((420 * (mI M0 a0 16)) + (mI M0 a0 17)) (mN M0 q9) ∧ (∀ M13, M13 = uI M7 q9 (Int32.toNatClampNeg ((420 * (mI M0 a0 16)) + (mI M0 a0 17))) p1 → (∃ q15, mR M13 a0 12 = some q15 ∧ (okc (gB g) M0 q15 14 ∧ (vp_in ((420 * (mI M0 a0 16)) + (mI M0 a0 17)) (mN M0 q15) ∧ (∀ M19, M19 = uI M13 q15 (Int32.toNatClampNeg ((420 * (mI M0 a0 16)) + (mI M0 a0 17))) (-1) → (∃ q21, mR M19 a0 13 = some q21 ∧ (okc (gB g) M0 q21 14 ∧ (vp_in ((420 * (mI M0 a0 16)) + (mI M0 a0 17)) (mN M0 q21) ∧ (∀ M25, M25 = uI M19 q21 (Int32.toNatClampNeg ((420 * (mI M0 a0 16)) + (mI M0 a0 17))) (-1) → (∃ q27, mR M25 a0 14 = some q27 ∧ (okc (gB g) M0 q27 15 ∧ (vp_in ((420 * (mI M0 a0 16)) + (mI M0 a0 17)) (mN M0 q27) ∧ (∀ M31, M31 = uJ M25 q27 (Int32.toNatClampNeg ((420 * (mI M0 a0 16)) + (mI M0 a0 17))) p2 → (lb_X12_node_57  g M0 a0 p1 p2 p4 post  ((420 * (mI M0 a0 16)) + (mI M0 a0 17)) M31))))))))))))))))))
set_option maxHeartbeats 4000000 in
set_option maxRecDepth 100000 in
theorem lt_X12_node_57 {l : Launch} {g : Gh} {p : Program} {e : Env} {s : State} {m : MethodId} {args : Array Value} {below : List Frame} {meth : Method} {c : Code} {H : Heap} {locs : List Loc} {ls : Array Slot} {M0 M : Mem} {a0 : Nat} {p1 : Int32} {p2 : Int64} {p4 : Int64} {post : Int32 → Mem → Prop} {x6 : Int32}   (C : Cx g p s m args c cX12_node 7 RX12) (hr : meth.sig.returnType = (some .int)) (hlk : meth.locks = false) (hn : meth.name = "node") (h0 : okc (gB g) M0 a0 12)  (hq : lb_X12_node_57  g M0 a0 p1 p2 p4 post  x6 M) (hw : Wd g s M0 M H locs) (hl : lv_has ls 7 [(0, .ref a0), (1, .int p1), (2, .long p2), (4, .long p4), (6, .int x6)]) : W p l e (rmo 0 0 0) s m args below meth c H locs 0 0 (MQ below (Cq g M0 (pI post)) args s 0 0 (gA g)) (F0 m 57 ls []) := by
  have hx := C.1.1
  have hb := C.1.2.1
  unfold lb_X12_node_57 at hq
  refine lv_aload_n hx hb dX12_node_57 rfl (lv_at hl 0 rfl) ?_
  obtain ⟨q1, e2, hq⟩ := hq
  refine gfX12_26 C hw hw.2.2.1 h0 e2 dX12_node_58 ?_
  refine lv_iload hx hb dX12_node_61 (lv_at hl 4 rfl) ?_
  refine lv_lload hx hb dX12_node_63 (lv_at hl 3 rfl) ?_
  obtain ⟨h3, hq⟩ := hq
  obtain ⟨h4, hq⟩ := hq
  refine q_last C hw hw.2.2.1 h3 h4 dX12_node_65 (fun H locs hw => ?_)
  generalize e6 : uJ M q1 (Int32.toNatClampNeg x6) p4 = M5 at hw
  replace hq := hq M5 e6.symm
  have e2 : mR M5 a0 15 = some q1 := by rw [← e6, mR_uJ]; exact e2
  refine lv_iload hx hb dX12_node_66 (lv_at hl 4 rfl) ?_
  exact r_iret C hr hlk hw dX12_node_68 (Nat.le_refl _) (Nat.le_refl _) ⟨_, rfl, hq⟩
set_option maxHeartbeats 4000000 in
set_option maxRecDepth 100000 in
theorem ct_X12_node {l : Launch} {g : Gh} {M0 : Mem} {a0 : Nat} {p1 : Int32} {p2 : Int64} {p4 : Int64} {post : Int32 → Mem → Prop}  (hq : wp_X12_node  g M0 a0 p1 p2 p4 post) : Ct l g yX12_node cX12_node 7 (some .int) 0 0 0 [.ref a0, .int p1, .long p2, .long p4] M0 (pI post) := by
  unfold wp_X12_node at hq
  obtain ⟨h0, hq⟩ := hq
  refine Ct.of (by decide) (Nat.le_of_ble_eq_true rfl) ?_
  intro p e s m below meth c ls C hr hlk hn hl hw
  have hx := C.1.1
  have hb := C.1.2.1
  have hl : lv_has ls 7 [(0, .ref a0), (1, .int p1), (2, .long p2), (4, .long p4)] := hl
  refine lv_sipush (v := 420) hx hb dX12_node_0 (by decide) ?_
  refine lv_aload_n hx hb dX12_node_3 rfl (lv_at hl 0 rfl) ?_
  refine gfX12_181 C hw hw.2.2.1 h0 dX12_node_4 ?_
  refine lv_imul hx hb dX12_node_7 ?_
  refine lv_aload_n hx hb dX12_node_8 rfl (lv_at hl 0 rfl) ?_
  refine gfX12_184 C hw hw.2.2.1 h0 dX12_node_9 ?_
  refine lv_iadd hx hb dX12_node_12 ?_
  refine lv_istore (lv' := [(6, .int ((420 * (mI M0 a0 16)) + (mI M0 a0 17))), (0, .ref a0), (1, .int p1), (2, .long p2), (4, .long p4)]) hx hb dX12_node_13 hl (by decide) rfl (fun ls hl => ?_)
  refine lv_aload_n hx hb dX12_node_15 rfl (lv_at hl 1 rfl) ?_
  refine lv_dup hx hb dX12_node_16 rfl ?_
  refine gfX12_184 C hw hw.2.2.1 h0 dX12_node_17 ?_
  refine lv_iconst (v := 1) hx hb dX12_node_20 (by decide) ?_
  refine lv_iadd hx hb dX12_node_21 ?_
  refine pfX12_184 C hw hw.2.2.1 h0 dX12_node_22 (fun H locs hw => ?_)
  generalize e8 : uI M0 a0 17 ((mI M0 a0 17) + 1) = M7 at hw
  replace hq := hq M7 e8.symm
  refine lv_aload_n hx hb dX12_node_25 rfl (lv_at hl 1 rfl) ?_
  obtain ⟨q9, e10, hq⟩ := hq
  refine gfX12_13 C hw hw.2.2.1 h0 e10 dX12_node_26 ?_
  refine lv_iload hx hb dX12_node_29 (lv_at hl 0 rfl) ?_
  refine lv_iload_n hx hb dX12_node_31 rfl (lv_at hl 2 rfl) ?_
  obtain ⟨h11, hq⟩ := hq
  obtain ⟨h12, hq⟩ := hq
  refine q_iast C hw hw.2.2.1 h11 h12 dX12_node_32 (fun H locs hw => ?_)
  generalize e14 : uI M7 q9 (Int32.toNatClampNeg ((420 * (mI M0 a0 16)) + (mI M0 a0 17))) p1 = M13 at hw
  replace hq := hq M13 e14.symm
  have e10 : mR M13 a0 11 = some q9 := by rw [← e14, mR_uI]; exact e10
  refine lv_aload_n hx hb dX12_node_33 rfl (lv_at hl 1 rfl) ?_
  obtain ⟨q15, e16, hq⟩ := hq
  refine gfX12_16 C hw hw.2.2.1 h0 e16 dX12_node_34 ?_
  refine lv_iload hx hb dX12_node_37 (lv_at hl 0 rfl) ?_
  refine lv_iconst (v := (-1)) hx hb dX12_node_39 (by decide) ?_
  obtain ⟨h17, hq⟩ := hq
  obtain ⟨h18, hq⟩ := hq
  refine q_iast C hw hw.2.2.1 h17 h18 dX12_node_40 (fun H locs hw => ?_)
  generalize e20 : uI M13 q15 (Int32.toNatClampNeg ((420 * (mI M0 a0 16)) + (mI M0 a0 17))) (-1) = M19 at hw
  replace hq := hq M19 e20.symm
  have e10 : mR M19 a0 11 = some q9 := by rw [← e20, mR_uI]; exact e10
  have e16 : mR M19 a0 12 = some q15 := by rw [← e20, mR_uI]; exact e16
  refine lv_aload_n hx hb dX12_node_41 rfl (lv_at hl 1 rfl) ?_
  obtain ⟨q21, e22, hq⟩ := hq
  refine gfX12_19 C hw hw.2.2.1 h0 e22 dX12_node_42 ?_
  refine lv_iload hx hb dX12_node_45 (lv_at hl 0 rfl) ?_
  refine lv_iconst (v := (-1)) hx hb dX12_node_47 (by decide) ?_
  obtain ⟨h23, hq⟩ := hq
  obtain ⟨h24, hq⟩ := hq
  refine q_iast C hw hw.2.2.1 h23 h24 dX12_node_48 (fun H locs hw => ?_)
  generalize e26 : uI M19 q21 (Int32.toNatClampNeg ((420 * (mI M0 a0 16)) + (mI M0 a0 17))) (-1) = M25 at hw
  replace hq := hq M25 e26.symm
  have e10 : mR M25 a0 11 = some q9 := by rw [← e26, mR_uI]; exact e10
  have e16 : mR M25 a0 12 = some q15 := by rw [← e26, mR_uI]; exact e16
  have e22 : mR M25 a0 13 = some q21 := by rw [← e26, mR_uI]; exact e22
  refine lv_aload_n hx hb dX12_node_49 rfl (lv_at hl 1 rfl) ?_
  obtain ⟨q27, e28, hq⟩ := hq
  refine gfX12_22 C hw hw.2.2.1 h0 e28 dX12_node_50 ?_
  refine lv_iload hx hb dX12_node_53 (lv_at hl 0 rfl) ?_
  refine lv_lload_n hx hb dX12_node_55 rfl (lv_at hl 3 rfl) ?_
  obtain ⟨h29, hq⟩ := hq
  obtain ⟨h30, hq⟩ := hq
  refine q_last C hw hw.2.2.1 h29 h30 dX12_node_56 (fun H locs hw => ?_)
  generalize e32 : uJ M25 q27 (Int32.toNatClampNeg ((420 * (mI M0 a0 16)) + (mI M0 a0 17))) p2 = M31 at hw
  replace hq := hq M31 e32.symm
  have e10 : mR M31 a0 11 = some q9 := by rw [← e32, mR_uJ]; exact e10
  have e16 : mR M31 a0 12 = some q15 := by rw [← e32, mR_uJ]; exact e16
  have e22 : mR M31 a0 13 = some q21 := by rw [← e32, mR_uJ]; exact e22
  have e28 : mR M31 a0 14 = some q27 := by rw [← e32, mR_uJ]; exact e28
  exact lt_X12_node_57  C hr hlk hn h0  hq hw (lv_sub hl [1, 2, 3, 4, 0] rfl)

set_option maxRecDepth 100000 in
def wp_X12_hang  (g : Gh) (M0 : Mem) (a0 : Nat) (p1 : Int32) (p2 : Int32) (p3 : Int32) (post : Mem → Prop) : Prop :=
  okc (gB g) M0 a0 12 ∧ (((p2 = (-1)) → ∃ q8, mR M0 a0 12 = some q8 ∧ (okc (gB g) M0 q8 14 ∧ (vp_in p1 (mN M0 q8) ∧ (∀ M12, M12 = uI M0 q8 (Int32.toNatClampNeg p1) p3 → (post M12))))) ∧ (¬ (p2 = (-1)) → ∃ q2, mR M0 a0 13 = some q2 ∧ (okc (gB g) M0 q2 14 ∧ (vp_in p2 (mN M0 q2) ∧ (∀ M6, M6 = uI M0 q2 (Int32.toNatClampNeg p2) p3 → (post M6))))))
set_option maxHeartbeats 4000000 in
set_option maxRecDepth 100000 in
theorem ct_X12_hang {l : Launch} {g : Gh} {M0 : Mem} {a0 : Nat} {p1 : Int32} {p2 : Int32} {p3 : Int32} {post : Mem → Prop}  (hq : wp_X12_hang  g M0 a0 p1 p2 p3 post) : Ct l g yX12_hang cX12_hang 4 none 0 0 0 [.ref a0, .int p1, .int p2, .int p3] M0 (pV post) := by
  unfold wp_X12_hang at hq
  obtain ⟨h0, hq⟩ := hq
  refine Ct.of (by decide) (Nat.le_of_ble_eq_true rfl) ?_
  intro p e s m below meth c ls C hr hlk hn hl hw
  have hx := C.1.1
  have hb := C.1.2.1
  have hl : lv_has ls 4 [(0, .ref a0), (1, .int p1), (2, .int p2), (3, .int p3)] := hl
  refine lv_iload_n hx hb dX12_hang_0 rfl (lv_at hl 2 rfl) ?_
  refine lv_iconst (v := (-1)) hx hb dX12_hang_1 (by decide) ?_
  refine lv_icmp_ne (tgt := 15) hx hb dX12_hang_2 (by decide) (fun c1 => ?_) (fun c1 => ?_)
  · replace hq := hq.2 c1
    refine lv_aload_n hx hb dX12_hang_15 rfl (lv_at hl 0 rfl) ?_
    obtain ⟨q2, e3, hq⟩ := hq
    refine gfX12_19 C hw hw.2.2.1 h0 e3 dX12_hang_16 ?_
    refine lv_iload_n hx hb dX12_hang_19 rfl (lv_at hl 2 rfl) ?_
    refine lv_iload_n hx hb dX12_hang_20 rfl (lv_at hl 3 rfl) ?_
    obtain ⟨h4, hq⟩ := hq
    obtain ⟨h5, hq⟩ := hq
    refine q_iast C hw hw.2.2.1 h4 h5 dX12_hang_21 (fun H locs hw => ?_)
    generalize e7 : uI M0 q2 (Int32.toNatClampNeg p2) p3 = M6 at hw
    replace hq := hq M6 e7.symm
    have e3 : mR M6 a0 13 = some q2 := by rw [← e7, mR_uI]; exact e3
    exact r_vret C hr hlk hw dX12_hang_22 (Nat.le_refl _) (Nat.le_refl _) ⟨rfl, hq⟩
  · replace hq := hq.1 c1
    refine lv_aload_n hx hb dX12_hang_5 rfl (lv_at hl 0 rfl) ?_
    obtain ⟨q8, e9, hq⟩ := hq
    refine gfX12_16 C hw hw.2.2.1 h0 e9 dX12_hang_6 ?_
    refine lv_iload_n hx hb dX12_hang_9 rfl (lv_at hl 1 rfl) ?_
    refine lv_iload_n hx hb dX12_hang_10 rfl (lv_at hl 3 rfl) ?_
    obtain ⟨h10, hq⟩ := hq
    obtain ⟨h11, hq⟩ := hq
    refine q_iast C hw hw.2.2.1 h10 h11 dX12_hang_11 (fun H locs hw => ?_)
    generalize e13 : uI M0 q8 (Int32.toNatClampNeg p1) p3 = M12 at hw
    replace hq := hq M12 e13.symm
    have e9 : mR M12 a0 12 = some q8 := by rw [← e13, mR_uI]; exact e9
    refine lv_goto (tgt := 22) hx hb dX12_hang_12 (by decide) ?_
    exact r_vret C hr hlk hw dX12_hang_22 (Nat.le_refl _) (Nat.le_refl _) ⟨rfl, hq⟩
