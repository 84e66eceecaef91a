set_option maxRecDepth 100000 in
def lb_X12_readAnswer_206  (g : Gh) (M0 : Mem) (a0 : Nat) (post : Int32 → Mem → Prop) (bk35 : Mem → Prop)  (s0 : Nat) (s1 : Int32) (s2 : Int32) (M : Mem) : Prop :=
  okc (gB g) M0 s0 17 ∧ (vp_in s1 (mN M0 s0) ∧ (∀ M3, M3 = uI M s0 (Int32.toNatClampNeg s1) (vp_nar .boolean s2) → (∃ q5, mR M3 a0 25 = some q5 ∧ (okc (gB g) M0 q5 15 ∧ (vp_in (mI M3 a0 26) (mN M0 q5) ∧ (∀ M9, M9 = uJ M3 q5 (Int32.toNatClampNeg (mI M3 a0 26)) (mJ M3 a0 8) → (∀ M11, M11 = uI M9 a0 26 ((mI M9 a0 26) + 1) → (bk35 (M11)))))))))
set_option maxRecDepth 100000 in
def lb_X12_readAnswer_185  (g : Gh) (M0 : Mem) (a0 : Nat) (post : Int32 → Mem → Prop) (bk35 : Mem → Prop)   (M : Mem) : Prop :=
  ∃ q13, mR M a0 24 = some q13 ∧ ((((mI M a0 6) = 2) → lb_X12_readAnswer_206  g M0 a0 post bk35 q13 (mI M a0 26) 1 M) ∧ (¬ ((mI M a0 6) = 2) → lb_X12_readAnswer_206  g M0 a0 post bk35 q13 (mI M a0 26) 0 M))
set_option maxRecDepth 100000 in
def lb_X12_readAnswer_146  (g : Gh) (M0 : Mem) (a0 : Nat) (post : Int32 → Mem → Prop) (bk35 : Mem → Prop)   (M : Mem) : Prop :=
  wp_X12_readWord g M a0 (fun M17 => (((mI M17 a0 6) = 1) → post 0 M17) ∧ (¬ ((mI M17 a0 6) = 1) → (((mI M17 a0 3) ≤ (mI M17 a0 4)) → lb_X12_readAnswer_185  g M0 a0 post bk35  M17) ∧ (¬ ((mI M17 a0 3) ≤ (mI M17 a0 4)) → ∃ q20, mR M17 a0 1 = some q20 ∧ (okc (gB g) M0 q20 14 ∧ (vp_in (mI M17 a0 4) (mN M0 q20) ∧ ((((mI M17 q20 (Int32.toNatClampNeg (mI M17 a0 4))) = 32) → lb_X12_readAnswer_185  g M0 a0 post bk35  M17) ∧ (¬ ((mI M17 q20 (Int32.toNatClampNeg (mI M17 a0 4))) = 32) → post 0 M17)))))))
set_option maxRecDepth 100000 in
def lb_X12_readAnswer_84  (g : Gh) (M0 : Mem) (a0 : Nat) (post : Int32 → Mem → Prop)    (M : Mem) : Prop :=
  (((mI M a0 26) ≤ 0) → post 0 M) ∧ (¬ ((mI M a0 26) ≤ 0) → post 1 M)
set_option maxRecDepth 100000 in
def lb_X12_readAnswer_73  (g : Gh) (M0 : Mem) (a0 : Nat) (post : Int32 → Mem → Prop) (bk35 : Mem → Prop)   (M : Mem) : Prop :=
  (((mI M a0 4) < (mI M a0 3)) → ∀ M27, M27 = uI M a0 5 (mI M a0 4) → ((((mI M27 a0 26) = 20) → post 0 M27) ∧ (¬ ((mI M27 a0 26) = 20) → ∃ q30, mR M27 a0 1 = some q30 ∧ (okc (gB g) M0 q30 14 ∧ (vp_in (mI M27 a0 4) (mN M0 q30) ∧ (wp_X12_isLetter g M27 (mI M27 q30 (Int32.toNatClampNeg (mI M27 a0 4))) (fun v34 M35 => ((v34 = 0) → ∃ q37, mR M35 a0 1 = some q37 ∧ (okc (gB g) M0 q37 14 ∧ (vp_in (mI M35 a0 4) (mN M0 q37) ∧ (wp_X12_isDigit g M35 (mI M35 q37 (Int32.toNatClampNeg (mI M35 a0 4))) (fun v41 M42 => ((v41 = 0) → post 0 M42) ∧ (¬ (v41 = 0) → lb_X12_readAnswer_146  g M0 a0 post bk35  M42)))))) ∧ (¬ (v34 = 0) → lb_X12_readAnswer_146  g M0 a0 post bk35  M35)))))))) ∧ (¬ ((mI M a0 4) < (mI M a0 3)) → lb_X12_readAnswer_84  g M0 a0 post   M)
set_option maxRecDepth 100000 in
def bd_X12_readAnswer_35  (g : Gh) (M0 : Mem) (a0 : Nat) (post : Int32 → Mem → Prop)  (bk35 : Mem → Prop)   (M : Mem) : Prop :=
  (((mI M a0 3) ≤ (mI M a0 4)) → lb_X12_readAnswer_73  g M0 a0 post bk35  M) ∧ (¬ ((mI M a0 3) ≤ (mI M a0 4)) → ∃ q45, mR M a0 1 = some q45 ∧ (okc (gB g) M0 q45 14 ∧ (vp_in (mI M a0 4) (mN M0 q45) ∧ ((((mI M q45 (Int32.toNatClampNeg (mI M a0 4))) = 32) → ∀ M50, M50 = uI M a0 4 ((mI M a0 4) + 1) → (bk35 (M50))) ∧ (¬ ((mI M q45 (Int32.toNatClampNeg (mI M a0 4))) = 32) → lb_X12_readAnswer_73  g M0 a0 post bk35  M)))))
set_option maxRecDepth 100000 in
def wp_X12_readAnswer  (g : Gh) (M0 : Mem) (a0 : Nat) (post : Int32 → Mem → Prop) : Prop :=
  okc (gB g) M0 a0 12 ∧ (∀ M52, M52 = uI M0 a0 3 (mI M0 a0 2) → (∀ M54, M54 = uI M52 a0 2 0 → (∀ M56, M56 = uI M54 a0 4 0 → (∀ M58, M58 = uI M56 a0 26 0 → ((((mI M58 a0 3) ≤ 200) → (∃ n : Nat, lfp (fun bk z => bd_X12_readAnswer_35  g M0 a0 post  bk z) n (M58))) ∧ (¬ ((mI M58 a0 3) ≤ 200) → post 0 M58))))))
set_option maxHeartbeats 4000000 in
set_option maxRecDepth 100000 in
theorem lt_X12_readAnswer_206 {l : Launch} {g : Gh} {p : Program} {e : Env} {s : State} {m : MethodId} {args : Array Value} {below : List Frame} {meth : Method} {c : Code} {H : Heap} {locs : List Loc} {ls : Array Slot} {M0 M : Mem} {a0 : Nat} {post : Int32 → Mem → Prop}  {s0 : Nat} {s1 : Int32} {s2 : Int32}  (C : Cx g p s m args c cX12_readAnswer 1 RX12) (hr : meth.sig.returnType = (some .boolean)) (hlk : meth.locks = false) (hn : meth.name = "readAnswer") (h0 : okc (gB g) M0 a0 12) {bk35 : Mem → Prop} (hk35 : ∀  (M : Mem) (H : Heap) (locs : List Loc) (ls : Array Slot), bk35 (M) → Wd g s M0 M H locs → lv_has ls 1 [(0, .ref a0)] → W p l e (rmo 2 0 0) s m args below meth c H locs 0 0 (MQ below (Cq g M0 (pI post)) args s 0 0 (gA g)) (F0 m 35 ls [])) (hq : lb_X12_readAnswer_206  g M0 a0 post bk35 s0 s1 s2 M) (hw : Wd g s M0 M H locs) (hl : lv_has ls 1 [(0, .ref a0)]) : W p l e (rmo 2 0 0) s m args below meth c H locs 0 0 (MQ below (Cq g M0 (pI post)) args s 0 0 (gA g)) (F0 m 206 ls [.int s2, .int s1, .ref s0]) := by
  have hx := C.1.1
  have hb := C.1.2.1
  unfold lb_X12_readAnswer_206 at hq
  obtain ⟨h1, hq⟩ := hq
  obtain ⟨h2, hq⟩ := hq
  refine q_zast C hw hw.2.2.1 h1 h2 dX12_readAnswer_206 (fun H locs hw => ?_)
  generalize e4 : uI M s0 (Int32.toNatClampNeg s1) (vp_nar .boolean s2) = M3 at hw
  replace hq := hq M3 e4.symm
  refine lv_aload_n hx hb dX12_readAnswer_207 rfl (lv_at hl 0 rfl) ?_
  obtain ⟨q5, e6, hq⟩ := hq
  refine gfX12_48 C hw hw.2.2.1 h0 e6 dX12_readAnswer_208 ?_
  refine lv_aload_n hx hb dX12_readAnswer_211 rfl (lv_at hl 0 rfl) ?_
  refine gfX12_225 C hw hw.2.2.1 h0 dX12_readAnswer_212 ?_
  refine lv_aload_n hx hb dX12_readAnswer_215 rfl (lv_at hl 0 rfl) ?_
  refine gfX12_163 C hw hw.2.2.1 h0 dX12_readAnswer_216 ?_
  obtain ⟨h7, hq⟩ := hq
  obtain ⟨h8, hq⟩ := hq
  refine q_last C hw hw.2.2.1 h7 h8 dX12_readAnswer_219 (fun H locs hw => ?_)
  generalize e10 : uJ M3 q5 (Int32.toNatClampNeg (mI M3 a0 26)) (mJ M3 a0 8) = M9 at hw
  replace hq := hq M9 e10.symm
  have e6 : mR M9 a0 25 = some q5 := by rw [← e10, mR_uJ]; exact e6
  refine lv_aload_n hx hb dX12_readAnswer_220 rfl (lv_at hl 0 rfl) ?_
  refine lv_dup hx hb dX12_readAnswer_221 rfl ?_
  refine gfX12_225 C hw hw.2.2.1 h0 dX12_readAnswer_222 ?_
  refine lv_iconst (v := 1) hx hb dX12_readAnswer_225 (by decide) ?_
  refine lv_iadd hx hb dX12_readAnswer_226 ?_
  refine pfX12_225 C hw hw.2.2.1 h0 dX12_readAnswer_227 (fun H locs hw => ?_)
  generalize e12 : uI M9 a0 26 ((mI M9 a0 26) + 1) = M11 at hw
  replace hq := hq M11 e12.symm
  have e6 : mR M11 a0 25 = some q5 := by rw [← e12, mR_uI]; exact e6
  refine lv_goto (tgt := 35) hx hb dX12_readAnswer_230 (by decide) ?_
  exact hk35 _ _ _ _ hq hw (lv_sub hl [0] rfl)
set_option maxHeartbeats 4000000 in
set_option maxRecDepth 100000 in
theorem lt_X12_readAnswer_185 {l : Launch} {g : Gh} {p : Program} {e : Env} {s : State} {m : MethodId} {args : Array Value} {below : List Frame} {meth : Method} {c : Code} {H : Heap} {locs : List Loc} {ls : Array Slot} {M0 M : Mem} {a0 : Nat} {post : Int32 → Mem → Prop}    (C : Cx g p s m args c cX12_readAnswer 1 RX12) (hr : meth.sig.returnType = (some .boolean)) (hlk : meth.locks = false) (hn : meth.name = "readAnswer") (h0 : okc (gB g) M0 a0 12) {bk35 : Mem → Prop} (hk35 : ∀  (M : Mem) (H : Heap) (locs : List Loc) (ls : Array Slot), bk35 (M) → Wd g s M0 M H locs → lv_has ls 1 [(0, .ref a0)] → W p l e (rmo 2 0 0) s m args below meth c H locs 0 0 (MQ below (Cq g M0 (pI post)) args s 0 0 (gA g)) (F0 m 35 ls [])) (hq : lb_X12_readAnswer_185  g M0 a0 post bk35  M) (hw : Wd g s M0 M H locs) (hl : lv_has ls 1 [(0, .ref a0)]) : W p l e (rmo 2 0 0) s m args below meth c H locs 0 0 (MQ below (Cq g M0 (pI post)) args s 0 0 (gA g)) (F0 m 185 ls []) := by
  have hx := C.1.1
  have hb := C.1.2.1
  unfold lb_X12_readAnswer_185 at hq
  refine lv_aload_n hx hb dX12_readAnswer_185 rfl (lv_at hl 0 rfl) ?_
  obtain ⟨q13, e14, hq⟩ := hq
  refine gfX12_45 C hw hw.2.2.1 h0 e14 dX12_readAnswer_186 ?_
  refine lv_aload_n hx hb dX12_readAnswer_189 rfl (lv_at hl 0 rfl) ?_
  refine gfX12_225 C hw hw.2.2.1 h0 dX12_readAnswer_190 ?_
  refine lv_aload_n hx hb dX12_readAnswer_193 rfl (lv_at hl 0 rfl) ?_
  refine gfX12_143 C hw hw.2.2.1 h0 dX12_readAnswer_194 ?_
  refine lv_iconst (v := 2) hx hb dX12_readAnswer_197 (by decide) ?_
  refine lv_icmp_ne (tgt := 205) hx hb dX12_readAnswer_198 (by decide) (fun c15 => ?_) (fun c15 => ?_)
  · replace hq := hq.2 c15
    refine lv_iconst (v := 0) hx hb dX12_readAnswer_205 (by decide) ?_
    exact lt_X12_readAnswer_206  C hr hlk hn h0 hk35 hq hw (lv_sub hl [0] rfl)
  · replace hq := hq.1 c15
    refine lv_iconst (v := 1) hx hb dX12_readAnswer_201 (by decide) ?_
    refine lv_goto (tgt := 206) hx hb dX12_readAnswer_202 (by decide) ?_
    exact lt_X12_readAnswer_206  C hr hlk hn h0 hk35 hq hw (lv_sub hl [0] rfl)
set_option maxHeartbeats 4000000 in
set_option maxRecDepth 100000 in
theorem lt_X12_readAnswer_146 {l : Launch} {g : Gh} {p : Program} {e : Env} {s : State} {m : MethodId} {args : Array Value} {below : List Frame} {meth : Method} {c : Code} {H : Heap} {locs : List Loc} {ls : Array Slot} {M0 M : Mem} {a0 : Nat} {post : Int32 → Mem → Prop}    (C : Cx g p s m args c cX12_readAnswer 1 RX12) (hr : meth.sig.returnType = (some .boolean)) (hlk : meth.locks = false) (hn : meth.name = "readAnswer") (h0 : okc (gB g) M0 a0 12) {bk35 : Mem → Prop} (hk35 : ∀  (M : Mem) (H : Heap) (locs : List Loc) (ls : Array Slot), bk35 (M) → Wd g s M0 M H locs → lv_has ls 1 [(0, .ref a0)] → W p l e (rmo 2 0 0) s m args below meth c H locs 0 0 (MQ below (Cq g M0 (pI post)) args s 0 0 (gA g)) (F0 m 35 ls [])) (hq : lb_X12_readAnswer_146  g M0 a0 post bk35  M) (hw : Wd g s M0 M H locs) (hl : lv_has ls 1 [(0, .ref a0)]) : W p l e (rmo 2 0 0) s m args below meth c H locs 0 0 (MQ below (Cq g M0 (pI post)) args s 0 0 (gA g)) (F0 m 146 ls []) := by
  have hx := C.1.1
  have hb := C.1.2.1
  unfold lb_X12_readAnswer_146 at hq
  refine lv_aload_n hx hb dX12_readAnswer_146 rfl (lv_at hl 0 rfl) ?_
  refine r_callV (T := TX12) (N := 67) (ci := 12) (index := 153) (n := 0) (d2 := 1) (mc := 0) (ms := 0) (As := []) (rest := []) C hw (ct_X12_readWord hq) kvX12_153 hq.1 (by decide) rfl ⟨by decide, by decide⟩ ⟨by decide, by decide⟩ rfl hl.1 rfl (Nat.le_of_ble_eq_true rfl) dX12_readAnswer_147 (fun r M17 H locs hp hle hw => ?_)
  obtain ⟨rfl, hq⟩ := hp
  refine W.eq (g2 := F0 m 150 ls []) rfl ?_
  refine lv_aload_n hx hb dX12_readAnswer_150 rfl (lv_at hl 0 rfl) ?_
  refine gfX12_143 C hw hw.2.2.1 h0 dX12_readAnswer_151 ?_
  refine lv_iconst (v := 1) hx hb dX12_readAnswer_154 (by decide) ?_
  refine lv_icmp_eq (tgt := 183) hx hb dX12_readAnswer_155 (by decide) (fun c18 => ?_) (fun c18 => ?_)
  · replace hq := hq.1 c18
    refine lv_iconst (v := 0) hx hb dX12_readAnswer_183 (by decide) ?_
    exact r_zret C hr hlk hw dX12_readAnswer_184 (Nat.le_refl _) (Nat.le_refl _) (by decide) ⟨_, rfl, hq⟩
  · replace hq := hq.2 c18
    refine lv_aload_n hx hb dX12_readAnswer_158 rfl (lv_at hl 0 rfl) ?_
    refine gfX12_137 C hw hw.2.2.1 h0 dX12_readAnswer_159 ?_
    refine lv_aload_n hx hb dX12_readAnswer_162 rfl (lv_at hl 0 rfl) ?_
    refine gfX12_134 C hw hw.2.2.1 h0 dX12_readAnswer_163 ?_
    refine lv_icmp_ge (tgt := 185) hx hb dX12_readAnswer_166 (by decide) (fun c19 => ?_) (fun c19 => ?_)
    · replace hq := hq.1 c19
      exact lt_X12_readAnswer_185  C hr hlk hn h0 hk35 hq hw (lv_sub hl [0] rfl)
    · replace hq := hq.2 c19
      refine lv_aload_n hx hb dX12_readAnswer_169 rfl (lv_at hl 0 rfl) ?_
      obtain ⟨q20, e21, hq⟩ := hq
      refine gfX12_7 C hw hw.2.2.1 h0 e21 dX12_readAnswer_170 ?_
      refine lv_aload_n hx hb dX12_readAnswer_173 rfl (lv_at hl 0 rfl) ?_
      refine gfX12_137 C hw hw.2.2.1 h0 dX12_readAnswer_174 ?_
      obtain ⟨h22, hq⟩ := hq
      obtain ⟨h23, hq⟩ := hq
      refine q_iald C hw hw.2.2.1 h22 h23 dX12_readAnswer_177 ?_
      refine lv_bipush (v := 32) hx hb dX12_readAnswer_178 (by decide) ?_
      refine lv_icmp_eq (tgt := 185) hx hb dX12_readAnswer_180 (by decide) (fun c24 => ?_) (fun c24 => ?_)
      · replace hq := hq.1 c24
        exact lt_X12_readAnswer_185  C hr hlk hn h0 hk35 hq hw (lv_sub hl [0] rfl)
      · replace hq := hq.2 c24
        refine lv_iconst (v := 0) hx hb dX12_readAnswer_183 (by decide) ?_
        exact r_zret C hr hlk hw dX12_readAnswer_184 (Nat.le_refl _) (Nat.le_refl _) (by decide) ⟨_, rfl, hq⟩
set_option maxHeartbeats 4000000 in
set_option maxRecDepth 100000 in
theorem lt_X12_readAnswer_84 {l : Launch} {g : Gh} {p : Program} {e : Env} {s : State} {m : MethodId} {args : Array Value} {below : List Frame} {meth : Method} {c : Code} {H : Heap} {locs : List Loc} {ls : Array Slot} {M0 M : Mem} {a0 : Nat} {post : Int32 → Mem → Prop}    (C : Cx g p s m args c cX12_readAnswer 1 RX12) (hr : meth.sig.returnType = (some .boolean)) (hlk : meth.locks = false) (hn : meth.name = "readAnswer") (h0 : okc (gB g) M0 a0 12)  (hq : lb_X12_readAnswer_84  g M0 a0 post   M) (hw : Wd g s M0 M H locs) (hl : lv_has ls 1 [(0, .ref a0)]) : W p l e (rmo 2 0 0) s m args below meth c H locs 0 0 (MQ below (Cq g M0 (pI post)) args s 0 0 (gA g)) (F0 m 84 ls []) := by
  have hx := C.1.1
  have hb := C.1.2.1
  unfold lb_X12_readAnswer_84 at hq
  refine lv_aload_n hx hb dX12_readAnswer_84 rfl (lv_at hl 0 rfl) ?_
  refine gfX12_225 C hw hw.2.2.1 h0 dX12_readAnswer_85 ?_
  refine lv_if_le (tgt := 95) hx hb dX12_readAnswer_88 (by decide) (fun c25 => ?_) (fun c25 => ?_)
  · replace hq := hq.1 c25
    refine lv_iconst (v := 0) hx hb dX12_readAnswer_95 (by decide) ?_
    exact r_zret C hr hlk hw dX12_readAnswer_96 (Nat.le_refl _) (Nat.le_refl _) (by decide) ⟨_, rfl, hq⟩
  · replace hq := hq.2 c25
    refine lv_iconst (v := 1) hx hb dX12_readAnswer_91 (by decide) ?_
    refine lv_goto (tgt := 96) hx hb dX12_readAnswer_92 (by decide) ?_
    exact r_zret C hr hlk hw dX12_readAnswer_96 (Nat.le_refl _) (Nat.le_refl _) (by decide) ⟨_, rfl, hq⟩
set_option maxHeartbeats 4000000 in
set_option maxRecDepth 100000 in
theorem lt_X12_readAnswer_73 {l : Launch} {g : Gh} {p : Program} {e : Env} {s : State} {m : MethodId} {args : Array Value} {below : List Frame} {meth : Method} {c : Code} {H : Heap} {locs : List Loc} {ls : Array Slot} {M0 M : Mem} {a0 : Nat} {post : Int32 → Mem → Prop}    (C : Cx g p s m args c cX12_readAnswer 1 RX12) (hr : meth.sig.returnType = (some .boolean)) (hlk : meth.locks = false) (hn : meth.name = "readAnswer") (h0 : okc (gB g) M0 a0 12) {bk35 : Mem → Prop} (hk35 : ∀  (M : Mem) (H : Heap) (locs : List Loc) (ls : Array Slot), bk35 (M) → Wd g s M0 M H locs → lv_has ls 1 [(0, .ref a0)] → W p l e (rmo 2 0 0) s m args below meth c H locs 0 0 (MQ below (Cq g M0 (pI post)) args s 0 0 (gA g)) (F0 m 35 ls [])) (hq : lb_X12_readAnswer_73  g M0 a0 post bk35  M) (hw : Wd g s M0 M H locs) (hl : lv_has ls 1 [(0, .ref a0)]) : W p l e (rmo 2 0 0) s m args below meth c H locs 0 0 (MQ below (Cq g M0 (pI post)) args s 0 0 (gA g)) (F0 m 73 ls []) := by
  have hx := C.1.1
  have hb := C.1.2.1
  unfold lb_X12_readAnswer_73 at hq
  refine lv_aload_n hx hb dX12_readAnswer_73 rfl (lv_at hl 0 rfl) ?_
  refine gfX12_137 C hw hw.2.2.1 h0 dX12_readAnswer_74 ?_
  refine lv_aload_n hx hb dX12_readAnswer_77 rfl (lv_at hl 0 rfl) ?_
  refine gfX12_134 C hw hw.2.2.1 h0 dX12_readAnswer_78 ?_
  refine lv_icmp_lt (tgt := 97) hx hb dX12_readAnswer_81 (by decide) (fun c26 => ?_) (fun c26 => ?_)
  · replace hq := hq.1 c26
    refine lv_aload_n hx hb dX12_readAnswer_97 rfl (lv_at hl 0 rfl) ?_
    refine lv_aload_n hx hb dX12_readAnswer_98 rfl (lv_at hl 0 rfl) ?_
    refine gfX12_137 C hw hw.2.2.1 h0 dX12_readAnswer_99 ?_
    refine pfX12_140 C hw hw.2.2.1 h0 dX12_readAnswer_102 (fun H locs hw => ?_)
    generalize e28 : uI M a0 5 (mI M a0 4) = M27 at hw
    replace hq := hq M27 e28.symm
    refine lv_aload_n hx hb dX12_readAnswer_105 rfl (lv_at hl 0 rfl) ?_
    refine gfX12_225 C hw hw.2.2.1 h0 dX12_readAnswer_106 ?_
    refine lv_bipush (v := 20) hx hb dX12_readAnswer_109 (by decide) ?_
    refine lv_icmp_eq (tgt := 144) hx hb dX12_readAnswer_111 (by decide) (fun c29 => ?_) (fun c29 => ?_)
    · replace hq := hq.1 c29
      refine lv_iconst (v := 0) hx hb dX12_readAnswer_144 (by decide) ?_
      exact r_zret C hr hlk hw dX12_readAnswer_145 (Nat.le_refl _) (Nat.le_refl _) (by decide) ⟨_, rfl, hq⟩
    · replace hq := hq.2 c29
      refine lv_aload_n hx hb dX12_readAnswer_114 rfl (lv_at hl 0 rfl) ?_
      obtain ⟨q30, e31, hq⟩ := hq
      refine gfX12_7 C hw hw.2.2.1 h0 e31 dX12_readAnswer_115 ?_
      refine lv_aload_n hx hb dX12_readAnswer_118 rfl (lv_at hl 0 rfl) ?_
      refine gfX12_137 C hw hw.2.2.1 h0 dX12_readAnswer_119 ?_
      obtain ⟨h32, hq⟩ := hq
      obtain ⟨h33, hq⟩ := hq
      refine q_iald C hw hw.2.2.1 h32 h33 dX12_readAnswer_122 ?_
      refine r_callS (index := 146) (n := 1) (d2 := 0) (mc := 0) (ms := 0) (As := [.int (mI M27 q30 (Int32.toNatClampNeg (mI M27 a0 4)))]) (rest := []) C hw (ct_X12_isLetter hq) ksX12_146 ⟨by decide, by decide⟩ ⟨by decide, by decide⟩ rfl hl.1 rfl (Nat.le_of_ble_eq_true rfl) dX12_readAnswer_123 (fun r M35 H locs hp hle hw => ?_)
      obtain ⟨v34, rfl, hq⟩ := hp
      refine W.eq (g2 := F0 m 126 ls [.int v34]) rfl ?_
      refine lv_if_ne (tgt := 146) hx hb dX12_readAnswer_126 (by decide) (fun c36 => ?_) (fun c36 => ?_)
      · replace hq := hq.2 c36
        exact lt_X12_readAnswer_146  C hr hlk hn h0 hk35 hq hw (lv_sub hl [0] rfl)
      · replace hq := hq.1 c36
        refine lv_aload_n hx hb dX12_readAnswer_129 rfl (lv_at hl 0 rfl) ?_
        obtain ⟨q37, e38, hq⟩ := hq
        refine gfX12_7 C hw hw.2.2.1 h0 e38 dX12_readAnswer_130 ?_
        refine lv_aload_n hx hb dX12_readAnswer_133 rfl (lv_at hl 0 rfl) ?_
        refine gfX12_137 C hw hw.2.2.1 h0 dX12_readAnswer_134 ?_
        obtain ⟨h39, hq⟩ := hq
        obtain ⟨h40, hq⟩ := hq
        refine q_iald C hw hw.2.2.1 h39 h40 dX12_readAnswer_137 ?_
        refine r_callS (index := 150) (n := 1) (d2 := 0) (mc := 0) (ms := 0) (As := [.int (mI M35 q37 (Int32.toNatClampNeg (mI M35 a0 4)))]) (rest := []) C hw (ct_X12_isDigit hq) ksX12_150 ⟨by decide, by decide⟩ ⟨by decide, by decide⟩ rfl hl.1 rfl (Nat.le_of_ble_eq_true rfl) dX12_readAnswer_138 (fun r M42 H locs hp hle hw => ?_)
        obtain ⟨v41, rfl, hq⟩ := hp
        refine W.eq (g2 := F0 m 141 ls [.int v41]) rfl ?_
        refine lv_if_ne (tgt := 146) hx hb dX12_readAnswer_141 (by decide) (fun c43 => ?_) (fun c43 => ?_)
        · replace hq := hq.2 c43
          exact lt_X12_readAnswer_146  C hr hlk hn h0 hk35 hq hw (lv_sub hl [0] rfl)
        · replace hq := hq.1 c43
          refine lv_iconst (v := 0) hx hb dX12_readAnswer_144 (by decide) ?_
          exact r_zret C hr hlk hw dX12_readAnswer_145 (Nat.le_refl _) (Nat.le_refl _) (by decide) ⟨_, rfl, hq⟩
  · replace hq := hq.2 c26
    exact lt_X12_readAnswer_84  C hr hlk hn h0  hq hw (lv_sub hl [0] rfl)
set_option maxHeartbeats 4000000 in
set_option maxRecDepth 100000 in
theorem lp_X12_readAnswer_35 {l : Launch} {g : Gh} {p : Program} {e : Env} {s : State} {m : MethodId} {args : Array Value} {below : List Frame} {meth : Method} {c : Code} {M0 : Mem} {a0 : Nat} {post : Int32 → Mem → Prop}  (C : Cx g p s m args c cX12_readAnswer 1 RX12) (hr : meth.sig.returnType = (some .boolean)) (hlk : meth.locks = false) (hn : meth.name = "readAnswer") (h0 : okc (gB g) M0 a0 12)  : ∀ (nf : Nat)   (M : Mem) (H : Heap) (locs : List Loc) (ls : Array Slot), lfp (fun bk z => bd_X12_readAnswer_35  g M0 a0 post  bk z) nf (M) → Wd g s M0 M H locs → lv_has ls 1 [(0, .ref a0)] → W p l e (rmo 2 0 0) s m args below meth c H locs 0 0 (MQ below (Cq g M0 (pI post)) args s 0 0 (gA g)) (F0 m 35 ls []) := by
  have hx := C.1.1
  have hb := C.1.2.1
  intro nf
  induction nf with
  | zero => intro _ H locs ls hq; exact hq.elim
  | succ nf hk35 =>
    intro M H locs ls hq hw hl
    replace hq : bd_X12_readAnswer_35  g M0 a0 post  (lfp (fun bk z => bd_X12_readAnswer_35  g M0 a0 post  bk z) nf) M := hq
    unfold bd_X12_readAnswer_35 at hq
    refine lv_aload_n hx hb dX12_readAnswer_35 rfl (lv_at hl 0 rfl) ?_
    refine gfX12_137 C hw hw.2.2.1 h0 dX12_readAnswer_36 ?_
    refine lv_aload_n hx hb dX12_readAnswer_39 rfl (lv_at hl 0 rfl) ?_
    refine gfX12_134 C hw hw.2.2.1 h0 dX12_readAnswer_40 ?_
    refine lv_icmp_ge (tgt := 73) hx hb dX12_readAnswer_43 (by decide) (fun c44 => ?_) (fun c44 => ?_)
    · replace hq := hq.1 c44
      exact lt_X12_readAnswer_73  C hr hlk hn h0 hk35 hq hw (lv_sub hl [0] rfl)
    · replace hq := hq.2 c44
      refine lv_aload_n hx hb dX12_readAnswer_46 rfl (lv_at hl 0 rfl) ?_
      obtain ⟨q45, e46, hq⟩ := hq
      refine gfX12_7 C hw hw.2.2.1 h0 e46 dX12_readAnswer_47 ?_
      refine lv_aload_n hx hb dX12_readAnswer_50 rfl (lv_at hl 0 rfl) ?_
      refine gfX12_137 C hw hw.2.2.1 h0 dX12_readAnswer_51 ?_
      obtain ⟨h47, hq⟩ := hq
      obtain ⟨h48, hq⟩ := hq
      refine q_iald C hw hw.2.2.1 h47 h48 dX12_readAnswer_54 ?_
      refine lv_bipush (v := 32) hx hb dX12_readAnswer_55 (by decide) ?_
      refine lv_icmp_ne (tgt := 73) hx hb dX12_readAnswer_57 (by decide) (fun c49 => ?_) (fun c49 => ?_)
      · replace hq := hq.2 c49
        exact lt_X12_readAnswer_73  C hr hlk hn h0 hk35 hq hw (lv_sub hl [0] rfl)
      · replace hq := hq.1 c49
        refine lv_aload_n hx hb dX12_readAnswer_60 rfl (lv_at hl 0 rfl) ?_
        refine lv_dup hx hb dX12_readAnswer_61 rfl ?_
        refine gfX12_137 C hw hw.2.2.1 h0 dX12_readAnswer_62 ?_
        refine lv_iconst (v := 1) hx hb dX12_readAnswer_65 (by decide) ?_
        refine lv_iadd hx hb dX12_readAnswer_66 ?_
        refine pfX12_137 C hw hw.2.2.1 h0 dX12_readAnswer_67 (fun H locs hw => ?_)
        generalize e51 : uI M a0 4 ((mI M a0 4) + 1) = M50 at hw
        replace hq := hq M50 e51.symm
        have e46 : mR M50 a0 1 = some q45 := by rw [← e51, mR_uI]; exact e46
        refine lv_goto (tgt := 35) hx hb dX12_readAnswer_70 (by decide) ?_
        exact hk35 _ _ _ _ hq hw (lv_sub hl [0] rfl)
set_option maxHeartbeats 4000000 in
set_option maxRecDepth 100000 in
theorem ct_X12_readAnswer {l : Launch} {g : Gh} {M0 : Mem} {a0 : Nat} {post : Int32 → Mem → Prop}  (hq : wp_X12_readAnswer  g M0 a0 post) : Ct l g yX12_readAnswer cX12_readAnswer 1 (some .boolean) 2 0 0 [.ref a0] M0 (pI post) := by
  unfold wp_X12_readAnswer at hq
  obtain ⟨h0, hq⟩ := hq
  refine Ct.of (by decide) (Nat.le_of_ble_eq_true rfl) ?_
  intro p e s m below meth c ls C hr hlk hn hl hw
  have hx := C.1.1
  have hb := C.1.2.1
  have hl : lv_has ls 1 [(0, .ref a0)] := hl
  refine lv_aload_n hx hb dX12_readAnswer_0 rfl (lv_at hl 0 rfl) ?_
  refine lv_aload_n hx hb dX12_readAnswer_1 rfl (lv_at hl 0 rfl) ?_
  refine gfX12_127 C hw hw.2.2.1 h0 dX12_readAnswer_2 ?_
  refine pfX12_134 C hw hw.2.2.1 h0 dX12_readAnswer_5 (fun H locs hw => ?_)
  generalize e53 : uI M0 a0 3 (mI M0 a0 2) = M52 at hw
  replace hq := hq M52 e53.symm
  refine lv_aload_n hx hb dX12_readAnswer_8 rfl (lv_at hl 0 rfl) ?_
  refine lv_iconst (v := 0) hx hb dX12_readAnswer_9 (by decide) ?_
  refine pfX12_127 C hw hw.2.2.1 h0 dX12_readAnswer_10 (fun H locs hw => ?_)
  generalize e55 : uI M52 a0 2 0 = M54 at hw
  replace hq := hq M54 e55.symm
  refine lv_aload_n hx hb dX12_readAnswer_13 rfl (lv_at hl 0 rfl) ?_
  refine lv_iconst (v := 0) hx hb dX12_readAnswer_14 (by decide) ?_
  refine pfX12_137 C hw hw.2.2.1 h0 dX12_readAnswer_15 (fun H locs hw => ?_)
  generalize e57 : uI M54 a0 4 0 = M56 at hw
  replace hq := hq M56 e57.symm
  refine lv_aload_n hx hb dX12_readAnswer_18 rfl (lv_at hl 0 rfl) ?_
  refine lv_iconst (v := 0) hx hb dX12_readAnswer_19 (by decide) ?_
  refine pfX12_225 C hw hw.2.2.1 h0 dX12_readAnswer_20 (fun H locs hw => ?_)
  generalize e59 : uI M56 a0 26 0 = M58 at hw
  replace hq := hq M58 e59.symm
  refine lv_aload_n hx hb dX12_readAnswer_23 rfl (lv_at hl 0 rfl) ?_
  refine gfX12_134 C hw hw.2.2.1 h0 dX12_readAnswer_24 ?_
  refine lv_sipush (v := 200) hx hb dX12_readAnswer_27 (by decide) ?_
  refine lv_icmp_le (tgt := 35) hx hb dX12_readAnswer_30 (by decide) (fun c60 => ?_) (fun c60 => ?_)
  · replace hq := hq.1 c60
    obtain ⟨nf, hq⟩ := hq
    exact lp_X12_readAnswer_35  C hr hlk hn h0  nf _ _ _ _ hq hw (lv_sub hl [0] rfl)
  · replace hq := hq.2 c60
    refine lv_iconst (v := 0) hx hb dX12_readAnswer_33 (by decide) ?_
    exact r_zret C hr hlk hw dX12_readAnswer_34 (Nat.le_refl _) (Nat.le_refl _) (by decide) ⟨_, rfl, hq⟩

set_option maxRecDepth 100000 in
def lb_X12_leadsAll_196 (w_X12_leads : Gh → Mem → Nat → Int32 → Int32 → (Int32 → Mem → Prop) → Prop) (g : Gh) (M0 : Mem) (a0 : Nat) (p1 : Int32) (p2 : Int32) (post : Int32 → Mem → Prop)  (x3 : Int32) (x4 : Int32)  (M : Mem) : Prop :=
  ∀ M1, M1 = uI M a0 28 ((mI M a0 28) - 1) → (∃ q3, mR M1 a0 27 = some q3 ∧ (okc (gB g) M0 q3 14 ∧ (vp_in ((x3 + (1 <<< (x4 &&& 31))) - 1) (mN M0 q3) ∧ (post (mI M1 q3 (Int32.toNatClampNeg ((x3 + (1 <<< (x4 &&& 31))) - 1))) M1))))
set_option maxRecDepth 100000 in
def bd_X12_leadsAll_123 (w_X12_leads : Gh → Mem → Nat → Int32 → Int32 → (Int32 → Mem → Prop) → Prop) (g : Gh) (M0 : Mem) (a0 : Nat) (p1 : Int32) (p2 : Int32) (post : Int32 → Mem → Prop) (bk88 : Int32 × Int32 × Int32 × Mem → Prop) (bk123 : Int32 × Int32 × Int32 × Int32 × Int32 × Mem → Prop) (x3 : Int32) (x4 : Int32) (x5 : Int32) (x6 : Int32) (x7 : Int32)  (M : Mem) : Prop :=
  ((x7 = (-1)) → bk88 (x3, x4, (x5 + 1), M)) ∧ (¬ (x7 = (-1)) → ((((x5 >>> (x6 &&& 31)) &&& 1) = 0) → ∃ q13, mR M a0 27 = some q13 ∧ (okc (gB g) M0 q13 14 ∧ (vp_in (x3 + x5) (mN M0 q13) ∧ (w_X12_leads g M a0 x7 (mI M q13 (Int32.toNatClampNeg (x3 + x5))) (fun v17 M18 => ∃ q19, mR M18 a0 27 = some q19 ∧ (okc (gB g) M0 q19 14 ∧ (vp_in (x3 + (x5 ||| (1 <<< (x6 &&& 31)))) (mN M0 q19) ∧ (∀ M23, M23 = uI M18 q19 (Int32.toNatClampNeg (x3 + (x5 ||| (1 <<< (x6 &&& 31))))) ((mI M18 q19 (Int32.toNatClampNeg (x3 + (x5 ||| (1 <<< (x6 &&& 31)))))) ||| v17) → (∃ q25, mR M23 a0 13 = some q25 ∧ (okc (gB g) M0 q25 14 ∧ (vp_in x7 (mN M0 q25) ∧ (bk123 (x3, x4, x5, (x6 + 1), (mI M23 q25 (Int32.toNatClampNeg x7)), M23))))))))))))) ∧ (¬ (((x5 >>> (x6 &&& 31)) &&& 1) = 0) → ∃ q9, mR M a0 13 = some q9 ∧ (okc (gB g) M0 q9 14 ∧ (vp_in x7 (mN M0 q9) ∧ (bk123 (x3, x4, x5, (x6 + 1), (mI M q9 (Int32.toNatClampNeg x7)), M))))))
set_option maxRecDepth 100000 in
def bd_X12_leadsAll_88 (w_X12_leads : Gh → Mem → Nat → Int32 → Int32 → (Int32 → Mem → Prop) → Prop) (g : Gh) (M0 : Mem) (a0 : Nat) (p1 : Int32) (p2 : Int32) (post : Int32 → Mem → Prop)  (bk88 : Int32 × Int32 × Int32 × Mem → Prop) (x3 : Int32) (x4 : Int32) (x5 : Int32)  (M : Mem) : Prop :=
  (((1 <<< (x4 &&& 31)) ≤ x5) → lb_X12_leadsAll_196 w_X12_leads g M0 a0 p1 p2 post  x3 x4 M) ∧ (¬ ((1 <<< (x4 &&& 31)) ≤ x5) → ∃ q30, mR M a0 27 = some q30 ∧ (okc (gB g) M0 q30 14 ∧ (vp_in (x3 + x5) (mN M0 q30) ∧ ((((mI M q30 (Int32.toNatClampNeg (x3 + x5))) = 0) → bk88 (x3, x4, (x5 + 1), M)) ∧ (¬ ((mI M q30 (Int32.toNatClampNeg (x3 + x5))) = 0) → ∃ q35, mR M a0 12 = some q35 ∧ (okc (gB g) M0 q35 14 ∧ (vp_in p1 (mN M0 q35) ∧ ((∃ n : Nat, lfp (fun bk z => bd_X12_leadsAll_123 w_X12_leads g M0 a0 p1 p2 post bk88 bk z.1 z.2.1 z.2.2.1 z.2.2.2.1 z.2.2.2.2.1 z.2.2.2.2.2) n (x3, x4, x5, 0, (mI M q35 (Int32.toNatClampNeg p1)), M))))))))))
set_option maxRecDepth 100000 in
def lb_X12_leadsAll_78 (w_X12_leads : Gh → Mem → Nat → Int32 → Int32 → (Int32 → Mem → Prop) → Prop) (g : Gh) (M0 : Mem) (a0 : Nat) (p1 : Int32) (p2 : Int32) (post : Int32 → Mem → Prop)  (x3 : Int32) (x4 : Int32)  (M : Mem) : Prop :=
  ∃ q39, mR M a0 27 = some q39 ∧ (okc (gB g) M0 q39 14 ∧ (vp_in x3 (mN M0 q39) ∧ (∀ M43, M43 = uI M q39 (Int32.toNatClampNeg x3) p2 → ((∃ n : Nat, lfp (fun bk z => bd_X12_leadsAll_88 w_X12_leads g M0 a0 p1 p2 post  bk z.1 z.2.1 z.2.2.1 z.2.2.2) n (x3, x4, 0, M43))))))
set_option maxRecDepth 100000 in
def bd_X12_leadsAll_53 (w_X12_leads : Gh → Mem → Nat → Int32 → Int32 → (Int32 → Mem → Prop) → Prop) (g : Gh) (M0 : Mem) (a0 : Nat) (p1 : Int32) (p2 : Int32) (post : Int32 → Mem → Prop)  (bk53 : Int32 × Int32 × Int32 × Mem → Prop) (x3 : Int32) (x4 : Int32) (x5 : Int32)  (M : Mem) : Prop :=
  (((1 <<< (x4 &&& 31)) ≤ x5) → lb_X12_leadsAll_78 w_X12_leads g M0 a0 p1 p2 post  x3 x4 M) ∧ (¬ ((1 <<< (x4 &&& 31)) ≤ x5) → ∃ q46, mR M a0 27 = some q46 ∧ (okc (gB g) M0 q46 14 ∧ (vp_in (x3 + x5) (mN M0 q46) ∧ (∀ M50, M50 = uI M q46 (Int32.toNatClampNeg (x3 + x5)) 0 → (bk53 (x3, x4, (x5 + 1), M50))))))
set_option maxRecDepth 100000 in
def bd_X12_leadsAll_29 (w_X12_leads : Gh → Mem → Nat → Int32 → Int32 → (Int32 → Mem → Prop) → Prop) (g : Gh) (M0 : Mem) (a0 : Nat) (p1 : Int32) (p2 : Int32) (post : Int32 → Mem → Prop)  (bk29 : Int32 × Int32 × Int32 × Mem → Prop) (x3 : Int32) (x4 : Int32) (x5 : Int32)  (M : Mem) : Prop :=
  ((x5 = (-1)) → (∃ n : Nat, lfp (fun bk z => bd_X12_leadsAll_53 w_X12_leads g M0 a0 p1 p2 post  bk z.1 z.2.1 z.2.2.1 z.2.2.2) n (x3, x4, 1, M))) ∧ (¬ (x5 = (-1)) → ∃ q53, mR M a0 13 = some q53 ∧ (okc (gB g) M0 q53 14 ∧ (vp_in x5 (mN M0 q53) ∧ (bk29 (x3, (x4 + 1), (mI M q53 (Int32.toNatClampNeg x5)), M)))))
set_option maxRecDepth 100000 in
def wp_X12_leadsAll (w_X12_leads : Gh → Mem → Nat → Int32 → Int32 → (Int32 → Mem → Prop) → Prop) (g : Gh) (M0 : Mem) (a0 : Nat) (p1 : Int32) (p2 : Int32) (post : Int32 → Mem → Prop) : Prop :=
  okc (gB g) M0 a0 12 ∧ (∀ M57, M57 = uI M0 a0 28 ((mI M0 a0 28) + 1) → (∃ q59, mR M57 a0 12 = some q59 ∧ (okc (gB g) M0 q59 14 ∧ (vp_in p1 (mN M0 q59) ∧ ((∃ n : Nat, lfp (fun bk z => bd_X12_leadsAll_29 w_X12_leads g M0 a0 p1 p2 post  bk z.1 z.2.1 z.2.2.1 z.2.2.2) n ((32 * (mI M0 a0 28)), 0, (mI M57 q59 (Int32.toNatClampNeg p1)), M57)))))))
set_option maxHeartbeats 4000000 in
set_option maxRecDepth 100000 in
theorem lt_X12_leadsAll_196 {l : Launch} {g : Gh} {p : Program} {e : Env} {s : State} {m : MethodId} {args : Array Value} {below : List Frame} {meth : Method} {c : Code} {H : Heap} {locs : List Loc} {ls : Array Slot} {M0 M : Mem} {a0 : Nat} {p1 : Int32} {p2 : Int32} {post : Int32 → Mem → Prop} {x3 : Int32} {x4 : Int32}  {d : Nat} {w_X12_leads : Gh → Mem → Nat → Int32 → Int32 → (Int32 → Mem → Prop) → Prop} {d_X12_leads : Nat} (hd_X12_leads : d_X12_leads ≤ d) (hr_X12_leads : ∀ {l : Launch} {g : Gh} {M0 : Mem} {a0 : Nat} {p1 : Int32} {p2 : Int32} {post : Int32 → Mem → Prop}, w_X12_leads g M0 a0 p1 p2 post → okc (gB g) M0 a0 12 ∧ Ct l g yX12_leads cX12_leads 5 (some .int) d_X12_leads 0 0 [.ref a0, .int p1, .int p2] M0 (pI post)) (C : Cx g p s m args c cX12_leadsAll 9 RX12) (hr : meth.sig.returnType = (some .int)) (hlk : meth.locks = false) (hn : meth.name = "leadsAll") (h0 : okc (gB g) M0 a0 12)  (hq : lb_X12_leadsAll_196 w_X12_leads g M0 a0 p1 p2 post  x3 x4 M) (hw : Wd g s M0 M H locs) (hl : lv_has ls 9 [(0, .ref a0), (1, .int p1), (2, .int p2), (3, .int x3), (4, .int x4)]) : W p l e (rmo (d + 8) 0 0) s m args below meth c H locs 0 0 (MQ below (Cq g M0 (pI post)) args s 0 0 (gA g)) (F0 m 196 ls []) := by
  have hx := C.1.1
  have hb := C.1.2.1
  unfold lb_X12_leadsAll_196 at hq
  refine lv_aload_n hx hb dX12_leadsAll_196 rfl (lv_at hl 0 rfl) ?_
  refine lv_dup hx hb dX12_leadsAll_197 rfl ?_
  refine gfX12_235 C hw hw.2.2.1 h0 dX12_leadsAll_198 ?_
  refine lv_iconst (v := 1) hx hb dX12_leadsAll_201 (by decide) ?_
  refine lv_isub hx hb dX12_leadsAll_202 ?_
  refine pfX12_235 C hw hw.2.2.1 h0 dX12_leadsAll_203 (fun H locs hw => ?_)
  generalize e2 : uI M a0 28 ((mI M a0 28) - 1) = M1 at hw
  replace hq := hq M1 e2.symm
  refine lv_aload_n hx hb dX12_leadsAll_206 rfl (lv_at hl 0 rfl) ?_
  obtain ⟨q3, e4, hq⟩ := hq
  refine gfX12_51 C hw hw.2.2.1 h0 e4 dX12_leadsAll_207 ?_
  refine lv_iload_n hx hb dX12_leadsAll_210 rfl (lv_at hl 3 rfl) ?_
  refine lv_iconst (v := 1) hx hb dX12_leadsAll_211 (by decide) ?_
  refine lv_iload hx hb dX12_leadsAll_212 (lv_at hl 4 rfl) ?_
  refine lv_ishl hx hb dX12_leadsAll_214 ?_
  refine lv_iadd hx hb dX12_leadsAll_215 ?_
  refine lv_iconst (v := 1) hx hb dX12_leadsAll_216 (by decide) ?_
  refine lv_isub hx hb dX12_leadsAll_217 ?_
  obtain ⟨h5, hq⟩ := hq
  obtain ⟨h6, hq⟩ := hq
  refine q_iald C hw hw.2.2.1 h5 h6 dX12_leadsAll_218 ?_
  exact r_iret C hr hlk hw dX12_leadsAll_219 (Nat.le_refl _) (Nat.le_refl _) ⟨_, rfl, hq⟩
set_option maxHeartbeats 4000000 in
set_option maxRecDepth 100000 in
theorem lp_X12_leadsAll_123 {l : Launch} {g : Gh} {p : Program} {e : Env} {s : State} {m : MethodId} {args : Array Value} {below : List Frame} {meth : Method} {c : Code} {M0 : Mem} {a0 : Nat} {p1 : Int32} {p2 : Int32} {post : Int32 → Mem → Prop} {d : Nat} {w_X12_leads : Gh → Mem → Nat → Int32 → Int32 → (Int32 → Mem → Prop) → Prop} {d_X12_leads : Nat} (hd_X12_leads : d_X12_leads ≤ d) (hr_X12_leads : ∀ {l : Launch} {g : Gh} {M0 : Mem} {a0 : Nat} {p1 : Int32} {p2 : Int32} {post : Int32 → Mem → Prop}, w_X12_leads g M0 a0 p1 p2 post → okc (gB g) M0 a0 12 ∧ Ct l g yX12_leads cX12_leads 5 (some .int) d_X12_leads 0 0 [.ref a0, .int p1, .int p2] M0 (pI post)) (C : Cx g p s m args c cX12_leadsAll 9 RX12) (hr : meth.sig.returnType = (some .int)) (hlk : meth.locks = false) (hn : meth.name = "leadsAll") (h0 : okc (gB g) M0 a0 12) {bk88 : Int32 × Int32 × Int32 × Mem → Prop} (hk88 : ∀ (x3 : Int32) (x4 : Int32) (x5 : Int32) (M : Mem) (H : Heap) (locs : List Loc) (ls : Array Slot), bk88 (x3, x4, x5, M) → Wd g s M0 M H locs → lv_has ls 9 [(0, .ref a0), (1, .int p1), (2, .int p2), (3, .int x3), (4, .int x4), (5, .int x5)] → W p l e (rmo (d + 8) 0 0) s m args below meth c H locs 0 0 (MQ below (Cq g M0 (pI post)) args s 0 0 (gA g)) (F0 m 88 ls [])) : ∀ (nf : Nat) (x3 : Int32) (x4 : Int32) (x5 : Int32) (x6 : Int32) (x7 : Int32)  (M : Mem) (H : Heap) (locs : List Loc) (ls : Array Slot), lfp (fun bk z => bd_X12_leadsAll_123 w_X12_leads g M0 a0 p1 p2 post bk88 bk z.1 z.2.1 z.2.2.1 z.2.2.2.1 z.2.2.2.2.1 z.2.2.2.2.2) nf (x3, x4, x5, x6, x7, M) → Wd g s M0 M H locs → lv_has ls 9 [(0, .ref a0), (1, .int p1), (2, .int p2), (3, .int x3), (4, .int x4), (5, .int x5), (6, .int x6), (7, .int x7)] → W p l e (rmo (d + 8) 0 0) s m args below meth c H locs 0 0 (MQ below (Cq g M0 (pI post)) args s 0 0 (gA g)) (F0 m 123 ls []) := by
  have hx := C.1.1
  have hb := C.1.2.1
  intro nf
  induction nf with
  | zero => intro _ _ _ _ _ _ H locs ls hq; exact hq.elim
  | succ nf hk123 =>
    intro x3 x4 x5 x6 x7 M H locs ls hq hw hl
    replace hq : bd_X12_leadsAll_123 w_X12_leads g M0 a0 p1 p2 post bk88 (lfp (fun bk z => bd_X12_leadsAll_123 w_X12_leads g M0 a0 p1 p2 post bk88 bk z.1 z.2.1 z.2.2.1 z.2.2.2.1 z.2.2.2.2.1 z.2.2.2.2.2) nf) x3 x4 x5 x6 x7 M := hq
    unfold bd_X12_leadsAll_123 at hq
    refine lv_iload hx hb dX12_leadsAll_123 (lv_at hl 7 rfl) ?_
    refine lv_iconst (v := (-1)) hx hb dX12_leadsAll_125 (by decide) ?_
    refine lv_icmp_eq (tgt := 190) hx hb dX12_leadsAll_126 (by decide) (fun c7 => ?_) (fun c7 => ?_)
    · replace hq := hq.1 c7
      refine lv_iinc (v := (x5 + 1)) (lv' := [(5, .int (x5 + 1)), (0, .ref a0), (1, .int p1), (2, .int p2), (3, .int x3), (4, .int x4), (6, .int x6), (7, .int x7)]) hx hb dX12_leadsAll_190 hl (k := 5) rfl rfl (by decide) rfl (fun ls hl => ?_)
      refine lv_goto (tgt := 88) hx hb dX12_leadsAll_193 (by decide) ?_
      exact hk88 _ _ _ _ _ _ _ hq hw (lv_sub hl [1, 2, 3, 4, 5, 0] rfl)
    · replace hq := hq.2 c7
      refine lv_iload hx hb dX12_leadsAll_129 (lv_at hl 5 rfl) ?_
      refine lv_iload hx hb dX12_leadsAll_131 (lv_at hl 6 rfl) ?_
      refine lv_ishr hx hb dX12_leadsAll_133 ?_
      refine lv_iconst (v := 1) hx hb dX12_leadsAll_134 (by decide) ?_
      refine lv_iand hx hb dX12_leadsAll_135 ?_
      refine lv_if_ne (tgt := 175) hx hb dX12_leadsAll_136 (by decide) (fun c8 => ?_) (fun c8 => ?_)
      · replace hq := hq.2 c8
        refine lv_iinc (v := (x6 + 1)) (lv' := [(6, .int (x6 + 1)), (0, .ref a0), (1, .int p1), (2, .int p2), (3, .int x3), (4, .int x4), (5, .int x5), (7, .int x7)]) hx hb dX12_leadsAll_175 hl (k := 6) rfl rfl (by decide) rfl (fun ls hl => ?_)
        refine lv_aload_n hx hb dX12_leadsAll_178 rfl (lv_at hl 1 rfl) ?_
        obtain ⟨q9, e10, hq⟩ := hq
        refine gfX12_19 C hw hw.2.2.1 h0 e10 dX12_leadsAll_179 ?_
        refine lv_iload hx hb dX12_leadsAll_182 (lv_at hl 7 rfl) ?_
        obtain ⟨h11, hq⟩ := hq
        obtain ⟨h12, hq⟩ := hq
        refine q_iald C hw hw.2.2.1 h11 h12 dX12_leadsAll_184 ?_
        refine lv_istore (lv' := [(7, .int (mI M q9 (Int32.toNatClampNeg x7))), (6, .int (x6 + 1)), (0, .ref a0), (1, .int p1), (2, .int p2), (3, .int x3), (4, .int x4), (5, .int x5)]) hx hb dX12_leadsAll_185 hl (by decide) rfl (fun ls hl => ?_)
        refine lv_goto (tgt := 123) hx hb dX12_leadsAll_187 (by decide) ?_
        exact hk123 _ _ _ _ _ _ _ _ _ hq hw (lv_sub hl [2, 3, 4, 5, 6, 7, 1, 0] rfl)
      · replace hq := hq.1 c8
        refine lv_aload_n hx hb dX12_leadsAll_139 rfl (lv_at hl 0 rfl) ?_
        refine lv_iload hx hb dX12_leadsAll_140 (lv_at hl 7 rfl) ?_
        refine lv_aload_n hx hb dX12_leadsAll_142 rfl (lv_at hl 0 rfl) ?_
        obtain ⟨q13, e14, hq⟩ := hq
        refine gfX12_51 C hw hw.2.2.1 h0 e14 dX12_leadsAll_143 ?_
        refine lv_iload_n hx hb dX12_leadsAll_146 rfl (lv_at hl 3 rfl) ?_
        refine lv_iload hx hb dX12_leadsAll_147 (lv_at hl 5 rfl) ?_
        refine lv_iadd hx hb dX12_leadsAll_149 ?_
        obtain ⟨h15, hq⟩ := hq
        obtain ⟨h16, hq⟩ := hq
        refine q_iald C hw hw.2.2.1 h15 h16 dX12_leadsAll_150 ?_
        refine r_callV (T := TX12) (N := 67) (ci := 12) (index := 228) (n := 2) (d2 := d_X12_leads) (mc := 0) (ms := 0) (As := [.int x7, .int (mI M q13 (Int32.toNatClampNeg (x3 + x5)))]) (rest := []) C hw (hr_X12_leads hq).2 kvX12_228 (hr_X12_leads (l := l) hq).1 (by decide) rfl ⟨by simp only [rmo]; omega, by simp only [rmo]; omega⟩ ⟨Nat.le_refl _, Nat.le_refl _⟩ rfl hl.1 rfl (Nat.le_of_ble_eq_true rfl) dX12_leadsAll_151 (fun r M18 H locs hp hle hw => ?_)
        obtain ⟨v17, rfl, hq⟩ := hp
        refine W.eq (g2 := F0 m 154 ls [.int v17]) rfl ?_
        refine lv_istore (lv' := [(8, .int v17), (0, .ref a0), (1, .int p1), (2, .int p2), (3, .int x3), (4, .int x4), (5, .int x5), (6, .int x6), (7, .int x7)]) hx hb dX12_leadsAll_154 hl (by decide) rfl (fun ls hl => ?_)
        refine lv_aload_n hx hb dX12_leadsAll_156 rfl (lv_at hl 1 rfl) ?_
        obtain ⟨q19, e20, hq⟩ := hq
        refine gfX12_51 C hw hw.2.2.1 h0 e20 dX12_leadsAll_157 ?_
        refine lv_iload_n hx hb dX12_leadsAll_160 rfl (lv_at hl 4 rfl) ?_
        refine lv_iload hx hb dX12_leadsAll_161 (lv_at hl 6 rfl) ?_
        refine lv_iconst (v := 1) hx hb dX12_leadsAll_163 (by decide) ?_
        refine lv_iload hx hb dX12_leadsAll_164 (lv_at hl 7 rfl) ?_
        refine lv_ishl hx hb dX12_leadsAll_166 ?_
        refine lv_ior hx hb dX12_leadsAll_167 ?_
        refine lv_iadd hx hb dX12_leadsAll_168 ?_
        refine lv_dup2_11 hx hb dX12_leadsAll_169 rfl rfl ?_
        obtain ⟨h21, hq⟩ := hq
        obtain ⟨h22, hq⟩ := hq
        refine q_iald C hw hw.2.2.1 h21 h22 dX12_leadsAll_170 ?_
        refine lv_iload hx hb dX12_leadsAll_171 (lv_at hl 0 rfl) ?_
        refine lv_ior hx hb dX12_leadsAll_173 ?_
        refine q_iast C hw hw.2.2.1 h21 h22 dX12_leadsAll_174 (fun H locs hw => ?_)
        generalize e24 : uI M18 q19 (Int32.toNatClampNeg (x3 + (x5 ||| (1 <<< (x6 &&& 31))))) ((mI M18 q19 (Int32.toNatClampNeg (x3 + (x5 ||| (1 <<< (x6 &&& 31)))))) ||| v17) = M23 at hw
        replace hq := hq M23 e24.symm
        have e20 : mR M23 a0 27 = some q19 := by rw [← e24, mR_uI]; exact e20
        refine lv_iinc (v := (x6 + 1)) (lv' := [(6, .int (x6 + 1)), (8, .int v17), (0, .ref a0), (1, .int p1), (2, .int p2), (3, .int x3), (4, .int x4), (5, .int x5), (7, .int x7)]) hx hb dX12_leadsAll_175 hl (k := 7) rfl rfl (by decide) rfl (fun ls hl => ?_)
        refine lv_aload_n hx hb dX12_leadsAll_178 rfl (lv_at hl 2 rfl) ?_
        obtain ⟨q25, e26, hq⟩ := hq
        refine gfX12_19 C hw hw.2.2.1 h0 e26 dX12_leadsAll_179 ?_
        refine lv_iload hx hb dX12_leadsAll_182 (lv_at hl 8 rfl) ?_
        obtain ⟨h27, hq⟩ := hq
        obtain ⟨h28, hq⟩ := hq
        refine q_iald C hw hw.2.2.1 h27 h28 dX12_leadsAll_184 ?_
        refine lv_istore (lv' := [(7, .int (mI M23 q25 (Int32.toNatClampNeg x7))), (6, .int (x6 + 1)), (8, .int v17), (0, .ref a0), (1, .int p1), (2, .int p2), (3, .int x3), (4, .int x4), (5, .int x5)]) hx hb dX12_leadsAll_185 hl (by decide) rfl (fun ls hl => ?_)
        refine lv_goto (tgt := 123) hx hb dX12_leadsAll_187 (by decide) ?_
        exact hk123 _ _ _ _ _ _ _ _ _ hq hw (lv_sub hl [3, 4, 5, 6, 7, 8, 1, 0] rfl)
set_option maxHeartbeats 4000000 in
set_option maxRecDepth 100000 in
theorem lp_X12_leadsAll_88 {l : Launch} {g : Gh} {p : Program} {e : Env} {s : State} {m : MethodId} {args : Array Value} {below : List Frame} {meth : Method} {c : Code} {M0 : Mem} {a0 : Nat} {p1 : Int32} {p2 : Int32} {post : Int32 → Mem → Prop} {d : Nat} {w_X12_leads : Gh → Mem → Nat → Int32 → Int32 → (Int32 → Mem → Prop) → Prop} {d_X12_leads : Nat} (hd_X12_leads : d_X12_leads ≤ d) (hr_X12_leads : ∀ {l : Launch} {g : Gh} {M0 : Mem} {a0 : Nat} {p1 : Int32} {p2 : Int32} {post : Int32 → Mem → Prop}, w_X12_leads g M0 a0 p1 p2 post → okc (gB g) M0 a0 12 ∧ Ct l g yX12_leads cX12_leads 5 (some .int) d_X12_leads 0 0 [.ref a0, .int p1, .int p2] M0 (pI post)) (C : Cx g p s m args c cX12_leadsAll 9 RX12) (hr : meth.sig.returnType = (some .int)) (hlk : meth.locks = false) (hn : meth.name = "leadsAll") (h0 : okc (gB g) M0 a0 12)  : ∀ (nf : Nat) (x3 : Int32) (x4 : Int32) (x5 : Int32)  (M : Mem) (H : Heap) (locs : List Loc) (ls : Array Slot), lfp (fun bk z => bd_X12_leadsAll_88 w_X12_leads g M0 a0 p1 p2 post  bk z.1 z.2.1 z.2.2.1 z.2.2.2) nf (x3, x4, x5, M) → Wd g s M0 M H locs → lv_has ls 9 [(0, .ref a0), (1, .int p1), (2, .int p2), (3, .int x3), (4, .int x4), (5, .int x5)] → W p l e (rmo (d + 8) 0 0) s m args below meth c H locs 0 0 (MQ below (Cq g M0 (pI post)) args s 0 0 (gA g)) (F0 m 88 ls []) := by
  have hx := C.1.1
  have hb := C.1.2.1
  intro nf
  induction nf with
  | zero => intro _ _ _ _ H locs ls hq; exact hq.elim
  | succ nf hk88 =>
    intro x3 x4 x5 M H locs ls hq hw hl
    replace hq : bd_X12_leadsAll_88 w_X12_leads g M0 a0 p1 p2 post  (lfp (fun bk z => bd_X12_leadsAll_88 w_X12_leads g M0 a0 p1 p2 post  bk z.1 z.2.1 z.2.2.1 z.2.2.2) nf) x3 x4 x5 M := hq
    unfold bd_X12_leadsAll_88 at hq
    refine lv_iload hx hb dX12_leadsAll_88 (lv_at hl 5 rfl) ?_
    refine lv_iconst (v := 1) hx hb dX12_leadsAll_90 (by decide) ?_
    refine lv_iload hx hb dX12_leadsAll_91 (lv_at hl 4 rfl) ?_
    refine lv_ishl hx hb dX12_leadsAll_93 ?_
    refine lv_icmp_ge (tgt := 196) hx hb dX12_leadsAll_94 (by decide) (fun c29 => ?_) (fun c29 => ?_)
    · replace hq := hq.1 c29
      exact lt_X12_leadsAll_196 hd_X12_leads hr_X12_leads C hr hlk hn h0  hq hw (lv_sub hl [0, 1, 2, 3, 4] rfl)
    · replace hq := hq.2 c29
      refine lv_aload_n hx hb dX12_leadsAll_97 rfl (lv_at hl 0 rfl) ?_
      obtain ⟨q30, e31, hq⟩ := hq
      refine gfX12_51 C hw hw.2.2.1 h0 e31 dX12_leadsAll_98 ?_
      refine lv_iload_n hx hb dX12_leadsAll_101 rfl (lv_at hl 3 rfl) ?_
      refine lv_iload hx hb dX12_leadsAll_102 (lv_at hl 5 rfl) ?_
      refine lv_iadd hx hb dX12_leadsAll_104 ?_
      obtain ⟨h32, hq⟩ := hq
      obtain ⟨h33, hq⟩ := hq
      refine q_iald C hw hw.2.2.1 h32 h33 dX12_leadsAll_105 ?_
      refine lv_if_ne (tgt := 112) hx hb dX12_leadsAll_106 (by decide) (fun c34 => ?_) (fun c34 => ?_)
      · replace hq := hq.2 c34
        refine lv_iconst (v := 0) hx hb dX12_leadsAll_112 (by decide) ?_
        refine lv_istore (lv' := [(6, .int 0), (0, .ref a0), (1, .int p1), (2, .int p2), (3, .int x3), (4, .int x4), (5, .int x5)]) hx hb dX12_leadsAll_113 hl (by decide) rfl (fun ls hl => ?_)
        refine lv_aload_n hx hb dX12_leadsAll_115 rfl (lv_at hl 1 rfl) ?_
        obtain ⟨q35, e36, hq⟩ := hq
        refine gfX12_16 C hw hw.2.2.1 h0 e36 dX12_leadsAll_116 ?_
        refine lv_iload_n hx hb dX12_leadsAll_119 rfl (lv_at hl 2 rfl) ?_
        obtain ⟨h37, hq⟩ := hq
        obtain ⟨h38, hq⟩ := hq
        refine q_iald C hw hw.2.2.1 h37 h38 dX12_leadsAll_120 ?_
        refine lv_istore (lv' := [(7, .int (mI M q35 (Int32.toNatClampNeg p1))), (6, .int 0), (0, .ref a0), (1, .int p1), (2, .int p2), (3, .int x3), (4, .int x4), (5, .int x5)]) hx hb dX12_leadsAll_121 hl (by decide) rfl (fun ls hl => ?_)
        obtain ⟨nf, hq⟩ := hq
        exact lp_X12_leadsAll_123 hd_X12_leads hr_X12_leads C hr hlk hn h0 hk88 nf _ _ _ _ _ _ _ _ _ hq hw (lv_sub hl [2, 3, 4, 5, 6, 7, 1, 0] rfl)
      · replace hq := hq.1 c34
        refine lv_goto (tgt := 190) hx hb dX12_leadsAll_109 (by decide) ?_
        refine lv_iinc (v := (x5 + 1)) (lv' := [(5, .int (x5 + 1)), (0, .ref a0), (1, .int p1), (2, .int p2), (3, .int x3), (4, .int x4)]) hx hb dX12_leadsAll_190 hl (k := 5) rfl rfl (by decide) rfl (fun ls hl => ?_)
        refine lv_goto (tgt := 88) hx hb dX12_leadsAll_193 (by decide) ?_
        exact hk88 _ _ _ _ _ _ _ hq hw (lv_sub hl [1, 2, 3, 4, 5, 0] rfl)
set_option maxHeartbeats 4000000 in
set_option maxRecDepth 100000 in
theorem lt_X12_leadsAll_78 {l : Launch} {g : Gh} {p : Program} {e : Env} {s : State} {m : MethodId} {args : Array Value} {below : List Frame} {meth : Method} {c : Code} {H : Heap} {locs : List Loc} {ls : Array Slot} {M0 M : Mem} {a0 : Nat} {p1 : Int32} {p2 : Int32} {post : Int32 → Mem → Prop} {x3 : Int32} {x4 : Int32}  {d : Nat} {w_X12_leads : Gh → Mem → Nat → Int32 → Int32 → (Int32 → Mem → Prop) → Prop} {d_X12_leads : Nat} (hd_X12_leads : d_X12_leads ≤ d) (hr_X12_leads : ∀ {l : Launch} {g : Gh} {M0 : Mem} {a0 : Nat} {p1 : Int32} {p2 : Int32} {post : Int32 → Mem → Prop}, w_X12_leads g M0 a0 p1 p2 post → okc (gB g) M0 a0 12 ∧ Ct l g yX12_leads cX12_leads 5 (some .int) d_X12_leads 0 0 [.ref a0, .int p1, .int p2] M0 (pI post)) (C : Cx g p s m args c cX12_leadsAll 9 RX12) (hr : meth.sig.returnType = (some .int)) (hlk : meth.locks = false) (hn : meth.name = "leadsAll") (h0 : okc (gB g) M0 a0 12)  (hq : lb_X12_leadsAll_78 w_X12_leads g M0 a0 p1 p2 post  x3 x4 M) (hw : Wd g s M0 M H locs) (hl : lv_has ls 9 [(0, .ref a0), (1, .int p1), (2, .int p2), (3, .int x3), (4, .int x4)]) : W p l e (rmo (d + 8) 0 0) s m args below meth c H locs 0 0 (MQ below (Cq g M0 (pI post)) args s 0 0 (gA g)) (F0 m 78 ls []) := by
  have hx := C.1.1
  have hb := C.1.2.1
  unfold lb_X12_leadsAll_78 at hq
  refine lv_aload_n hx hb dX12_leadsAll_78 rfl (lv_at hl 0 rfl) ?_
  obtain ⟨q39, e40, hq⟩ := hq
  refine gfX12_51 C hw hw.2.2.1 h0 e40 dX12_leadsAll_79 ?_
  refine lv_iload_n hx hb dX12_leadsAll_82 rfl (lv_at hl 3 rfl) ?_
  refine lv_iload_n hx hb dX12_leadsAll_83 rfl (lv_at hl 2 rfl) ?_
  obtain ⟨h41, hq⟩ := hq
  obtain ⟨h42, hq⟩ := hq
  refine q_iast C hw hw.2.2.1 h41 h42 dX12_leadsAll_84 (fun H locs hw => ?_)
  generalize e44 : uI M q39 (Int32.toNatClampNeg x3) p2 = M43 at hw
  replace hq := hq M43 e44.symm
  have e40 : mR M43 a0 27 = some q39 := by rw [← e44, mR_uI]; exact e40
  refine lv_iconst (v := 0) hx hb dX12_leadsAll_85 (by decide) ?_
  refine lv_istore (lv' := [(5, .int 0), (0, .ref a0), (1, .int p1), (2, .int p2), (3, .int x3), (4, .int x4)]) hx hb dX12_leadsAll_86 hl (by decide) rfl (fun ls hl => ?_)
  obtain ⟨nf, hq⟩ := hq
  exact lp_X12_leadsAll_88 hd_X12_leads hr_X12_leads C hr hlk hn h0  nf _ _ _ _ _ _ _ hq hw (lv_sub hl [1, 2, 3, 4, 5, 0] rfl)
set_option maxHeartbeats 4000000 in
set_option maxRecDepth 100000 in
theorem lp_X12_leadsAll_53 {l : Launch} {g : Gh} {p : Program} {e : Env} {s : State} {m : MethodId} {args : Array Value} {below : List Frame} {meth : Method} {c : Code} {M0 : Mem} {a0 : Nat} {p1 : Int32} {p2 : Int32} {post : Int32 → Mem → Prop} {d : Nat} {w_X12_leads : Gh → Mem → Nat → Int32 → Int32 → (Int32 → Mem → Prop) → Prop} {d_X12_leads : Nat} (hd_X12_leads : d_X12_leads ≤ d) (hr_X12_leads : ∀ {l : Launch} {g : Gh} {M0 : Mem} {a0 : Nat} {p1 : Int32} {p2 : Int32} {post : Int32 → Mem → Prop}, w_X12_leads g M0 a0 p1 p2 post → okc (gB g) M0 a0 12 ∧ Ct l g yX12_leads cX12_leads 5 (some .int) d_X12_leads 0 0 [.ref a0, .int p1, .int p2] M0 (pI post)) (C : Cx g p s m args c cX12_leadsAll 9 RX12) (hr : meth.sig.returnType = (some .int)) (hlk : meth.locks = false) (hn : meth.name = "leadsAll") (h0 : okc (gB g) M0 a0 12)  : ∀ (nf : Nat) (x3 : Int32) (x4 : Int32) (x5 : Int32)  (M : Mem) (H : Heap) (locs : List Loc) (ls : Array Slot), lfp (fun bk z => bd_X12_leadsAll_53 w_X12_leads g M0 a0 p1 p2 post  bk z.1 z.2.1 z.2.2.1 z.2.2.2) nf (x3, x4, x5, M) → Wd g s M0 M H locs → lv_has ls 9 [(0, .ref a0), (1, .int p1), (2, .int p2), (3, .int x3), (4, .int x4), (5, .int x5)] → W p l e (rmo (d + 8) 0 0) s m args below meth c H locs 0 0 (MQ below (Cq g M0 (pI post)) args s 0 0 (gA g)) (F0 m 53 ls []) := by
  have hx := C.1.1
  have hb := C.1.2.1
  intro nf
  induction nf with
  | zero => intro _ _ _ _ H locs ls hq; exact hq.elim
  | succ nf hk53 =>
    intro x3 x4 x5 M H locs ls hq hw hl
    replace hq : bd_X12_leadsAll_53 w_X12_leads g M0 a0 p1 p2 post  (lfp (fun bk z => bd_X12_leadsAll_53 w_X12_leads g M0 a0 p1 p2 post  bk z.1 z.2.1 z.2.2.1 z.2.2.2) nf) x3 x4 x5 M := hq
    unfold bd_X12_leadsAll_53 at hq
    refine lv_iload hx hb dX12_leadsAll_53 (lv_at hl 5 rfl) ?_
    refine lv_iconst (v := 1) hx hb dX12_leadsAll_55 (by decide) ?_
    refine lv_iload hx hb dX12_leadsAll_56 (lv_at hl 4 rfl) ?_
    refine lv_ishl hx hb dX12_leadsAll_58 ?_
    refine lv_icmp_ge (tgt := 78) hx hb dX12_leadsAll_59 (by decide) (fun c45 => ?_) (fun c45 => ?_)
    · replace hq := hq.1 c45
      exact lt_X12_leadsAll_78 hd_X12_leads hr_X12_leads C hr hlk hn h0  hq hw (lv_sub hl [0, 1, 2, 3, 4] rfl)
    · replace hq := hq.2 c45
      refine lv_aload_n hx hb dX12_leadsAll_62 rfl (lv_at hl 0 rfl) ?_
      obtain ⟨q46, e47, hq⟩ := hq
      refine gfX12_51 C hw hw.2.2.1 h0 e47 dX12_leadsAll_63 ?_
      refine lv_iload_n hx hb dX12_leadsAll_66 rfl (lv_at hl 3 rfl) ?_
      refine lv_iload hx hb dX12_leadsAll_67 (lv_at hl 5 rfl) ?_
      refine lv_iadd hx hb dX12_leadsAll_69 ?_
      refine lv_iconst (v := 0) hx hb dX12_leadsAll_70 (by decide) ?_
      obtain ⟨h48, hq⟩ := hq
      obtain ⟨h49, hq⟩ := hq
      refine q_iast C hw hw.2.2.1 h48 h49 dX12_leadsAll_71 (fun H locs hw => ?_)
      generalize e51 : uI M q46 (Int32.toNatClampNeg (x3 + x5)) 0 = M50 at hw
      replace hq := hq M50 e51.symm
      have e47 : mR M50 a0 27 = some q46 := by rw [← e51, mR_uI]; exact e47
      refine lv_iinc (v := (x5 + 1)) (lv' := [(5, .int (x5 + 1)), (0, .ref a0), (1, .int p1), (2, .int p2), (3, .int x3), (4, .int x4)]) hx hb dX12_leadsAll_72 hl (k := 5) rfl rfl (by decide) rfl (fun ls hl => ?_)
      refine lv_goto (tgt := 53) hx hb dX12_leadsAll_75 (by decide) ?_
      exact hk53 _ _ _ _ _ _ _ hq hw (lv_sub hl [1, 2, 3, 4, 5, 0] rfl)
set_option maxHeartbeats 4000000 in
set_option maxRecDepth 100000 in
theorem lp_X12_leadsAll_29 {l : Launch} {g : Gh} {p : Program} {e : Env} {s : State} {m : MethodId} {args : Array Value} {below : List Frame} {meth : Method} {c : Code} {M0 : Mem} {a0 : Nat} {p1 : Int32} {p2 : Int32} {post : Int32 → Mem → Prop} {d : Nat} {w_X12_leads : Gh → Mem → Nat → Int32 → Int32 → (Int32 → Mem → Prop) → Prop} {d_X12_leads : Nat} (hd_X12_leads : d_X12_leads ≤ d) (hr_X12_leads : ∀ {l : Launch} {g : Gh} {M0 : Mem} {a0 : Nat} {p1 : Int32} {p2 : Int32} {post : Int32 → Mem → Prop}, w_X12_leads g M0 a0 p1 p2 post → okc (gB g) M0 a0 12 ∧ Ct l g yX12_leads cX12_leads 5 (some .int) d_X12_leads 0 0 [.ref a0, .int p1, .int p2] M0 (pI post)) (C : Cx g p s m args c cX12_leadsAll 9 RX12) (hr : meth.sig.returnType = (some .int)) (hlk : meth.locks = false) (hn : meth.name = "leadsAll") (h0 : okc (gB g) M0 a0 12)  : ∀ (nf : Nat) (x3 : Int32) (x4 : Int32) (x5 : Int32)  (M : Mem) (H : Heap) (locs : List Loc) (ls : Array Slot), lfp (fun bk z => bd_X12_leadsAll_29 w_X12_leads g M0 a0 p1 p2 post  bk z.1 z.2.1 z.2.2.1 z.2.2.2) nf (x3, x4, x5, M) → Wd g s M0 M H locs → lv_has ls 9 [(0, .ref a0), (1, .int p1), (2, .int p2), (3, .int x3), (4, .int x4), (5, .int x5)] → W p l e (rmo (d + 8) 0 0) s m args below meth c H locs 0 0 (MQ below (Cq g M0 (pI post)) args s 0 0 (gA g)) (F0 m 29 ls []) := by
  have hx := C.1.1
  have hb := C.1.2.1
  intro nf
  induction nf with
  | zero => intro _ _ _ _ H locs ls hq; exact hq.elim
  | succ nf hk29 =>
    intro x3 x4 x5 M H locs ls hq hw hl
    replace hq : bd_X12_leadsAll_29 w_X12_leads g M0 a0 p1 p2 post  (lfp (fun bk z => bd_X12_leadsAll_29 w_X12_leads g M0 a0 p1 p2 post  bk z.1 z.2.1 z.2.2.1 z.2.2.2) nf) x3 x4 x5 M := hq
    unfold bd_X12_leadsAll_29 at hq
    refine lv_iload hx hb dX12_leadsAll_29 (lv_at hl 5 rfl) ?_
    refine lv_iconst (v := (-1)) hx hb dX12_leadsAll_31 (by decide) ?_
    refine lv_icmp_eq (tgt := 50) hx hb dX12_leadsAll_32 (by decide) (fun c52 => ?_) (fun c52 => ?_)
    · replace hq := hq.1 c52
      refine lv_iconst (v := 1) hx hb dX12_leadsAll_50 (by decide) ?_
      refine lv_istore (lv' := [(5, .int 1), (0, .ref a0), (1, .int p1), (2, .int p2), (3, .int x3), (4, .int x4)]) hx hb dX12_leadsAll_51 hl (by decide) rfl (fun ls hl => ?_)
      obtain ⟨nf, hq⟩ := hq
      exact lp_X12_leadsAll_53 hd_X12_leads hr_X12_leads C hr hlk hn h0  nf _ _ _ _ _ _ _ hq hw (lv_sub hl [1, 2, 3, 4, 5, 0] rfl)
    · replace hq := hq.2 c52
      refine lv_iinc (v := (x4 + 1)) (lv' := [(4, .int (x4 + 1)), (0, .ref a0), (1, .int p1), (2, .int p2), (3, .int x3), (5, .int x5)]) hx hb dX12_leadsAll_35 hl (k := 4) rfl rfl (by decide) rfl (fun ls hl => ?_)
      refine lv_aload_n hx hb dX12_leadsAll_38 rfl (lv_at hl 1 rfl) ?_
      obtain ⟨q53, e54, hq⟩ := hq
      refine gfX12_19 C hw hw.2.2.1 h0 e54 dX12_leadsAll_39 ?_
      refine lv_iload hx hb dX12_leadsAll_42 (lv_at hl 5 rfl) ?_
      obtain ⟨h55, hq⟩ := hq
      obtain ⟨h56, hq⟩ := hq
      refine q_iald C hw hw.2.2.1 h55 h56 dX12_leadsAll_44 ?_
      refine lv_istore (lv' := [(5, .int (mI M q53 (Int32.toNatClampNeg x5))), (4, .int (x4 + 1)), (0, .ref a0), (1, .int p1), (2, .int p2), (3, .int x3)]) hx hb dX12_leadsAll_45 hl (by decide) rfl (fun ls hl => ?_)
      refine lv_goto (tgt := 29) hx hb dX12_leadsAll_47 (by decide) ?_
      exact hk29 _ _ _ _ _ _ _ hq hw (lv_sub hl [2, 3, 4, 5, 1, 0] rfl)
set_option maxHeartbeats 4000000 in
set_option maxRecDepth 100000 in
theorem ct_X12_leadsAll {l : Launch} {g : Gh} {M0 : Mem} {a0 : Nat} {p1 : Int32} {p2 : Int32} {post : Int32 → Mem → Prop} {d : Nat} {w_X12_leads : Gh → Mem → Nat → Int32 → Int32 → (Int32 → Mem → Prop) → Prop} {d_X12_leads : Nat} (hd_X12_leads : d_X12_leads ≤ d) (hr_X12_leads : ∀ {l : Launch} {g : Gh} {M0 : Mem} {a0 : Nat} {p1 : Int32} {p2 : Int32} {post : Int32 → Mem → Prop}, w_X12_leads g M0 a0 p1 p2 post → okc (gB g) M0 a0 12 ∧ Ct l g yX12_leads cX12_leads 5 (some .int) d_X12_leads 0 0 [.ref a0, .int p1, .int p2] M0 (pI post)) (hq : wp_X12_leadsAll w_X12_leads g M0 a0 p1 p2 post) : Ct l g yX12_leadsAll cX12_leadsAll 9 (some .int) (d + 8) 0 0 [.ref a0, .int p1, .int p2] M0 (pI post) := by
  unfold wp_X12_leadsAll at hq
  obtain ⟨h0, hq⟩ := hq
  refine Ct.of (by decide) (Nat.le_of_ble_eq_true rfl) ?_
  intro p e s m below meth c ls C hr hlk hn hl hw
  have hx := C.1.1
  have hb := C.1.2.1
  have hl : lv_has ls 9 [(0, .ref a0), (1, .int p1), (2, .int p2)] := hl
  refine lv_bipush (v := 32) hx hb dX12_leadsAll_0 (by decide) ?_
  refine lv_aload_n hx hb dX12_leadsAll_2 rfl (lv_at hl 0 rfl) ?_
  refine gfX12_235 C hw hw.2.2.1 h0 dX12_leadsAll_3 ?_
  refine lv_imul hx hb dX12_leadsAll_6 ?_
  refine lv_istore_n (lv' := [(3, .int (32 * (mI M0 a0 28))), (0, .ref a0), (1, .int p1), (2, .int p2)]) hx hb dX12_leadsAll_7 rfl hl (by decide) rfl (fun ls hl => ?_)
  refine lv_aload_n hx hb dX12_leadsAll_8 rfl (lv_at hl 1 rfl) ?_
  refine lv_dup hx hb dX12_leadsAll_9 rfl ?_
  refine gfX12_235 C hw hw.2.2.1 h0 dX12_leadsAll_10 ?_
  refine lv_iconst (v := 1) hx hb dX12_leadsAll_13 (by decide) ?_
  refine lv_iadd hx hb dX12_leadsAll_14 ?_
  refine pfX12_235 C hw hw.2.2.1 h0 dX12_leadsAll_15 (fun H locs hw => ?_)
  generalize e58 : uI M0 a0 28 ((mI M0 a0 28) + 1) = M57 at hw
  replace hq := hq M57 e58.symm
  refine lv_iconst (v := 0) hx hb dX12_leadsAll_18 (by decide) ?_
  refine lv_istore (lv' := [(4, .int 0), (3, .int (32 * (mI M0 a0 28))), (0, .ref a0), (1, .int p1), (2, .int p2)]) hx hb dX12_leadsAll_19 hl (by decide) rfl (fun ls hl => ?_)
  refine lv_aload_n hx hb dX12_leadsAll_21 rfl (lv_at hl 2 rfl) ?_
  obtain ⟨q59, e60, hq⟩ := hq
  refine gfX12_16 C hw hw.2.2.1 h0 e60 dX12_leadsAll_22 ?_
  refine lv_iload_n hx hb dX12_leadsAll_25 rfl (lv_at hl 3 rfl) ?_
  obtain ⟨h61, hq⟩ := hq
  obtain ⟨h62, hq⟩ := hq
  refine q_iald C hw hw.2.2.1 h61 h62 dX12_leadsAll_26 ?_
  refine lv_istore (lv' := [(5, .int (mI M57 q59 (Int32.toNatClampNeg p1))), (4, .int 0), (3, .int (32 * (mI M0 a0 28))), (0, .ref a0), (1, .int p1), (2, .int p2)]) hx hb dX12_leadsAll_27 hl (by decide) rfl (fun ls hl => ?_)
  obtain ⟨nf, hq⟩ := hq
  exact lp_X12_leadsAll_29 hd_X12_leads hr_X12_leads C hr hlk hn h0  nf _ _ _ _ _ _ _ hq hw (lv_sub hl [3, 4, 5, 2, 1, 0] rfl)

set_option maxRecDepth 100000 in
def lb_X12_leads_213 (w_X12_leads : Gh → Mem → Nat → Int32 → Int32 → (Int32 → Mem → Prop) → Prop) (w_X12_leadsAll : Gh → Mem → Nat → Int32 → Int32 → (Int32 → Mem → Prop) → Prop) (g : Gh) (M0 : Mem) (a0 : Nat) (p1 : Int32) (p2 : Int32) (post : Int32 → Mem → Prop) (bk172 : Int32 × Int32 × Mem → Prop) (x3 : Int32) (x4 : Int32) (s0 : Int32) (s1 : Int32) (M : Mem) : Prop :=
  ((s0 = s1) → ∃ q2, mR M a0 25 = some q2 ∧ (okc (gB g) M0 q2 15 ∧ (vp_in x4 (mN M0 q2) ∧ (∃ q6, mR M a0 14 = some q6 ∧ (okc (gB g) M0 q6 15 ∧ (vp_in p1 (mN M0 q6) ∧ ((((lg_cmp (mJ M q2 (Int32.toNatClampNeg x4)) (mJ M q6 (Int32.toNatClampNeg p1))) < 0) → bk172 (x3, (x4 + 1), M)) ∧ (¬ ((lg_cmp (mJ M q2 (Int32.toNatClampNeg x4)) (mJ M q6 (Int32.toNatClampNeg p1))) < 0) → ∃ q11, mR M a0 15 = some q11 ∧ (okc (gB g) M0 q11 15 ∧ (vp_in p1 (mN M0 q11) ∧ (((0 < (lg_cmp (mJ M q2 (Int32.toNatClampNeg x4)) (mJ M q11 (Int32.toNatClampNeg p1)))) → bk172 (x3, (x4 + 1), M)) ∧ (¬ (0 < (lg_cmp (mJ M q2 (Int32.toNatClampNeg x4)) (mJ M q11 (Int32.toNatClampNeg p1)))) → bk172 ((x3 ||| (2 <<< (x4 &&& 31))), (x4 + 1), M))))))))))))) ∧ (¬ (s0 = s1) → bk172 (x3, (x4 + 1), M))
set_option maxRecDepth 100000 in
def bd_X12_leads_172 (w_X12_leads : Gh → Mem → Nat → Int32 → Int32 → (Int32 → Mem → Prop) → Prop) (w_X12_leadsAll : Gh → Mem → Nat → Int32 → Int32 → (Int32 → Mem → Prop) → Prop) (g : Gh) (M0 : Mem) (a0 : Nat) (p1 : Int32) (p2 : Int32) (post : Int32 → Mem → Prop)  (bk172 : Int32 × Int32 × Mem → Prop) (x3 : Int32) (x4 : Int32)  (M : Mem) : Prop :=
  (((mI M a0 26) ≤ x4) → post x3 M) ∧ (¬ ((mI M a0 26) ≤ x4) → ((((p2 >>> (x4 &&& 31)) &&& 1) = 1) → ∃ q18, mR M a0 24 = some q18 ∧ (okc (gB g) M0 q18 17 ∧ (vp_in x4 (mN M0 q18) ∧ (∃ q22, mR M a0 11 = some q22 ∧ (okc (gB g) M0 q22 14 ∧ (vp_in p1 (mN M0 q22) ∧ ((((mI M q22 (Int32.toNatClampNeg p1)) = 2) → lb_X12_leads_213 w_X12_leads w_X12_leadsAll g M0 a0 p1 p2 post bk172 x3 x4 (mI M q18 (Int32.toNatClampNeg x4)) 1 M) ∧ (¬ ((mI M q22 (Int32.toNatClampNeg p1)) = 2) → lb_X12_leads_213 w_X12_leads w_X12_leadsAll g M0 a0 p1 p2 post bk172 x3 x4 (mI M q18 (Int32.toNatClampNeg x4)) 0 M)))))))) ∧ (¬ (((p2 >>> (x4 &&& 31)) &&& 1) = 1) → bk172 (x3, (x4 + 1), M)))
set_option maxRecDepth 100000 in
def bd_X12_leads_104 (w_X12_leads : Gh → Mem → Nat → Int32 → Int32 → (Int32 → Mem → Prop) → Prop) (w_X12_leadsAll : Gh → Mem → Nat → Int32 → Int32 → (Int32 → Mem → Prop) → Prop) (g : Gh) (M0 : Mem) (a0 : Nat) (p1 : Int32) (p2 : Int32) (post : Int32 → Mem → Prop)  (bk104 : Int32 × Int32 × Mem → Prop) (x3 : Int32) (x4 : Int32)  (M : Mem) : Prop :=
  ((x4 = (-1)) → post x3 M) ∧ (¬ (x4 = (-1)) → ((x3 = 0) → post x3 M) ∧ (¬ (x3 = 0) → w_X12_leads g M a0 x4 x3 (fun v29 M30 => ∃ q31, mR M30 a0 13 = some q31 ∧ (okc (gB g) M0 q31 14 ∧ (vp_in x4 (mN M0 q31) ∧ (bk104 (v29, (mI M30 q31 (Int32.toNatClampNeg x4)), M30)))))))
set_option maxRecDepth 100000 in
def bd_X12_leads_64 (w_X12_leads : Gh → Mem → Nat → Int32 → Int32 → (Int32 → Mem → Prop) → Prop) (w_X12_leadsAll : Gh → Mem → Nat → Int32 → Int32 → (Int32 → Mem → Prop) → Prop) (g : Gh) (M0 : Mem) (a0 : Nat) (p1 : Int32) (p2 : Int32) (post : Int32 → Mem → Prop)  (bk64 : Int32 × Int32 × Mem → Prop) (x3 : Int32) (x4 : Int32)  (M : Mem) : Prop :=
  ((x4 = (-1)) → post x3 M) ∧ (¬ (x4 = (-1)) → w_X12_leads g M a0 x4 p2 (fun v36 M37 => ∃ q38, mR M37 a0 13 = some q38 ∧ (okc (gB g) M0 q38 14 ∧ (vp_in x4 (mN M0 q38) ∧ (bk64 ((x3 ||| v36), (mI M37 q38 (Int32.toNatClampNeg x4)), M37))))))
set_option maxRecDepth 100000 in
def wp_X12_leads (w_X12_leads : Gh → Mem → Nat → Int32 → Int32 → (Int32 → Mem → Prop) → Prop) (w_X12_leadsAll : Gh → Mem → Nat → Int32 → Int32 → (Int32 → Mem → Prop) → Prop) (g : Gh) (M0 : Mem) (a0 : Nat) (p1 : Int32) (p2 : Int32) (post : Int32 → Mem → Prop) : Prop :=
  okc (gB g) M0 a0 12 ∧ (∃ q42, mR M0 a0 11 = some q42 ∧ (okc (gB g) M0 q42 14 ∧ (vp_in p1 (mN M0 q42) ∧ ((((mI M0 q42 (Int32.toNatClampNeg p1)) = 0) → ∃ q47, mR M0 a0 12 = some q47 ∧ (okc (gB g) M0 q47 14 ∧ (vp_in p1 (mN M0 q47) ∧ ((∃ n : Nat, lfp (fun bk z => bd_X12_leads_64 w_X12_leads w_X12_leadsAll g M0 a0 p1 p2 post  bk z.1 z.2.1 z.2.2) n (0, (mI M0 q47 (Int32.toNatClampNeg p1)), M0)))))) ∧ (((mI M0 q42 (Int32.toNatClampNeg p1)) = 1) → ∃ q51, mR M0 a0 12 = some q51 ∧ (okc (gB g) M0 q51 14 ∧ (vp_in p1 (mN M0 q51) ∧ ((∃ n : Nat, lfp (fun bk z => bd_X12_leads_104 w_X12_leads w_X12_leadsAll g M0 a0 p1 p2 post  bk z.1 z.2.1 z.2.2) n (p2, (mI M0 q51 (Int32.toNatClampNeg p1)), M0)))))) ∧ (((mI M0 q42 (Int32.toNatClampNeg p1)) = 2) → (∃ n : Nat, lfp (fun bk z => bd_X12_leads_172 w_X12_leads w_X12_leadsAll g M0 a0 p1 p2 post  bk z.1 z.2.1 z.2.2) n (0, 0, M0))) ∧ (((mI M0 q42 (Int32.toNatClampNeg p1)) = 3) → (∃ n : Nat, lfp (fun bk z => bd_X12_leads_172 w_X12_leads w_X12_leadsAll g M0 a0 p1 p2 post  bk z.1 z.2.1 z.2.2) n (0, 0, M0))) ∧ (((mI M0 q42 (Int32.toNatClampNeg p1)) = 4) → (∃ n : Nat, lfp (fun bk z => bd_X12_leads_172 w_X12_leads w_X12_leadsAll g M0 a0 p1 p2 post  bk z.1 z.2.1 z.2.2) n (0, 0, M0))) ∧ (((mI M0 q42 (Int32.toNatClampNeg p1)) = 5) → ∃ q55, mR M0 a0 12 = some q55 ∧ (okc (gB g) M0 q55 14 ∧ (vp_in p1 (mN M0 q55) ∧ (w_X12_leads g M0 a0 (mI M0 q55 (Int32.toNatClampNeg p1)) p2 (fun v59 M60 => post (p2 ||| v59) M60))))) ∧ (((mI M0 q42 (Int32.toNatClampNeg p1)) = 6) → ∃ q61, mR M0 a0 12 = some q61 ∧ (okc (gB g) M0 q61 14 ∧ (vp_in p1 (mN M0 q61) ∧ (w_X12_leads g M0 a0 (mI M0 q61 (Int32.toNatClampNeg p1)) p2 (fun v65 M66 => post v65 M66))))) ∧ (((mI M0 q42 (Int32.toNatClampNeg p1)) = 7) → w_X12_leadsAll g M0 a0 p1 p2 (fun v67 M68 => post v67 M68)) ∧ ((¬ ((mI M0 q42 (Int32.toNatClampNeg p1)) = 0) ∧ ¬ ((mI M0 q42 (Int32.toNatClampNeg p1)) = 1) ∧ ¬ ((mI M0 q42 (Int32.toNatClampNeg p1)) = 2) ∧ ¬ ((mI M0 q42 (Int32.toNatClampNeg p1)) = 3) ∧ ¬ ((mI M0 q42 (Int32.toNatClampNeg p1)) = 4) ∧ ¬ ((mI M0 q42 (Int32.toNatClampNeg p1)) = 5) ∧ ¬ ((mI M0 q42 (Int32.toNatClampNeg p1)) = 6) ∧ ¬ ((mI M0 q42 (Int32.toNatClampNeg p1)) = 7)) → (∃ n : Nat, lfp (fun bk z => bd_X12_leads_172 w_X12_leads w_X12_leadsAll g M0 a0 p1 p2 post  bk z.1 z.2.1 z.2.2) n (0, 0, M0)))))))
set_option maxHeartbeats 4000000 in
set_option maxRecDepth 100000 in
theorem lt_X12_leads_213 {l : Launch} {g : Gh} {p : Program} {e : Env} {s : State} {m : MethodId} {args : Array Value} {below : List Frame} {meth : Method} {c : Code} {H : Heap} {locs : List Loc} {ls : Array Slot} {M0 M : Mem} {a0 : Nat} {p1 : Int32} {p2 : Int32} {post : Int32 → Mem → Prop} {x3 : Int32} {x4 : Int32} {s0 : Int32} {s1 : Int32} {d : Nat} {w_X12_leads : Gh → Mem → Nat → Int32 → Int32 → (Int32 → Mem → Prop) → Prop} {d_X12_leads : Nat} (hd_X12_leads : d_X12_leads ≤ d) (hr_X12_leads : ∀ {l : Launch} {g : Gh} {M0 : Mem} {a0 : Nat} {p1 : Int32} {p2 : Int32} {post : Int32 → Mem → Prop}, w_X12_leads g M0 a0 p1 p2 post → okc (gB g) M0 a0 12 ∧ Ct l g yX12_leads cX12_leads 5 (some .int) d_X12_leads 0 0 [.ref a0, .int p1, .int p2] M0 (pI post)) {w_X12_leadsAll : Gh → Mem → Nat → Int32 → Int32 → (Int32 → Mem → Prop) → Prop} {d_X12_leadsAll : Nat} (hd_X12_leadsAll : d_X12_leadsAll ≤ d) (hr_X12_leadsAll : ∀ {l : Launch} {g : Gh} {M0 : Mem} {a0 : Nat} {p1 : Int32} {p2 : Int32} {post : Int32 → Mem → Prop}, w_X12_leadsAll g M0 a0 p1 p2 post → okc (gB g) M0 a0 12 ∧ Ct l g yX12_leadsAll cX12_leadsAll 9 (some .int) d_X12_leadsAll 0 0 [.ref a0, .int p1, .int p2] M0 (pI post)) (C : Cx g p s m args c cX12_leads 5 RX12) (hr : meth.sig.returnType = (some .int)) (hlk : meth.locks = false) (hn : meth.name = "leads") (h0 : okc (gB g) M0 a0 12) {bk172 : Int32 × Int32 × Mem → Prop} (hk172 : ∀ (x3 : Int32) (x4 : Int32) (M : Mem) (H : Heap) (locs : List Loc) (ls : Array Slot), bk172 (x3, x4, M) → Wd g s M0 M H locs → lv_has ls 5 [(0, .ref a0), (1, .int p1), (2, .int p2), (3, .int x3), (4, .int x4)] → W p l e (rmo (d + 8) 0 0) s m args below meth c H locs 0 0 (MQ below (Cq g M0 (pI post)) args s 0 0 (gA g)) (F0 m 172 ls [])) (hq : lb_X12_leads_213 w_X12_leads w_X12_leadsAll g M0 a0 p1 p2 post bk172 x3 x4 s0 s1 M) (hw : Wd g s M0 M H locs) (hl : lv_has ls 5 [(0, .ref a0), (1, .int p1), (2, .int p2), (3, .int x3), (4, .int x4)]) : W p l e (rmo (d + 8) 0 0) s m args below meth c H locs 0 0 (MQ below (Cq g M0 (pI post)) args s 0 0 (gA g)) (F0 m 213 ls [.int s1, .int s0]) := by
  have hx := C.1.1
  have hb := C.1.2.1
  unfold lb_X12_leads_213 at hq
  refine lv_icmp_ne (tgt := 257) hx hb dX12_leads_213 (by decide) (fun c1 => ?_) (fun c1 => ?_)
  · replace hq := hq.2 c1
    refine lv_iinc (v := (x4 + 1)) (lv' := [(4, .int (x4 + 1)), (0, .ref a0), (1, .int p1), (2, .int p2), (3, .int x3)]) hx hb dX12_leads_257 hl (k := 4) rfl rfl (by decide) rfl (fun ls hl => ?_)
    refine lv_goto (tgt := 172) hx hb dX12_leads_260 (by decide) ?_
    exact hk172 _ _ _ _ _ _ hq hw (lv_sub hl [1, 2, 3, 4, 0] rfl)
  · replace hq := hq.1 c1
    refine lv_aload_n hx hb dX12_leads_216 rfl (lv_at hl 0 rfl) ?_
    obtain ⟨q2, e3, hq⟩ := hq
    refine gfX12_48 C hw hw.2.2.1 h0 e3 dX12_leads_217 ?_
    refine lv_iload hx hb dX12_leads_220 (lv_at hl 4 rfl) ?_
    obtain ⟨h4, hq⟩ := hq
    obtain ⟨h5, hq⟩ := hq
    refine q_lald C hw hw.2.2.1 h4 h5 dX12_leads_222 ?_
    refine lv_aload_n hx hb dX12_leads_223 rfl (lv_at hl 0 rfl) ?_
    obtain ⟨q6, e7, hq⟩ := hq
    refine gfX12_22 C hw hw.2.2.1 h0 e7 dX12_leads_224 ?_
    refine lv_iload_n hx hb dX12_leads_227 rfl (lv_at hl 1 rfl) ?_
    obtain ⟨h8, hq⟩ := hq
    obtain ⟨h9, hq⟩ := hq
    refine q_lald C hw hw.2.2.1 h8 h9 dX12_leads_228 ?_
    refine W.lcmp hx hb dX12_leads_229 ?_
    refine lv_if_lt (tgt := 257) hx hb dX12_leads_230 (by decide) (fun c10 => ?_) (fun c10 => ?_)
    · replace hq := hq.1 c10
      refine lv_iinc (v := (x4 + 1)) (lv' := [(4, .int (x4 + 1)), (0, .ref a0), (1, .int p1), (2, .int p2), (3, .int x3)]) hx hb dX12_leads_257 hl (k := 4) rfl rfl (by decide) rfl (fun ls hl => ?_)
      refine lv_goto (tgt := 172) hx hb dX12_leads_260 (by decide) ?_
      exact hk172 _ _ _ _ _ _ hq hw (lv_sub hl [1, 2, 3, 4, 0] rfl)
    · replace hq := hq.2 c10
      refine lv_aload_n hx hb dX12_leads_233 rfl (lv_at hl 0 rfl) ?_
      refine gfX12_48 C hw hw.2.2.1 h0 e3 dX12_leads_234 ?_
      refine lv_iload hx hb dX12_leads_237 (lv_at hl 4 rfl) ?_
      refine q_lald C hw hw.2.2.1 h4 h5 dX12_leads_239 ?_
      refine lv_aload_n hx hb dX12_leads_240 rfl (lv_at hl 0 rfl) ?_
      obtain ⟨q11, e12, hq⟩ := hq
      refine gfX12_26 C hw hw.2.2.1 h0 e12 dX12_leads_241 ?_
      refine lv_iload_n hx hb dX12_leads_244 rfl (lv_at hl 1 rfl) ?_
      obtain ⟨h13, hq⟩ := hq
      obtain ⟨h14, hq⟩ := hq
      refine q_lald C hw hw.2.2.1 h13 h14 dX12_leads_245 ?_
      refine W.lcmp hx hb dX12_leads_246 ?_
      refine lv_if_gt (tgt := 257) hx hb dX12_leads_247 (by decide) (fun c15 => ?_) (fun c15 => ?_)
      · replace hq := hq.1 c15
        refine lv_iinc (v := (x4 + 1)) (lv' := [(4, .int (x4 + 1)), (0, .ref a0), (1, .int p1), (2, .int p2), (3, .int x3)]) hx hb dX12_leads_257 hl (k := 4) rfl rfl (by decide) rfl (fun ls hl => ?_)
        refine lv_goto (tgt := 172) hx hb dX12_leads_260 (by decide) ?_
        exact hk172 _ _ _ _ _ _ hq hw (lv_sub hl [1, 2, 3, 4, 0] rfl)
      · replace hq := hq.2 c15
        refine lv_iload_n hx hb dX12_leads_250 rfl (lv_at hl 3 rfl) ?_
        refine lv_iconst (v := 2) hx hb dX12_leads_251 (by decide) ?_
        refine lv_iload hx hb dX12_leads_252 (lv_at hl 4 rfl) ?_
        refine lv_ishl hx hb dX12_leads_254 ?_
        refine lv_ior hx hb dX12_leads_255 ?_
        refine lv_istore_n (lv' := [(3, .int (x3 ||| (2 <<< (x4 &&& 31)))), (0, .ref a0), (1, .int p1), (2, .int p2), (4, .int x4)]) hx hb dX12_leads_256 rfl hl (by decide) rfl (fun ls hl => ?_)
        refine lv_iinc (v := (x4 + 1)) (lv' := [(4, .int (x4 + 1)), (3, .int (x3 ||| (2 <<< (x4 &&& 31)))), (0, .ref a0), (1, .int p1), (2, .int p2)]) hx hb dX12_leads_257 hl (k := 4) rfl rfl (by decide) rfl (fun ls hl => ?_)
        refine lv_goto (tgt := 172) hx hb dX12_leads_260 (by decide) ?_
        exact hk172 _ _ _ _ _ _ hq hw (lv_sub hl [2, 3, 4, 1, 0] rfl)
set_option maxHeartbeats 4000000 in
set_option maxRecDepth 100000 in
theorem lp_X12_leads_172 {l : Launch} {g : Gh} {p : Program} {e : Env} {s : State} {m : MethodId} {args : Array Value} {below : List Frame} {meth : Method} {c : Code} {M0 : Mem} {a0 : Nat} {p1 : Int32} {p2 : Int32} {post : Int32 → Mem → Prop} {d : Nat} {w_X12_leads : Gh → Mem → Nat → Int32 → Int32 → (Int32 → Mem → Prop) → Prop} {d_X12_leads : Nat} (hd_X12_leads : d_X12_leads ≤ d) (hr_X12_leads : ∀ {l : Launch} {g : Gh} {M0 : Mem} {a0 : Nat} {p1 : Int32} {p2 : Int32} {post : Int32 → Mem → Prop}, w_X12_leads g M0 a0 p1 p2 post → okc (gB g) M0 a0 12 ∧ Ct l g yX12_leads cX12_leads 5 (some .int) d_X12_leads 0 0 [.ref a0, .int p1, .int p2] M0 (pI post)) {w_X12_leadsAll : Gh → Mem → Nat → Int32 → Int32 → (Int32 → Mem → Prop) → Prop} {d_X12_leadsAll : Nat} (hd_X12_leadsAll : d_X12_leadsAll ≤ d) (hr_X12_leadsAll : ∀ {l : Launch} {g : Gh} {M0 : Mem} {a0 : Nat} {p1 : Int32} {p2 : Int32} {post : Int32 → Mem → Prop}, w_X12_leadsAll g M0 a0 p1 p2 post → okc (gB g) M0 a0 12 ∧ Ct l g yX12_leadsAll cX12_leadsAll 9 (some .int) d_X12_leadsAll 0 0 [.ref a0, .int p1, .int p2] M0 (pI post)) (C : Cx g p s m args c cX12_leads 5 RX12) (hr : meth.sig.returnType = (some .int)) (hlk : meth.locks = false) (hn : meth.name = "leads") (h0 : okc (gB g) M0 a0 12)  : ∀ (nf : Nat) (x3 : Int32) (x4 : Int32)  (M : Mem) (H : Heap) (locs : List Loc) (ls : Array Slot), lfp (fun bk z => bd_X12_leads_172 w_X12_leads w_X12_leadsAll g M0 a0 p1 p2 post  bk z.1 z.2.1 z.2.2) nf (x3, x4, M) → Wd g s M0 M H locs → lv_has ls 5 [(0, .ref a0), (1, .int p1), (2, .int p2), (3, .int x3), (4, .int x4)] → W p l e (rmo (d + 8) 0 0) s m args below meth c H locs 0 0 (MQ below (Cq g M0 (pI post)) args s 0 0 (gA g)) (F0 m 172 ls []) := by
  have hx := C.1.1
  have hb := C.1.2.1
  intro nf
  induction nf with
  | zero => intro _ _ _ H locs ls hq; exact hq.elim
  | succ nf hk172 =>
    intro x3 x4 M H locs ls hq hw hl
    replace hq : bd_X12_leads_172 w_X12_leads w_X12_leadsAll g M0 a0 p1 p2 post  (lfp (fun bk z => bd_X12_leads_172 w_X12_leads w_X12_leadsAll g M0 a0 p1 p2 post  bk z.1 z.2.1 z.2.2) nf) x3 x4 M := hq
    unfold bd_X12_leads_172 at hq
    refine lv_iload hx hb dX12_leads_172 (lv_at hl 4 rfl) ?_
    refine lv_aload_n hx hb dX12_leads_174 rfl (lv_at hl 0 rfl) ?_
    refine gfX12_225 C hw hw.2.2.1 h0 dX12_leads_175 ?_
    refine lv_icmp_ge (tgt := 263) hx hb dX12_leads_178 (by decide) (fun c16 => ?_) (fun c16 => ?_)
    · replace hq := hq.1 c16
      refine lv_iload_n hx hb dX12_leads_263 rfl (lv_at hl 3 rfl) ?_
      exact r_iret C hr hlk hw dX12_leads_264 (Nat.le_refl _) (Nat.le_refl _) ⟨_, rfl, hq⟩
    · replace hq := hq.2 c16
      refine lv_iload_n hx hb dX12_leads_181 rfl (lv_at hl 2 rfl) ?_
      refine lv_iload hx hb dX12_leads_182 (lv_at hl 4 rfl) ?_
      refine lv_ishr hx hb dX12_leads_184 ?_
      refine lv_iconst (v := 1) hx hb dX12_leads_185 (by decide) ?_
      refine lv_iand hx hb dX12_leads_186 ?_
      refine lv_iconst (v := 1) hx hb dX12_leads_187 (by decide) ?_
      refine lv_icmp_ne (tgt := 257) hx hb dX12_leads_188 (by decide) (fun c17 => ?_) (fun c17 => ?_)
      · replace hq := hq.2 c17
        refine lv_iinc (v := (x4 + 1)) (lv' := [(4, .int (x4 + 1)), (0, .ref a0), (1, .int p1), (2, .int p2), (3, .int x3)]) hx hb dX12_leads_257 hl (k := 4) rfl rfl (by decide) rfl (fun ls hl => ?_)
        refine lv_goto (tgt := 172) hx hb dX12_leads_260 (by decide) ?_
        exact hk172 _ _ _ _ _ _ hq hw (lv_sub hl [1, 2, 3, 4, 0] rfl)
      · replace hq := hq.1 c17
        refine lv_aload_n hx hb dX12_leads_191 rfl (lv_at hl 0 rfl) ?_
        obtain ⟨q18, e19, hq⟩ := hq
        refine gfX12_45 C hw hw.2.2.1 h0 e19 dX12_leads_192 ?_
        refine lv_iload hx hb dX12_leads_195 (lv_at hl 4 rfl) ?_
        obtain ⟨h20, hq⟩ := hq
        obtain ⟨h21, hq⟩ := hq
        refine q_zald C hw hw.2.2.1 h20 h21 dX12_leads_197 ?_
        refine lv_aload_n hx hb dX12_leads_198 rfl (lv_at hl 0 rfl) ?_
        obtain ⟨q22, e23, hq⟩ := hq
        refine gfX12_13 C hw hw.2.2.1 h0 e23 dX12_leads_199 ?_
        refine lv_iload_n hx hb dX12_leads_202 rfl (lv_at hl 1 rfl) ?_
        obtain ⟨h24, hq⟩ := hq
        obtain ⟨h25, hq⟩ := hq
        refine q_iald C hw hw.2.2.1 h24 h25 dX12_leads_203 ?_
        refine lv_iconst (v := 2) hx hb dX12_leads_204 (by decide) ?_
        refine lv_icmp_ne (tgt := 212) hx hb dX12_leads_205 (by decide) (fun c26 => ?_) (fun c26 => ?_)
        · replace hq := hq.2 c26
          refine lv_iconst (v := 0) hx hb dX12_leads_212 (by decide) ?_
          exact lt_X12_leads_213 hd_X12_leads hr_X12_leads hd_X12_leadsAll hr_X12_leadsAll C hr hlk hn h0 hk172 hq hw (lv_sub hl [0, 1, 2, 3, 4] rfl)
        · replace hq := hq.1 c26
          refine lv_iconst (v := 1) hx hb dX12_leads_208 (by decide) ?_
          refine lv_goto (tgt := 213) hx hb dX12_leads_209 (by decide) ?_
          exact lt_X12_leads_213 hd_X12_leads hr_X12_leads hd_X12_leadsAll hr_X12_leadsAll C hr hlk hn h0 hk172 hq hw (lv_sub hl [0, 1, 2, 3, 4] rfl)
set_option maxHeartbeats 4000000 in
set_option maxRecDepth 100000 in
theorem lp_X12_leads_104 {l : Launch} {g : Gh} {p : Program} {e : Env} {s : State} {m : MethodId} {args : Array Value} {below : List Frame} {meth : Method} {c : Code} {M0 : Mem} {a0 : Nat} {p1 : Int32} {p2 : Int32} {post : Int32 → Mem → Prop} {d : Nat} {w_X12_leads : Gh → Mem → Nat → Int32 → Int32 → (Int32 → Mem → Prop) → Prop} {d_X12_leads : Nat} (hd_X12_leads : d_X12_leads ≤ d) (hr_X12_leads : ∀ {l : Launch} {g : Gh} {M0 : Mem} {a0 : Nat} {p1 : Int32} {p2 : Int32} {post : Int32 → Mem → Prop}, w_X12_leads g M0 a0 p1 p2 post → okc (gB g) M0 a0 12 ∧ Ct l g yX12_leads cX12_leads 5 (some .int) d_X12_leads 0 0 [.ref a0, .int p1, .int p2] M0 (pI post)) {w_X12_leadsAll : Gh → Mem → Nat → Int32 → Int32 → (Int32 → Mem → Prop) → Prop} {d_X12_leadsAll : Nat} (hd_X12_leadsAll : d_X12_leadsAll ≤ d) (hr_X12_leadsAll : ∀ {l : Launch} {g : Gh} {M0 : Mem} {a0 : Nat} {p1 : Int32} {p2 : Int32} {post : Int32 → Mem → Prop}, w_X12_leadsAll g M0 a0 p1 p2 post → okc (gB g) M0 a0 12 ∧ Ct l g yX12_leadsAll cX12_leadsAll 9 (some .int) d_X12_leadsAll 0 0 [.ref a0, .int p1, .int p2] M0 (pI post)) (C : Cx g p s m args c cX12_leads 5 RX12) (hr : meth.sig.returnType = (some .int)) (hlk : meth.locks = false) (hn : meth.name = "leads") (h0 : okc (gB g) M0 a0 12)  : ∀ (nf : Nat) (x3 : Int32) (x4 : Int32)  (M : Mem) (H : Heap) (locs : List Loc) (ls : Array Slot), lfp (fun bk z => bd_X12_leads_104 w_X12_leads w_X12_leadsAll g M0 a0 p1 p2 post  bk z.1 z.2.1 z.2.2) nf (x3, x4, M) → Wd g s M0 M H locs → lv_has ls 5 [(0, .ref a0), (1, .int p1), (2, .int p2), (3, .int x3), (4, .int x4)] → W p l e (rmo (d + 8) 0 0) s m args below meth c H locs 0 0 (MQ below (Cq g M0 (pI post)) args s 0 0 (gA g)) (F0 m 104 ls []) := by
  have hx := C.1.1
  have hb := C.1.2.1
  intro nf
  induction nf with
  | zero => intro _ _ _ H locs ls hq; exact hq.elim
  | succ nf hk104 =>
    intro x3 x4 M H locs ls hq hw hl
    replace hq : bd_X12_leads_104 w_X12_leads w_X12_leadsAll g M0 a0 p1 p2 post  (lfp (fun bk z => bd_X12_leads_104 w_X12_leads w_X12_leadsAll g M0 a0 p1 p2 post  bk z.1 z.2.1 z.2.2) nf) x3 x4 M := hq
    unfold bd_X12_leads_104 at hq
    refine lv_iload hx hb dX12_leads_104 (lv_at hl 4 rfl) ?_
    refine lv_iconst (v := (-1)) hx hb dX12_leads_106 (by decide) ?_
    refine lv_icmp_eq (tgt := 134) hx hb dX12_leads_107 (by decide) (fun c27 => ?_) (fun c27 => ?_)
    · replace hq := hq.1 c27
      refine lv_iload_n hx hb dX12_leads_134 rfl (lv_at hl 3 rfl) ?_
      exact r_iret C hr hlk hw dX12_leads_135 (Nat.le_refl _) (Nat.le_refl _) ⟨_, rfl, hq⟩
    · replace hq := hq.2 c27
      refine lv_iload_n hx hb dX12_leads_110 rfl (lv_at hl 3 rfl) ?_
      refine lv_if_eq (tgt := 134) hx hb dX12_leads_111 (by decide) (fun c28 => ?_) (fun c28 => ?_)
      · replace hq := hq.1 c28
        refine lv_iload_n hx hb dX12_leads_134 rfl (lv_at hl 3 rfl) ?_
        exact r_iret C hr hlk hw dX12_leads_135 (Nat.le_refl _) (Nat.le_refl _) ⟨_, rfl, hq⟩
      · replace hq := hq.2 c28
        refine lv_aload_n hx hb dX12_leads_114 rfl (lv_at hl 0 rfl) ?_
        refine lv_iload hx hb dX12_leads_115 (lv_at hl 4 rfl) ?_
        refine lv_iload_n hx hb dX12_leads_117 rfl (lv_at hl 3 rfl) ?_
        refine r_callV (T := TX12) (N := 67) (ci := 12) (index := 228) (n := 2) (d2 := d_X12_leads) (mc := 0) (ms := 0) (As := [.int x4, .int x3]) (rest := []) C hw (hr_X12_leads hq).2 kvX12_228 (hr_X12_leads (l := l) hq).1 (by decide) rfl ⟨by simp only [rmo]; omega, by simp only [rmo]; omega⟩ ⟨Nat.le_refl _, Nat.le_refl _⟩ rfl hl.1 rfl (Nat.le_of_ble_eq_true rfl) dX12_leads_118 (fun r M30 H locs hp hle hw => ?_)
        obtain ⟨v29, rfl, hq⟩ := hp
        refine W.eq (g2 := F0 m 121 ls [.int v29]) rfl ?_
        refine lv_istore_n (lv' := [(3, .int v29), (0, .ref a0), (1, .int p1), (2, .int p2), (4, .int x4)]) hx hb dX12_leads_121 rfl hl (by decide) rfl (fun ls hl => ?_)
        refine lv_aload_n hx hb dX12_leads_122 rfl (lv_at hl 1 rfl) ?_
        obtain ⟨q31, e32, hq⟩ := hq
        refine gfX12_19 C hw hw.2.2.1 h0 e32 dX12_leads_123 ?_
        refine lv_iload hx hb dX12_leads_126 (lv_at hl 4 rfl) ?_
        obtain ⟨h33, hq⟩ := hq
        obtain ⟨h34, hq⟩ := hq
        refine q_iald C hw hw.2.2.1 h33 h34 dX12_leads_128 ?_
        refine lv_istore (lv' := [(4, .int (mI M30 q31 (Int32.toNatClampNeg x4))), (3, .int v29), (0, .ref a0), (1, .int p1), (2, .int p2)]) hx hb dX12_leads_129 hl (by decide) rfl (fun ls hl => ?_)
        refine lv_goto (tgt := 104) hx hb dX12_leads_131 (by decide) ?_
        exact hk104 _ _ _ _ _ _ hq hw (lv_sub hl [2, 3, 4, 1, 0] rfl)
set_option maxHeartbeats 4000000 in
set_option maxRecDepth 100000 in
theorem lp_X12_leads_64 {l : Launch} {g : Gh} {p : Program} {e : Env} {s : State} {m : MethodId} {args : Array Value} {below : List Frame} {meth : Method} {c : Code} {M0 : Mem} {a0 : Nat} {p1 : Int32} {p2 : Int32} {post : Int32 → Mem → Prop} {d : Nat} {w_X12_leads : Gh → Mem → Nat → Int32 → Int32 → (Int32 → Mem → Prop) → Prop} {d_X12_leads : Nat} (hd_X12_leads : d_X12_leads ≤ d) (hr_X12_leads : ∀ {l : Launch} {g : Gh} {M0 : Mem} {a0 : Nat} {p1 : Int32} {p2 : Int32} {post : Int32 → Mem → Prop}, w_X12_leads g M0 a0 p1 p2 post → okc (gB g) M0 a0 12 ∧ Ct l g yX12_leads cX12_leads 5 (some .int) d_X12_leads 0 0 [.ref a0, .int p1, .int p2] M0 (pI post)) {w_X12_leadsAll : Gh → Mem → Nat → Int32 → Int32 → (Int32 → Mem → Prop) → Prop} {d_X12_leadsAll : Nat} (hd_X12_leadsAll : d_X12_leadsAll ≤ d) (hr_X12_leadsAll : ∀ {l : Launch} {g : Gh} {M0 : Mem} {a0 : Nat} {p1 : Int32} {p2 : Int32} {post : Int32 → Mem → Prop}, w_X12_leadsAll g M0 a0 p1 p2 post → okc (gB g) M0 a0 12 ∧ Ct l g yX12_leadsAll cX12_leadsAll 9 (some .int) d_X12_leadsAll 0 0 [.ref a0, .int p1, .int p2] M0 (pI post)) (C : Cx g p s m args c cX12_leads 5 RX12) (hr : meth.sig.returnType = (some .int)) (hlk : meth.locks = false) (hn : meth.name = "leads") (h0 : okc (gB g) M0 a0 12)  : ∀ (nf : Nat) (x3 : Int32) (x4 : Int32)  (M : Mem) (H : Heap) (locs : List Loc) (ls : Array Slot), lfp (fun bk z => bd_X12_leads_64 w_X12_leads w_X12_leadsAll g M0 a0 p1 p2 post  bk z.1 z.2.1 z.2.2) nf (x3, x4, M) → Wd g s M0 M H locs → lv_has ls 5 [(0, .ref a0), (1, .int p1), (2, .int p2), (3, .int x3), (4, .int x4)] → W p l e (rmo (d + 8) 0 0) s m args below meth c H locs 0 0 (MQ below (Cq g M0 (pI post)) args s 0 0 (gA g)) (F0 m 64 ls []) := by
  have hx := C.1.1
  have hb := C.1.2.1
  intro nf
  induction nf with
  | zero => intro _ _ _ H locs ls hq; exact hq.elim
  | succ nf hk64 =>
    intro x3 x4 M H locs ls hq hw hl
    replace hq : bd_X12_leads_64 w_X12_leads w_X12_leadsAll g M0 a0 p1 p2 post  (lfp (fun bk z => bd_X12_leads_64 w_X12_leads w_X12_leadsAll g M0 a0 p1 p2 post  bk z.1 z.2.1 z.2.2) nf) x3 x4 M := hq
    unfold bd_X12_leads_64 at hq
    refine lv_iload hx hb dX12_leads_64 (lv_at hl 4 rfl) ?_
    refine lv_iconst (v := (-1)) hx hb dX12_leads_66 (by decide) ?_
    refine lv_icmp_eq (tgt := 92) hx hb dX12_leads_67 (by decide) (fun c35 => ?_) (fun c35 => ?_)
    · replace hq := hq.1 c35
      refine lv_iload_n hx hb dX12_leads_92 rfl (lv_at hl 3 rfl) ?_
      exact r_iret C hr hlk hw dX12_leads_93 (Nat.le_refl _) (Nat.le_refl _) ⟨_, rfl, hq⟩
    · replace hq := hq.2 c35
      refine lv_iload_n hx hb dX12_leads_70 rfl (lv_at hl 3 rfl) ?_
      refine lv_aload_n hx hb dX12_leads_71 rfl (lv_at hl 0 rfl) ?_
      refine lv_iload hx hb dX12_leads_72 (lv_at hl 4 rfl) ?_
      refine lv_iload_n hx hb dX12_leads_74 rfl (lv_at hl 2 rfl) ?_
      refine r_callV (T := TX12) (N := 67) (ci := 12) (index := 228) (n := 2) (d2 := d_X12_leads) (mc := 0) (ms := 0) (As := [.int x4, .int p2]) (rest := [.int x3]) C hw (hr_X12_leads hq).2 kvX12_228 (hr_X12_leads (l := l) hq).1 (by decide) rfl ⟨by simp only [rmo]; omega, by simp only [rmo]; omega⟩ ⟨Nat.le_refl _, Nat.le_refl _⟩ rfl hl.1 rfl (Nat.le_of_ble_eq_true rfl) dX12_leads_75 (fun r M37 H locs hp hle hw => ?_)
      obtain ⟨v36, rfl, hq⟩ := hp
      refine W.eq (g2 := F0 m 78 ls [.int v36, .int x3]) rfl ?_
      refine lv_ior hx hb dX12_leads_78 ?_
      refine lv_istore_n (lv' := [(3, .int (x3 ||| v36)), (0, .ref a0), (1, .int p1), (2, .int p2), (4, .int x4)]) hx hb dX12_leads_79 rfl hl (by decide) rfl (fun ls hl => ?_)
      refine lv_aload_n hx hb dX12_leads_80 rfl (lv_at hl 1 rfl) ?_
      obtain ⟨q38, e39, hq⟩ := hq
      refine gfX12_19 C hw hw.2.2.1 h0 e39 dX12_leads_81 ?_
      refine lv_iload hx hb dX12_leads_84 (lv_at hl 4 rfl) ?_
      obtain ⟨h40, hq⟩ := hq
      obtain ⟨h41, hq⟩ := hq
      refine q_iald C hw hw.2.2.1 h40 h41 dX12_leads_86 ?_
      refine lv_istore (lv' := [(4, .int (mI M37 q38 (Int32.toNatClampNeg x4))), (3, .int (x3 ||| v36)), (0, .ref a0), (1, .int p1), (2, .int p2)]) hx hb dX12_leads_87 hl (by decide) rfl (fun ls hl => ?_)
      refine lv_goto (tgt := 64) hx hb dX12_leads_89 (by decide) ?_
      exact hk64 _ _ _ _ _ _ hq hw (lv_sub hl [2, 3, 4, 1, 0] rfl)
set_option maxHeartbeats 4000000 in
set_option maxRecDepth 100000 in
theorem ct_X12_leads {l : Launch} {g : Gh} {M0 : Mem} {a0 : Nat} {p1 : Int32} {p2 : Int32} {post : Int32 → Mem → Prop} {d : Nat} {w_X12_leads : Gh → Mem → Nat → Int32 → Int32 → (Int32 → Mem → Prop) → Prop} {d_X12_leads : Nat} (hd_X12_leads : d_X12_leads ≤ d) (hr_X12_leads : ∀ {l : Launch} {g : Gh} {M0 : Mem} {a0 : Nat} {p1 : Int32} {p2 : Int32} {post : Int32 → Mem → Prop}, w_X12_leads g M0 a0 p1 p2 post → okc (gB g) M0 a0 12 ∧ Ct l g yX12_leads cX12_leads 5 (some .int) d_X12_leads 0 0 [.ref a0, .int p1, .int p2] M0 (pI post)) {w_X12_leadsAll : Gh → Mem → Nat → Int32 → Int32 → (Int32 → Mem → Prop) → Prop} {d_X12_leadsAll : Nat} (hd_X12_leadsAll : d_X12_leadsAll ≤ d) (hr_X12_leadsAll : ∀ {l : Launch} {g : Gh} {M0 : Mem} {a0 : Nat} {p1 : Int32} {p2 : Int32} {post : Int32 → Mem → Prop}, w_X12_leadsAll g M0 a0 p1 p2 post → okc (gB g) M0 a0 12 ∧ Ct l g yX12_leadsAll cX12_leadsAll 9 (some .int) d_X12_leadsAll 0 0 [.ref a0, .int p1, .int p2] M0 (pI post)) (hq : wp_X12_leads w_X12_leads w_X12_leadsAll g M0 a0 p1 p2 post) : Ct l g yX12_leads cX12_leads 5 (some .int) (d + 8) 0 0 [.ref a0, .int p1, .int p2] M0 (pI post) := by
  unfold wp_X12_leads at hq
  obtain ⟨h0, hq⟩ := hq
  refine Ct.of (by decide) (Nat.le_of_ble_eq_true rfl) ?_
  intro p e s m below meth c ls C hr hlk hn hl hw
  have hx := C.1.1
  have hb := C.1.2.1
  have hl : lv_has ls 5 [(0, .ref a0), (1, .int p1), (2, .int p2)] := hl
  refine lv_iconst (v := 0) hx hb dX12_leads_0 (by decide) ?_
  refine lv_istore_n (lv' := [(3, .int 0), (0, .ref a0), (1, .int p1), (2, .int p2)]) hx hb dX12_leads_1 rfl hl (by decide) rfl (fun ls hl => ?_)
  refine lv_aload_n hx hb dX12_leads_2 rfl (lv_at hl 1 rfl) ?_
  obtain ⟨q42, e43, hq⟩ := hq
  refine gfX12_13 C hw hw.2.2.1 h0 e43 dX12_leads_3 ?_
  refine lv_iload_n hx hb dX12_leads_6 rfl (lv_at hl 2 rfl) ?_
  obtain ⟨h44, hq⟩ := hq
  obtain ⟨h45, hq⟩ := hq
  refine q_iald C hw hw.2.2.1 h44 h45 dX12_leads_7 ?_
  by_cases c69 : (mI M0 q42 (Int32.toNatClampNeg p1)) = 0
  · refine r_table (v := 0) (off := 48) (tgt := 56) hx hb dX12_leads_8 c69 (by decide) (by decide) rfl (by decide) ?_
    replace hq := hq.1 c69
    refine lv_aload_n hx hb dX12_leads_56 rfl (lv_at hl 1 rfl) ?_
    obtain ⟨q47, e48, hq⟩ := hq
    refine gfX12_16 C hw hw.2.2.1 h0 e48 dX12_leads_57 ?_
    refine lv_iload_n hx hb dX12_leads_60 rfl (lv_at hl 2 rfl) ?_
    obtain ⟨h49, hq⟩ := hq
    obtain ⟨h50, hq⟩ := hq
    refine q_iald C hw hw.2.2.1 h49 h50 dX12_leads_61 ?_
    refine lv_istore (lv' := [(4, .int (mI M0 q47 (Int32.toNatClampNeg p1))), (3, .int 0), (0, .ref a0), (1, .int p1), (2, .int p2)]) hx hb dX12_leads_62 hl (by decide) rfl (fun ls hl => ?_)
    obtain ⟨nf, hq⟩ := hq
    exact lp_X12_leads_64 hd_X12_leads hr_X12_leads hd_X12_leadsAll hr_X12_leadsAll C hr hlk hn h0  nf _ _ _ _ _ _ hq hw (lv_sub hl [2, 3, 4, 1, 0] rfl)
  by_cases c70 : (mI M0 q42 (Int32.toNatClampNeg p1)) = 1
  · refine r_table (v := 1) (off := 86) (tgt := 94) hx hb dX12_leads_8 c70 (by decide) (by decide) rfl (by decide) ?_
    replace hq := hq.2.1 c70
    refine lv_iload_n hx hb dX12_leads_94 rfl (lv_at hl 3 rfl) ?_
    refine lv_istore_n (lv' := [(3, .int p2), (0, .ref a0), (1, .int p1), (2, .int p2)]) hx hb dX12_leads_95 rfl hl (by decide) rfl (fun ls hl => ?_)
    refine lv_aload_n hx hb dX12_leads_96 rfl (lv_at hl 1 rfl) ?_
    obtain ⟨q51, e52, hq⟩ := hq
    refine gfX12_16 C hw hw.2.2.1 h0 e52 dX12_leads_97 ?_
    refine lv_iload_n hx hb dX12_leads_100 rfl (lv_at hl 2 rfl) ?_
    obtain ⟨h53, hq⟩ := hq
    obtain ⟨h54, hq⟩ := hq
    refine q_iald C hw hw.2.2.1 h53 h54 dX12_leads_101 ?_
    refine lv_istore (lv' := [(4, .int (mI M0 q51 (Int32.toNatClampNeg p1))), (3, .int p2), (0, .ref a0), (1, .int p1), (2, .int p2)]) hx hb dX12_leads_102 hl (by decide) rfl (fun ls hl => ?_)
    obtain ⟨nf, hq⟩ := hq
    exact lp_X12_leads_104 hd_X12_leads hr_X12_leads hd_X12_leadsAll hr_X12_leadsAll C hr hlk hn h0  nf _ _ _ _ _ _ hq hw (lv_sub hl [2, 3, 4, 1, 0] rfl)
  by_cases c71 : (mI M0 q42 (Int32.toNatClampNeg p1)) = 2
  · refine r_table (v := 2) (off := 161) (tgt := 169) hx hb dX12_leads_8 c71 (by decide) (by decide) rfl (by decide) ?_
    replace hq := hq.2.2.1 c71
    refine lv_iconst (v := 0) hx hb dX12_leads_169 (by decide) ?_
    refine lv_istore (lv' := [(4, .int 0), (3, .int 0), (0, .ref a0), (1, .int p1), (2, .int p2)]) hx hb dX12_leads_170 hl (by decide) rfl (fun ls hl => ?_)
    obtain ⟨nf, hq⟩ := hq
    exact lp_X12_leads_172 hd_X12_leads hr_X12_leads hd_X12_leadsAll hr_X12_leadsAll C hr hlk hn h0  nf _ _ _ _ _ _ hq hw (lv_sub hl [2, 3, 4, 1, 0] rfl)
  by_cases c72 : (mI M0 q42 (Int32.toNatClampNeg p1)) = 3
  · refine r_table (v := 3) (off := 161) (tgt := 169) hx hb dX12_leads_8 c72 (by decide) (by decide) rfl (by decide) ?_
    replace hq := hq.2.2.2.1 c72
    refine lv_iconst (v := 0) hx hb dX12_leads_169 (by decide) ?_
    refine lv_istore (lv' := [(4, .int 0), (3, .int 0), (0, .ref a0), (1, .int p1), (2, .int p2)]) hx hb dX12_leads_170 hl (by decide) rfl (fun ls hl => ?_)
    obtain ⟨nf, hq⟩ := hq
    exact lp_X12_leads_172 hd_X12_leads hr_X12_leads hd_X12_leadsAll hr_X12_leadsAll C hr hlk hn h0  nf _ _ _ _ _ _ hq hw (lv_sub hl [2, 3, 4, 1, 0] rfl)
  by_cases c73 : (mI M0 q42 (Int32.toNatClampNeg p1)) = 4
  · refine r_table (v := 4) (off := 161) (tgt := 169) hx hb dX12_leads_8 c73 (by decide) (by decide) rfl (by decide) ?_
    replace hq := hq.2.2.2.2.1 c73
    refine lv_iconst (v := 0) hx hb dX12_leads_169 (by decide) ?_
    refine lv_istore (lv' := [(4, .int 0), (3, .int 0), (0, .ref a0), (1, .int p1), (2, .int p2)]) hx hb dX12_leads_170 hl (by decide) rfl (fun ls hl => ?_)
    obtain ⟨nf, hq⟩ := hq
    exact lp_X12_leads_172 hd_X12_leads hr_X12_leads hd_X12_leadsAll hr_X12_leadsAll C hr hlk hn h0  nf _ _ _ _ _ _ hq hw (lv_sub hl [2, 3, 4, 1, 0] rfl)
  by_cases c74 : (mI M0 q42 (Int32.toNatClampNeg p1)) = 5
  · refine r_table (v := 5) (off := 128) (tgt := 136) hx hb dX12_leads_8 c74 (by decide) (by decide) rfl (by decide) ?_
    replace hq := hq.2.2.2.2.2.1 c74
    refine lv_iload_n hx hb dX12_leads_136 rfl (lv_at hl 3 rfl) ?_
    refine lv_aload_n hx hb dX12_leads_137 rfl (lv_at hl 1 rfl) ?_
    refine lv_aload_n hx hb dX12_leads_138 rfl (lv_at hl 1 rfl) ?_
    obtain ⟨q55, e56, hq⟩ := hq
    refine gfX12_16 C hw hw.2.2.1 h0 e56 dX12_leads_139 ?_
    refine lv_iload_n hx hb dX12_leads_142 rfl (lv_at hl 2 rfl) ?_
    obtain ⟨h57, hq⟩ := hq
    obtain ⟨h58, hq⟩ := hq
    refine q_iald C hw hw.2.2.1 h57 h58 dX12_leads_143 ?_
    refine lv_iload_n hx hb dX12_leads_144 rfl (lv_at hl 3 rfl) ?_
    refine r_callV (T := TX12) (N := 67) (ci := 12) (index := 228) (n := 2) (d2 := d_X12_leads) (mc := 0) (ms := 0) (As := [.int (mI M0 q55 (Int32.toNatClampNeg p1)), .int p2]) (rest := [.int p2]) C hw (hr_X12_leads hq).2 kvX12_228 (hr_X12_leads (l := l) hq).1 (by decide) rfl ⟨by simp only [rmo]; omega, by simp only [rmo]; omega⟩ ⟨Nat.le_refl _, Nat.le_refl _⟩ rfl hl.1 rfl (Nat.le_of_ble_eq_true rfl) dX12_leads_145 (fun r M60 H locs hp hle hw => ?_)
    obtain ⟨v59, rfl, hq⟩ := hp
    refine W.eq (g2 := F0 m 148 ls [.int v59, .int p2]) rfl ?_
    refine lv_ior hx hb dX12_leads_148 ?_
    exact r_iret C hr hlk hw dX12_leads_149 (Nat.le_refl _) (Nat.le_refl _) ⟨_, rfl, hq⟩
  by_cases c75 : (mI M0 q42 (Int32.toNatClampNeg p1)) = 6
  · refine r_table (v := 6) (off := 142) (tgt := 150) hx hb dX12_leads_8 c75 (by decide) (by decide) rfl (by decide) ?_
    replace hq := hq.2.2.2.2.2.2.1 c75
    refine lv_aload_n hx hb dX12_leads_150 rfl (lv_at hl 1 rfl) ?_
    refine lv_aload_n hx hb dX12_leads_151 rfl (lv_at hl 1 rfl) ?_
    obtain ⟨q61, e62, hq⟩ := hq
    refine gfX12_16 C hw hw.2.2.1 h0 e62 dX12_leads_152 ?_
    refine lv_iload_n hx hb dX12_leads_155 rfl (lv_at hl 2 rfl) ?_
    obtain ⟨h63, hq⟩ := hq
    obtain ⟨h64, hq⟩ := hq
    refine q_iald C hw hw.2.2.1 h63 h64 dX12_leads_156 ?_
    refine lv_iload_n hx hb dX12_leads_157 rfl (lv_at hl 3 rfl) ?_
    refine r_callV (T := TX12) (N := 67) (ci := 12) (index := 228) (n := 2) (d2 := d_X12_leads) (mc := 0) (ms := 0) (As := [.int (mI M0 q61 (Int32.toNatClampNeg p1)), .int p2]) (rest := []) C hw (hr_X12_leads hq).2 kvX12_228 (hr_X12_leads (l := l) hq).1 (by decide) rfl ⟨by simp only [rmo]; omega, by simp only [rmo]; omega⟩ ⟨Nat.le_refl _, Nat.le_refl _⟩ rfl hl.1 rfl (Nat.le_of_ble_eq_true rfl) dX12_leads_158 (fun r M66 H locs hp hle hw => ?_)
    obtain ⟨v65, rfl, hq⟩ := hp
    refine W.eq (g2 := F0 m 161 ls [.int v65]) rfl ?_
    exact r_iret C hr hlk hw dX12_leads_161 (Nat.le_refl _) (Nat.le_refl _) ⟨_, rfl, hq⟩
  by_cases c76 : (mI M0 q42 (Int32.toNatClampNeg p1)) = 7
  · refine r_table (v := 7) (off := 154) (tgt := 162) hx hb dX12_leads_8 c76 (by decide) (by decide) rfl (by decide) ?_
    replace hq := hq.2.2.2.2.2.2.2.1 c76
    refine lv_aload_n hx hb dX12_leads_162 rfl (lv_at hl 1 rfl) ?_
    refine lv_iload_n hx hb dX12_leads_163 rfl (lv_at hl 2 rfl) ?_
    refine lv_iload_n hx hb dX12_leads_164 rfl (lv_at hl 3 rfl) ?_
    refine r_callV (T := TX12) (N := 67) (ci := 12) (index := 232) (n := 2) (d2 := d_X12_leadsAll) (mc := 0) (ms := 0) (As := [.int p1, .int p2]) (rest := []) C hw (hr_X12_leadsAll hq).2 kvX12_232 (hr_X12_leadsAll (l := l) hq).1 (by decide) rfl ⟨by simp only [rmo]; omega, by simp only [rmo]; omega⟩ ⟨Nat.le_refl _, Nat.le_refl _⟩ rfl hl.1 rfl (Nat.le_of_ble_eq_true rfl) dX12_leads_165 (fun r M68 H locs hp hle hw => ?_)
    obtain ⟨v67, rfl, hq⟩ := hp
    refine W.eq (g2 := F0 m 168 ls [.int v67]) rfl ?_
    exact r_iret C hr hlk hw dX12_leads_168 (Nat.le_refl _) (Nat.le_refl _) ⟨_, rfl, hq⟩
  refine r_tableOut (tgt := 169) (k := 7) hx hb dX12_leads_8 (by decide) (fun j hj => by rcases (show j = 0 ∨ j = 1 ∨ j = 2 ∨ j = 3 ∨ j = 4 ∨ j = 5 ∨ j = 6 ∨ j = 7 by omega) with rfl | rfl | rfl | rfl | rfl | rfl | rfl | rfl <;> assumption) (by decide) ?_
  replace hq := hq.2.2.2.2.2.2.2.2 ⟨c69, c70, c71, c72, c73, c74, c75, c76⟩
  refine lv_iconst (v := 0) hx hb dX12_leads_169 (by decide) ?_
  refine lv_istore (lv' := [(4, .int 0), (3, .int 0), (0, .ref a0), (1, .int p1), (2, .int p2)]) hx hb dX12_leads_170 hl (by decide) rfl (fun ls hl => ?_)
  obtain ⟨nf, hq⟩ := hq
  exact lp_X12_leads_172 hd_X12_leads hr_X12_leads hd_X12_leadsAll hr_X12_leadsAll C hr hlk hn h0  nf _ _ _ _ _ _ hq hw (lv_sub hl [2, 3, 4, 1, 0] rfl)
def wpLeads : Nat → Gh → Mem → Nat → Int32 → Int32 → (Int32 → Mem → Prop) → Prop
  | 0 => fun _ _ _ _ _ _ => False
  | n + 1 => wp_X12_leads (wpLeads n) (wp_X12_leadsAll (wpLeads n))
theorem ctLeads2 : ∀ (n : Nat) {l : Launch} {g : Gh} {M0 : Mem} {a0 : Nat} {p1 p2 : Int32} {post : Int32 → Mem → Prop}, wpLeads n g M0 a0 p1 p2 post → okc (gB g) M0 a0 12 ∧ Ct l g yX12_leads cX12_leads 5 (some .int) (16 * n) 0 0 [.ref a0, .int p1, .int p2] M0 (pI post)
  | 0, _, _, _, _, _, _, _, h => h.elim
  | n + 1, l, g, M0, a0, p1, p2, post, h => by
    have h : wp_X12_leads (wpLeads n) (wp_X12_leadsAll (wpLeads n)) g M0 a0 p1 p2 post := h
    have h2 := ct_X12_leads (l := l) (d := 16 * n + 8) (d_X12_leads := 16 * n) (by omega) (fun h => ctLeads2 n h) (Nat.le_refl _) (fun h => ⟨h.1, ct_X12_leadsAll (d := 16 * n) (Nat.le_refl _) (fun h => ctLeads2 n h) h⟩) h
    rw [show 16 * (n + 1) = 16 * n + 8 + 8 by omega]
    exact ⟨h.1, h2⟩
theorem ctLeads (n : Nat) {l : Launch} {g : Gh} {M0 : Mem} {a0 : Nat} {p1 p2 : Int32} {post : Int32 → Mem → Prop} (h : wpLeads n g M0 a0 p1 p2 post) : Ct l g yX12_leads cX12_leads 5 (some .int) (16 * n) 0 0 [.ref a0, .int p1, .int p2] M0 (pI post) := (ctLeads2 n h).2

set_option maxRecDepth 100000 in
def wp_X12_isTaken  (g : Gh) (M0 : Mem) (a0 : Nat) (p1 : Int32) (post : Int32 → Mem → Prop) : Prop :=
  okc (gB g) M0 a0 12 ∧ (∀ M1, M1 = uI M0 a0 28 0 → (wpLeads 32 g M1 a0 (420 * p1) 1 (fun v3 M4 => ((((v3 >>> ((mI M4 a0 26) &&& 31)) &&& 1) = 1) → post 1 M4) ∧ (¬ (((v3 >>> ((mI M4 a0 26) &&& 31)) &&& 1) = 1) → post 0 M4))))
set_option maxHeartbeats 4000000 in
set_option maxRecDepth 100000 in
theorem ct_X12_isTaken {l : Launch} {g : Gh} {M0 : Mem} {a0 : Nat} {p1 : Int32} {post : Int32 → Mem → Prop}  (hq : wp_X12_isTaken  g M0 a0 p1 post) : Ct l g yX12_isTaken cX12_isTaken 2 (some .boolean) 513 0 0 [.ref a0, .int p1] M0 (pI post) := by
  unfold wp_X12_isTaken at hq
  obtain ⟨h0, hq⟩ := hq
  refine Ct.of (by decide) (Nat.le_of_ble_eq_true rfl) ?_
  intro p e s m below meth c ls C hr hlk hn hl hw
  have hx := C.1.1
  have hb := C.1.2.1
  have hl : lv_has ls 2 [(0, .ref a0), (1, .int p1)] := hl
  refine lv_aload_n hx hb dX12_isTaken_0 rfl (lv_at hl 0 rfl) ?_
  refine lv_iconst (v := 0) hx hb dX12_isTaken_1 (by decide) ?_
  refine pfX12_235 C hw hw.2.2.1 h0 dX12_isTaken_2 (fun H locs hw => ?_)
  generalize e2 : uI M0 a0 28 0 = M1 at hw
  replace hq := hq M1 e2.symm
  refine lv_aload_n hx hb dX12_isTaken_5 rfl (lv_at hl 0 rfl) ?_
  refine lv_sipush (v := 420) hx hb dX12_isTaken_6 (by decide) ?_
  refine lv_iload_n hx hb dX12_isTaken_9 rfl (lv_at hl 1 rfl) ?_
  refine lv_imul hx hb dX12_isTaken_10 ?_
  refine lv_iconst (v := 1) hx hb dX12_isTaken_11 (by decide) ?_
  refine r_callV (T := TX12) (N := 67) (ci := 12) (index := 228) (n := 2) (d2 := 512) (mc := 0) (ms := 0) (As := [.int (420 * p1), .int 1]) (rest := []) C hw (ctLeads 32 hq) kvX12_228 (h0.up hw.2.2.1) (by decide) rfl ⟨by decide, by decide⟩ ⟨by decide, by decide⟩ rfl hl.1 rfl (Nat.le_of_ble_eq_true rfl) dX12_isTaken_12 (fun r M4 H locs hp hle hw => ?_)
  obtain ⟨v3, rfl, hq⟩ := hp
  refine W.eq (g2 := F0 m 15 ls [.int v3]) rfl ?_
  refine lv_aload_n hx hb dX12_isTaken_15 rfl (lv_at hl 0 rfl) ?_
  refine gfX12_225 C hw hw.2.2.1 h0 dX12_isTaken_16 ?_
  refine lv_ishr hx hb dX12_isTaken_19 ?_
  refine lv_iconst (v := 1) hx hb dX12_isTaken_20 (by decide) ?_
  refine lv_iand hx hb dX12_isTaken_21 ?_
  refine lv_iconst (v := 1) hx hb dX12_isTaken_22 (by decide) ?_
  refine lv_icmp_ne (tgt := 30) hx hb dX12_isTaken_23 (by decide) (fun c5 => ?_) (fun c5 => ?_)
  · replace hq := hq.2 c5
    refine lv_iconst (v := 0) hx hb dX12_isTaken_30 (by decide) ?_
    exact r_zret C hr hlk hw dX12_isTaken_31 (Nat.le_refl _) (Nat.le_refl _) (by decide) ⟨_, rfl, hq⟩
  · replace hq := hq.1 c5
    refine lv_iconst (v := 1) hx hb dX12_isTaken_26 (by decide) ?_
    refine lv_goto (tgt := 31) hx hb dX12_isTaken_27 (by decide) ?_
    exact r_zret C hr hlk hw dX12_isTaken_31 (Nat.le_refl _) (Nat.le_refl _) (by decide) ⟨_, rfl, hq⟩

set_option maxRecDepth 100000 in
def wp_X12_isQuestion  (g : Gh) (M0 : Mem) (a0 : Nat) (p1 : Int32) (post : Int32 → Mem → Prop) : Prop :=
  okc (gB g) M0 a0 12 ∧ (((p1 < 0) → post 0 M0) ∧ (¬ (p1 < 0) → (((mI M0 a0 16) ≤ p1) → post 0 M0) ∧ (¬ ((mI M0 a0 16) ≤ p1) → post 1 M0)))
set_option maxHeartbeats 4000000 in
set_option maxRecDepth 100000 in
theorem ct_X12_isQuestion {l : Launch} {g : Gh} {M0 : Mem} {a0 : Nat} {p1 : Int32} {post : Int32 → Mem → Prop}  (hq : wp_X12_isQuestion  g M0 a0 p1 post) : Ct l g yX12_isQuestion cX12_isQuestion 2 (some .boolean) 0 0 0 [.ref a0, .int p1] M0 (pI post) := by
  unfold wp_X12_isQuestion at hq
  obtain ⟨h0, hq⟩ := hq
  refine Ct.of (by decide) (Nat.le_of_ble_eq_true rfl) ?_
  intro p e s m below meth c ls C hr hlk hn hl hw
  have hx := C.1.1
  have hb := C.1.2.1
  have hl : lv_has ls 2 [(0, .ref a0), (1, .int p1)] := hl
  refine lv_iload_n hx hb dX12_isQuestion_0 rfl (lv_at hl 1 rfl) ?_
  refine lv_if_lt (tgt := 16) hx hb dX12_isQuestion_1 (by decide) (fun c1 => ?_) (fun c1 => ?_)
  · replace hq := hq.1 c1
    refine lv_iconst (v := 0) hx hb dX12_isQuestion_16 (by decide) ?_
    exact r_zret C hr hlk hw dX12_isQuestion_17 (Nat.le_refl _) (Nat.le_refl _) (by decide) ⟨_, rfl, hq⟩
  · replace hq := hq.2 c1
    refine lv_iload_n hx hb dX12_isQuestion_4 rfl (lv_at hl 1 rfl) ?_
    refine lv_aload_n hx hb dX12_isQuestion_5 rfl (lv_at hl 0 rfl) ?_
    refine gfX12_181 C hw hw.2.2.1 h0 dX12_isQuestion_6 ?_
    refine lv_icmp_ge (tgt := 16) hx hb dX12_isQuestion_9 (by decide) (fun c2 => ?_) (fun c2 => ?_)
    · replace hq := hq.1 c2
      refine lv_iconst (v := 0) hx hb dX12_isQuestion_16 (by decide) ?_
      exact r_zret C hr hlk hw dX12_isQuestion_17 (Nat.le_refl _) (Nat.le_refl _) (by decide) ⟨_, rfl, hq⟩
    · replace hq := hq.2 c2
      refine lv_iconst (v := 1) hx hb dX12_isQuestion_12 (by decide) ?_
      refine lv_goto (tgt := 17) hx hb dX12_isQuestion_13 (by decide) ?_
      exact r_zret C hr hlk hw dX12_isQuestion_17 (Nat.le_refl _) (Nat.le_refl _) (by decide) ⟨_, rfl, hq⟩

set_option maxRecDepth 100000 in
def wp_X12_takes  (g : Gh) (M0 : Mem) (a0 : Nat) (p1 : Int32) (post : Int32 → Mem → Prop) : Prop :=
  okc (gB g) M0 a0 12 ∧ (∀ M1, M1 = uI M0 a0 0 0 → (wp_X12_readAnswer g M1 a0 (fun v3 M4 => wp_X12_isQuestion g M4 a0 p1 (fun v5 M6 => ((v5 = 0) → post (-1) M6) ∧ (¬ (v5 = 0) → ((v3 = 0) → post (-1) M6) ∧ (¬ (v3 = 0) → wp_X12_isTaken g M6 a0 p1 (fun v9 M10 => ((v9 = 0) → post 0 M10) ∧ (¬ (v9 = 0) → post 1 M10))))))))
set_option maxHeartbeats 4000000 in
set_option maxRecDepth 100000 in
theorem ct_X12_takes {l : Launch} {g : Gh} {M0 : Mem} {a0 : Nat} {p1 : Int32} {post : Int32 → Mem → Prop}  (hq : wp_X12_takes  g M0 a0 p1 post) : Ct l g yX12_takes cX12_takes 3 (some .int) 514 0 0 [.ref a0, .int p1] M0 (pI post) := by
  unfold wp_X12_takes at hq
  obtain ⟨h0, hq⟩ := hq
  refine Ct.of (by decide) (Nat.le_of_ble_eq_true rfl) ?_
  intro p e s m below meth c ls C hr hlk hn hl hw
  have hx := C.1.1
  have hb := C.1.2.1
  have hl : lv_has ls 3 [(0, .ref a0), (1, .int p1)] := hl
  refine lv_aload_n hx hb dX12_takes_0 rfl (lv_at hl 0 rfl) ?_
  refine lv_iconst (v := 0) hx hb dX12_takes_1 (by decide) ?_
  refine pfX12_123 C hw hw.2.2.1 h0 dX12_takes_2 (fun H locs hw => ?_)
  generalize e2 : uI M0 a0 0 0 = M1 at hw
  replace hq := hq M1 e2.symm
  refine lv_aload_n hx hb dX12_takes_5 rfl (lv_at hl 0 rfl) ?_
  refine r_callV (T := TX12) (N := 67) (ci := 12) (index := 238) (n := 0) (d2 := 2) (mc := 0) (ms := 0) (As := []) (rest := []) C hw (ct_X12_readAnswer hq) kvX12_238 hq.1 (by decide) rfl ⟨by decide, by decide⟩ ⟨by decide, by decide⟩ rfl hl.1 rfl (Nat.le_of_ble_eq_true rfl) dX12_takes_6 (fun r M4 H locs hp hle hw => ?_)
  obtain ⟨v3, rfl, hq⟩ := hp
  refine W.eq (g2 := F0 m 9 ls [.int v3]) rfl ?_
  refine lv_istore_n (lv' := [(2, .int v3), (0, .ref a0), (1, .int p1)]) hx hb dX12_takes_9 rfl hl (by decide) rfl (fun ls hl => ?_)
  refine lv_aload_n hx hb dX12_takes_10 rfl (lv_at hl 1 rfl) ?_
  refine lv_iload_n hx hb dX12_takes_11 rfl (lv_at hl 2 rfl) ?_
  refine r_callV (T := TX12) (N := 67) (ci := 12) (index := 241) (n := 1) (d2 := 0) (mc := 0) (ms := 0) (As := [.int p1]) (rest := []) C hw (ct_X12_isQuestion hq) kvX12_241 hq.1 (by decide) rfl ⟨by decide, by decide⟩ ⟨by decide, by decide⟩ rfl hl.1 rfl (Nat.le_of_ble_eq_true rfl) dX12_takes_12 (fun r M6 H locs hp hle hw => ?_)
  obtain ⟨v5, rfl, hq⟩ := hp
  refine W.eq (g2 := F0 m 15 ls [.int v5]) rfl ?_
  refine lv_if_eq (tgt := 22) hx hb dX12_takes_15 (by decide) (fun c7 => ?_) (fun c7 => ?_)
  · replace hq := hq.1 c7
    refine lv_iconst (v := (-1)) hx hb dX12_takes_22 (by decide) ?_
    refine lv_goto (tgt := 39) hx hb dX12_takes_23 (by decide) ?_
    exact r_iret C hr hlk hw dX12_takes_39 (Nat.le_refl _) (Nat.le_refl _) ⟨_, rfl, hq⟩
  · replace hq := hq.2 c7
    refine lv_iload_n hx hb dX12_takes_18 rfl (lv_at hl 0 rfl) ?_
    refine lv_if_ne (tgt := 26) hx hb dX12_takes_19 (by decide) (fun c8 => ?_) (fun c8 => ?_)
    · replace hq := hq.2 c8
      refine lv_aload_n hx hb dX12_takes_26 rfl (lv_at hl 1 rfl) ?_
      refine lv_iload_n hx hb dX12_takes_27 rfl (lv_at hl 2 rfl) ?_
      refine r_callV (T := TX12) (N := 67) (ci := 12) (index := 244) (n := 1) (d2 := 513) (mc := 0) (ms := 0) (As := [.int p1]) (rest := []) C hw (ct_X12_isTaken hq) kvX12_244 hq.1 (by decide) rfl ⟨by decide, by decide⟩ ⟨by decide, by decide⟩ rfl hl.1 rfl (Nat.le_of_ble_eq_true rfl) dX12_takes_28 (fun r M10 H locs hp hle hw => ?_)
      obtain ⟨v9, rfl, hq⟩ := hp
      refine W.eq (g2 := F0 m 31 ls [.int v9]) rfl ?_
      refine lv_if_eq (tgt := 38) hx hb dX12_takes_31 (by decide) (fun c11 => ?_) (fun c11 => ?_)
      · replace hq := hq.1 c11
        refine lv_iconst (v := 0) hx hb dX12_takes_38 (by decide) ?_
        exact r_iret C hr hlk hw dX12_takes_39 (Nat.le_refl _) (Nat.le_refl _) ⟨_, rfl, hq⟩
      · replace hq := hq.2 c11
        refine lv_iconst (v := 1) hx hb dX12_takes_34 (by decide) ?_
        refine lv_goto (tgt := 39) hx hb dX12_takes_35 (by decide) ?_
        exact r_iret C hr hlk hw dX12_takes_39 (Nat.le_refl _) (Nat.le_refl _) ⟨_, rfl, hq⟩
    · replace hq := hq.1 c8
      refine lv_iconst (v := (-1)) hx hb dX12_takes_22 (by decide) ?_
      refine lv_goto (tgt := 39) hx hb dX12_takes_23 (by decide) ?_
      exact r_iret C hr hlk hw dX12_takes_39 (Nat.le_refl _) (Nat.le_refl _) ⟨_, rfl, hq⟩

set_option maxRecDepth 100000 in
def wp_X12_strike  (g : Gh) (M0 : Mem) (a0 : Nat) (p1 : Int32) (p2 : Int32) (post : Int32 → Mem → Prop) : Prop :=
  okc (gB g) M0 a0 12 ∧ (∀ M1, M1 = uI M0 a0 0 0 → (wp_X12_isQuestion g M1 a0 p1 (fun v3 M4 => ((v3 = 0) → post 0 M4) ∧ (¬ (v3 = 0) → (((mI M4 a0 48) = 0) → ∃ q7, mR M4 a0 23 = some q7 ∧ (okc (gB g) M0 q7 17 ∧ (vp_in p1 (mN M0 q7) ∧ ((((mI M4 q7 (Int32.toNatClampNeg p1)) = p2) → post 0 M4) ∧ (¬ ((mI M4 q7 (Int32.toNatClampNeg p1)) = p2) → ∀ M12, M12 = uI M4 q7 (Int32.toNatClampNeg p1) (vp_nar .boolean p2) → (post 1 M12)))))) ∧ (¬ ((mI M4 a0 48) = 0) → post 0 M4)))))
set_option maxHeartbeats 4000000 in
set_option maxRecDepth 100000 in
theorem ct_X12_strike {l : Launch} {g : Gh} {M0 : Mem} {a0 : Nat} {p1 : Int32} {p2 : Int32} {post : Int32 → Mem → Prop}  (hq : wp_X12_strike  g M0 a0 p1 p2 post) : Ct l g yX12_strike cX12_strike 3 (some .boolean) 1 0 0 [.ref a0, .int p1, .int p2] M0 (pI post) := by
  unfold wp_X12_strike at hq
  obtain ⟨h0, hq⟩ := hq
  refine Ct.of (by decide) (Nat.le_of_ble_eq_true rfl) ?_
  intro p e s m below meth c ls C hr hlk hn hl hw
  have hx := C.1.1
  have hb := C.1.2.1
  have hl : lv_has ls 3 [(0, .ref a0), (1, .int p1), (2, .int p2)] := hl
  refine lv_aload_n hx hb dX12_strike_0 rfl (lv_at hl 0 rfl) ?_
  refine lv_iconst (v := 0) hx hb dX12_strike_1 (by decide) ?_
  refine pfX12_123 C hw hw.2.2.1 h0 dX12_strike_2 (fun H locs hw => ?_)
  generalize e2 : uI M0 a0 0 0 = M1 at hw
  replace hq := hq M1 e2.symm
  refine lv_aload_n hx hb dX12_strike_5 rfl (lv_at hl 0 rfl) ?_
  refine lv_iload_n hx hb dX12_strike_6 rfl (lv_at hl 1 rfl) ?_
  refine r_callV (T := TX12) (N := 67) (ci := 12) (index := 241) (n := 1) (d2 := 0) (mc := 0) (ms := 0) (As := [.int p1]) (rest := []) C hw (ct_X12_isQuestion hq) kvX12_241 hq.1 (by decide) rfl ⟨by decide, by decide⟩ ⟨by decide, by decide⟩ rfl hl.1 rfl (Nat.le_of_ble_eq_true rfl) dX12_strike_7 (fun r M4 H locs hp hle hw => ?_)
  obtain ⟨v3, rfl, hq⟩ := hp
  refine W.eq (g2 := F0 m 10 ls [.int v3]) rfl ?_
  refine lv_if_eq (tgt := 30) hx hb dX12_strike_10 (by decide) (fun c5 => ?_) (fun c5 => ?_)
  · replace hq := hq.1 c5
    refine lv_iconst (v := 0) hx hb dX12_strike_30 (by decide) ?_
    exact r_zret C hr hlk hw dX12_strike_31 (Nat.le_refl _) (Nat.le_refl _) (by decide) ⟨_, rfl, hq⟩
  · replace hq := hq.2 c5
    refine lv_aload_n hx hb dX12_strike_13 rfl (lv_at hl 0 rfl) ?_
    refine gfX12_247 C hw hw.2.2.1 h0 dX12_strike_14 ?_
    refine lv_if_ne (tgt := 30) hx hb dX12_strike_17 (by decide) (fun c6 => ?_) (fun c6 => ?_)
    · replace hq := hq.2 c6
      refine lv_iconst (v := 0) hx hb dX12_strike_30 (by decide) ?_
      exact r_zret C hr hlk hw dX12_strike_31 (Nat.le_refl _) (Nat.le_refl _) (by decide) ⟨_, rfl, hq⟩
    · replace hq := hq.1 c6
      refine lv_aload_n hx hb dX12_strike_20 rfl (lv_at hl 0 rfl) ?_
      obtain ⟨q7, e8, hq⟩ := hq
      refine gfX12_41 C hw hw.2.2.1 h0 e8 dX12_strike_21 ?_
      refine lv_iload_n hx hb dX12_strike_24 rfl (lv_at hl 1 rfl) ?_
      obtain ⟨h9, hq⟩ := hq
      obtain ⟨h10, hq⟩ := hq
      refine q_zald C hw hw.2.2.1 h9 h10 dX12_strike_25 ?_
      refine lv_iload_n hx hb dX12_strike_26 rfl (lv_at hl 2 rfl) ?_
      refine lv_icmp_ne (tgt := 32) hx hb dX12_strike_27 (by decide) (fun c11 => ?_) (fun c11 => ?_)
      · replace hq := hq.2 c11
        refine lv_aload_n hx hb dX12_strike_32 rfl (lv_at hl 0 rfl) ?_
        refine gfX12_41 C hw hw.2.2.1 h0 e8 dX12_strike_33 ?_
        refine lv_iload_n hx hb dX12_strike_36 rfl (lv_at hl 1 rfl) ?_
        refine lv_iload_n hx hb dX12_strike_37 rfl (lv_at hl 2 rfl) ?_
        refine q_zast C hw hw.2.2.1 h9 h10 dX12_strike_38 (fun H locs hw => ?_)
        generalize e13 : uI M4 q7 (Int32.toNatClampNeg p1) (vp_nar .boolean p2) = M12 at hw
        replace hq := hq M12 e13.symm
        have e8 : mR M12 a0 23 = some q7 := by rw [← e13, mR_uI]; exact e8
        refine lv_iconst (v := 1) hx hb dX12_strike_39 (by decide) ?_
        exact r_zret C hr hlk hw dX12_strike_40 (Nat.le_refl _) (Nat.le_refl _) (by decide) ⟨_, rfl, hq⟩
      · replace hq := hq.1 c11
        refine lv_iconst (v := 0) hx hb dX12_strike_30 (by decide) ?_
        exact r_zret C hr hlk hw dX12_strike_31 (Nat.le_refl _) (Nat.le_refl _) (by decide) ⟨_, rfl, hq⟩

set_option maxRecDepth 100000 in
def wp_X12_hard  (g : Gh) (M0 : Mem) (a0 : Nat) (p1 : Int32) (post : Int32 → Mem → Prop) : Prop :=
  okc (gB g) M0 a0 12 ∧ (∃ q1, mR M0 a0 20 = some q1 ∧ (okc (gB g) M0 q1 14 ∧ (vp_in p1 (mN M0 q1) ∧ ((((mI M0 q1 (Int32.toNatClampNeg p1)) = 0) → post 50 M0) ∧ (¬ ((mI M0 q1 (Int32.toNatClampNeg p1)) = 0) → ∃ q6, mR M0 a0 21 = some q6 ∧ (okc (gB g) M0 q6 14 ∧ (vp_in p1 (mN M0 q6) ∧ ((¬ (mI M0 q1 (Int32.toNatClampNeg p1)) = 0) ∧ (post ((100 * (mI M0 q6 (Int32.toNatClampNeg p1))) / (mI M0 q1 (Int32.toNatClampNeg p1))) M0)))))))))
set_option maxHeartbeats 4000000 in
set_option maxRecDepth 100000 in
theorem ct_X12_hard {l : Launch} {g : Gh} {M0 : Mem} {a0 : Nat} {p1 : Int32} {post : Int32 → Mem → Prop}  (hq : wp_X12_hard  g M0 a0 p1 post) : Ct l g yX12_hard cX12_hard 2 (some .int) 0 0 0 [.ref a0, .int p1] M0 (pI post) := by
  unfold wp_X12_hard at hq
  obtain ⟨h0, hq⟩ := hq
  refine Ct.of (by decide) (Nat.le_of_ble_eq_true rfl) ?_
  intro p e s m below meth c ls C hr hlk hn hl hw
  have hx := C.1.1
  have hb := C.1.2.1
  have hl : lv_has ls 2 [(0, .ref a0), (1, .int p1)] := hl
  refine lv_aload_n hx hb dX12_hard_0 rfl (lv_at hl 0 rfl) ?_
  obtain ⟨q1, e2, hq⟩ := hq
  refine gfX12_32 C hw hw.2.2.1 h0 e2 dX12_hard_1 ?_
  refine lv_iload_n hx hb dX12_hard_4 rfl (lv_at hl 1 rfl) ?_
  obtain ⟨h3, hq⟩ := hq
  obtain ⟨h4, hq⟩ := hq
  refine q_iald C hw hw.2.2.1 h3 h4 dX12_hard_5 ?_
  refine lv_if_ne (tgt := 14) hx hb dX12_hard_6 (by decide) (fun c5 => ?_) (fun c5 => ?_)
  · replace hq := hq.2 c5
    refine lv_bipush (v := 100) hx hb dX12_hard_14 (by decide) ?_
    refine lv_aload_n hx hb dX12_hard_16 rfl (lv_at hl 0 rfl) ?_
    obtain ⟨q6, e7, hq⟩ := hq
    refine gfX12_35 C hw hw.2.2.1 h0 e7 dX12_hard_17 ?_
    refine lv_iload_n hx hb dX12_hard_20 rfl (lv_at hl 1 rfl) ?_
    obtain ⟨h8, hq⟩ := hq
    obtain ⟨h9, hq⟩ := hq
    refine q_iald C hw hw.2.2.1 h8 h9 dX12_hard_21 ?_
    refine lv_imul hx hb dX12_hard_22 ?_
    refine lv_aload_n hx hb dX12_hard_23 rfl (lv_at hl 0 rfl) ?_
    refine gfX12_32 C hw hw.2.2.1 h0 e2 dX12_hard_24 ?_
    refine lv_iload_n hx hb dX12_hard_27 rfl (lv_at hl 1 rfl) ?_
    refine q_iald C hw hw.2.2.1 h3 h4 dX12_hard_28 ?_
    obtain ⟨h10, hq⟩ := hq
    refine lv_idiv hx hb dX12_hard_29 h10 ?_
    exact r_iret C hr hlk hw dX12_hard_30 (Nat.le_refl _) (Nat.le_refl _) ⟨_, rfl, hq⟩
  · replace hq := hq.1 c5
    refine lv_bipush (v := 50) hx hb dX12_hard_9 (by decide) ?_
    refine lv_goto (tgt := 30) hx hb dX12_hard_11 (by decide) ?_
    exact r_iret C hr hlk hw dX12_hard_30 (Nat.le_refl _) (Nat.le_refl _) ⟨_, rfl, hq⟩
