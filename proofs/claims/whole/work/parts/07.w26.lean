set_option maxRecDepth 100000 in
def lb_X12_readAnswer_206  (g : Gh) (M0 : Mem) (a0 : Nat) (post : Int32 → Mem → Prop) (bk35 : Mem → Prop)  (s0 : Nat) (s1 : Int32) (s2 : Int32) (M : Mem) : Prop :=
  okc (gB g) M0 s0 17 ∧ (vp_in s1 (mN M0 s0) ∧ (∀ M3, M3 = uI M s0 (Int32.toNatClampNeg s1) (vp_nar .boolean s2) → (∃ q5, mR M3 a0 25 = some q5 ∧ (okc (gB g) M0 q5 15 ∧ (vp_in (mI M3 a0 26) (mN M0 q5) ∧ (∀ M9, M9 = uJ M3 q5 (Int32.toNatClampNeg (mI M3 a0 26)) (mJ M3 a0 8) → (∀ M11, M11 = uI M9 a0 26 ((mI M9 a0 26) + 1) → (bk35 (M11)))))))))
set_option maxRecDepth 100000 in
def lb_X12_readAnswer_185  (g : Gh) (M0 : Mem) (a0 : Nat) (post : Int32 → Mem → Prop) (bk35 : Mem → Prop)   (M : Mem) : Prop :=
  ∃ q13, mR M a0 24 = some q13 ∧ ((((mI M a0 6) = 2) → lb_X12_readAnswer_206  g M0 a0 post bk35 q13 (mI M a0 26) 1 M) ∧ (¬ ((mI M a0 6) = 2) → lb_X12_readAnswer_206  g M0 a0 post bk35 q13 (mI M a0 26) 0 M))
set_option maxRecDepth 100000 in
def lb_X12_readAnswer_146  (g : Gh) (M0 : Mem) (a0 : Nat) (post : Int32 → Mem → Prop) (bk35 : Mem → Prop)   (M : Mem) : Prop :=
  wp_X12_readWord g M a0 (fun M17 => (((mI M17 a0 6) = 1) → post 0 M17) ∧ (¬ ((mI M17 a0 6) = 1) → (((mI M17 a0 3) ≤ (mI M17 a0 4)) → lb_X12_readAnswer_185  g M0 a0 post bk35  M17) ∧ (¬ ((mI M17 a0 3) ≤ (mI M17 a0 4)) → ∃ q20, mR M17 a0 1 = some q20 ∧ (okc (gB g) M0 q20 14 ∧ (vp_in (mI M17 a0 4) (mN M0 q20) ∧ ((((mI M17 q20 (Int32.toNatClampNeg (mI M17 a0 4))) = 32) → lb_X12_readAnswer_185  g M0 a0 post bk35  M17) ∧ (¬ ((mI M17 q20 (Int32.toNatClampNeg (mI M17 a0 4))) = 32) → post 0 M17)))))))
set_option maxRecDepth 100000 in
def lb_X12_readAnswer_84  (g : Gh) (M0 : Mem) (a0 : Nat) (post : Int32 → Mem → Prop)    (M : Mem) : Prop :=
  (((mI M a0 26) ≤ 0) → post 0 M) ∧ (¬ ((mI M a0 26) ≤ 0) → post 1 M)
set_option maxRecDepth 100000 in
def lb_X12_readAnswer_73  (g : Gh) (M0 : Mem) (a0 : Nat) (post : Int32 → Mem → Prop) (bk35 : Mem → Prop)   (M : Mem) : Prop :=
  (((mI M a0 4) < (mI M a0 3)) → ∀ M27, M27 = uI M a0 5 (mI M a0 4) → ((((mI M27 a0 26) = 20) → post 0 M27) ∧ (¬ ((mI M27 a0 26) = 20) → ∃ q30, mR M27 a0 1 = some q30 ∧ (okc (gB g) M0 q30 14 ∧ (vp_in (mI M27 a0 4) (mN M0 q30) ∧ (wp_X12_isLetter g M27 (mI M27 q30 (Int32.toNatClampNeg (mI M27 a0 4))) (fun v34 M35 => ((v34 = 0) → ∃ q37, mR M35 a0 1 = some q37 ∧ (okc (gB g) M0 q37 14 ∧ (vp_in (mI M35 a0 4) (mN M0 q37) ∧ (wp_X12_isDigit g M35 (mI M35 q37 (Int32.toNatClampNeg (mI M35 a0 4))) (fun v41 M42 => ((v41 = 0) → post 0 M42) ∧ (¬ (v41 = 0) → lb_X12_readAnswer_146  g M0 a0 post bk35  M42)))))) ∧ (¬ (v34 = 0) → lb_X12_readAnswer_146  g M0 a0 post bk35  M35)))))))) ∧ (¬ ((mI M a0 4) < (mI M a0 3)) → lb_X12_readAnswer_84  g M0 a0 post   M)
set_option maxRecDepth 100000 in
def bd_X12_readAnswer_35  (g : Gh) (M0 : Mem) (a0 : Nat) (post : Int32 → Mem → Prop)  (bk35 : Mem → Prop)   (M : Mem) : Prop :=
  (((mI M a0 3) ≤ (mI M a0 4)) → lb_X12_readAnswer_73  g M0 a0 post bk35  M) ∧ (¬ ((mI M a0 3) ≤ (mI M a0 4)) → ∃ q45, mR M a0 1 = some q45 ∧ (okc (gB g) M0 q45 14 ∧ (vp_in (mI M a0 4) (mN M0 q45) ∧ ((((mI M q45 (Int32.toNatClampNeg (mI M a0 4))) = 32) → ∀ M50, M50 = uI M a0 4 ((mI M a0 4) + 1) → (bk35 (M50))) ∧ (¬ ((mI M q45 (Int32.toNatClampNeg (mI M a0 4))) = 32) → lb_X12_readAnswer_73  g M0 a0 post bk35  M)))))
set_option maxRecDepth 100000 in
def wp_X12_readAnswer  (g : Gh) (M0 : Mem) (a0 : Nat) (post : Int32 → Mem → Prop) : Prop :=
  okc (gB g) M0 a0 12 ∧ (∀ M52, M52 = uI M0 a0 3 (mI M0 a0 2) → (∀ M54, M54 = uI M52 a0 2 0 → (∀ M56, M56 = uI M54 a0 4 0 → (∀ M58, M58 = uI M56 a0 26 0 → ((((mI M58 a0 3) ≤ 200) → (∃ n : Nat, lfp (fun bk z => bd_X12_readAnswer_35  g M0 a0 post  bk z) n (M58))) ∧ (¬ ((mI M58 a0 3) ≤ 200) → post 0 M58))))))
set_option maxHeartbeats 4000000 in
set_option maxRecDepth 100000 in
theorem lt_X12_readAnswer_206 {l : Launch} {g : Gh} {p : Program} {e : Env} {s : State} {m : MethodId} {args : Array Value} {below : List Frame} {meth : Method} {c : Code} {H : Heap} {locs : List Loc} {ls : Array Slot} {M0 M : Mem} {a0 : Nat} {post : Int32 → Mem → Prop}  {s0 : Nat} {s1 : Int32} {s2 : Int32}  (C : Cx g p s m args c cX12_readAnswer 1 RX12) (hr : meth.sig.returnType = (some .boolean)) (hlk : meth.locks = false) (hn : meth.name = "readAnswer") (h0 : okc (gB g) M0 a0 12) {bk35 : Mem → Prop} (hk35 : ∀  (M : Mem) (H : Heap) (locs : List Loc) (ls : Array Slot), bk35 (M) → Wd g s M0 M H locs → lv_has ls 1 [(0, .ref a0)] → W p l e (rmo 2 0 0) s m args below meth c H locs 0 0 (MQ below (Cq g M0 (pI post)) args s 0 0 (gA g)) (F0 m 35 ls [])) (hq : lb_X12_readAnswer_206  g M0 a0 post bk35 s0 s1 s2 M) (hw : Wd g s M0 M H locs) (hl : lv_has ls 1 [(0, .ref a0)]) : W p l e (rmo 2 0 0) s m args below meth c H locs 0 0 (MQ below (Cq g M0 (pI post)) args s 0 0 (gA g)) (F0 m 206 ls [.int s2, .int s1, .ref s0]) := by
  have hx := C.1.1
  have hb := C.1.2.1
  unfold lb_X12_readAnswer_206 at hq
  obtain ⟨h1, hq⟩ := hq
  obtain ⟨h2, hq⟩ := hq
  refine q_zast C hw hw.2.2.1 h1 h2 dX12_readAnswer_206 (fun H locs hw => ?_)
  generalize e4 : uI M s0 (Int32.toNatClampNeg s1) (vp_nar .boolean s2) = M3 at hw
  replace hq := hq M3 e4.symm
  refine lv_aload_n hx hb dX12_readAnswer_207 rfl (lv_at hl 0 rfl) ?_
  obtain ⟨q5, e6, hq⟩ := hq
  refine gfX12_48 C hw hw.2.2.1 h0 e6 dX12_readAnswer_208 ?_
  refine lv_aload_n hx hb dX12_readAnswer_211 rfl (lv_at hl 0 rfl) ?_
  refine gfX12_225 C hw hw.2.2.1 h0 dX12_readAnswer_212 ?_
  refine lv_aload_n hx hb dX12_readAnswer_215 rfl (lv_at hl 0 rfl) ?_
  refine gfX12_163 C hw hw.2.2.1 h0 dX12_readAnswer_216 ?_
  obtain ⟨h7, hq⟩ := hq
  obtain ⟨h8, hq⟩ := hq
  refine q_last C hw hw.2.2.1 h7 h8 dX12_readAnswer_219 (fun H locs hw => ?_)
  generalize e10 : uJ M3 q5 (Int32.toNatClampNeg (mI M3 a0 26)) (mJ M3 a0 8) = M9 at hw
  replace hq := hq M9 e10.symm
  have e6 : mR M9 a0 25 = some q5 := by rw [← e10, mR_uJ]; exact e6
  refine lv_aload_n hx hb dX12_readAnswer_220 rfl (lv_at hl 0 rfl) ?_
  refine lv_dup hx hb dX12_readAnswer_221 rfl ?_
  refine gfX12_225 C hw hw.2.2.1 h0 dX12_readAnswer_222 ?_
  refine lv_iconst (v := 1) hx hb dX12_readAnswer_225 (by decide) ?_
  refine lv_iadd hx hb dX12_readAnswer_226 ?_
  refine pfX12_225 C hw hw.2.2.1 h0 dX12_readAnswer_227 (fun H locs hw => ?_)
  generalize e12 : uI M9 a0 26 ((mI M9 a0 26) + 1) = M11 at hw
  replace hq := hq M11 e12.symm
  have e6 : mR M11 a0 25 = some q5 := by rw [← e12, mR_uI]; exact e6
  refine lv_goto (tgt := 35) hx hb dX12_readAnswer_230 (by decide) ?_
  exact hk35 _ _ _ _ hq hw (lv_sub hl [0] rfl)
set_option maxHeartbeats 4000000 in
set_option maxRecDepth 100000 in
theorem lt_X12_readAnswer_185 {l : Launch} {g : Gh} {p : Program} {e : Env} {s : State} {m : MethodId} {args : Array Value} {below : List Frame} {meth : Method} {c : Code} {H : Heap} {locs : List Loc} {ls : Array Slot} {M0 M : Mem} {a0 : Nat} {post : Int32 → Mem → Prop}    (C : Cx g p s m args c cX12_readAnswer 1 RX12) (hr : meth.sig.returnType = (some .boolean)) (hlk : meth.locks = false) (hn : meth.name = "readAnswer") (h0 : okc (gB g) M0 a0 12) {bk35 : Mem → Prop} (hk35 : ∀  (M : Mem) (H : Heap) (locs : List Loc) (ls : Array Slot), bk35 (M) → Wd g s M0 M H locs → lv_has ls 1 [(0, .ref a0)] → W p l e (rmo 2 0 0) s m args below meth c H locs 0 0 (MQ below (Cq g M0 (pI post)) args s 0 0 (gA g)) (F0 m 35 ls [])) (hq : lb_X12_readAnswer_185  g M0 a0 post bk35  M) (hw : Wd g s M0 M H locs) (hl : lv_has ls 1 [(0, .ref a0)]) : W p l e (rmo 2 0 0) s m args below meth c H locs 0 0 (MQ below (Cq g M0 (pI post)) args s 0 0 (gA g)) (F0 m 185 ls []) := by
  have hx := C.1.1
  have hb := C.1.2.1
  unfold lb_X12_readAnswer_185 at hq
  refine lv_aload_n hx hb dX12_readAnswer_185 rfl (lv_at hl 0 rfl) ?_
  obtain ⟨q13, e14, hq⟩ := hq
  refine gfX12_45 C hw hw.2.2.1 h0 e14 dX12_readAnswer_186 ?_
  refine lv_aload_n hx hb dX12_readAnswer_189 rfl (lv_at hl 0 rfl) ?_
  refine gfX12_225 C hw hw.2.2.1 h0 dX12_readAnswer_190 ?_
  refine lv_aload_n hx hb dX12_readAnswer_193 rfl (lv_at hl 0 rfl) ?_
  refine gfX12_143 C hw hw.2.2.1 h0 dX12_readAnswer_194 ?_
  refine lv_iconst (v := 2) hx hb dX12_readAnswer_197 (by decide) ?_
  refine lv_icmp_ne (tgt := 205) hx hb dX12_readAnswer_198 (by decide) (fun c15 => ?_) (fun c15 => ?_)
  · replace hq := hq.2 c15
    refine lv_iconst (v := 0) hx hb dX12_readAnswer_205 (by decide) ?_
    exact lt_X12_readAnswer_206  C hr hlk hn h0 hk35 hq hw (lv_sub hl [0] rfl)
  · replace hq := hq.1 c15
    refine lv_iconst (v := 1) hx hb dX12_readAnswer_201 (by decide) ?_
    refine lv_goto (tgt := 206) hx hb dX12_readAnswer_202 (by decide) ?_
    exact lt_X12_readAnswer_206  C hr hlk hn h0 hk35 hq hw (lv_sub hl [0] rfl)
set_option maxHeartbeats 4000000 in
set_option maxRecDepth 100000 in
theorem lt_X12_readAnswer_146 {l : Launch} {g : Gh} {p : Program} {e : Env} {s : State} {m : MethodId} {args : Array Value} {below : List Frame} {meth : Method} {c : Code} {H : Heap} {locs : List Loc} {ls : Array Slot} {M0 M : Mem} {a0 : Nat} {post : Int32 → Mem → Prop}    (C : Cx g p s m args c cX12_readAnswer 1 RX12) (hr : meth.sig.returnType = (some .boolean)) (hlk : meth.locks = false) (hn : meth.name = "readAnswer") (h0 : okc (gB g) M0 a0 12) {bk35 : Mem → Prop} (hk35 : ∀  (M : Mem) (H : Heap) (locs : List Loc) (ls : Array Slot), bk35 (M) → Wd g s M0 M H locs → lv_has ls 1 [(0, .ref a0)] → W p l e (rmo 2 0 0) s m args below meth c H locs 0 0 (MQ below (Cq g M0 (pI post)) args s 0 0 (gA g)) (F0 m 35 ls [])) (hq : lb_X12_readAnswer_146  g M0 a0 post bk35  M) (hw : Wd g s M0 M H locs) (hl : lv_has ls 1 [(0, .ref a0)]) : W p l e (rmo 2 0 0) s m args below meth c H locs 0 0 (MQ below (Cq g M0 (pI post)) args s 0 0 (gA g)) (F0 m 146 ls []) := by
  have hx := C.1.1
  have hb := C.1.2.1
  unfold lb_X12_readAnswer_146 at hq
  refine lv_aload_n hx hb dX12_readAnswer_146 rfl (lv_at hl 0 rfl) ?_
  refine r_callV (T := TX12) (N := 67) (ci := 12) (index := 153) (n := 0) (d2 := 1) (mc := 0) (ms := 0) (As := []) (rest := []) C hw (ct_X12_readWord hq) kvX12_153 hq.1 (by decide) rfl ⟨by decide, by decide⟩ ⟨by decide, by decide⟩ rfl hl.1 rfl (Nat.le_of_ble_eq_true rfl) dX12_readAnswer_147 (fun r M17 H locs hp hle hw => ?_)
  obtain ⟨rfl, hq⟩ := hp
  refine W.eq (g2 := F0 m 150 ls []) rfl ?_
  refine lv_aload_n hx hb dX12_readAnswer_150 rfl (lv_at hl 0 rfl) ?_
  refine gfX12_143 C hw hw.2.2.1 h0 dX12_readAnswer_151 ?_
  refine lv_iconst (v := 1) hx hb dX12_readAnswer_154 (by decide) ?_
  refine lv_icmp_eq (tgt := 183) hx hb dX12_readAnswer_155 (by decide) (fun c18 => ?_) (fun c18 => ?_)
  · replace hq := hq.1 c18
    refine lv_iconst (v := 0) hx hb dX12_readAnswer_183 (by decide) ?_
    exact r_zret C hr hlk hw dX12_readAnswer_184 (Nat.le_refl _) (Nat.le_refl _) (by decide) ⟨_, rfl, hq⟩
  · replace hq := hq.2 c18
    refine lv_aload_n hx hb dX12_readAnswer_158 rfl (lv_at hl 0 rfl) ?_
    refine gfX12_137 C hw hw.2.2.1 h0 dX12_readAnswer_159 ?_
    refine lv_aload_n hx hb dX12_readAnswer_162 rfl (lv_at hl 0 rfl) ?_
    refine gfX12_134 C hw hw.2.2.1 h0 dX12_readAnswer_163 ?_
    refine lv_icmp_ge (tgt := 185) hx hb dX12_readAnswer_166 (by decide) (fun c19 => ?_) (fun c19 => ?_)
    · replace hq := hq.1 c19
      exact lt_X12_readAnswer_185  C hr hlk hn h0 hk35 hq hw (lv_sub hl [0] rfl)
    · replace hq := hq.2 c19
      refine lv_aload_n hx hb dX12_readAnswer_169 rfl (lv_at hl 0 rfl) ?_
      obtain ⟨q20, e21, hq⟩ := hq
      refine gfX12_7 C hw hw.2.2.1 h0 e21 dX12_readAnswer_170 ?_
      refine lv_aload_n hx hb dX12_readAnswer_173 rfl (lv_at hl 0 rfl) ?_
      refine gfX12_137 C hw hw.2.2.1 h0 dX12_readAnswer_174 ?_
      obtain ⟨h22, hq⟩ := hq
      obtain ⟨h23, hq⟩ := hq
      refine q_iald C hw hw.2.2.1 h22 h23 dX12_readAnswer_177 ?_
      refine lv_bipush (v := 32) hx hb dX12_readAnswer_178 (by decide) ?_
      refine lv_icmp_eq (tgt := 185) hx hb dX12_readAnswer_180 (by decide) (fun c24 => ?_) (fun c24 => ?_)
      · replace hq := hq.1 c24
        exact lt_X12_readAnswer_185  C hr hlk hn h0 hk35 hq hw (lv_sub hl [0] rfl)
      · replace hq := hq.2 c24
        refine lv_iconst (v := 0) hx hb dX12_readAnswer_183 (by decide) ?_
        exact r_zret C hr hlk hw dX12_readAnswer_184 (Nat.le_refl _) (Nat.le_refl _) (by decide) ⟨_, rfl, hq⟩
set_option maxHeartbeats 4000000 in
set_option maxRecDepth 100000 in
theorem lt_X12_readAnswer_84 {l : Launch} {g : Gh} {p : Program} {e : Env} {s : State} {m : MethodId} {args : Array Value} {below : List Frame} {meth : Method} {c : Code} {H : Heap} {locs : List Loc} {ls : Array Slot} {M0 M : Mem} {a0 : Nat} {post : Int32 → Mem → Prop}    (C : Cx g p s m args c cX12_readAnswer 1 RX12) (hr : meth.sig.returnType = (some .boolean)) (hlk : meth.locks = false) (hn : meth.name = "readAnswer") (h0 : okc (gB g) M0 a0 12)  (hq : lb_X12_readAnswer_84  g M0 a0 post   M) (hw : Wd g s M0 M H locs) (hl : lv_has ls 1 [(0, .ref a0)]) : W p l e (rmo 2 0 0) s m args below meth c H locs 0 0 (MQ below (Cq g M0 (pI post)) args s 0 0 (gA g)) (F0 m 84 ls []) := by
  have hx := C.1.1
  have hb := C.1.2.1
  unfold lb_X12_readAnswer_84 at hq
  refine lv_aload_n hx hb dX12_readAnswer_84 rfl (lv_at hl 0 rfl) ?_
  refine gfX12_225 C hw hw.2.2.1 h0 dX12_readAnswer_85 ?_
  refine lv_if_le (tgt := 95) hx hb dX12_readAnswer_88 (by decide) (fun c25 => ?_) (fun c25 => ?_)
  · replace hq := hq.1 c25
    refine lv_iconst (v := 0) hx hb dX12_readAnswer_95 (by decide) ?_
    exact r_zret C hr hlk hw dX12_readAnswer_96 (Nat.le_refl _) (Nat.le_refl _) (by decide) ⟨_, rfl, hq⟩
  · replace hq := hq.2 c25
    refine lv_iconst (v := 1) hx hb dX12_readAnswer_91 (by decide) ?_
    refine lv_goto (tgt := 96) hx hb dX12_readAnswer_92 (by decide) ?_
    exact r_zret C hr hlk hw dX12_readAnswer_96 (Nat.le_refl _) (Nat.le_refl _) (by decide) ⟨_, rfl, hq⟩
set_option maxHeartbeats 4000000 in
set_option maxRecDepth 100000 in
theorem lt_X12_readAnswer_73 {l : Launch} {g : Gh} {p : Program} {e : Env} {s : State} {m : MethodId} {args : Array Value} {below : List Frame} {meth : Method} {c : Code} {H : Heap} {locs : List Loc} {ls : Array Slot} {M0 M : Mem} {a0 : Nat} {post : Int32 → Mem → Prop}    (C : Cx g p s m args c cX12_readAnswer 1 RX12) (hr : meth.sig.returnType = (some .boolean)) (hlk : meth.locks = false) (hn : meth.name = "readAnswer") (h0 : okc (gB g) M0 a0 12) {bk35 : Mem → Prop} (hk35 : ∀  (M : Mem) (H : Heap) (locs : List Loc) (ls : Array Slot), bk35 (M) → Wd g s M0 M H locs → lv_has ls 1 [(0, .ref a0)] → W p l e (rmo 2 0 0) s m args below meth c H locs 0 0 (MQ below (Cq g M0 (pI post)) args s 0 0 (gA g)) (F0 m 35 ls [])) (hq : lb_X12_readAnswer_73  g M0 a0 post bk35  M) (hw : Wd g s M0 M H locs) (hl : lv_has ls 1 [(0, .ref a0)]) : W p l e (rmo 2 0 0) s m args below meth c H locs 0 0 (MQ below (Cq g M0 (pI post)) args s 0 0 (gA g)) (F0 m 73 ls []) := by
  have hx := C.1.1
  have hb := C.1.2.1
  unfold lb_X12_readAnswer_73 at hq
  refine lv_aload_n hx hb dX12_readAnswer_73 rfl (lv_at hl 0 rfl) ?_
  refine gfX12_137 C hw hw.2.2.1 h0 dX12_readAnswer_74 ?_
  refine lv_aload_n hx hb dX12_readAnswer_77 rfl (lv_at hl 0 rfl) ?_
  refine gfX12_134 C hw hw.2.2.1 h0 dX12_readAnswer_78 ?_
  refine lv_icmp_lt (tgt := 97) hx hb dX12_readAnswer_81 (by decide) (fun c26 => ?_) (fun c26 => ?_)
  · replace hq := hq.1 c26
    refine lv_aload_n hx hb dX12_readAnswer_97 rfl (lv_at hl 0 rfl) ?_
    refine lv_aload_n hx hb dX12_readAnswer_98 rfl (lv_at hl 0 rfl) ?_
    refine gfX12_137 C hw hw.2.2.1 h0 dX12_readAnswer_99 ?_
    refine pfX12_140 C hw hw.2.2.1 h0 dX12_readAnswer_102 (fun H locs hw => ?_)
    generalize e28 : uI M a0 5 (mI M a0 4) = M27 at hw
    replace hq := hq M27 e28.symm
    refine lv_aload_n hx hb dX12_readAnswer_105 rfl (lv_at hl 0 rfl) ?_
    refine gfX12_225 C hw hw.2.2.1 h0 dX12_readAnswer_106 ?_
    refine lv_bipush (v := 20) hx hb dX12_readAnswer_109 (by decide) ?_
    refine lv_icmp_eq (tgt := 144) hx hb dX12_readAnswer_111 (by decide) (fun c29 => ?_) (fun c29 => ?_)
    · replace hq := hq.1 c29
      refine lv_iconst (v := 0) hx hb dX12_readAnswer_144 (by decide) ?_
      exact r_zret C hr hlk hw dX12_readAnswer_145 (Nat.le_refl _) (Nat.le_refl _) (by decide) ⟨_, rfl, hq⟩
    · replace hq := hq.2 c29
      refine lv_aload_n hx hb dX12_readAnswer_114 rfl (lv_at hl 0 rfl) ?_
      obtain ⟨q30, e31, hq⟩ := hq
      refine gfX12_7 C hw hw.2.2.1 h0 e31 dX12_readAnswer_115 ?_
      refine lv_aload_n hx hb dX12_readAnswer_118 rfl (lv_at hl 0 rfl) ?_
      refine gfX12_137 C hw hw.2.2.1 h0 dX12_readAnswer_119 ?_
      obtain ⟨h32, hq⟩ := hq
      obtain ⟨h33, hq⟩ := hq
      refine q_iald C hw hw.2.2.1 h32 h33 dX12_readAnswer_122 ?_
      refine r_callS (index := 146) (n := 1) (d2 := 0) (mc := 0) (ms := 0) (As := [.int (mI M27 q30 (Int32.toNatClampNeg (mI M27 a0 4)))]) (rest := []) C hw (ct_X12_isLetter hq) ksX12_146 ⟨by decide, by decide⟩ ⟨by decide, by decide⟩ rfl hl.1 rfl (Nat.le_of_ble_eq_true rfl) dX12_readAnswer_123 (fun r M35 H locs hp hle hw => ?_)
      obtain ⟨v34, rfl, hq⟩ := hp
      refine W.eq (g2 := F0 m 126 ls [.int v34]) rfl ?_
      refine lv_if_ne (tgt := 146) hx hb dX12_readAnswer_126 (by decide) (fun c36 => ?_) (fun c36 => ?_)
      · replace hq := hq.2 c36
        exact lt_X12_readAnswer_146  C hr hlk hn h0 hk35 hq hw (lv_sub hl [0] rfl)
      · replace hq := hq.1 c36
        refine lv_aload_n hx hb dX12_readAnswer_129 rfl (lv_at hl 0 rfl) ?_
        obtain ⟨q37, e38, hq⟩ := hq
        refine gfX12_7 C hw hw.2.2.1 h0 e38 dX12_readAnswer_130 ?_
        refine lv_aload_n hx hb dX12_readAnswer_133 rfl (lv_at hl 0 rfl) ?_
        refine gfX12_137 C hw hw.2.2.1 h0 dX12_readAnswer_134 ?_
        obtain ⟨h39, hq⟩ := hq
        obtain ⟨h40, hq⟩ := hq
        refine q_iald C hw hw.2.2.1 h39 h40 dX12_readAnswer_137 ?_
        refine r_callS (index := 150) (n := 1) (d2 := 0) (mc := 0) (ms := 0) (As := [.int (mI M35 q37 (Int32.toNatClampNeg (mI M35 a0 4)))]) (rest := []) C hw (ct_X12_isDigit hq) ksX12_150 ⟨by decide, by decide⟩ ⟨by decide, by decide⟩ rfl hl.1 rfl (Nat.le_of_ble_eq_true rfl) dX12_readAnswer_138 (fun r M42 H locs hp hle hw => ?_)
        obtain ⟨v41, rfl, hq⟩ := hp
        refine W.eq (g2 := F0 m 141 ls [.int v41]) rfl ?_
        refine lv_if_ne (tgt := 146) hx hb dX12_readAnswer_141 (by decide) (fun c43 => ?_) (fun c43 => ?_)
        · replace hq := hq.2 c43
          exact lt_X12_readAnswer_146  C hr hlk hn h0 hk35 hq hw (lv_sub hl [0] rfl)
        · replace hq := hq.1 c43
          refine lv_iconst (v := 0) hx hb dX12_readAnswer_144 (by decide) ?_
          exact r_zret C hr hlk hw dX12_readAnswer_145 (Nat.le_refl _) (Nat.le_refl _) (by decide) ⟨_, rfl, hq⟩
  · replace hq := hq.2 c26
    exact lt_X12_readAnswer_84  C hr hlk hn h0  hq hw (lv_sub hl [0] rfl)
set_option maxHeartbeats 4000000 in
set_option maxRecDepth 100000 in
theorem lp_X12_readAnswer_35 {l : Launch} {g : Gh} {p : Program} {e : Env} {s : State} {m : MethodId} {args : Array Value} {below : List Frame} {meth : Method} {c : Code} {M0 : Mem} {a0 : Nat} {post : Int32 → Mem → Prop}  (C : Cx g p s m args c cX12_readAnswer 1 RX12) (hr : meth.sig.returnType = (some .boolean)) (hlk : meth.locks = false) (hn : meth.name = "readAnswer") (h0 : okc (gB g) M0 a0 12)  : ∀ (nf : Nat)   (M : Mem) (H : Heap) (locs : List Loc) (ls : Array Slot), lfp (fun bk z => bd_X12_readAnswer_35  g M0 a0 post  bk z) nf (M) → Wd g s M0 M H locs → lv_has ls 1 [(0, .ref a0)] → W p l e (rmo 2 0 0) s m args below meth c H locs 0 0 (MQ below (Cq g M0 (pI post)) args s 0 0 (gA g)) (F0 m 35 ls []) := by
  have hx := C.1.1
  have hb := C.1.2.1
  intro nf
  induction nf with
  | zero => intro _ H locs ls hq; exact hq.elim
  | succ nf hk35 =>
    intro M H locs ls hq hw hl
    replace hq : bd_X12_readAnswer_35  g M0 a0 post  (lfp (fun bk z => bd_X12_readAnswer_35  g M0 a0 post  bk z) nf) M := hq
    unfold bd_X12_readAnswer_35 at hq
    refine lv_aload_n hx hb dX12_readAnswer_35 rfl (lv_at hl 0 rfl) ?_
    refine gfX12_137 C hw hw.2.2.1 h0 dX12_readAnswer_36 ?_
    refine lv_aload_n hx hb dX12_readAnswer_39 rfl (lv_at hl 0 rfl) ?_
    refine gfX12_134 C hw hw.2.2.1 h0 dX12_readAnswer_40 ?_
    refine lv_icmp_ge (tgt := 73) hx hb dX12_readAnswer_43 (by decide) (fun c44 => ?_) (fun c44 => ?_)
    · replace hq := hq.1 c44
      exact lt_X12_readAnswer_73  C hr hlk hn h0 hk35 hq hw (lv_sub hl [0] rfl)
    · replace hq := hq.2 c44
      refine lv_aload_n hx hb dX12_readAnswer_46 rfl (lv_at hl 0 rfl) ?_
      obtain ⟨q45, e46, hq⟩ := hq
      refine gfX12_7 C hw hw.2.2.1 h0 e46 dX12_readAnswer_47 ?_
      refine lv_aload_n hx hb dX12_readAnswer_50 rfl (lv_at hl 0 rfl) ?_
      refine gfX12_137 C hw hw.2.2.1 h0 dX12_readAnswer_51 ?_
      obtain ⟨h47, hq⟩ := hq
      obtain ⟨h48, hq⟩ := hq
      refine q_iald C hw hw.2.2.1 h47 h48 dX12_readAnswer_54 ?_
      refine lv_bipush (v := 32) hx hb dX12_readAnswer_55 (by decide) ?_
      refine lv_icmp_ne (tgt := 73) hx hb dX12_readAnswer_57 (by decide) (fun c49 => ?_) (fun c49 => ?_)
      · replace hq := hq.2 c49
        exact lt_X12_readAnswer_73  C hr hlk hn h0 hk35 hq hw (lv_sub hl [0] rfl)
      · replace hq := hq.1 c49
        refine lv_aload_n hx hb dX12_readAnswer_60 rfl (lv_at hl 0 rfl) ?_
        refine lv_dup hx hb dX12_readAnswer_61 rfl ?_
        refine gfX12_137 C hw hw.2.2.1 h0 dX12_readAnswer_62 ?_
        refine lv_iconst (v := 1) hx hb dX12_readAnswer_65 (by decide) ?_
        refine lv_iadd hx hb dX12_readAnswer_66 ?_
        refine pfX12_137 C hw hw.2.2.1 h0 dX12_readAnswer_67 (fun H locs hw => ?_)
        generalize e51 : uI M a0 4 ((mI M a0 4) + 1) = M50 at hw
        replace hq := hq M50 e51.symm
        have e46 : mR M50 a0 1 = some q45 := by rw [← e51, mR_uI]; exact e46
        refine lv_goto (tgt := 35) hx hb dX12_readAnswer_70 (by decide) ?_
        exact hk35 _ _ _ _ hq hw (lv_sub hl [0] rfl)
set_option maxHeartbeats 4000000 in
set_option maxRecDepth 100000 in
theorem ct_X12_readAnswer {l : Launch} {g : Gh} {M0 : Mem} {a0 : Nat} {post : Int32 → Mem → Prop}  (hq : wp_X12_readAnswer  g M0 a0 post) : Ct l g yX12_readAnswer cX12_readAnswer 1 (some .boolean) 2 0 0 [.ref a0] M0 (pI post) := by
  unfold wp_X12_readAnswer at hq
  obtain ⟨h0, hq⟩ := hq
  refine Ct.of (by decide) (Nat.le_of_ble_eq_true rfl) ?_
  intro p e s m below meth c ls C hr hlk hn hl hw
  have hx := C.1.1
  have hb := C.1.2.1
  have hl : lv_has ls 1 [(0, .ref a0)] := hl
  refine lv_aload_n hx hb dX12_readAnswer_0 rfl (lv_at hl 0 rfl) ?_
  refine lv_aload_n hx hb dX12_readAnswer_1 rfl (lv_at hl 0 rfl) ?_
  refine gfX12_127 C hw hw.2.2.1 h0 dX12_readAnswer_2 ?_
  refine pfX12_134 C hw hw.2.2.1 h0 dX12_readAnswer_5 (fun H locs hw => ?_)
  generalize e53 : uI M0 a0 3 (mI M0 a0 2) = M52 at hw
  replace hq := hq M52 e53.symm
  refine lv_aload_n hx hb dX12_readAnswer_8 rfl (lv_at hl 0 rfl) ?_
  refine lv_iconst (v := 0) hx hb dX12_readAnswer_9 (by decide) ?_
  refine pfX12_127 C hw hw.2.2.1 h0 dX12_readAnswer_10 (fun H locs hw => ?_)
  generalize e55 : uI M52 a0 2 0 = M54 at hw
  replace hq := hq M54 e55.symm
  refine lv_aload_n hx hb dX12_readAnswer_13 rfl (lv_at hl 0 rfl) ?_
  refine lv_iconst (v := 0) hx hb dX12_readAnswer_14 (by decide) ?_
  refine pfX12_137 C hw hw.2.2.1 h0 dX12_readAnswer_15 (fun H locs hw => ?_)
  generalize e57 : uI M54 a0 4 0 = M56 at hw
  replace hq := hq M56 e57.symm
  refine lv_aload_n hx hb dX12_readAnswer_18 rfl (lv_at hl 0 rfl) ?_
  refine lv_iconst (v := 0) hx hb dX12_readAnswer_19 (by decide) ?_
  refine pfX12_225 C hw hw.2.2.1 h0 dX12_readAnswer_20 (fun H locs hw => ?_)
  generalize e59 : uI M56 a0 26 0 = M58 at hw
  replace hq := hq M58 e59.symm
  refine lv_aload_n hx hb dX12_readAnswer_23 rfl (lv_at hl 0 rfl) ?_
  refine gfX12_134 C hw hw.2.2.1 h0 dX12_readAnswer_24 ?_
  refine lv_sipush (v := 200) hx hb dX12_readAnswer_27 (by decide) ?_
  refine lv_icmp_le (tgt := 35) hx hb dX12_readAnswer_30 (by decide) (fun c60 => ?_) (fun c60 => ?_)
  · replace hq := hq.1 c60
    obtain ⟨nf, hq⟩ := hq
    exact lp_X12_readAnswer_35  C hr hlk hn h0  nf _ _ _ _ hq hw (lv_sub hl [0] rfl)
  · replace hq := hq.2 c60
    refine lv_iconst (v := 0) hx hb dX12_readAnswer_33 (by decide) ?_
    exact r_zret C hr hlk hw dX12_readAnswer_34 (Nat.le_refl _) (Nat.le_refl _) (by decide) ⟨_, rfl, hq⟩
