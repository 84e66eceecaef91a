set_option maxRecDepth 100000 in
def lb_X12_init_259  (g : Gh) (M0 : Mem) (a0 : Nat) (post : Mem → Prop)    (M : Mem) : Prop :=
  ∀ q2 M3, q2 = mT M → M3 = nw M 17 120 → (∀ M7, M7 = uR M3 a0 60 (some q2) → (∀ q10 M11, q10 = mT M7 → M11 = nw M7 17 120 → (∀ M15, M15 = uR M11 a0 61 (some q10) → (∀ q18 M19, q18 = mT M15 → M19 = nw M15 14 12 → (∀ M23, M23 = uR M19 a0 62 (some q18) → (∀ q26 M27, q26 = mT M23 → M27 = nw M23 14 12 → (∀ M31, M31 = uR M27 a0 63 (some q26) → (∀ q34 M35, q34 = mT M31 → M35 = nw M31 14 12 → (∀ M39, M39 = uR M35 a0 64 (some q34) → (∀ q42 M43, q42 = mT M39 → M43 = nw M39 14 12 → (∀ M47, M47 = uR M43 a0 65 (some q42) → (post M47))))))))))))
set_option maxRecDepth 100000 in
def lb_X12_init_195  (g : Gh) (M0 : Mem) (a0 : Nat) (post : Mem → Prop)    (M : Mem) : Prop :=
  ∀ q51 M52, q51 = mT M → M52 = nw M 17 6 → (∀ M56, M56 = uR M52 a0 38 (some q51) → (∀ q59 M60, q59 = mT M56 → M60 = nw M56 14 48 → (∀ M64, M64 = uR M60 a0 41 (some q59) → (∀ q67 M68, q67 = mT M64 → M68 = nw M64 14 49 → (∀ M72, M72 = uR M68 a0 42 (some q67) → (∀ q75 M76, q75 = mT M72 → M76 = nw M72 14 8 → (∀ M80, M80 = uR M76 a0 43 (some q75) → (∀ q83 M84, q83 = mT M80 → M84 = nw M80 14 120 → (∀ M88, M88 = uR M84 a0 56 (some q83) → (∀ q91 M92, q91 = mT M88 → M92 = nw M88 14 120 → (∀ M96, M96 = uR M92 a0 57 (some q91) → (∀ q99 M100, q99 = mT M96 → M100 = nw M96 14 120 → (∀ M104, M104 = uR M100 a0 58 (some q99) → (∀ q107 M108, q107 = mT M104 → M108 = nw M104 14 120 → (∀ M112, M112 = uR M108 a0 59 (some q107) → (lb_X12_init_259  g M0 a0 post   M112))))))))))))))))
set_option maxRecDepth 100000 in
def lb_X12_init_131  (g : Gh) (M0 : Mem) (a0 : Nat) (post : Mem → Prop)    (M : Mem) : Prop :=
  ∀ q115 M116, q115 = mT M → M116 = nw M 14 6 → (∀ M120, M120 = uR M116 a0 30 (some q115) → (∀ q123 M124, q123 = mT M120 → M124 = nw M120 14 6 → (∀ M128, M128 = uR M124 a0 31 (some q123) → (∀ q131 M132, q131 = mT M128 → M132 = nw M128 14 6 → (∀ M136, M136 = uR M132 a0 32 (some q131) → (∀ q139 M140, q139 = mT M136 → M140 = nw M136 17 6 → (∀ M144, M144 = uR M140 a0 33 (some q139) → (∀ q147 M148, q147 = mT M144 → M148 = nw M144 14 6 → (∀ M152, M152 = uR M148 a0 34 (some q147) → (∀ q155 M156, q155 = mT M152 → M156 = nw M152 14 6 → (∀ M160, M160 = uR M156 a0 35 (some q155) → (∀ q163 M164, q163 = mT M160 → M164 = nw M160 14 6 → (∀ M168, M168 = uR M164 a0 36 (some q163) → (∀ q171 M172, q171 = mT M168 → M172 = nw M168 14 6 → (∀ M176, M176 = uR M172 a0 37 (some q171) → (lb_X12_init_195  g M0 a0 post   M176))))))))))))))))
set_option maxRecDepth 100000 in
def lb_X12_init_66  (g : Gh) (M0 : Mem) (a0 : Nat) (post : Mem → Prop)    (M : Mem) : Prop :=
  ∀ q179 M180, q179 = mT M → M180 = nw M 14 60 → (∀ M184, M184 = uR M180 a0 20 (some q179) → (∀ q187 M188, q187 = mT M184 → M188 = nw M184 14 60 → (∀ M192, M192 = uR M188 a0 21 (some q187) → (∀ q195 M196, q195 = mT M192 → M196 = nw M192 14 60 → (∀ M200, M200 = uR M196 a0 22 (some q195) → (∀ q203 M204, q203 = mT M200 → M204 = nw M200 17 60 → (∀ M208, M208 = uR M204 a0 23 (some q203) → (∀ q211 M212, q211 = mT M208 → M212 = nw M208 17 20 → (∀ M216, M216 = uR M212 a0 24 (some q211) → (∀ q219 M220, q219 = mT M216 → M220 = nw M216 15 20 → (∀ M224, M224 = uR M220 a0 25 (some q219) → (∀ q227 M228, q227 = mT M224 → M228 = nw M224 14 256 → (∀ M232, M232 = uR M228 a0 27 (some q227) → (∀ q235 M236, q235 = mT M232 → M236 = nw M232 14 6 → (∀ M240, M240 = uR M236 a0 29 (some q235) → (lb_X12_init_131  g M0 a0 post   M240))))))))))))))))
set_option maxRecDepth 100000 in
def wp_X12_init  (g : Gh) (M0 : Mem) (a0 : Nat) (post : Mem → Prop) : Prop :=
  okc (gB g) M0 a0 12 ∧ (∀ q243 M244, q243 = mT M0 → M244 = nw M0 14 260 → (∀ M248, M248 = uR M244 a0 1 (some q243) → (∀ q251 M252, q251 = mT M248 → M252 = nw M248 14 25200 → (∀ M256, M256 = uR M252 a0 11 (some q251) → (∀ q259 M260, q259 = mT M256 → M260 = nw M256 14 25200 → (∀ M264, M264 = uR M260 a0 12 (some q259) → (∀ q267 M268, q267 = mT M264 → M268 = nw M264 14 25200 → (∀ M272, M272 = uR M268 a0 13 (some q267) → (∀ q275 M276, q275 = mT M272 → M276 = nw M272 15 25200 → (∀ M280, M280 = uR M276 a0 14 (some q275) → (∀ q283 M284, q283 = mT M280 → M284 = nw M280 15 25200 → (∀ M288, M288 = uR M284 a0 15 (some q283) → (∀ q291 M292, q291 = mT M288 → M292 = nw M288 14 60 → (∀ M296, M296 = uR M292 a0 19 (some q291) → (lb_X12_init_66  g M0 a0 post   M296)))))))))))))))
set_option maxHeartbeats 4000000 in
set_option maxRecDepth 100000 in
theorem lt_X12_init_259 {l : Launch} {g : Gh} {p : Program} {e : Env} {s : State} {m : MethodId} {args : Array Value} {below : List Frame} {meth : Method} {c : Code} {H : Heap} {locs : List Loc} {ls : Array Slot} {M0 M : Mem} {a0 : Nat} {post : Mem → Prop}    (C : Cx g p s m args c cX12_init 1 RX12) (hr : meth.sig.returnType = none) (hlk : meth.locks = false) (hn : meth.name = "<init>") (h0 : okc (gB g) M0 a0 12)  (hq : lb_X12_init_259  g M0 a0 post   M) (hw : Wd g s M0 M H locs) (hl : lv_has ls 1 [(0, .ref a0)]) : W p l e (rmo 1 37 127789) s m args below meth c H locs 31 127501 (MQ below (Cq g M0 (pV post)) args s 37 127789 (gA g)) (F0 m 259 ls []) := by
  have hx := C.1.1
  have hb := C.1.2.1
  unfold lb_X12_init_259 at hq
  have h00 := h0
  replace h0 := h0.up hw.2.2.1
  refine lv_aload_n hx hb dX12_init_259 rfl (lv_at hl 0 rfl) ?_
  refine lv_bipush (v := 120) hx hb dX12_init_260 (by decide) ?_
  have hB := hw.B C.2.2.2.2.2
  have h1 : 31 + 1 ≤ 37 ∧ 127501 + 120 ≤ 127789 := by decide
  refine q_newa_17 (N' := 120) C hw (by decide) (by decide) (by decide) h1.1 h1.2 dX12_init_262 (fun H hw => ?_)
  have h6 := okc_nw (gB g) M 17 120 hB
  have h0 := h0.up (mle_nw M 17 120)
  generalize e4 : nw M 17 120 = M3 at hw h6 h0
  generalize e5 : mT M = q2 at h6 ⊢
  replace hq := hq q2 M3 e5.symm e4.symm
  refine pfX12_105 (v := (some q2)) C hw (mle_rf _) h0 hn dX12_init_264 (fun H locs hw => ?_)
  generalize e8 : uR M3 a0 60 (some q2) = M7 at hw
  replace hq := hq M7 e8.symm
  have h0 : okc (gB g) M7 a0 12 := by rw [← e8]; exact okc_uR h0
  refine lv_aload_n hx hb dX12_init_267 rfl (lv_at hl 0 rfl) ?_
  refine lv_bipush (v := 120) hx hb dX12_init_268 (by decide) ?_
  have hB := hw.B C.2.2.2.2.2
  have h9 : 32 + 1 ≤ 37 ∧ 127621 + 120 ≤ 127789 := by decide
  refine q_newa_17 (N' := 120) C hw (by decide) (by decide) (by decide) h9.1 h9.2 dX12_init_270 (fun H hw => ?_)
  have h14 := okc_nw (gB g) M7 17 120 hB
  have h0 := h0.up (mle_nw M7 17 120)
  generalize e12 : nw M7 17 120 = M11 at hw h14 h0
  generalize e13 : mT M7 = q10 at h14 ⊢
  replace hq := hq q10 M11 e13.symm e12.symm
  refine pfX12_108 (v := (some q10)) C hw (mle_rf _) h0 hn dX12_init_272 (fun H locs hw => ?_)
  generalize e16 : uR M11 a0 61 (some q10) = M15 at hw
  replace hq := hq M15 e16.symm
  have h0 : okc (gB g) M15 a0 12 := by rw [← e16]; exact okc_uR h0
  refine lv_aload_n hx hb dX12_init_275 rfl (lv_at hl 0 rfl) ?_
  refine lv_bipush (v := 12) hx hb dX12_init_276 (by decide) ?_
  have hB := hw.B C.2.2.2.2.2
  have h17 : 33 + 1 ≤ 37 ∧ 127741 + 12 ≤ 127789 := by decide
  refine q_newa_14 (N' := 12) C hw (by decide) (by decide) (by decide) h17.1 h17.2 dX12_init_278 (fun H hw => ?_)
  have h22 := okc_nw (gB g) M15 14 12 hB
  have h0 := h0.up (mle_nw M15 14 12)
  generalize e20 : nw M15 14 12 = M19 at hw h22 h0
  generalize e21 : mT M15 = q18 at h22 ⊢
  replace hq := hq q18 M19 e21.symm e20.symm
  refine pfX12_111 (v := (some q18)) C hw (mle_rf _) h0 hn dX12_init_280 (fun H locs hw => ?_)
  generalize e24 : uR M19 a0 62 (some q18) = M23 at hw
  replace hq := hq M23 e24.symm
  have h0 : okc (gB g) M23 a0 12 := by rw [← e24]; exact okc_uR h0
  refine lv_aload_n hx hb dX12_init_283 rfl (lv_at hl 0 rfl) ?_
  refine lv_bipush (v := 12) hx hb dX12_init_284 (by decide) ?_
  have hB := hw.B C.2.2.2.2.2
  have h25 : 34 + 1 ≤ 37 ∧ 127753 + 12 ≤ 127789 := by decide
  refine q_newa_14 (N' := 12) C hw (by decide) (by decide) (by decide) h25.1 h25.2 dX12_init_286 (fun H hw => ?_)
  have h30 := okc_nw (gB g) M23 14 12 hB
  have h0 := h0.up (mle_nw M23 14 12)
  generalize e28 : nw M23 14 12 = M27 at hw h30 h0
  generalize e29 : mT M23 = q26 at h30 ⊢
  replace hq := hq q26 M27 e29.symm e28.symm
  refine pfX12_114 (v := (some q26)) C hw (mle_rf _) h0 hn dX12_init_288 (fun H locs hw => ?_)
  generalize e32 : uR M27 a0 63 (some q26) = M31 at hw
  replace hq := hq M31 e32.symm
  have h0 : okc (gB g) M31 a0 12 := by rw [← e32]; exact okc_uR h0
  refine lv_aload_n hx hb dX12_init_291 rfl (lv_at hl 0 rfl) ?_
  refine lv_bipush (v := 12) hx hb dX12_init_292 (by decide) ?_
  have hB := hw.B C.2.2.2.2.2
  have h33 : 35 + 1 ≤ 37 ∧ 127765 + 12 ≤ 127789 := by decide
  refine q_newa_14 (N' := 12) C hw (by decide) (by decide) (by decide) h33.1 h33.2 dX12_init_294 (fun H hw => ?_)
  have h38 := okc_nw (gB g) M31 14 12 hB
  have h0 := h0.up (mle_nw M31 14 12)
  generalize e36 : nw M31 14 12 = M35 at hw h38 h0
  generalize e37 : mT M31 = q34 at h38 ⊢
  replace hq := hq q34 M35 e37.symm e36.symm
  refine pfX12_117 (v := (some q34)) C hw (mle_rf _) h0 hn dX12_init_296 (fun H locs hw => ?_)
  generalize e40 : uR M35 a0 64 (some q34) = M39 at hw
  replace hq := hq M39 e40.symm
  have h0 : okc (gB g) M39 a0 12 := by rw [← e40]; exact okc_uR h0
  refine lv_aload_n hx hb dX12_init_299 rfl (lv_at hl 0 rfl) ?_
  refine lv_bipush (v := 12) hx hb dX12_init_300 (by decide) ?_
  have hB := hw.B C.2.2.2.2.2
  have h41 : 36 + 1 ≤ 37 ∧ 127777 + 12 ≤ 127789 := by decide
  refine q_newa_14 (N' := 12) C hw (by decide) (by decide) (by decide) h41.1 h41.2 dX12_init_302 (fun H hw => ?_)
  have h46 := okc_nw (gB g) M39 14 12 hB
  have h0 := h0.up (mle_nw M39 14 12)
  generalize e44 : nw M39 14 12 = M43 at hw h46 h0
  generalize e45 : mT M39 = q42 at h46 ⊢
  replace hq := hq q42 M43 e45.symm e44.symm
  refine pfX12_120 (v := (some q42)) C hw (mle_rf _) h0 hn dX12_init_304 (fun H locs hw => ?_)
  generalize e48 : uR M43 a0 65 (some q42) = M47 at hw
  replace hq := hq M47 e48.symm
  have h0 : okc (gB g) M47 a0 12 := by rw [← e48]; exact okc_uR h0
  have h49 : 37 ≤ 37 ∧ 127789 ≤ 127789 := by decide
  exact r_vret C hr hlk hw dX12_init_307 h49.1 h49.2 ⟨rfl, hq⟩
set_option maxHeartbeats 4000000 in
set_option maxRecDepth 100000 in
theorem lt_X12_init_195 {l : Launch} {g : Gh} {p : Program} {e : Env} {s : State} {m : MethodId} {args : Array Value} {below : List Frame} {meth : Method} {c : Code} {H : Heap} {locs : List Loc} {ls : Array Slot} {M0 M : Mem} {a0 : Nat} {post : Mem → Prop}    (C : Cx g p s m args c cX12_init 1 RX12) (hr : meth.sig.returnType = none) (hlk : meth.locks = false) (hn : meth.name = "<init>") (h0 : okc (gB g) M0 a0 12)  (hq : lb_X12_init_195  g M0 a0 post   M) (hw : Wd g s M0 M H locs) (hl : lv_has ls 1 [(0, .ref a0)]) : W p l e (rmo 1 37 127789) s m args below meth c H locs 23 126910 (MQ below (Cq g M0 (pV post)) args s 37 127789 (gA g)) (F0 m 195 ls []) := by
  have hx := C.1.1
  have hb := C.1.2.1
  unfold lb_X12_init_195 at hq
  have h00 := h0
  replace h0 := h0.up hw.2.2.1
  refine lv_aload_n hx hb dX12_init_195 rfl (lv_at hl 0 rfl) ?_
  refine lv_bipush (v := 6) hx hb dX12_init_196 (by decide) ?_
  have hB := hw.B C.2.2.2.2.2
  have h50 : 23 + 1 ≤ 37 ∧ 126910 + 6 ≤ 127789 := by decide
  refine q_newa_17 (N' := 6) C hw (by decide) (by decide) (by decide) h50.1 h50.2 dX12_init_198 (fun H hw => ?_)
  have h55 := okc_nw (gB g) M 17 6 hB
  have h0 := h0.up (mle_nw M 17 6)
  generalize e53 : nw M 17 6 = M52 at hw h55 h0
  generalize e54 : mT M = q51 at h55 ⊢
  replace hq := hq q51 M52 e54.symm e53.symm
  refine pfX12_81 (v := (some q51)) C hw (mle_rf _) h0 hn dX12_init_200 (fun H locs hw => ?_)
  generalize e57 : uR M52 a0 38 (some q51) = M56 at hw
  replace hq := hq M56 e57.symm
  have h0 : okc (gB g) M56 a0 12 := by rw [← e57]; exact okc_uR h0
  refine lv_aload_n hx hb dX12_init_203 rfl (lv_at hl 0 rfl) ?_
  refine lv_bipush (v := 48) hx hb dX12_init_204 (by decide) ?_
  have hB := hw.B C.2.2.2.2.2
  have h58 : 24 + 1 ≤ 37 ∧ 126916 + 48 ≤ 127789 := by decide
  refine q_newa_14 (N' := 48) C hw (by decide) (by decide) (by decide) h58.1 h58.2 dX12_init_206 (fun H hw => ?_)
  have h63 := okc_nw (gB g) M56 14 48 hB
  have h0 := h0.up (mle_nw M56 14 48)
  generalize e61 : nw M56 14 48 = M60 at hw h63 h0
  generalize e62 : mT M56 = q59 at h63 ⊢
  replace hq := hq q59 M60 e62.symm e61.symm
  refine pfX12_84 (v := (some q59)) C hw (mle_rf _) h0 hn dX12_init_208 (fun H locs hw => ?_)
  generalize e65 : uR M60 a0 41 (some q59) = M64 at hw
  replace hq := hq M64 e65.symm
  have h0 : okc (gB g) M64 a0 12 := by rw [← e65]; exact okc_uR h0
  refine lv_aload_n hx hb dX12_init_211 rfl (lv_at hl 0 rfl) ?_
  refine lv_bipush (v := 49) hx hb dX12_init_212 (by decide) ?_
  have hB := hw.B C.2.2.2.2.2
  have h66 : 25 + 1 ≤ 37 ∧ 126964 + 49 ≤ 127789 := by decide
  refine q_newa_14 (N' := 49) C hw (by decide) (by decide) (by decide) h66.1 h66.2 dX12_init_214 (fun H hw => ?_)
  have h71 := okc_nw (gB g) M64 14 49 hB
  have h0 := h0.up (mle_nw M64 14 49)
  generalize e69 : nw M64 14 49 = M68 at hw h71 h0
  generalize e70 : mT M64 = q67 at h71 ⊢
  replace hq := hq q67 M68 e70.symm e69.symm
  refine pfX12_87 (v := (some q67)) C hw (mle_rf _) h0 hn dX12_init_216 (fun H locs hw => ?_)
  generalize e73 : uR M68 a0 42 (some q67) = M72 at hw
  replace hq := hq M72 e73.symm
  have h0 : okc (gB g) M72 a0 12 := by rw [← e73]; exact okc_uR h0
  refine lv_aload_n hx hb dX12_init_219 rfl (lv_at hl 0 rfl) ?_
  refine lv_bipush (v := 8) hx hb dX12_init_220 (by decide) ?_
  have hB := hw.B C.2.2.2.2.2
  have h74 : 26 + 1 ≤ 37 ∧ 127013 + 8 ≤ 127789 := by decide
  refine q_newa_14 (N' := 8) C hw (by decide) (by decide) (by decide) h74.1 h74.2 dX12_init_222 (fun H hw => ?_)
  have h79 := okc_nw (gB g) M72 14 8 hB
  have h0 := h0.up (mle_nw M72 14 8)
  generalize e77 : nw M72 14 8 = M76 at hw h79 h0
  generalize e78 : mT M72 = q75 at h79 ⊢
  replace hq := hq q75 M76 e78.symm e77.symm
  refine pfX12_90 (v := (some q75)) C hw (mle_rf _) h0 hn dX12_init_224 (fun H locs hw => ?_)
  generalize e81 : uR M76 a0 43 (some q75) = M80 at hw
  replace hq := hq M80 e81.symm
  have h0 : okc (gB g) M80 a0 12 := by rw [← e81]; exact okc_uR h0
  refine lv_aload_n hx hb dX12_init_227 rfl (lv_at hl 0 rfl) ?_
  refine lv_bipush (v := 120) hx hb dX12_init_228 (by decide) ?_
  have hB := hw.B C.2.2.2.2.2
  have h82 : 27 + 1 ≤ 37 ∧ 127021 + 120 ≤ 127789 := by decide
  refine q_newa_14 (N' := 120) C hw (by decide) (by decide) (by decide) h82.1 h82.2 dX12_init_230 (fun H hw => ?_)
  have h87 := okc_nw (gB g) M80 14 120 hB
  have h0 := h0.up (mle_nw M80 14 120)
  generalize e85 : nw M80 14 120 = M84 at hw h87 h0
  generalize e86 : mT M80 = q83 at h87 ⊢
  replace hq := hq q83 M84 e86.symm e85.symm
  refine pfX12_93 (v := (some q83)) C hw (mle_rf _) h0 hn dX12_init_232 (fun H locs hw => ?_)
  generalize e89 : uR M84 a0 56 (some q83) = M88 at hw
  replace hq := hq M88 e89.symm
  have h0 : okc (gB g) M88 a0 12 := by rw [← e89]; exact okc_uR h0
  refine lv_aload_n hx hb dX12_init_235 rfl (lv_at hl 0 rfl) ?_
  refine lv_bipush (v := 120) hx hb dX12_init_236 (by decide) ?_
  have hB := hw.B C.2.2.2.2.2
  have h90 : 28 + 1 ≤ 37 ∧ 127141 + 120 ≤ 127789 := by decide
  refine q_newa_14 (N' := 120) C hw (by decide) (by decide) (by decide) h90.1 h90.2 dX12_init_238 (fun H hw => ?_)
  have h95 := okc_nw (gB g) M88 14 120 hB
  have h0 := h0.up (mle_nw M88 14 120)
  generalize e93 : nw M88 14 120 = M92 at hw h95 h0
  generalize e94 : mT M88 = q91 at h95 ⊢
  replace hq := hq q91 M92 e94.symm e93.symm
  refine pfX12_96 (v := (some q91)) C hw (mle_rf _) h0 hn dX12_init_240 (fun H locs hw => ?_)
  generalize e97 : uR M92 a0 57 (some q91) = M96 at hw
  replace hq := hq M96 e97.symm
  have h0 : okc (gB g) M96 a0 12 := by rw [← e97]; exact okc_uR h0
  refine lv_aload_n hx hb dX12_init_243 rfl (lv_at hl 0 rfl) ?_
  refine lv_bipush (v := 120) hx hb dX12_init_244 (by decide) ?_
  have hB := hw.B C.2.2.2.2.2
  have h98 : 29 + 1 ≤ 37 ∧ 127261 + 120 ≤ 127789 := by decide
  refine q_newa_14 (N' := 120) C hw (by decide) (by decide) (by decide) h98.1 h98.2 dX12_init_246 (fun H hw => ?_)
  have h103 := okc_nw (gB g) M96 14 120 hB
  have h0 := h0.up (mle_nw M96 14 120)
  generalize e101 : nw M96 14 120 = M100 at hw h103 h0
  generalize e102 : mT M96 = q99 at h103 ⊢
  replace hq := hq q99 M100 e102.symm e101.symm
  refine pfX12_99 (v := (some q99)) C hw (mle_rf _) h0 hn dX12_init_248 (fun H locs hw => ?_)
  generalize e105 : uR M100 a0 58 (some q99) = M104 at hw
  replace hq := hq M104 e105.symm
  have h0 : okc (gB g) M104 a0 12 := by rw [← e105]; exact okc_uR h0
  refine lv_aload_n hx hb dX12_init_251 rfl (lv_at hl 0 rfl) ?_
  refine lv_bipush (v := 120) hx hb dX12_init_252 (by decide) ?_
  have hB := hw.B C.2.2.2.2.2
  have h106 : 30 + 1 ≤ 37 ∧ 127381 + 120 ≤ 127789 := by decide
  refine q_newa_14 (N' := 120) C hw (by decide) (by decide) (by decide) h106.1 h106.2 dX12_init_254 (fun H hw => ?_)
  have h111 := okc_nw (gB g) M104 14 120 hB
  have h0 := h0.up (mle_nw M104 14 120)
  generalize e109 : nw M104 14 120 = M108 at hw h111 h0
  generalize e110 : mT M104 = q107 at h111 ⊢
  replace hq := hq q107 M108 e110.symm e109.symm
  refine pfX12_102 (v := (some q107)) C hw (mle_rf _) h0 hn dX12_init_256 (fun H locs hw => ?_)
  generalize e113 : uR M108 a0 59 (some q107) = M112 at hw
  replace hq := hq M112 e113.symm
  have h0 : okc (gB g) M112 a0 12 := by rw [← e113]; exact okc_uR h0
  exact lt_X12_init_259  C hr hlk hn h00  hq hw (lv_sub hl [0] rfl)
set_option maxHeartbeats 4000000 in
set_option maxRecDepth 100000 in
theorem lt_X12_init_131 {l : Launch} {g : Gh} {p : Program} {e : Env} {s : State} {m : MethodId} {args : Array Value} {below : List Frame} {meth : Method} {c : Code} {H : Heap} {locs : List Loc} {ls : Array Slot} {M0 M : Mem} {a0 : Nat} {post : Mem → Prop}    (C : Cx g p s m args c cX12_init 1 RX12) (hr : meth.sig.returnType = none) (hlk : meth.locks = false) (hn : meth.name = "<init>") (h0 : okc (gB g) M0 a0 12)  (hq : lb_X12_init_131  g M0 a0 post   M) (hw : Wd g s M0 M H locs) (hl : lv_has ls 1 [(0, .ref a0)]) : W p l e (rmo 1 37 127789) s m args below meth c H locs 15 126862 (MQ below (Cq g M0 (pV post)) args s 37 127789 (gA g)) (F0 m 131 ls []) := by
  have hx := C.1.1
  have hb := C.1.2.1
  unfold lb_X12_init_131 at hq
  have h00 := h0
  replace h0 := h0.up hw.2.2.1
  refine lv_aload_n hx hb dX12_init_131 rfl (lv_at hl 0 rfl) ?_
  refine lv_bipush (v := 6) hx hb dX12_init_132 (by decide) ?_
  have hB := hw.B C.2.2.2.2.2
  have h114 : 15 + 1 ≤ 37 ∧ 126862 + 6 ≤ 127789 := by decide
  refine q_newa_14 (N' := 6) C hw (by decide) (by decide) (by decide) h114.1 h114.2 dX12_init_134 (fun H hw => ?_)
  have h119 := okc_nw (gB g) M 14 6 hB
  have h0 := h0.up (mle_nw M 14 6)
  generalize e117 : nw M 14 6 = M116 at hw h119 h0
  generalize e118 : mT M = q115 at h119 ⊢
  replace hq := hq q115 M116 e118.symm e117.symm
  refine pfX12_57 (v := (some q115)) C hw (mle_rf _) h0 hn dX12_init_136 (fun H locs hw => ?_)
  generalize e121 : uR M116 a0 30 (some q115) = M120 at hw
  replace hq := hq M120 e121.symm
  have h0 : okc (gB g) M120 a0 12 := by rw [← e121]; exact okc_uR h0
  refine lv_aload_n hx hb dX12_init_139 rfl (lv_at hl 0 rfl) ?_
  refine lv_bipush (v := 6) hx hb dX12_init_140 (by decide) ?_
  have hB := hw.B C.2.2.2.2.2
  have h122 : 16 + 1 ≤ 37 ∧ 126868 + 6 ≤ 127789 := by decide
  refine q_newa_14 (N' := 6) C hw (by decide) (by decide) (by decide) h122.1 h122.2 dX12_init_142 (fun H hw => ?_)
  have h127 := okc_nw (gB g) M120 14 6 hB
  have h0 := h0.up (mle_nw M120 14 6)
  generalize e125 : nw M120 14 6 = M124 at hw h127 h0
  generalize e126 : mT M120 = q123 at h127 ⊢
  replace hq := hq q123 M124 e126.symm e125.symm
  refine pfX12_60 (v := (some q123)) C hw (mle_rf _) h0 hn dX12_init_144 (fun H locs hw => ?_)
  generalize e129 : uR M124 a0 31 (some q123) = M128 at hw
  replace hq := hq M128 e129.symm
  have h0 : okc (gB g) M128 a0 12 := by rw [← e129]; exact okc_uR h0
  refine lv_aload_n hx hb dX12_init_147 rfl (lv_at hl 0 rfl) ?_
  refine lv_bipush (v := 6) hx hb dX12_init_148 (by decide) ?_
  have hB := hw.B C.2.2.2.2.2
  have h130 : 17 + 1 ≤ 37 ∧ 126874 + 6 ≤ 127789 := by decide
  refine q_newa_14 (N' := 6) C hw (by decide) (by decide) (by decide) h130.1 h130.2 dX12_init_150 (fun H hw => ?_)
  have h135 := okc_nw (gB g) M128 14 6 hB
  have h0 := h0.up (mle_nw M128 14 6)
  generalize e133 : nw M128 14 6 = M132 at hw h135 h0
  generalize e134 : mT M128 = q131 at h135 ⊢
  replace hq := hq q131 M132 e134.symm e133.symm
  refine pfX12_63 (v := (some q131)) C hw (mle_rf _) h0 hn dX12_init_152 (fun H locs hw => ?_)
  generalize e137 : uR M132 a0 32 (some q131) = M136 at hw
  replace hq := hq M136 e137.symm
  have h0 : okc (gB g) M136 a0 12 := by rw [← e137]; exact okc_uR h0
  refine lv_aload_n hx hb dX12_init_155 rfl (lv_at hl 0 rfl) ?_
  refine lv_bipush (v := 6) hx hb dX12_init_156 (by decide) ?_
  have hB := hw.B C.2.2.2.2.2
  have h138 : 18 + 1 ≤ 37 ∧ 126880 + 6 ≤ 127789 := by decide
  refine q_newa_17 (N' := 6) C hw (by decide) (by decide) (by decide) h138.1 h138.2 dX12_init_158 (fun H hw => ?_)
  have h143 := okc_nw (gB g) M136 17 6 hB
  have h0 := h0.up (mle_nw M136 17 6)
  generalize e141 : nw M136 17 6 = M140 at hw h143 h0
  generalize e142 : mT M136 = q139 at h143 ⊢
  replace hq := hq q139 M140 e142.symm e141.symm
  refine pfX12_66 (v := (some q139)) C hw (mle_rf _) h0 hn dX12_init_160 (fun H locs hw => ?_)
  generalize e145 : uR M140 a0 33 (some q139) = M144 at hw
  replace hq := hq M144 e145.symm
  have h0 : okc (gB g) M144 a0 12 := by rw [← e145]; exact okc_uR h0
  refine lv_aload_n hx hb dX12_init_163 rfl (lv_at hl 0 rfl) ?_
  refine lv_bipush (v := 6) hx hb dX12_init_164 (by decide) ?_
  have hB := hw.B C.2.2.2.2.2
  have h146 : 19 + 1 ≤ 37 ∧ 126886 + 6 ≤ 127789 := by decide
  refine q_newa_14 (N' := 6) C hw (by decide) (by decide) (by decide) h146.1 h146.2 dX12_init_166 (fun H hw => ?_)
  have h151 := okc_nw (gB g) M144 14 6 hB
  have h0 := h0.up (mle_nw M144 14 6)
  generalize e149 : nw M144 14 6 = M148 at hw h151 h0
  generalize e150 : mT M144 = q147 at h151 ⊢
  replace hq := hq q147 M148 e150.symm e149.symm
  refine pfX12_69 (v := (some q147)) C hw (mle_rf _) h0 hn dX12_init_168 (fun H locs hw => ?_)
  generalize e153 : uR M148 a0 34 (some q147) = M152 at hw
  replace hq := hq M152 e153.symm
  have h0 : okc (gB g) M152 a0 12 := by rw [← e153]; exact okc_uR h0
  refine lv_aload_n hx hb dX12_init_171 rfl (lv_at hl 0 rfl) ?_
  refine lv_bipush (v := 6) hx hb dX12_init_172 (by decide) ?_
  have hB := hw.B C.2.2.2.2.2
  have h154 : 20 + 1 ≤ 37 ∧ 126892 + 6 ≤ 127789 := by decide
  refine q_newa_14 (N' := 6) C hw (by decide) (by decide) (by decide) h154.1 h154.2 dX12_init_174 (fun H hw => ?_)
  have h159 := okc_nw (gB g) M152 14 6 hB
  have h0 := h0.up (mle_nw M152 14 6)
  generalize e157 : nw M152 14 6 = M156 at hw h159 h0
  generalize e158 : mT M152 = q155 at h159 ⊢
  replace hq := hq q155 M156 e158.symm e157.symm
  refine pfX12_72 (v := (some q155)) C hw (mle_rf _) h0 hn dX12_init_176 (fun H locs hw => ?_)
  generalize e161 : uR M156 a0 35 (some q155) = M160 at hw
  replace hq := hq M160 e161.symm
  have h0 : okc (gB g) M160 a0 12 := by rw [← e161]; exact okc_uR h0
  refine lv_aload_n hx hb dX12_init_179 rfl (lv_at hl 0 rfl) ?_
  refine lv_bipush (v := 6) hx hb dX12_init_180 (by decide) ?_
  have hB := hw.B C.2.2.2.2.2
  have h162 : 21 + 1 ≤ 37 ∧ 126898 + 6 ≤ 127789 := by decide
  refine q_newa_14 (N' := 6) C hw (by decide) (by decide) (by decide) h162.1 h162.2 dX12_init_182 (fun H hw => ?_)
  have h167 := okc_nw (gB g) M160 14 6 hB
  have h0 := h0.up (mle_nw M160 14 6)
  generalize e165 : nw M160 14 6 = M164 at hw h167 h0
  generalize e166 : mT M160 = q163 at h167 ⊢
  replace hq := hq q163 M164 e166.symm e165.symm
  refine pfX12_75 (v := (some q163)) C hw (mle_rf _) h0 hn dX12_init_184 (fun H locs hw => ?_)
  generalize e169 : uR M164 a0 36 (some q163) = M168 at hw
  replace hq := hq M168 e169.symm
  have h0 : okc (gB g) M168 a0 12 := by rw [← e169]; exact okc_uR h0
  refine lv_aload_n hx hb dX12_init_187 rfl (lv_at hl 0 rfl) ?_
  refine lv_bipush (v := 6) hx hb dX12_init_188 (by decide) ?_
  have hB := hw.B C.2.2.2.2.2
  have h170 : 22 + 1 ≤ 37 ∧ 126904 + 6 ≤ 127789 := by decide
  refine q_newa_14 (N' := 6) C hw (by decide) (by decide) (by decide) h170.1 h170.2 dX12_init_190 (fun H hw => ?_)
  have h175 := okc_nw (gB g) M168 14 6 hB
  have h0 := h0.up (mle_nw M168 14 6)
  generalize e173 : nw M168 14 6 = M172 at hw h175 h0
  generalize e174 : mT M168 = q171 at h175 ⊢
  replace hq := hq q171 M172 e174.symm e173.symm
  refine pfX12_78 (v := (some q171)) C hw (mle_rf _) h0 hn dX12_init_192 (fun H locs hw => ?_)
  generalize e177 : uR M172 a0 37 (some q171) = M176 at hw
  replace hq := hq M176 e177.symm
  have h0 : okc (gB g) M176 a0 12 := by rw [← e177]; exact okc_uR h0
  exact lt_X12_init_195  C hr hlk hn h00  hq hw (lv_sub hl [0] rfl)
set_option maxHeartbeats 4000000 in
set_option maxRecDepth 100000 in
theorem lt_X12_init_66 {l : Launch} {g : Gh} {p : Program} {e : Env} {s : State} {m : MethodId} {args : Array Value} {below : List Frame} {meth : Method} {c : Code} {H : Heap} {locs : List Loc} {ls : Array Slot} {M0 M : Mem} {a0 : Nat} {post : Mem → Prop}    (C : Cx g p s m args c cX12_init 1 RX12) (hr : meth.sig.returnType = none) (hlk : meth.locks = false) (hn : meth.name = "<init>") (h0 : okc (gB g) M0 a0 12)  (hq : lb_X12_init_66  g M0 a0 post   M) (hw : Wd g s M0 M H locs) (hl : lv_has ls 1 [(0, .ref a0)]) : W p l e (rmo 1 37 127789) s m args below meth c H locs 7 126320 (MQ below (Cq g M0 (pV post)) args s 37 127789 (gA g)) (F0 m 66 ls []) := by
  have hx := C.1.1
  have hb := C.1.2.1
  unfold lb_X12_init_66 at hq
  have h00 := h0
  replace h0 := h0.up hw.2.2.1
  refine lv_aload_n hx hb dX12_init_66 rfl (lv_at hl 0 rfl) ?_
  refine lv_bipush (v := 60) hx hb dX12_init_67 (by decide) ?_
  have hB := hw.B C.2.2.2.2.2
  have h178 : 7 + 1 ≤ 37 ∧ 126320 + 60 ≤ 127789 := by decide
  refine q_newa_14 (N' := 60) C hw (by decide) (by decide) (by decide) h178.1 h178.2 dX12_init_69 (fun H hw => ?_)
  have h183 := okc_nw (gB g) M 14 60 hB
  have h0 := h0.up (mle_nw M 14 60)
  generalize e181 : nw M 14 60 = M180 at hw h183 h0
  generalize e182 : mT M = q179 at h183 ⊢
  replace hq := hq q179 M180 e182.symm e181.symm
  refine pfX12_32 (v := (some q179)) C hw (mle_rf _) h0 hn dX12_init_71 (fun H locs hw => ?_)
  generalize e185 : uR M180 a0 20 (some q179) = M184 at hw
  replace hq := hq M184 e185.symm
  have h0 : okc (gB g) M184 a0 12 := by rw [← e185]; exact okc_uR h0
  refine lv_aload_n hx hb dX12_init_74 rfl (lv_at hl 0 rfl) ?_
  refine lv_bipush (v := 60) hx hb dX12_init_75 (by decide) ?_
  have hB := hw.B C.2.2.2.2.2
  have h186 : 8 + 1 ≤ 37 ∧ 126380 + 60 ≤ 127789 := by decide
  refine q_newa_14 (N' := 60) C hw (by decide) (by decide) (by decide) h186.1 h186.2 dX12_init_77 (fun H hw => ?_)
  have h191 := okc_nw (gB g) M184 14 60 hB
  have h0 := h0.up (mle_nw M184 14 60)
  generalize e189 : nw M184 14 60 = M188 at hw h191 h0
  generalize e190 : mT M184 = q187 at h191 ⊢
  replace hq := hq q187 M188 e190.symm e189.symm
  refine pfX12_35 (v := (some q187)) C hw (mle_rf _) h0 hn dX12_init_79 (fun H locs hw => ?_)
  generalize e193 : uR M188 a0 21 (some q187) = M192 at hw
  replace hq := hq M192 e193.symm
  have h0 : okc (gB g) M192 a0 12 := by rw [← e193]; exact okc_uR h0
  refine lv_aload_n hx hb dX12_init_82 rfl (lv_at hl 0 rfl) ?_
  refine lv_bipush (v := 60) hx hb dX12_init_83 (by decide) ?_
  have hB := hw.B C.2.2.2.2.2
  have h194 : 9 + 1 ≤ 37 ∧ 126440 + 60 ≤ 127789 := by decide
  refine q_newa_14 (N' := 60) C hw (by decide) (by decide) (by decide) h194.1 h194.2 dX12_init_85 (fun H hw => ?_)
  have h199 := okc_nw (gB g) M192 14 60 hB
  have h0 := h0.up (mle_nw M192 14 60)
  generalize e197 : nw M192 14 60 = M196 at hw h199 h0
  generalize e198 : mT M192 = q195 at h199 ⊢
  replace hq := hq q195 M196 e198.symm e197.symm
  refine pfX12_38 (v := (some q195)) C hw (mle_rf _) h0 hn dX12_init_87 (fun H locs hw => ?_)
  generalize e201 : uR M196 a0 22 (some q195) = M200 at hw
  replace hq := hq M200 e201.symm
  have h0 : okc (gB g) M200 a0 12 := by rw [← e201]; exact okc_uR h0
  refine lv_aload_n hx hb dX12_init_90 rfl (lv_at hl 0 rfl) ?_
  refine lv_bipush (v := 60) hx hb dX12_init_91 (by decide) ?_
  have hB := hw.B C.2.2.2.2.2
  have h202 : 10 + 1 ≤ 37 ∧ 126500 + 60 ≤ 127789 := by decide
  refine q_newa_17 (N' := 60) C hw (by decide) (by decide) (by decide) h202.1 h202.2 dX12_init_93 (fun H hw => ?_)
  have h207 := okc_nw (gB g) M200 17 60 hB
  have h0 := h0.up (mle_nw M200 17 60)
  generalize e205 : nw M200 17 60 = M204 at hw h207 h0
  generalize e206 : mT M200 = q203 at h207 ⊢
  replace hq := hq q203 M204 e206.symm e205.symm
  refine pfX12_41 (v := (some q203)) C hw (mle_rf _) h0 hn dX12_init_95 (fun H locs hw => ?_)
  generalize e209 : uR M204 a0 23 (some q203) = M208 at hw
  replace hq := hq M208 e209.symm
  have h0 : okc (gB g) M208 a0 12 := by rw [← e209]; exact okc_uR h0
  refine lv_aload_n hx hb dX12_init_98 rfl (lv_at hl 0 rfl) ?_
  refine lv_bipush (v := 20) hx hb dX12_init_99 (by decide) ?_
  have hB := hw.B C.2.2.2.2.2
  have h210 : 11 + 1 ≤ 37 ∧ 126560 + 20 ≤ 127789 := by decide
  refine q_newa_17 (N' := 20) C hw (by decide) (by decide) (by decide) h210.1 h210.2 dX12_init_101 (fun H hw => ?_)
  have h215 := okc_nw (gB g) M208 17 20 hB
  have h0 := h0.up (mle_nw M208 17 20)
  generalize e213 : nw M208 17 20 = M212 at hw h215 h0
  generalize e214 : mT M208 = q211 at h215 ⊢
  replace hq := hq q211 M212 e214.symm e213.symm
  refine pfX12_45 (v := (some q211)) C hw (mle_rf _) h0 hn dX12_init_103 (fun H locs hw => ?_)
  generalize e217 : uR M212 a0 24 (some q211) = M216 at hw
  replace hq := hq M216 e217.symm
  have h0 : okc (gB g) M216 a0 12 := by rw [← e217]; exact okc_uR h0
  refine lv_aload_n hx hb dX12_init_106 rfl (lv_at hl 0 rfl) ?_
  refine lv_bipush (v := 20) hx hb dX12_init_107 (by decide) ?_
  have hB := hw.B C.2.2.2.2.2
  have h218 : 12 + 1 ≤ 37 ∧ 126580 + 20 ≤ 127789 := by decide
  refine q_newa_15 (N' := 20) C hw (by decide) (by decide) (by decide) h218.1 h218.2 dX12_init_109 (fun H hw => ?_)
  have h223 := okc_nw (gB g) M216 15 20 hB
  have h0 := h0.up (mle_nw M216 15 20)
  generalize e221 : nw M216 15 20 = M220 at hw h223 h0
  generalize e222 : mT M216 = q219 at h223 ⊢
  replace hq := hq q219 M220 e222.symm e221.symm
  refine pfX12_48 (v := (some q219)) C hw (mle_rf _) h0 hn dX12_init_111 (fun H locs hw => ?_)
  generalize e225 : uR M220 a0 25 (some q219) = M224 at hw
  replace hq := hq M224 e225.symm
  have h0 : okc (gB g) M224 a0 12 := by rw [← e225]; exact okc_uR h0
  refine lv_aload_n hx hb dX12_init_114 rfl (lv_at hl 0 rfl) ?_
  refine lv_sipush (v := 256) hx hb dX12_init_115 (by decide) ?_
  have hB := hw.B C.2.2.2.2.2
  have h226 : 13 + 1 ≤ 37 ∧ 126600 + 256 ≤ 127789 := by decide
  refine q_newa_14 (N' := 256) C hw (by decide) (by decide) (by decide) h226.1 h226.2 dX12_init_118 (fun H hw => ?_)
  have h231 := okc_nw (gB g) M224 14 256 hB
  have h0 := h0.up (mle_nw M224 14 256)
  generalize e229 : nw M224 14 256 = M228 at hw h231 h0
  generalize e230 : mT M224 = q227 at h231 ⊢
  replace hq := hq q227 M228 e230.symm e229.symm
  refine pfX12_51 (v := (some q227)) C hw (mle_rf _) h0 hn dX12_init_120 (fun H locs hw => ?_)
  generalize e233 : uR M228 a0 27 (some q227) = M232 at hw
  replace hq := hq M232 e233.symm
  have h0 : okc (gB g) M232 a0 12 := by rw [← e233]; exact okc_uR h0
  refine lv_aload_n hx hb dX12_init_123 rfl (lv_at hl 0 rfl) ?_
  refine lv_bipush (v := 6) hx hb dX12_init_124 (by decide) ?_
  have hB := hw.B C.2.2.2.2.2
  have h234 : 14 + 1 ≤ 37 ∧ 126856 + 6 ≤ 127789 := by decide
  refine q_newa_14 (N' := 6) C hw (by decide) (by decide) (by decide) h234.1 h234.2 dX12_init_126 (fun H hw => ?_)
  have h239 := okc_nw (gB g) M232 14 6 hB
  have h0 := h0.up (mle_nw M232 14 6)
  generalize e237 : nw M232 14 6 = M236 at hw h239 h0
  generalize e238 : mT M232 = q235 at h239 ⊢
  replace hq := hq q235 M236 e238.symm e237.symm
  refine pfX12_54 (v := (some q235)) C hw (mle_rf _) h0 hn dX12_init_128 (fun H locs hw => ?_)
  generalize e241 : uR M236 a0 29 (some q235) = M240 at hw
  replace hq := hq M240 e241.symm
  have h0 : okc (gB g) M240 a0 12 := by rw [← e241]; exact okc_uR h0
  exact lt_X12_init_131  C hr hlk hn h00  hq hw (lv_sub hl [0] rfl)
set_option maxHeartbeats 4000000 in
set_option maxRecDepth 100000 in
theorem ct_X12_init {l : Launch} {g : Gh} {M0 : Mem} {a0 : Nat} {post : Mem → Prop}  (hq : wp_X12_init  g M0 a0 post) : Ct l g yX12_init cX12_init 1 none 1 37 127789 [.ref a0] M0 (pV post) := by
  unfold wp_X12_init at hq
  obtain ⟨h0, hq⟩ := hq
  have h00 := h0
  refine Ct.of (by decide) (Nat.le_of_ble_eq_true rfl) ?_
  intro p e s m below meth c ls C hr hlk hn hl hw
  have hx := C.1.1
  have hb := C.1.2.1
  have hl : lv_has ls 1 [(0, .ref a0)] := hl
  refine lv_aload_n hx hb dX12_init_0 rfl (lv_at hl 0 rfl) ?_
  refine W.objInit hx hb C.1.2.2.2.1 (C.1.2.2.2.2 _ w_1152) (C.1.2.2.2.2 _ w_35) (C.1.2.2.2.2 _ w_objInit) rfl (by rw [C.1.2.2.1]; exact hl.1) rfl dX12_init_1 (Nat.le_of_ble_eq_true rfl) (Nat.le_of_ble_eq_true rfl) ?_
  refine W.eq (g2 := F0 m 4 ls []) rfl ?_
  refine lv_aload_n hx hb dX12_init_4 rfl (lv_at hl 0 rfl) ?_
  refine lv_sipush (v := 260) hx hb dX12_init_5 (by decide) ?_
  have hB := hw.B C.2.2.2.2.2
  have h242 : 0 + 1 ≤ 37 ∧ 0 + 260 ≤ 127789 := by decide
  refine q_newa_14 (N' := 260) C hw (by decide) (by decide) (by decide) h242.1 h242.2 dX12_init_8 (fun H hw => ?_)
  have h247 := okc_nw (gB g) M0 14 260 hB
  have h0 := h0.up (mle_nw M0 14 260)
  generalize e245 : nw M0 14 260 = M244 at hw h247 h0
  generalize e246 : mT M0 = q243 at h247 ⊢
  replace hq := hq q243 M244 e246.symm e245.symm
  refine pfX12_7 (v := (some q243)) C hw (mle_rf _) h0 hn dX12_init_10 (fun H locs hw => ?_)
  generalize e249 : uR M244 a0 1 (some q243) = M248 at hw
  replace hq := hq M248 e249.symm
  have h0 : okc (gB g) M248 a0 12 := by rw [← e249]; exact okc_uR h0
  refine lv_aload_n hx hb dX12_init_13 rfl (lv_at hl 0 rfl) ?_
  refine lv_sipush (v := 25200) hx hb dX12_init_14 (by decide) ?_
  have hB := hw.B C.2.2.2.2.2
  have h250 : 1 + 1 ≤ 37 ∧ 260 + 25200 ≤ 127789 := by decide
  refine q_newa_14 (N' := 25200) C hw (by decide) (by decide) (by decide) h250.1 h250.2 dX12_init_17 (fun H hw => ?_)
  have h255 := okc_nw (gB g) M248 14 25200 hB
  have h0 := h0.up (mle_nw M248 14 25200)
  generalize e253 : nw M248 14 25200 = M252 at hw h255 h0
  generalize e254 : mT M248 = q251 at h255 ⊢
  replace hq := hq q251 M252 e254.symm e253.symm
  refine pfX12_13 (v := (some q251)) C hw (mle_rf _) h0 hn dX12_init_19 (fun H locs hw => ?_)
  generalize e257 : uR M252 a0 11 (some q251) = M256 at hw
  replace hq := hq M256 e257.symm
  have h0 : okc (gB g) M256 a0 12 := by rw [← e257]; exact okc_uR h0
  refine lv_aload_n hx hb dX12_init_22 rfl (lv_at hl 0 rfl) ?_
  refine lv_sipush (v := 25200) hx hb dX12_init_23 (by decide) ?_
  have hB := hw.B C.2.2.2.2.2
  have h258 : 2 + 1 ≤ 37 ∧ 25460 + 25200 ≤ 127789 := by decide
  refine q_newa_14 (N' := 25200) C hw (by decide) (by decide) (by decide) h258.1 h258.2 dX12_init_26 (fun H hw => ?_)
  have h263 := okc_nw (gB g) M256 14 25200 hB
  have h0 := h0.up (mle_nw M256 14 25200)
  generalize e261 : nw M256 14 25200 = M260 at hw h263 h0
  generalize e262 : mT M256 = q259 at h263 ⊢
  replace hq := hq q259 M260 e262.symm e261.symm
  refine pfX12_16 (v := (some q259)) C hw (mle_rf _) h0 hn dX12_init_28 (fun H locs hw => ?_)
  generalize e265 : uR M260 a0 12 (some q259) = M264 at hw
  replace hq := hq M264 e265.symm
  have h0 : okc (gB g) M264 a0 12 := by rw [← e265]; exact okc_uR h0
  refine lv_aload_n hx hb dX12_init_31 rfl (lv_at hl 0 rfl) ?_
  refine lv_sipush (v := 25200) hx hb dX12_init_32 (by decide) ?_
  have hB := hw.B C.2.2.2.2.2
  have h266 : 3 + 1 ≤ 37 ∧ 50660 + 25200 ≤ 127789 := by decide
  refine q_newa_14 (N' := 25200) C hw (by decide) (by decide) (by decide) h266.1 h266.2 dX12_init_35 (fun H hw => ?_)
  have h271 := okc_nw (gB g) M264 14 25200 hB
  have h0 := h0.up (mle_nw M264 14 25200)
  generalize e269 : nw M264 14 25200 = M268 at hw h271 h0
  generalize e270 : mT M264 = q267 at h271 ⊢
  replace hq := hq q267 M268 e270.symm e269.symm
  refine pfX12_19 (v := (some q267)) C hw (mle_rf _) h0 hn dX12_init_37 (fun H locs hw => ?_)
  generalize e273 : uR M268 a0 13 (some q267) = M272 at hw
  replace hq := hq M272 e273.symm
  have h0 : okc (gB g) M272 a0 12 := by rw [← e273]; exact okc_uR h0
  refine lv_aload_n hx hb dX12_init_40 rfl (lv_at hl 0 rfl) ?_
  refine lv_sipush (v := 25200) hx hb dX12_init_41 (by decide) ?_
  have hB := hw.B C.2.2.2.2.2
  have h274 : 4 + 1 ≤ 37 ∧ 75860 + 25200 ≤ 127789 := by decide
  refine q_newa_15 (N' := 25200) C hw (by decide) (by decide) (by decide) h274.1 h274.2 dX12_init_44 (fun H hw => ?_)
  have h279 := okc_nw (gB g) M272 15 25200 hB
  have h0 := h0.up (mle_nw M272 15 25200)
  generalize e277 : nw M272 15 25200 = M276 at hw h279 h0
  generalize e278 : mT M272 = q275 at h279 ⊢
  replace hq := hq q275 M276 e278.symm e277.symm
  refine pfX12_22 (v := (some q275)) C hw (mle_rf _) h0 hn dX12_init_46 (fun H locs hw => ?_)
  generalize e281 : uR M276 a0 14 (some q275) = M280 at hw
  replace hq := hq M280 e281.symm
  have h0 : okc (gB g) M280 a0 12 := by rw [← e281]; exact okc_uR h0
  refine lv_aload_n hx hb dX12_init_49 rfl (lv_at hl 0 rfl) ?_
  refine lv_sipush (v := 25200) hx hb dX12_init_50 (by decide) ?_
  have hB := hw.B C.2.2.2.2.2
  have h282 : 5 + 1 ≤ 37 ∧ 101060 + 25200 ≤ 127789 := by decide
  refine q_newa_15 (N' := 25200) C hw (by decide) (by decide) (by decide) h282.1 h282.2 dX12_init_53 (fun H hw => ?_)
  have h287 := okc_nw (gB g) M280 15 25200 hB
  have h0 := h0.up (mle_nw M280 15 25200)
  generalize e285 : nw M280 15 25200 = M284 at hw h287 h0
  generalize e286 : mT M280 = q283 at h287 ⊢
  replace hq := hq q283 M284 e286.symm e285.symm
  refine pfX12_26 (v := (some q283)) C hw (mle_rf _) h0 hn dX12_init_55 (fun H locs hw => ?_)
  generalize e289 : uR M284 a0 15 (some q283) = M288 at hw
  replace hq := hq M288 e289.symm
  have h0 : okc (gB g) M288 a0 12 := by rw [← e289]; exact okc_uR h0
  refine lv_aload_n hx hb dX12_init_58 rfl (lv_at hl 0 rfl) ?_
  refine lv_bipush (v := 60) hx hb dX12_init_59 (by decide) ?_
  have hB := hw.B C.2.2.2.2.2
  have h290 : 6 + 1 ≤ 37 ∧ 126260 + 60 ≤ 127789 := by decide
  refine q_newa_14 (N' := 60) C hw (by decide) (by decide) (by decide) h290.1 h290.2 dX12_init_61 (fun H hw => ?_)
  have h295 := okc_nw (gB g) M288 14 60 hB
  have h0 := h0.up (mle_nw M288 14 60)
  generalize e293 : nw M288 14 60 = M292 at hw h295 h0
  generalize e294 : mT M288 = q291 at h295 ⊢
  replace hq := hq q291 M292 e294.symm e293.symm
  refine pfX12_29 (v := (some q291)) C hw (mle_rf _) h0 hn dX12_init_63 (fun H locs hw => ?_)
  generalize e297 : uR M292 a0 19 (some q291) = M296 at hw
  replace hq := hq M296 e297.symm
  have h0 : okc (gB g) M296 a0 12 := by rw [← e297]; exact okc_uR h0
  exact lt_X12_init_66  C hr hlk hn h00  hq hw (lv_sub hl [0] rfl)

set_option maxRecDepth 100000 in
def wp_X12_thrown  (g : Gh) (M0 : Mem) (a0 : Nat) (post : Int32 → Mem → Prop) : Prop :=
  okc (gB g) M0 a0 12 ∧ (post (mI M0 a0 0) M0)
set_option maxHeartbeats 4000000 in
set_option maxRecDepth 100000 in
theorem ct_X12_thrown {l : Launch} {g : Gh} {M0 : Mem} {a0 : Nat} {post : Int32 → Mem → Prop}  (hq : wp_X12_thrown  g M0 a0 post) : Ct l g yX12_thrown cX12_thrown 1 (some .int) 0 0 0 [.ref a0] M0 (pI post) := by
  unfold wp_X12_thrown at hq
  obtain ⟨h0, hq⟩ := hq
  refine Ct.of (by decide) (Nat.le_of_ble_eq_true rfl) ?_
  intro p e s m below meth c ls C hr hlk hn hl hw
  have hx := C.1.1
  have hb := C.1.2.1
  have hl : lv_has ls 1 [(0, .ref a0)] := hl
  refine lv_aload_n hx hb dX12_thrown_0 rfl (lv_at hl 0 rfl) ?_
  refine gfX12_123 C hw hw.2.2.1 h0 dX12_thrown_1 ?_
  exact r_iret C hr hlk hw dX12_thrown_4 (Nat.le_refl _) (Nat.le_refl _) ⟨_, rfl, hq⟩

set_option maxRecDepth 100000 in
def bd_X12_come_3  (g : Gh) (M0 : Mem) (a0 : Nat) (p1 : Int32) (post : Mem → Prop)  (bk3 : Int32 × Mem → Prop) (x2 : Int32)  (M : Mem) : Prop :=
  ((x2 < 0) → post M) ∧ (¬ (x2 < 0) → ∃ q2, mR M a0 1 = some q2 ∧ (okc (gB g) M0 q2 14 ∧ (vp_in (mI M a0 2) (mN M0 q2) ∧ (∀ M6, M6 = uI M q2 (Int32.toNatClampNeg (mI M a0 2)) (((Int32.toUInt32 p1 >>> (Int32.toUInt32 x2 &&& Int32.toUInt32 31)).toInt32) &&& 255) → (∀ M8, M8 = uI M6 a0 2 ((mI M6 a0 2) + 1) → (bk3 ((x2 + (-8)), M8)))))))
set_option maxRecDepth 100000 in
def wp_X12_come  (g : Gh) (M0 : Mem) (a0 : Nat) (p1 : Int32) (post : Mem → Prop) : Prop :=
  okc (gB g) M0 a0 12 ∧ ((∃ n : Nat, lfp (fun bk z => bd_X12_come_3  g M0 a0 p1 post  bk z.1 z.2) n (24, M0)))
set_option maxHeartbeats 4000000 in
set_option maxRecDepth 100000 in
theorem lp_X12_come_3 {l : Launch} {g : Gh} {p : Program} {e : Env} {s : State} {m : MethodId} {args : Array Value} {below : List Frame} {meth : Method} {c : Code} {M0 : Mem} {a0 : Nat} {p1 : Int32} {post : Mem → Prop}  (C : Cx g p s m args c cX12_come 3 RX12) (hr : meth.sig.returnType = none) (hlk : meth.locks = false) (hn : meth.name = "come") (h0 : okc (gB g) M0 a0 12)  : ∀ (nf : Nat) (x2 : Int32)  (M : Mem) (H : Heap) (locs : List Loc) (ls : Array Slot), lfp (fun bk z => bd_X12_come_3  g M0 a0 p1 post  bk z.1 z.2) nf (x2, M) → Wd g s M0 M H locs → lv_has ls 3 [(0, .ref a0), (1, .int p1), (2, .int x2)] → W p l e (rmo 0 0 0) s m args below meth c H locs 0 0 (MQ below (Cq g M0 (pV post)) args s 0 0 (gA g)) (F0 m 3 ls []) := by
  have hx := C.1.1
  have hb := C.1.2.1
  intro nf
  induction nf with
  | zero => intro _ _ H locs ls hq; exact hq.elim
  | succ nf hk3 =>
    intro x2 M H locs ls hq hw hl
    replace hq : bd_X12_come_3  g M0 a0 p1 post  (lfp (fun bk z => bd_X12_come_3  g M0 a0 p1 post  bk z.1 z.2) nf) x2 M := hq
    unfold bd_X12_come_3 at hq
    refine lv_iload_n hx hb dX12_come_3 rfl (lv_at hl 2 rfl) ?_
    refine lv_if_lt (tgt := 39) hx hb dX12_come_4 (by decide) (fun c1 => ?_) (fun c1 => ?_)
    · replace hq := hq.1 c1
      exact r_vret C hr hlk hw dX12_come_39 (Nat.le_refl _) (Nat.le_refl _) ⟨rfl, hq⟩
    · replace hq := hq.2 c1
      refine lv_aload_n hx hb dX12_come_7 rfl (lv_at hl 0 rfl) ?_
      obtain ⟨q2, e3, hq⟩ := hq
      refine gfX12_7 C hw hw.2.2.1 h0 e3 dX12_come_8 ?_
      refine lv_aload_n hx hb dX12_come_11 rfl (lv_at hl 0 rfl) ?_
      refine gfX12_127 C hw hw.2.2.1 h0 dX12_come_12 ?_
      refine lv_iload_n hx hb dX12_come_15 rfl (lv_at hl 1 rfl) ?_
      refine lv_iload_n hx hb dX12_come_16 rfl (lv_at hl 2 rfl) ?_
      refine lv_iushr (v := ((Int32.toUInt32 p1 >>> (Int32.toUInt32 x2 &&& Int32.toUInt32 31)).toInt32)) hx hb dX12_come_17 rfl ?_
      refine lv_sipush (v := 255) hx hb dX12_come_18 (by decide) ?_
      refine lv_iand hx hb dX12_come_21 ?_
      obtain ⟨h4, hq⟩ := hq
      obtain ⟨h5, hq⟩ := hq
      refine q_iast C hw hw.2.2.1 h4 h5 dX12_come_22 (fun H locs hw => ?_)
      generalize e7 : uI M q2 (Int32.toNatClampNeg (mI M a0 2)) (((Int32.toUInt32 p1 >>> (Int32.toUInt32 x2 &&& Int32.toUInt32 31)).toInt32) &&& 255) = M6 at hw
      replace hq := hq M6 e7.symm
      have e3 : mR M6 a0 1 = some q2 := by rw [← e7, mR_uI]; exact e3
      refine lv_aload_n hx hb dX12_come_23 rfl (lv_at hl 0 rfl) ?_
      refine lv_dup hx hb dX12_come_24 rfl ?_
      refine gfX12_127 C hw hw.2.2.1 h0 dX12_come_25 ?_
      refine lv_iconst (v := 1) hx hb dX12_come_28 (by decide) ?_
      refine lv_iadd hx hb dX12_come_29 ?_
      refine pfX12_127 C hw hw.2.2.1 h0 dX12_come_30 (fun H locs hw => ?_)
      generalize e9 : uI M6 a0 2 ((mI M6 a0 2) + 1) = M8 at hw
      replace hq := hq M8 e9.symm
      have e3 : mR M8 a0 1 = some q2 := by rw [← e9, mR_uI]; exact e3
      refine lv_iinc (v := (x2 + (-8))) (lv' := [(2, .int (x2 + (-8))), (0, .ref a0), (1, .int p1)]) hx hb dX12_come_33 hl (k := 2) rfl rfl (by decide) rfl (fun ls hl => ?_)
      refine lv_goto (tgt := 3) hx hb dX12_come_36 (by decide) ?_
      exact hk3 _ _ _ _ _ hq hw (lv_sub hl [1, 2, 0] rfl)
set_option maxHeartbeats 4000000 in
set_option maxRecDepth 100000 in
theorem ct_X12_come {l : Launch} {g : Gh} {M0 : Mem} {a0 : Nat} {p1 : Int32} {post : Mem → Prop}  (hq : wp_X12_come  g M0 a0 p1 post) : Ct l g yX12_come cX12_come 3 none 0 0 0 [.ref a0, .int p1] M0 (pV post) := by
  unfold wp_X12_come at hq
  obtain ⟨h0, hq⟩ := hq
  refine Ct.of (by decide) (Nat.le_of_ble_eq_true rfl) ?_
  intro p e s m below meth c ls C hr hlk hn hl hw
  have hx := C.1.1
  have hb := C.1.2.1
  have hl : lv_has ls 3 [(0, .ref a0), (1, .int p1)] := hl
  refine lv_bipush (v := 24) hx hb dX12_come_0 (by decide) ?_
  refine lv_istore_n (lv' := [(2, .int 24), (0, .ref a0), (1, .int p1)]) hx hb dX12_come_2 rfl hl (by decide) rfl (fun ls hl => ?_)
  obtain ⟨nf, hq⟩ := hq
  exact lp_X12_come_3  C hr hlk hn h0  nf _ _ _ _ _ hq hw (lv_sub hl [1, 2, 0] rfl)
