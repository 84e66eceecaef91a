/-! THE CLAIM OUT OF ONE WALK OF THE LAW'S BODY. Your part is whole_start (and what it stands on); all else here is the same for every law, but numbers. -/
def R_law : String := "QuizLeagueLaw"
def lw_P (b : Addr) (xs : List Int32) (args : Array Value) (s : State) : Prop := args = #[.ref b] ∧ s.IntsAt b xs ∧ xs.length ≤ 3584 ∧ (Jvm.Cond.and given_1 narrow_1).before args s = true
def lw_Q (_ : Array Value) (s : State) (o : Outcome) (t : State) : Prop := o = .returned (some (.int 1)) ∧ Framed s o t [] 601024 7293034
def lw_Z (below : List Frame) (a : Array Value) (s : State) : State → Prop := fun t => ∃ o, t.status = .running ∧ Ended t below o ∧ lw_Q a s o t
/-- the law's own end, with 1 on the stack, nothing written that was there before, its room as the claim has it -/
theorem lw_ret {p : Program} {l : Launch} {e : Env} {s : State} {m : MethodId} {below : List Frame} {meth : Method} {c : Code} {b : Nat} (hx : p.tables.exec = Jvm.exec) (hb : c.code = code) (hr : meth.sig.returnType = ret) (hlocks : meth.locks = false) {pc : Nat} {H : Heap} {ls : Array Slot} (hdg : decode code pc = .ok (.ireturn, 1)) : W p l e room_1 s m #[Value.ref b] below meth c H [] 601024 7293034 (lw_Z below #[Value.ref b] s) (F0 m pc ls [.int 1]) := by
  intro T hT X
  obtain ⟨fs, hret, hrun, hended, hW, hframe⟩ := X.leave (v := some (.int 1)) (hlocks := hlocks) (fun h => by rw [hr] at h; cases h)
  have hmeth' : T.vm.method? m = some meth := X.method'
  refine ⟨T.setFrames fs, ?_, .returned (some (.int 1)), hrun, hended, rfl, ⟨_, rfl⟩, hW, hframe⟩
  jvm_step X.here [X.here.top, hx, hb, hdg, hmeth', hr, ret, narrow_b1]
  (try refine ⟨rfl, ?_⟩); (try refine ⟨rfl, ?_⟩)
  first | (intro acts; rw [hret _ acts rfl rfl rfl]) | rw [hret _ _ rfl rfl rfl]
  exact Steps.refl _
/-- what holds at the law's entry: the machine, the code, the tables' words (any of lw_tbl by 'hts w (by decide +kernel)'), the script of L ints xs at the cell b, what the Statement gives of the start (any of its parts by flat_of_before) -/
def lw_At (p : Program) (s : State) (m : MethodId) (meth : Method) (c : Code) (b L : Nat) (xs : Nat → Int32) : Prop :=
  p.tables.exec = Jvm.exec ∧ c.code = code ∧ meth.sig.returnType = ret ∧ c.maxLocals = 7 ∧ s.vm.findClass R_law = some m.cls ∧ (∀ w ∈ lw_tbl, w.before #[Value.ref b] s = true) ∧ va_X b L xs s s.heap ∧ b < s.heap.size ∧ meth.locks = false ∧ (Jvm.Cond.and given_1 narrow_1).before #[Value.ref b] s = true
set_option maxRecDepth 100000 in
theorem w_33 : Cond.code ⟨"QuizLeague", "<init>", "()V"⟩ prog_1_method_1_code 1 none ∈ TBL := inT1 33 rfl (by decide +kernel)
theorem w_31 : Cond.methodLink "QuizLeagueLaw" 26 ⟨"QuizLeague", "<init>", "()V"⟩ ∈ TBL := inT1 31 (by decide +kernel) (by decide +kernel)
theorem w_32 : Cond.instanceMethod ⟨"QuizLeague", "<init>", "()V"⟩ ∈ TBL := inT1 32 (by decide +kernel) (by decide +kernel)
set_option maxRecDepth 100000 in
theorem w_1151 : Cond.code ⟨"QuizLeagueModel", "<init>", "()V"⟩ prog_14_method_1_code 1 none ∈ TBL := inT1 1151 rfl (by decide +kernel)
theorem w_1149 : Cond.methodLink "QuizLeagueLaw" 29 ⟨"QuizLeagueModel", "<init>", "()V"⟩ ∈ TBL := inT1 1149 (by decide +kernel) (by decide +kernel)
theorem w_1150 : Cond.instanceMethod ⟨"QuizLeagueModel", "<init>", "()V"⟩ ∈ TBL := inT1 1150 (by decide +kernel) (by decide +kernel)
theorem w_29 : Cond.classLink "QuizLeagueLaw" 8 "QuizLeague" ∈ TBL := inT1 29 (by decide +kernel) (by decide +kernel)
theorem w_30 : Cond.instantiable "QuizLeague" 11 ∈ TBL := inT1 30 (by decide +kernel) (by decide +kernel)
theorem w_1147 : Cond.classLink "QuizLeagueLaw" 27 "QuizLeagueModel" ∈ TBL := inT1 1147 (by decide +kernel) (by decide +kernel)
theorem w_1148 : Cond.instantiable "QuizLeagueModel" 67 ∈ TBL := inT1 1148 (by decide +kernel) (by decide +kernel)
theorem kiL_26 : LkI RL 26 yX11_init cX11_init 1 0 := ⟨w_33, w_1, w_31, (by decide +kernel), w_32, rfl⟩
theorem kiL_29 : LkI RL 29 yX12_init cX12_init 1 0 := ⟨w_1151, w_11, w_1149, (by decide +kernel), w_1150, rfl⟩
theorem gt7 {L n : Nat} (hL : L ≤ 3584) (hn : n ≤ 4000) : (nI L - 7 < nI n) ↔ L < n + 7 := by
  rw [Int32.lt_iff_toInt_lt, Int32.toInt_sub, nI_toInt (show L < 2 ^ 31 by omega), nI_toInt (show n < 2 ^ 31 by omega), show (7 : Int32).toInt = 7 from rfl]
  have : ((L : Int) - 7).bmod (2 ^ 32) = (L : Int) - 7 := Int.bmod_eq_of_le (by omega) (by omega)
  rw [this]; omega
set_option maxHeartbeats 4000000 in
set_option maxRecDepth 100000 in
theorem law_loop {p : Program} {l : Launch} {e : Env} {s : State} {m : MethodId} {below : List Frame} {meth : Method} {c : Code} {M0 : Mem} {g : Gh} {b L : Nat} {xs : Nat → Int32} (hst : l.stackTraces = false) (C : Cx g p s m #[Value.ref b] c cL_law 7 RL) (hZ : ZX g s s.heap) (hNc : va_Nc "java/lang/IllegalStateException" "java/lang/IllegalArgumentException" s) (hX : va_X b L xs s s.heap) (hbl : b < s.heap.size) (hB : gB g = s.heap.size) (hL : L ≤ 3584) (hr : meth.sig.returnType = ret) (hlk : meth.locks = false) :
    ∀ (k cnt : Nat) (M : Mem) (H : Heap) (locs : List Loc) (cells slots : Nat) (ls : Array Slot), L < 7 * cnt + 7 * k → cnt ≤ 512 → 7 * cnt ≤ L → Inv g M cnt → Wd g s M0 M H locs → lv_has ls 7 [(0, .ref b), (1, .ref (gB g)), (2, .ref (gB g + 195)), (3, .ref (gB g + 233)), (4, .int (nI (7 * cnt)))] → cells ≤ 234 + 5 * cnt → slots ≤ 131390 + 609 * cnt → W p l e room_1 s m #[Value.ref b] below meth c H locs cells slots (lw_Z below #[Value.ref b] s) (F0 m 23 ls []) := by
  intro k
  induction k with
  | zero => intro cnt M H locs cells slots ls h1 h2 h3; omega
  | succ k ih =>
    intro cnt M H locs cells slots ls h1 h2 h3 hI hw hl hce hsl
    have hx := C.1.1
    have hb := C.1.2.1
    have hbA : ¬ gA g b := fun hx => by have hx : gB g ≤ b := hx; omega
    refine lv_iload hx hb dL_law_23 (lv_at hl 4 rfl) ?_
    refine lv_aload_n hx hb dL_law_25 rfl (lv_at hl 0 rfl) ?_
    refine va_slen hx hb hX hbl hbA hw.2.2.2 dL_law_26 ?_
    refine lv_bipush (v := 7) hx hb dL_law_27 (by decide) ?_
    refine lv_isub hx hb dL_law_29 ?_
    refine lv_icmp_gt (tgt := 952) hx hb dL_law_30 (by decide) (fun _ => ?_) (fun hn => ?_)
    · refine lv_iconst (v := 1) hx hb dL_law_952 (by decide) ?_
      refine W.widen (k := 601024) (n := 7293034) (by omega) (by omega) ?_
      refine va_forget (fun q hq => ?_) (lw_ret hx hb hr hlk dL_law_953)
      have h9 := hw.2.2.2.2.2 q hq
      have h9 : gB g ≤ q.base := h9
      omega
    have hi : 7 * cnt + 7 ≤ L := Nat.le_of_not_lt (fun hh => hn ((gt7 hL (by omega)).mpr (by omega)))
    refine lv_aload_n hx hb dL_law_33 rfl (lv_at hl 0 rfl) ?_
    refine lv_iload hx hb dL_law_34 (lv_at hl 4 rfl) ?_
    refine va_sld hx hb hX hbl hbA hw.2.2.2 (vp_in_nI (show 7 * cnt < L by omega) (by omega)) dL_law_36 ?_
    refine lv_bipush (v := 31) hx hb dL_law_37 (by decide) ?_
    refine lv_iand hx hb dL_law_39 ?_
    have nxt : ∀ (M' : Mem) (H' : Heap) (locs' : List Loc) (ls' : Array Slot) (k' n' : Nat), Inv g M' (cnt + 1) → Wd g s M0 M' H' locs' → lv_has ls' 7 [(0, .ref b), (1, .ref (gB g)), (2, .ref (gB g + 195)), (3, .ref (gB g + 233)), (4, .int (nI (7 * cnt)))] → k' ≤ cells + 5 → n' ≤ slots + 609 → W p l e room_1 s m #[Value.ref b] below meth c H' locs' k' n' (lw_Z below #[Value.ref b] s) (F0 m 946 ls' []) := by
      intro M' H' locs' ls' k' n' hI' hw' hl' hk hn'
      refine lv_iinc (k := 4) (x := nI (7 * cnt)) (v := nI (7 * (cnt + 1))) (lv' := [(4, .int (nI (7 * (cnt + 1)))), (0, .ref b), (1, .ref (gB g)), (2, .ref (gB g + 195)), (3, .ref (gB g + 233))]) hx hb dL_law_946 hl' rfl ?_ (by decide) rfl (fun ls hl => ?_)
      · show nI (7 * cnt) + nI 7 = _
        rw [nI_add, show 7 * cnt + 7 = 7 * (cnt + 1) by omega]
      · refine lv_goto (tgt := 23) hx hb dL_law_949 (by decide) ?_
        exact ih (cnt + 1) M' H' locs' k' n' ls (by omega) (by omega) (by omega) hI' hw' (lv_sub hl [1, 2, 3, 4, 0] rfl) (by omega) (by omega)
    generalize (xs (nI (7 * cnt)).toNatClampNeg &&& 31) = x
    by_cases c0 : x = nI 0
    · exact r_table (v := nI 0) (off := 108) (tgt := 148) hx hb dL_law_40 c0 (by decide) (by decide) rfl (by decide) (lc_0 hst C hZ hNc hX hbl hbA hi hL hI h2 hw hl (by omega) (by omega) nxt)
    by_cases c1 : x = nI 1
    · exact r_table (v := nI 1) (off := 181) (tgt := 221) hx hb dL_law_40 c1 (by decide) (by decide) rfl (by decide) (lc_1 hst C hZ hNc hX hbl hbA hi hL hI h2 hw hl (by omega) (by omega) nxt)
    by_cases c2 : x = nI 2
    · exact r_table (v := nI 2) (off := 206) (tgt := 246) hx hb dL_law_40 c2 (by decide) (by decide) rfl (by decide) (lc_2 hst C hZ hNc hX hbl hbA hi hL hI h2 hw hl (by omega) (by omega) nxt)
    by_cases c3 : x = nI 3
    · exact r_table (v := nI 3) (off := 231) (tgt := 271) hx hb dL_law_40 c3 (by decide) (by decide) rfl (by decide) (lc_3 hst C hZ hNc hX hbl hbA hi hL hI h2 hw hl (by omega) (by omega) nxt)
    by_cases c4 : x = nI 4
    · exact r_table (v := nI 4) (off := 256) (tgt := 296) hx hb dL_law_40 c4 (by decide) (by decide) rfl (by decide) (lc_4 hst C hZ hNc hX hbl hbA hi hL hI h2 hw hl (by omega) (by omega) nxt)
    by_cases c5 : x = nI 5
    · exact r_table (v := nI 5) (off := 309) (tgt := 349) hx hb dL_law_40 c5 (by decide) (by decide) rfl (by decide) (lc_5 hst C hZ hNc hX hbl hbA hi hL hI h2 hw hl (by omega) (by omega) nxt)
    by_cases c6 : x = nI 6
    · exact r_table (v := nI 6) (off := 377) (tgt := 417) hx hb dL_law_40 c6 (by decide) (by decide) rfl (by decide) (lc_6 hst C hZ hNc hX hbl hbA hi hL hI h2 hw hl (by omega) (by omega) nxt)
    by_cases c7 : x = nI 7
    · exact r_table (v := nI 7) (off := 414) (tgt := 454) hx hb dL_law_40 c7 (by decide) (by decide) rfl (by decide) (lc_7 hst C hZ hNc hX hbl hbA hi hL hI h2 hw hl (by omega) (by omega) nxt)
    by_cases c8 : x = nI 8
    · exact r_table (v := nI 8) (off := 427) (tgt := 467) hx hb dL_law_40 c8 (by decide) (by decide) rfl (by decide) (lc_8 hst C hZ hNc hX hbl hbA hi hL hI h2 hw hl (by omega) (by omega) nxt)
    by_cases c9 : x = nI 9
    · exact r_table (v := nI 9) (off := 440) (tgt := 480) hx hb dL_law_40 c9 (by decide) (by decide) rfl (by decide) (lc_9 hst C hZ hNc hX hbl hbA hi hL hI h2 hw hl (by omega) (by omega) nxt)
    by_cases c10 : x = nI 10
    · exact r_table (v := nI 10) (off := 558) (tgt := 598) hx hb dL_law_40 c10 (by decide) (by decide) rfl (by decide) (lc_10 hst C hZ hNc hX hbl hbA hi hL hI h2 hw hl (by omega) (by omega) nxt)
    by_cases c11 : x = nI 11
    · exact r_table (v := nI 11) (off := 583) (tgt := 623) hx hb dL_law_40 c11 (by decide) (by decide) rfl (by decide) (lc_11 hst C hZ hNc hX hbl hbA hi hL hI h2 hw hl (by omega) (by omega) nxt)
    by_cases c12 : x = nI 12
    · exact r_table (v := nI 12) (off := 596) (tgt := 636) hx hb dL_law_40 c12 (by decide) (by decide) rfl (by decide) (lc_12 hst C hZ hNc hX hbl hbA hi hL hI h2 hw hl (by omega) (by omega) nxt)
    by_cases c13 : x = nI 13
    · exact r_table (v := nI 13) (off := 621) (tgt := 661) hx hb dL_law_40 c13 (by decide) (by decide) rfl (by decide) (lc_13 hst C hZ hNc hX hbl hbA hi hL hI h2 hw hl (by omega) (by omega) nxt)
    by_cases c14 : x = nI 14
    · exact r_table (v := nI 14) (off := 646) (tgt := 686) hx hb dL_law_40 c14 (by decide) (by decide) rfl (by decide) (lc_14 hst C hZ hNc hX hbl hbA hi hL hI h2 hw hl (by omega) (by omega) nxt)
    by_cases c15 : x = nI 15
    · exact r_table (v := nI 15) (off := 659) (tgt := 699) hx hb dL_law_40 c15 (by decide) (by decide) rfl (by decide) (lc_15 hst C hZ hNc hX hbl hbA hi hL hI h2 hw hl (by omega) (by omega) nxt)
    by_cases c16 : x = nI 16
    · exact r_table (v := nI 16) (off := 712) (tgt := 752) hx hb dL_law_40 c16 (by decide) (by decide) rfl (by decide) (lc_16 hst C hZ hNc hX hbl hbA hi hL hI h2 hw hl (by omega) (by omega) nxt)
    by_cases c17 : x = nI 17
    · exact r_table (v := nI 17) (off := 725) (tgt := 765) hx hb dL_law_40 c17 (by decide) (by decide) rfl (by decide) (lc_17 hst C hZ hNc hX hbl hbA hi hL hI h2 hw hl (by omega) (by omega) nxt)
    by_cases c18 : x = nI 18
    · exact r_table (v := nI 18) (off := 750) (tgt := 790) hx hb dL_law_40 c18 (by decide) (by decide) rfl (by decide) (lc_18 hst C hZ hNc hX hbl hbA hi hL hI h2 hw hl (by omega) (by omega) nxt)
    by_cases c19 : x = nI 19
    · exact r_table (v := nI 19) (off := 818) (tgt := 858) hx hb dL_law_40 c19 (by decide) (by decide) rfl (by decide) (lc_19 hst C hZ hNc hX hbl hbA hi hL hI h2 hw hl (by omega) (by omega) nxt)
    by_cases c20 : x = nI 20
    · exact r_table (v := nI 20) (off := 831) (tgt := 871) hx hb dL_law_40 c20 (by decide) (by decide) rfl (by decide) (lc_20 hst C hZ hNc hX hbl hbA hi hL hI h2 hw hl (by omega) (by omega) nxt)
    by_cases c21 : x = nI 21
    · exact r_table (v := nI 21) (off := 844) (tgt := 884) hx hb dL_law_40 c21 (by decide) (by decide) rfl (by decide) (lc_21 hst C hZ hNc hX hbl hbA hi hL hI h2 hw hl (by omega) (by omega) nxt)
    by_cases c22 : x = nI 22
    · exact r_table (v := nI 22) (off := 881) (tgt := 921) hx hb dL_law_40 c22 (by decide) (by decide) rfl (by decide) (lc_22 hst C hZ hNc hX hbl hbA hi hL hI h2 hw hl (by omega) (by omega) nxt)
    refine r_tableOut (k := 22) (tgt := 946) hx hb dL_law_40 ⟨rfl, by decide⟩ (fun j hj => ?_) (by decide) (nxt M H locs ls cells slots (inv_up hI) hw hl (by omega) (by omega))
    rcases (show j = 0 ∨ j = 1 ∨ j = 2 ∨ j = 3 ∨ j = 4 ∨ j = 5 ∨ j = 6 ∨ j = 7 ∨ j = 8 ∨ j = 9 ∨ j = 10 ∨ j = 11 ∨ j = 12 ∨ j = 13 ∨ j = 14 ∨ j = 15 ∨ j = 16 ∨ j = 17 ∨ j = 18 ∨ j = 19 ∨ j = 20 ∨ j = 21 ∨ j = 22 by omega) with rfl | rfl | rfl | rfl | rfl | rfl | rfl | rfl | rfl | rfl | rfl | rfl | rfl | rfl | rfl | rfl | rfl | rfl | rfl | rfl | rfl | rfl | rfl
    · exact c0
    · exact c1
    · exact c2
    · exact c3
    · exact c4
    · exact c5
    · exact c6
    · exact c7
    · exact c8
    · exact c9
    · exact c10
    · exact c11
    · exact c12
    · exact c13
    · exact c14
    · exact c15
    · exact c16
    · exact c17
    · exact c18
    · exact c19
    · exact c20
    · exact c21
    · exact c22
theorem f1nc : F1[40]? = some (.not (.castable "java/lang/IllegalStateException" "java/lang/IllegalArgumentException")) := by decide +kernel
/-- memory with nothing of ours in it -/
def mem0 (n : Nat) : Mem := (fun _ _ => 0, fun _ _ => 0, fun _ _ => none, fun _ => 21, fun _ => 0, n)
set_option maxHeartbeats 4000000 in
set_option maxRecDepth 100000 in
theorem whole_start {p : Program} {e : Env} {s : State} {m : MethodId} {below : List Frame} {meth : Method} {c : Code} (l : Launch) (hst : l.stackTraces = false) {b L : Nat} {xs : Nat → Int32} (hL : L ≤ 3584) (C0 : lw_At p s m meth c b L xs) : W p l e room_1 s m #[Value.ref b] below meth c s.heap [] 0 0 (lw_Z below #[Value.ref b] s) (entryFrame m ([Value.ref b] : List Value).toArray 7) := by
  obtain ⟨hx, hb, hr, hml, hown, hts, hX, hbl, hlk, hgv⟩ := id C0
  obtain ⟨g, hB, hK, hN, hO, hE, hZ⟩ := law_ctx hts hgv
  have hNc : va_Nc "java/lang/IllegalStateException" "java/lang/IllegalArgumentException" s := va_Nc.of (flat_of_before _ hgv _ (List.mem_of_getElem? f1nc))
  have C : Cx g p s m #[Value.ref b] c cL_law 7 RL := ⟨⟨hx, hb, hml, hown, fun w hw => hts w (List.mem_filter.mp hw).1⟩, hK, hN, hO, hE, Nat.le_of_eq hB⟩
  have hl := lv_entry ([.ref b]) (n := 7) (Nat.le_of_ble_eq_true rfl)
  rw [lg_entry_eq]
  generalize (lg_sl ([.ref b]) ++ List.replicate (7 - (lg_sl ([.ref b])).length) Slot.unset).toArray = ls at hl ⊢
  have hl : lv_has ls 7 [(0, .ref b)] := hl
  have hmt : mT (mem0 s.heap.size) = gB g := hB.symm
  have hadr : adr (mem0 s.heap.size) (gB g) = [] := by
    apply List.filter_eq_nil_iff.mpr
    intro a ha
    simp [mem0, mK]
  have hw : Wd g s (mem0 s.heap.size) (mem0 s.heap.size) s.heap [] := ⟨fun k q h => by rw [mw, hadr] at h; simp [va_pl] at h, rfl, mle_rf _, va_S.rf⟩
  have hini := c_law (g := g) (M := mem0 s.heap.size) hmt (Z := fun M5 => Inv g M5 0) (fun M' h1 h2 => h1)
  generalize mem0 s.heap.size = M00 at hw hini hmt
  have hB0 : gB g ≤ mT M00 := Nat.le_of_eq hmt.symm
  refine r_new tyX11 (T := TX11) (N := 11) (ci := 11) C hw rfl (by decide) inX11 tyX11_ok w_29 w_30 w_1 df_11 (by decide) (by decide) dL_law_0 (fun H hw => ?_)
  have hq := hini _ _ rfl rfl
  rw [hmt] at hq ⊢
  refine lv_dup hx hb dL_law_3 rfl ?_
  refine r_callI (index := 26) (n := 0) (d2 := 3) (mc := 194) (ms := 3522) (As := []) (rest := [.ref (gB g)]) C hw (ct_X11_init hq) kiL_26 ⟨by decide, by decide⟩ ⟨by decide, by decide⟩ rfl hl.1 rfl (Nat.le_of_ble_eq_true rfl) dL_law_4 (fun r M2 H locs hp hle hw => ?_)
  obtain ⟨rfl, hq⟩ := hp
  refine W.eq (g2 := F0 m 7 ls [.ref (gB g)]) rfl ?_
  refine lv_astore_n (lv' := [(1, .ref (gB g)), (0, .ref b)]) hx hb dL_law_7 rfl hl (by decide) rfl (fun ls hl => ?_)
  obtain ⟨m2, hq⟩ := hq
  refine r_new tyX12 (T := TX12) (N := 67) (ci := 12) C hw rfl (by decide) inX12 tyX12_ok w_1147 w_1148 w_11 df_12 (by decide) (by decide) dL_law_8 (fun H hw => ?_)
  have hq := hq _ _ rfl rfl
  rw [m2] at hq ⊢
  refine lv_dup hx hb dL_law_11 rfl ?_
  refine r_callI (index := 29) (n := 0) (d2 := 1) (mc := 37) (ms := 127789) (As := []) (rest := [.ref (gB g + 195)]) C hw (ct_X12_init hq) kiL_29 ⟨by decide, by decide⟩ ⟨by decide, by decide⟩ rfl hl.1 rfl (Nat.le_of_ble_eq_true rfl) dL_law_12 (fun r M4 H locs hp hle hw => ?_)
  obtain ⟨rfl, hq⟩ := hp
  refine W.eq (g2 := F0 m 15 ls [.ref (gB g + 195)]) rfl ?_
  refine lv_astore_n (lv' := [(2, .ref (gB g + 195)), (1, .ref (gB g)), (0, .ref b)]) hx hb dL_law_15 rfl hl (by decide) rfl (fun ls hl => ?_)
  obtain ⟨m4, hq⟩ := hq
  refine lv_iconst (v := 1) hx hb dL_law_16 (by decide) ?_
  refine q_newa_15 (N' := 1) C hw (by decide) (by decide) (by decide) (by decide) (by decide) dL_law_17 (fun H hw => ?_)
  have hq := hq _ _ rfl rfl
  rw [m4]
  refine lv_astore_n (lv' := [(3, .ref (gB g + 233)), (2, .ref (gB g + 195)), (1, .ref (gB g)), (0, .ref b)]) hx hb dL_law_19 rfl hl (by decide) rfl (fun ls hl => ?_)
  refine lv_iconst (v := 0) hx hb dL_law_20 (by decide) ?_
  refine lv_istore (lv' := [(4, .int 0), (3, .ref (gB g + 233)), (2, .ref (gB g + 195)), (1, .ref (gB g)), (0, .ref b)]) hx hb dL_law_21 hl (by decide) rfl (fun ls hl => ?_)
  have hl' : lv_has ls 7 [(0, .ref b), (1, .ref (gB g)), (2, .ref (gB g + 195)), (3, .ref (gB g + 233)), (4, .int (nI (7 * 0)))] := lv_sub hl [4, 3, 2, 1, 0] rfl
  exact law_loop hst C hZ hNc hX hbl hB hL hr hlk (L + 1) 0 _ H locs _ _ ls (by omega) (by omega) (by omega) hq hw hl' (by decide) (by decide)

set_option maxHeartbeats 4000000 in
theorem lw_walk (l : Launch) (hst : l.stackTraces = false) (b : Addr) (xs : List Int32) : MetFree l x (headSpec (Jvm.Cond.code x code maxLocals ret :: tables_1) room_1) (lw_P b xs) (fun _ _ _ _ _ => True) lw_Q := by
  refine MetFree.of_bodyS (code := code) (maxLocals := maxLocals) (ret := ret) (by decide) ?_ ?_
  · intro args s m h hn
    obtain ⟨meth, c, h1, h2, h3, h4, h5, h6, -, -⟩ := Cond.code_spec hn (atoms_spec (ws := Jvm.Cond.code x code maxLocals ret :: tables_1) h _ List.mem_cons_self)
    exact ⟨meth, c, h1, h2, h3, h4, h5, h6⟩
  · intro p e s m args below meth c s₁ B hml0 hP _
    obtain ⟨rfl, hx, hbd, hgv⟩ := hP
    obtain ⟨scr, harrAt, hlist, hof, hsmall⟩ := hx
    obtain ⟨hcb, hkn, -, -⟩ := State.arrayAt?_spec harrAt
    have hown : s.vm.findClass R_law = some m.cls := findClass_of_methodNamed B.named
    have hts0 : ∀ c ∈ (Jvm.Cond.code x code maxLocals ret :: tables_1), c.before #[Value.ref b] s = true := atoms_spec (ws := Jvm.Cond.code x code maxLocals ret :: tables_1) B.pre
    have hts : ∀ w ∈ lw_tbl, w.before #[Value.ref b] s = true := k2_hts_sels lw_privs (fun w hw => hts0 w (List.mem_cons_of_mem _ hw)) lw_privs_ok
    have hml : c.maxLocals = 7 := B.maxLocals_eq (hts0 _ List.mem_cons_self)
    have X₀ : Stand p l e room_1 s m #[Value.ref b] below meth c s₁ [] 0 0 := Stand.of_body B
    have hh0 : s₁.heap = s.heap := by rw [B.state]; rfl
    have hsz : scr.slots.size = xs.length := by rw [← Array.length_toList, hlist, List.length_map]
    have hval : ∀ j : Nat, j < xs.length → scr.slots[j]? = some (.int (xs.getD j 0)) := fun j hj => by
      rw [← Array.getElem?_toList, hlist]
      simp [hj]
    have hbl : b < s.heap.size := (Array.getElem?_eq_some_iff.mp hcb).1
    have hX : va_X b xs.length (fun j => xs.getD j 0) s s.heap := ⟨scr, hcb, hof, hkn, hsz, hval⟩
    have K : W p l e room_1 s m #[Value.ref b] below meth c s₁.heap [] 0 0 (lw_Z below #[Value.ref b] s) (entryFrame m ([Value.ref b] : List Value).toArray 7) := by
      rw [hh0]
      exact whole_start l hst hbd ⟨B.exec, B.bytes, B.returns, hml, hown, hts, hX, hbl, B.notSynchronized, hgv⟩
    obtain ⟨t, a1, o, b1, b2, b3⟩ := K s₁ rfl X₀
    exact ⟨t, o, a1, b1, b2, b3⟩
theorem lw_pre_spec {args : Array Value} {s : State} (h : (Jvm.Cond.and given_1 narrow_1).before args s = true) (hr : rest_1_c.before args s = true) : ∃ (b : Addr) (xs : List Int32), lw_P b xs args s := by
  have hs := flat_of_before _ h
  have hq := flat_of_before _ hr
  have hc : (Cond.count 1).before args s = true := hs _ (by decide +kernel)
  have harr : (Cond.arrayOf (.arg 0) .int).before args s = true := hs _ (by decide +kernel)
  have hle : (Cond.le (.length (.arg 0)) (.int 3584)).before args s = true := hs _ (by decide +kernel)
  have hlen : (Cond.isInt (.length (.arg 0))).before args s = true := hq _ (by decide +kernel)
  have hall : (Cond.all (.arg 0) (.isInt (.elem (.arg 0) (.index 0)))).before args s = true := hq _ (by decide +kernel)
  obtain ⟨b, xs, hb, hx⟩ := State.ints_of_pre rfl harr hlen hall
  have hsm : xs.length < 2 ^ 31 := hx.choose_spec.2.2.2
  have hev : (Term.length (.arg 0)).eval args s none [] s = some (.int xs.length.toInt32) := hx.length_eval hb
  have hv := Cond.le_ints hev (show (Term.int 3584).eval args s none [] s = some (.int 3584) from rfl)
  have hd : xs.length.toInt32 ≤ 3584 := by
    simpa [Cond.before, Cond.holds, hv] using hle
  have hN : xs.length ≤ 3584 := (Int32.ofNat_le_ofNat hsm (by decide)).mp (show Int32.ofNat xs.length ≤ Int32.ofNat 3584 from hd)
  exact ⟨b, xs, Cond.one_arg hc (show args[0]? = some (.ref b) from hb), hx, hN, h⟩
theorem lw_comes (l : Launch) (hst : l.stackTraces = false) : Comes l x (Jvm.Cond.code x code maxLocals ret :: tables_1) room_1 (fun tb e args s => Calls_1 tb e args s ∧ rest_1 tb e args s ∧ Pre_1 tb e args s)
    (fun _ _ args s o t => lw_Q args s o t) := by
  intro p e ha hc hk s m args below hf hfit hheap happ hpre
  obtain ⟨b, xs, hP⟩ := lw_pre_spec hpre.2.2 hpre.2.1
  obtain ⟨k, o, h1, h2, h3, hQ⟩ := lw_walk l hst b xs p e ha hc hk s m args below hf ((Spec.applies_iff_loose hf).mp happ).1 hP trivial
  exact ⟨k, o, h1, h2, h3, hQ⟩
theorem lw_frame {s t : State} {o : Outcome} {args : Array Value} (h : Framed s o t [] 601024 7293034) :
    Framed s o t (fieldLocs frame_1_writes args s ++ arrayLocs frame_1_arrays args s ++ staticLocs frame_1_statics s) 601024 7293034 := h
theorem lw_limb (L : Cond) (hL : ∀ (args : Array Value) (s t : State), L.after args s (.returned (some (.int 1))) t = true) :
    ArmFor flags0 classFile x code maxLocals ret World_1 tables_1 room_1 Calls_1 rest_1 Pre_1
      (fun tb e a s o t => postC L tb e a s o t ∧ Framed s o t (fieldLocs frame_1_writes a s ++ arrayLocs frame_1_arrays a s ++ staticLocs frame_1_statics s) 601024 7293034) := by
  intro l hfl _ _ p e ha hc hk s m args below hf hfit hheap happ hpre
  have hst : l.stackTraces = false := by unfold Launch.stackTraces; rw [hfl]; decide
  obtain ⟨k, o, h1, h2, h3, rfl, hF⟩ := lw_comes l hst p e ha hc hk s m args below hf hfit hheap happ hpre
  exact ⟨k, _, h1, h2, h3, hL args s _, lw_frame hF⟩
theorem i_vc : Claimed_1_1 ∧ Claimed_1_2 := ⟨lw_limb limb_1_1 (fun args s t => by simp [limb_1_1, Cond.after, Cond.holds, Cond.value]), lw_limb limb_1_2 (fun args s t => Cond.after_iff.mpr (by
  first | (rw [show limb_1_2 = Cond.eq .result (.int 1) from rfl, Cond.eq_ints (x := 1) (y := 1) rfl rfl]; simp; done) | (simp [limb_1_2, Cond.value, Term.eval]; done)))⟩
