/-! THE LAW'S START: what the statement gives of the state at the law's entry -/
def F1 : List Cond := flatC (Jvm.Cond.and given_1 narrow_1)
def tmS (i : Nat) : Term := .string (stn.getD i ("", 0, "")).1 (stn.getD i ("", 0, "")).2.1
def psb : List Nat := [56, 69, 74, 81, 93, 105, 119, 134, 149, 166, 226, 271, 310, 350]
theorem f1x : ∀ i, i < 14 → F1[psb.getD i 0]? = some (.exactly (tmS i) "java/lang/String") := by decide +kernel
theorem f1c : ∀ i, i < 14 → F1[psb.getD i 0 + 1]? = some (.eq (.field (tmS i) "java/lang/String" "coder" "B") (.int 0)) := by decide +kernel
theorem f1a : ∀ i, i < 14 → F1[psb.getD i 0 + 2]? = some (.arrayOf (.field (tmS i) "java/lang/String" "value" "[B") .byte) := by decide +kernel
theorem f1l : ∀ i, i < 14 → F1[psb.getD i 0 + 3]? = some (.eq (.length (.field (tmS i) "java/lang/String" "value" "[B")) (.int (Int32.ofNat (stl.getD i 0)))) := by decide +kernel
theorem f1e : ∀ i, i < 14 → ∀ j, j < stl.getD i 0 → F1[psb.getD i 0 + 4 + j]? = some (.eq (.elem (.field (tmS i) "java/lang/String" "value" "[B") (.int (Int32.ofNat j))) (.int ((stb.getD i []).getD j 0))) := by decide +kernel
theorem f1n : ∀ i, i < 14 → ∀ j, j < i → F1[psb.getD i 0 + 4 + stl.getD i 0 + j]? = some (.not (.eq (tmS j) (tmS i))) := by decide +kernel
theorem f1z : F1[4]? = some (.eq (.static "java/lang/String" "COMPACT_STRINGS" "Z") (.int 1)) ∧ F1[5]? = some (.isRef (.static "jdk/internal/util/Preconditions" "SIOOBE_FORMATTER" "Ljava/util/function/BiFunction;")) ∧ F1[9]? = some (.isRef (.static Bundle.tN "UNASSIGNED_STACK" Bundle.steD)) ∧ F1[10]? = some (.isRef (.static Bundle.tN "SUPPRESSED_SENTINEL" Bundle.listD)) := by decide +kernel
theorem stn_in : ∀ x ∈ stn, Cond.stringRef x.1 x.2.1 x.2.2 ∈ lw_tbl := by decide +kernel
theorem st_inst : ∀ q ∈ [(RX0, 6), (RX1, 3), (RX2, 10), (RX3, 5), (RX4, 9), (RX5, 5), (RX6, 9), (RX7, 5), (RX8, 15), (RX9, 6), (RX10, 6), (RX11, 11), (RX12, 67)], Cond.instantiable q.1 q.2 ∈ lw_tbl := by decide +kernel
theorem st_arr : ∀ t ∈ ([.byte, .int, .long, .short, .boolean] : List FieldType), Cond.arrayClass t ∈ lw_tbl := by decide +kernel
theorem st_ovr : ∀ C ∈ ["QuizLeague$Event", "QuizLeague$Frame", "QuizLeague$Question"], Cond.arrayOver (.object C) ∈ lw_tbl := by decide +kernel
theorem st_sta : ∀ x ∈ [("java/lang/String", "COMPACT_STRINGS", "Z"), ("jdk/internal/util/Preconditions", "SIOOBE_FORMATTER", "Ljava/util/function/BiFunction;"), (Bundle.tN, "UNASSIGNED_STACK", Bundle.steD), (Bundle.tN, "SUPPRESSED_SENTINEL", Bundle.listD)], Cond.laysStatic x.1 x.2.1 x.2.2 ∈ lw_tbl ∧ Cond.initialized x.1 ∈ lw_tbl := by decide +kernel
def sel13 {α : Type} (x0 x1 x2 x3 x4 x5 x6 x7 x8 x9 x10 x11 x12 : α) : Nat → α
  | 0 => x0
  | 1 => x1
  | 2 => x2
  | 3 => x3
  | 4 => x4
  | 5 => x5
  | 6 => x6
  | 7 => x7
  | 8 => x8
  | 9 => x9
  | 10 => x10
  | 11 => x11
  | _ => x12
set_option maxHeartbeats 2000000 in
theorem law_ctx {s : State} {args : Array Value} (hts : ∀ w ∈ lw_tbl, w.before args s = true) (hgv : (Jvm.Cond.and given_1 narrow_1).before args s = true) : ∃ g : Gh, gB g = s.heap.size ∧ va_K (gD g) vwCl (tysG (gG g)) s ∧ NK s ∧ AOs s ∧ EX g s s.heap ∧ ZX g s s.heap := by
  have hF : ∀ (i : Nat) (w : Cond), F1[i]? = some w → w.before args s = true := fun i w h => flat_of_before _ hgv w (List.mem_of_getElem? h)
  have hA : ∀ a : Nat, a < s.heap.size → ¬ (fun q : Nat => s.heap.size ≤ q) a := fun a h => Nat.not_le.mpr h
  have hT : ∀ w ∈ TBL, w.before args s = true := fun w h => hts w (List.mem_filter.mp h).1
  have hI : ∀ q ∈ [(RX0, 6), (RX1, 3), (RX2, 10), (RX3, 5), (RX4, 9), (RX5, 5), (RX6, 9), (RX7, 5), (RX8, 15), (RX9, 6), (RX10, 6), (RX11, 11), (RX12, 67)], (Cond.instantiable q.1 q.2).before args s = true := fun q h => hts _ (st_inst q h)
  obtain ⟨c0, i0, k0⟩ := u_known hT inX0 (hI _ (List.mem_of_getElem? (i := 0) rfl))
  obtain ⟨c1, i1, k1⟩ := u_known hT inX1 (hI _ (List.mem_of_getElem? (i := 1) rfl))
  obtain ⟨c2, i2, k2⟩ := u_known hT inX2 (hI _ (List.mem_of_getElem? (i := 2) rfl))
  obtain ⟨c3, i3, k3⟩ := u_known hT inX3 (hI _ (List.mem_of_getElem? (i := 3) rfl))
  obtain ⟨c4, i4, k4⟩ := u_known hT inX4 (hI _ (List.mem_of_getElem? (i := 4) rfl))
  obtain ⟨c5, i5, k5⟩ := u_known hT inX5 (hI _ (List.mem_of_getElem? (i := 5) rfl))
  obtain ⟨c6, i6, k6⟩ := u_known hT inX6 (hI _ (List.mem_of_getElem? (i := 6) rfl))
  obtain ⟨c7, i7, k7⟩ := u_known hT inX7 (hI _ (List.mem_of_getElem? (i := 7) rfl))
  obtain ⟨c8, i8, k8⟩ := u_known hT inX8 (hI _ (List.mem_of_getElem? (i := 8) rfl))
  obtain ⟨c9, i9, k9⟩ := u_known hT inX9 (hI _ (List.mem_of_getElem? (i := 9) rfl))
  obtain ⟨c10, i10, k10⟩ := u_known hT inX10 (hI _ (List.mem_of_getElem? (i := 10) rfl))
  obtain ⟨c11, i11, k11⟩ := u_known hT inX11 (hI _ (List.mem_of_getElem? (i := 11) rfl))
  obtain ⟨c12, i12, k12⟩ := u_known hT inX12 (hI _ (List.mem_of_getElem? (i := 12) rfl))
  obtain ⟨a13, b13, d13, e13, f13, g13⟩ := Cond.arrayClass_spec (hts _ (st_arr .byte (List.mem_of_getElem? (i := 0) rfl)))
  obtain ⟨a14, b14, d14, e14, f14, g14⟩ := Cond.arrayClass_spec (hts _ (st_arr .int (List.mem_of_getElem? (i := 1) rfl)))
  obtain ⟨a15, b15, d15, e15, f15, g15⟩ := Cond.arrayClass_spec (hts _ (st_arr .long (List.mem_of_getElem? (i := 2) rfl)))
  obtain ⟨a16, b16, d16, e16, f16, g16⟩ := Cond.arrayClass_spec (hts _ (st_arr .short (List.mem_of_getElem? (i := 3) rfl)))
  obtain ⟨a17, b17, d17, e17, f17, g17⟩ := Cond.arrayClass_spec (hts _ (st_arr .boolean (List.mem_of_getElem? (i := 4) rfl)))
  have o18 := hts _ (st_ovr "QuizLeague$Event" (List.mem_of_getElem? (i := 0) rfl))
  have o19 := hts _ (st_ovr "QuizLeague$Frame" (List.mem_of_getElem? (i := 1) rfl))
  have o20 := hts _ (st_ovr "QuizLeague$Question" (List.mem_of_getElem? (i := 2) rfl))
  obtain ⟨p18, a18, b18, d18, -, e18, f18, g18⟩ := Cond.arrayOver_spec o18
  obtain ⟨p19, a19, b19, d19, -, e19, f19, g19⟩ := Cond.arrayOver_spec o19
  obtain ⟨p20, a20, b20, d20, -, e20, f20, g20⟩ := Cond.arrayOver_spec o20
  obtain ⟨adK, adV, hS, hE⟩ := vk_Sof (A := fun q : Nat => s.heap.size ≤ q) (tm := tmS) (len := stl) (byt := stb) (N := 14) (by decide) (fun i hi => hF _ _ (f1x i hi)) (fun i hi => hF _ _ (f1c i hi)) (fun i hi => hF _ _ (f1a i hi)) (fun i hi => hF _ _ (f1l i hi)) (fun i hi j hj => hF _ _ (f1e i hi j hj)) (fun i j hi hj hne => by
    rcases Nat.lt_or_gt_of_ne hne with h | h
    · exact Or.inl (hF _ _ (f1n j hj i h))
    · exact Or.inr (hF _ _ (f1n i hi j h))) hA
  have z0 := st_sta _ (List.mem_of_getElem? (i := 0) rfl)
  have z1 := st_sta _ (List.mem_of_getElem? (i := 1) rfl)
  have z2 := st_sta _ (List.mem_of_getElem? (i := 2) rfl)
  have z3 := st_sta _ (List.mem_of_getElem? (i := 3) rfl)
  refine ⟨(fun k => sel13 a13 a14 a15 a16 a17 a18 a19 a20 a20 a20 a20 a20 a20 (k - 13), (sel13 c0 c1 c2 c3 c4 c5 c6 c7 c8 c9 c10 c11 c12, sel13 i0 i1 i2 i3 i4 i5 i6 i7 i8 i9 i10 i11 i12), adK, adV, s.heap.size), rfl, ⟨?_, ?_⟩, ?_, ⟨va_AO.of o18, va_AO.of o19, va_AO.of o20⟩, ⟨hS, ?_, va_Zof (hts _ z0.1) (hts _ z0.2) (va_eqt (hF _ _ f1z.1)) hA, va_Zqof (hts _ z1.1) (hts _ z1.2) (hF _ _ f1z.2.1) hA⟩, ⟨vx_Zqof (hts _ z2.1) (hts _ z2.2) (hF _ _ f1z.2.2.1) hA, vx_Zqof (hts _ z3.1) (hts _ z3.2) (hF _ _ f1z.2.2.2) hA, ?_⟩⟩
  · intro c q hq
    match c, hq with
    | 0, hq => cases hq; exact k0
    | 1, hq => cases hq; exact k1
    | 2, hq => cases hq; exact k2
    | 3, hq => cases hq; exact k3
    | 4, hq => cases hq; exact k4
    | 5, hq => cases hq; exact k5
    | 6, hq => cases hq; exact k6
    | 7, hq => cases hq; exact k7
    | 8, hq => cases hq; exact k8
    | 9, hq => cases hq; exact k9
    | 10, hq => cases hq; exact k10
    | 11, hq => cases hq; exact k11
    | 12, hq => cases hq; exact k12
    | c + 13, hq => exact absurd (List.getElem?_eq_some_iff.mp hq).1 (by show ¬ c + 13 < 13; omega)
  · have ar : ∀ {cA : ClassId} {kA : Class} {comp : ClassId} {ty : FieldType}, s.vm.classes[cA]? = some kA → kA.kind = .array comp ty → ArrOfT s cA ty := fun h1 h2 N z => ⟨(fun k h => by cases h), _, h1, _, h2⟩
    intro k q hq
    match k, hq with
    | 0, hq => cases hq; exact ⟨ar f13 g13, e13⟩
    | 1, hq => cases hq; exact ⟨ar f14 g14, e14⟩
    | 2, hq => cases hq; exact ⟨ar f15 g15, e15⟩
    | 3, hq => cases hq; exact ⟨ar f16 g16, e16⟩
    | 4, hq => cases hq; exact ⟨ar f17 g17, e17⟩
    | 5, hq => cases hq; exact ⟨ar e18 f18, _, _, e18, f18, d18, g18⟩
    | 6, hq => cases hq; exact ⟨ar e19 f19, _, _, e19, f19, d19, g19⟩
    | 7, hq => cases hq; exact ⟨ar e20 f20, _, _, e20, f20, d20, g20⟩
    | k + 8, hq => exact absurd (List.getElem?_eq_some_iff.mp hq).1 (by show ¬ k + 8 < 8; omega)
  · intro w hw
    have h1 := hts w (NKl_in w hw)
    have h2 := NKl_nst w hw
    cases w <;> first | exact va_Nw.of rfl h1 | cases h2
  · intro i x hx
    have hi : i < 14 := (List.getElem?_eq_some_iff.mp hx).1
    have e : stn.getD i ("", 0, "") = x := by rw [List.getD_eq_getElem?_getD, hx]; rfl
    have hr := hE i hi
    unfold tmS at hr
    rw [e] at hr
    exact vk_R.of (hts _ (stn_in x (List.mem_of_getElem? hx))) hr
  · intro w hw
    have h1 := hts w (XWl_in w hw)
    have h2 := XWl_cd w hw
    cases w <;> first | exact va_Nw.of rfl h1 | cases h2
