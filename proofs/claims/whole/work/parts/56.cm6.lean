/-! PURE: the class's matching of a tree -/
/-- what is run over the items that are left, step by step -/
def clT (g : Gh) (items : List Itm) (M0 : Mem) (T : List Itm → Mem → Prop) : Prop := ∀ x r M, (x :: r) <:+ items → Fr (PX g 12) nQ M0 M → wp_X7_step g M (gB g + 9) (nI x.1) x.2.1 x.2.2 (fun M' => T r M') → T (x :: r) M
def sqM (g : Gh) (l : List Itm) (M : Mem) (post : Mem → Prop) : Prop := ∀ (items : List Itm) (M0 : Mem) (T : List Itm → Mem → Prop) (r : List Itm), clT g items M0 T → (l ++ r) <:+ items → Fr (PX g 12) nQ M0 M → (∀ M', Fr (PX g 12) nQ M0 M' → post M' → T r M') → T (l ++ r) M
theorem sqM_nil {g : Gh} {M : Mem} {post : Mem → Prop} (h : post M) : sqM g [] M post := fun _ _ _ _ _ _ f hp => hp M f h
theorem sqM_app {g : Gh} {l1 l2 : List Itm} {M : Mem} {post : Mem → Prop} (h : sqM g l1 M (fun M' => sqM g l2 M' post)) : sqM g (l1 ++ l2) M post := by
  intro items M0 T r hT hs f hp
  rw [List.append_assoc] at hs ⊢
  exact h items M0 T (l2 ++ r) hT hs f (fun M' f' h' => h' items M0 T r hT ((List.suffix_append l1 (l2 ++ r)).trans hs) f' hp)
theorem sqM_cons {g : Gh} {x : Itm} {l : List Itm} {M : Mem} {post : Mem → Prop} (h : ∀ Q : Mem → Prop, (∀ M', Fr (PX g 12) nQ M M' ∧ sqM g l M' post → Q M') → wp_X7_step g M (gB g + 9) (nI x.1) x.2.1 x.2.2 Q) : sqM g (x :: l) M post := by
  intro items M0 T r hT hs f hp
  exact hT x (l ++ r) M hs f (h _ (fun M' hh => hh.2 items M0 T r hT ((List.suffix_cons x (l ++ r)).trans hs) (f.tr hh.1) hp))
theorem st_open {g : Gh} {M : Mem} (h1 : Lay g M) {b : Nat} (hb : b ≤ 2) {post : Mem → Prop} (h : wp_X7_openFrame g M (gB g + 9) post) : wp_X7_step g M (gB g + 9) (nI (opn b)) 0 0 post := by
  rcases (show b = 0 ∨ b = 1 ∨ b = 2 by omega) with rfl | rfl | rfl
  · exact ⟨lk_9 h1, fun hx => absurd hx (by decide), fun hx => absurd hx (by decide), fun hx => absurd hx (by decide), fun _ => h, fun hx => absurd hx (by decide), fun hx => absurd hx (by decide), fun hx => absurd hx (by decide), fun hx => absurd hx (by decide), fun hx => absurd rfl hx.2.2.2.1⟩
  · exact ⟨lk_9 h1, fun _ => h, fun hx => absurd hx (by decide), fun hx => absurd hx (by decide), fun hx => absurd hx (by decide), fun hx => absurd hx (by decide), fun hx => absurd hx (by decide), fun hx => absurd hx (by decide), fun hx => absurd hx (by decide), fun hx => absurd rfl hx.1⟩
  · exact ⟨lk_9 h1, fun hx => absurd hx (by decide), fun hx => absurd hx (by decide), fun hx => absurd hx (by decide), fun hx => absurd hx (by decide), fun hx => absurd hx (by decide), fun _ => h, fun hx => absurd hx (by decide), fun hx => absurd hx (by decide), fun hx => absurd rfl hx.2.2.2.2.2.1⟩
theorem st_close {g : Gh} {M : Mem} (h1 : Lay g M) {b : Nat} (hb : b ≤ 2) {post : Mem → Prop} (h : wp_X7_closeFrame g M (gB g + 9) (nI (cls b)) post) : wp_X7_step g M (gB g + 9) (nI (cls b)) 0 0 post := by
  rcases (show b = 0 ∨ b = 1 ∨ b = 2 by omega) with rfl | rfl | rfl
  · exact ⟨lk_9 h1, fun hx => absurd hx (by decide), fun hx => absurd hx (by decide), fun hx => absurd hx (by decide), fun hx => absurd hx (by decide), fun _ => h, fun hx => absurd hx (by decide), fun hx => absurd hx (by decide), fun hx => absurd hx (by decide), fun hx => absurd rfl hx.2.2.2.2.1⟩
  · exact ⟨lk_9 h1, fun hx => absurd hx (by decide), fun _ => h, fun hx => absurd hx (by decide), fun hx => absurd hx (by decide), fun hx => absurd hx (by decide), fun hx => absurd hx (by decide), fun hx => absurd hx (by decide), fun hx => absurd hx (by decide), fun hx => absurd rfl hx.2.1⟩
  · exact ⟨lk_9 h1, fun hx => absurd hx (by decide), fun hx => absurd hx (by decide), fun hx => absurd hx (by decide), fun hx => absurd hx (by decide), fun hx => absurd hx (by decide), fun hx => absurd hx (by decide), fun hx => absurd hx (by decide), fun _ => h, fun hx => absurd rfl hx.2.2.2.2.2.2.2⟩
theorem st_bar {g : Gh} {M : Mem} {e N : Nat} {a : AnT} (h : CX g M e N a) (he : e < 7) {post : Mem → Prop} (hq : wp_X3_closeRow g M (gB g + (12 + 5 * e)) post) : wp_X7_step g M (gB g + 9) (nI 124) 0 0 post := by
  have h1 := h.1
  refine ⟨lk_9 h1, fun hx => absurd hx (by decide), fun hx => absurd hx (by decide), fun hx => absurd hx (by decide), fun hx => absurd hx (by decide), fun hx => absurd hx (by decide), fun hx => absurd hx (by decide), fun _ => ⟨_, lr_9_2 h1, lk_11 h1, ?_⟩, fun hx => absurd hx (by decide), fun hx => absurd rfl hx.2.2.2.2.2.2.1⟩
  rw [h.2.1, nI_cl e (by omega), ln_11 h1]
  exact ⟨pk_in e 7 he, _, (lk_fr h1 he).2.2.1, hq⟩
theorem st_comma {g : Gh} {M : Mem} {e N : Nat} {a : AnT} (h : CX g M e N a) (hN : N ≤ 20) (he : e < 7) {A B : Nat → Nat → Prop} (hA : RowIs g M (13 + 5 * e) N A) (hB : RowIs g M (14 + 5 * e) N B) {m : Nat} (hm : m < 5) {K : Nat → Nat → Nat → Prop} (hK : KpIs g M e N m K) (hKl : ∀ s, s ≤ N → ∀ j, j < 32 → ((B s j ∨ A s j) ↔ K m s j)) {post : Mem → Prop} (hq : ∀ M', Fr (fun a k => (a = (gB g + (12 + 5 * e)) ∧ k = 3) ∨ a = (gB g + (13 + 5 * e)) ∨ a = (gB g + (14 + 5 * e)) ∨ a = (gB g + (15 + 5 * e))) nQ M M' → KpIs g M' e N (m + 1) K → RowIs g M' (13 + 5 * e) N (fun s j => s = j) → RowIs g M' (14 + 5 * e) N (fun _ _ => False) → post M') : wp_X7_step g M (gB g + 9) (nI 44) 0 0 post := by
  have h1 := h.1
  refine ⟨lk_9 h1, fun hx => absurd hx (by decide), fun hx => absurd hx (by decide), fun _ => ⟨_, lr_9_2 h1, lk_11 h1, ?_⟩, fun hx => absurd hx (by decide), fun hx => absurd hx (by decide), fun hx => absurd hx (by decide), fun hx => absurd hx (by decide), fun hx => absurd hx (by decide), fun hx => absurd rfl hx.2.2.1⟩
  rw [h.2.1, nI_cl e (by omega), ln_11 h1]
  refine ⟨pk_in e 7 he, _, (lk_fr h1 he).2.2.1, ?_⟩
  refine sp_closeRow h1 he hN hA hB (fun M1 f1 r1 r2 => ?_)
  have l1 := f1.lay h1
  refine ⟨_, lr_9_2 l1, lk_11 h1, ?_⟩
  rw [f1.1 _ _ (by omega), h.2.1, nI_cl e (by omega), ln_11 h1]
  refine ⟨pk_in e 7 he, _, (lk_fr l1 he).2.2.1, ?_⟩
  refine sp_keepForm l1 he hN hm (hK.fr f1 (fun b k hh => by omega)) r2 (fun M2 f2 k2 r3 r4 => hq M2 ((f1.mono (fun b k hh => by omega) (fun _ _ hh => hh)).tr f2) (k2.iff (fun i hi s hs j hj => ?_)) r3 r4)
  by_cases him : i = m
  · subst him; rw [upN_s]; exact hKl s hs j hj
  · rw [upN_n _ _ him]
theorem lf_kind (p : Lf) : (lfI p).1 = 1 ∨ (lfI p).1 = 2 := by
  unfold lfI; split
  · exact Or.inl rfl
  · exact Or.inr rfl
theorem st_leaf {g : Gh} {M : Mem} {e N : Nat} {a : AnT} (h : CX g M e N a) (hN : N ≤ 20) (hok : okN N a) (he : e < 7) {p : Lf} (hp : okL p) {A : Nat → Nat → Prop} (hA : RowIs g M (13 + 5 * e) N A) {post : Mem → Prop} (hq : ∀ M', Fr (fun a _ => a = (gB g + (13 + 5 * e))) nQ M M' → RowIs g M' (13 + 5 * e) N (fun s j => ∃ i, A s i ∧ rL N a p i j) → post M') : wp_X7_step g M (gB g + 9) (nI (lfI p).1) (lfI p).2.1 (lfI p).2.2 post := by
  have h1 := h.1
  have ne : ∀ k : Int32, (k = 40 ∨ k = 41 ∨ k = 44 ∨ k = 91 ∨ k = 93 ∨ k = 123 ∨ k = 124 ∨ k = 125) → nI (lfI p).1 = k → False := by
    rcases lf_kind p with e | e <;> rw [e] <;> (intro k hk hx; subst hx; revert hk; decide)
  refine ⟨lk_9 h1, fun hx => (ne _ (by decide) hx).elim, fun hx => (ne _ (by decide) hx).elim, fun hx => (ne _ (by decide) hx).elim, fun hx => (ne _ (by decide) hx).elim, fun hx => (ne _ (by decide) hx).elim, fun hx => (ne _ (by decide) hx).elim, fun hx => (ne _ (by decide) hx).elim, fun hx => (ne _ (by decide) hx).elim, fun _ => ⟨_, lr_9_2 h1, lk_11 h1, ?_⟩⟩
  rw [h.2.1, nI_cl e (by omega), ln_11 h1]
  exact ⟨pk_in e 7 he, _, (lk_fr h1 he).2.2.1, sp_leafC h1 he hN h.2.2 hok hp hA hq⟩
/-- a list of items takes what the relation tells -/
def PtOK (g : Gh) (N : Nat) (a : AnT) (e : Nat) (l : List Itm) (R : Nat → Nat → Prop) : Prop := ∀ (M : Mem) (A : Nat → Nat → Prop) (post : Mem → Prop), CX g M e N a → RowIs g M (13 + 5 * e) N A → (∀ s j, s ≤ N → A s j → j ≤ N) → (∀ M', Fr (PXw g e) nQ M M' → mI M' (gB g + 9) 3 = nI e → RowIs g M' (13 + 5 * e) N (fun s j => ∃ i, A s i ∧ R i j) → post M') → sqM g l M post
theorem pt_leaf {g : Gh} {N : Nat} {a : AnT} {e : Nat} (hN : N ≤ 20) (hok : okN N a) (he : e < 7) {p : Lf} (hp : okL p) : PtOK g N a e [lfI p] (rL N a p) := by
  intro M A post h hA hAN hq
  refine sqM_cons (fun Q hQ => st_leaf h hN hok he hp hA (fun M' f r => hQ M' ⟨f.mono (fun b k hh => by unfold PX; omega) (fun _ _ hh => hh), sqM_nil (hq M' (f.mono (fun b k hh => Or.inr hh) (fun _ _ hh => hh)) ?_ r)⟩))
  rw [f.1 _ _ (by omega)]; exact h.2.1
theorem pt_row {g : Gh} {N : Nat} {a : AnT} {e : Nat} (he : e < 7) {α : Type} {f : α → List Itm} {R : α → Nat → Nat → Prop} (hR : ∀ p k j, k ≤ N → R p k j → j ≤ N) : ∀ (r : List α), (∀ p ∈ r, PtOK g N a e (f p) (R p)) → PtOK g N a e ((r.map f).flatten) (rR R r)
  | [], _, M, A, post, h, hA, hAN, hq => sqM_nil (hq M Fr.rf h.2.1 (hA.iff (fun s hs j hj => ⟨fun hx => ⟨j, hx, rfl⟩, fun ⟨i, hx, e⟩ => by have e : i = j := e; rw [← e]; exact hx⟩)))
  | p :: r, hr, M, A, post, h, hA, hAN, hq => by
    rw [List.map_cons, List.flatten_cons]
    refine sqM_app ?_
    refine hr p List.mem_cons_self M A _ h hA hAN (fun M1 f1 z1 r1 => ?_)
    have c1 : CX g M1 e N a := h.fr (f1.mono (fun b k hh => by unfold PXw PX at hh; unfold PX; omega) (fun _ _ hh => hh)) z1
    refine pt_row he hR r (fun q hq => hr q (List.mem_cons_of_mem _ hq)) M1 _ _ c1 r1 (fun s j hs ⟨i, h2, h3⟩ => hR p i j (hAN s i hs h2) h3) (fun M2 f2 z2 r2 => hq M2 (f1.tr f2) z2 (r2.iff (fun s hs j hj => ?_)))
    constructor
    · rintro ⟨i, ⟨k, h2, h3⟩, h4⟩; exact ⟨k, h2, i, h3, h4⟩
    · rintro ⟨k, h2, i, h3, h4⟩; exact ⟨i, ⟨k, h2, h3⟩, h4⟩
