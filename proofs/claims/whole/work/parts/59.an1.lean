/-! PURE: answers -/
/-- what holds between calls, the text aside -/
def Iw (g : Gh) (M : Mem) (c nq : Nat) (qa : Nat → Nat) (r : Nat) (L : LawT) (np : Nat) (pn : Nat → Nat) (on : Bool) : Prop := Lay g M ∧ IF g M ∧ IQ g M c nq qa ∧ ILw g M r L ∧ IP g M nq np pn ∧ IM g M r L np on ∧ IL g M
theorem Iv.w {g : Gh} {M : Mem} {c nq : Nat} {qa : Nat → Nat} {r : Nat} {L : LawT} {np : Nat} {pn : Nat → Nat} {on : Bool} (h : Iv g M c nq qa r L np pn on) : Iw g M c nq qa r L np pn on := ⟨h.1, h.2.2⟩
theorem Iw.v {g : Gh} {M : Mem} {c nq : Nat} {qa : Nat → Nat} {r : Nat} {L : LawT} {np : Nat} {pn : Nat → Nat} {on : Bool} (h : Iw g M c nq qa r L np pn on) (h2 : IT g M) : Iv g M c nq qa r L np pn on := ⟨h.1, h2, h.2⟩
def TRw (g : Gh) : Nat → Nat → Prop := fun a k => a = (gB g + 1) ∨ ((gB g + 3) ≤ a ∧ a ≤ (gB g + 47)) ∨ (a = (gB g + 195) ∧ (k = 0 ∨ (2 ≤ k ∧ k ≤ 8) ∨ k = 26 ∨ k = 28)) ∨ ((gB g + 207) ≤ a ∧ a ≤ (gB g + 209))
def TQw (g : Gh) : Nat → Nat → Prop := fun a k => a < (gB g + 200) ∨ ((gB g + 202) ≤ a ∧ a < (gB g + 234))
theorem Iw.fr {g : Gh} {M M' : Mem} {c nq : Nat} {qa : Nat → Nat} {r : Nat} {L : LawT} {np : Nat} {pn : Nat → Nat} {on : Bool} {P Q : Nat → Nat → Prop} (h : Iw g M c nq qa r L np pn on) (f : Fr P Q M M') (hP : ∀ a k, P a k → TRw g a k) (hQ : ∀ a k, Q a k → TQw g a k) : Iw g M' c nq qa r L np pn on := by
  obtain ⟨h1, h3, h4, h5, h6, h7, h8⟩ := h
  have hr := h5.1.1
  have f' : Fr (TRw g) (TQw g) M M' := f.mono hP hQ
  refine ⟨f'.lay h1, h3.fr f' (fun a k hh => ?_), h4.fr f' (fun a k hh => ?_) (fun a k hh => ?_), h5.fr f' (fun a k hh => ?_), h6.fr f' (fun a k hh => ?_), h7.fr f' (fun a k hh => ?_), h8.fr f' (fun a k hh => ?_)⟩
  · unfold TRw at hh; omega
  · unfold TRw at hh; omega
  · unfold TQw at hh; omega
  · unfold TRw at hh; omega
  · unfold TRw at hh; omega
  · unfold TRw at hh; omega
  · unfold TRw at hh; omega
/-- the text is read by the class, and wiped -/
def TX (g : Gh) (M : Mem) (bs : Nat → Nat) : Prop := mI M (gB g + 1) 1 = 0 ∧ (∀ i, i < 260 → mI M (gB g + 2) i = nI (bs i) ∧ mI M (gB g + 196) i = nI (bs i)) ∧ ∀ i, bs i < 256
theorem TX.fr {g : Gh} {M M' : Mem} {bs : Nat → Nat} {P Q : Nat → Nat → Prop} (h : TX g M bs) (f : Fr P Q M M') (hp : ∀ a k, P a k → ¬ (a = (gB g + 1) ∧ k = 1) ∧ ¬ a = (gB g + 2) ∧ ¬ a = (gB g + 196)) : TX g M' bs := by
  refine ⟨?_, fun i hi => ?_, h.2.2⟩
  · rw [f.1 _ _ (fun hh => by have := hp _ _ hh; omega)]; exact h.1
  · rw [f.1 _ _ (fun hh => by have := hp _ _ hh; omega), f.1 _ _ (fun hh => by have := hp _ _ hh; omega)]; exact h.2.1 i hi
theorem TX.it {g : Gh} {M : Mem} {bs : Nat → Nat} (h : TX g M bs) (h2 : mI M (gB g + 195) 2 = 0) : IT g M := ⟨0, bs, by omega, h.1, h2, h.2.1, h.2.2⟩
def PRc (g : Gh) : Nat → Nat → Prop := fun a k => (a = (gB g + 1) ∧ 1 ≤ k ∧ k ≤ 5) ∨ (a = (gB g + 9) ∧ k = 1)
def PRm (g : Gh) : Nat → Nat → Prop := fun a k => (a = (gB g + 195) ∧ (k = 0 ∨ (2 ≤ k ∧ k ≤ 7) ∨ k = 26)) ∨ a = (gB g + 207)
def PG (g : Gh) : Nat → Nat → Prop := fun a k => (a = (gB g + 195) ∧ (k = 0 ∨ (2 ≤ k ∧ k ≤ 7) ∨ k = 26 ∨ k = 28)) ∨ a = (gB g + 207) ∨ a = (gB g + 209)
theorem sp_rdC {g : Gh} {M : Mem} {c nq : Nat} {qa : Nat → Nat} {r : Nat} {L : LawT} {np : Nat} {pn : Nat → Nat} {on : Bool} (h : Iv g M c nq qa r L np pn on) {n : Nat} {bs : Nat → Nat} (h2 : ITp g M n bs) {post : Int32 → Mem → Prop} (hq : ∀ M', Fr (PRc g) (QAc g) M M' → Iw g M' c nq qa r L np pn on → TX g M' bs → ((anF bs n 21 0 0 a0A).1 = true → AC g M' (anF bs n 21 0 0 a0A).2.1 (anF bs n 21 0 0 a0A).2.2) → post (bI (anF bs n 21 0 0 a0A).1) M') : wp_X7_readFrom g M (gB g + 9) (gB g + 1) (fun v M6 => ∃ q7, mR M6 (gB g) 0 = some q7 ∧ wp_X10_wipe g M6 q7 (fun M10 => post v M10)) := by
  have h1 := h.1
  refine sp_ansC h1 ⟨lk_1 h1, lr_1_0 h1, lk_2 h1, ln_2 h1, h2.2.1, h2.1, fun i hi => (h2.2.2.2.1 i hi).1, h2.2.2.2.2⟩ (fun M1 f1 a1 => ⟨_, lr_0_0 (f1.lay h1), lk_1 (f1.lay h1), ?_⟩)
  rintro M2 rfl
  have f2 : Fr (PRc g) (QAc g) M (uI M1 (gB g + 1) 1 0) := (f1.mono (fun a k hh => by unfold PAc at hh; unfold PRc; omega) (fun _ _ hh => hh)).uI (Or.inl ⟨rfl, by omega, by omega⟩)
  refine hq _ f2 (h.w.fr f2 (fun a k hh => by unfold PRc at hh; unfold TRw; omega) (fun a k hh => by unfold QAc at hh; unfold TQw; omega)) ⟨by rw [s_II, if_pos rfl, if_pos rfl], fun i hi => ?_, h2.2.2.2.2⟩ (fun hx => (a1 hx).fr (P := fun a k => a = (gB g + 1) ∧ k = 1) (Q := nQ) (Fr.rf.uI ⟨rfl, rfl⟩) (fun b k hh => by omega) (fun a k hh => (hh : False).elim))
  rw [f2.1 _ _ (by unfold PRc; omega), f2.1 _ _ (by unfold PRc; omega)]
  exact h2.2.2.2.1 i hi
theorem sp_rdM {g : Gh} {M : Mem} (h1 : Lay g M) {n : Nat} {bs : Nat → Nat} (hn : n ≤ 260) (hT : TX g M bs) (h2 : mI M (gB g + 195) 2 = nI n) {post : Int32 → Mem → Prop} (hq : ∀ M', Fr (PRm g) (QAm g) M M' → TX g M' bs → mI M' (gB g + 195) 2 = 0 → ((anF bs n 21 0 0 a0A).1 = true → AM g M' (anF bs n 21 0 0 a0A).2.1 (anF bs n 21 0 0 a0A).2.2) → post (bI (anF bs n 21 0 0 a0A).1) M') : okc (gB g) M (gB g + 195) 12 ∧ (∀ M1, M1 = uI M (gB g + 195) 0 0 → wp_X12_readAnswer g M1 (gB g + 195) post) := by
  refine ⟨lk_195 h1, ?_⟩
  rintro M1 rfl
  have f0 : Fr (PRm g) (QAm g) M (uI M (gB g + 195) 0 0) := Fr.rf.uI (Or.inl ⟨rfl, by omega⟩)
  refine sp_ansM (f0.lay h1) (by rw [s_II, if_pos rfl, if_neg (by decide)]; exact h2) hn (fun i hi => by rw [s_II, if_neg (by omega)]; exact (hT.2.1 i hi).2) hT.2.2 (fun M2 f2 z2 a2 => ?_)
  have f3 : Fr (PRm g) (QAm g) M M2 := f0.tr (f2.mono (fun a k hh => by unfold PAm at hh; unfold PRm; omega) (fun _ _ hh => hh))
  exact hq M2 f3 (hT.fr f3 (fun a k hh => by unfold PRm at hh; omega)) z2 a2
theorem AM.fr {g : Gh} {M M' : Mem} {N : Nat} {a : AnT} {P Q : Nat → Nat → Prop} (h : AM g M N a) (f : Fr P Q M M') (hp : ∀ b k, P b k → ¬ (b = (gB g + 195) ∧ k = 26) ∧ ¬ b = (gB g + 207)) (hq : ∀ b k, Q b k → ¬ b = (gB g + 208)) : AM g M' N a := by
  refine ⟨?_, fun j hj => ⟨?_, ?_⟩⟩
  · rw [f.1 _ _ (fun hh => by have := hp _ _ hh; omega)]; exact h.1
  · rw [f.1 _ _ (fun hh => by have := hp _ _ hh; omega)]; exact (h.2 j hj).1
  · rw [f.2.1 _ _ (fun hh => hq _ _ hh rfl)]; exact (h.2 j hj).2
theorem sp_mayW {g : Gh} {M : Mem} {c nq : Nat} {qa : Nat → Nat} {r : Nat} {L : LawT} {np : Nat} {pn : Nat → Nat} (h : Iw g M c nq qa r L np pn true) {n : Nat} {ev : Nat → EvT} (hm : IMo g M r L np n ev) (kd p : Int32) (hk : kd = 0 ∨ kd = 1) {post : Int32 → Mem → Prop} (hy : mayS L (thr L ev n) n p ∧ (kd = 1 → lB L (rd L (sH (thr L ev n))) = false) → post 1 M) (hn : ¬ (mayS L (thr L ev n) n p ∧ (kd = 1 → lB L (rd L (sH (thr L ev n))) = false)) → post 0 M) : wp_X6_mayCome g M (gB g + 67) kd p post := by
  obtain ⟨h1, h3, h4, h5, h6, h7, h8⟩ := h
  obtain ⟨m1, m2, m3, m4, m5, m6, m7, m8, m9, m10⟩ := hm
  have hc : MC g M r L := ⟨h1, m4, h5.1⟩
  have hW := h5.1.2.1.W
  have hle := thr_le (ev := ev) n (fun j hj => (m6 j hj).2.2)
  refine ⟨lk_67 h1, ?_⟩
  rw [h7.1]
  refine ⟨fun hx => absurd hx (by decide), fun _ => sp_X6_isOver hc m7.1 (by omega) ?_⟩
  by_cases hlt : sH (thr L ev n) < lW L
  · rw [if_pos hlt]
    refine ⟨fun _ => ?_, fun hx => absurd rfl hx⟩
    rw [m2]
    refine pk_lt n 120 (fun hn' => ?_) (fun hn' => hn (fun hx => by have := hx.1.2.1; omega))
    have l65 : (kd = 1 → lB L (rd L (sH (thr L ev n))) = false) → (p = 0 ∨ p = 1) → lb_X6_mayCome_65 g M (gB g + 67) kd p post M := by
      intro hb hp
      refine sp_X6_isFor h1 m7.2.1 ?_
      by_cases hf : sW (thr L ev n) = 2 ∨ sW (thr L ev n) = p
      · rw [if_pos hf]
        exact ⟨fun hx => absurd hx (by decide), fun _ => hy ⟨⟨hlt, hn', hp, hf⟩, hb⟩⟩
      · rw [if_neg hf]
        exact ⟨fun _ => hn (fun hx => hf hx.1.2.2.2), fun hx => absurd rfl hx⟩
    have l51 : (kd = 1 → lB L (rd L (sH (thr L ev n))) = false) → lb_X6_mayCome_51 g M (gB g + 67) kd p post 1 M := fun hb =>
      ⟨fun hx => absurd hx (by decide), fun _ => ⟨fun hp => l65 hb (Or.inl hp), fun hp0 => ⟨fun hp => l65 hb (Or.inr hp), fun hp1 => hn (fun hx => hx.1.2.2.1.elim hp0 hp1)⟩⟩⟩
    refine ⟨fun hx => ?_, fun _ => ⟨fun h0 => l51 (fun hx => ?_), fun h0 => sp_X6_isBuzz hc m7.1 hlt ?_⟩⟩
    · rcases hk with e | e <;> rw [e] at hx <;> exact absurd hx (by decide)
    · rw [h0] at hx; exact absurd hx (by decide)
    · have k1 := hk.resolve_left h0
      cases hb : lB L (rd L (sH (thr L ev n))) with
      | true => exact ⟨fun hx => absurd hx (by decide), fun _ => ⟨fun _ => hn (fun hx => by have := hx.2 k1; rw [hb] at this; cases this), fun hx => absurd rfl hx⟩⟩
      | false => exact ⟨fun _ => l51 (fun _ => hb), fun hx => absurd rfl hx⟩
  · rw [if_neg hlt]
    exact ⟨fun hx => absurd hx (by decide), fun _ => hn (fun hx => hlt hx.1.1)⟩
theorem sp_addW {g : Gh} {M : Mem} {c nq : Nat} {qa : Nat → Nat} {r : Nat} {L : LawT} {np : Nat} {pn : Nat → Nat} (h : Iw g M c nq qa r L np pn true) {n : Nat} {ev : Nat → EvT} (hm : IMo g M r L np n ev) (hn : n < 120) (hh : sH (thr L ev n) < lW L) {kd sd : Int32} {b : Bool} (hE : EvOK L (sH (thr L ev n), kd, sd, b)) {post : Mem → Prop} (hq : ∀ M1, Fr (PXa g n) nQ M M1 → Lay g M1 → LM g M1 L → (∀ M1', Fr (PG g) (QAm g) M1 M1' → ∀ post2 : Mem → Prop, (∀ M2, Fr (PMa g n) nQ M1' M2 → Iw g M2 c nq qa r L np pn true → post2 M2) → wp_X12_tells g M1' (gB g + 195) kd sd (bI b) post2) → post M1) : wp_X6_add g M (gB g + 67) kd sd (bI b) post := by
  obtain ⟨h1, h3, h4, h5, h6, h7, h8⟩ := h
  obtain ⟨m1, m2, m3, m4, m5, m6, m7, m8, m9, m10⟩ := hm
  refine sp_X6_add ⟨h1, m4, h5.1⟩ hn m2 m7 hh hE (fun M1 f c1 e1 n1 v1 p1 => ?_)
  have hp := f
  have l1 := f.lay h1
  have lm1 : LM g M1 L := h5.2.1.fr f (fun a k hh => by unfold PXa at hh; omega)
  refine hq M1 f l1 lm1 (fun M1' f0 post2 hp2 => ?_)
  have f1 : Fr (fun a k => PXa g n a k ∨ PG g a k) (QAm g) M M1' := (f.mono (fun a k hh => Or.inl hh) (fun a k hh => (hh : False).elim)).tr (f0.mono (fun a k hh => Or.inr hh) (fun _ _ hh => hh))
  have x1 : MX g M1' L := ⟨f0.lay l1, lm1.fr f0 (fun a k hh => by unfold PG at hh; omega), by rw [f1.1 _ _ (by unfold PXa PG; omega), h6.2.2.1, m5.1]⟩
  refine sp_X12_tells x1 (ev := ev) (hd := sH (thr L ev n)) hn (by rw [f1.1 _ _ (by unfold PXa PG; omega)]; exact m3) (fun j hj => ⟨(m6 j hj).2.1.fr f1 (fun a ha hh => by unfold PXa PG at hh; omega), (m6 j hj).2.2⟩) (by rw [f1.1 _ _ (by unfold PXa PG; omega)]; exact m8.1) hE (fun M2 f2 c2 e2 n2 v2 => hp2 M2 f2 ?_)
  have f3 : Fr (fun a k => PXa g n a k ∨ PG g a k ∨ PMa g n a k) (QAm g) M M2 := (f1.mono (fun a k hh => hh.elim Or.inl (fun x => Or.inr (Or.inl x))) (fun _ _ hh => hh)).tr (f2.mono (fun a k hh => Or.inr (Or.inr hh)) (fun a k hh => (hh : False).elim))
  have f02 : Fr (fun a k => PG g a k ∨ PMa g n a k) (QAm g) M1 M2 := (f0.mono (fun a k hh => Or.inl hh) (fun _ _ hh => hh)).tr (f2.mono (fun a k hh => Or.inr hh) (fun a k hh => (hh : False).elim))
  refine ⟨f3.lay h1, h3.fr f3 ?_, h4.fr f3 ?_ (fun a k hh => by unfold QAm at hh; omega), h5.fr f3 ?_, h6.fr f3 ?_, ⟨?_, ?_, fun hx => absurd hx (by decide), fun _ => ⟨n + 1, upE ev n (sH (thr L ev n), kd, sd, b), ?_⟩⟩, h8.fr f3 ?_⟩
  · intro a k hh; unfold PXa PMa PG at hh; omega
  · intro a k hh; unfold PXa PMa PG at hh; omega
  · intro a k hh; unfold PXa PMa PG at hh; have := h5.1.1; omega
  · intro a k hh; unfold PXa PMa PG at hh; omega
  · rw [f3.1 _ _ (by unfold PXa PMa PG; omega)]; exact h7.1
  · rw [f3.1 _ _ (by unfold PXa PMa PG; omega)]; exact h7.2.1
  · have ce : CE g M2 n (sH (thr L ev n), kd, sd, b) := e1.fr f02 (fun k hk hh => by unfold PMa PG at hh; omega)
    have c12 : CM g M2 (apE L (thr L ev n) (sH (thr L ev n), kd, sd, b)) := c1.fr f02 (fun a k hh => by unfold PMa PG at hh; omega)
    refine ⟨by omega, ?_, n2, by rw [f3.R]; exact m4, m5, fun j hj => ⟨?_, e2 j hj, ?_⟩, ?_, c2, fun j hj => ?_, v2⟩
    · rw [f02.1 _ _ (by unfold PMa PG; omega)]; exact n1
    · by_cases hjn : j = n
      · subst hjn; rw [upE_s]; exact ce
      · rw [upE_n _ _ hjn]
        exact (m6 j (by omega)).1.fr f3 (fun k hk hh => by unfold PXa PMa PG at hh; omega)
    · by_cases hjn : j = n
      · subst hjn; rw [upE_s]; exact hE
      · rw [upE_n _ _ hjn]; exact (m6 j (by omega)).2.2
    · show CM g M2 (apE L (thr L (upE ev n _) n) (upE ev n _ n))
      rw [thr_up L ev n _ (Nat.le_refl n), upE_s]; exact c12
    · by_cases hjn : j = n
      · subst hjn
        rw [thr_up L ev j _ (Nat.le_refl j), upE_s, f02.1 _ _ (by unfold PMa PG; omega), f02.1 _ _ (by unfold PMa PG; omega)]
        exact ⟨v1, p1⟩
      · rw [thr_up L ev n _ (by omega), upE_n _ _ hjn, f3.1 _ _ (by unfold PXa PMa PG; omega), f3.1 _ _ (by unfold PXa PMa PG; omega)]
        exact m9 j (by omega)
  · intro a k hh; unfold PXa PMa PG at hh; omega
