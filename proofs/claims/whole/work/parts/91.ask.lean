/-! PURE: asked and event -/
def bcI (x : Int32) : Nat → Int32
  | 0 => 0
  | i + 1 => bcI x i + ((x >>> (nI i &&& 31)) &&& 1)
def bt1 (p : Int32) : Int32 := p - (((Int32.toUInt32 p >>> (Int32.toUInt32 1 &&& Int32.toUInt32 31)).toInt32) &&& 1431655765)
def bt2 (p : Int32) : Int32 := (p &&& 858993459) + (((Int32.toUInt32 p >>> (Int32.toUInt32 2 &&& Int32.toUInt32 31)).toInt32) &&& 858993459)
def bt3 (p : Int32) : Int32 := (p + ((Int32.toUInt32 p >>> (Int32.toUInt32 4 &&& Int32.toUInt32 31)).toInt32)) &&& 252645135
def bt4 (p : Int32) : Int32 := p + ((Int32.toUInt32 p >>> (Int32.toUInt32 8 &&& Int32.toUInt32 31)).toInt32)
def bt5 (p : Int32) : Int32 := (p + ((Int32.toUInt32 p >>> (Int32.toUInt32 16 &&& Int32.toUInt32 31)).toInt32)) &&& 63
theorem bc_eq1 : ∀ a, a < 64 → ∀ b, b < 64 → bt5 (bt4 (bt3 (bt2 (bt1 (nI (64 * a + b)))))) = bcI (nI (64 * a + b)) 12 := by decide +kernel
theorem bc_eq {s : Nat} (hs : s < 4096) : bt5 (bt4 (bt3 (bt2 (bt1 (nI s))))) = bcI (nI s) 12 := by
  have := bc_eq1 (s / 64) (by omega) (s % 64) (by omega)
  rw [show 64 * (s / 64) + s % 64 = s by omega] at this
  exact this
def vA (g : Gh) (M : Mem) (q : Nat) : Nat → Int32
  | 0 => mI M (gB g + 202) q
  | 1 => mI M (gB g + 203) q
  | 2 => mI M (gB g + 204) q
  | 3 => hdI (mI M (gB g + 203) q) (mI M (gB g + 204) q)
  | 4 => mI M (gB g + 206) q
  | _ => bcI (mI M (gB g + 205) q) 12
theorem w6_of {p : Int32} (h0 : ¬ p < 0) (h5 : p ≤ 5) : ∃ w, w < 6 ∧ p = nI w := by
  rcases pk_ix p (show 6 < 2 ^ 31 by decide) with hx | hx | hx
  · exact absurd hx h0
  · exact absurd (Int32.le_trans hx h5) (by decide)
  · exact hx
theorem w6_out {w : Nat} (hw : w < 6) : ¬ nI w < 0 ∧ nI w ≤ 5 := by
  rcases (show w = 0 ∨ w = 1 ∨ w = 2 ∨ w = 3 ∨ w = 4 ∨ w = 5 by omega) with rfl | rfl | rfl | rfl | rfl | rfl <;> decide
theorem sp_tellQ {g : Gh} {M : Mem} {c q a w : Nat} (hcc : c ≤ 512) (hQ : QOK g M c q a) (hw : w < 6) {post : Int32 → Mem → Prop} (hp : post (vA g M q w) M) : wp_X9_tell g M a (nI w) post := by
  obtain ⟨q1, q2, q3, q4, ⟨t, t1, t2, t3⟩, ⟨n, n1, n2, n3⟩, ⟨m, m1, m2, m3⟩, ⟨b, b1, b2⟩, ⟨s, s1, s2, s3⟩⟩ := id hQ
  refine ⟨q2, ?_⟩
  rcases (show w = 0 ∨ w = 1 ∨ w = 2 ∨ w = 3 ∨ w = 4 ∨ w = 5 by omega) with rfl | rfl | rfl | rfl | rfl | rfl
  · refine ⟨fun _ => ?_, fun hx => absurd hx (by decide), fun hx => absurd hx (by decide), fun hx => absurd hx (by decide), fun hx => absurd hx (by decide), fun hx => absurd hx (by decide), fun hx => absurd rfl hx.1⟩
    rw [t2, ← t3]; exact hp
  · refine ⟨fun hx => absurd hx (by decide), fun _ => ?_, fun hx => absurd hx (by decide), fun hx => absurd hx (by decide), fun hx => absurd hx (by decide), fun hx => absurd hx (by decide), fun hx => absurd rfl hx.2.1⟩
    rw [n2, ← n3]; exact hp
  · refine ⟨fun hx => absurd hx (by decide), fun hx => absurd hx (by decide), fun _ => ?_, fun hx => absurd hx (by decide), fun hx => absurd hx (by decide), fun hx => absurd hx (by decide), fun hx => absurd rfl hx.2.2.1⟩
    rw [m2, ← m3]; exact hp
  · exact ⟨fun hx => absurd hx (by decide), fun hx => absurd hx (by decide), fun hx => absurd hx (by decide), fun _ => sp_hardC hcc hQ hp, fun hx => absurd hx (by decide), fun hx => absurd hx (by decide), fun hx => absurd rfl hx.2.2.2.1⟩
  · refine ⟨fun hx => absurd hx (by decide), fun hx => absurd hx (by decide), fun hx => absurd hx (by decide), fun hx => absurd hx (by decide), fun _ => ?_, fun hx => absurd hx (by decide), fun hx => absurd rfl hx.2.2.2.2.1⟩
    have hp : post (mI M (gB g + 206) q) M := hp
    rw [b2] at hp
    rw [b1]
    cases b with
    | false => exact ⟨fun _ => hp, fun hx => absurd rfl hx⟩
    | true => exact ⟨fun hx => absurd hx (by decide), fun _ => hp⟩
  · refine ⟨fun hx => absurd hx (by decide), fun hx => absurd hx (by decide), fun hx => absurd hx (by decide), fun hx => absurd hx (by decide), fun hx => absurd hx (by decide), fun _ => ?_, fun hx => absurd rfl hx.2.2.2.2.2⟩
    have hp : post (bcI (mI M (gB g + 205) q) 12) M := hp
    rw [s3, ← bc_eq s1] at hp
    rw [s2]
    exact hp
theorem sp_askM {g : Gh} {M : Mem} {c nq : Nat} {qa : Nat → Nat} (h1 : Lay g M) (h4 : IQ g M c nq qa) (p1 p2 : Int32) {Y : Int32 → Mem → Prop} (hbad : ((p1 < 0 ∨ nI nq ≤ p1) ∨ p2 < 0 ∨ ¬ p2 ≤ 5) → Y 0 (uI M (gB g + 195) 0 1)) (hgo : ∀ q w, q < nq → w < 6 → p1 = nI q → p2 = nI w → Y (vA g M q w) (uI M (gB g + 195) 0 0)) : wp_X12_asked g M (gB g + 195) p1 p2 Y := by
  have h60 := h4.1
  have b23 : ((p1 < 0 ∨ nI nq ≤ p1) ∨ p2 < 0 ∨ ¬ p2 ≤ 5) → lb_X12_asked_23 g M (gB g + 195) p1 p2 Y (gB g + 195) 1 M := by
    intro hb
    refine ⟨lk_195 h1, ?_⟩
    rintro M7 rfl
    rw [show mI (uI M (gB g + 195) 0 1) (gB g + 195) 0 = 1 by rw [s_II, if_pos rfl, if_pos rfl]]
    exact ⟨fun hx => absurd hx (by decide), fun _ => hbad hb⟩
  refine ⟨lk_195 h1, sp_isQ h1 h4 p1 (fun hx => ⟨fun _ => b23 (Or.inl hx), fun hy => absurd rfl hy⟩) (fun q hq e => ⟨fun hy => absurd hy (by decide), fun _ => ⟨fun hx => b23 (Or.inr (Or.inl hx)), fun h0 => ⟨fun h5 => ?_, fun hx => b23 (Or.inr (Or.inr hx))⟩⟩⟩)⟩
  subst e
  obtain ⟨w, hw, rfl⟩ := w6_of h0 h5
  have hg := hgo q w hq hw rfl rfl
  refine ⟨lk_195 h1, ?_⟩
  rintro M7 rfl
  have f7 : Fr (fun a k => a = (gB g + 195) ∧ k = 0) nQ M (uI M (gB g + 195) 0 0) := Fr.rf.uI ⟨rfl, rfl⟩
  rw [show mI (uI M (gB g + 195) 0 0) (gB g + 195) 0 = 0 by rw [s_II, if_pos rfl, if_pos rfl]]
  generalize uI M (gB g + 195) 0 0 = M7 at f7 hg ⊢
  have l7 := f7.lay h1
  have ev : ∀ i, 202 ≤ i → i ≤ 206 → mI M7 (gB g + (i)) q = mI M (gB g + (i)) q := fun i i1 i2 => f7.1 _ _ (by omega)
  have cq : Int32.toNatClampNeg (nI q) = q := nI_cl q (by omega)
  refine ⟨fun _ => ?_, fun hx => absurd (by decide) hx⟩
  have ind : ∀ {b : Nat}, mN M b = 60 → vp_in (nI q) (mN M b) := fun e => by rw [e]; exact pk_in q 60 (by omega)
  rw [cq]
  rcases (show w = 0 ∨ w = 1 ∨ w = 2 ∨ w = 3 ∨ w = 4 ∨ w = 5 by omega) with rfl | rfl | rfl | rfl | rfl | rfl
  · refine ⟨fun _ => ⟨_, lr_195_19 l7, lk_202 h1, ind (ln_202 h1), ?_⟩, fun hx => absurd hx (by decide), fun hx => absurd hx (by decide), fun hx => absurd hx (by decide), fun hx => absurd hx (by decide), fun hx => absurd rfl hx.1⟩
    rw [ev 202 (by decide) (by decide)]; exact hg
  · refine ⟨fun hx => absurd hx (by decide), fun _ => ⟨_, lr_195_20 l7, lk_203 h1, ind (ln_203 h1), ?_⟩, fun hx => absurd hx (by decide), fun hx => absurd hx (by decide), fun hx => absurd hx (by decide), fun hx => absurd rfl hx.2.1⟩
    rw [ev 203 (by decide) (by decide)]; exact hg
  · refine ⟨fun hx => absurd hx (by decide), fun hx => absurd hx (by decide), fun _ => ⟨_, lr_195_21 l7, lk_204 h1, ind (ln_204 h1), ?_⟩, fun hx => absurd hx (by decide), fun hx => absurd hx (by decide), fun hx => absurd rfl hx.2.2.1⟩
    rw [ev 204 (by decide) (by decide)]; exact hg
  · refine ⟨fun hx => absurd hx (by decide), fun hx => absurd hx (by decide), fun hx => absurd hx (by decide), fun _ => sp_hardM l7 (by omega) ?_, fun hx => absurd hx (by decide), fun hx => absurd rfl hx.2.2.2.1⟩
    rw [ev 203 (by decide) (by decide), ev 204 (by decide) (by decide)]; exact hg
  · refine ⟨fun hx => absurd hx (by decide), fun hx => absurd hx (by decide), fun hx => absurd hx (by decide), fun hx => absurd hx (by decide), fun _ => ⟨_, lr_195_23 l7, lk_206 h1, ind (ln_206 h1), ?_⟩, fun hx => absurd rfl hx.2.2.2.2⟩
    rw [ev 206 (by decide) (by decide)]
    obtain ⟨b, -, b2⟩ := (h4.2.2.2.1 q hq).2.2.2.2.2.2.2.1
    have hg : Y (mI M (gB g + 206) q) M7 := hg
    rw [b2] at hg ⊢
    cases b with
    | false => exact ⟨fun _ => hg, fun hx => absurd rfl hx⟩
    | true => exact ⟨fun hx => absurd hx (by decide), fun _ => hg⟩
  · refine ⟨fun hx => absurd hx (by decide), fun hx => absurd hx (by decide), fun hx => absurd hx (by decide), fun hx => absurd hx (by decide), fun hx => absurd hx (by decide), fun _ => ?_⟩
    have hg : Y (bcI (mI M (gB g + 205) q) 12) M7 := hg
    refine lfp_up (fun i s => s = (bcI (mI M (gB g + 205) q) i, nI i, M7)) 12 ?_ ?_ 0 _ (by omega) rfl
    · rintro bk s rfl
      exact ⟨fun _ => hg, fun hx => absurd (show (12 : Int32) ≤ nI 12 by decide) hx⟩
    · rintro bk i s hi rfl hb
      refine ⟨fun hx => absurd (show nI 12 ≤ nI i from hx) (nI_ge hi (by decide)), fun _ => ⟨_, lr_195_22 l7, lk_205 h1, ind (ln_205 h1), ?_⟩⟩
      rw [cq]
      refine hb _ ?_
      show (bcI (mI M (gB g + 205) q) i + ((mI M7 (gB g + 205) q >>> (nI i &&& 31)) &&& 1), nI i + 1, M7) = _
      rw [ev 205 (by decide) (by decide), nI_1]; rfl
theorem j233q {g : Gh} {nq : Nat} : ∀ a k, (fun a _ => a = (gB g + 233) : Nat → Nat → Prop) a k → TQ g nq a k := fun a k hh => by
  have hh : a = (gB g + 233) := hh
  unfold TQ; omega
theorem m_asked {g : Gh} {M : Mem} {c : Nat} (h : Inv g M c) (hcc : c ≤ 512) (p1 p2 : Int32) {Z : Int32 ⊕ String → Mem → Prop} (hz : ∀ res M1, (∀ E, res = .inr E → E = "java/util/NoSuchElementException") → (∀ M1', Fr nQ (fun a _ => a = (gB g + 233)) M1 M1' → ∀ Y : Int32 → Mem → Prop, (∀ b M2, Inv g M2 (c + 1) → mI M2 (gB g + 195) 0 = exc res → (∀ v, res = .inl v → b = v) → mJ M2 (gB g + 233) 0 = mJ M1' (gB g + 233) 0 → Y b M2) → wp_X12_asked g M1' (gB g + 195) p1 p2 Y) → Z res M1) : wp_X11_asked g M (gB g) p1 p2 Z := by
  obtain ⟨nq, qa, r, L, np, pn, on, h⟩ := h
  obtain ⟨h1, h2, h3, h4, h5, h6, h7, h8⟩ := id h
  have h60 := h4.1
  have bad : ((p1 < 0 ∨ nI nq ≤ p1) ∨ p2 < 0 ∨ ¬ p2 ≤ 5) → ∀ T, mT M ≤ T → Z (.inr "java/util/NoSuchElementException") (pad M T) := by
    intro hbd T hT
    refine hz _ _ (fun E e => (Sum.inr.inj e).symm) (fun M1' f Y hY => ?_)
    have i1 := (h.pad hT).fr f (fun a k hh => (hh : False).elim) j233q
    refine sp_askM i1.1 i1.2.2.2.1 p1 p2 (fun _ => hY 0 _ (i1.z 1).up.ex ?_ (fun v hv => by cases hv) rfl) (fun q w hq hw e1 e2 => ?_)
    · rw [s_II, if_pos rfl, if_pos rfl]; rfl
    · subst e1 e2
      have ho := w6_out hw
      exact (hbd.elim (fun hx => nI_out hq (by omega) hx) (fun hx => hx.elim ho.1 (fun hx => hx ho.2))).elim
  refine ⟨lk_0 h1, sp_qAt h1 h4 p1 (fun hx => ⟨fun _ => bad (Or.inl hx), fun q hq => by cases hq⟩) (fun q hq e => ⟨fun hx => (by cases hx), fun q4 hq4 => ?_⟩)⟩
  cases hq4
  subst e
  refine ⟨fun hx => bad (Or.inr (Or.inl hx)), fun h0 => ⟨fun h5' => ?_, fun hx => bad (Or.inr (Or.inr hx))⟩⟩
  obtain ⟨w, hw, rfl⟩ := w6_of h0 h5'
  refine sp_tellQ hcc (h4.2.2.2.1 q hq) hw ?_
  refine hz _ _ (fun E e => by cases e) (fun M1' f Y hY => ?_)
  have i1 := h.fr f (fun a k hh => (hh : False).elim) j233q
  refine sp_askM i1.1 i1.2.2.2.1 (nI q) (nI w) (fun hb => ?_) (fun q' w' hq' hw' e1 e2 => hY _ _ (i1.z 0).up.ex ?_ (fun v hv => ?_) rfl)
  · have ho := w6_out hw
    exact (hb.elim (fun hx => nI_out hq (by omega) hx) (fun hx => hx.elim ho.1 (fun hx => hx ho.2))).elim
  · rw [s_II, if_pos rfl, if_pos rfl]; rfl
  · obtain rfl : q = q' := (nI_eq (by omega) (by omega)).mp e1
    obtain rfl : w = w' := (nI_eq (by omega) (by omega)).mp e2
    cases hv
    have em : ∀ a k, mI M1' a k = mI M a k := fun a k => f.1 a k (fun hx => hx)
    unfold vA
    simp only [em]
