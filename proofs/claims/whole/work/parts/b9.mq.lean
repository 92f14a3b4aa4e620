/-! the reference's run as a machine over lists: pile, values, depth, variables, arrays, counts -/
abbrev gP : Type := List (Nat × Nat)
abbrev gV : Type := List (Int64 × Int32)
abbrev gE : Type := Nat → Nat → Int64 × Int32
abbrev gQ : Type := gP × gV × Nat × gE × Nat × (Nat → aA) × aC
abbrev gX : Type := (aC × Nat) ⊕ gQ
def gHold (EV : gE) (dp v : Nat) (x : Int64 × Int32) : gE := fun e w => if e = dp ∧ w = v then x else EV e w
def mPil (A : mA) : gP → Prop
  | [] => True
  | x :: r => A 98 r.length = nI x.1 ∧ A 99 r.length = nI x.2 ∧ mPil A r
def mVal (A : mA) (L : mL) : gV → Prop
  | [] => True
  | x :: r => L 109 r.length = x.1 ∧ A 110 r.length = x.2 ∧ mVal A L r
def mEn (EV : gE) (A : mA) (L : mL) : Prop := ∀ e, e < 8 → ∀ v, v < 20 → L 107 (20 * e + v) = (EV e v).1 ∧ A 108 (20 * e + v) = (EV e v).2
def mArr (m : Nat) (AR : Nat → aA) (A : mA) (L : mL) : Prop := ∀ a, a < m → A 105 a = nI (AR a).1 ∧ A 106 a = nI (AR a).2.1 ∧ (AR a).1 ≤ 40 ∧ (AR a).2.1 ≤ 40 ∧ (AR a).1 * (AR a).2.1 ≤ 40 ∧ ∀ j, j < (AR a).1 * (AR a).2.1 → L 104 (40 * a + j) = (AR a).2.2 j
def mCt (k : aC) (S : mS) : Prop := S 39 = nI k.1 ∧ S 40 = k.2.1 ∧ S 41 = k.2.2.1 ∧ S 42 = k.2.2.2.1 ∧ S 43 = k.2.2.2.2
def mBs (S0 : mS) (A0 : mA) (L0 : mL) (S : mS) (A : mA) (L : mL) : Prop := (∀ j, j ≠ 19 → ¬ (32 ≤ j ∧ j ≤ 44) → S j = S0 j) ∧ (∀ a, a < 98 → A a = A0 a) ∧ L 111 = L0 111
def mSc (o v dp m : Nat) (S : mS) : Prop := S 19 = nI o ∧ S 36 = nI v ∧ S 33 = nI dp ∧ S 32 = nI m ∧ S 44 = 0
def mLim (o v dp m st : Nat) : Prop := dp ≤ 7 ∧ m + o ≤ st ∧ v + o ≤ st ∧ st ≤ 400
def mQ (S0 : mS) (A0 : mA) (L0 : mL) (q : gQ) (S : mS) (A : mA) (L : mL) : Prop := mSc q.1.length q.2.1.length q.2.2.1 q.2.2.2.2.1 S ∧ mLim q.1.length q.2.1.length q.2.2.1 q.2.2.2.2.1 q.2.2.2.2.2.2.1 ∧ mCt q.2.2.2.2.2.2 S ∧ mPil A q.1 ∧ mVal A L q.2.1 ∧ mEn q.2.2.2.1 A L ∧ mArr q.2.2.2.2.1 q.2.2.2.2.2.1 A L ∧ mBs S0 A0 L0 S A L
def mFa (S0 : mS) (A0 : mA) (L0 : mL) (x : aC × Nat) (S : mS) (A : mA) (L : mL) : Prop := mCt x.1 S ∧ S 44 = nI x.2 ∧ mBs S0 A0 L0 S A L
def mX (S0 : mS) (A0 : mA) (L0 : mL) (x : gX) (S : mS) (A : mA) (L : mL) : Prop := match x with
  | .inl f => mFa S0 A0 L0 f S A L
  | .inr q => mQ S0 A0 L0 q S A L
section MQ
variable {S0 S : mS} {A0 A : mA} {L0 L : mL} {pl : gP} {vs : gV} {dp m : Nat} {EV : gE} {AR : Nat → aA} {k : aC} {nd dn : Nat}
theorem mPil_A {a : Nat} {f : Nat → Int32} (h1 : a ≠ 98) (h2 : a ≠ 99) : ∀ {pl : gP}, mPil A pl → mPil (va_up A a f) pl
  | [], _ => trivial
  | x :: r, h => ⟨by rw [va_up_ne _ _ (Ne.symm h1)]; exact h.1, by rw [va_up_ne _ _ (Ne.symm h2)]; exact h.2.1, mPil_A h1 h2 h.2.2⟩
theorem mPil_98 {j : Nat} {x : Int32} : ∀ {pl : gP}, pl.length ≤ j → mPil A pl → mPil (va_up A 98 (upd (A 98) j x)) pl
  | [], _, _ => trivial
  | y :: r, hj, h => by
    have hj : r.length + 1 ≤ j := hj
    exact ⟨by rw [va_up_self, upd_ne (by omega)]; exact h.1, by rw [va_up_ne _ _ (by decide)]; exact h.2.1, mPil_98 (by omega) h.2.2⟩
theorem mPil_99 {j : Nat} {x : Int32} : ∀ {pl : gP}, pl.length ≤ j → mPil A pl → mPil (va_up A 99 (upd (A 99) j x)) pl
  | [], _, _ => trivial
  | y :: r, hj, h => by
    have hj : r.length + 1 ≤ j := hj
    exact ⟨by rw [va_up_ne _ _ (by decide)]; exact h.1, by rw [va_up_self, upd_ne (by omega)]; exact h.2.1, mPil_99 (by omega) h.2.2⟩
theorem mVal_A {a : Nat} {f : Nat → Int32} (h1 : a ≠ 110) : ∀ {vs : gV}, mVal A L vs → mVal (va_up A a f) L vs
  | [], _ => trivial
  | x :: r, h => ⟨h.1, by rw [va_up_ne _ _ (Ne.symm h1)]; exact h.2.1, mVal_A h1 h.2.2⟩
theorem mVal_L {a : Nat} {f : Nat → Int64} (h1 : a ≠ 109) : ∀ {vs : gV}, mVal A L vs → mVal A (va_up L a f) vs
  | [], _ => trivial
  | x :: r, h => ⟨by rw [va_up_ne _ _ (Ne.symm h1)]; exact h.1, h.2.1, mVal_L h1 h.2.2⟩
theorem mVal_109 {j : Nat} {x : Int64} : ∀ {vs : gV}, vs.length ≤ j → mVal A L vs → mVal A (va_up L 109 (vp_updL (L 109) j x)) vs
  | [], _, _ => trivial
  | y :: r, hj, h => by
    have hj : r.length + 1 ≤ j := hj
    exact ⟨by rw [va_up_self]; show (if _ then _ else _) = _; rw [if_neg (by omega)]; exact h.1, h.2.1, mVal_109 (by omega) h.2.2⟩
theorem mVal_110 {j : Nat} {x : Int32} : ∀ {vs : gV}, vs.length ≤ j → mVal A L vs → mVal (va_up A 110 (upd (A 110) j x)) L vs
  | [], _, _ => trivial
  | y :: r, hj, h => by
    have hj : r.length + 1 ≤ j := hj
    exact ⟨h.1, by rw [va_up_self, upd_ne (by omega)]; exact h.2.1, mVal_110 (by omega) h.2.2⟩
theorem mVal_drop : ∀ {c : Nat} {vs : gV}, mVal A L vs → mVal A L (vs.drop c)
  | 0, vs, h => by rw [List.drop_zero]; exact h
  | c + 1, [], h => h
  | c + 1, x :: r, h => mVal_drop (c := c) (vs := r) h.2.2
theorem mVal_at : ∀ {vs : gV} {j : Nat}, mVal A L vs → j < vs.length → L 109 (vs.length - 1 - j) = (vs.getD j (0, 0)).1 ∧ A 110 (vs.length - 1 - j) = (vs.getD j (0, 0)).2
  | [], j, _, hj => absurd hj (Nat.not_lt_zero _)
  | x :: r, 0, h, _ => ⟨h.1, h.2.1⟩
  | x :: r, j + 1, h, hj => by
    have hj : j + 1 < r.length + 1 := hj
    have e := mVal_at (vs := r) (j := j) h.2.2 (by omega)
    have e2 : (x :: r).length - 1 - (j + 1) = r.length - 1 - j := by show r.length + 1 - 1 - (j + 1) = _; omega
    rw [e2]
    exact e
theorem mBs.uS {j : Nat} {x : Int32} (h : mBs S0 A0 L0 S A L) (hj : j = 19 ∨ (32 ≤ j ∧ j ≤ 44)) : mBs S0 A0 L0 (upd S j x) A L := ⟨fun i h1 h2 => by rw [upd_ne (by omega)]; exact h.1 i h1 h2, h.2⟩
theorem mBs.uA {a : Nat} {f : Nat → Int32} (h : mBs S0 A0 L0 S A L) (ha : 98 ≤ a) : mBs S0 A0 L0 S (va_up A a f) L := ⟨h.1, fun b hb => by rw [va_up_ne _ _ (by omega)]; exact h.2.1 b hb, h.2.2⟩
theorem mBs.uL {a : Nat} {f : Nat → Int64} (h : mBs S0 A0 L0 S A L) (ha : a ≠ 111) : mBs S0 A0 L0 S A (va_up L a f) := ⟨h.1, h.2.1, by rw [va_up_ne _ _ (Ne.symm ha)]; exact h.2.2⟩
theorem mEn.uA {a : Nat} {f : Nat → Int32} (h : mEn EV A L) (ha : a ≠ 108) : mEn EV (va_up A a f) L := fun e he v hv => by rw [va_up_ne _ _ (Ne.symm ha)]; exact h e he v hv
theorem mEn.uL {a : Nat} {f : Nat → Int64} (h : mEn EV A L) (ha : a ≠ 107) : mEn EV A (va_up L a f) := fun e he v hv => by rw [va_up_ne _ _ (Ne.symm ha)]; exact h e he v hv
theorem mEn.hold {v : Nat} {x : Int64} {a : Int32} (h : mEn EV A L) (hdp : dp < 8) (hv : v < 20) : mEn (gHold EV dp v (x, a)) (va_up A 108 (upd (A 108) (20 * dp + v) a)) (va_up L 107 (vp_updL (L 107) (20 * dp + v) x)) := fun e he w hw => by
  rw [va_up_self, va_up_self]
  unfold upd vp_updL gHold
  by_cases q : e = dp ∧ w = v
  · obtain ⟨rfl, rfl⟩ := q
    rw [if_pos rfl, if_pos rfl, if_pos ⟨rfl, rfl⟩]
    exact ⟨rfl, rfl⟩
  · have hne : ¬ 20 * e + w = 20 * dp + v := by omega
    simp only [if_neg q, if_neg hne]
    exact h e he w hw
theorem mArr.uA {a : Nat} {f : Nat → Int32} (h : mArr m AR A L) (h1 : a ≠ 105) (h2 : a ≠ 106) : mArr m AR (va_up A a f) L := fun b hb => by rw [va_up_ne _ _ (Ne.symm h1), va_up_ne _ _ (Ne.symm h2)]; exact h b hb
theorem mArr.uL {a : Nat} {f : Nat → Int64} (h : mArr m AR A L) (h1 : a ≠ 104) : mArr m AR A (va_up L a f) := fun b hb => by rw [va_up_ne _ _ (Ne.symm h1)]; exact h b hb
theorem mArr.mk {r c p : Nat} {ct src : Nat → Int64} {r32 c32 : Int32} (h : mArr m AR A L) (hr : r32 = nI r) (hc : c32 = nI c) (h1 : r ≤ 40) (h2 : c ≤ 40) (h3 : r * c ≤ 40) (hp : p = r * c) (hs : ∀ j, j < p → src j = ct j) : mArr (m + 1) (va_up AR m (r, c, ct)) (rMk m r32 c32 A) (va_up L 104 (mkC (L 104) m p src)) := fun a ha => by
  unfold rMk
  rw [va_up_self, va_up_self, va_up_ne _ _ (show (105 : Nat) ≠ 106 by decide), va_up_self]
  by_cases q : a = m
  · subst q
    rw [va_up_self, upd_self, upd_self]
    refine ⟨hr, hc, h1, h2, h3, fun j hj => ?_⟩
    have hj : j < r * c := hj
    unfold mkC
    rw [if_pos (by omega), Nat.add_sub_cancel_left]
    exact hs j (by omega)
  · rw [va_up_ne _ _ q, upd_ne q, upd_ne q]
    obtain ⟨g1, g2, g3, g4, g5, g6⟩ := h a (by omega)
    refine ⟨g1, g2, g3, g4, g5, fun j hj => ?_⟩
    unfold mkC
    rw [if_neg (by omega)]
    exact g6 j hj
theorem mArr.put {a p : Nat} {x : Int64} (h : mArr m AR A L) (hp : p < 40) (ha : a < m) : mArr m (va_up AR a ((AR a).1, (AR a).2.1, vp_updL (AR a).2.2 p x)) A (va_up L 104 (vp_updL (L 104) (40 * a + p) x)) := fun b hb => by
  rw [va_up_self]
  by_cases q : b = a
  · subst q
    rw [va_up_self]
    obtain ⟨g1, g2, g3, g4, g5, g6⟩ := h b hb
    refine ⟨g1, g2, g3, g4, g5, fun j hj => ?_⟩
    have hj : j < (AR b).1 * (AR b).2.1 := hj
    show (if _ then _ else _) = (if _ then _ else _)
    by_cases w : j = p
    · rw [if_pos (by omega), if_pos w]
    · rw [if_neg (by omega), if_neg w]
      exact g6 j hj
  · rw [va_up_ne _ _ q]
    obtain ⟨g1, g2, g3, g4, g5, g6⟩ := h b hb
    refine ⟨g1, g2, g3, g4, g5, fun j hj => ?_⟩
    show (if _ then _ else _) = _
    rw [if_neg (by omega)]
    exact g6 j hj
theorem mQ.give {x : Int64} {a : Int32} (h : mQ S0 A0 L0 ((nd, dn) :: pl, vs, dp, EV, m, AR, k) S A L) : mQ S0 A0 L0 (pl, (x, a) :: vs, dp, EV, m, AR, k) (upd (upd S 36 (nI (vs.length + 1))) 19 (nI pl.length)) (va_up A 110 (upd (A 110) vs.length a)) (va_up L 109 (vp_updL (L 109) vs.length x)) := by
  obtain ⟨⟨h1, h2, h3, h4, h5⟩, ⟨l1, l2, l3, l4⟩, hc, hp, hv, he, ha, hb⟩ := h
  have l2 : m + (pl.length + 1) ≤ k.1 := l2
  have l3 : vs.length + (pl.length + 1) ≤ k.1 := l3
  exact ⟨⟨rfl, rfl, h3, h4, h5⟩, ⟨l1, show m + pl.length ≤ k.1 by omega, show vs.length + 1 + pl.length ≤ k.1 by omega, l4⟩, hc, mPil_A (by decide) (by decide) hp.2.2, ⟨by rw [va_up_self]; exact if_pos rfl, by rw [va_up_self]; exact if_pos rfl, mVal_110 (Nat.le_refl _) (mVal_109 (Nat.le_refl _) hv)⟩, (he.uA (by decide)).uL (by decide), (ha.uA (by decide) (by decide)).uL (by decide), (((hb.uS (Or.inr ⟨by decide, by decide⟩)).uS (Or.inl rfl)).uA (by decide)).uL (by decide)⟩
theorem mQ.start {n : Nat} (h : mQ S0 A0 L0 (pl, vs, dp, EV, m, AR, k) S A L) (hk : k.1 < 400) : mQ S0 A0 L0 ((n, 0) :: pl, vs, dp, EV, m, AR, (k.1 + 1, k.2)) (upd (upd S 39 (nI (k.1 + 1))) 19 (nI (pl.length + 1))) (mPu A pl.length (nI n)) L := by
  obtain ⟨⟨h1, h2, h3, h4, h5⟩, ⟨l1, l2, l3, l4⟩, hc, hp, hv, he, ha, hb⟩ := h
  have l2 : m + pl.length ≤ k.1 := l2
  have l3 : vs.length + pl.length ≤ k.1 := l3
  refine ⟨⟨rfl, h2, h3, h4, h5⟩, ⟨l1, show m + (pl.length + 1) ≤ k.1 + 1 by omega, show vs.length + (pl.length + 1) ≤ k.1 + 1 by omega, show k.1 + 1 ≤ 400 by omega⟩, ⟨rfl, hc.2⟩, ⟨?_, ?_, ?_⟩, mVal_A (by decide) (mVal_A (by decide) hv), (he.uA (by decide)).uA (by decide), (ha.uA (by decide) (by decide)).uA (by decide) (by decide), (((hb.uS (Or.inr ⟨by decide, by decide⟩)).uS (Or.inl rfl)).uA (by decide)).uA (by decide)⟩
  · show upd (A 98) pl.length (nI n) pl.length = _
    rw [upd_self]
  · show upd (A 99) pl.length 0 pl.length = _
    rw [upd_self]
    rfl
  · exact mPil_99 (A := va_up A 98 (upd (A 98) pl.length (nI n))) (Nat.le_refl _) (mPil_98 (Nat.le_refl _) hp)
theorem mQ.pass (h : mQ S0 A0 L0 ((nd, dn) :: pl, vs, dp, EV, m, AR, k) S A L) : mQ S0 A0 L0 (pl, vs, dp, EV, m, AR, k) (upd S 19 (nI pl.length)) A L := by
  obtain ⟨⟨h1, h2, h3, h4, h5⟩, ⟨l1, l2, l3, l4⟩, hc, hp, hv, he, ha, hb⟩ := h
  have l2 : m + (pl.length + 1) ≤ k.1 := l2
  have l3 : vs.length + (pl.length + 1) ≤ k.1 := l3
  exact ⟨⟨rfl, h2, h3, h4, h5⟩, ⟨l1, show m + pl.length ≤ k.1 by omega, show vs.length + pl.length ≤ k.1 by omega, l4⟩, hc, hp.2.2, hv, he, ha, hb.uS (Or.inl rfl)⟩
theorem mQ.done (h : mQ S0 A0 L0 ((nd, dn) :: pl, vs, dp, EV, m, AR, k) S A L) : mQ S0 A0 L0 ((nd, dn + 1) :: pl, vs, dp, EV, m, AR, k) S (va_up A 99 (upd (A 99) pl.length (nI (dn + 1)))) L := by
  obtain ⟨hs, hl, hc, hp, hv, he, ha, hb⟩ := h
  refine ⟨hs, hl, hc, ⟨?_, ?_, mPil_99 (Nat.le_refl _) hp.2.2⟩, mVal_A (by decide) hv, he.uA (by decide), ha.uA (by decide) (by decide), hb.uA (by decide)⟩
  · rw [va_up_ne _ _ (by decide)]
    exact hp.1
  · rw [va_up_self]
    exact if_pos rfl
theorem mQ.pop (c : Nat) (h : mQ S0 A0 L0 (pl, vs, dp, EV, m, AR, k) S A L) : mQ S0 A0 L0 (pl, vs.drop c, dp, EV, m, AR, k) (upd S 36 (nI (vs.drop c).length)) A L := by
  obtain ⟨⟨h1, h2, h3, h4, h5⟩, ⟨l1, l2, l3, l4⟩, hc, hp, hv, he, ha, hb⟩ := h
  have l3 : vs.length + pl.length ≤ k.1 := l3
  have e := List.length_drop (i := c) (l := vs)
  exact ⟨⟨h1, rfl, h3, h4, h5⟩, ⟨l1, l2, show (vs.drop c).length + pl.length ≤ k.1 by omega, l4⟩, hc, hp, mVal_drop hv, he, ha, hb.uS (Or.inr ⟨by decide, by decide⟩)⟩
theorem mQ.hold {v : Nat} {x : Int64} {a : Int32} (h : mQ S0 A0 L0 (pl, vs, dp, EV, m, AR, k) S A L) (hv20 : v < 20) : mQ S0 A0 L0 (pl, vs, dp, gHold EV dp v (x, a), m, AR, k) S (va_up A 108 (upd (A 108) (20 * dp + v) a)) (va_up L 107 (vp_updL (L 107) (20 * dp + v) x)) := by
  obtain ⟨hs, hl, hc, hp, hv, he, ha, hb⟩ := h
  have l1 : dp ≤ 7 := hl.1
  exact ⟨hs, hl, hc, mPil_A (by decide) (by decide) hp, mVal_A (by decide) (mVal_L (by decide) hv), he.hold (by omega) hv20, (ha.uA (by decide) (by decide)).uL (by decide), (hb.uA (by decide)).uL (by decide)⟩
theorem mQ.depth (dp' : Nat) (h : mQ S0 A0 L0 (pl, vs, dp, EV, m, AR, k) S A L) (h7 : dp' ≤ 7) : mQ S0 A0 L0 (pl, vs, dp', EV, m, AR, k) (upd S 33 (nI dp')) A L := by
  obtain ⟨⟨h1, h2, h3, h4, h5⟩, ⟨l1, l2⟩, hc, hp, hv, he, ha, hb⟩ := h
  exact ⟨⟨h1, h2, rfl, h4, h5⟩, ⟨h7, l2⟩, hc, hp, hv, he, ha, hb.uS (Or.inr ⟨by decide, by decide⟩)⟩
theorem mQ.drop (h : mQ S0 A0 L0 (pl, vs, dp, EV, m, AR, k) S A L) : mQ S0 A0 L0 (pl, vs, dp, EV, m, AR, (k.1, k.2.1, k.2.2.1 - 1, k.2.2.2)) (upd S 41 (k.2.2.1 - 1)) A L := by
  obtain ⟨hs, hl, ⟨c1, c2, c3, c4, c5⟩, hp, hv, he, ha, hb⟩ := h
  exact ⟨hs, hl, ⟨c1, c2, rfl, c4, c5⟩, hp, hv, he, ha, hb.uS (Or.inr ⟨by decide, by decide⟩)⟩
theorem mQ.upds (h : mQ S0 A0 L0 (pl, vs, dp, EV, m, AR, k) S A L) : mQ S0 A0 L0 (pl, vs, dp, EV, m, AR, (k.1, k.2.1, k.2.2.1, k.2.2.2.1, k.2.2.2.2 + 1)) (upd S 43 (k.2.2.2.2 + 1)) A L := by
  obtain ⟨hs, hl, ⟨c1, c2, c3, c4, c5⟩, hp, hv, he, ha, hb⟩ := h
  exact ⟨hs, hl, ⟨c1, c2, c3, c4, rfl⟩, hp, hv, he, ha, hb.uS (Or.inr ⟨by decide, by decide⟩)⟩
theorem mQ.counts (h : mQ S0 A0 L0 (pl, vs, dp, EV, m, AR, k) S A L) (a b c : Int32) : mQ S0 A0 L0 (pl, vs, dp, EV, m, AR, (k.1, a, b, c, k.2.2.2.2)) (upd (upd (upd S 41 b) 40 a) 42 c) A L := by
  obtain ⟨hs, hl, ⟨c1, c2, c3, c4, c5⟩, hp, hv, he, ha, hb⟩ := h
  exact ⟨hs, hl, ⟨c1, rfl, rfl, rfl, c5⟩, hp, hv, he, ha, ((hb.uS (Or.inr ⟨by decide, by decide⟩)).uS (Or.inr ⟨by decide, by decide⟩)).uS (Or.inr ⟨by decide, by decide⟩)⟩
theorem mQ.fault (q : Nat) (h : mQ S0 A0 L0 (pl, vs, dp, EV, m, AR, k) S A L) : mFa S0 A0 L0 (k, q) (upd S 44 (nI q)) A L := by
  obtain ⟨hs, hl, hc, hp, hv, he, ha, hb⟩ := h
  exact ⟨hc, rfl, hb.uS (Or.inr ⟨by decide, by decide⟩)⟩
/-- a made array is given -/
theorem mQ.mk {r c p : Nat} {ct src : Nat → Int64} {r32 c32 : Int32} (h : mQ S0 A0 L0 ((nd, dn) :: pl, vs, dp, EV, m, AR, k) S A L) (hr : r32 = nI r) (hc : c32 = nI c) (h1 : r ≤ 40) (h2 : c ≤ 40) (h3 : r * c ≤ 40) (hp : p = r * c) (hs : ∀ j, j < p → src j = ct j) : mQ S0 A0 L0 (pl, (0, nI m) :: vs, dp, EV, m + 1, va_up AR m (r, c, ct), k) (upd (upd (upd S 32 (nI (m + 1))) 36 (nI (vs.length + 1))) 19 (nI pl.length)) (va_up (rMk m r32 c32 A) 110 (upd (rMk m r32 c32 A 110) vs.length (nI m))) (va_up (va_up L 104 (mkC (L 104) m p src)) 109 (vp_updL (L 109) vs.length 0)) := by
  obtain ⟨⟨g1, g2, g3, g4, g5⟩, ⟨l1, l2, l3, l4⟩, hk, hpi, hv, he, ha, hb⟩ := h
  have l2 : m + (pl.length + 1) ≤ k.1 := l2
  have l3 : vs.length + (pl.length + 1) ≤ k.1 := l3
  have q1 : mPil (rMk m r32 c32 A) pl := mPil_A (by decide) (by decide) (mPil_A (by decide) (by decide) hpi.2.2)
  have q2 : mVal (rMk m r32 c32 A) (va_up L 104 (mkC (L 104) m p src)) vs := mVal_A (by decide) (mVal_A (by decide) (mVal_L (by decide) hv))
  have q3 : mEn EV (rMk m r32 c32 A) (va_up L 104 (mkC (L 104) m p src)) := ((he.uL (by decide)).uA (by decide)).uA (by decide)
  have q4 := ha.mk hr hc h1 h2 h3 hp hs
  have q5 : mBs S0 A0 L0 S (rMk m r32 c32 A) (va_up L 104 (mkC (L 104) m p src)) := ((hb.uL (by decide)).uA (by decide)).uA (by decide)
  have q6 := mVal_110 (j := vs.length) (x := nI m) (Nat.le_refl _) (mVal_109 (j := vs.length) (x := 0) (Nat.le_refl _) q2)
  exact ⟨⟨rfl, rfl, g3, rfl, g5⟩, ⟨l1, show m + 1 + pl.length ≤ k.1 by omega, show vs.length + 1 + pl.length ≤ k.1 by omega, l4⟩, hk, mPil_A (by decide) (by decide) q1, ⟨by rw [va_up_self]; exact if_pos rfl, by rw [va_up_self]; exact if_pos rfl, q6⟩, (q3.uA (by decide)).uL (by decide), (q4.uA (by decide) (by decide)).uL (by decide), ((((q5.uS (Or.inr ⟨by decide, by decide⟩)).uS (Or.inr ⟨by decide, by decide⟩)).uS (Or.inl rfl)).uA (by decide)).uL (by decide)⟩
end MQ
