/-! the two checks agree -/
def rg3 (t : Int32) : Prop := ∃ y, y < 3 ∧ t = nI y
def bnd (f : mS) : Prop := ∀ v, v < 20 → f v = -1 ∨ rg3 (f v)
def sE (s : cS) (u : bS) : Prop := (∀ v, v < 20 → s.1 v = u.1 v) ∧ s.2.1 = u.2
def cRel (x : cR) (y : bR) : Prop := match x, y with
  | .inl q, .inl q' => q = q' ∧ 0 ≤ q
  | .inr (t, s), .inr (t', u) => t = t' ∧ rg3 t ∧ sE s u ∧ bnd s.1
  | _, _ => False
def clR (cl : Nat → Option cF) : Prop := ∀ g a cn Y rt, g < 8 → cl g = some (a, cn, Y, rt) → rg3 rt ∧ ∀ k, k < cn → rg3 (Y k)
section TIE
variable {A0 : mA} {E : Nat → eN} {cl : Nat → Option cF} {e : eN} {s : cS} {u : bS}
theorem i32_and1 (x : Int32) : x &&& 1 = 0 ∨ x &&& 1 = 1 := by
  have h : (x &&& 1).toBitVec = x.toBitVec &&& 1#32 := rfl
  have h2 : (x.toBitVec &&& 1#32).toNat = x.toBitVec.toNat % 2 := by
    rw [BitVec.toNat_and]
    exact Nat.and_one_is_mod _
  by_cases q : x.toBitVec.toNat % 2 = 0
  · left
    apply Int32.toBitVec_inj.mp
    apply BitVec.eq_of_toNat_eq
    rw [h, h2, q]
    rfl
  · right
    apply Int32.toBitVec_inj.mp
    apply BitVec.eq_of_toNat_eq
    rw [h, h2]
    show _ = 1
    omega
theorem own_iff {o v : Int32} : cOwn o v ↔ lOwn o v := by
  show (o >>> (v &&& 31)) &&& 1 ≠ 0 ↔ (o >>> (v &&& 31)) &&& 1 = 1
  rcases i32_and1 (o >>> (v &&& 31)) with h | h
  · rw [h]; decide
  · rw [h]; decide
theorem nI_nonneg {w0 : Nat} (h : w0 < 1000) : (0 : Int32) ≤ nI w0 := nI_pos' (by omega)
/-- a node's places -/
def eNn (e : eN) : Prop := (∃ w0, w0 < 150 ∧ e.2.1 = nI w0) ∧ (∃ v, v < 20 ∧ eVr e = nI v) ∧ (∃ g, g < 8 ∧ eNm e = nI g) ∧ (e.1 = 1 ∨ e.1 = 7 ∨ e.1 = 8 → eVp e = e.2.1) ∧ (e.1 = 4 ∨ 9 ≤ e.1 → e.1 ≠ 13 → eVp e = e.2.1 + 1)
theorem eNn.pl (h : eNn e) : 0 ≤ e.2.1 := by
  obtain ⟨⟨w0, hw, e1⟩, -⟩ := h
  rw [e1]
  exact nI_nonneg (by omega)
theorem eNn.vp (h : eNn e) (hk : e.1 = 1 ∨ e.1 = 4 ∨ (7 ≤ e.1 ∧ e.1 ≤ 12)) : 0 ≤ eVp e := by
  obtain ⟨⟨w0, hw, e1⟩, -, -, h2, h3⟩ := h
  by_cases q : e.1 = 1 ∨ e.1 = 7 ∨ e.1 = 8
  · rw [h2 q, e1]
    exact nI_nonneg (by omega)
  · rw [h3 (by omega) (by omega), e1, nI_1]
    exact nI_nonneg (by omega)
theorem var_rel {lo hi wt : Int32} (hn : eNn e) (hs : sE s u) (hb : bnd s.1) (h : ∀ y, y < 3 → ((nI y < lo ∨ hi < nI y) ↔ (wt >>> (nI y &&& 31)) &&& 1 = 0)) : (cVar e lo hi s = .inl (eVp e) ∧ lVar e wt u = .inl (eVp e)) ∨ ∃ t, rg3 t ∧ cVar e lo hi s = .inr t ∧ lVar e wt u = .inr t := by
  obtain ⟨-, ⟨v0, hv20, ev⟩, -⟩ := hn
  obtain ⟨hs1, hs2⟩ := hs
  have hix : cIx (eVr e) = v0 := by rw [ev]; exact nI_clamp (by omega)
  unfold cVar lVar
  rw [hix, ← hs1 v0 hv20, ← hs2]
  rcases hb v0 hv20 with hb | ⟨y, hy, hb⟩
  · left
    rw [if_pos (Or.inl hb), if_pos (Or.inl (by rw [hb]; decide))]
    exact ⟨rfl, rfl⟩
  · have hne : ¬ s.1 v0 = -1 := by
      rw [hb]
      intro q
      have := congrArg Int32.toInt q
      rw [nI_toInt (by omega)] at this
      have e1 : (-1 : Int32).toInt = -1 := rfl
      omega
    have hnl : ¬ s.1 v0 < 0 := by rw [hb]; exact nI_pos (by omega)
    have h12 : (s.1 v0 = 1 ∨ s.1 v0 = 2) ↔ 0 < s.1 v0 := by
      rw [hb]
      have hc : y = 0 ∨ y = 1 ∨ y = 2 := by omega
      rcases hc with rfl | rfl | rfl <;> decide
    have hl := h y hy
    rw [← hb] at hl
    have hcond : (s.1 v0 = -1 ∨ ((s.1 v0 = 1 ∨ s.1 v0 = 2) ∧ ¬ cOwn s.2.1 (eVr e)) ∨ s.1 v0 < lo ∨ hi < s.1 v0) ↔ (s.1 v0 < 0 ∨ (0 < s.1 v0 ∧ ¬ lOwn s.2.1 (eVr e)) ∨ (wt >>> (s.1 v0 &&& 31)) &&& 1 = 0) := by
      constructor
      · rintro (q | ⟨q1, q2⟩ | q)
        · exact absurd q hne
        · exact Or.inr (Or.inl ⟨h12.mp q1, fun w => q2 (own_iff.mpr w)⟩)
        · exact Or.inr (Or.inr (hl.mp q))
      · rintro (q | ⟨q1, q2⟩ | q)
        · exact absurd q hnl
        · exact Or.inr (Or.inl ⟨h12.mpr q1, fun w => q2 (own_iff.mp w)⟩)
        · exact Or.inr (Or.inr (hl.mpr q))
    by_cases q : (s.1 v0 = -1 ∨ ((s.1 v0 = 1 ∨ s.1 v0 = 2) ∧ ¬ cOwn s.2.1 (eVr e)) ∨ s.1 v0 < lo ∨ hi < s.1 v0)
    · left
      rw [if_pos q, if_pos (hcond.mp q)]
      exact ⟨rfl, rfl⟩
    · right
      rw [if_neg q, if_neg (fun w => q (hcond.mpr w))]
      exact ⟨_, ⟨y, hy, hb⟩, rfl, rfl⟩
theorem use_rel {lo hi wt : Int32} (hn : eNn e) (hvp : 0 ≤ eVp e) (hs : sE s u) (hb : bnd s.1) (h : ∀ y, y < 3 → ((nI y < lo ∨ hi < nI y) ↔ (wt >>> (nI y &&& 31)) &&& 1 = 0)) : (cUse e lo hi s = .inl (eVp e) ∧ lUse e wt u = .inl (eVp e)) ∨ ∃ t, rg3 t ∧ cUse e lo hi s = .inr (t, cOff (eVr e) s) ∧ lUse e wt u = .inr (t, lOff (eVr e) u) ∧ sE (cOff (eVr e) s) (lOff (eVr e) u) ∧ bnd (cOff (eVr e) s).1 := by
  unfold cUse lUse
  rcases var_rel hn hs hb h with ⟨h1, h2⟩ | ⟨t, ht, h1, h2⟩
  · left
    rw [h1, h2]
    exact ⟨rfl, rfl⟩
  · right
    rw [h1, h2]
    exact ⟨t, ht, rfl, rfl, ⟨hs.1, by show s.2.1 &&& _ = u.2 &&& _; rw [hs.2]⟩, hb⟩
theorem bind_rel {v0 : Nat} {t : Int32} (hv : v0 < 20) (ht : rg3 t) (hs : sE s u) (hb : bnd s.1) : sE (cBind (nI v0) t s) (lBind (nI v0) t u) ∧ bnd (cBind (nI v0) t s).1 := by
  have hix : cIx (nI v0) = v0 := nI_clamp (by omega)
  unfold cBind lBind
  rw [hix]
  obtain ⟨y, hy, rfl⟩ := ht
  have h12 : (nI y = 1 ∨ nI y = 2) ↔ 0 < nI y := by
    have hc : y = 0 ∨ y = 1 ∨ y = 2 := by omega
    rcases hc with rfl | rfl | rfl <;> decide
  refine ⟨⟨fun v hv => ?_, ?_⟩, fun v hv => ?_⟩
  · show upd s.1 v0 _ v = upd u.1 v0 _ v
    by_cases q : v = v0
    · subst q; rw [upd_self, upd_self]
    · rw [upd_ne q, upd_ne q]; exact hs.1 v hv
  · show (if _ then _ else _) = (if _ then _ else _)
    by_cases q : 0 < nI y
    · rw [if_pos q, if_pos (h12.mpr q), hs.2]
    · rw [if_neg q, if_neg (fun w => q (h12.mp w)), hs.2]
  · show upd s.1 v0 _ v = -1 ∨ rg3 (upd s.1 v0 _ v)
    by_cases q : v = v0
    · subst q; rw [upd_self]; exact Or.inr ⟨y, hy, rfl⟩
    · rw [upd_ne q]; exact hb v hv
theorem w7 : ∀ y, y < 3 → ((nI y < 0 ∨ 2 < nI y) ↔ ((7 : Int32) >>> (nI y &&& 31)) &&& 1 = 0) := by decide
theorem w6 : ∀ y, y < 3 → ((nI y < 1 ∨ 2 < nI y) ↔ ((6 : Int32) >>> (nI y &&& 31)) &&& 1 = 0) := by decide
theorem w4 : ∀ y, y < 3 → ((nI y < 2 ∨ 2 < nI y) ↔ ((4 : Int32) >>> (nI y &&& 31)) &&& 1 = 0) := by decide
theorem w2 : ∀ y, y < 3 → ((nI y < 1 ∨ 1 < nI y) ↔ ((2 : Int32) >>> (nI y &&& 31)) &&& 1 = 0) := by decide
theorem eNn_of {d i b : Nat} (h : tT A0 E (d + 1) i b) : eNn (E i) := by
  obtain ⟨⟨t1, t2, t3, t4, t5, t6, t7, t8⟩, -⟩ := h
  obtain ⟨g1, g2, -, -, -, -, g3, g4⟩ := t6
  exact ⟨t5, g1, g2, g3, g4⟩
/-- what is shown of each level -/
def ckH (A0 : mA) (E : Nat → eN) (cl : Nat → Option cF) (d : Nat) : Prop := ∀ (i b : Nat) (s : cS) (u : bS), tT A0 E d i b → eSm E s.2.2 → sE s u → bnd s.1 → cRel (ck cl d i s) (lk cl E d i u)
theorem pt_of {d i b k : Nat} (h : tT A0 E (d + 1) i b) (hk : k < (E i).2.2.2.1) : ∃ y, tT A0 E d (ePt (E i) k) y := by
  obtain ⟨-, -, hch⟩ := h
  obtain ⟨x, y, k1, k2, -⟩ := tC_part (fun x y r => tT_lt r) hch (Nat.zero_le k) (by omega)
  refine ⟨y, ?_⟩
  have e1 : ePt (E i) k = x := by unfold ePt; rw [k1]; rfl
  rw [e1]
  exact k2
theorem ck_sm' {d i : Nat} {t : Int32} {s' : cS} (hs : eSm E s.2.2) (h : ck cl d i s = .inr (t, s')) : eSm E s'.2.2 := hs.trans (ck_sm h)
theorem eSm_pl {E' : Nat → eN} (h : eSm E E') (q : Nat) : (E' q).2.1 = (E q).2.1 := by
  obtain ⟨c, hc⟩ := h q
  rw [hc]
  rfl
/-- parts that must each be of a type -/
theorem parts_rel {d i b : Nat} {W : Nat → Int32} (IH : ckH A0 E cl d) (hT : tT A0 E (d + 1) i b) (hP : ∀ k pl t sv (u : bS), k < (E i).2.2.2.1 → lkP cl (E i) k pl t sv u = if t = W k then .inr (sv, u) else .inl pl) : ∀ (m j : Nat) (s : cS) (u : bS) (t0 : Int32) (sv : bV), m + j = (E i).2.2.2.1 → eSm E s.2.2 → sE s u → bnd s.1 →
    (∃ q, cAll (ck cl d) (E i) W m j s = .inl q ∧ lkQ cl E (lk cl E d) (E i) m j t0 sv u = .inl q ∧ 0 ≤ q) ∨ (∃ t1 s1 u1 t2, cAll (ck cl d) (E i) W m j s = .inr (t1, s1) ∧ lkQ cl E (lk cl E d) (E i) m j t0 sv u = lkT cl (E i) t2 u1 ∧ eSm E s1.2.2 ∧ sE s1 u1 ∧ bnd s1.1)
  | 0, j, s, u, t0, sv, _, hm, hs, hb => Or.inr ⟨0, s, u, t0, rfl, rfl, hm, hs, hb⟩
  | m + 1, j, s, u, t0, sv, hmj, hm, hs, hb => by
    obtain ⟨y, hTj⟩ := pt_of hT (show j < (E i).2.2.2.1 by omega)
    have r := IH (ePt (E i) j) y s u hTj hm hs hb
    have e1 : cAll (ck cl d) (E i) W (m + 1) j s = cB (cPart (ck cl d) (ePt (E i) j) (W j) s) (fun _ s1 => cAll (ck cl d) (E i) W m (j + 1) s1) := rfl
    have e2 : lkQ cl E (lk cl E d) (E i) (m + 1) j t0 sv u = (match lk cl E d (ePt (E i) j) u with
      | .inl q => .inl q
      | .inr (t, s1) => match lkP cl (E i) j (E (ePt (E i) j)).2.1 t sv s1 with
        | .inl q => .inl q
        | .inr (sv2, s2) => lkQ cl E (lk cl E d) (E i) m (j + 1) t sv2 s2) := rfl
    rw [e1, e2]
    unfold cPart
    cases hc : ck cl d (ePt (E i) j) s with
    | inl q =>
      cases hl : lk cl E d (ePt (E i) j) u with
      | inl q' =>
        rw [hc, hl] at r
        obtain ⟨rfl, hq⟩ := r
        exact Or.inl ⟨q, rfl, rfl, hq⟩
      | inr a => rw [hc, hl] at r; exact False.elim r
    | inr a =>
      obtain ⟨t, s1⟩ := a
      cases hl : lk cl E d (ePt (E i) j) u with
      | inl q' => rw [hc, hl] at r; exact False.elim r
      | inr a' =>
        obtain ⟨t', u1⟩ := a'
        rw [hc, hl] at r
        obtain ⟨rfl, hrg, hs1, hb1⟩ := r
        have hm1 := ck_sm' hm hc
        dsimp only
        rw [hP j _ _ _ _ (by omega)]
        by_cases q : t = W j
        · rw [if_pos q]
          have e3 : cB (cB (.inr (t, s1)) fun t s1 => if t = W j then .inr (t, s1) else .inl (s1.2.2 (ePt (E i) j)).2.1) (fun _ s1 => cAll (ck cl d) (E i) W m (j + 1) s1) = cAll (ck cl d) (E i) W m (j + 1) s1 := by
            show cB (if t = W j then .inr (t, s1) else .inl (s1.2.2 (ePt (E i) j)).2.1) _ = _
            rw [if_pos q]
            rfl
          rw [e3]
          exact parts_rel IH hT hP m (j + 1) s1 u1 t sv (by omega) hm1 hs1 hb1
        · rw [if_neg q]
          have e3 : cB (cB (.inr (t, s1)) fun t s1 => if t = W j then .inr (t, s1) else .inl (s1.2.2 (ePt (E i) j)).2.1) (fun _ s1 => cAll (ck cl d) (E i) W m (j + 1) s1) = .inl (E (ePt (E i) j)).2.1 := by
            show cB (if t = W j then .inr (t, s1) else .inl (s1.2.2 (ePt (E i) j)).2.1) _ = _
            rw [if_neg q, eSm_pl hm1]
            rfl
          rw [e3]
          refine Or.inl ⟨_, rfl, rfl, ?_⟩
          cases d with
          | zero => exact False.elim hTj
          | succ d => exact (eNn_of hTj).pl
theorem lkP_num {k : Nat} {pl t : Int32} {sv : bV} (h3 : e.1 ≠ 3) (h4 : e.1 ≠ 4) (h12 : e.1 ≠ 12) (h13 : e.1 ≠ 13) : lkP cl e k pl t sv u = if t = 0 then .inr (sv, u) else .inl pl := by
  unfold lkP
  rw [if_neg h3, if_neg h4, if_neg h12, if_neg h13]
theorem lkB_num (h4 : e.1 ≠ 4) (h12 : e.1 ≠ 12) (h13 : e.1 ≠ 13) : lkB cl e u = .inr u := by
  unfold lkB
  rw [if_neg h4, if_neg h12, if_neg h13]
theorem cAll_cl {L : Nat → cS → cR} {c : Option Nat} {W : Nat → Int32} : ∀ (m j : Nat) (s : cS), cAll L (eCl e c) W m j s = cAll L e W m j s
  | 0, _, _ => rfl
  | m + 1, j, s => by
    show cB (cPart L (ePt e j) (W j) s) (fun _ s1 => cAll L (eCl e c) W m (j + 1) s1) = cB (cPart L (ePt e j) (W j) s) (fun _ s1 => cAll L e W m (j + 1) s1)
    cases cPart L (ePt e j) (W j) s with
    | inl q => rfl
    | inr a => exact cAll_cl m (j + 1) a.2
theorem ckS_cl {L : Nat → cS → cR} {c : Option Nat} {i : Nat} : ckS cl L i (eCl e c) s = ckS cl L i e s := by
  have hN : cNum L (eCl e c) s = cNum L e s := cAll_cl _ _ _
  have hC : cCall cl L i (eCl e c) s = cCall cl L i e s := by
    unfold cCall
    rw [show eNm (eCl e c) = eNm e from rfl]
    cases cl (cIx (eNm e)) with
    | none => rfl
    | some a =>
      obtain ⟨a, c', Y, res⟩ := a
      dsimp only
      rw [cAll_cl]
      rfl
  unfold ckS
  rw [hN, hC]
  rfl
theorem ck_lk (hcl : clR cl) : ∀ d, ckH A0 E cl d
  | 0 => fun i b s u hT => False.elim hT
  | d + 1 => by
    intro i b s u hT hm hs hb
    have IH := ck_lk hcl d
    obtain ⟨cc, hcc⟩ := hm i
    have hck : ck cl (d + 1) i s = ckS cl (ck cl d) i (E i) s := by
      show ckS cl (ck cl d) i (s.2.2 i) s = _
      rw [hcc]
      exact ckS_cl
    have hlk : lk cl E (d + 1) i u = (match lkB cl (E i) u with
      | .inl q => .inl q
      | .inr s1 => lkQ cl E (lk cl E d) (E i) (E i).2.2.2.1 0 0 (0, 0, 0) s1) := rfl
    rw [hck, hlk]
    have hnn := eNn_of hT
    have hK14 : (E i).1 < 14 := hT.1.1
    have hcn : eCnt (E i).1 (E i).2.2.2.1 := hT.1.2.2.2.2.2.2.1
    obtain ⟨-, ⟨v0, hv20, ev⟩, ⟨g, hg8, eg⟩, -⟩ := id hnn
    have hix : cIx (eVr (E i)) = v0 := by rw [ev]; exact nI_clamp (by omega)
    have hig : cIx (eNm (E i)) = g := by rw [eg]; exact nI_clamp (by omega)
    have num : (E i).1 ≠ 3 → (E i).1 ≠ 4 → (E i).1 ≠ 12 → (E i).1 ≠ 13 → _ := fun h3 h4 h12 h13 => parts_rel (W := fun _ => 0) IH hT (fun k pl t sv u _ => lkP_num h3 h4 h12 h13) (E i).2.2.2.1 0 s u 0 (0, 0, 0) (by omega) hm hs hb
    have hcase : (E i).1 = 0 ∨ (E i).1 = 1 ∨ (E i).1 = 2 ∨ (E i).1 = 3 ∨ (E i).1 = 4 ∨ (E i).1 = 5 ∨ (E i).1 = 6 ∨ (E i).1 = 7 ∨ (E i).1 = 8 ∨ (E i).1 = 9 ∨ (E i).1 = 10 ∨ (E i).1 = 11 ∨ (E i).1 = 12 ∨ (E i).1 = 13 := by omega
    rcases hcase with hk | hk | hk | hk | hk | hk | hk | hk | hk | hk | hk | hk | hk | hk
    · rw [ckS_0 hk]
      rw [lkB_num (by omega) (by omega) (by omega)]
      rcases num (by omega) (by omega) (by omega) (by omega) with ⟨q, h1, h2, hq⟩ | ⟨t1, s1, u1, t2, h1, h2, hm1, hs1, hb1⟩
      · rw [show cNum (ck cl d) (E i) s = _ from h1]; dsimp only; rw [h2]; exact ⟨rfl, hq⟩
      · rw [show cNum (ck cl d) (E i) s = _ from h1]; dsimp only; rw [h2]; unfold lkT; rw [if_neg (show ¬ (E i).1 = 1 by omega), if_neg (show ¬ (E i).1 = 3 by omega), if_neg (show ¬ (E i).1 = 4 by omega), if_neg (show ¬ (E i).1 = 5 by omega), if_neg (show ¬ (E i).1 = 6 by omega), if_neg (show ¬ (E i).1 = 7 by omega), if_neg (show ¬ (E i).1 = 8 by omega), if_neg (show ¬ (E i).1 = 9 by omega), if_neg (show ¬ (E i).1 = 10 by omega), if_neg (show ¬ (E i).1 = 11 by omega), if_neg (show ¬ (E i).1 = 12 by omega), if_neg (show ¬ (E i).1 = 13 by omega)]; exact ⟨rfl, ⟨0, by omega, rfl⟩, hs1, hb1⟩
    · rw [ckS_1 hk]
      rw [lkB_num (by omega) (by omega) (by omega)]
      dsimp only
      rw [hcn.2.1 hk]
      show cRel (cUse (E i) 0 2 s) (lkT cl (E i) 0 u)
      unfold lkT; rw [if_pos hk]
      rcases use_rel hnn (hnn.vp (by omega)) hs hb w7 with ⟨h1, h2⟩ | ⟨t, ht, h1, h2, h3, h4⟩
      · rw [h1, h2]; exact ⟨rfl, hnn.vp (by omega)⟩
      · rw [h1, h2]; exact ⟨rfl, ht, h3, h4⟩
    · rw [ckS_2 hk]
      rw [lkB_num (by omega) (by omega) (by omega)]
      rcases num (by omega) (by omega) (by omega) (by omega) with ⟨q, h1, h2, hq⟩ | ⟨t1, s1, u1, t2, h1, h2, hm1, hs1, hb1⟩
      · rw [show cNum (ck cl d) (E i) s = _ from h1]; dsimp only; rw [h2]; exact ⟨rfl, hq⟩
      · rw [show cNum (ck cl d) (E i) s = _ from h1]; dsimp only; rw [h2]; unfold lkT; rw [if_neg (show ¬ (E i).1 = 1 by omega), if_neg (show ¬ (E i).1 = 3 by omega), if_neg (show ¬ (E i).1 = 4 by omega), if_neg (show ¬ (E i).1 = 5 by omega), if_neg (show ¬ (E i).1 = 6 by omega), if_neg (show ¬ (E i).1 = 7 by omega), if_neg (show ¬ (E i).1 = 8 by omega), if_neg (show ¬ (E i).1 = 9 by omega), if_neg (show ¬ (E i).1 = 10 by omega), if_neg (show ¬ (E i).1 = 11 by omega), if_neg (show ¬ (E i).1 = 12 by omega), if_neg (show ¬ (E i).1 = 13 by omega)]; exact ⟨rfl, ⟨0, by omega, rfl⟩, hs1, hb1⟩
    · rw [ckS_3 hk]
      have hc3 : (E i).2.2.2.1 = 3 := hcn.2.2.2.1 hk
      rw [lkB_num (by omega) (by omega) (by omega)]
      dsimp only
      rw [hc3]
      unfold cCho cPart
      obtain ⟨y0, hT0⟩ := pt_of hT (show 0 < (E i).2.2.2.1 by omega)
      obtain ⟨y1, hT1⟩ := pt_of hT (show 1 < (E i).2.2.2.1 by omega)
      obtain ⟨y2, hT2⟩ := pt_of hT (show 2 < (E i).2.2.2.1 by omega)
      have r := IH (ePt (E i) 0) y0 s u hT0 hm hs hb
      show cRel (cB (cB (ck cl d (ePt (E i) 0) s) _) _) (match lk cl E d (ePt (E i) 0) u with
          | .inl q => .inl q
          | .inr (t, s1) => match lkP cl (E i) 0 (E (ePt (E i) 0)).2.1 t (0, 0, 0) s1 with
            | .inl q => .inl q
            | .inr (sv2, s2) => lkQ cl E (lk cl E d) (E i) 2 1 t sv2 s2)
      cases hc : ck cl d (ePt (E i) 0) s with
      | inl q => cases hl : lk cl E d (ePt (E i) 0) u with
        | inl q' => rw [hc, hl] at r; exact r
        | inr a => rw [hc, hl] at r; exact False.elim r
      | inr a =>
        obtain ⟨t, s1⟩ := a
        cases hl : lk cl E d (ePt (E i) 0) u with
        | inl q' => rw [hc, hl] at r; exact False.elim r
        | inr a' =>
          obtain ⟨t', u1⟩ := a'
          rw [hc, hl] at r
          obtain ⟨rfl, hrg, hs1, hb1⟩ := r
          have hm1 := ck_sm' hm hc
          dsimp only
          have eP : ∀ pl sv (u : bS), lkP cl (E i) 0 pl t sv u = if t = 0 then .inr ((u.2, sv.2), u) else .inl pl := fun pl sv u => by unfold lkP; rw [if_pos hk, if_pos rfl]
          rw [eP]
          show cRel (cB (if t = 0 then .inr (t, s1) else .inl (s1.2.2 (ePt (E i) 0)).2.1) _) _
          by_cases q0 : t = 0
          rotate_left
          · rw [if_neg q0, if_neg q0, eSm_pl hm1]
            refine ⟨rfl, ?_⟩
            cases d with
            | zero => exact False.elim hT0
            | succ d => exact (eNn_of hT0).pl
          rw [if_pos q0, if_pos q0]
          dsimp only
          have r1 := IH (ePt (E i) 1) y1 s1 u1 hT1 hm1 hs1 hb1
          show cRel (cB (ck cl d (ePt (E i) 1) s1) _) (match lk cl E d (ePt (E i) 1) u1 with
            | .inl q => .inl q
            | .inr (t, s2) => match lkP cl (E i) 1 (E (ePt (E i) 1)).2.1 t (u1.2, 0, 0) s2 with
              | .inl q => .inl q
              | .inr (sv2, s2) => lkQ cl E (lk cl E d) (E i) 1 2 t sv2 s2)
          cases hc1 : ck cl d (ePt (E i) 1) s1 with
          | inl q => cases hl1 : lk cl E d (ePt (E i) 1) u1 with
            | inl q' => rw [hc1, hl1] at r1; exact r1
            | inr a => rw [hc1, hl1] at r1; exact False.elim r1
          | inr a1 =>
            obtain ⟨t1, s2⟩ := a1
            cases hl1 : lk cl E d (ePt (E i) 1) u1 with
            | inl q' => rw [hc1, hl1] at r1; exact False.elim r1
            | inr a1' =>
              obtain ⟨t1', u2⟩ := a1'
              rw [hc1, hl1] at r1
              obtain ⟨rfl, hrg1, hs2, hb2⟩ := r1
              have hm2 := ck_sm' hm1 hc1
              dsimp only
              have eP1 : ∀ pl sv (u : bS), lkP cl (E i) 1 pl t1 sv u = .inr ((sv.1, t1, u.2), (u.1, sv.1)) := fun pl sv u => by unfold lkP; rw [if_pos hk, if_neg (show ¬ (1 : Nat) = 0 by decide), if_pos rfl]
              rw [eP1]
              dsimp only
              have r2 := IH (ePt (E i) 2) y2 (s2.1, s1.2.1, s2.2.2) (u2.1, u1.2) hT2 hm2 ⟨hs2.1, hs1.2⟩ hb2
              show cRel (cB (ck cl d (ePt (E i) 2) (s2.1, s1.2.1, s2.2.2)) _) (match lk cl E d (ePt (E i) 2) (u2.1, u1.2) with
                | .inl q => .inl q
                | .inr (t, s3) => match lkP cl (E i) 2 (E (ePt (E i) 2)).2.1 t (u1.2, t1, u2.2) s3 with
                  | .inl q => .inl q
                  | .inr (sv2, s3) => lkT cl (E i) t s3)
              cases hc2 : ck cl d (ePt (E i) 2) (s2.1, s1.2.1, s2.2.2) with
              | inl q => cases hl2 : lk cl E d (ePt (E i) 2) (u2.1, u1.2) with
                | inl q' => rw [hc2, hl2] at r2; exact r2
                | inr a => rw [hc2, hl2] at r2; exact False.elim r2
              | inr a2 =>
                obtain ⟨t2, s3⟩ := a2
                cases hl2 : lk cl E d (ePt (E i) 2) (u2.1, u1.2) with
                | inl q' => rw [hc2, hl2] at r2; exact False.elim r2
                | inr a2' =>
                  obtain ⟨t2', u3⟩ := a2'
                  rw [hc2, hl2] at r2
                  obtain ⟨rfl, hrg2, hs3, hb3⟩ := r2
                  dsimp only
                  show cRel (if t2 = t1 ∧ s3.2.1 = s2.2.1 then .inr (t1, s3) else .inl (E i).2.1) _
                  have eP2 : ∀ pl sv (u : bS), lkP cl (E i) 2 pl t2 sv u = if t2 = sv.2.1 ∧ u.2 = sv.2.2 then .inr (sv, u) else .inl (E i).2.1 := fun pl sv u => by unfold lkP; rw [if_pos hk, if_neg (show ¬ (2 : Nat) = 0 by decide), if_neg (show ¬ (2 : Nat) = 1 by decide)]
                  rw [eP2]
                  dsimp only
                  by_cases qq : t2 = t1 ∧ s3.2.1 = s2.2.1
                  · rw [if_pos qq, if_pos ⟨qq.1, by rw [← hs3.2, ← hs2.2]; exact qq.2⟩]
                    dsimp only
                    unfold lkT
                    rw [if_neg (show ¬ (E i).1 = 1 by omega), if_pos hk]
                    exact ⟨qq.1.symm, hrg1, hs3, hb3⟩
                  · rw [if_neg qq, if_neg (fun w => qq ⟨w.1, by rw [hs3.2, hs2.2]; exact w.2⟩)]
                    exact ⟨rfl, hnn.pl⟩
    · rw [ckS_4 hk]
      have hc2 : (E i).2.2.2.1 = 2 := hcn.2.2.2.2.1 hk
      unfold lkB cBnd
      rw [if_pos hk, hix]
      have hiff : s.1 v0 = -1 ↔ u.1 v0 < 0 := by
        rw [← hs.1 v0 hv20]
        rcases hb v0 hv20 with q | ⟨y, hy, q⟩
        · rw [q]; decide
        · rw [q]
          refine ⟨fun w => ?_, fun w => absurd w (nI_pos (by omega))⟩
          have := congrArg Int32.toInt w
          rw [nI_toInt (by omega)] at this
          have e1 : (-1 : Int32).toInt = -1 := rfl
          omega
      by_cases q1 : s.1 v0 = -1
      rotate_left
      · rw [if_neg q1, if_neg (fun w => q1 (hiff.mpr w))]
        exact ⟨rfl, hnn.vp (by omega)⟩
      rw [if_pos q1, if_pos (hiff.mp q1)]
      dsimp only
      rw [hc2]
      obtain ⟨y0, hT0⟩ := pt_of hT (show 0 < (E i).2.2.2.1 by omega)
      obtain ⟨y1, hT1⟩ := pt_of hT (show 1 < (E i).2.2.2.1 by omega)
      have r := IH (ePt (E i) 0) y0 s u hT0 hm hs hb
      show cRel (cB (ck cl d (ePt (E i) 0) s) _) (match lk cl E d (ePt (E i) 0) u with
          | .inl q => .inl q
          | .inr (t, s1) => match lkP cl (E i) 0 (E (ePt (E i) 0)).2.1 t (0, 0, 0) s1 with
            | .inl q => .inl q
            | .inr (sv2, s2) => lkQ cl E (lk cl E d) (E i) 1 1 t sv2 s2)
      cases hc : ck cl d (ePt (E i) 0) s with
      | inl q => cases hl : lk cl E d (ePt (E i) 0) u with
        | inl q' => rw [hc, hl] at r; exact r
        | inr a => rw [hc, hl] at r; exact False.elim r
      | inr a =>
        obtain ⟨t, s1⟩ := a
        cases hl : lk cl E d (ePt (E i) 0) u with
        | inl q' => rw [hc, hl] at r; exact False.elim r
        | inr a' =>
          obtain ⟨t', u1⟩ := a'
          rw [hc, hl] at r
          obtain ⟨rfl, hrg, hs1, hb1⟩ := r
          have hm1 := ck_sm' hm hc
          dsimp only
          have eP : ∀ pl sv u, lkP cl (E i) 0 pl t sv u = .inr (sv, lBind (eVr (E i)) t u) := fun pl sv u => by unfold lkP; rw [if_neg (show ¬ (E i).1 = 3 by omega), if_pos hk, if_pos rfl]
          rw [eP]
          dsimp only
          obtain ⟨hs2, hb2⟩ := bind_rel (v0 := v0) hv20 hrg hs1 hb1
          rw [← ev] at hs2 hb2
          have r2 := IH (ePt (E i) 1) y1 (cBind (eVr (E i)) t s1) (lBind (eVr (E i)) t u1) hT1 hm1 hs2 hb2
          show cRel (cB (ck cl d (ePt (E i) 1) (cBind (eVr (E i)) t s1)) _) (match lk cl E d (ePt (E i) 1) (lBind (eVr (E i)) t u1) with
            | .inl q => .inl q
            | .inr (t, s1) => match lkP cl (E i) 1 (E (ePt (E i) 1)).2.1 t (0, 0, 0) s1 with
              | .inl q => .inl q
              | .inr (sv2, s2) => lkT cl (E i) t s2)
          cases hc2 : ck cl d (ePt (E i) 1) (cBind (eVr (E i)) t s1) with
          | inl q => cases hl2 : lk cl E d (ePt (E i) 1) (lBind (eVr (E i)) t u1) with
            | inl q' => rw [hc2, hl2] at r2; exact r2
            | inr a => rw [hc2, hl2] at r2; exact False.elim r2
          | inr a2 =>
            obtain ⟨t2, s2⟩ := a2
            cases hl2 : lk cl E d (ePt (E i) 1) (lBind (eVr (E i)) t u1) with
            | inl q' => rw [hc2, hl2] at r2; exact False.elim r2
            | inr a2' =>
              obtain ⟨t2', u2⟩ := a2'
              rw [hc2, hl2] at r2
              obtain ⟨rfl, hrg2, hs3, hb3⟩ := r2
              dsimp only
              show cRel (if cOwn s2.2.1 (eVr (E i)) then .inl (eVp (E i)) else .inr (t2, upd s2.1 v0 (-1), s2.2)) _
              unfold lkP
              rw [if_neg (show ¬ (E i).1 = 3 by omega), if_pos hk, if_neg (show ¬ (1 : Nat) = 0 by decide), hix]
              by_cases qo : cOwn s2.2.1 (eVr (E i))
              · rw [if_pos qo, if_pos (by rw [← hs3.2]; exact own_iff.mp qo)]
                exact ⟨rfl, hnn.vp (by omega)⟩
              · rw [if_neg qo, if_neg (by rw [← hs3.2]; exact fun w => qo (own_iff.mpr w))]
                dsimp only
                unfold lkT
                rw [if_neg (show ¬ (E i).1 = 1 by omega), if_neg (show ¬ (E i).1 = 3 by omega), if_pos hk]
                refine ⟨rfl, hrg2, ⟨fun v hv => ?_, hs3.2⟩, fun v hv => ?_⟩
                · show upd s2.1 v0 (-1) v = upd u2.1 v0 (-1) v
                  by_cases q : v = v0
                  · subst q; rw [upd_self, upd_self]
                  · rw [upd_ne q, upd_ne q]; exact hs3.1 v hv
                · show upd s2.1 v0 (-1) v = -1 ∨ rg3 (upd s2.1 v0 (-1) v)
                  by_cases q : v = v0
                  · subst q; rw [upd_self]; exact Or.inl rfl
                  · rw [upd_ne q]; exact hb3 v hv
    · rw [ckS_5 hk]
      rw [lkB_num (by omega) (by omega) (by omega)]
      rcases num (by omega) (by omega) (by omega) (by omega) with ⟨q, h1, h2, hq⟩ | ⟨t1, s1, u1, t2, h1, h2, hm1, hs1, hb1⟩
      · rw [show cNum (ck cl d) (E i) s = _ from h1]; dsimp only; rw [h2]; exact ⟨rfl, hq⟩
      · rw [show cNum (ck cl d) (E i) s = _ from h1]; dsimp only; rw [h2]; unfold lkT; rw [if_neg (show ¬ (E i).1 = 1 by omega), if_neg (show ¬ (E i).1 = 3 by omega), if_neg (show ¬ (E i).1 = 4 by omega), if_pos hk]; exact ⟨rfl, ⟨1, by omega, rfl⟩, hs1, hb1⟩
    · rw [ckS_6 hk]
      rw [lkB_num (by omega) (by omega) (by omega)]
      rcases num (by omega) (by omega) (by omega) (by omega) with ⟨q, h1, h2, hq⟩ | ⟨t1, s1, u1, t2, h1, h2, hm1, hs1, hb1⟩
      · rw [show cNum (ck cl d) (E i) s = _ from h1]; dsimp only; rw [h2]; exact ⟨rfl, hq⟩
      · rw [show cNum (ck cl d) (E i) s = _ from h1]; dsimp only; rw [h2]; unfold lkT; rw [if_neg (show ¬ (E i).1 = 1 by omega), if_neg (show ¬ (E i).1 = 3 by omega), if_neg (show ¬ (E i).1 = 4 by omega), if_neg (show ¬ (E i).1 = 5 by omega), if_pos hk]; exact ⟨rfl, ⟨2, by omega, rfl⟩, hs1, hb1⟩
    · rw [ckS_7 hk]
      rw [lkB_num (by omega) (by omega) (by omega)]
      rcases num (by omega) (by omega) (by omega) (by omega) with ⟨q, h1, h2, hq⟩ | ⟨t1, s1, u1, t2, h1, h2, hm1, hs1, hb1⟩
      · rw [show cNum (ck cl d) (E i) s = _ from h1]; dsimp only; rw [h2]; exact ⟨rfl, hq⟩
      · rw [show cNum (ck cl d) (E i) s = _ from h1]; dsimp only; rw [h2]
        show cRel (cVr0 (cVar (E i) (if (E i).2.2.2.1 = 1 then 1 else 2) (if (E i).2.2.2.1 = 1 then 1 else 2) s1) s1) (lkT cl (E i) t2 u1)
        unfold lkT; rw [if_neg (show ¬ (E i).1 = 1 by omega), if_neg (show ¬ (E i).1 = 3 by omega), if_neg (show ¬ (E i).1 = 4 by omega), if_neg (show ¬ (E i).1 = 5 by omega), if_neg (show ¬ (E i).1 = 6 by omega), if_pos hk]
        by_cases qc : (E i).2.2.2.1 = 1
        · rw [if_pos qc, if_pos qc]
          rcases var_rel hnn hs1 hb1 w2 with ⟨h1, h2⟩ | ⟨t, ht, h1, h2⟩
          · rw [h1, h2]; exact ⟨rfl, hnn.vp (by omega)⟩
          · rw [h1, h2]; exact ⟨rfl, ⟨0, by omega, rfl⟩, hs1, hb1⟩
        · rw [if_neg qc, if_neg qc]
          rcases var_rel hnn hs1 hb1 w4 with ⟨h1, h2⟩ | ⟨t, ht, h1, h2⟩
          · rw [h1, h2]; exact ⟨rfl, hnn.vp (by omega)⟩
          · rw [h1, h2]; exact ⟨rfl, ⟨0, by omega, rfl⟩, hs1, hb1⟩
    · rw [ckS_8 hk]
      rw [lkB_num (by omega) (by omega) (by omega)]
      rcases num (by omega) (by omega) (by omega) (by omega) with ⟨q, h1, h2, hq⟩ | ⟨t1, s1, u1, t2, h1, h2, hm1, hs1, hb1⟩
      · rw [show cNum (ck cl d) (E i) s = _ from h1]; dsimp only; rw [h2]; exact ⟨rfl, hq⟩
      · rw [show cNum (ck cl d) (E i) s = _ from h1]; dsimp only; rw [h2]
        show cRel (cUse (E i) (if (E i).2.2.2.1 = 2 then 1 else 2) (if (E i).2.2.2.1 = 2 then 1 else 2) s1) (lkT cl (E i) t2 u1)
        unfold lkT; rw [if_neg (show ¬ (E i).1 = 1 by omega), if_neg (show ¬ (E i).1 = 3 by omega), if_neg (show ¬ (E i).1 = 4 by omega), if_neg (show ¬ (E i).1 = 5 by omega), if_neg (show ¬ (E i).1 = 6 by omega), if_neg (show ¬ (E i).1 = 7 by omega), if_pos hk]
        by_cases qc : (E i).2.2.2.1 = 2
        · rw [if_pos qc, if_pos qc]
          rcases use_rel hnn (hnn.vp (by omega)) hs1 hb1 w2 with ⟨h1, h2⟩ | ⟨t, ht, h1, h2, h3, h4⟩
          · rw [h1, h2]; exact ⟨rfl, hnn.vp (by omega)⟩
          · rw [h1, h2]; exact ⟨rfl, ht, h3, h4⟩
        · rw [if_neg qc, if_neg qc]
          rcases use_rel hnn (hnn.vp (by omega)) hs1 hb1 w4 with ⟨h1, h2⟩ | ⟨t, ht, h1, h2, h3, h4⟩
          · rw [h1, h2]; exact ⟨rfl, hnn.vp (by omega)⟩
          · rw [h1, h2]; exact ⟨rfl, ht, h3, h4⟩
    · rw [ckS_9 hk]
      rw [lkB_num (by omega) (by omega) (by omega)]
      dsimp only
      rw [hcn.2.2.2.2.2.2.2.2.2.1 hk]
      show cRel (cVr0 (cVar (E i) 1 2 s) s) (lkT cl (E i) 0 u)
      unfold lkT; rw [if_neg (show ¬ (E i).1 = 1 by omega), if_neg (show ¬ (E i).1 = 3 by omega), if_neg (show ¬ (E i).1 = 4 by omega), if_neg (show ¬ (E i).1 = 5 by omega), if_neg (show ¬ (E i).1 = 6 by omega), if_neg (show ¬ (E i).1 = 7 by omega), if_neg (show ¬ (E i).1 = 8 by omega), if_pos hk]
      rcases var_rel hnn hs hb w6 with ⟨h1, h2⟩ | ⟨t, ht, h1, h2⟩
      · rw [h1, h2]; exact ⟨rfl, hnn.vp (by omega)⟩
      · rw [h1, h2]; exact ⟨rfl, ⟨0, by omega, rfl⟩, hs, hb⟩
    · rw [ckS_10 hk]
      rw [lkB_num (by omega) (by omega) (by omega)]
      dsimp only
      rw [hcn.2.2.2.2.2.2.2.2.2.2.1 hk]
      show cRel (cVr0 (cVar (E i) 2 2 s) s) (lkT cl (E i) 0 u)
      unfold lkT; rw [if_neg (show ¬ (E i).1 = 1 by omega), if_neg (show ¬ (E i).1 = 3 by omega), if_neg (show ¬ (E i).1 = 4 by omega), if_neg (show ¬ (E i).1 = 5 by omega), if_neg (show ¬ (E i).1 = 6 by omega), if_neg (show ¬ (E i).1 = 7 by omega), if_neg (show ¬ (E i).1 = 8 by omega), if_neg (show ¬ (E i).1 = 9 by omega), if_pos hk]
      rcases var_rel hnn hs hb w4 with ⟨h1, h2⟩ | ⟨t, ht, h1, h2⟩
      · rw [h1, h2]; exact ⟨rfl, hnn.vp (by omega)⟩
      · rw [h1, h2]; exact ⟨rfl, ⟨0, by omega, rfl⟩, hs, hb⟩
    · rw [ckS_11 hk]
      rw [lkB_num (by omega) (by omega) (by omega)]
      dsimp only
      rw [hcn.2.2.2.2.2.2.2.2.2.2.2.1 hk]
      show cRel (cVrT (cVar (E i) 1 2 s) s) (lkT cl (E i) 0 u)
      unfold lkT; rw [if_neg (show ¬ (E i).1 = 1 by omega), if_neg (show ¬ (E i).1 = 3 by omega), if_neg (show ¬ (E i).1 = 4 by omega), if_neg (show ¬ (E i).1 = 5 by omega), if_neg (show ¬ (E i).1 = 6 by omega), if_neg (show ¬ (E i).1 = 7 by omega), if_neg (show ¬ (E i).1 = 8 by omega), if_neg (show ¬ (E i).1 = 9 by omega), if_neg (show ¬ (E i).1 = 10 by omega), if_pos hk]
      rcases var_rel hnn hs hb w6 with ⟨h1, h2⟩ | ⟨t, ht, h1, h2⟩
      · rw [h1, h2]; exact ⟨rfl, hnn.vp (by omega)⟩
      · rw [h1, h2]; exact ⟨rfl, ht, hs, hb⟩
    · rw [ckS_12 hk]
      have hc1 : (E i).2.2.2.1 = 1 := hcn.2.2.2.2.2.2.2.2.2.2.2.2 hk
      unfold lkB
      rw [if_neg (show ¬ (E i).1 = 4 by omega), if_pos hk]
      rcases use_rel hnn (hnn.vp (by omega)) hs hb w6 with ⟨h1, h2⟩ | ⟨t, ht, h1, h2, h3, h4⟩
      · rw [h1, h2]; exact ⟨rfl, hnn.vp (by omega)⟩
      · rw [h1, h2]
        dsimp only
        rw [hc1]
        obtain ⟨y, hTj⟩ := pt_of hT (show 0 < (E i).2.2.2.1 by omega)
        have r := IH (ePt (E i) 0) y (cOff (eVr (E i)) s) (lOff (eVr (E i)) u) hTj hm h3 h4
        show cRel (ck cl d (ePt (E i) 0) (cOff (eVr (E i)) s)) (match lk cl E d (ePt (E i) 0) (lOff (eVr (E i)) u) with
          | .inl q => .inl q
          | .inr (t, s1) => match lkP cl (E i) 0 (E (ePt (E i) 0)).2.1 t (0, 0, 0) s1 with
            | .inl q => .inl q
            | .inr (sv2, s2) => lkT cl (E i) t s2)
        cases hl : lk cl E d (ePt (E i) 0) (lOff (eVr (E i)) u) with
        | inl q => rw [hl] at r; exact r
        | inr a =>
          obtain ⟨t', u1⟩ := a
          rw [hl] at r
          dsimp only
          unfold lkP
          rw [if_neg (show ¬ (E i).1 = 3 by omega), if_neg (show ¬ (E i).1 = 4 by omega), if_pos hk]
          dsimp only
          unfold lkT
          rw [if_neg (show ¬ (E i).1 = 1 by omega), if_neg (show ¬ (E i).1 = 3 by omega), if_neg (show ¬ (E i).1 = 4 by omega), if_neg (show ¬ (E i).1 = 5 by omega), if_neg (show ¬ (E i).1 = 6 by omega), if_neg (show ¬ (E i).1 = 7 by omega), if_neg (show ¬ (E i).1 = 8 by omega), if_neg (show ¬ (E i).1 = 9 by omega), if_neg (show ¬ (E i).1 = 10 by omega), if_neg (show ¬ (E i).1 = 11 by omega), if_pos hk]
          exact r
    · rw [ckS_13 hk]
      unfold lkB cCall
      rw [if_neg (show ¬ (E i).1 = 4 by omega), if_neg (show ¬ (E i).1 = 12 by omega), if_pos hk, hig]
      cases hg : cl g with
      | none => exact ⟨rfl, hnn.pl⟩
      | some a =>
        obtain ⟨a, c, Y, rt⟩ := a
        dsimp only
        by_cases qc : c = (E i).2.2.2.1
        · rw [if_pos qc, if_pos qc]
          obtain ⟨hrt, hY⟩ := hcl g a c Y rt hg8 hg
          have hm1 : eSm E (va_up s.2.2 i (eCl (s.2.2 i) (some a))) := hm.trans eSm.up
          rcases parts_rel (W := Y) IH hT (fun k pl t sv u hkk => by unfold lkP; rw [if_neg (show ¬ (E i).1 = 3 by omega), if_neg (show ¬ (E i).1 = 4 by omega), if_neg (show ¬ (E i).1 = 12 by omega), if_pos hk, hig, hg]) (E i).2.2.2.1 0 (s.1, s.2.1, va_up s.2.2 i (eCl (s.2.2 i) (some a))) u 0 (0, 0, 0) (by omega) hm1 hs hb with ⟨q, h1, h2, hq⟩ | ⟨t1, s1, u1, t2, h1, h2, hm2, hs1, hb1⟩
          · rw [h1]; dsimp only; rw [h2]; exact ⟨rfl, hq⟩
          · rw [h1]; dsimp only; rw [h2]
            show cRel (.inr (rt, s1)) (lkT cl (E i) t2 u1)
            unfold lkT
            rw [if_neg (show ¬ (E i).1 = 1 by omega), if_neg (show ¬ (E i).1 = 3 by omega), if_neg (show ¬ (E i).1 = 4 by omega), if_neg (show ¬ (E i).1 = 5 by omega), if_neg (show ¬ (E i).1 = 6 by omega), if_neg (show ¬ (E i).1 = 7 by omega), if_neg (show ¬ (E i).1 = 8 by omega), if_neg (show ¬ (E i).1 = 9 by omega), if_neg (show ¬ (E i).1 = 10 by omega), if_neg (show ¬ (E i).1 = 11 by omega), if_neg (show ¬ (E i).1 = 12 by omega), if_pos hk, hig, hg]
            exact ⟨rfl, hrt, hs1, hb1⟩
        · rw [if_neg qc, if_neg qc]
          exact ⟨rfl, hnn.pl⟩
end TIE
