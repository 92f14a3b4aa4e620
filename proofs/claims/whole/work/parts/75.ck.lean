/-! the check, as a function of the expressions: types of the variables, the owned ones' bits, the expressions (a call's callee is put there) -/
abbrev cS : Type := mS × Int32 × (Nat → eN)
/-- wrong at a place, or the type and what is left -/
abbrev cR : Type := Int32 ⊕ (Int32 × cS)
def eVr (e : eN) : Int32 := e.2.2.2.2.2.2.1
def eVp (e : eN) : Int32 := e.2.2.2.2.2.2.2.1
def eNm (e : eN) : Int32 := e.2.2.2.2.2.2.2.2.1
def eCl (e : eN) (c : Option Nat) : eN := (e.1, e.2.1, e.2.2.1, e.2.2.2.1, e.2.2.2.2.1, e.2.2.2.2.2.1, e.2.2.2.2.2.2.1, e.2.2.2.2.2.2.2.1, e.2.2.2.2.2.2.2.2.1, c)
def ePt (e : eN) (j : Nat) : Nat := (e.2.2.1 j).getD 0
def cBit (v : Int32) : Int32 := 1 <<< (v &&& 31)
abbrev cOwn (o v : Int32) : Prop := (o >>> (v &&& 31)) &&& 1 ≠ 0
def cIx (v : Int32) : Nat := v.toNatClampNeg
def cVar (e : eN) (lo hi : Int32) (s : cS) : Int32 ⊕ Int32 :=
  if s.1 (cIx (eVr e)) = -1 ∨ ((s.1 (cIx (eVr e)) = 1 ∨ s.1 (cIx (eVr e)) = 2) ∧ ¬ cOwn s.2.1 (eVr e)) ∨ s.1 (cIx (eVr e)) < lo ∨ hi < s.1 (cIx (eVr e)) then .inl (eVp e) else .inr (s.1 (cIx (eVr e)))
def cOff (v : Int32) (s : cS) : cS := (s.1, s.2.1 &&& (cBit v ^^^ (-1)), s.2.2)
def cUse (e : eN) (lo hi : Int32) (s : cS) : cR := match cVar e lo hi s with
  | .inl q => .inl q
  | .inr t => .inr (t, cOff (eVr e) s)
def cBind (v t : Int32) (s : cS) : cS := (upd s.1 (cIx v) t, if t = 1 ∨ t = 2 then s.2.1 ||| cBit v else s.2.1, s.2.2)
def cB (x : cR) (f : Int32 → cS → cR) : cR := match x with
  | .inl q => .inl q
  | .inr (t, s) => f t s
def cPart (L : Nat → cS → cR) (q : Nat) (w : Int32) (s : cS) : cR := cB (L q s) fun t s1 => if t = w then .inr (t, s1) else .inl (s1.2.2 q).2.1
/-- the parts from j on, m of them, each of its type -/
def cAll (L : Nat → cS → cR) (e : eN) (W : Nat → Int32) : Nat → Nat → cS → cR
  | 0, _, s => .inr (0, s)
  | m + 1, j, s => cB (cPart L (ePt e j) (W j) s) fun _ s1 => cAll L e W m (j + 1) s1
/-- what is known of a callee: its cell, its parameters' count and types, its result -/
abbrev cF : Type := Nat × Nat × mS × Int32
def cCho (L : Nat → cS → cR) (e : eN) (s : cS) : cR := cB (cPart L (ePt e 0) 0 s) fun _ s1 => cB (L (ePt e 1) s1) fun t s2 => cB (L (ePt e 2) (s2.1, s1.2.1, s2.2.2)) fun t3 s3 => if t3 = t ∧ s3.2.1 = s2.2.1 then .inr (t, s3) else .inl e.2.1
def cBnd (L : Nat → cS → cR) (e : eN) (s : cS) : cR := if s.1 (cIx (eVr e)) = -1 then (cB (L (ePt e 0) s) fun t s1 => cB (L (ePt e 1) (cBind (eVr e) t s1)) fun t2 s2 => if cOwn s2.2.1 (eVr e) then .inl (eVp e) else .inr (t2, upd s2.1 (cIx (eVr e)) (-1), s2.2)) else .inl (eVp e)
def cCall (cl : Nat → Option cF) (L : Nat → cS → cR) (i : Nat) (e : eN) (s : cS) : cR := match cl (cIx (eNm e)) with
  | none => .inl e.2.1
  | some (a, c, Y, res) => if c = e.2.2.2.1 then cB (cAll L e Y e.2.2.2.1 0 (s.1, s.2.1, va_up s.2.2 i (eCl (s.2.2 i) (some a)))) fun _ s1 => .inr (res, s1) else .inl e.2.1
def cVr0 (x : Int32 ⊕ Int32) (s : cS) : cR := match x with
  | .inl q => .inl q
  | .inr _ => .inr (0, s)
def cVrT (x : Int32 ⊕ Int32) (s : cS) : cR := match x with
  | .inl q => .inl q
  | .inr t => .inr (t, s)
def cNum (L : Nat → cS → cR) (e : eN) (s : cS) : cR := cAll L e (fun _ => 0) e.2.2.2.1 0 s
def ckS (cl : Nat → Option cF) (L : Nat → cS → cR) (i : Nat) (e : eN) (s : cS) : cR :=
  if e.1 = 1 then cUse e 0 2 s
  else if e.1 = 3 then cCho L e s
  else if e.1 = 4 then cBnd L e s
  else if e.1 = 5 then cB (cNum L e s) fun _ s1 => .inr (1, s1)
  else if e.1 = 6 then cB (cNum L e s) fun _ s1 => .inr (2, s1)
  else if e.1 = 7 then cB (cNum L e s) fun _ s1 => cVr0 (cVar e (if e.2.2.2.1 = 1 then 1 else 2) (if e.2.2.2.1 = 1 then 1 else 2) s1) s1
  else if e.1 = 8 then cB (cNum L e s) fun _ s1 => cUse e (if e.2.2.2.1 = 2 then 1 else 2) (if e.2.2.2.1 = 2 then 1 else 2) s1
  else if e.1 = 9 then cVr0 (cVar e 1 2 s) s
  else if e.1 = 10 then cVr0 (cVar e 2 2 s) s
  else if e.1 = 11 then cVrT (cVar e 1 2 s) s
  else if e.1 = 12 then cB (cUse e 1 2 s) fun _ s1 => L (ePt e 0) s1
  else if e.1 = 13 then cCall cl L i e s
  else cB (cNum L e s) fun _ s1 => .inr (0, s1)
def ck (cl : Nat → Option cF) : Nat → Nat → cS → cR
  | 0, _, _ => .inl 0
  | d + 1, i, s => ckS cl (ck cl d) i (s.2.2 i) s
/-- the same but for the callees -/
def eSm (E E' : Nat → eN) : Prop := ∀ i, ∃ c, E' i = eCl (E i) c
section CKP
variable {E E' E'' : Nat → eN}
theorem eCl_self (e : eN) : eCl e e.2.2.2.2.2.2.2.2.2 = e := rfl
theorem eSm.refl : eSm E E := fun i => ⟨_, (eCl_self (E i)).symm⟩
theorem eSm.trans (h : eSm E E') (g : eSm E' E'') : eSm E E'' := fun i => by
  obtain ⟨c, h1⟩ := h i
  obtain ⟨c', h2⟩ := g i
  exact ⟨c', by rw [h2, h1]; rfl⟩
theorem eSm.up {i : Nat} {c : Option Nat} : eSm E (va_up E i (eCl (E i) c)) := fun j => by
  by_cases q : j = i
  · subst q
    exact ⟨c, by rw [va_up_self]⟩
  · exact ⟨_, by rw [va_up_ne _ _ q]; exact (eCl_self _).symm⟩
/-- a result keeps the expressions but for callees -/
def cKeep (E : Nat → eN) (x : cR) : Prop := match x with
  | .inl _ => True
  | .inr (_, s) => eSm E s.2.2
theorem cKeep.bind {x : cR} {f : Int32 → cS → cR} (h : cKeep E x) (g : ∀ t s, eSm E s.2.2 → cKeep s.2.2 (f t s)) : cKeep E (cB x f) := by
  cases x with
  | inl q => trivial
  | inr a =>
    obtain ⟨t, s⟩ := a
    have k := g t s h
    show cKeep E (f t s)
    cases hx : f t s with
    | inl q => trivial
    | inr b =>
      rw [hx] at k
      exact eSm.trans h k
theorem cKeep_pre {x : cR} (h : eSm E E') (g : cKeep E' x) : cKeep E x := by
  cases x with
  | inl q => trivial
  | inr a =>
    obtain ⟨t, s⟩ := a
    exact eSm.trans h g
theorem cUse_keep {e : eN} {lo hi : Int32} {s : cS} : cKeep s.2.2 (cUse e lo hi s) := by
  unfold cUse
  split
  · trivial
  · exact eSm.refl
theorem cVr0_keep {x : Int32 ⊕ Int32} {s : cS} : cKeep s.2.2 (cVr0 x s) := by
  unfold cVr0
  split
  · trivial
  · exact eSm.refl
theorem cVrT_keep {x : Int32 ⊕ Int32} {s : cS} : cKeep s.2.2 (cVrT x s) := by
  unfold cVrT
  split
  · trivial
  · exact eSm.refl
section CKL
variable {L : Nat → cS → cR}
theorem cPart_keep (hL : ∀ i s, cKeep s.2.2 (L i s)) {q : Nat} {w : Int32} {s : cS} : cKeep s.2.2 (cPart L q w s) := by
  refine cKeep.bind (hL q s) (fun t s1 _ => ?_)
  split
  · exact eSm.refl
  · trivial
theorem cAll_keep (hL : ∀ i s, cKeep s.2.2 (L i s)) {e : eN} {W : Nat → Int32} : ∀ (m j : Nat) (s : cS), cKeep s.2.2 (cAll L e W m j s)
  | 0, _, s => eSm.refl
  | m + 1, j, s => cKeep.bind (cPart_keep hL) (fun t s1 _ => cAll_keep hL m (j + 1) s1)
theorem ckS_keep (hL : ∀ i s, cKeep s.2.2 (L i s)) {cl : Nat → Option cF} {i : Nat} {e : eN} {s : cS} : cKeep s.2.2 (ckS cl L i e s) := by
  have hN : cKeep s.2.2 (cNum L e s) := cAll_keep hL _ _ _
  unfold ckS
  by_cases q1 : e.1 = 1
  · rw [if_pos q1]
    exact cUse_keep
  rw [if_neg q1]
  by_cases q3 : e.1 = 3
  · rw [if_pos q3]
    refine cKeep.bind (cPart_keep hL) (fun t s1 _ => cKeep.bind (hL _ _) (fun t s2 _ => cKeep.bind (hL _ _) (fun t3 s3 _ => ?_)))
    split
    · exact eSm.refl
    · trivial
  rw [if_neg q3]
  by_cases q4 : e.1 = 4
  · rw [if_pos q4]
    unfold cBnd
    split
    · refine cKeep.bind (hL _ _) (fun t s1 _ => cKeep.bind (hL _ _) (fun t s2 _ => ?_))
      split
      · trivial
      · exact eSm.refl
    · trivial
  rw [if_neg q4]
  by_cases q5 : e.1 = 5
  · rw [if_pos q5]
    exact cKeep.bind hN (fun _ s1 _ => eSm.refl)
  rw [if_neg q5]
  by_cases q6 : e.1 = 6
  · rw [if_pos q6]
    exact cKeep.bind hN (fun _ s1 _ => eSm.refl)
  rw [if_neg q6]
  by_cases q7 : e.1 = 7
  · rw [if_pos q7]
    exact cKeep.bind hN (fun _ s1 _ => cVr0_keep)
  rw [if_neg q7]
  by_cases q8 : e.1 = 8
  · rw [if_pos q8]
    exact cKeep.bind hN (fun _ s1 _ => cUse_keep)
  rw [if_neg q8]
  by_cases q9 : e.1 = 9
  · rw [if_pos q9]
    exact cVr0_keep
  rw [if_neg q9]
  by_cases q10 : e.1 = 10
  · rw [if_pos q10]
    exact cVr0_keep
  rw [if_neg q10]
  by_cases q11 : e.1 = 11
  · rw [if_pos q11]
    exact cVrT_keep
  rw [if_neg q11]
  by_cases q12 : e.1 = 12
  · rw [if_pos q12]
    exact cKeep.bind cUse_keep (fun _ s1 _ => hL _ _)
  rw [if_neg q12]
  by_cases q13 : e.1 = 13
  · rw [if_pos q13]
    unfold cCall
    cases cl (cIx (eNm e)) with
    | none => trivial
    | some a =>
      obtain ⟨a, c, Y, res⟩ := a
      dsimp only
      split
      · exact cKeep_pre eSm.up (cKeep.bind (cAll_keep hL (e := e) (W := Y) e.2.2.2.1 0 (s.1, s.2.1, va_up s.2.2 i (eCl (s.2.2 i) (some a)))) (fun _ s1 _ => eSm.refl))
      · trivial
  rw [if_neg q13]
  exact cKeep.bind hN (fun _ s1 _ => eSm.refl)
end CKL
theorem ck_keep {cl : Nat → Option cF} : ∀ (d i : Nat) (s : cS), cKeep s.2.2 (ck cl d i s)
  | 0, _, _ => trivial
  | d + 1, i, s => ckS_keep (ck_keep d)
end CKP
