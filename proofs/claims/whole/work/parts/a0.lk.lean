/-! the check as the reference does it, over the same expressions: types and owned bits alone -/
abbrev bS : Type := mS × Int32
/-- of a choice: owned before, the first branch's type, owned behind it -/
abbrev bV : Type := Int32 × Int32 × Int32
abbrev lOwn (o v : Int32) : Prop := (o >>> (v &&& 31)) &&& 1 = 1
def lVar (e : eN) (wt : Int32) (s : bS) : Int32 ⊕ Int32 :=
  if s.1 (cIx (eVr e)) < 0 ∨ (0 < s.1 (cIx (eVr e)) ∧ ¬ lOwn s.2 (eVr e)) ∨ (wt >>> (s.1 (cIx (eVr e)) &&& 31)) &&& 1 = 0 then .inl (eVp e) else .inr (s.1 (cIx (eVr e)))
def lOff (v : Int32) (s : bS) : bS := (s.1, s.2 &&& (cBit v ^^^ (-1)))
def lUse (e : eN) (wt : Int32) (s : bS) : Int32 ⊕ (Int32 × bS) := match lVar e wt s with
  | .inl q => .inl q
  | .inr t => .inr (t, lOff (eVr e) s)
def lBind (v t : Int32) (s : bS) : bS := (upd s.1 (cIx v) t, if 0 < t then s.2 ||| cBit v else s.2)
def lkB (cl : Nat → Option cF) (e : eN) (s : bS) : Int32 ⊕ bS :=
  if e.1 = 4 then (if s.1 (cIx (eVr e)) < 0 then .inr s else .inl (eVp e))
  else if e.1 = 12 then (match lUse e 6 s with
    | .inl q => .inl q
    | .inr (_, s') => .inr s')
  else if e.1 = 13 then (match cl (cIx (eNm e)) with
    | none => .inl e.2.1
    | some (_, c, _, _) => if c = e.2.2.2.1 then .inr s else .inl e.2.1)
  else .inr s
def lkP (cl : Nat → Option cF) (e : eN) (k : Nat) (pl t : Int32) (sv : bV) (s : bS) : Int32 ⊕ (bV × bS) :=
  if e.1 = 3 then (if k = 0 then (if t = 0 then .inr ((s.2, sv.2), s) else .inl pl) else if k = 1 then .inr ((sv.1, t, s.2), (s.1, sv.1)) else (if t = sv.2.1 ∧ s.2 = sv.2.2 then .inr (sv, s) else .inl e.2.1))
  else if e.1 = 4 then (if k = 0 then .inr (sv, lBind (eVr e) t s) else if lOwn s.2 (eVr e) then .inl (eVp e) else .inr (sv, (upd s.1 (cIx (eVr e)) (-1), s.2)))
  else if e.1 = 12 then .inr (sv, s)
  else if e.1 = 13 then (match cl (cIx (eNm e)) with
    | none => .inl pl
    | some (_, _, Y, _) => if t = Y k then .inr (sv, s) else .inl pl)
  else if t = 0 then .inr (sv, s) else .inl pl
def lVr0 (x : Int32 ⊕ Int32) (s : bS) : Int32 ⊕ (Int32 × bS) := match x with
  | .inl q => .inl q
  | .inr _ => .inr (0, s)
def lVrT (x : Int32 ⊕ Int32) (s : bS) : Int32 ⊕ (Int32 × bS) := match x with
  | .inl q => .inl q
  | .inr t => .inr (t, s)
def lkT (cl : Nat → Option cF) (e : eN) (t : Int32) (s : bS) : Int32 ⊕ (Int32 × bS) :=
  if e.1 = 1 then lUse e 7 s
  else if e.1 = 3 then .inr (t, s)
  else if e.1 = 4 then .inr (t, s)
  else if e.1 = 5 then .inr (1, s)
  else if e.1 = 6 then .inr (2, s)
  else if e.1 = 7 then lVr0 (lVar e (if e.2.2.2.1 = 1 then 2 else 4) s) s
  else if e.1 = 8 then lUse e (if e.2.2.2.1 = 2 then 2 else 4) s
  else if e.1 = 9 then lVr0 (lVar e 6 s) s
  else if e.1 = 10 then lVr0 (lVar e 4 s) s
  else if e.1 = 11 then lVrT (lVar e 6 s) s
  else if e.1 = 12 then .inr (t, s)
  else if e.1 = 13 then (match cl (cIx (eNm e)) with
    | none => .inl 0
    | some (_, _, _, rt) => .inr (rt, s))
  else .inr (0, s)
abbrev bR : Type := Int32 ⊕ (Int32 × bS)
/-- the parts of node i from k on, m of them, then its type -/
def lkQ (cl : Nat → Option cF) (E : Nat → eN) (L : Nat → bS → bR) (e : eN) : Nat → Nat → Int32 → bV → bS → bR
  | 0, _, t, _, s => lkT cl e t s
  | m + 1, k, _, sv, s => match L (ePt e k) s with
    | .inl q => .inl q
    | .inr (t, s1) => match lkP cl e k (E (ePt e k)).2.1 t sv s1 with
      | .inl q => .inl q
      | .inr (sv2, s2) => lkQ cl E L e m (k + 1) t sv2 s2
def lk (cl : Nat → Option cF) (E : Nat → eN) : Nat → Nat → bS → bR
  | 0, _, _ => .inl 0
  | d + 1, i, s => match lkB cl (E i) s with
    | .inl q => .inl q
    | .inr s1 => lkQ cl E (lk cl E d) (E i) (E i).2.2.2.1 0 0 (0, 0, 0) s1
