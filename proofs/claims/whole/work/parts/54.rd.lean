/-! the reading, as a function of the text T of z characters. p: the place; i: how many nodes there are; A: the reference's arrays (its node j in the rows 87 .. 91 at 1200 + j); E: the class's expressions by the same numbers (form, place, parts, their count, number, operation, variable, its place, callee's name, callee) -/
abbrev eN : Type := Nat × Int32 × (Nat → Option Nat) × Nat × Int64 × Int32 × Int32 × Int32 × Int32 × Option Nat
abbrev rS : Type := Nat × Nat × mA × (Nat → eN)
/-- ill at a place, or gone on -/
abbrev rR : Type := Nat ⊕ rS
def rlk (T : Nat → Int32) (z p : Nat) : Int32 := if p < z then T p else 0
def rB (x : rR) (f : rS → rR) : rR := match x with
  | .inl q => .inl q
  | .inr s => f s
def rTake (T : Nat → Int32) (z : Nat) (c : Int32) (s : rS) (f : rS → rR) : rR := if rlk T z s.1 = c then f (s.1 + 1, s.2) else .inl s.1
def rLet (T : Nat → Int32) (z : Nat) (lo hi : Int32) (s : rS) (f : Int32 → rS → rR) : rR := if lo ≤ rlk T z s.1 ∧ rlk T z s.1 ≤ hi then f (rlk T z s.1 - lo) (s.1 + 1, s.2) else .inl s.1
def rFlat (A : mA) (i k : Nat) (x : Int32) (w : Nat) : mA := va_up (va_up (va_up (va_up (va_up A 87 (upd (A 87) (1200 + i) (nI k))) 88 (upd (A 88) (1200 + i) x)) 89 (upd (A 89) (1200 + i) (nI w))) 90 (upd (A 90) (1200 + i) 0)) 91 (upd (A 91) (1200 + i) (nI (1200 + i + 1)))
def rE0 (k w : Nat) : eN := (k, nI w, fun _ => none, 0, 0, 32, 0, 0, 0, none)
/-- node i is made: kind k, argument x, place w; the class's expression e -/
def rNode (k : Nat) (x : Int32) (w : Nat) (e : eN) (s : rS) : rS := (s.1, s.2.1 + 1, rFlat s.2.2.1 s.2.1 k x w, va_up s.2.2.2 s.2.1 e)
def eAdd (e : eN) (j : Nat) : eN := (e.1, e.2.1, va_up e.2.2.1 e.2.2.2.1 (some j), e.2.2.2.1 + 1, e.2.2.2.2)
/-- node j is part of node i -/
def rAdd (i j : Nat) (s : rS) : rS := (s.1, s.2.1, va_up s.2.2.1 90 (upd (s.2.2.1 90) (1200 + i) (s.2.2.1 90 (1200 + i) + 1)), va_up s.2.2.2 i (eAdd (s.2.2.2 i) j))
def eOp (e : eN) (c : Int32) : eN := (e.1, e.2.1, e.2.2.1, e.2.2.2.1, e.2.2.2.2.1, c, e.2.2.2.2.2.2)
def rOp (i : Nat) (c : Int32) (s : rS) : rS := (s.1 + 1, s.2.1, va_up s.2.2.1 88 (upd (s.2.2.1 88) (1200 + i) c), va_up s.2.2.2 i (eOp (s.2.2.2 i) c))
def eVar (e : eN) (v w : Int32) : eN := (e.1, e.2.1, e.2.2.1, e.2.2.2.1, e.2.2.2.2.1, e.2.2.2.2.2.1, v, w, e.2.2.2.2.2.2.2.2)
/-- node i is whole; a reading's or update's variable comes to the class's expression now -/
def rClose (i : Nat) (vw : Option (Int32 × Nat)) (s : rS) : rS := (s.1, s.2.1, va_up s.2.2.1 91 (upd (s.2.2.1 91) (1200 + i) (nI (1200 + s.2.1))), match vw with
  | none => s.2.2.2
  | some (v, w) => va_up s.2.2.2 i (eVar (s.2.2.2 i) v (nI w)))
def rIsOp (c : Int32) : Bool := c == 43 || c == 45 || c == 42 || c == 47 || c == 60 || c == 61
def rDigs (T : Nat → Int32) (z : Nat) : Nat → Nat → Nat → Nat × Nat
  | 0, p, v => (p, v)
  | k + 1, p, v => if 48 ≤ rlk T z p ∧ rlk T z p ≤ 57 then rDigs T z k (p + 1) (10 * v + (rlk T z p - 48).toNatClampNeg) else (p, v)
/-- behind part k of node i, of kind K: g if another part follows, f if none does -/
def rBeh (T : Nat → Int32) (z K k i : Nat) (s : rS) (g f : rS → rR) : rR :=
  if K = 2 then (if k = 0 then (if rIsOp (rlk T z s.1) then g (rOp i (rlk T z s.1) s) else .inl s.1) else rTake T z 41 s f)
  else if K = 3 then (if k = 0 then rTake T z 40 s g else if k = 1 then rTake T z 124 s g else rTake T z 41 s f)
  else if K = 4 then (if k = 0 then rTake T z 59 s g else f s)
  else if K = 6 then (if k = 0 then rTake T z 44 s g else f s)
  else if K = 7 then (if k = 0 ∧ rlk T z s.1 = 44 then g (s.1 + 1, s.2) else rTake T z 93 s f)
  else if K = 8 then (if k = 0 then rTake T z 44 s g else if k = 1 ∧ rlk T z s.1 = 44 then g (s.1 + 1, s.2) else rTake T z 125 s f)
  else if K = 13 then (if k < 3 ∧ rlk T z s.1 = 44 then g (s.1 + 1, s.2) else rTake T z 41 s f)
  else f s
/-- the parts of node i from part k on, m at most -/
def rParts (T : Nat → Int32) (z : Nat) (R : rS → rR) (K i : Nat) (vw : Option (Int32 × Nat)) : Nat → Nat → rS → rR
  | 0, _, s => .inl s.1
  | m + 1, k, s => rB (R s) fun s2 => rBeh T z K k i (rAdd i s.2.1 s2) (fun s3 => rParts T z R K i vw m (k + 1) s3) (fun s3 => .inr (rClose i vw s3))
def rGo (s : rS) (q : Nat) : rS := (q, s.2)
/-- an expression, d more levels deep at most -/
def rdE (T : Nat → Int32) (z : Nat) : Nat → rS → rR
  | 0, s => .inl s.1
  | d + 1, s =>
    if 48 ≤ rlk T z s.1 ∧ rlk T z s.1 ≤ 57 then
      .inr (rGo (rNode 0 (nI (rDigs T z 4 s.1 0).2) s.1 (0, nI s.1, fun _ => none, 0, lN (rDigs T z 4 s.1 0).2, 32, 0, 0, 0, none) s) (rDigs T z 4 s.1 0).1)
    else if 97 ≤ rlk T z s.1 ∧ rlk T z s.1 ≤ 116 then
      (if rlk T z (s.1 + 1) = 91 then rParts T z (rdE T z d) 7 s.2.1 (some (rlk T z s.1 - 97, s.1)) 4 0 (rGo (rNode 7 (rlk T z s.1 - 97) s.1 (rE0 7 s.1) s) (s.1 + 2))
       else if rlk T z (s.1 + 1) = 123 then rParts T z (rdE T z d) 8 s.2.1 (some (rlk T z s.1 - 97, s.1)) 4 0 (rGo (rNode 8 (rlk T z s.1 - 97) s.1 (rE0 8 s.1) s) (s.1 + 2))
       else .inr (rGo (rNode 1 (rlk T z s.1 - 97) s.1 (eVar (rE0 1 s.1) (rlk T z s.1 - 97) (nI s.1)) s) (s.1 + 1)))
    else if 65 ≤ rlk T z s.1 ∧ rlk T z s.1 ≤ 72 then
      (if rlk T z (s.1 + 1) = 40 then
        (if rlk T z (s.1 + 2) = 41 then .inr (rGo (rNode 13 (rlk T z s.1 - 65) s.1 (13, nI s.1, fun _ => none, 0, 0, 32, 0, 0, rlk T z s.1 - 65, none) s) (s.1 + 3))
         else rParts T z (rdE T z d) 13 s.2.1 none 4 0 (rGo (rNode 13 (rlk T z s.1 - 65) s.1 (13, nI s.1, fun _ => none, 0, 0, 32, 0, 0, rlk T z s.1 - 65, none) s) (s.1 + 2)))
       else .inl (s.1 + 1))
    else if rlk T z s.1 = 40 then rParts T z (rdE T z d) 2 s.2.1 none 4 0 (rGo (rNode 2 0 s.1 (rE0 2 s.1) s) (s.1 + 1))
    else if rlk T z s.1 = 63 then rParts T z (rdE T z d) 3 s.2.1 none 4 0 (rGo (rNode 3 0 s.1 (rE0 3 s.1) s) (s.1 + 1))
    else if rlk T z s.1 = 64 then rParts T z (rdE T z d) 5 s.2.1 none 4 0 (rGo (rNode 5 0 s.1 (rE0 5 s.1) s) (s.1 + 1))
    else if rlk T z s.1 = 37 then rParts T z (rdE T z d) 6 s.2.1 none 4 0 (rGo (rNode 6 0 s.1 (rE0 6 s.1) s) (s.1 + 1))
    else if rlk T z s.1 = 38 then rLet T z 97 116 (rGo s (s.1 + 1)) fun v s1 => rTake T z 61 s1 fun s2 => rParts T z (rdE T z d) 4 s.2.1 none 4 0 (rNode 4 v s.1 (eVar (rE0 4 s.1) v (nI (s.1 + 1))) s2)
    else if rlk T z s.1 = 126 then rLet T z 97 116 (rGo s (s.1 + 1)) fun v s1 => rTake T z 59 s1 fun s2 => rParts T z (rdE T z d) 12 s.2.1 none 4 0 (rNode 12 v s.1 (eVar (rE0 12 s.1) v (nI (s.1 + 1))) s2)
    else if rlk T z s.1 = 35 then rLet T z 97 116 (rGo s (s.1 + 1)) fun v s1 => .inr (rNode 9 v s.1 (eVar (rE0 9 s.1) v (nI (s.1 + 1))) s1)
    else if rlk T z s.1 = 94 then rLet T z 97 116 (rGo s (s.1 + 1)) fun v s1 => .inr (rNode 10 v s.1 (eVar (rE0 10 s.1) v (nI (s.1 + 1))) s1)
    else if rlk T z s.1 = 36 then rLet T z 97 116 (rGo s (s.1 + 1)) fun v s1 => .inr (rNode 11 v s.1 (eVar (rE0 11 s.1) v (nI (s.1 + 1))) s1)
    else .inl s.1
/-- the parameters from number k on, m at most: their variables V, places P, types Y -/
def rdP (T : Nat → Int32) (z : Nat) : Nat → Nat → Nat → mS → mS → mS → Nat ⊕ (Nat × Nat × mS × mS × mS)
  | 0, k, p, V, P, Y => .inr (p, k, V, P, Y)
  | m + 1, k, p, V, P, Y =>
    if 97 ≤ rlk T z p ∧ rlk T z p ≤ 116 then
      (if 48 ≤ rlk T z (p + 1) ∧ rlk T z (p + 1) ≤ 50 then
        (if k < 3 ∧ rlk T z (p + 2) = 44 then rdP T z m (k + 1) (p + 3) (upd V k (rlk T z p - 97)) (upd P k (nI p)) (upd Y k (rlk T z (p + 1) - 48))
         else .inr (p + 2, k + 1, upd V k (rlk T z p - 97), upd P k (nI p), upd Y k (rlk T z (p + 1) - 48)))
       else .inl (p + 1))
    else .inl p
/-- what a whole function's text gives: its letter, its parameters (count, variables, places, types), its result, its body -/
abbrev rF : Type := Int32 × Nat × mS × mS × mS × Int32 × rS
def rdB (T : Nat → Int32) (z : Nat) (f : Int32) (A : mA) (E : Nat → eN) (q : Nat × Nat × mS × mS × mS) : Nat ⊕ rF :=
  if rlk T z q.1 = 41 then
    (if 48 ≤ rlk T z (q.1 + 1) ∧ rlk T z (q.1 + 1) ≤ 50 then
      (if rlk T z (q.1 + 2) = 61 then
        (match rdE T z 8 (q.1 + 3, 0, A, E) with
         | .inl x => .inl x
         | .inr s => if s.1 = z then .inr (f, q.2.1, q.2.2.1, q.2.2.2.1, q.2.2.2.2, rlk T z (q.1 + 1) - 48, s) else .inl s.1)
       else .inl (q.1 + 2))
     else .inl (q.1 + 1))
  else .inl q.1
def rdF (T : Nat → Int32) (z : Nat) (A : mA) (E : Nat → eN) (V P Y : mS) : Nat ⊕ rF :=
  if 65 ≤ rlk T z 0 ∧ rlk T z 0 ≤ 72 then
    (if rlk T z 1 = 40 then
      (if rlk T z 2 = 41 then rdB T z (rlk T z 0 - 65) A E (2, 0, V, P, Y)
       else (match rdP T z 4 0 2 V P Y with
         | .inl x => .inl x
         | .inr q => rdB T z (rlk T z 0 - 65) A E q))
     else .inl 1)
  else .inl 0
section RDG
variable {T : Nat → Int32} {z : Nat}
/-- from a to b: further on in the text, no more new nodes than characters -/
def rGood (z : Nat) (a b : rS) : Prop := a.1 ≤ b.1 ∧ b.1 ≤ z ∧ a.2.1 ≤ b.2.1 ∧ b.2.1 + a.1 ≤ a.2.1 + b.1
def rRes (z : Nat) (a : rS) (r : rR) : Prop := match r with
  | .inl q => a.1 ≤ q ∧ q ≤ z
  | .inr b => rGood z a b
theorem rGood.refl {a : rS} (h : a.1 ≤ z) : rGood z a a := ⟨Nat.le_refl _, h, Nat.le_refl _, Nat.le_refl _⟩
theorem rGood.trans {a b c : rS} (h : rGood z a b) (g : rGood z b c) : rGood z a c := by
  obtain ⟨h1, h2, h3, h4⟩ := h
  obtain ⟨g1, g2, g3, g4⟩ := g
  exact ⟨by omega, g2, by omega, by omega⟩
theorem rRes.of {a b : rS} {r : rR} (h : rGood z a b) (g : rRes z b r) : rRes z a r := by
  cases r with
  | inl q => exact ⟨Nat.le_trans h.1 g.1, g.2⟩
  | inr c => exact rGood.trans h g
theorem rRes.bind {a : rS} {x : rR} {f : rS → rR} (h : rRes z a x) (g : ∀ b, rGood z a b → rRes z b (f b)) : rRes z a (rB x f) := by
  cases x with
  | inl q => exact h
  | inr b => exact rRes.of h (g b h)
theorem rlk_lt {p : Nat} {c : Int32} (h : rlk T z p = c) (h0 : c ≠ 0) : p < z := by
  refine Decidable.byContradiction fun q => ?_
  rw [rlk, if_neg q] at h
  exact h0 h.symm
theorem rlk_pos {p : Nat} {lo : Int32} (h : lo ≤ rlk T z p) (h0 : 0 < lo) : p < z := by
  refine Decidable.byContradiction fun q => ?_
  rw [rlk, if_neg q] at h
  exact absurd h (Int32.not_le.mpr h0)
theorem rTake_res {c : Int32} {s : rS} {f : rS → rR} (hs : s.1 ≤ z) (h0 : c ≠ 0) (g : s.1 < z → rRes z (s.1 + 1, s.2) (f (s.1 + 1, s.2))) : rRes z s (rTake T z c s f) := by
  unfold rTake
  by_cases h : rlk T z s.1 = c
  · rw [if_pos h]
    have hl := rlk_lt h h0
    exact rRes.of (b := (s.1 + 1, s.2)) ⟨Nat.le_succ _, hl, Nat.le_refl _, by show s.2.1 + s.1 ≤ s.2.1 + (s.1 + 1); omega⟩ (g hl)
  · rw [if_neg h]
    exact ⟨Nat.le_refl _, hs⟩
theorem rLet_res {lo hi : Int32} {s : rS} {f : Int32 → rS → rR} (hs : s.1 ≤ z) (h0 : 0 < lo) (g : s.1 < z → rRes z (s.1 + 1, s.2) (f (rlk T z s.1 - lo) (s.1 + 1, s.2))) : rRes z s (rLet T z lo hi s f) := by
  unfold rLet
  by_cases h : lo ≤ rlk T z s.1 ∧ rlk T z s.1 ≤ hi
  · rw [if_pos h]
    have hl := rlk_pos h.1 h0
    exact rRes.of (b := (s.1 + 1, s.2)) ⟨Nat.le_succ _, hl, Nat.le_refl _, by show s.2.1 + s.1 ≤ s.2.1 + (s.1 + 1); omega⟩ (g hl)
  · rw [if_neg h]
    exact ⟨Nat.le_refl _, hs⟩
theorem rComma_res {c : Int32} {s : rS} {g : rS → rR} (h : rlk T z s.1 = c) (h0 : c ≠ 0) (hg : ∀ b, rGood z s b → rRes z b (g b)) : rRes z s (g (s.1 + 1, s.2)) := by
  have hl := rlk_lt h h0
  have hG : rGood z s (s.1 + 1, s.2) := ⟨Nat.le_succ _, hl, Nat.le_refl _, by show s.2.1 + s.1 ≤ s.2.1 + (s.1 + 1); omega⟩
  exact rRes.of hG (hg _ hG)
theorem rIsOp_ne {c : Int32} (h : rIsOp c = true) : c ≠ 0 := fun q => by rw [q] at h; exact absurd h (by decide)
theorem rBeh_res {K k i : Nat} {s : rS} {g f : rS → rR} (hs : s.1 ≤ z) (hg : ∀ b, rGood z s b → rRes z b (g b)) (hf : ∀ b, rGood z s b → rRes z b (f b)) : rRes z s (rBeh T z K k i s g f) := by
  have tk : ∀ (c : Int32) (w : rS → rR), c ≠ 0 → (∀ b, rGood z s b → rRes z b (w b)) → rRes z s (rTake T z c s w) := fun c w h0 hw => rTake_res hs h0 (fun hl => hw _ ⟨Nat.le_succ _, hl, Nat.le_refl _, by show s.2.1 + s.1 ≤ s.2.1 + (s.1 + 1); omega⟩)
  have ff : rRes z s (f s) := hf s (rGood.refl hs)
  unfold rBeh
  split
  · split
    · split
      · rename_i hop
        have hl := rlk_lt rfl (rIsOp_ne hop)
        have hG : rGood z s (rOp i (rlk T z s.1) s) := ⟨Nat.le_succ _, hl, Nat.le_refl _, by show s.2.1 + s.1 ≤ s.2.1 + (s.1 + 1); omega⟩
        exact rRes.of hG (hg _ hG)
      · exact ⟨Nat.le_refl _, hs⟩
    · exact tk _ _ (by decide) hf
  · split
    · split
      · exact tk _ _ (by decide) hg
      · split
        · exact tk _ _ (by decide) hg
        · exact tk _ _ (by decide) hf
    · split
      · split
        · exact tk _ _ (by decide) hg
        · exact ff
      · split
        · split
          · exact tk _ _ (by decide) hg
          · exact ff
        · split
          · split
            · rename_i hc
              exact rComma_res hc.2 (by decide) hg
            · exact tk _ _ (by decide) hf
          · split
            · split
              · exact tk _ _ (by decide) hg
              · split
                · rename_i hc
                  exact rComma_res hc.2 (by decide) hg
                · exact tk _ _ (by decide) hf
            · split
              · split
                · rename_i hc
                  exact rComma_res hc.2 (by decide) hg
                · exact tk _ _ (by decide) hf
              · exact ff
theorem rParts_res {R : rS → rR} (hR : ∀ s, s.1 ≤ z → rRes z s (R s)) {K i : Nat} {vw : Option (Int32 × Nat)} : ∀ (m k : Nat) (s : rS), s.1 ≤ z → rRes z s (rParts T z R K i vw m k s)
  | 0, _, s, hs => ⟨Nat.le_refl _, hs⟩
  | m + 1, k, s, hs => by
    unfold rParts
    refine rRes.bind (hR s hs) (fun b hb => ?_)
    have hG : rGood z b (rAdd i s.2.1 b) := ⟨Nat.le_refl _, hb.2.1, Nat.le_refl _, Nat.le_refl _⟩
    refine rRes.of hG (rBeh_res hG.2.1 (fun c hc => rParts_res hR m (k + 1) c hc.2.1) (fun c hc => ?_))
    exact ⟨Nat.le_refl _, hc.2.1, Nat.le_refl _, Nat.le_refl _⟩
theorem rDigs_le : ∀ (k p v : Nat), p ≤ z → p ≤ (rDigs T z k p v).1 ∧ (rDigs T z k p v).1 ≤ z
  | 0, p, v, h => ⟨Nat.le_refl _, h⟩
  | k + 1, p, v, h => by
    unfold rDigs
    by_cases q : 48 ≤ rlk T z p ∧ rlk T z p ≤ 57
    · rw [if_pos q]
      have hl := rlk_pos q.1 (by decide)
      obtain ⟨h1, h2⟩ := rDigs_le k (p + 1) (10 * v + (rlk T z p - 48).toNatClampNeg) hl
      exact ⟨by omega, h2⟩
    · rw [if_neg q]
      exact ⟨Nat.le_refl _, h⟩
theorem rDigs_lt {p v : Nat} (q : 48 ≤ rlk T z p ∧ rlk T z p ≤ 57) (k : Nat) : p < (rDigs T z (k + 1) p v).1 ∧ (rDigs T z (k + 1) p v).1 ≤ z := by
  unfold rDigs
  rw [if_pos q]
  have hl := rlk_pos q.1 (by decide)
  obtain ⟨h1, h2⟩ := rDigs_le (T := T) k (p + 1) (10 * v + (rlk T z p - 48).toNatClampNeg) hl
  exact ⟨by omega, h2⟩
end RDG
section RDH
variable {T : Nat → Int32} {z : Nat}
theorem rNode_good {k w q : Nat} {x : Int32} {e : eN} {s : rS} (h1 : s.1 < q) (h2 : q ≤ z) : rGood z s (rGo (rNode k x w e s) q) := ⟨Nat.le_of_lt h1, h2, Nat.le_succ _, by show s.2.1 + 1 + s.1 ≤ s.2.1 + q; omega⟩
theorem rdE_res : ∀ (d : Nat) (s : rS), s.1 ≤ z → rRes z s (rdE T z d s)
  | 0, s, hs => ⟨Nat.le_refl _, hs⟩
  | d + 1, s, hs => by
    have ih : ∀ (K i : Nat) (vw : Option (Int32 × Nat)) (s : rS), s.1 ≤ z → rRes z s (rParts T z (rdE T z d) K i vw 4 0 s) := fun K i vw s hs => rParts_res (rdE_res d) 4 0 s hs
    have il : rRes z s (.inl s.1) := ⟨Nat.le_refl _, hs⟩
    have op : ∀ (c : Int32) (K : Nat) (e : eN), c ≠ 0 → rlk T z s.1 = c → rRes z s (rParts T z (rdE T z d) K s.2.1 none 4 0 (rGo (rNode K 0 s.1 e s) (s.1 + 1))) := fun c K e h0 hc => by
      have hl := rlk_lt hc h0
      exact rRes.of (rNode_good (by omega) (by omega)) (ih _ _ _ _ (by show s.1 + 1 ≤ z; omega))
    have lt : ∀ (c c2 : Int32) (K : Nat) (e : Int32 → eN), c ≠ 0 → c2 ≠ 0 → rlk T z s.1 = c → rRes z s (rLet T z 97 116 (rGo s (s.1 + 1)) fun v s1 => rTake T z c2 s1 fun s2 => rParts T z (rdE T z d) K s.2.1 none 4 0 (rNode K v s.1 (e v) s2)) := fun c c2 K e h0 h2 hc => by
      have hl := rlk_lt hc h0
      unfold rLet rTake
      split
      · rename_i q
        have hq := rlk_pos q.1 (by decide)
        have hq : s.1 + 1 < z := hq
        dsimp only [rGo]
        split
        · rename_i w
          have hw := rlk_lt w h2
          have hw : s.1 + 1 + 1 < z := hw
          refine rRes.of (b := rNode K _ s.1 (e _) (s.1 + 1 + 1 + 1, s.2)) ⟨by show s.1 ≤ s.1 + 1 + 1 + 1; omega, hw, Nat.le_succ _, by show s.2.1 + 1 + s.1 ≤ s.2.1 + (s.1 + 1 + 1 + 1); omega⟩ (ih _ _ _ _ hw)
        · exact ⟨by show s.1 ≤ s.1 + 1 + 1; omega, by show s.1 + 1 + 1 ≤ z; omega⟩
      · exact ⟨by show s.1 ≤ s.1 + 1; omega, by show s.1 + 1 ≤ z; omega⟩
    have lf : ∀ (c : Int32) (K : Nat) (e : Int32 → eN), c ≠ 0 → rlk T z s.1 = c → rRes z s (rLet T z 97 116 (rGo s (s.1 + 1)) fun v s1 => .inr (rNode K v s.1 (e v) s1)) := fun c K e h0 hc => by
      have hl := rlk_lt hc h0
      unfold rLet
      split
      · rename_i q
        have hq := rlk_pos q.1 (by decide)
        have hq : s.1 + 1 < z := hq
        exact ⟨by show s.1 ≤ s.1 + 1 + 1; omega, by show s.1 + 1 + 1 ≤ z; omega, Nat.le_succ _, by show s.2.1 + 1 + s.1 ≤ s.2.1 + (s.1 + 1 + 1); omega⟩
      · exact ⟨by show s.1 ≤ s.1 + 1; omega, by show s.1 + 1 ≤ z; omega⟩
    unfold rdE
    by_cases q : 48 ≤ rlk T z s.1 ∧ rlk T z s.1 ≤ 57
    · rw [if_pos q]
      obtain ⟨h1, h2⟩ := rDigs_lt (v := 0) q 3
      exact rNode_good h1 h2
    rw [if_neg q]
    by_cases q : 97 ≤ rlk T z s.1 ∧ rlk T z s.1 ≤ 116
    · rw [if_pos q]
      have hl := rlk_pos q.1 (by decide)
      by_cases c : rlk T z (s.1 + 1) = 91
      · rw [if_pos c]
        have hc := rlk_lt c (by decide)
        exact rRes.of (rNode_good (by omega) (by omega)) (ih _ _ _ _ (by show s.1 + 2 ≤ z; omega))
      rw [if_neg c]
      by_cases c : rlk T z (s.1 + 1) = 123
      · rw [if_pos c]
        have hc := rlk_lt c (by decide)
        exact rRes.of (rNode_good (by omega) (by omega)) (ih _ _ _ _ (by show s.1 + 2 ≤ z; omega))
      rw [if_neg c]
      exact rNode_good (by omega) (by omega)
    rw [if_neg q]
    by_cases q : 65 ≤ rlk T z s.1 ∧ rlk T z s.1 ≤ 72
    · rw [if_pos q]
      have hl := rlk_pos q.1 (by decide)
      by_cases c : rlk T z (s.1 + 1) = 40
      · rw [if_pos c]
        have hc := rlk_lt c (by decide)
        by_cases c' : rlk T z (s.1 + 2) = 41
        · rw [if_pos c']
          have hc' := rlk_lt c' (by decide)
          exact rNode_good (by omega) (by omega)
        · rw [if_neg c']
          exact rRes.of (rNode_good (by omega) (by omega)) (ih _ _ _ _ (by show s.1 + 2 ≤ z; omega))
      · rw [if_neg c]
        exact ⟨by omega, by omega⟩
    rw [if_neg q]
    by_cases c : rlk T z s.1 = 40
    · rw [if_pos c]
      exact op 40 2 _ (by decide) c
    rw [if_neg c]
    by_cases c : rlk T z s.1 = 63
    · rw [if_pos c]
      exact op 63 3 _ (by decide) c
    rw [if_neg c]
    by_cases c : rlk T z s.1 = 64
    · rw [if_pos c]
      exact op 64 5 _ (by decide) c
    rw [if_neg c]
    by_cases c : rlk T z s.1 = 37
    · rw [if_pos c]
      exact op 37 6 _ (by decide) c
    rw [if_neg c]
    by_cases c : rlk T z s.1 = 38
    · rw [if_pos c]
      exact lt 38 61 4 (fun v => eVar (rE0 4 s.1) v (nI (s.1 + 1))) (by decide) (by decide) c
    rw [if_neg c]
    by_cases c : rlk T z s.1 = 126
    · rw [if_pos c]
      exact lt 126 59 12 (fun v => eVar (rE0 12 s.1) v (nI (s.1 + 1))) (by decide) (by decide) c
    rw [if_neg c]
    by_cases c : rlk T z s.1 = 35
    · rw [if_pos c]
      exact lf 35 9 (fun v => eVar (rE0 9 s.1) v (nI (s.1 + 1))) (by decide) c
    rw [if_neg c]
    by_cases c : rlk T z s.1 = 94
    · rw [if_pos c]
      exact lf 94 10 (fun v => eVar (rE0 10 s.1) v (nI (s.1 + 1))) (by decide) c
    rw [if_neg c]
    by_cases c : rlk T z s.1 = 36
    · rw [if_pos c]
      exact lf 36 11 (fun v => eVar (rE0 11 s.1) v (nI (s.1 + 1))) (by decide) c
    rw [if_neg c]
    exact il
/-- an expression takes one character at least -/
theorem rdE_pos {d : Nat} {s s' : rS} (hs : s.1 ≤ z) (h : rdE T z d s = .inr s') : s.1 ≤ s'.1 ∧ s'.1 ≤ z ∧ s.2.1 ≤ s'.2.1 ∧ s'.2.1 + s.1 ≤ s.2.1 + s'.1 := by
  have := rdE_res (T := T) d s hs
  rw [h] at this
  exact this
end RDH
