/-! the reading's steps as the reference takes them: what an expression begins with (ill; whole; open: kind, variable), what stands behind a part (ill; another part; none) -/
abbrev rO : Type := Nat ⊕ (rS ⊕ (Nat × Option (Int32 × Nat) × rS))
def rH1 (K : Nat) (s : rS) : rO := .inr (.inr (K, none, rGo (rNode K 0 s.1 (rE0 K s.1) s) (s.1 + 1)))
def rHv (T : Nat → Int32) (z K : Nat) (s : rS) : rO := if 97 ≤ rlk T z (s.1 + 1) ∧ rlk T z (s.1 + 1) ≤ 116 then .inr (.inl (rNode K (rlk T z (s.1 + 1) - 97) s.1 (eVar (rE0 K s.1) (rlk T z (s.1 + 1) - 97) (nI (s.1 + 1))) (rGo s (s.1 + 2)))) else .inl (s.1 + 1)
def rHw (T : Nat → Int32) (z K : Nat) (c : Int32) (s : rS) : rO := if 97 ≤ rlk T z (s.1 + 1) ∧ rlk T z (s.1 + 1) ≤ 116 then (if rlk T z (s.1 + 2) = c then .inr (.inr (K, none, rNode K (rlk T z (s.1 + 1) - 97) s.1 (eVar (rE0 K s.1) (rlk T z (s.1 + 1) - 97) (nI (s.1 + 1))) (rGo s (s.1 + 3)))) else .inl (s.1 + 2)) else .inl (s.1 + 1)
def rHead (T : Nat → Int32) (z : Nat) (s : rS) : rO :=
    if 48 ≤ rlk T z s.1 ∧ rlk T z s.1 ≤ 57 then
      .inr (.inl (rGo (rNode 0 (nI (rDigs T z 4 s.1 0).2) s.1 (0, nI s.1, fun _ => none, 0, lN (rDigs T z 4 s.1 0).2, 32, 0, 0, 0, none) s) (rDigs T z 4 s.1 0).1))
    else if 97 ≤ rlk T z s.1 ∧ rlk T z s.1 ≤ 116 then
      (if rlk T z (s.1 + 1) = 91 then .inr (.inr (7, some (rlk T z s.1 - 97, s.1), rGo (rNode 7 (rlk T z s.1 - 97) s.1 (rE0 7 s.1) s) (s.1 + 2)))
       else if rlk T z (s.1 + 1) = 123 then .inr (.inr (8, some (rlk T z s.1 - 97, s.1), rGo (rNode 8 (rlk T z s.1 - 97) s.1 (rE0 8 s.1) s) (s.1 + 2)))
       else .inr (.inl (rGo (rNode 1 (rlk T z s.1 - 97) s.1 (eVar (rE0 1 s.1) (rlk T z s.1 - 97) (nI s.1)) s) (s.1 + 1))))
    else if 65 ≤ rlk T z s.1 ∧ rlk T z s.1 ≤ 72 then
      (if rlk T z (s.1 + 1) = 40 then
        (if rlk T z (s.1 + 2) = 41 then .inr (.inl (rGo (rNode 13 (rlk T z s.1 - 65) s.1 (eC s.1 (rlk T z s.1 - 65)) s) (s.1 + 3)))
         else .inr (.inr (13, none, rGo (rNode 13 (rlk T z s.1 - 65) s.1 (eC s.1 (rlk T z s.1 - 65)) s) (s.1 + 2))))
       else .inl (s.1 + 1))
    else if rlk T z s.1 = 40 then rH1 2 s
    else if rlk T z s.1 = 63 then rH1 3 s
    else if rlk T z s.1 = 64 then rH1 5 s
    else if rlk T z s.1 = 37 then rH1 6 s
    else if rlk T z s.1 = 38 then rHw T z 4 61 s
    else if rlk T z s.1 = 126 then rHw T z 12 59 s
    else if rlk T z s.1 = 35 then rHv T z 9 s
    else if rlk T z s.1 = 94 then rHv T z 10 s
    else if rlk T z s.1 = 36 then rHv T z 11 s
    else .inl s.1
def rOG (T : Nat → Int32) (z : Nat) (R : rS → rR) (i : Nat) (h : rO) : rR := match h with
  | .inl q => .inl q
  | .inr (.inl s) => .inr s
  | .inr (.inr (K, vw, s)) => rParts T z R K i vw 4 0 s
abbrev rBO : Type := Nat ⊕ (rS ⊕ rS)
def rTk (T : Nat → Int32) (z : Nat) (c : Int32) (m : Bool) (s : rS) : rBO := if rlk T z s.1 = c then .inr (if m then .inl (s.1 + 1, s.2) else .inr (s.1 + 1, s.2)) else .inl s.1
def rBehO (T : Nat → Int32) (z K k i : Nat) (s : rS) : rBO :=
  if K = 2 then (if k = 0 then (if rIsOp (rlk T z s.1) then .inr (.inl (rOp i (rlk T z s.1) s)) else .inl s.1) else rTk T z 41 false s)
  else if K = 3 then (if k = 0 then rTk T z 40 true s else if k = 1 then rTk T z 124 true s else rTk T z 41 false s)
  else if K = 4 then (if k = 0 then rTk T z 59 true s else .inr (.inr s))
  else if K = 6 then (if k = 0 then rTk T z 44 true s else .inr (.inr s))
  else if K = 7 then (if k = 0 ∧ rlk T z s.1 = 44 then .inr (.inl (s.1 + 1, s.2)) else rTk T z 93 false s)
  else if K = 8 then (if k = 0 then rTk T z 44 true s else if k = 1 ∧ rlk T z s.1 = 44 then .inr (.inl (s.1 + 1, s.2)) else rTk T z 125 false s)
  else if K = 13 then (if k < 3 ∧ rlk T z s.1 = 44 then .inr (.inl (s.1 + 1, s.2)) else rTk T z 41 false s)
  else .inr (.inr s)
def rBG (b : rBO) (g f : rS → rR) : rR := match b with
  | .inl q => .inl q
  | .inr (.inl s) => g s
  | .inr (.inr s) => f s
section RHD
variable {T : Nat → Int32} {z : Nat}
theorem rTk_G {c : Int32} {m : Bool} {s : rS} {g f : rS → rR} : rBG (rTk T z c m s) g f = rTake T z c s (if m then g else f) := by
  unfold rTk rTake
  by_cases h : rlk T z s.1 = c
  · rw [if_pos h, if_pos h]
    cases m <;> rfl
  · rw [if_neg h, if_neg h]
    rfl
theorem rBeh_O {K k i : Nat} {s : rS} {g f : rS → rR} : rBeh T z K k i s g f = rBG (rBehO T z K k i s) g f := by
  unfold rBeh rBehO
  by_cases h2 : K = 2
  · rw [if_pos h2, if_pos h2]
    by_cases hk : k = 0
    · rw [if_pos hk, if_pos hk]
      by_cases ho : rIsOp (rlk T z s.1) = true
      · rw [if_pos ho, if_pos ho]; rfl
      · rw [if_neg ho, if_neg ho]; rfl
    · rw [if_neg hk, if_neg hk, rTk_G]; rfl
  rw [if_neg h2, if_neg h2]
  by_cases h3 : K = 3
  · rw [if_pos h3, if_pos h3]
    by_cases hk : k = 0
    · rw [if_pos hk, if_pos hk, rTk_G]; rfl
    · rw [if_neg hk, if_neg hk]
      by_cases hk1 : k = 1
      · rw [if_pos hk1, if_pos hk1, rTk_G]; rfl
      · rw [if_neg hk1, if_neg hk1, rTk_G]; rfl
  rw [if_neg h3, if_neg h3]
  by_cases h4 : K = 4
  · rw [if_pos h4, if_pos h4]
    by_cases hk : k = 0
    · rw [if_pos hk, if_pos hk, rTk_G]; rfl
    · rw [if_neg hk, if_neg hk]; rfl
  rw [if_neg h4, if_neg h4]
  by_cases h6 : K = 6
  · rw [if_pos h6, if_pos h6]
    by_cases hk : k = 0
    · rw [if_pos hk, if_pos hk, rTk_G]; rfl
    · rw [if_neg hk, if_neg hk]; rfl
  rw [if_neg h6, if_neg h6]
  by_cases h7 : K = 7
  · rw [if_pos h7, if_pos h7]
    by_cases hk : k = 0 ∧ rlk T z s.1 = 44
    · rw [if_pos hk, if_pos hk]; rfl
    · rw [if_neg hk, if_neg hk, rTk_G]; rfl
  rw [if_neg h7, if_neg h7]
  by_cases h8 : K = 8
  · rw [if_pos h8, if_pos h8]
    by_cases hk : k = 0
    · rw [if_pos hk, if_pos hk, rTk_G]; rfl
    · rw [if_neg hk, if_neg hk]
      by_cases hk1 : k = 1 ∧ rlk T z s.1 = 44
      · rw [if_pos hk1, if_pos hk1]; rfl
      · rw [if_neg hk1, if_neg hk1, rTk_G]; rfl
  rw [if_neg h8, if_neg h8]
  by_cases h13 : K = 13
  · rw [if_pos h13, if_pos h13]
    by_cases hk : k < 3 ∧ rlk T z s.1 = 44
    · rw [if_pos hk, if_pos hk]; rfl
    · rw [if_neg hk, if_neg hk, rTk_G]; rfl
  rw [if_neg h13, if_neg h13]
  rfl
theorem rdE_head {d : Nat} {s : rS} : rdE T z (d + 1) s = rOG T z (rdE T z d) s.2.1 (rHead T z s) := by
  rw [rdE]
  unfold rHead
  by_cases q1 : 48 ≤ rlk T z s.1 ∧ rlk T z s.1 ≤ 57
  · rw [if_pos q1, if_pos q1]; rfl
  rw [if_neg q1, if_neg q1]
  by_cases q2 : 97 ≤ rlk T z s.1 ∧ rlk T z s.1 ≤ 116
  · rw [if_pos q2, if_pos q2]
    by_cases r1 : rlk T z (s.1 + 1) = 91
    · rw [if_pos r1, if_pos r1]; rfl
    rw [if_neg r1, if_neg r1]
    by_cases r2 : rlk T z (s.1 + 1) = 123
    · rw [if_pos r2, if_pos r2]; rfl
    rw [if_neg r2, if_neg r2]; rfl
  rw [if_neg q2, if_neg q2]
  by_cases q3 : 65 ≤ rlk T z s.1 ∧ rlk T z s.1 ≤ 72
  · rw [if_pos q3, if_pos q3]
    by_cases r1 : rlk T z (s.1 + 1) = 40
    · rw [if_pos r1, if_pos r1]
      by_cases r2 : rlk T z (s.1 + 2) = 41
      · rw [if_pos r2, if_pos r2]; rfl
      · rw [if_neg r2, if_neg r2]; rfl
    · rw [if_neg r1, if_neg r1]; rfl
  rw [if_neg q3, if_neg q3]
  by_cases w40 : rlk T z s.1 = 40
  · rw [if_pos w40, if_pos w40]; rfl
  rw [if_neg w40, if_neg w40]
  by_cases w63 : rlk T z s.1 = 63
  · rw [if_pos w63, if_pos w63]; rfl
  rw [if_neg w63, if_neg w63]
  by_cases w64 : rlk T z s.1 = 64
  · rw [if_pos w64, if_pos w64]; rfl
  rw [if_neg w64, if_neg w64]
  by_cases w37 : rlk T z s.1 = 37
  · rw [if_pos w37, if_pos w37]; rfl
  rw [if_neg w37, if_neg w37]
  by_cases w38 : rlk T z s.1 = 38
  · rw [if_pos w38, if_pos w38]
    unfold rHw
    rw [rLet]
    by_cases r1 : 97 ≤ rlk T z (s.1 + 1) ∧ rlk T z (s.1 + 1) ≤ 116
    · rw [if_pos r1, if_pos (show 97 ≤ rlk T z (rGo s (s.1 + 1)).1 ∧ rlk T z (rGo s (s.1 + 1)).1 ≤ 116 from r1), rTake]
      by_cases r2 : rlk T z (s.1 + 2) = 61
      · rw [if_pos r2, if_pos (show rlk T z ((rGo s (s.1 + 1)).1 + 1) = _ from r2)]; rfl
      · rw [if_neg r2, if_neg (show ¬ rlk T z ((rGo s (s.1 + 1)).1 + 1) = _ from r2)]; rfl
    · rw [if_neg r1, if_neg (show ¬ (97 ≤ rlk T z (rGo s (s.1 + 1)).1 ∧ rlk T z (rGo s (s.1 + 1)).1 ≤ 116) from r1)]; rfl
  rw [if_neg w38, if_neg w38]
  by_cases w126 : rlk T z s.1 = 126
  · rw [if_pos w126, if_pos w126]
    unfold rHw
    rw [rLet]
    by_cases r1 : 97 ≤ rlk T z (s.1 + 1) ∧ rlk T z (s.1 + 1) ≤ 116
    · rw [if_pos r1, if_pos (show 97 ≤ rlk T z (rGo s (s.1 + 1)).1 ∧ rlk T z (rGo s (s.1 + 1)).1 ≤ 116 from r1), rTake]
      by_cases r2 : rlk T z (s.1 + 2) = 59
      · rw [if_pos r2, if_pos (show rlk T z ((rGo s (s.1 + 1)).1 + 1) = _ from r2)]; rfl
      · rw [if_neg r2, if_neg (show ¬ rlk T z ((rGo s (s.1 + 1)).1 + 1) = _ from r2)]; rfl
    · rw [if_neg r1, if_neg (show ¬ (97 ≤ rlk T z (rGo s (s.1 + 1)).1 ∧ rlk T z (rGo s (s.1 + 1)).1 ≤ 116) from r1)]; rfl
  rw [if_neg w126, if_neg w126]
  by_cases w35 : rlk T z s.1 = 35
  · rw [if_pos w35, if_pos w35]
    unfold rHv
    rw [rLet]
    by_cases r1 : 97 ≤ rlk T z (s.1 + 1) ∧ rlk T z (s.1 + 1) ≤ 116
    · rw [if_pos r1, if_pos (show 97 ≤ rlk T z (rGo s (s.1 + 1)).1 ∧ rlk T z (rGo s (s.1 + 1)).1 ≤ 116 from r1)]; rfl
    · rw [if_neg r1, if_neg (show ¬ (97 ≤ rlk T z (rGo s (s.1 + 1)).1 ∧ rlk T z (rGo s (s.1 + 1)).1 ≤ 116) from r1)]; rfl
  rw [if_neg w35, if_neg w35]
  by_cases w94 : rlk T z s.1 = 94
  · rw [if_pos w94, if_pos w94]
    unfold rHv
    rw [rLet]
    by_cases r1 : 97 ≤ rlk T z (s.1 + 1) ∧ rlk T z (s.1 + 1) ≤ 116
    · rw [if_pos r1, if_pos (show 97 ≤ rlk T z (rGo s (s.1 + 1)).1 ∧ rlk T z (rGo s (s.1 + 1)).1 ≤ 116 from r1)]; rfl
    · rw [if_neg r1, if_neg (show ¬ (97 ≤ rlk T z (rGo s (s.1 + 1)).1 ∧ rlk T z (rGo s (s.1 + 1)).1 ≤ 116) from r1)]; rfl
  rw [if_neg w94, if_neg w94]
  by_cases w36 : rlk T z s.1 = 36
  · rw [if_pos w36, if_pos w36]
    unfold rHv
    rw [rLet]
    by_cases r1 : 97 ≤ rlk T z (s.1 + 1) ∧ rlk T z (s.1 + 1) ≤ 116
    · rw [if_pos r1, if_pos (show 97 ≤ rlk T z (rGo s (s.1 + 1)).1 ∧ rlk T z (rGo s (s.1 + 1)).1 ≤ 116 from r1)]; rfl
    · rw [if_neg r1, if_neg (show ¬ (97 ≤ rlk T z (rGo s (s.1 + 1)).1 ∧ rlk T z (rGo s (s.1 + 1)).1 ≤ 116) from r1)]; rfl
  rw [if_neg w36, if_neg w36]
  rfl
/-- what a reading leaves as it is of the reference's arrays -/
def rKA (s : rS) (b : rS) : Prop := ∀ a k, (a < 87 ∨ 91 < a ∨ k < 1200 + s.2.1) → b.2.2.1 a k = s.2.2.1 a k
def rKAi (i : Nat) (s b : rS) : Prop := ∀ a k, (a < 87 ∨ 91 < a ∨ (k < 1200 + s.2.1 ∧ k ≠ 1200 + i)) → b.2.2.1 a k = s.2.2.1 a k
theorem upd_ne {f : Nat → Int32} {i j : Nat} {x : Int32} (h : j ≠ i) : upd f i x j = f j := if_neg h
theorem upd_self {f : Nat → Int32} {i : Nat} {x : Int32} : upd f i x i = x := if_pos rfl
theorem vu_ne {A : mA} {a b i k : Nat} {x : Int32} (h : a ≠ b ∨ k ≠ i) : va_up A b (upd (A b) i x) a k = A a k := by
  by_cases q : a = b
  · subst q
    rw [va_up_self, upd_ne (by omega)]
  · rw [va_up_ne _ _ q]
theorem rFlat_ne {A : mA} {i K w a k : Nat} {x : Int32} (h : a < 87 ∨ 91 < a ∨ k ≠ 1200 + i) : rFlat A i K x w a k = A a k := by
  show va_up (va_up (va_up (va_up (va_up A 87 (upd (A 87) (1200 + i) (nI K))) 88 (upd (va_up A 87 (upd (A 87) (1200 + i) (nI K)) 88) (1200 + i) x)) 89 (upd (va_up (va_up A 87 (upd (A 87) (1200 + i) (nI K))) 88 (upd (va_up A 87 (upd (A 87) (1200 + i) (nI K)) 88) (1200 + i) x) 89) (1200 + i) (nI w))) 90 (upd (A 90) (1200 + i) 0)) 91 (upd (A 91) (1200 + i) (nI (1200 + i + 1))) a k = A a k
  refine (vu_ne (A := va_up (va_up (va_up (va_up A 87 (upd (A 87) (1200 + i) (nI K))) 88 (upd (A 88) (1200 + i) x)) 89 (upd (A 89) (1200 + i) (nI w))) 90 (upd (A 90) (1200 + i) 0)) (by omega)).trans ?_
  refine (vu_ne (A := va_up (va_up (va_up A 87 (upd (A 87) (1200 + i) (nI K))) 88 (upd (A 88) (1200 + i) x)) 89 (upd (A 89) (1200 + i) (nI w))) (by omega)).trans ?_
  refine (vu_ne (A := va_up (va_up A 87 (upd (A 87) (1200 + i) (nI K))) 88 (upd (A 88) (1200 + i) x)) (by omega)).trans ?_
  exact (vu_ne (A := va_up A 87 (upd (A 87) (1200 + i) (nI K))) (by omega)).trans (vu_ne (by omega))
end RHD
