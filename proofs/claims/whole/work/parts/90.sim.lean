/-! the reading doesn't look at the reference's arrays -/
def rEq (s t : rS) : Prop := s.1 = t.1 ∧ s.2.1 = t.2.1 ∧ s.2.2.2 = t.2.2.2
def rSim (x y : rR) : Prop := match x, y with
  | .inl q, .inl q' => q = q'
  | .inr s, .inr t => rEq s t
  | _, _ => False
def rOSim (x y : rO) : Prop := match x, y with
  | .inl q, .inl q' => q = q'
  | .inr (.inl s), .inr (.inl t) => rEq s t
  | .inr (.inr (K, vw, s)), .inr (.inr (K', vw', t)) => K = K' ∧ vw = vw' ∧ rEq s t
  | _, _ => False
def rBSim (x y : rBO) : Prop := match x, y with
  | .inl q, .inl q' => q = q'
  | .inr (.inl s), .inr (.inl t) => rEq s t
  | .inr (.inr s), .inr (.inr t) => rEq s t
  | _, _ => False
section RSM
variable {T : Nat → Int32} {z : Nat}
theorem rHead_sim {s t : rS} (h : rEq s t) : rOSim (rHead T z s) (rHead T z t) := by
  obtain ⟨p, i, A, E⟩ := s
  obtain ⟨p', i', A', E'⟩ := t
  obtain ⟨rfl, rfl, rfl⟩ := h
  unfold rHead
  dsimp only
  by_cases q1 : 48 ≤ rlk T z p ∧ rlk T z p ≤ 57
  · rw [if_pos q1, if_pos q1]; exact ⟨rfl, rfl, rfl⟩
  rw [if_neg q1, if_neg q1]
  by_cases q2 : 97 ≤ rlk T z p ∧ rlk T z p ≤ 116
  · rw [if_pos q2, if_pos q2]
    by_cases r1 : rlk T z (p + 1) = 91
    · rw [if_pos r1, if_pos r1]; exact ⟨rfl, rfl, rfl, rfl, rfl⟩
    rw [if_neg r1, if_neg r1]
    by_cases r2 : rlk T z (p + 1) = 123
    · rw [if_pos r2, if_pos r2]; exact ⟨rfl, rfl, rfl, rfl, rfl⟩
    rw [if_neg r2, if_neg r2]; exact ⟨rfl, rfl, rfl⟩
  rw [if_neg q2, if_neg q2]
  by_cases q3 : 65 ≤ rlk T z p ∧ rlk T z p ≤ 72
  · rw [if_pos q3, if_pos q3]
    by_cases r1 : rlk T z (p + 1) = 40
    · rw [if_pos r1, if_pos r1]
      by_cases r2 : rlk T z (p + 2) = 41
      · rw [if_pos r2, if_pos r2]; exact ⟨rfl, rfl, rfl⟩
      · rw [if_neg r2, if_neg r2]; exact ⟨rfl, rfl, rfl, rfl, rfl⟩
    · rw [if_neg r1, if_neg r1]; rfl
  rw [if_neg q3, if_neg q3]
  by_cases w40 : rlk T z p = 40
  · rw [if_pos w40, if_pos w40]; exact ⟨rfl, rfl, rfl, rfl, rfl⟩
  rw [if_neg w40, if_neg w40]
  by_cases w63 : rlk T z p = 63
  · rw [if_pos w63, if_pos w63]; exact ⟨rfl, rfl, rfl, rfl, rfl⟩
  rw [if_neg w63, if_neg w63]
  by_cases w64 : rlk T z p = 64
  · rw [if_pos w64, if_pos w64]; exact ⟨rfl, rfl, rfl, rfl, rfl⟩
  rw [if_neg w64, if_neg w64]
  by_cases w37 : rlk T z p = 37
  · rw [if_pos w37, if_pos w37]; exact ⟨rfl, rfl, rfl, rfl, rfl⟩
  rw [if_neg w37, if_neg w37]
  by_cases w38 : rlk T z p = 38
  · rw [if_pos w38, if_pos w38]
    unfold rHw
    dsimp only
    by_cases r1 : 97 ≤ rlk T z (p + 1) ∧ rlk T z (p + 1) ≤ 116
    · rw [if_pos r1, if_pos r1]
      by_cases r2 : rlk T z (p + 2) = 61
      · rw [if_pos r2, if_pos r2]; exact ⟨rfl, rfl, rfl, rfl, rfl⟩
      · rw [if_neg r2, if_neg r2]; rfl
    · rw [if_neg r1, if_neg r1]; rfl
  rw [if_neg w38, if_neg w38]
  by_cases w126 : rlk T z p = 126
  · rw [if_pos w126, if_pos w126]
    unfold rHw
    dsimp only
    by_cases r1 : 97 ≤ rlk T z (p + 1) ∧ rlk T z (p + 1) ≤ 116
    · rw [if_pos r1, if_pos r1]
      by_cases r2 : rlk T z (p + 2) = 59
      · rw [if_pos r2, if_pos r2]; exact ⟨rfl, rfl, rfl, rfl, rfl⟩
      · rw [if_neg r2, if_neg r2]; rfl
    · rw [if_neg r1, if_neg r1]; rfl
  rw [if_neg w126, if_neg w126]
  by_cases w35 : rlk T z p = 35
  · rw [if_pos w35, if_pos w35]
    unfold rHv
    dsimp only
    by_cases r1 : 97 ≤ rlk T z (p + 1) ∧ rlk T z (p + 1) ≤ 116
    · rw [if_pos r1, if_pos r1]; exact ⟨rfl, rfl, rfl⟩
    · rw [if_neg r1, if_neg r1]; rfl
  rw [if_neg w35, if_neg w35]
  by_cases w94 : rlk T z p = 94
  · rw [if_pos w94, if_pos w94]
    unfold rHv
    dsimp only
    by_cases r1 : 97 ≤ rlk T z (p + 1) ∧ rlk T z (p + 1) ≤ 116
    · rw [if_pos r1, if_pos r1]; exact ⟨rfl, rfl, rfl⟩
    · rw [if_neg r1, if_neg r1]; rfl
  rw [if_neg w94, if_neg w94]
  by_cases w36 : rlk T z p = 36
  · rw [if_pos w36, if_pos w36]
    unfold rHv
    dsimp only
    by_cases r1 : 97 ≤ rlk T z (p + 1) ∧ rlk T z (p + 1) ≤ 116
    · rw [if_pos r1, if_pos r1]; exact ⟨rfl, rfl, rfl⟩
    · rw [if_neg r1, if_neg r1]; rfl
  rw [if_neg w36, if_neg w36]
  rfl
theorem rTk_sim {s t : rS} {c : Int32} {m : Bool} (h : rEq s t) : rBSim (rTk T z c m s) (rTk T z c m t) := by
  obtain ⟨h1, h2, h3⟩ := h
  unfold rTk
  rw [← h1]
  by_cases q : rlk T z s.1 = c
  · rw [if_pos q, if_pos q]
    cases m
    · exact ⟨rfl, h2, h3⟩
    · exact ⟨rfl, h2, h3⟩
  · rw [if_neg q, if_neg q]
    rfl
theorem rBehO_sim {s t : rS} {K k i : Nat} (h : rEq s t) : rBSim (rBehO T z K k i s) (rBehO T z K k i t) := by
  have h' := h
  obtain ⟨h1, h2, h3⟩ := h
  unfold rBehO
  rw [← h1]
  by_cases q2 : K = 2
  · rw [if_pos q2, if_pos q2]
    by_cases k0 : k = 0
    · rw [if_pos k0, if_pos k0]
      by_cases ho : rIsOp (rlk T z s.1) = true
      · rw [if_pos ho, if_pos ho]
        refine ⟨by show s.1 + 1 = t.1 + 1; rw [h1], h2, ?_⟩
        show va_up s.2.2.2 i _ = va_up t.2.2.2 i _
        rw [h3]
      · rw [if_neg ho, if_neg ho]; rfl
    · rw [if_neg k0, if_neg k0]; exact rTk_sim h'
  rw [if_neg q2, if_neg q2]
  by_cases q3 : K = 3
  · rw [if_pos q3, if_pos q3]
    by_cases k0 : k = 0
    · rw [if_pos k0, if_pos k0]; exact rTk_sim h'
    · rw [if_neg k0, if_neg k0]
      by_cases k1 : k = 1
      · rw [if_pos k1, if_pos k1]; exact rTk_sim h'
      · rw [if_neg k1, if_neg k1]; exact rTk_sim h'
  rw [if_neg q3, if_neg q3]
  by_cases q4 : K = 4
  · rw [if_pos q4, if_pos q4]
    by_cases k0 : k = 0
    · rw [if_pos k0, if_pos k0]; exact rTk_sim h'
    · rw [if_neg k0, if_neg k0]; exact h'
  rw [if_neg q4, if_neg q4]
  by_cases q6 : K = 6
  · rw [if_pos q6, if_pos q6]
    by_cases k0 : k = 0
    · rw [if_pos k0, if_pos k0]; exact rTk_sim h'
    · rw [if_neg k0, if_neg k0]; exact h'
  rw [if_neg q6, if_neg q6]
  by_cases q7 : K = 7
  · rw [if_pos q7, if_pos q7]
    by_cases k0 : k = 0 ∧ rlk T z s.1 = 44
    · rw [if_pos k0, if_pos k0]; exact ⟨rfl, h2, h3⟩
    · rw [if_neg k0, if_neg k0]; exact rTk_sim h'
  rw [if_neg q7, if_neg q7]
  by_cases q8 : K = 8
  · rw [if_pos q8, if_pos q8]
    by_cases k0 : k = 0
    · rw [if_pos k0, if_pos k0]; exact rTk_sim h'
    · rw [if_neg k0, if_neg k0]
      by_cases k1 : k = 1 ∧ rlk T z s.1 = 44
      · rw [if_pos k1, if_pos k1]; exact ⟨rfl, h2, h3⟩
      · rw [if_neg k1, if_neg k1]; exact rTk_sim h'
  rw [if_neg q8, if_neg q8]
  by_cases q13 : K = 13
  · rw [if_pos q13, if_pos q13]
    by_cases k0 : k < 3 ∧ rlk T z s.1 = 44
    · rw [if_pos k0, if_pos k0]; exact ⟨rfl, h2, h3⟩
    · rw [if_neg k0, if_neg k0]; exact rTk_sim h'
  rw [if_neg q13, if_neg q13]
  exact h'
theorem rParts_sim {d K i : Nat} {vw : Option (Int32 × Nat)} (hR : ∀ s t, rEq s t → rSim (rdE T z d s) (rdE T z d t)) : ∀ (m k : Nat) (s t : rS), rEq s t → rSim (rParts T z (rdE T z d) K i vw m k s) (rParts T z (rdE T z d) K i vw m k t)
  | 0, k, s, t, h => h.1
  | m + 1, k, s, t, h => by
    have r := hR s t h
    cases hs : rdE T z d s with
    | inl q =>
      cases ht : rdE T z d t with
      | inl q' =>
        rw [hs, ht] at r
        rw [rParts_ill hs, rParts_ill ht]
        exact r
      | inr t2 => rw [hs, ht] at r; exact False.elim r
    | inr s2 =>
      cases ht : rdE T z d t with
      | inl q' => rw [hs, ht] at r; exact False.elim r
      | inr t2 =>
        rw [hs, ht] at r
        rw [rParts_ok hs, rParts_ok ht, rBeh_O, rBeh_O]
        obtain ⟨r1, r2, r3⟩ := r
        have ra : rEq (rAdd i s.2.1 s2) (rAdd i t.2.1 t2) := by
          refine ⟨r1, r2, ?_⟩
          show va_up s2.2.2.2 i _ = va_up t2.2.2.2 i _
          rw [r3, h.2.1]
        have b := rBehO_sim (T := T) (z := z) (K := K) (k := k) (i := i) ra
        cases hb : rBehO T z K k i (rAdd i s.2.1 s2) with
        | inl q => cases hc : rBehO T z K k i (rAdd i t.2.1 t2) with
          | inl q' => rw [hb, hc] at b; exact b
          | inr y => rw [hb, hc] at b; cases y <;> exact False.elim b
        | inr x => cases hc : rBehO T z K k i (rAdd i t.2.1 t2) with
          | inl q' => rw [hb, hc] at b; cases x <;> exact False.elim b
          | inr y =>
            rw [hb, hc] at b
            cases x with
            | inl x => cases y with
              | inl y => exact rParts_sim hR m (k + 1) x y b
              | inr y => exact False.elim b
            | inr x => cases y with
              | inl y => exact False.elim b
              | inr y =>
                obtain ⟨b1, b2, b3⟩ := b
                show rEq (rClose i vw x) (rClose i vw y)
                refine ⟨b1, b2, ?_⟩
                unfold rClose
                cases vw with
                | none => exact b3
                | some v => show va_up x.2.2.2 i _ = va_up y.2.2.2 i _; rw [b3]
theorem rdE_sim : ∀ (d : Nat) (s t : rS), rEq s t → rSim (rdE T z d s) (rdE T z d t)
  | 0, s, t, h => h.1
  | d + 1, s, t, h => by
    rw [rdE_head, rdE_head]
    have r := rHead_sim (T := T) (z := z) h
    cases hs : rHead T z s with
    | inl q => cases ht : rHead T z t with
      | inl q' => rw [hs, ht] at r; exact r
      | inr y => rw [hs, ht] at r; cases y <;> exact False.elim r
    | inr x => cases ht : rHead T z t with
      | inl q' => rw [hs, ht] at r; cases x <;> exact False.elim r
      | inr y =>
        rw [hs, ht] at r
        cases x with
        | inl x => cases y with
          | inl y => exact r
          | inr y => exact False.elim r
        | inr x => cases y with
          | inl y => exact False.elim r
          | inr y =>
            obtain ⟨K, vw, x⟩ := x
            obtain ⟨K', vw', y⟩ := y
            obtain ⟨rfl, rfl, r⟩ := r
            show rSim (rParts T z (rdE T z d) K s.2.1 vw 4 0 x) (rParts T z (rdE T z d) K t.2.1 vw 4 0 y)
            rw [h.2.1]
            exact rParts_sim (rdE_sim d) 4 0 x y r
end RSM
