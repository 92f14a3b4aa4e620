/-! E: the expressions' cells: node i at B + 2 i, its parts at B + 2 i + 1 -/
def eCell (B i : Nat) (e : eN) : va_E := .inr (3, [.ref (1000001 + e.1), .int e.2.1, .ref (B + 2 * i + 1), .int (nI e.2.2.2.1), .long e.2.2.2.2.1, .int e.2.2.2.2.2.1, .int e.2.2.2.2.2.2.1, .int e.2.2.2.2.2.2.2.1, .int e.2.2.2.2.2.2.2.2.1, va_rf e.2.2.2.2.2.2.2.2.2])
def eParts (B : Nat) (e : eN) : va_E := .inl (5, 4, .inr (.inr (.inr (.inr (fun k => (e.2.2.1 k).map (fun j => B + 2 * j))))))
def eOv (B N : Nat) (E : Nat → eN) (σ : zS) : zS := fun q => if q < B then σ q else if B + 2 * N ≤ q then σ q else if (q - B) % 2 = 0 then eCell B ((q - B) / 2) (E ((q - B) / 2)) else eParts B (E ((q - B) / 2))
section EST
variable {B N i q : Nat} {E : Nat → eN} {σ : zS} {e : eN}
theorem eOv_lo (h : q < B) : eOv B N E σ q = σ q := if_pos h
theorem eOv_hi (h : B + 2 * N ≤ q) : eOv B N E σ q = σ q := by
  unfold eOv
  rw [if_neg (by omega), if_pos h]
theorem eOv_obj (h : i < N) : eOv B N E σ (B + 2 * i) = eCell B i (E i) := by
  unfold eOv
  have e1 : (B + 2 * i - B) / 2 = i := by omega
  rw [if_neg (by omega), if_neg (by omega), if_pos (by omega), e1]
theorem eOv_prt (h : i < N) : eOv B N E σ (B + 2 * i + 1) = eParts B (E i) := by
  unfold eOv
  have e1 : (B + 2 * i + 1 - B) / 2 = i := by omega
  rw [if_neg (by omega), if_neg (by omega), if_neg (by omega), e1]
theorem eOv_new : va_up (va_up (eOv B N E σ) (B + 2 * N) (eCell B N e)) (B + 2 * N + 1) (eParts B e) = eOv B (N + 1) (va_up E N e) σ := by
  funext q
  by_cases h1 : q = B + 2 * N + 1
  · subst h1
    rw [va_up_self, eOv_prt (Nat.lt_succ_self N), va_up_self]
  · rw [va_up_ne _ _ h1]
    by_cases h2 : q = B + 2 * N
    · subst h2
      rw [va_up_self, eOv_obj (Nat.lt_succ_self N), va_up_self]
    · rw [va_up_ne _ _ h2]
      unfold eOv
      by_cases h3 : q < B
      · rw [if_pos h3, if_pos h3]
      · rw [if_neg h3, if_neg h3]
        by_cases h4 : B + 2 * N ≤ q
        · rw [if_pos h4, if_pos (show B + 2 * (N + 1) ≤ q by omega)]
        · rw [if_neg h4, if_neg (show ¬ B + 2 * (N + 1) ≤ q by omega), va_up_ne _ _ (show ¬ (q - B) / 2 = N by omega)]
theorem eOv_upO {e' : eN} (h : i < N) (hp : e'.2.2.1 = (E i).2.2.1) : va_up (eOv B N E σ) (B + 2 * i) (eCell B i e') = eOv B N (va_up E i e') σ := by
  funext q
  by_cases h1 : q = B + 2 * i
  · subst h1
    rw [va_up_self, eOv_obj h, va_up_self]
  · rw [va_up_ne _ _ h1]
    by_cases h2 : q = B + 2 * i + 1
    · subst h2
      rw [eOv_prt h, eOv_prt h, va_up_self]
      unfold eParts
      rw [hp]
    · unfold eOv
      by_cases h3 : q < B
      · rw [if_pos h3, if_pos h3]
      · rw [if_neg h3, if_neg h3]
        by_cases h4 : B + 2 * N ≤ q
        · rw [if_pos h4, if_pos h4]
        · rw [if_neg h4, if_neg h4, va_up_ne _ _ (by omega)]
theorem eOv_upP {e' : eN} (h : i < N) (hp : eCell B i e' = eCell B i (E i)) : va_up (eOv B N E σ) (B + 2 * i + 1) (eParts B e') = eOv B N (va_up E i e') σ := by
  funext q
  by_cases h1 : q = B + 2 * i + 1
  · subst h1
    rw [va_up_self, eOv_prt h, va_up_self]
  · rw [va_up_ne _ _ h1]
    by_cases h2 : q = B + 2 * i
    · subst h2
      rw [eOv_obj h, eOv_obj h, va_up_self, hp]
    · unfold eOv
      by_cases h3 : q < B
      · rw [if_pos h3, if_pos h3]
      · rw [if_neg h3, if_neg h3]
        by_cases h4 : B + 2 * N ≤ q
        · rw [if_pos h4, if_pos h4]
        · rw [if_neg h4, if_neg h4, va_up_ne _ _ (by omega)]
theorem eOv_low {x : va_E} (h : q < B) : va_up (eOv B N E σ) q x = eOv B N E (va_up σ q x) := by
  funext j
  by_cases h1 : j = q
  · subst h1
    rw [va_up_self, eOv_lo h, va_up_self]
  · rw [va_up_ne _ _ h1]
    unfold eOv
    rw [va_up_ne _ _ h1]
end EST
