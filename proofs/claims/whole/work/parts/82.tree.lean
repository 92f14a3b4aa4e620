/-! trees: what ties the reference's nodes (arrays A, from 1200 on) to the class's expressions E -/
def tC (R : Nat → Nat → Prop) (pt : Nat → Option Nat) : Nat → Nat → Nat → Nat → Prop
  | 0, _, p, b => p = b
  | m + 1, c, p, b => pt c = some p ∧ ∃ p', R p p' ∧ tC R pt m (c + 1) p' b
/-- a node's own data: x is the reference's argument -/
def tArg (x : Int32) (e : eN) : Prop := (∃ v, v < 20 ∧ eVr e = nI v) ∧ (∃ f, f < 8 ∧ eNm e = nI f) ∧ (e.1 = 0 → ∃ v, v < 10000 ∧ x = nI v ∧ e.2.2.2.2.1 = lN v) ∧ (e.1 = 2 → x = e.2.2.2.2.2.1) ∧ (e.1 = 13 → x = eNm e) ∧ (e.1 ≠ 0 → e.1 ≠ 2 → e.1 ≠ 3 → e.1 ≠ 5 → e.1 ≠ 6 → e.1 ≠ 13 → x = eVr e) ∧ (e.1 = 1 ∨ e.1 = 7 ∨ e.1 = 8 → eVp e = e.2.1) ∧ (e.1 = 4 ∨ 9 ≤ e.1 → e.1 ≠ 13 → eVp e = e.2.1 + 1)
def tN (A : mA) (E : Nat → eN) (j : Nat) : Prop := (E j).1 < 14 ∧ A 87 (1200 + j) = nI (E j).1 ∧ A 90 (1200 + j) = nI (E j).2.2.2.1 ∧ A 89 (1200 + j) = (E j).2.1 ∧ (∃ w, w < 150 ∧ (E j).2.1 = nI w) ∧ tArg (A 88 (1200 + j)) (E j) ∧ eCnt (E j).1 (E j).2.2.2.1 ∧ (E j).2.2.2.1 ≤ 4
/-- node j's tree, d levels deep at most, takes the numbers from j up to b -/
def tT (A : mA) (E : Nat → eN) : Nat → Nat → Nat → Prop
  | 0, _, _ => False
  | d + 1, j, b => tN A E j ∧ A 91 (1200 + j) = nI (1200 + b) ∧ tC (tT A E d) (E j).2.2.1 (E j).2.2.2.1 0 (j + 1) b
section TRE
variable {A A' : mA} {E E' : Nat → eN} {R R' : Nat → Nat → Prop} {pt pt' : Nat → Option Nat}
theorem tC_snoc : ∀ {m c p b b' : Nat}, tC R pt m c p b → pt (c + m) = some b → R b b' → tC R pt (m + 1) c p b'
  | 0, c, p, b, b', h, g, r => by
    have e : p = b := h
    subst e
    exact ⟨g, b', r, rfl⟩
  | m + 1, c, p, b, b', h, g, r => by
    obtain ⟨h1, p', h2, h3⟩ := h
    exact ⟨h1, p', h2, tC_snoc h3 (by rw [← g]; congr 1; omega) r⟩
theorem tC_le (h3 : ∀ x y, R x y → x < y) : ∀ {m c p b : Nat}, tC R pt m c p b → p ≤ b
  | 0, c, p, b, h => Nat.le_of_eq h
  | m + 1, c, p, b, h => by
    obtain ⟨g1, p', g2, g3⟩ := h
    have hl := h3 _ _ g2
    have := tC_le h3 g3
    omega
theorem tC_mono (h3 : ∀ x y, R x y → x < y) : ∀ {m c p b : Nat}, (∀ j, c ≤ j → j < c + m → pt' j = pt j) → (∀ x y, p ≤ x → y ≤ b → R x y → R' x y) → tC R pt m c p b → tC R' pt' m c p b
  | 0, c, p, b, _, _, h => h
  | m + 1, c, p, b, h1, h2, h => by
    obtain ⟨g1, p', g2, g3⟩ := h
    have hl := h3 _ _ g2
    have hb := tC_le h3 g3
    exact ⟨(h1 c (Nat.le_refl _) (by omega)).trans g1, p', h2 _ _ (Nat.le_refl _) hb g2, tC_mono h3 (fun j a b => h1 j (by omega) (by omega)) (fun x y a b r => h2 x y (by omega) b r) g3⟩
theorem tT_lt : ∀ {d j b : Nat}, tT A E d j b → j < b
  | 0, _, _, h => False.elim h
  | d + 1, j, b, h => tC_le (fun x y r => tT_lt r) h.2.2
theorem tT_same : ∀ {d j b : Nat}, (∀ k, j ≤ k → k < b → E' k = E k ∧ ∀ a, 87 ≤ a → a ≤ 91 → A' a (1200 + k) = A a (1200 + k)) → tT A E d j b → tT A' E' d j b
  | 0, _, _, _, h => h
  | d + 1, j, b, hs, h => by
    have hl := tT_lt h
    obtain ⟨h1, h2, h3⟩ := h
    obtain ⟨e1, e2⟩ := hs j (Nat.le_refl _) hl
    refine ⟨?_, (e2 91 (by omega) (by omega)).trans h2, ?_⟩
    · unfold tN at h1 ⊢
      rw [e1, e2 87 (by omega) (by omega), e2 88 (by omega) (by omega), e2 89 (by omega) (by omega), e2 90 (by omega) (by omega)]
      exact h1
    · rw [e1]
      refine tC_mono (fun x y r => tT_lt r) (fun _ _ _ => rfl) (fun x y hx hy r => ?_) h3
      exact tT_same (fun k a b => hs k (by omega) (by omega)) r
/-- the kinds' counts of parts so far -/
def kOK (K k : Nat) : Prop := (K = 2 ∨ K = 3 ∨ K = 4 ∨ K = 5 ∨ K = 6 ∨ K = 7 ∨ K = 8 ∨ K = 12 ∨ K = 13) ∧ (K = 2 → k ≤ 1) ∧ (K = 3 → k ≤ 2) ∧ (K = 4 → k ≤ 1) ∧ (K = 5 → k = 0) ∧ (K = 6 → k ≤ 1) ∧ (K = 7 → k ≤ 1) ∧ (K = 8 → k ≤ 2) ∧ (K = 12 → k = 0) ∧ (K = 13 → k ≤ 3)
def tV (K : Nat) (vw : Option (Int32 × Nat)) (w k : Nat) (x : Int32) (e : eN) : Prop := (∃ v, v < 20 ∧ eVr e = nI v) ∧ (∃ f, f < 8 ∧ eNm e = nI f) ∧ (K = 2 → 0 < k → x = e.2.2.2.2.2.1) ∧ (K = 13 → x = eNm e) ∧ (K = 4 ∨ K = 12 → x = eVr e ∧ eVp e = nI (w + 1)) ∧ (K = 7 ∨ K = 8 → (∃ v, v < 20 ∧ x = nI v) ∧ vw = some (x, w)) ∧ (K ≠ 7 → K ≠ 8 → vw = none)
/-- node i is open: c parts stand, up to sN -/
def tO (A : mA) (E : Nat → eN) (d K : Nat) (vw : Option (Int32 × Nat)) (w i k c sN : Nat) : Prop := w < 150 ∧ A 87 (1200 + i) = nI K ∧ A 90 (1200 + i) = nI c ∧ A 89 (1200 + i) = nI w ∧ (E i).1 = K ∧ (E i).2.1 = nI w ∧ (E i).2.2.2.1 = c ∧ tC (tT A E d) (E i).2.2.1 c 0 (i + 1) sN ∧ tV K vw w k (A 88 (1200 + i)) (E i)
end TRE
section TR2
variable {T : Nat → Int32} {z : Nat}
theorem rTk_more {c : Int32} {m : Bool} {s s' : rS} (h : rTk T z c m s = .inr (.inl s')) : m = true ∧ s' = (s.1 + 1, s.2) ∧ s.1 < z ∨ c = 0 := by
  unfold rTk at h
  by_cases q : rlk T z s.1 = c
  · rw [if_pos q] at h
    cases m
    · cases h
    · cases h
      by_cases hc : c = 0
      · exact Or.inr hc
      · exact Or.inl ⟨rfl, rfl, rlk_lt q hc⟩
  · rw [if_neg q] at h
    cases h
theorem rTk_done {c : Int32} {m : Bool} {s s' : rS} (h : rTk T z c m s = .inr (.inr s')) : m = false ∧ s' = (s.1 + 1, s.2) := by
  unfold rTk at h
  by_cases q : rlk T z s.1 = c
  · rw [if_pos q] at h
    cases m
    · cases h
      exact ⟨rfl, rfl⟩
    · cases h
  · rw [if_neg q] at h
    cases h
theorem rBehO_more {K k i : Nat} {s s' : rS} (hk : kOK K k) (h : rBehO T z K k i s = .inr (.inl s')) : kOK K (k + 1) ∧ ((K ≠ 2 ∧ s' = (s.1 + 1, s.2)) ∨ (K = 2 ∧ k = 0 ∧ s' = rOp i (rlk T z s.1) s)) := by
  obtain ⟨hK, k2, k3, k4, k5, k6, k7, k8, k12, k13⟩ := hk
  have fin : ∀ {c : Int32} {m : Bool}, c ≠ 0 → rTk T z c m s = .inr (.inl s') → m = true ∧ s' = (s.1 + 1, s.2) := fun hc h => by
    rcases rTk_more h with ⟨a, b, -⟩ | a
    · exact ⟨a, b⟩
    · exact absurd a hc
  unfold rBehO at h
  by_cases h2 : K = 2
  · rw [if_pos h2] at h
    by_cases q : k = 0
    · rw [if_pos q] at h
      by_cases ho : rIsOp (rlk T z s.1) = true
      · rw [if_pos ho] at h
        cases h
        refine ⟨?_, Or.inr ⟨h2, q, rfl⟩⟩
        unfold kOK
        omega
      · rw [if_neg ho] at h
        cases h
    · rw [if_neg q] at h
      cases (fin (by decide) h).1
  rw [if_neg h2] at h
  by_cases h3 : K = 3
  · rw [if_pos h3] at h
    by_cases q : k = 0
    · rw [if_pos q] at h
      exact ⟨by unfold kOK; omega, Or.inl ⟨h2, (fin (by decide) h).2⟩⟩
    · rw [if_neg q] at h
      by_cases q1 : k = 1
      · rw [if_pos q1] at h
        exact ⟨by unfold kOK; omega, Or.inl ⟨h2, (fin (by decide) h).2⟩⟩
      · rw [if_neg q1] at h
        cases (fin (by decide) h).1
  rw [if_neg h3] at h
  by_cases h4 : K = 4
  · rw [if_pos h4] at h
    by_cases q : k = 0
    · rw [if_pos q] at h
      exact ⟨by unfold kOK; omega, Or.inl ⟨h2, (fin (by decide) h).2⟩⟩
    · rw [if_neg q] at h
      cases h
  rw [if_neg h4] at h
  by_cases h6 : K = 6
  · rw [if_pos h6] at h
    by_cases q : k = 0
    · rw [if_pos q] at h
      exact ⟨by unfold kOK; omega, Or.inl ⟨h2, (fin (by decide) h).2⟩⟩
    · rw [if_neg q] at h
      cases h
  rw [if_neg h6] at h
  by_cases h7 : K = 7
  · rw [if_pos h7] at h
    by_cases q : k = 0 ∧ rlk T z s.1 = 44
    · rw [if_pos q] at h
      cases h
      exact ⟨by unfold kOK; omega, Or.inl ⟨h2, rfl⟩⟩
    · rw [if_neg q] at h
      cases (fin (by decide) h).1
  rw [if_neg h7] at h
  by_cases h8 : K = 8
  · rw [if_pos h8] at h
    by_cases q : k = 0
    · rw [if_pos q] at h
      exact ⟨by unfold kOK; omega, Or.inl ⟨h2, (fin (by decide) h).2⟩⟩
    · rw [if_neg q] at h
      by_cases q1 : k = 1 ∧ rlk T z s.1 = 44
      · rw [if_pos q1] at h
        cases h
        exact ⟨by unfold kOK; omega, Or.inl ⟨h2, rfl⟩⟩
      · rw [if_neg q1] at h
        cases (fin (by decide) h).1
  rw [if_neg h8] at h
  by_cases h13 : K = 13
  · rw [if_pos h13] at h
    by_cases q : k < 3 ∧ rlk T z s.1 = 44
    · rw [if_pos q] at h
      cases h
      exact ⟨by unfold kOK; omega, Or.inl ⟨h2, rfl⟩⟩
    · rw [if_neg q] at h
      cases (fin (by decide) h).1
  rw [if_neg h13] at h
  cases h
theorem rBehO_done {K k i : Nat} {s s' : rS} (hk : kOK K k) (h : rBehO T z K k i s = .inr (.inr s')) : eCnt K (k + 1) ∧ k + 1 ≤ 4 ∧ s'.2 = s.2 ∧ (K = 2 → k = 1) := by
  obtain ⟨hK, k2, k3, k4, k5, k6, k7, k8, k12, k13⟩ := hk
  have fin : ∀ {c : Int32} {m : Bool}, rTk T z c m s = .inr (.inr s') → m = false ∧ s'.2 = s.2 := fun h => by
    obtain ⟨a, b⟩ := rTk_done h
    exact ⟨a, by rw [b]⟩
  unfold rBehO at h
  by_cases h2 : K = 2
  · rw [if_pos h2] at h
    by_cases q : k = 0
    · rw [if_pos q] at h
      by_cases ho : rIsOp (rlk T z s.1) = true
      · rw [if_pos ho] at h
        cases h
      · rw [if_neg ho] at h
        cases h
    · rw [if_neg q] at h
      exact ⟨by unfold eCnt; omega, by omega, (fin h).2, by omega⟩
  rw [if_neg h2] at h
  by_cases h3 : K = 3
  · rw [if_pos h3] at h
    by_cases q : k = 0
    · rw [if_pos q] at h
      cases (fin h).1
    · rw [if_neg q] at h
      by_cases q1 : k = 1
      · rw [if_pos q1] at h
        cases (fin h).1
      · rw [if_neg q1] at h
        exact ⟨by unfold eCnt; omega, by omega, (fin h).2, by omega⟩
  rw [if_neg h3] at h
  by_cases h4 : K = 4
  · rw [if_pos h4] at h
    by_cases q : k = 0
    · rw [if_pos q] at h
      cases (fin h).1
    · rw [if_neg q] at h
      cases h
      exact ⟨by unfold eCnt; omega, by omega, rfl, by omega⟩
  rw [if_neg h4] at h
  by_cases h6 : K = 6
  · rw [if_pos h6] at h
    by_cases q : k = 0
    · rw [if_pos q] at h
      cases (fin h).1
    · rw [if_neg q] at h
      cases h
      exact ⟨by unfold eCnt; omega, by omega, rfl, by omega⟩
  rw [if_neg h6] at h
  by_cases h7 : K = 7
  · rw [if_pos h7] at h
    by_cases q : k = 0 ∧ rlk T z s.1 = 44
    · rw [if_pos q] at h
      cases h
    · rw [if_neg q] at h
      exact ⟨by unfold eCnt; omega, by omega, (fin h).2, by omega⟩
  rw [if_neg h7] at h
  by_cases h8 : K = 8
  · rw [if_pos h8] at h
    by_cases q : k = 0
    · rw [if_pos q] at h
      cases (fin h).1
    · rw [if_neg q] at h
      by_cases q1 : k = 1 ∧ rlk T z s.1 = 44
      · rw [if_pos q1] at h
        cases h
      · rw [if_neg q1] at h
        exact ⟨by unfold eCnt; omega, by omega, (fin h).2, by omega⟩
  rw [if_neg h8] at h
  by_cases h13 : K = 13
  · rw [if_pos h13] at h
    by_cases q : k < 3 ∧ rlk T z s.1 = 44
    · rw [if_pos q] at h
      cases h
    · rw [if_neg q] at h
      exact ⟨by unfold eCnt; omega, by omega, (fin h).2, by omega⟩
  rw [if_neg h13] at h
  cases h
  exact ⟨by unfold eCnt; omega, by omega, rfl, by omega⟩
end TR2
