/-! what ties the functions of the two sides -/
def fSig (xf : xF) (A : mA) (clf : Nat → Option cF) : Prop := ∀ g a c Y rt, g < 8 → clf g = some (a, c, Y, rt) → xf g = some a ∧ A 93 g = nI c ∧ A 94 g = rt ∧ c ≤ 4 ∧ ∀ k, k < c → A 96 (4 * g + k) = Y k
def fRec (n : Nat) (σ : zS) (xf : xF) (A : mA) (f a cn : Nat) (V Y : mS) (rt : Int32) (N : Nat) (E : Nat → eN) (clf : Nat → Option cF) : Prop :=
  114 ≤ a ∧ a + 4 + 2 * N ≤ n ∧ N ≤ 150 ∧ cn ≤ 4 ∧ gCells a f cn V Y rt N E σ ∧ A 93 f = nI cn ∧ A 94 f = rt ∧ (∀ k, k < cn → A 95 (4 * f + k) = V k ∧ A 96 (4 * f + k) = Y k) ∧ (∀ k, k < cn → (∃ v, v < 20 ∧ V k = nI v) ∧ rg3 (Y k)) ∧ rg3 rt ∧ uT A E (150 * f) 8 0 N ∧
  (∃ P E0 t s, rPk cn V P Y ∧ chk clf none cn V P Y rt E0 = .inr (t, s) ∧ s.2.2 = E ∧ ∃ A0, tT A0 E0 8 0 N) ∧ clR clf ∧ fSig xf A clf
def FRw : rFR := fun n σ xf A => ∀ f, f < 8 → ∀ a, xf f = some a → ∃ cn V Y rt N E clf, fRec n σ xf A f a cn V Y rt N E clf
section FRW
variable {n f a cn N : Nat} {σ σ' : zS} {xf : xF} {A A' : mA} {V Y : mS} {rt : Int32} {E : Nat → eN} {clf : Nat → Option cF}
theorem fSig.kept (h : fSig xf A clf) (hk : ∀ a k, mKept a k → A' a k = A a k) : fSig xf A' clf := fun g a c Y rt hg hc => by
  obtain ⟨h1, h2, h3, h4, h5⟩ := h g a c Y rt hg hc
  refine ⟨h1, ?_, ?_, h4, fun k hk' => ?_⟩
  · rw [hk 93 g (Or.inl ⟨by omega, by omega, hg⟩)]; exact h2
  · rw [hk 94 g (Or.inl ⟨by omega, by omega, hg⟩)]; exact h3
  · rw [hk 96 _ (Or.inr (Or.inl ⟨by omega, by omega, by omega⟩))]; exact h5 k hk'
theorem fRec.kept (hf : f < 8) (h : fRec n σ xf A f a cn V Y rt N E clf) (hk : ∀ a k, mKept a k → A' a k = A a k) : fRec n σ xf A' f a cn V Y rt N E clf := by
  obtain ⟨h1, h2, h3, h4, h5, h6, h7, h8, h9, h10, h11, h12, h13, h14⟩ := h
  refine ⟨h1, h2, h3, h4, h5, ?_, ?_, fun k hk' => ⟨?_, ?_⟩, h9, h10, uT_same (fun k _ hb a ha ha2 => hk a _ (Or.inr (Or.inr ⟨ha, ha2, by omega⟩))) h11, h12, h13, h14.kept hk⟩
  · rw [hk 93 f (Or.inl ⟨by omega, by omega, hf⟩)]; exact h6
  · rw [hk 94 f (Or.inl ⟨by omega, by omega, hf⟩)]; exact h7
  · rw [hk 95 _ (Or.inr (Or.inl ⟨by omega, by omega, by omega⟩))]; exact (h8 k hk').1
  · rw [hk 96 _ (Or.inr (Or.inl ⟨by omega, by omega, by omega⟩))]; exact (h8 k hk').2
theorem gCells.same (h : gCells a f cn V Y rt N E σ) (h0 : 114 ≤ a) (hn : a + 4 + 2 * N ≤ n) (hN : 0 < N) (hs : ∀ i, 114 ≤ i → i < n → σ' i = σ i) : gCells a f cn V Y rt N E σ' := by
  obtain ⟨h1, h2, h3, h4⟩ := h
  refine ⟨(hs a h0 (by omega)).trans h1, (hs _ (by omega) (by omega)).trans h2, (hs _ (by omega) (by omega)).trans h3, fun i hi => ⟨(hs _ (by omega) (by omega)).trans (h4 i hi).1, (hs _ (by omega) (by omega)).trans (h4 i hi).2⟩⟩
theorem fRec.same {n' : Nat} (h : fRec n σ xf A f a cn V Y rt N E clf) (hn : n ≤ n') (hs : ∀ i, 114 ≤ i → i < n → σ' i = σ i) : fRec n' σ' xf A f a cn V Y rt N E clf := by
  obtain ⟨h1, h2, h3, h4, h5, h6, h7, h8, h9, h10, h11, h12, h13, h14⟩ := h
  exact ⟨h1, by omega, h3, h4, h5.same h1 h2 (uT_lt h11) hs, h6, h7, h8, h9, h10, h11, h12, h13, h14⟩
theorem FRw_ok : rFRok FRw := by
  refine ⟨fun n σ xf A A' hk h f hf a ha => ?_, fun n σ A f _ a ha => (by cases ha), fun n σ xf A hx f hf a ha => (by rw [hx f hf] at ha; cases ha), fun n σ n' σ' xf A hn hs h f hf a ha => ?_⟩
  · obtain ⟨cn, V, Y, rt, N, E, clf, hr⟩ := h f hf a ha
    exact ⟨cn, V, Y, rt, N, E, clf, hr.kept hf hk⟩
  · obtain ⟨cn, V, Y, rt, N, E, clf, hr⟩ := h f hf a ha
    exact ⟨cn, V, Y, rt, N, E, clf, hr.same hn hs⟩
/-- the functions that there are, by their cells and arrays -/
def yOf (c : va_E) : mS := match c with
  | .inl (_, _, .inl Y) => Y
  | _ => fun _ => 0
def clA (σ : zS) (xf : xF) (A : mA) : Nat → Option cF := fun g => (xf g).map fun a => (a, (A 93 g).toNatClampNeg, yOf (σ (a + 3)), A 94 g)
theorem clA_of (h : FRw n σ xf A) {g : Nat} (hg : g < 8) (hx : xf g = some a) : ∃ cn V Y rt N E clf, clA σ xf A g = some (a, cn, Y, rt) ∧ fRec n σ xf A g a cn V Y rt N E clf := by
  obtain ⟨cn, V, Y, rt, N, E, clf, hr⟩ := h g hg a hx
  refine ⟨cn, V, Y, rt, N, E, clf, ?_, hr⟩
  obtain ⟨-, -, -, h4, ⟨-, -, h5, -⟩, h6, h7, -⟩ := hr
  unfold clA
  rw [hx, h6, h7]
  show some (a, (nI cn).toNatClampNeg, yOf (σ (a + 3)), rt) = _
  rw [h5, nI_clamp (by omega)]
  rfl
theorem clA_ok (h : FRw n σ xf A) : clOk n σ xf (clA σ xf A) := fun g hg => by
  cases hx : xf g with
  | none => exact Or.inl ⟨rfl, by unfold clA; rw [hx]; rfl⟩
  | some a =>
    obtain ⟨cn, V, Y, rt, N, E, clf, h1, hr⟩ := clA_of h hg hx
    have hN := uT_lt hr.2.2.2.2.2.2.2.2.2.2.1
    obtain ⟨g1, g2, g3, g4, ⟨g5, g6, g7, g8⟩, -⟩ := hr
    exact Or.inr ⟨a, cn, Y, rt, rfl, h1, g1, by omega, g7, g4, _, g5⟩
theorem clA_R (h : FRw n σ xf A) : clR (clA σ xf A) := fun g a c Y rt hg hc => by
  cases hx : xf g with
  | none => unfold clA at hc; rw [hx] at hc; cases hc
  | some a' =>
    obtain ⟨cn, V, Y', rt', N, E, clf, h1, hr⟩ := clA_of h hg hx
    rw [h1] at hc
    cases hc
    exact ⟨hr.2.2.2.2.2.2.2.2.2.1, fun k hk => (hr.2.2.2.2.2.2.2.2.1 k hk).2⟩
theorem clA_sig (h : FRw n σ xf A) : fSig xf A (clA σ xf A) := fun g a c Y rt hg hc => by
  cases hx : xf g with
  | none => unfold clA at hc; rw [hx] at hc; cases hc
  | some a' =>
    obtain ⟨cn, V, Y', rt', N, E, clf, h1, hr⟩ := clA_of h hg hx
    rw [h1] at hc
    cases hc
    obtain ⟨-, -, -, g4, -, g6, g7, g8, -⟩ := hr
    exact ⟨rfl, g6, g7, g4, fun k hk => (g8 k hk).2⟩
end FRW
