/-! what ties the class's state to the reference's; FR: what ties their functions -/
abbrev rFR : Type := Nat → zS → xF → mA → Prop
def rTx (xs : mS) (xa : mA) (S : mS) (A : mA) (u z : Nat) : Prop := xs 0 = nI u ∧ xs 1 = nI z ∧ S 1 = nI u ∧ S 2 = nI z ∧ z ≤ u ∧ u ≤ 150 ∧ (∀ i, i < z → xa 1 i = A 86 i ∧ ¬ A 86 i < 33 ∧ ¬ 126 < A 86 i) ∧ (∀ i, i < 150 → narrow .char (.int (A 86 i)) = .int (A 86 i)) ∧ ∀ i, i < 150 → narrow .char (.int (xa 1 i)) = .int (xa 1 i)
def rRs (xs : mS) (xr : Int64) (xa : mA) (xl : mL) (S : mS) (L : mL) (rn : Int64) : Prop := xs 3 = S 46 ∧ (S 46 = -1 ∨ (S 46 = 0 ∧ xr = rn) ∨ ((S 46 = 1 ∨ S 46 = 2) ∧ ∃ a r c, xRes xs xr xa a r c ∧ S 48 = nI r ∧ S 49 = nI c ∧ (S 46 = 1 → c = 1) ∧ ∀ k, k < r * c → xl (10 + a) k = L 112 k))
def rCn (xs S : mS) : Prop := xs 5 = S 39 ∧ xs 8 = S 40 ∧ xs 9 = S 42 ∧ xs 6 = S 43
def rAr (xl L : mL) : Prop := ∀ k, k < 4 → xl 4 k = L 111 k
def rFn (FR : rFR) (n : Nat) (σ : zS) (xs : mS) (xf : xF) (A : mA) : Prop := xs 2 = nI (mcnt (A 92) 8) ∧ (∀ f, f < 8 → (xf f = none ↔ A 92 f = 0)) ∧ FR n σ xf A
def Rel (FR : rFR) (n : Nat) (σ : zS) (xs : mS) (xr : Int64) (xa : mA) (xl : mL) (xf : xF) (S : mS) (A : mA) (L : mL) (rn : Int64) : Prop :=
  (∃ u z, rTx xs xa S A u z) ∧ xs 4 = S 6 ∧ rFn FR n σ xs xf A ∧ rAr xl L ∧ rRs xs xr xa xl S L rn ∧ rCn xs S
/-- FR looks only at what is kept of the functions: not at the text, at 'out', at the function under way, nor at what has come since -/
def mKept (a k : Nat) : Prop := (92 ≤ a ∧ a ≤ 94 ∧ k < 8) ∨ (95 ≤ a ∧ a ≤ 97 ∧ k < 32) ∨ (87 ≤ a ∧ a ≤ 91 ∧ k < 1200)
def rFRok (FR : rFR) : Prop := (∀ n σ xf A A', (∀ a k, mKept a k → A' a k = A a k) → FR n σ xf A → FR n σ xf A') ∧ (∀ n σ A, FR n σ (fun _ => none) A) ∧ (∀ n σ xf A, (∀ f, f < 8 → xf f = none) → FR n σ xf A) ∧ ∀ n σ n' σ' xf A, n ≤ n' → (∀ i, 114 ≤ i → i < n → σ' i = σ i) → FR n σ xf A → FR n' σ' xf A
section RL
variable {FR : rFR} {n : Nat} {σ : zS} {xs : mS} {xr : Int64} {xa : mA} {xl : mL} {xf : xF} {S : mS} {A : mA} {L : mL} {rn : Int64}
theorem Rel.code (x : Int32) (h : Rel FR n σ xs xr xa xl xf S A L rn) : Rel FR n σ xs xr xa xl xf (upd S 0 x) A L rn := h
theorem Rel.space {u z : Nat} (h : Rel FR n σ xs xr xa xl xf S A L rn) (ht : rTx xs xa S A u z) (hu : u < 150) : Rel FR n σ (upd xs 0 (nI (u + 1))) xr xa xl xf (upd S 1 (nI (u + 1))) A L rn := by
  obtain ⟨-, h2, h3, h4, h5, h6⟩ := h
  obtain ⟨t1, t2, t3, t4, t5, t6, t7⟩ := ht
  exact ⟨⟨u + 1, z, rfl, t2, rfl, t4, by omega, by omega, t7⟩, h2, h3, h4, h5, h6⟩
theorem Rel.char {u z : Nat} {c : Int32} (hF : rFRok FR) (h : Rel FR n σ xs xr xa xl xf S A L rn) (ht : rTx xs xa S A u z) (hu : u < 150) (h0 : ¬ c < 32) (h1 : ¬ 126 < c) (h2 : c ≠ 32) :
    Rel FR n σ (upd (upd xs 0 (nI (u + 1))) 1 (nI (z + 1))) xr (va_up xa 1 (upd (xa 1) z c)) xl xf (upd (upd S 1 (nI (u + 1))) 2 (nI (z + 1))) (va_up A 86 (upd (A 86) z c)) L rn := by
  obtain ⟨-, h2', h3, h4, h5, h6⟩ := h
  obtain ⟨t1, t2, t3, t4, t5, t6, t7, t8, t9⟩ := ht
  have hc33 : ¬ c < 33 := fun q => by
    have q1 := Int32.lt_iff_toInt_lt.mp q
    have q2 : ¬ c.toInt < 32 := fun w => h0 (Int32.lt_iff_toInt_lt.mpr w)
    have q3 : c.toInt ≠ 32 := fun w => h2 (Int32.toInt_inj.mp w)
    have q4 : (33 : Int32).toInt = 33 := rfl
    omega
  refine ⟨⟨u + 1, z + 1, rfl, rfl, rfl, rfl, by omega, by omega, fun i hi => ?_, fun i hi => ?_, fun i hi => ?_⟩, h2', ⟨h3.1, h3.2.1, hF.1 _ _ _ _ _ (fun a k hk => by unfold mKept at hk; rw [va_up_ne _ _ (by omega)]) h3.2.2⟩, h4, h5, h6⟩
  · rw [va_up_self, va_up_self]
    by_cases e : i = z
    · subst e
      rw [show upd (xa 1) i c i = c from if_pos rfl, show upd (A 86) i c i = c from if_pos rfl]
      exact ⟨rfl, hc33, h1⟩
    · simp only [upd, if_neg e]
      exact t7 i (by omega)
  · rw [va_up_self]
    by_cases e : i = z
    · subst e
      simp only [upd, if_true]
      exact (z_char h0 h1).1
    · simp only [upd, if_neg e]
      exact t8 i hi
  · rw [va_up_self]
    by_cases e : i = z
    · subst e
      simp only [upd, if_true]
      exact (z_char h0 h1).1
    · simp only [upd, if_neg e]
      exact t9 i hi
theorem mcnt_0 {f : Nat → Int32} : ∀ k, (∀ j, j < k → f j = 0) → mcnt f k = 0
  | 0, _ => rfl
  | k + 1, h => by
    unfold mcnt
    rw [mcnt_0 k (fun j hj => h j (by omega)), if_pos (h k (by omega))]
theorem Rel.clear (hF : rFRok FR) (h : Rel FR n σ xs xr xa xl xf S A L rn) : Rel FR n σ (upd xs 2 0) xr xa xl (xclr xf 8) S (va_up A 92 (mclr (A 92) 8)) L rn := by
  obtain ⟨⟨u, z, t⟩, h2, h3, h4, h5, h6⟩ := h
  refine ⟨⟨u, z, t⟩, h2, ⟨?_, fun f hf => ?_, hF.2.2.1 _ _ _ _ (fun f hf => by simp [xclr, hf])⟩, h4, h5, h6⟩
  · rw [va_up_self, mcnt_0 8 (fun j hj => by simp [mclr, hj])]
    rfl
  · rw [va_up_self]
    simp [xclr, mclr, hf]
theorem Rel.arg {k : Nat} {v : Int64} (h : Rel FR n σ xs xr xa xl xf S A L rn) (hk : k < 4) : Rel FR n σ xs xr xa (va_up xl 4 (vp_updL (xl 4) k v)) xf S A (va_up L 111 (vp_updL (L 111) k v)) rn := by
  obtain ⟨h1, h2, h3, h4, h5, h6⟩ := h
  refine ⟨h1, h2, h3, fun j hj => ?_, ?_, h6⟩
  · rw [va_up_self, va_up_self]
    unfold vp_updL
    by_cases e : j = k
    · rw [if_pos e, if_pos e]
    · rw [if_neg e, if_neg e]
      exact h4 j hj
  · obtain ⟨g1, g2⟩ := h5
    refine ⟨g1, ?_⟩
    rcases g2 with g2 | g2 | ⟨g2, a, r, c, g3, g4, g5, g6, g7⟩
    · exact Or.inl g2
    · exact Or.inr (Or.inl g2)
    · refine Or.inr (Or.inr ⟨g2, a, r, c, g3, g4, g5, g6, fun j hj => ?_⟩)
      rw [va_up_ne _ _ (by omega), va_up_ne _ _ (by decide)]
      exact g7 j hj
end RL
