/-! the check read backwards -/
section TYI
variable {L : Nat → cS → cR} {cl : Nat → Option cF} {e : eN} {s s' : cS} {t : Int32} {E : Nat → eN} {d i : Nat}
theorem cB_inv {x : cR} {f : Int32 → cS → cR} {y : Int32 × cS} (h : cB x f = .inr y) : ∃ t s, x = .inr (t, s) ∧ f t s = .inr y := by
  cases x with
  | inl q => cases h
  | inr a => exact ⟨a.1, a.2, rfl, h⟩
theorem cPart_inv {q : Nat} {w : Int32} (h : cPart L q w s = .inr (t, s')) : L q s = .inr (w, s') := by
  obtain ⟨t1, s1, h1, h2⟩ := cB_inv h
  by_cases q : t1 = w
  · rw [if_pos q] at h2
    cases h2
    rw [h1, q]
  · rw [if_neg q] at h2
    cases h2
theorem cAll_s {W : Nat → Int32} {m j : Nat} (h : cAll L e W (m + 1) j s = .inr (t, s')) : ∃ s1, L (ePt e j) s = .inr (W j, s1) ∧ cAll L e W m (j + 1) s1 = .inr (t, s') := by
  obtain ⟨t1, s1, h1, h2⟩ := cB_inv h
  exact ⟨s1, cPart_inv h1, h2⟩
theorem cAll_0 {W : Nat → Int32} {j : Nat} (h : cAll L e W 0 j s = .inr (t, s')) : s' = s := by
  cases h
  rfl
theorem cVar_inv {lo hi : Int32} (h : cVar e lo hi s = .inr t) : s.1 (cIx (eVr e)) = t ∧ ¬ t = -1 ∧ (t = 1 ∨ t = 2 → cOwn s.2.1 (eVr e)) ∧ lo ≤ t ∧ t ≤ hi := by
  unfold cVar at h
  split at h
  · cases h
  · rename_i w
    cases h
    refine ⟨rfl, fun q => w (Or.inl q), fun q => Decidable.byContradiction fun q2 => w (Or.inr (Or.inl ⟨q, q2⟩)), Int32.not_lt.mp (fun q => w (Or.inr (Or.inr (Or.inl q)))), Int32.not_lt.mp (fun q => w (Or.inr (Or.inr (Or.inr q))))⟩
theorem cUse_inv {lo hi : Int32} (h : cUse e lo hi s = .inr (t, s')) : cVar e lo hi s = .inr t ∧ s' = cOff (eVr e) s := by
  unfold cUse at h
  cases hv : cVar e lo hi s with
  | inl q => rw [hv] at h; cases h
  | inr q => rw [hv] at h; cases h; exact ⟨rfl, rfl⟩
theorem cVr0_inv {x : Int32 ⊕ Int32} (h : cVr0 x s = .inr (t, s')) : t = 0 ∧ s' = s ∧ ∃ t', x = .inr t' := by
  cases x with
  | inl q => cases h
  | inr q => cases h; exact ⟨rfl, rfl, _, rfl⟩
theorem cVrT_inv {x : Int32 ⊕ Int32} (h : cVrT x s = .inr (t, s')) : s' = s ∧ x = .inr t := by
  cases x with
  | inl q => cases h
  | inr q => cases h; exact ⟨rfl, rfl⟩
theorem t3_of {lo : Int32} (h0 : 0 ≤ lo) (h1 : lo ≤ t) (h2 : t ≤ 2) : t = 0 ∨ t = 1 ∨ t = 2 := by
  have a1 := Int32.le_iff_toInt_le.mp h0
  have a2 := Int32.le_iff_toInt_le.mp h1
  have a3 := Int32.le_iff_toInt_le.mp h2
  have e0 : (0 : Int32).toInt = 0 := rfl
  have e2 : (2 : Int32).toInt = 2 := rfl
  rw [e0] at a1
  rw [e2] at a3
  have : t.toInt = 0 ∨ t.toInt = 1 ∨ t.toInt = 2 := by omega
  rcases this with w | w | w
  · exact Or.inl (Int32.toInt_inj.mp w)
  · exact Or.inr (Or.inl (Int32.toInt_inj.mp w))
  · exact Or.inr (Or.inr (Int32.toInt_inj.mp w))
theorem t2_of {lo : Int32} (h0 : 1 ≤ lo) (h1 : lo ≤ t) (h2 : t ≤ 2) : t = 1 ∨ t = 2 := by
  rcases t3_of (Int32.le_trans (by decide) h0) h1 h2 with w | w | w
  · subst w
    exact absurd (Int32.le_trans h0 h1) (by decide)
  · exact Or.inl w
  · exact Or.inr w
theorem ck_at (hs : eSm E s.2.2) : ck cl (d + 1) i s = ckS cl (ck cl d) i (E i) s := by
  obtain ⟨c, hc⟩ := hs i
  show ckS cl (ck cl d) i (s.2.2 i) s = _
  rw [hc]
  exact ckS_cl
theorem rg3_t (h : rg3 t) : t = 0 ∨ t = 1 ∨ t = 2 := by
  obtain ⟨y, hy, rfl⟩ := h
  have : y = 0 ∨ y = 1 ∨ y = 2 := by omega
  rcases this with rfl | rfl | rfl
  · exact Or.inl rfl
  · exact Or.inr (Or.inl rfl)
  · exact Or.inr (Or.inr rfl)
/-- what is put for a callee is right, and stays -/
def okc (cl : Nat → Option cF) (e : eN) : Prop := ∃ a c Y rt, cl (cIx (eNm e)) = some (a, c, Y, rt) ∧ e.2.2.2.2.2.2.2.2.2 = some a ∧ c = e.2.2.2.1
def eMo (cl : Nat → Option cF) (E E' : Nat → eN) : Prop := ∀ i, ∃ c, E' i = eCl (E i) c ∧ (okc cl (E i) → okc cl (E' i))
theorem eMo.refl {cl : Nat → Option cF} {E : Nat → eN} : eMo cl E E := fun i => ⟨_, (eCl_self (E i)).symm, id⟩
theorem eMo.trans {cl : Nat → Option cF} {E E' E'' : Nat → eN} (h : eMo cl E E') (g : eMo cl E' E'') : eMo cl E E'' := fun i => by
  obtain ⟨c, h1, h2⟩ := h i
  obtain ⟨c', g1, g2⟩ := g i
  exact ⟨c', by rw [g1, h1]; rfl, fun w => g2 (h2 w)⟩
theorem eMo.up {a c : Nat} {Y : mS} {rt : Int32} (h : cl (cIx (eNm (E i))) = some (a, c, Y, rt)) (hc : c = (E i).2.2.2.1) : eMo cl E (va_up E i (eCl (E i) (some a))) := fun j => by
  by_cases q : j = i
  · subst q
    exact ⟨some a, by rw [va_up_self], fun _ => by rw [va_up_self]; exact ⟨a, c, Y, rt, h, rfl, hc⟩⟩
  · exact ⟨_, by rw [va_up_ne _ _ q]; exact (eCl_self _).symm, fun w => by rw [va_up_ne _ _ q]; exact w⟩
/-- every call that can be reached from node i has its callee -/
def eOc (cl : Nat → Option cF) (E : Nat → eN) : Nat → Nat → Prop
  | 0, _ => False
  | d + 1, i => ((E i).1 = 13 → okc cl (E i)) ∧ ∀ j, j < (E i).2.2.2.1 → eOc cl E d (ePt (E i) j)
theorem eOc.mo {E' : Nat → eN} (g : eMo cl E E') : ∀ {d i : Nat}, eOc cl E d i → eOc cl E' d i
  | 0, _, h => h
  | d + 1, i, h => by
    obtain ⟨c, e1, e2⟩ := g i
    refine ⟨fun w => e2 (h.1 (by rw [e1] at w; exact w)), fun j hj => ?_⟩
    rw [e1] at hj ⊢
    exact eOc.mo g (h.2 j hj)
theorem cAll_oc {e : eN} {N : Nat} (hL : ∀ p s t s', p < N → eSm E s.2.2 → eDp E d p → L p s = .inr (t, s') → eMo cl s.2.2 s'.2.2 ∧ eOc cl s'.2.2 d p) (hsm' : ∀ p s t s', L p s = .inr (t, s') → eSm s.2.2 s'.2.2) (hp : ∀ j, j < e.2.2.2.1 → ePt e j < N ∧ eDp E d (ePt e j)) {W : Nat → Int32} : ∀ (m j : Nat) (s : cS) {t : Int32} {s' : cS}, m + j = e.2.2.2.1 → eSm E s.2.2 → cAll L e W m j s = .inr (t, s') → eMo cl s.2.2 s'.2.2 ∧ ∀ i, j ≤ i → i < e.2.2.2.1 → eOc cl s'.2.2 d (ePt e i)
  | 0, j, s, t, s', hj, hs, h => by
    rw [cAll_0 h]
    exact ⟨eMo.refl, fun i a b => absurd b (by omega)⟩
  | m + 1, j, s, t, s', hj, hs, h => by
    obtain ⟨s1, h1, h2⟩ := cAll_s h
    obtain ⟨p1, p2⟩ := hp j (by omega)
    obtain ⟨g1, g2⟩ := hL _ _ _ _ p1 hs p2 h1
    obtain ⟨k1, k2⟩ := cAll_oc hL hsm' hp m (j + 1) s1 (by omega) (hs.trans (hsm' _ _ _ _ h1)) h2
    refine ⟨g1.trans k1, fun i a b => ?_⟩
    by_cases q : i = j
    · rw [q]
      exact g2.mo k1
    · exact k2 i (by omega) b
theorem ck_oc {N : Nat} (hw : ∀ i, i < N → eWf1 N (E i)) : ∀ (d i : Nat) (s : cS) (t : Int32) (s' : cS), i < N → eSm E s.2.2 → eDp E d i → ck cl d i s = .inr (t, s') → eMo cl s.2.2 s'.2.2 ∧ eOc cl s'.2.2 d i
  | 0, _, _, _, _, _, _, h, _ => False.elim h
  | d + 1, i, s, t, s', hi, hs, hdp, h => by
    have hL : ∀ p s t s', p < N → eSm E s.2.2 → eDp E d p → ck cl d p s = .inr (t, s') → eMo cl s.2.2 s'.2.2 ∧ eOc cl s'.2.2 d p := fun p s t s' h1 h2 h3 h4 => ck_oc hw d p s t s' h1 h2 h3 h4
    have hsm' : ∀ p s t s', ck cl d p s = .inr (t, s') → eSm s.2.2 s'.2.2 := fun p s t s' h => ck_sm h
    rw [ck_at hs] at h
    obtain ⟨hk14, hc4, -, -, hpt, hct⟩ := hw i hi
    have hp : ∀ j, j < (E i).2.2.2.1 → ePt (E i) j < N ∧ eDp E d (ePt (E i) j) := fun j hj => ⟨(hpt j hj).2, hdp j hj⟩
    obtain ⟨c0, hc0⟩ := hs i
    have fin : ∀ s' : cS, eMo cl s.2.2 s'.2.2 → ((E i).1 = 13 → okc cl (s'.2.2 i)) → (∀ j, j < (E i).2.2.2.1 → eOc cl s'.2.2 d (ePt (E i) j)) → eMo cl s.2.2 s'.2.2 ∧ eOc cl s'.2.2 (d + 1) i := fun s' g1 g2 g3 => by
      obtain ⟨c1, e1, -⟩ := g1 i
      rw [hc0] at e1
      refine ⟨g1, ?_, ?_⟩
      · intro w
        refine g2 ?_
        rw [e1] at w
        exact w
      · rw [e1]
        exact g3
    have num : ∀ s' t, (E i).1 ≠ 13 → cNum (ck cl d) (E i) s = .inr (t, s') → eMo cl s.2.2 s'.2.2 ∧ eOc cl s'.2.2 (d + 1) i := fun s' t w h => by
      obtain ⟨g1, g2⟩ := cAll_oc hL hsm' hp (E i).2.2.2.1 0 s (by omega) hs h
      exact fin s' g1 (fun q => absurd q w) (fun j hj => g2 j (by omega) hj)
    have c0f : (E i).2.2.2.1 = 0 → ∀ s', ∀ j, j < (E i).2.2.2.1 → eOc cl s' d (ePt (E i) j) := fun w s' j hj => absurd hj (by omega)
    have hcase : (E i).1 = 0 ∨ (E i).1 = 1 ∨ (E i).1 = 2 ∨ (E i).1 = 3 ∨ (E i).1 = 4 ∨ (E i).1 = 5 ∨ (E i).1 = 6 ∨ (E i).1 = 7 ∨ (E i).1 = 8 ∨ (E i).1 = 9 ∨ (E i).1 = 10 ∨ (E i).1 = 11 ∨ (E i).1 = 12 ∨ (E i).1 = 13 := by omega
    rcases hcase with hk | hk | hk | hk | hk | hk | hk | hk | hk | hk | hk | hk | hk | hk
    · rw [ckS_0 hk] at h
      obtain ⟨t1, s1, h1, h2⟩ := cB_inv h
      cases h2
      exact num _ _ (by omega) h1
    · rw [ckS_1 hk] at h
      obtain ⟨-, rfl⟩ := cUse_inv h
      exact fin _ eMo.refl (fun q => absurd q (by omega)) (c0f (hct.2.1 hk) _)
    · rw [ckS_2 hk] at h
      obtain ⟨t1, s1, h1, h2⟩ := cB_inv h
      cases h2
      exact num _ _ (by omega) h1
    · rw [ckS_3 hk] at h
      have hcn := hct.2.2.2.1 hk
      unfold cCho at h
      obtain ⟨t1, s1, h1, h2⟩ := cB_inv h
      obtain ⟨t2, s2, h3, h4⟩ := cB_inv h2
      obtain ⟨t3, s3, h5, h6⟩ := cB_inv h4
      have h1 := cPart_inv h1
      have sm1 := hs.trans (ck_sm h1)
      have sm2 := sm1.trans (ck_sm h3)
      obtain ⟨a1, a2⟩ := hL _ _ _ _ (hp 0 (by omega)).1 hs (hp 0 (by omega)).2 h1
      obtain ⟨b1, b2⟩ := hL _ _ _ _ (hp 1 (by omega)).1 sm1 (hp 1 (by omega)).2 h3
      obtain ⟨d1, d2⟩ := hL _ (s2.1, s1.2.1, s2.2.2) _ _ (hp 2 (by omega)).1 sm2 (hp 2 (by omega)).2 h5
      have d1 : eMo cl s2.2.2 s3.2.2 := d1
      split at h6
      · cases h6
        refine fin _ ((a1.trans b1).trans d1) (fun q => absurd q (by omega)) (fun j hj => ?_)
        have : j = 0 ∨ j = 1 ∨ j = 2 := by omega
        rcases this with rfl | rfl | rfl
        · exact (a2.mo b1).mo d1
        · exact b2.mo d1
        · exact d2
      · cases h6
    · rw [ckS_4 hk] at h
      have hcn := hct.2.2.2.2.1 hk
      unfold cBnd at h
      split at h
      · obtain ⟨t1, s1, h1, h2⟩ := cB_inv h
        obtain ⟨t2, s2, h3, h4⟩ := cB_inv h2
        have sm1 := hs.trans (ck_sm h1)
        obtain ⟨a1, a2⟩ := hL _ _ _ _ (hp 0 (by omega)).1 hs (hp 0 (by omega)).2 h1
        obtain ⟨b1, b2⟩ := hL _ (cBind (eVr (E i)) t1 s1) _ _ (hp 1 (by omega)).1 sm1 (hp 1 (by omega)).2 h3
        have b1 : eMo cl s1.2.2 s2.2.2 := b1
        split at h4
        · cases h4
        · cases h4
          refine fin _ (a1.trans b1) (fun q => absurd q (by omega)) (fun j hj => ?_)
          have : j = 0 ∨ j = 1 := by omega
          rcases this with rfl | rfl
          · exact a2.mo b1
          · exact b2
      · cases h
    · rw [ckS_5 hk] at h
      obtain ⟨t1, s1, h1, h2⟩ := cB_inv h
      cases h2
      exact num _ _ (by omega) h1
    · rw [ckS_6 hk] at h
      obtain ⟨t1, s1, h1, h2⟩ := cB_inv h
      cases h2
      exact num _ _ (by omega) h1
    · rw [ckS_7 hk] at h
      obtain ⟨t1, s1, h1, h2⟩ := cB_inv h
      obtain ⟨-, rfl, -⟩ := cVr0_inv h2
      exact num _ _ (by omega) h1
    · rw [ckS_8 hk] at h
      obtain ⟨t1, s1, h1, h2⟩ := cB_inv h
      obtain ⟨-, rfl⟩ := cUse_inv h2
      exact num s1 _ (by omega) h1
    · rw [ckS_9 hk] at h
      obtain ⟨-, rfl, -⟩ := cVr0_inv h
      exact fin _ eMo.refl (fun q => absurd q (by omega)) (c0f (hct.2.2.2.2.2.2.2.2.2.1 hk) _)
    · rw [ckS_10 hk] at h
      obtain ⟨-, rfl, -⟩ := cVr0_inv h
      exact fin _ eMo.refl (fun q => absurd q (by omega)) (c0f (hct.2.2.2.2.2.2.2.2.2.2.1 hk) _)
    · rw [ckS_11 hk] at h
      obtain ⟨rfl, -⟩ := cVrT_inv h
      exact fin _ eMo.refl (fun q => absurd q (by omega)) (c0f (hct.2.2.2.2.2.2.2.2.2.2.2.1 hk) _)
    · rw [ckS_12 hk] at h
      have hcn := hct.2.2.2.2.2.2.2.2.2.2.2.2 hk
      obtain ⟨t1, s1, h1, h2⟩ := cB_inv h
      obtain ⟨-, rfl⟩ := cUse_inv h1
      obtain ⟨a1, a2⟩ := hL _ (cOff (eVr (E i)) s) _ _ (hp 0 (by omega)).1 hs (hp 0 (by omega)).2 h2
      refine fin _ a1 (fun q => absurd q (by omega)) (fun j hj => ?_)
      obtain rfl : j = 0 := by omega
      exact a2
    · rw [ckS_13 hk] at h
      unfold cCall at h
      cases hcl : cl (cIx (eNm (E i))) with
      | none => rw [hcl] at h; cases h
      | some u =>
        obtain ⟨a, c, Y, rt⟩ := u
        rw [hcl] at h
        dsimp only at h
        by_cases q : c = (E i).2.2.2.1
        · rw [if_pos q] at h
          obtain ⟨t1, s1, h1, h2⟩ := cB_inv h
          cases h2
          have hni : eNm (s.2.2 i) = eNm (E i) := by rw [hc0]; rfl
          have hci : (s.2.2 i).2.2.2.1 = (E i).2.2.2.1 := by rw [hc0]; rfl
          have up : eMo cl s.2.2 (va_up s.2.2 i (eCl (s.2.2 i) (some a))) := eMo.up (by rw [hni]; exact hcl) (by rw [hci]; exact q)
          obtain ⟨g1, g2⟩ := cAll_oc hL hsm' hp (E i).2.2.2.1 0 (s.1, s.2.1, va_up s.2.2 i (eCl (s.2.2 i) (some a))) (by omega) (hs.trans eSm.up) h1
          have g1 : eMo cl (va_up s.2.2 i (eCl (s.2.2 i) (some a))) s'.2.2 := g1
          refine fin _ (up.trans g1) (fun _ => ?_) (fun j hj => g2 j (by omega) hj)
          obtain ⟨c2, -, w⟩ := g1 i
          refine w ?_
          rw [va_up_self]
          exact ⟨a, c, Y, _, by show cl (cIx (eNm (s.2.2 i))) = _; rw [hni]; exact hcl, rfl, by show c = (s.2.2 i).2.2.2.1; rw [hci]; exact q⟩
        · rw [if_neg q] at h
          cases h
end TYI
