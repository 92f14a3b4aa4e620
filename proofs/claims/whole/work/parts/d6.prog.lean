/-! the program that has been defined -/
section PRG
variable {n N : Nat} {σ : zS} {xf : xF} {A : mA} {P : Nat → Option uF} {SY : Nat → mS} {SR : Nat → Int32} {cl : Nat → Option cF} {E E0 : Nat → eN}
theorem eSm.symm {E E' : Nat → eN} (h : eSm E E') : eSm E' E := fun i => by
  obtain ⟨c, hc⟩ := h i
  refine ⟨(E i).2.2.2.2.2.2.2.2.2, ?_⟩
  rw [hc]
  exact (eCl_self (E i)).symm
theorem cEnd_inv {V Q : mS} : ∀ (m k : Nat) (s : cS) {t : Int32} {s' : cS}, cEnd V Q m k s = .inr (t, s') → s' = s ∧ ∀ j, k ≤ j → j < k + m → ¬ cOwn s.2.1 (V j)
  | 0, k, s, t, s', h => by
    cases h
    exact ⟨rfl, fun j h1 h2 => absurd h2 (by omega)⟩
  | m + 1, k, s, t, s', h => by
    unfold cEnd at h
    by_cases q : cOwn s.2.1 (V k)
    · rw [if_pos q] at h
      cases h
    · rw [if_neg q] at h
      obtain ⟨h1, h2⟩ := cEnd_inv m (k + 1) s h
      refine ⟨h1, fun j g1 g2 => ?_⟩
      by_cases e : j = k
      · rw [e]; exact q
      · exact h2 j (by omega) (by omega)
theorem chk_inv {cn : Nat} {V Q Y : mS} {rt t : Int32} {s : cS} (h : chk cl none cn V Q Y rt E0 = .inr (t, s)) : ∃ t1 s1, cPar V Q Y cn 0 (cT0, 0, E0) = .inr (t1, s1) ∧ ck cl 8 0 s1 = .inr (rt, s) ∧ ∀ k, k < cn → ¬ cOwn s.2.1 (V k) := by
  unfold chk at h
  rw [if_pos rfl] at h
  obtain ⟨t1, s1, h1, h2⟩ := cB_inv h
  obtain ⟨t2, s2, h3, h4⟩ := cB_inv h2
  by_cases q : t2 = rt
  · rw [if_pos q] at h4
    obtain ⟨e1, e2⟩ := cEnd_inv _ _ _ h4
    rw [e1]
    exact ⟨t1, s1, h1, by rw [← q]; exact h3, fun k hk => e2 k (by omega) (by omega)⟩
  · rw [if_neg q] at h4
    cases h4
theorem eOc_cs (hw : eWf N E) (hcl : pCl P SY SR cl) : ∀ (d i : Nat), i < N → eOc cl E d i → eCs P E d i
  | 0, _, _, h => False.elim h
  | d + 1, i, hi, h => by
    obtain ⟨-, -, -, ⟨f, hf8, ef⟩, hpt, -⟩ := hw i hi
    refine ⟨fun w => ?_, fun j hj => eOc_cs hw hcl d _ (hpt j hj).2 (h.2 j hj)⟩
    obtain ⟨a, c, Y, rt, h1, h2, h3⟩ := h.1 w
    obtain ⟨u, u1, u2, u3, -⟩ := hcl _ a c Y rt (by rw [ef]; show (nI f).toNatClampNeg < 8; rw [nI_clamp (by omega)]; exact hf8) h1
    exact ⟨u, u1, by rw [h2, u2], by rw [u3, h3]⟩
/-- what there is of each function -/
theorem prog (h : FRw n σ xf A) (hn : 114 ≤ n) (hn9 : n < 900000) : ∃ (P : Nat → Option uF) (SY : Nat → mS) (SR : Nat → Int32), pOk P SY SR ∧ pRf A P ∧ uOk n σ P ∧ ∀ f, f < 8 → ∀ a, xf f = some a → ∃ u, P f = some u ∧ u.1 = a ∧ σ a = gF a (nI f) u.2.1 (SR f) (some (a + 4)) ∧ σ (a + 3) = .inl (0, 4, .inl (SY f)) ∧ A 94 f = SR f ∧ ∀ k, k < u.2.1 → A 96 (4 * f + k) = SY f k := by
  have h1 : ∀ f : Nat, ∃ r : Nat × mS × mS × Int32 × Nat × (Nat → eN) × (Nat → Option cF), f < 8 → ∀ a, xf f = some a → fRec n σ xf A f a r.1 r.2.1 r.2.2.1 r.2.2.2.1 r.2.2.2.2.1 r.2.2.2.2.2.1 r.2.2.2.2.2.2 := fun f => by
    by_cases q : f < 8 ∧ ∃ a, xf f = some a
    · obtain ⟨q1, a, q2⟩ := q
      obtain ⟨cn, V, Y, rt, N, E, clf, hr⟩ := h f q1 a q2
      refine ⟨(cn, V, Y, rt, N, E, clf), fun _ a' ha' => ?_⟩
      rw [q2] at ha'
      cases ha'
      exact hr
    · exact ⟨(0, fun _ => 0, fun _ => 0, 0, 0, fun _ => (0, 0, fun _ => none, 0, 0, 0, 0, 0, 0, none), fun _ => none), fun q1 a ha => absurd ⟨q1, a, ha⟩ q⟩
  obtain ⟨R, hR⟩ := Classical.axiomOfChoice h1
  obtain ⟨P, hPd⟩ : ∃ P : Nat → Option uF, P = fun g => if g < 8 then (xf g).map fun a => (a, (R g).1, (R g).2.2.2.2.1, (R g).2.1, (R g).2.2.2.2.2.1) else none := ⟨_, rfl⟩
  have hPo : ∀ g u, P g = some u → g < 8 ∧ ∃ a, xf g = some a ∧ u = (a, (R g).1, (R g).2.2.2.2.1, (R g).2.1, (R g).2.2.2.2.2.1) := fun g u hu => by
    rw [hPd] at hu
    dsimp only at hu
    by_cases q : g < 8
    · rw [if_pos q] at hu
      cases hx : xf g with
      | none => rw [hx] at hu; cases hu
      | some a =>
        rw [hx] at hu
        cases hu
        exact ⟨q, a, rfl, rfl⟩
    · rw [if_neg q] at hu
      cases hu
  have hPs : ∀ g, g < 8 → ∀ a, xf g = some a → P g = some (a, (R g).1, (R g).2.2.2.2.1, (R g).2.1, (R g).2.2.2.2.2.1) := fun g hg a ha => by
    rw [hPd]
    dsimp only
    rw [if_pos hg, ha]
    rfl
  have hCl : ∀ g, g < 8 → ∀ a, xf g = some a → pCl P (fun g => (R g).2.2.1) (fun g => (R g).2.2.2.1) (R g).2.2.2.2.2.2 := fun g hg a ha g' a' c' Y' rt' hg' hc' => by
    obtain ⟨-, -, -, -, -, -, -, -, -, -, -, -, -, h14⟩ := hR g hg a ha
    obtain ⟨s1, s2, s3, s4, s5⟩ := h14 g' a' c' Y' rt' hg' hc'
    obtain ⟨-, -, -, k4, -, k6, k7, k8, -⟩ := hR g' hg' a' s1
    have ec : (R g').1 = c' := nI_inj (by omega) (by omega) (k6.symm.trans s2)
    exact ⟨_, hPs g' hg' a' s1, rfl, ec, k7.symm.trans s3, fun k hk => ((k8 k (by rw [ec]; exact hk)).2).symm.trans (s5 k hk)⟩
  refine ⟨P, fun g => (R g).2.2.1, fun g => (R g).2.2.2.1, fun g u hu => ?_, fun g u hu => ?_, ⟨hn, hn9, fun g u hu => ?_⟩, fun g hg a ha => ?_⟩
  · obtain ⟨hg, a, ha, rfl⟩ := hPo g u hu
    have hcl := hCl g hg a ha
    obtain ⟨r1, r2, r3, r4, r5, r6, r7, r8, r9, r10, r11, ⟨Q, E1, t, s, c1, c2, c3, A1, c4⟩, r13, r14⟩ := hR g hg a ha
    obtain ⟨t1, s1, d1, d2, d3⟩ := chk_inv c2
    have hs1 : s1.2.2 = E1 := cPar_E _ _ _ d1
    have hsm : eSm E1 (R g).2.2.2.2.2.1 := by
      rw [← c3, ← hs1]
      exact ck_sm d2
    have hwf : eWf (R g).2.2.2.2.1 (R g).2.2.2.2.2.1 := eWf.sm (fun k hk => (tT_wf c4 (Nat.zero_le _) hk).2 _ (Nat.le_refl _)) hsm
    exact ⟨hg, r4, r9, uT_lt r11, r3, hwf, r10, _, Q, E1, t1, s1, s, hcl, r13, hsm.symm, d1, d2, d3⟩
  · obtain ⟨hg, a, ha, rfl⟩ := hPo g u hu
    obtain ⟨r1, r2, r3, r4, r5, r6, r7, r8, r9, r10, r11, -⟩ := hR g hg a ha
    exact ⟨r11, r6, fun k hk => (r8 k hk).1⟩
  · obtain ⟨hg, a, ha, rfl⟩ := hPo g u hu
    have hcl := hCl g hg a ha
    obtain ⟨r1, r2, r3, r4, ⟨e1, e2, e3, e4⟩, r6, r7, r8, r9, r10, r11, ⟨Q, E1, t, s, c1, c2, c3, A1, c4⟩, r13, r14⟩ := hR g hg a ha
    obtain ⟨t1, s1, d1, d2, d3⟩ := chk_inv c2
    have hs1 : s1.2.2 = E1 := cPar_E _ _ _ d1
    have hsm : eSm E1 (R g).2.2.2.2.2.1 := by
      rw [← c3, ← hs1]
      exact ck_sm d2
    have hw1 : eWf (R g).2.2.2.2.1 E1 := fun k hk => (tT_wf c4 (Nat.zero_le _) hk).2 _ (Nat.le_refl _)
    have hwf : eWf (R g).2.2.2.2.1 (R g).2.2.2.2.2.1 := eWf.sm hw1 hsm
    have hoc := (ck_oc hw1 8 0 s1 _ s (uT_lt r11) (by rw [hs1]; exact eSm.refl) (tT_dp c4) d2).2
    rw [c3] at hoc
    exact ⟨r1, r2, r4, uT_lt r11, ⟨_, _, e1⟩, e2, e4, hwf, eOc_cs hwf hcl 8 0 (uT_lt r11) hoc, fun k hk => (r9 k hk).1⟩
  · obtain ⟨r1, r2, r3, r4, ⟨e1, e2, e3, e4⟩, r6, r7, r8, r9, r10, r11, -⟩ := hR g hg a ha
    exact ⟨_, hPs g hg a ha, rfl, e1, e3, r7, fun k hk => (r8 k hk).2⟩
end PRG
