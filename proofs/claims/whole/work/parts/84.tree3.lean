section TR4
variable {T : Nat → Int32} {z d K i k c w : Nat} {vw : Option (Int32 × Nat)} {A : mA} {E : Nat → eN} {x : Int32} {e : eN}
theorem rFlat_87 : rFlat A i K x w 87 (1200 + i) = nI K := by show upd (A 87) (1200 + i) (nI K) (1200 + i) = _; exact upd_self
theorem rFlat_88 : rFlat A i K x w 88 (1200 + i) = x := by show upd (A 88) (1200 + i) x (1200 + i) = _; exact upd_self
theorem rFlat_89 : rFlat A i K x w 89 (1200 + i) = nI w := by show upd (A 89) (1200 + i) (nI w) (1200 + i) = _; exact upd_self
theorem rFlat_90 : rFlat A i K x w 90 (1200 + i) = 0 := by show upd (A 90) (1200 + i) 0 (1200 + i) = _; exact upd_self
theorem rFlat_91 : rFlat A i K x w 91 (1200 + i) = nI (1200 + i + 1) := by show upd (A 91) (1200 + i) (nI (1200 + i + 1)) (1200 + i) = _; exact upd_self
theorem tT_leaf (h1 : e.1 = K) (h14 : K < 14) (hp : e.2.1 = nI w) (hw : w < 150) (hc : e.2.2.2.1 = 0) (ha : tArg x e) (hn : eCnt K 0) : tT (rFlat A i K x w) (va_up E i e) (d + 1) i (i + 1) := by
  refine ⟨?_, rFlat_91, ?_⟩
  · unfold tN
    rw [va_up_self, rFlat_87, rFlat_88, rFlat_89, rFlat_90, h1, hp, hc]
    exact ⟨h14, rfl, rfl, rfl, ⟨w, hw, rfl⟩, ha, hn, by omega⟩
  · rw [va_up_self, hc]
    exact rfl
theorem tO_new (h1 : e.1 = K) (hp : e.2.1 = nI w) (hw : w < 150) (hc : e.2.2.2.1 = 0) (hv : tV K vw w 0 x e) : tO (rFlat A i K x w) (va_up E i e) d K vw w i 0 0 (i + 1) := by
  refine ⟨hw, rFlat_87, rFlat_90, rFlat_89, ?_, ?_, ?_, rfl, ?_⟩
  · rw [va_up_self]; exact h1
  · rw [va_up_self]; exact hp
  · rw [va_up_self]; exact hc
  · rw [va_up_self, rFlat_88]; exact hv
theorem rKA_new {s : rS} {q : Nat} : rKA s (rGo (rNode K x w e s) q) := fun a k hk => rFlat_ne (by omega)
theorem rDigs_bound : ∀ (k p v : Nat), (rDigs T z k p v).2 + 1 ≤ 10 ^ k * (v + 1)
  | 0, p, v => by show v + 1 ≤ 10 ^ 0 * (v + 1); omega
  | k + 1, p, v => by
    unfold rDigs
    by_cases q : 48 ≤ rlk T z p ∧ rlk T z p ≤ 57
    · rw [if_pos q]
      obtain ⟨g, hg, -, eg⟩ := let_c (a := 48) (b := 57) (by omega) (by omega) q.1 q.2
      have eg : rlk T z p - 48 = nI g := eg
      rw [eg, nI_clamp (by omega)]
      have ih := rDigs_bound k (p + 1) (10 * v + g)
      refine Nat.le_trans ih ?_
      rw [Nat.pow_succ, Nat.mul_assoc]
      exact Nat.mul_le_mul_left _ (by omega)
    · rw [if_neg q]
      have : 1 ≤ 10 ^ (k + 1) := Nat.pos_of_ne_zero (by simp)
      exact Nat.le_trans (by show v + 1 ≤ 1 * (v + 1); omega) (Nat.mul_le_mul_right _ this)
/-- the leaves, and the nodes that open -/
theorem rHead_tT {s : rS} (hz : z ≤ 150) : match rHead T z s with
    | .inl _ => True
    | .inr (.inl b) => tT b.2.2.1 b.2.2.2 (d + 1) s.2.1 b.2.1 ∧ rKA s b ∧ b.2.1 = s.2.1 + 1
    | .inr (.inr (K, vw, b)) => kOK K 0 ∧ tO b.2.2.1 b.2.2.2 d K vw s.1 s.2.1 0 0 b.2.1 ∧ rKA s b ∧ b.2.1 = s.2.1 + 1 := by
  have n0 : ∃ v, v < 20 ∧ (0 : Int32) = nI v := ⟨0, by omega, rfl⟩
  have m0 : ∃ v, v < 8 ∧ (0 : Int32) = nI v := ⟨0, by omega, rfl⟩
  unfold rHead
  by_cases q1 : 48 ≤ rlk T z s.1 ∧ rlk T z s.1 ≤ 57
  · rw [if_pos q1]
    have hl : s.1 < z := rlk_pos q1.1 (by decide)
    refine ⟨tT_leaf rfl (by omega) rfl (by omega) rfl ⟨n0, m0, fun _ => ⟨_, ?_, rfl, rfl⟩, fun q => absurd q (show ¬ (0 : Nat) = 2 by decide), fun q => absurd q (show ¬ (0 : Nat) = 13 by decide), fun q => absurd rfl q, fun q => absurd q (show ¬ ((0 : Nat) = 1 ∨ (0 : Nat) = 7 ∨ (0 : Nat) = 8) by decide), fun q => absurd q (show ¬ ((0 : Nat) = 4 ∨ 9 ≤ (0 : Nat)) by decide)⟩ (by unfold eCnt; omega), rKA_new, rfl⟩
    have := rDigs_bound (T := T) (z := z) 4 s.1 0
    omega
  rw [if_neg q1]
  by_cases q2 : 97 ≤ rlk T z s.1 ∧ rlk T z s.1 ≤ 116
  · rw [if_pos q2]
    have hl : s.1 < z := rlk_pos q2.1 (by decide)
    obtain ⟨v, hv, -, ev⟩ := let_c (a := 97) (b := 116) (by omega) (by omega) q2.1 q2.2
    have ev : rlk T z s.1 - 97 = nI v := ev
    by_cases r1 : rlk T z (s.1 + 1) = 91
    · rw [if_pos r1]
      exact ⟨by unfold kOK; omega, tO_new rfl rfl (by omega) rfl ⟨n0, m0, fun q => absurd q (by decide), fun q => absurd q (by decide), fun q => absurd q (by decide), fun _ => ⟨⟨v, by omega, ev⟩, rfl⟩, fun q => absurd rfl q⟩, rKA_new, rfl⟩
    rw [if_neg r1]
    by_cases r2 : rlk T z (s.1 + 1) = 123
    · rw [if_pos r2]
      exact ⟨by unfold kOK; omega, tO_new rfl rfl (by omega) rfl ⟨n0, m0, fun q => absurd q (by decide), fun q => absurd q (by decide), fun q => absurd q (by decide), fun _ => ⟨⟨v, by omega, ev⟩, rfl⟩, fun _ q => absurd rfl q⟩, rKA_new, rfl⟩
    rw [if_neg r2]
    exact ⟨tT_leaf rfl (by omega) rfl (by omega) rfl ⟨⟨v, by omega, ev⟩, m0, fun q => absurd q (show ¬ (1 : Nat) = 0 by decide), fun q => absurd q (show ¬ (1 : Nat) = 2 by decide), fun q => absurd q (show ¬ (1 : Nat) = 13 by decide), fun _ _ _ _ _ _ => rfl, fun _ => rfl, fun q => absurd q (show ¬ ((1 : Nat) = 4 ∨ 9 ≤ (1 : Nat)) by decide)⟩ (by unfold eCnt; omega), rKA_new, rfl⟩
  rw [if_neg q2]
  by_cases q3 : 65 ≤ rlk T z s.1 ∧ rlk T z s.1 ≤ 72
  · rw [if_pos q3]
    have hl : s.1 < z := rlk_pos q3.1 (by decide)
    obtain ⟨v, hv, -, ev⟩ := let_c (a := 65) (b := 72) (by omega) (by omega) q3.1 q3.2
    have ev : rlk T z s.1 - 65 = nI v := ev
    by_cases r1 : rlk T z (s.1 + 1) = 40
    · rw [if_pos r1]
      by_cases r2 : rlk T z (s.1 + 2) = 41
      · rw [if_pos r2]
        exact ⟨tT_leaf rfl (by omega) rfl (by omega) rfl ⟨n0, ⟨v, by omega, ev⟩, fun q => absurd q (show ¬ (13 : Nat) = 0 by decide), fun q => absurd q (show ¬ (13 : Nat) = 2 by decide), fun _ => rfl, fun _ _ _ _ _ q => absurd rfl q, fun q => absurd q (show ¬ ((13 : Nat) = 1 ∨ (13 : Nat) = 7 ∨ (13 : Nat) = 8) by decide), fun _ q => absurd rfl q⟩ (by unfold eCnt; omega), rKA_new, rfl⟩
      · rw [if_neg r2]
        exact ⟨by unfold kOK; omega, tO_new rfl rfl (by omega) rfl ⟨n0, ⟨v, by omega, ev⟩, fun q => absurd q (by decide), fun _ => rfl, fun q => absurd q (by decide), fun q => absurd q (by decide), fun _ _ => rfl⟩, rKA_new, rfl⟩
    · rw [if_neg r1]
      trivial
  rw [if_neg q3]
  by_cases w40 : rlk T z s.1 = 40
  · rw [if_pos w40]
    have hl : s.1 < z := rlk_lt w40 (by decide)
    exact ⟨by unfold kOK; omega, tO_new rfl rfl (by omega) rfl ⟨n0, m0, fun _ q => absurd q (by decide), fun q => absurd q (by decide), fun q => absurd q (by decide), fun q => absurd q (by decide), fun _ _ => rfl⟩, rKA_new, rfl⟩
  rw [if_neg w40]
  by_cases w63 : rlk T z s.1 = 63
  · rw [if_pos w63]
    have hl : s.1 < z := rlk_lt w63 (by decide)
    exact ⟨by unfold kOK; omega, tO_new rfl rfl (by omega) rfl ⟨n0, m0, fun _ q => absurd q (by decide), fun q => absurd q (by decide), fun q => absurd q (by decide), fun q => absurd q (by decide), fun _ _ => rfl⟩, rKA_new, rfl⟩
  rw [if_neg w63]
  by_cases w64 : rlk T z s.1 = 64
  · rw [if_pos w64]
    have hl : s.1 < z := rlk_lt w64 (by decide)
    exact ⟨by unfold kOK; omega, tO_new rfl rfl (by omega) rfl ⟨n0, m0, fun _ q => absurd q (by decide), fun q => absurd q (by decide), fun q => absurd q (by decide), fun q => absurd q (by decide), fun _ _ => rfl⟩, rKA_new, rfl⟩
  rw [if_neg w64]
  by_cases w37 : rlk T z s.1 = 37
  · rw [if_pos w37]
    have hl : s.1 < z := rlk_lt w37 (by decide)
    exact ⟨by unfold kOK; omega, tO_new rfl rfl (by omega) rfl ⟨n0, m0, fun _ q => absurd q (by decide), fun q => absurd q (by decide), fun q => absurd q (by decide), fun q => absurd q (by decide), fun _ _ => rfl⟩, rKA_new, rfl⟩
  rw [if_neg w37]
  by_cases w38 : rlk T z s.1 = 38
  · rw [if_pos w38]
    have hl : s.1 < z := rlk_lt w38 (by decide)
    unfold rHw
    by_cases r1 : 97 ≤ rlk T z (s.1 + 1) ∧ rlk T z (s.1 + 1) ≤ 116
    · rw [if_pos r1]
      obtain ⟨v, hv, -, ev⟩ := let_c (a := 97) (b := 116) (by omega) (by omega) r1.1 r1.2
      have ev : rlk T z (s.1 + 1) - 97 = nI v := ev
      by_cases r2 : rlk T z (s.1 + 2) = 61
      · rw [if_pos r2]
        exact ⟨by unfold kOK; omega, tO_new rfl rfl (by omega) rfl ⟨⟨v, by omega, ev⟩, m0, fun q => absurd q (by decide), fun q => absurd q (by decide), fun _ => ⟨rfl, rfl⟩, fun q => absurd q (by decide), fun _ _ => rfl⟩, rKA_new (s := s), rfl⟩
      · rw [if_neg r2]
        trivial
    · rw [if_neg r1]
      trivial
  rw [if_neg w38]
  by_cases w126 : rlk T z s.1 = 126
  · rw [if_pos w126]
    have hl : s.1 < z := rlk_lt w126 (by decide)
    unfold rHw
    by_cases r1 : 97 ≤ rlk T z (s.1 + 1) ∧ rlk T z (s.1 + 1) ≤ 116
    · rw [if_pos r1]
      obtain ⟨v, hv, -, ev⟩ := let_c (a := 97) (b := 116) (by omega) (by omega) r1.1 r1.2
      have ev : rlk T z (s.1 + 1) - 97 = nI v := ev
      by_cases r2 : rlk T z (s.1 + 2) = 59
      · rw [if_pos r2]
        exact ⟨by unfold kOK; omega, tO_new rfl rfl (by omega) rfl ⟨⟨v, by omega, ev⟩, m0, fun q => absurd q (by decide), fun q => absurd q (by decide), fun _ => ⟨rfl, rfl⟩, fun q => absurd q (by decide), fun _ _ => rfl⟩, rKA_new (s := s), rfl⟩
      · rw [if_neg r2]
        trivial
    · rw [if_neg r1]
      trivial
  rw [if_neg w126]
  by_cases w35 : rlk T z s.1 = 35
  · rw [if_pos w35]
    have hl : s.1 < z := rlk_lt w35 (by decide)
    unfold rHv
    by_cases r1 : 97 ≤ rlk T z (s.1 + 1) ∧ rlk T z (s.1 + 1) ≤ 116
    · rw [if_pos r1]
      obtain ⟨v, hv, -, ev⟩ := let_c (a := 97) (b := 116) (by omega) (by omega) r1.1 r1.2
      have ev : rlk T z (s.1 + 1) - 97 = nI v := ev
      exact ⟨tT_leaf rfl (by omega) rfl (by omega) rfl ⟨⟨v, by omega, ev⟩, m0, fun q => absurd q (show ¬ (9 : Nat) = 0 by decide), fun q => absurd q (show ¬ (9 : Nat) = 2 by decide), fun q => absurd q (show ¬ (9 : Nat) = 13 by decide), fun _ _ _ _ _ _ => rfl, fun q => absurd q (show ¬ ((9 : Nat) = 1 ∨ (9 : Nat) = 7 ∨ (9 : Nat) = 8) by decide), fun _ _ => (nI_1 s.1).symm⟩ (by unfold eCnt; omega), rKA_new (s := s), rfl⟩
    · rw [if_neg r1]
      trivial
  rw [if_neg w35]
  by_cases w94 : rlk T z s.1 = 94
  · rw [if_pos w94]
    have hl : s.1 < z := rlk_lt w94 (by decide)
    unfold rHv
    by_cases r1 : 97 ≤ rlk T z (s.1 + 1) ∧ rlk T z (s.1 + 1) ≤ 116
    · rw [if_pos r1]
      obtain ⟨v, hv, -, ev⟩ := let_c (a := 97) (b := 116) (by omega) (by omega) r1.1 r1.2
      have ev : rlk T z (s.1 + 1) - 97 = nI v := ev
      exact ⟨tT_leaf rfl (by omega) rfl (by omega) rfl ⟨⟨v, by omega, ev⟩, m0, fun q => absurd q (show ¬ (10 : Nat) = 0 by decide), fun q => absurd q (show ¬ (10 : Nat) = 2 by decide), fun q => absurd q (show ¬ (10 : Nat) = 13 by decide), fun _ _ _ _ _ _ => rfl, fun q => absurd q (show ¬ ((10 : Nat) = 1 ∨ (10 : Nat) = 7 ∨ (10 : Nat) = 8) by decide), fun _ _ => (nI_1 s.1).symm⟩ (by unfold eCnt; omega), rKA_new (s := s), rfl⟩
    · rw [if_neg r1]
      trivial
  rw [if_neg w94]
  by_cases w36 : rlk T z s.1 = 36
  · rw [if_pos w36]
    have hl : s.1 < z := rlk_lt w36 (by decide)
    unfold rHv
    by_cases r1 : 97 ≤ rlk T z (s.1 + 1) ∧ rlk T z (s.1 + 1) ≤ 116
    · rw [if_pos r1]
      obtain ⟨v, hv, -, ev⟩ := let_c (a := 97) (b := 116) (by omega) (by omega) r1.1 r1.2
      have ev : rlk T z (s.1 + 1) - 97 = nI v := ev
      exact ⟨tT_leaf rfl (by omega) rfl (by omega) rfl ⟨⟨v, by omega, ev⟩, m0, fun q => absurd q (show ¬ (11 : Nat) = 0 by decide), fun q => absurd q (show ¬ (11 : Nat) = 2 by decide), fun q => absurd q (show ¬ (11 : Nat) = 13 by decide), fun _ _ _ _ _ _ => rfl, fun q => absurd q (show ¬ ((11 : Nat) = 1 ∨ (11 : Nat) = 7 ∨ (11 : Nat) = 8) by decide), fun _ _ => (nI_1 s.1).symm⟩ (by unfold eCnt; omega), rKA_new (s := s), rfl⟩
    · rw [if_neg r1]
      trivial
  rw [if_neg w36]
  trivial
theorem rHead_le {s c : rS} (hs : s.1 ≤ z) (h : rHead T z s = .inr (.inr (K, vw, c))) : c.1 ≤ z := by
  unfold rHead at h
  by_cases q1 : 48 ≤ rlk T z s.1 ∧ rlk T z s.1 ≤ 57
  · rw [if_pos q1] at h; cases h
  rw [if_neg q1] at h
  by_cases q2 : 97 ≤ rlk T z s.1 ∧ rlk T z s.1 ≤ 116
  · rw [if_pos q2] at h
    by_cases r1 : rlk T z (s.1 + 1) = 91
    · rw [if_pos r1] at h; cases h; exact rlk_lt r1 (by decide)
    rw [if_neg r1] at h
    by_cases r2 : rlk T z (s.1 + 1) = 123
    · rw [if_pos r2] at h; cases h; exact rlk_lt r2 (by decide)
    rw [if_neg r2] at h; cases h
  rw [if_neg q2] at h
  by_cases q3 : 65 ≤ rlk T z s.1 ∧ rlk T z s.1 ≤ 72
  · rw [if_pos q3] at h
    by_cases r1 : rlk T z (s.1 + 1) = 40
    · rw [if_pos r1] at h
      by_cases r2 : rlk T z (s.1 + 2) = 41
      · rw [if_pos r2] at h; cases h
      · rw [if_neg r2] at h; cases h; exact rlk_lt r1 (by decide)
    · rw [if_neg r1] at h; cases h
  rw [if_neg q3] at h
  by_cases w40 : rlk T z s.1 = 40
  · rw [if_pos w40] at h; cases h; exact rlk_lt w40 (by decide)
  rw [if_neg w40] at h
  by_cases w63 : rlk T z s.1 = 63
  · rw [if_pos w63] at h; cases h; exact rlk_lt w63 (by decide)
  rw [if_neg w63] at h
  by_cases w64 : rlk T z s.1 = 64
  · rw [if_pos w64] at h; cases h; exact rlk_lt w64 (by decide)
  rw [if_neg w64] at h
  by_cases w37 : rlk T z s.1 = 37
  · rw [if_pos w37] at h; cases h; exact rlk_lt w37 (by decide)
  rw [if_neg w37] at h
  by_cases w38 : rlk T z s.1 = 38
  · rw [if_pos w38] at h
    unfold rHw at h
    by_cases r1 : 97 ≤ rlk T z (s.1 + 1) ∧ rlk T z (s.1 + 1) ≤ 116
    · rw [if_pos r1] at h
      by_cases r2 : rlk T z (s.1 + 2) = 61
      · rw [if_pos r2] at h; cases h; exact rlk_lt r2 (by decide)
      · rw [if_neg r2] at h; cases h
    · rw [if_neg r1] at h; cases h
  rw [if_neg w38] at h
  by_cases w126 : rlk T z s.1 = 126
  · rw [if_pos w126] at h
    unfold rHw at h
    by_cases r1 : 97 ≤ rlk T z (s.1 + 1) ∧ rlk T z (s.1 + 1) ≤ 116
    · rw [if_pos r1] at h
      by_cases r2 : rlk T z (s.1 + 2) = 59
      · rw [if_pos r2] at h; cases h; exact rlk_lt r2 (by decide)
      · rw [if_neg r2] at h; cases h
    · rw [if_neg r1] at h; cases h
  rw [if_neg w126] at h
  by_cases w35 : rlk T z s.1 = 35
  · rw [if_pos w35] at h
    unfold rHv at h
    by_cases r1 : 97 ≤ rlk T z (s.1 + 1) ∧ rlk T z (s.1 + 1) ≤ 116
    · rw [if_pos r1] at h; cases h
    · rw [if_neg r1] at h; cases h
  rw [if_neg w35] at h
  by_cases w94 : rlk T z s.1 = 94
  · rw [if_pos w94] at h
    unfold rHv at h
    by_cases r1 : 97 ≤ rlk T z (s.1 + 1) ∧ rlk T z (s.1 + 1) ≤ 116
    · rw [if_pos r1] at h; cases h
    · rw [if_neg r1] at h; cases h
  rw [if_neg w94] at h
  by_cases w36 : rlk T z s.1 = 36
  · rw [if_pos w36] at h
    unfold rHv at h
    by_cases r1 : 97 ≤ rlk T z (s.1 + 1) ∧ rlk T z (s.1 + 1) ≤ 116
    · rw [if_pos r1] at h; cases h
    · rw [if_neg r1] at h; cases h
  rw [if_neg w36] at h
  cases h
theorem rKA.trans_i {s b c : rS} (h : rKA s b) (g : rKAi s.2.1 b c) (hb : b.2.1 = s.2.1 + 1) : rKA s c := fun a k hk => (g a k (by omega)).trans (h a k hk)
theorem rdE_tT (hz : z ≤ 150) : ∀ (d : Nat) (s b : rS), s.1 ≤ z → rdE T z d s = .inr b → tT b.2.2.1 b.2.2.2 d s.2.1 b.2.1 ∧ rKA s b
  | 0, s, b, _, h => nomatch h
  | d + 1, s, b, hs, h => by
    have hres := rdE_res (T := T) (z := z) (d + 1) s hs
    rw [rdE_head] at h
    have H := rHead_tT (T := T) (d := d) (s := s) hz
    cases hh : rHead T z s with
    | inl q => rw [hh] at h; cases h
    | inr y =>
      rw [hh] at h H
      cases y with
      | inl c =>
        have h : (.inr c : rR) = .inr b := h
        cases h
        exact ⟨H.1, H.2.1⟩
      | inr y =>
        obtain ⟨K, vw, c⟩ := y
        obtain ⟨hk, ho, hka, hN⟩ := H
        have h : rParts T z (rdE T z d) K s.2.1 vw 4 0 c = .inr b := h
        have hc : c.1 ≤ z := rHead_le hs hh
        obtain ⟨g1, g2⟩ := rParts_tT (rdE_tT hz d) 4 0 c b hc (by omega) hk ho h
        exact ⟨g1, hka.trans_i g2 hN⟩
end TR4
