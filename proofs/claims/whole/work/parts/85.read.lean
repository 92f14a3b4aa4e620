section TR5
variable {A : mA} {E : Nat → eN} {R : Nat → Nat → Prop} {pt : Nat → Option Nat}
theorem tC_cover (h3 : ∀ x y, R x y → x < y) : ∀ {m c p b q : Nat}, tC R pt m c p b → p ≤ q → q < b → ∃ x y, R x y ∧ x ≤ q ∧ q < y ∧ p ≤ x ∧ y ≤ b
  | 0, c, p, b, q, h, h1, h2 => by
    have : p = b := h
    omega
  | m + 1, c, p, b, q, h, h1, h2 => by
    obtain ⟨g1, p', g2, g3⟩ := h
    have hl := h3 _ _ g2
    have hb := tC_le h3 g3
    by_cases hq : q < p'
    · exact ⟨p, p', g2, h1, hq, Nat.le_refl _, hb⟩
    · obtain ⟨x, y, k1, k2, k3, k4, k5⟩ := tC_cover h3 g3 (Nat.le_of_not_lt hq) h2
      exact ⟨x, y, k1, k2, k3, by omega, k5⟩
theorem tC_part (h3 : ∀ x y, R x y → x < y) : ∀ {m c p b j : Nat}, tC R pt m c p b → c ≤ j → j < c + m → ∃ x y, pt j = some x ∧ R x y ∧ p ≤ x ∧ y ≤ b
  | 0, c, p, b, j, h, h1, h2 => by omega
  | m + 1, c, p, b, j, h, h1, h2 => by
    obtain ⟨g1, p', g2, g3⟩ := h
    have hl := h3 _ _ g2
    have hb := tC_le h3 g3
    by_cases hj : j = c
    · subst hj
      exact ⟨p, p', g1, g2, Nat.le_refl _, hb⟩
    · obtain ⟨x, y, k1, k2, k3, k4⟩ := tC_part h3 g3 (show c + 1 ≤ j by omega) (by omega)
      exact ⟨x, y, k1, k2, by omega, k4⟩
theorem tT_wf : ∀ {d j b k : Nat}, tT A E d j b → j ≤ k → k < b → tN A E k ∧ ∀ N, b ≤ N → eWf1 N (E k)
  | 0, _, _, _, h, _, _ => False.elim h
  | d + 1, j, b, k, h, h1, h2 => by
    obtain ⟨g1, g2, g3⟩ := h
    by_cases hk : k = j
    · subst hk
      refine ⟨g1, fun N hN => ?_⟩
      obtain ⟨t1, t2, t3, t4, t5, t6, t7, t8⟩ := g1
      refine ⟨t1, t8, t6.1, t6.2.1, fun c hc => ?_, t7⟩
      obtain ⟨x, y, k1, k2, k3, k4⟩ := tC_part (fun x y r => tT_lt r) g3 (Nat.zero_le c) (by omega)
      have := tT_lt k2
      have e : ePt (E k) c = x := by unfold ePt; rw [k1]; rfl
      rw [e]
      exact ⟨k1, by omega⟩
    · obtain ⟨x, y, k1, k2, k3, k4, k5⟩ := tC_cover (fun x y r => tT_lt r) g3 (show j + 1 ≤ k by omega) h2
      obtain ⟨q1, q2⟩ := tT_wf k1 k2 k3
      exact ⟨q1, fun N hN => q2 N (by omega)⟩
theorem tT_dp : ∀ {d j b : Nat}, tT A E d j b → eDp E d j
  | 0, _, _, h => h
  | d + 1, j, b, h => fun c hc => by
    obtain ⟨g1, g2, g3⟩ := h
    obtain ⟨x, y, k1, k2, k3, k4⟩ := tC_part (fun x y r => tT_lt r) g3 (Nat.zero_le c) (by omega)
    have e : ePt (E j) c = x := by unfold ePt; rw [k1]; rfl
    rw [e]
    exact tT_dp k2
end TR5
section RDF
variable {T : Nat → Int32} {z : Nat}
/-- parameters that have been read -/
def rPk (k : Nat) (V P Y : mS) : Prop := ∀ j, j < k → (∃ v, v < 20 ∧ V j = nI v) ∧ (∃ w, w < 150 ∧ P j = nI w) ∧ ∃ y, y < 3 ∧ Y j = nI y
def rPe (k : Nat) (V P Y V' P' Y' : mS) : Prop := ∀ j, j < k → V' j = V j ∧ P' j = P j ∧ Y' j = Y j
theorem rPk_up {k v w y : Nat} {V P Y : mS} (h : rPk k V P Y) (hv : v < 20) (hw : w < 150) (hy : y < 3) : rPk (k + 1) (upd V k (nI v)) (upd P k (nI w)) (upd Y k (nI y)) := fun j hj => by
  by_cases q : j = k
  · subst q
    rw [upd_self, upd_self, upd_self]
    exact ⟨⟨v, hv, rfl⟩, ⟨w, hw, rfl⟩, y, hy, rfl⟩
  · rw [upd_ne q, upd_ne q, upd_ne q]
    exact h j (by omega)
theorem rPe_up {k : Nat} {V P Y V' P' Y' : mS} {a b c : Int32} (h : rPe k V P Y V' P' Y') : rPe (k + 1) (upd V k a) (upd P k b) (upd Y k c) (upd V' k a) (upd P' k b) (upd Y' k c) := fun j hj => by
  by_cases q : j = k
  · subst q
    rw [upd_self, upd_self, upd_self, upd_self, upd_self, upd_self]
    exact ⟨rfl, rfl, rfl⟩
  · rw [upd_ne q, upd_ne q, upd_ne q, upd_ne q, upd_ne q, upd_ne q]
    exact h j (by omega)
theorem rdP_ok (hz : z ≤ 150) : ∀ (m k p : Nat) (V P Y : mS) {q : Nat × Nat × mS × mS × mS}, m + k ≤ 4 → p ≤ z → rPk k V P Y → rdP T z m k p V P Y = .inr q → q.2.1 ≤ 4 ∧ rPk q.2.1 q.2.2.1 q.2.2.2.1 q.2.2.2.2 ∧ q.1 ≤ z
  | 0, k, p, V, P, Y, q, hm, hp, hk, h => by
    cases h
    exact ⟨by show k ≤ 4; omega, hk, hp⟩
  | m + 1, k, p, V, P, Y, q, hm, hp, hk, h => by
    rw [rdP] at h
    by_cases h1 : 97 ≤ rlk T z p ∧ rlk T z p ≤ 116
    · rw [if_pos h1] at h
      by_cases h2 : 48 ≤ rlk T z (p + 1) ∧ rlk T z (p + 1) ≤ 50
      · rw [if_pos h2] at h
        have hp1 : p + 1 < z := rlk_pos h2.1 (by decide)
        obtain ⟨v, hv, -, ev⟩ := let_c (a := 97) (b := 116) (by omega) (by omega) h1.1 h1.2
        have ev : rlk T z p - 97 = nI v := ev
        obtain ⟨y, hy, -, ey⟩ := let_c (a := 48) (b := 50) (by omega) (by omega) h2.1 h2.2
        have ey : rlk T z (p + 1) - 48 = nI y := ey
        rw [ev, ey] at h
        have hk1 := rPk_up hk (show v < 20 by omega) (show p < 150 by omega) (show y < 3 by omega)
        by_cases h3 : k < 3 ∧ rlk T z (p + 2) = 44
        · rw [if_pos h3] at h
          have := rlk_lt h3.2 (by decide)
          exact rdP_ok hz m (k + 1) (p + 3) _ _ _ (by omega) (by omega) hk1 h
        · rw [if_neg h3] at h
          cases h
          exact ⟨by show k + 1 ≤ 4; omega, hk1, by show p + 2 ≤ z; omega⟩
      · rw [if_neg h2] at h
        cases h
    · rw [if_neg h1] at h
      cases h
theorem rdP_ill (hz : z ≤ 150) : ∀ (m k p : Nat) (V P Y : mS) {q : Nat}, p ≤ z → rdP T z m k p V P Y = .inl q → q ≤ z
  | 0, k, p, V, P, Y, q, hp, h => nomatch h
  | m + 1, k, p, V, P, Y, q, hp, h => by
    rw [rdP] at h
    by_cases h1 : 97 ≤ rlk T z p ∧ rlk T z p ≤ 116
    · rw [if_pos h1] at h
      have hp0 : p < z := rlk_pos h1.1 (by decide)
      by_cases h2 : 48 ≤ rlk T z (p + 1) ∧ rlk T z (p + 1) ≤ 50
      · rw [if_pos h2] at h
        by_cases h3 : k < 3 ∧ rlk T z (p + 2) = 44
        · rw [if_pos h3] at h
          have := rlk_lt h3.2 (by decide)
          exact rdP_ill hz m (k + 1) (p + 3) _ _ _ (by omega) h
        · rw [if_neg h3] at h
          cases h
      · rw [if_neg h2] at h
        cases h
        omega
    · rw [if_neg h1] at h
      cases h
      exact hp
/-- what stands in the arrays behind the parameters doesn't matter -/
theorem rdP_irr : ∀ (m k p : Nat) (V P Y V' P' Y' : mS), rPe k V P Y V' P' Y' → match rdP T z m k p V P Y with
    | .inl x => rdP T z m k p V' P' Y' = .inl x
    | .inr (p1, k1, V1, P1, Y1) => ∃ V2 P2 Y2, rdP T z m k p V' P' Y' = .inr (p1, k1, V2, P2, Y2) ∧ rPe k1 V1 P1 Y1 V2 P2 Y2
  | 0, k, p, V, P, Y, V', P', Y', h => ⟨V', P', Y', rfl, h⟩
  | m + 1, k, p, V, P, Y, V', P', Y', h => by
    rw [rdP, rdP]
    by_cases h1 : 97 ≤ rlk T z p ∧ rlk T z p ≤ 116
    · rw [if_pos h1, if_pos h1]
      by_cases h2 : 48 ≤ rlk T z (p + 1) ∧ rlk T z (p + 1) ≤ 50
      · rw [if_pos h2, if_pos h2]
        by_cases h3 : k < 3 ∧ rlk T z (p + 2) = 44
        · rw [if_pos h3, if_pos h3]
          exact rdP_irr m (k + 1) (p + 3) _ _ _ _ _ _ (rPe_up h)
        · rw [if_neg h3, if_neg h3]
          exact ⟨_, _, _, rfl, rPe_up h⟩
      · rw [if_neg h2, if_neg h2]
    · rw [if_neg h1, if_neg h1]
theorem rdB_irr {f : Int32} {A : mA} {E : Nat → eN} {p k : Nat} {V P Y V' P' Y' : mS} (h : rPe k V P Y V' P' Y') : match rdB T z f A E (p, k, V, P, Y) with
    | .inl x => rdB T z f A E (p, k, V', P', Y') = .inl x
    | .inr (g, k1, V1, P1, Y1, rt, s) => ∃ V2 P2 Y2, rdB T z f A E (p, k, V', P', Y') = .inr (g, k1, V2, P2, Y2, rt, s) ∧ rPe k1 V1 P1 Y1 V2 P2 Y2 := by
  unfold rdB
  dsimp only
  by_cases h1 : rlk T z p = 41
  · rw [if_pos h1, if_pos h1]
    by_cases h2 : 48 ≤ rlk T z (p + 1) ∧ rlk T z (p + 1) ≤ 50
    · rw [if_pos h2, if_pos h2]
      by_cases h3 : rlk T z (p + 2) = 61
      · rw [if_pos h3, if_pos h3]
        cases hr : rdE T z 8 (p + 3, 0, A, E) with
        | inl x => rfl
        | inr s =>
          dsimp only
          by_cases h4 : s.1 = z
          · rw [if_pos h4, if_pos h4]
            exact ⟨_, _, _, rfl, h⟩
          · rw [if_neg h4, if_neg h4]
      · rw [if_neg h3, if_neg h3]
    · rw [if_neg h2, if_neg h2]
  · rw [if_neg h1, if_neg h1]
theorem rdF_irr {A : mA} {E : Nat → eN} {V P Y V' P' Y' : mS} : match rdF T z A E V P Y with
    | .inl x => rdF T z A E V' P' Y' = .inl x
    | .inr (g, k1, V1, P1, Y1, rt, s) => ∃ V2 P2 Y2, rdF T z A E V' P' Y' = .inr (g, k1, V2, P2, Y2, rt, s) ∧ rPe k1 V1 P1 Y1 V2 P2 Y2 := by
  have h0 : rPe 0 V P Y V' P' Y' := fun j hj => absurd hj (by omega)
  unfold rdF
  by_cases h1 : 65 ≤ rlk T z 0 ∧ rlk T z 0 ≤ 72
  · rw [if_pos h1, if_pos h1]
    by_cases h2 : rlk T z 1 = 40
    · rw [if_pos h2, if_pos h2]
      by_cases h3 : rlk T z 2 = 41
      · rw [if_pos h3, if_pos h3]
        exact rdB_irr h0
      · rw [if_neg h3, if_neg h3]
        have k := rdP_irr (T := T) (z := z) 4 0 2 V P Y V' P' Y' h0
        cases hr : rdP T z 4 0 2 V P Y with
        | inl x =>
          rw [hr] at k
          have k : rdP T z 4 0 2 V' P' Y' = .inl x := k
          rw [k]
        | inr q =>
          obtain ⟨p1, k1, V1, P1, Y1⟩ := q
          rw [hr] at k
          obtain ⟨V2, P2, Y2, k, hk⟩ := k
          rw [k]
          exact rdB_irr hk
    · rw [if_neg h2, if_neg h2]
  · rw [if_neg h1, if_neg h1]
theorem rdB_ok {f : Int32} {A : mA} {E : Nat → eN} {q : Nat × Nat × mS × mS × mS} {a : rF} (hz : z ≤ 150) (hq : q.1 ≤ z) (h : rdB T z f A E q = .inr a) : a.1 = f ∧ a.2.1 = q.2.1 ∧ a.2.2.1 = q.2.2.1 ∧ a.2.2.2.1 = q.2.2.2.1 ∧ a.2.2.2.2.1 = q.2.2.2.2 ∧ (∃ y, y < 3 ∧ a.2.2.2.2.2.1 = nI y) ∧ a.2.2.2.2.2.2.1 = z ∧ rdE T z 8 (q.1 + 3, 0, A, E) = .inr a.2.2.2.2.2.2 ∧ q.1 + 3 ≤ z := by
  unfold rdB at h
  by_cases h1 : rlk T z q.1 = 41
  · rw [if_pos h1] at h
    by_cases h2 : 48 ≤ rlk T z (q.1 + 1) ∧ rlk T z (q.1 + 1) ≤ 50
    · rw [if_pos h2] at h
      by_cases h3 : rlk T z (q.1 + 2) = 61
      · rw [if_pos h3] at h
        have hl := rlk_lt h3 (by decide)
        cases hr : rdE T z 8 (q.1 + 3, 0, A, E) with
        | inl x => rw [hr] at h; cases h
        | inr s =>
          rw [hr] at h
          dsimp only at h
          by_cases h4 : s.1 = z
          · rw [if_pos h4] at h
            cases h
            obtain ⟨y, hy, -, ey⟩ := let_c (a := 48) (b := 50) (by omega) (by omega) h2.1 h2.2
            exact ⟨rfl, rfl, rfl, rfl, rfl, ⟨y, by omega, ey⟩, h4, rfl, hl⟩
          · rw [if_neg h4] at h
            cases h
      · rw [if_neg h3] at h
        cases h
    · rw [if_neg h2] at h
      cases h
  · rw [if_neg h1] at h
    cases h
/-- what a text that is read gives: the tree, and that it is well made -/
theorem rdF_ok {A : mA} {E : Nat → eN} {V P Y : mS} {a : rF} (hz : z ≤ 150) (h : rdF T z A E V P Y = .inr a) : ∃ f, rdOk a f ∧ rPk a.2.1 a.2.2.1 a.2.2.2.1 a.2.2.2.2.1 ∧ (∃ y, y < 3 ∧ a.2.2.2.2.2.1 = nI y) ∧ a.2.2.2.2.2.2.1 = z ∧ tT a.2.2.2.2.2.2.2.2.1 a.2.2.2.2.2.2.2.2.2 8 0 a.2.2.2.2.2.2.2.1 ∧ rKA (0, 0, A, E) a.2.2.2.2.2.2 := by
  have h0 : rPk 0 V P Y := fun j hj => absurd hj (by omega)
  unfold rdF at h
  by_cases h1 : 65 ≤ rlk T z 0 ∧ rlk T z 0 ≤ 72
  · rw [if_pos h1] at h
    obtain ⟨f, hf, -, ef⟩ := let_c (a := 65) (b := 72) (by omega) (by omega) h1.1 h1.2
    have ef : rlk T z 0 - 65 = nI f := ef
    by_cases h2 : rlk T z 1 = 40
    · rw [if_pos h2] at h
      have hl := rlk_lt h2 (by decide)
      have fin : ∀ q : Nat × Nat × mS × mS × mS, q.1 ≤ z → q.2.1 ≤ 4 → rPk q.2.1 q.2.2.1 q.2.2.2.1 q.2.2.2.2 → rdB T z (rlk T z 0 - 65) A E q = .inr a → ∃ f, rdOk a f ∧ rPk a.2.1 a.2.2.1 a.2.2.2.1 a.2.2.2.2.1 ∧ (∃ y, y < 3 ∧ a.2.2.2.2.2.1 = nI y) ∧ a.2.2.2.2.2.2.1 = z ∧ tT a.2.2.2.2.2.2.2.2.1 a.2.2.2.2.2.2.2.2.2 8 0 a.2.2.2.2.2.2.2.1 ∧ rKA (0, 0, A, E) a.2.2.2.2.2.2 := fun q hq h4 hk hB => by
        obtain ⟨b1, b2, b3, b4, b5, b6, b7, b8, b9⟩ := rdB_ok hz hq hB
        obtain ⟨t1, t2⟩ := rdE_tT hz 8 _ _ b9 b8
        have hres := rdE_res (T := T) (z := z) 8 (q.1 + 3, 0, A, E) b9
        rw [b8] at hres
        have r4 : a.2.2.2.2.2.2.2.1 + (q.1 + 3) ≤ 0 + a.2.2.2.2.2.2.1 := hres.2.2.2
        have hlt := tT_lt t1
        have t1' : tT a.2.2.2.2.2.2.2.2.1 a.2.2.2.2.2.2.2.2.2 8 0 a.2.2.2.2.2.2.2.1 := t1
        refine ⟨f, ⟨by omega, b1.trans ef, by omega, fun k hk' => ?_, hlt, by omega, fun i hi => (tT_wf t1' (Nat.zero_le _) hi).2 _ (Nat.le_refl _), tT_dp t1'⟩, ?_, b6, b7, t1', t2⟩
        · rw [b3]
          exact (hk k (by omega)).1
        · rw [b2, b3, b4, b5]
          exact hk
      by_cases h3 : rlk T z 2 = 41
      · rw [if_pos h3] at h
        exact fin _ (by show 2 ≤ z; omega) (by show 0 ≤ 4; omega) h0 h
      · rw [if_neg h3] at h
        cases hr : rdP T z 4 0 2 V P Y with
        | inl x => rw [hr] at h; cases h
        | inr q =>
          rw [hr] at h
          obtain ⟨k1, k2, k3⟩ := rdP_ok hz 4 0 2 V P Y (by omega) (by omega) h0 hr
          exact fin q k3 k1 k2 h
    · rw [if_neg h2] at h
      cases h
  · rw [if_neg h1] at h
    cases h
end RDF
