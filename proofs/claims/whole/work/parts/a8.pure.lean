section P8
variable {A A' : mA} {E E' : Nat → eN} {cl : Nat → Option cF} {V P Y : mS} {rt : Int32} {cn N : Nat}
theorem par_rel : ∀ (m k : Nat) (s : cS) (u : bS), m + k ≤ cn → rPk cn V P Y → sE s u → bnd s.1 → (∃ q, cPar V P Y m k s = .inl q ∧ lPar V P Y m k u = .inl q ∧ 0 ≤ q) ∨ ∃ t s1 u1, cPar V P Y m k s = .inr (t, s1) ∧ lPar V P Y m k u = .inr u1 ∧ sE s1 u1 ∧ bnd s1.1
  | 0, k, s, u, _, _, hs, hb => Or.inr ⟨0, s, u, rfl, rfl, hs, hb⟩
  | m + 1, k, s, u, hm, hpk, hs, hb => by
    obtain ⟨⟨v0, hv20, ev⟩, ⟨w0, hw, ew⟩, hy⟩ := hpk k (by omega)
    have hix : cIx (V k) = v0 := by rw [ev]; exact nI_clamp (by omega)
    have hiff : s.1 v0 = -1 ↔ u.1 v0 < 0 := by
      rw [← hs.1 v0 hv20]
      rcases hb v0 hv20 with q | ⟨y, hy, q⟩
      · rw [q]; decide
      · rw [q]
        refine ⟨fun w => ?_, fun w => absurd w (nI_pos (by omega))⟩
        have := congrArg Int32.toInt w
        rw [nI_toInt (by omega)] at this
        have e1 : (-1 : Int32).toInt = -1 := rfl
        omega
    unfold cPar lPar
    rw [hix]
    by_cases q : s.1 v0 = -1
    · rw [if_pos q, if_pos (hiff.mp q), ev]
      obtain ⟨h1, h2⟩ := bind_rel (v0 := v0) hv20 hy hs hb
      exact par_rel m (k + 1) _ _ (by omega) hpk h1 h2
    · rw [if_neg q, if_neg (fun w => q (hiff.mpr w))]
      exact Or.inl ⟨_, rfl, rfl, by rw [ew]; exact nI_nonneg (by omega)⟩
theorem end_rel : ∀ (m k : Nat) (s : cS) (u : bS), m + k ≤ cn → rPk cn V P Y → s.2.1 = u.2 → (∃ q, cEnd V P m k s = .inl q ∧ lEnd V P m k u = .inl q ∧ 0 ≤ q) ∨ (cEnd V P m k s = .inr (0, s) ∧ lEnd V P m k u = .inr u)
  | 0, k, s, u, _, _, hs => Or.inr ⟨rfl, rfl⟩
  | m + 1, k, s, u, hm, hpk, hs => by
    obtain ⟨-, ⟨w0, hw, ew⟩, -⟩ := hpk k (by omega)
    unfold cEnd lEnd
    rw [← hs]
    by_cases q : cOwn s.2.1 (V k)
    · rw [if_pos q, if_pos (own_iff.mp q)]
      exact Or.inl ⟨_, rfl, rfl, by rw [ew]; exact nI_nonneg (by omega)⟩
    · rw [if_neg q, if_neg (fun w => q (own_iff.mpr w))]
      exact end_rel m (k + 1) s u (by omega) hpk hs
/-- the two checks of a function agree -/
theorem chk_rel {old : Option Nat} {b : Bool} {B0 : mS} (hcl : clR cl) (hT : tT A E 8 0 N) (hpk : rPk cn V P Y) (ho : old = none ↔ b = false) : (∃ q, chk cl old cn V P Y rt E = .inl q ∧ lChk cl b cn V P Y rt E B0 = .inl q ∧ 0 ≤ q) ∨ ∃ s u, chk cl old cn V P Y rt E = .inr (0, s) ∧ lChk cl b cn V P Y rt E B0 = .inr u := by
  unfold chk lChk
  by_cases q : old = none
  · rw [if_pos q, ho.mp q]
    rw [if_neg (by decide)]
    have h0 : sE (cT0, 0, E) (fl B0 20 (-1), 0) := ⟨fun v hv => by show cT0 v = fl B0 20 (-1) v; unfold cT0 fl; rw [if_pos hv, if_pos hv], rfl⟩
    have b0 : bnd cT0 := fun v hv => Or.inl (by unfold cT0 fl; rw [if_pos hv])
    rcases par_rel (cn := cn) cn 0 (cT0, 0, E) (fl B0 20 (-1), 0) (by omega) hpk h0 b0 with ⟨x, h1, h2, h3⟩ | ⟨t, s1, u1, h1, h2, h3, h4⟩
    · rw [h1, h2]
      exact Or.inl ⟨x, rfl, rfl, h3⟩
    · rw [h1, h2]
      have hE := cPar_E _ _ _ h1
      have hE : s1.2.2 = E := hE
      have r := ck_lk hcl 8 0 N s1 u1 hT (by rw [hE]; exact eSm.refl) h3 h4
      dsimp only
      show (∃ q, cB (ck cl 8 0 s1) _ = .inl q ∧ _) ∨ ∃ s u, cB (ck cl 8 0 s1) _ = .inr (0, s) ∧ _
      cases hc : ck cl 8 0 s1 with
      | inl x => cases hl : lk cl E 8 0 u1 with
        | inl x' =>
          rw [hc, hl] at r
          obtain ⟨rfl, r2⟩ := r
          exact Or.inl ⟨x, rfl, rfl, r2⟩
        | inr a => rw [hc, hl] at r; exact False.elim r
      | inr a =>
        obtain ⟨t1, s2⟩ := a
        cases hl : lk cl E 8 0 u1 with
        | inl x' => rw [hc, hl] at r; exact False.elim r
        | inr a' =>
          obtain ⟨t1', u2⟩ := a'
          rw [hc, hl] at r
          obtain ⟨rfl, -, r3, r4⟩ := r
          dsimp only
          have hsm : eSm E s2.2.2 := ck_sm' (s := s1) (by rw [hE]; exact eSm.refl) hc
          show (∃ q, (if t1 = rt then cEnd V P cn 0 s2 else .inl (s2.2.2 0).2.1) = .inl q ∧ _) ∨ ∃ s u, (if t1 = rt then cEnd V P cn 0 s2 else .inl (s2.2.2 0).2.1) = .inr (0, s) ∧ _
          by_cases q1 : t1 = rt
          · rw [if_pos q1, if_pos q1]
            rcases end_rel (cn := cn) cn 0 s2 u2 (by omega) hpk r3.2 with ⟨x, h1, h2, h3⟩ | ⟨h1, h2⟩
            · exact Or.inl ⟨x, h1, h2, h3⟩
            · exact Or.inr ⟨s2, u2, h1, h2⟩
          · rw [if_neg q1, if_neg q1, eSm_pl hsm]
            exact Or.inl ⟨_, rfl, rfl, (eNn_of hT).pl⟩
  · have hb : b = true := by
      cases b with
      | true => rfl
      | false => exact absurd (ho.mpr rfl) q
    rw [if_neg q, hb, if_pos rfl]
    exact Or.inl ⟨0, rfl, rfl, by decide⟩
theorem cEnd_E : ∀ (m k : Nat) (s : cS) {t : Int32} {s' : cS}, cEnd V P m k s = .inr (t, s') → s' = s
  | 0, _, s, t, s', h => by cases h; rfl
  | m + 1, k, s, t, s', h => by
    unfold cEnd at h
    by_cases q : cOwn s.2.1 (V k)
    · rw [if_pos q] at h; cases h
    · rw [if_neg q] at h; exact cEnd_E m (k + 1) s h
theorem chk_sm {old : Option Nat} {t : Int32} {s : cS} (h : chk cl old cn V P Y rt E = .inr (t, s)) : eSm E s.2.2 ∧ old = none := by
  unfold chk at h
  by_cases q : old = none
  · rw [if_pos q] at h
    cases hp : cPar V P Y cn 0 (cT0, 0, E) with
    | inl x => rw [hp] at h; cases h
    | inr a =>
      obtain ⟨t1, s1⟩ := a
      rw [hp] at h
      have hE := cPar_E _ _ _ hp
      have hE : s1.2.2 = E := hE
      have h : cB (ck cl 8 0 s1) _ = .inr (t, s) := h
      cases hc : ck cl 8 0 s1 with
      | inl x => rw [hc] at h; cases h
      | inr a =>
        obtain ⟨t2, s2⟩ := a
        rw [hc] at h
        have hsm : eSm E s2.2.2 := ck_sm' (s := s1) (by rw [hE]; exact eSm.refl) hc
        have h : (if t2 = rt then cEnd V P cn 0 s2 else .inl (s2.2.2 0).2.1) = .inr (t, s) := h
        by_cases q1 : t2 = rt
        · rw [if_pos q1] at h
          rw [cEnd_E _ _ _ h]
          exact ⟨hsm, q⟩
        · rw [if_neg q1] at h
          cases h
  · rw [if_neg q] at h
    cases h
/-! trees at another base -/
def uN (A : mA) (E : Nat → eN) (bs j : Nat) : Prop := (E j).1 < 14 ∧ A 87 (bs + j) = nI (E j).1 ∧ A 90 (bs + j) = nI (E j).2.2.2.1 ∧ tArg (A 88 (bs + j)) (E j) ∧ eCnt (E j).1 (E j).2.2.2.1 ∧ (E j).2.2.2.1 ≤ 4
def uT (A : mA) (E : Nat → eN) (bs : Nat) : Nat → Nat → Nat → Prop
  | 0, _, _ => False
  | d + 1, j, b => uN A E bs j ∧ A 91 (bs + j) = nI (bs + b) ∧ tC (uT A E bs d) (E j).2.2.1 (E j).2.2.2.1 0 (j + 1) b
theorem uT_lt {bs : Nat} : ∀ {d j b : Nat}, uT A E bs d j b → j < b
  | 0, _, _, h => False.elim h
  | d + 1, j, b, h => tC_le (fun x y r => uT_lt r) h.2.2
theorem uT_same {bs : Nat} : ∀ {d j b : Nat}, (∀ k, j ≤ k → k < b → ∀ a, 87 ≤ a → a ≤ 91 → A' a (bs + k) = A a (bs + k)) → uT A E bs d j b → uT A' E bs d j b
  | 0, _, _, _, h => h
  | d + 1, j, b, hs, h => by
    have hl := uT_lt h
    obtain ⟨h1, h2, h3⟩ := h
    have e2 := hs j (Nat.le_refl _) hl
    refine ⟨?_, (e2 91 (by omega) (by omega)).trans h2, tC_mono (fun x y r => uT_lt r) (fun _ _ _ => rfl) (fun x y hx hy r => uT_same (fun k a b => hs k (by omega) (by omega)) r) h3⟩
    unfold uN at h1 ⊢
    rw [e2 87 (by omega) (by omega), e2 88 (by omega) (by omega), e2 90 (by omega) (by omega)]
    exact h1
theorem tT_sm (g : eSm E E') : ∀ {d j b : Nat}, tT A E d j b → tT A E' d j b
  | 0, _, _, h => h
  | d + 1, j, b, h => by
    obtain ⟨h1, h2, h3⟩ := h
    obtain ⟨c, e⟩ := g j
    refine ⟨?_, h2, ?_⟩
    · unfold tN at h1 ⊢
      rw [e]
      exact h1
    · rw [e]
      exact tC_mono (fun x y r => tT_lt r) (fun _ _ _ => rfl) (fun x y _ _ r => tT_sm g r) h3
/-- a tree that has been copied to another base -/
theorem uT_of {f : Nat} : ∀ {d j b : Nat}, b ≤ N → N ≤ 150 → f < 8 → (∀ q, q < N → A' 87 (150 * f + q) = A 87 (1200 + q) ∧ A' 88 (150 * f + q) = A 88 (1200 + q) ∧ A' 90 (150 * f + q) = A 90 (1200 + q) ∧ A' 91 (150 * f + q) = A 91 (1200 + q) - 1200 + nI (150 * f)) → tT A E d j b → uT A' E (150 * f) d j b
  | 0, _, _, _, _, _, _, h => h
  | d + 1, j, b, hb, hN, hf, hc, h => by
    have hl := tT_lt h
    obtain ⟨⟨t1, t2, t3, t4, t5, t6, t7, t8⟩, h2, h3⟩ := h
    obtain ⟨c1, c2, c3, c4⟩ := hc j (by omega)
    refine ⟨⟨t1, c1.trans t2, c3.trans t3, by rw [c2]; exact t6, t7, t8⟩, ?_, tC_mono (fun x y r => tT_lt r) (fun _ _ _ => rfl) (fun x y hx hy r => uT_of (Nat.le_trans hy hb) hN hf hc r) h3⟩
    rw [c4, h2, show nI (1200 + b) = nI b + 1200 by rw [show nI b + 1200 = nI (b + 1200) from nI_add b 1200, Nat.add_comm], Int32.add_sub_cancel, nI_add, Nat.add_comm]
end P8
/-! the reading looks only at the text's own characters -/
section PT8
variable {T T' : Nat → Int32} {z : Nat}
theorem rDigs_T (h : ∀ p, rlk T z p = rlk T' z p) : ∀ (k p v : Nat), rDigs T z k p v = rDigs T' z k p v
  | 0, _, _ => rfl
  | k + 1, p, v => by
    unfold rDigs
    rw [h p, rDigs_T h k]
theorem rHead_T (h : ∀ p, rlk T z p = rlk T' z p) (s : rS) : rHead T z s = rHead T' z s := by
  unfold rHead rHw rHv
  simp only [h, rDigs_T h]
theorem rBehO_T (h : ∀ p, rlk T z p = rlk T' z p) (K k i : Nat) (s : rS) : rBehO T z K k i s = rBehO T' z K k i s := by
  unfold rBehO rTk
  simp only [h]
theorem rParts_T {R : rS → rR} (h : ∀ p, rlk T z p = rlk T' z p) {K i : Nat} {vw : Option (Int32 × Nat)} : ∀ (m k : Nat) (s : rS), rParts T z R K i vw m k s = rParts T' z R K i vw m k s
  | 0, _, _ => rfl
  | m + 1, k, s => by
    cases hs : R s with
    | inl q => rw [rParts_ill hs, rParts_ill hs]
    | inr s2 =>
      rw [rParts_ok hs, rParts_ok hs, rBeh_O, rBeh_O, rBehO_T h]
      cases rBehO T' z K k i (rAdd i s.2.1 s2) with
      | inl q => rfl
      | inr y => cases y with
        | inl y => exact rParts_T h m (k + 1) y
        | inr y => rfl
theorem rOG_T {R : rS → rR} (h : ∀ p, rlk T z p = rlk T' z p) (i : Nat) (x : rO) : rOG T z R i x = rOG T' z R i x := by
  cases x with
  | inl q => rfl
  | inr y => cases y with
    | inl y => rfl
    | inr y => exact rParts_T h 4 0 y.2.2
theorem rdE_T (h : ∀ p, rlk T z p = rlk T' z p) (d : Nat) : ∀ s : rS, rdE T z d s = rdE T' z d s := by
  induction d with
  | zero => exact fun s => rfl
  | succ d ih =>
    intro s
    rw [rdE_head, rdE_head, rHead_T h, rOG_T h, funext ih]
theorem rdP_T (h : ∀ p, rlk T z p = rlk T' z p) : ∀ (m k p : Nat) (V P Y : mS), rdP T z m k p V P Y = rdP T' z m k p V P Y
  | 0, _, _, _, _, _ => rfl
  | m + 1, k, p, V, P, Y => by
    unfold rdP
    simp only [h, rdP_T h m]
theorem rdF_T (h : ∀ p, rlk T z p = rlk T' z p) (A : mA) (E : Nat → eN) (V P Y : mS) : rdF T z A E V P Y = rdF T' z A E V P Y := by
  unfold rdF rdB
  simp only [h, rdP_T h, rdE_T h]
end PT8
