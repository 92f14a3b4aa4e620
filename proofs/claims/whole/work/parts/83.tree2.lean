section TR3
variable {T : Nat → Int32} {z d K i k c w : Nat} {vw : Option (Int32 × Nat)}
theorem tO_add {s s2 : rS} (hi : i < s.2.1) (h : tO s.2.2.1 s.2.2.2 d K vw w i k c s.2.1) (t2 : tT s2.2.2.1 s2.2.2.2 d s.2.1 s2.2.1) (ka : rKA s s2) (ke : ∀ j, j < s.2.1 → s2.2.2.2 j = s.2.2.2 j) : tO (rAdd i s.2.1 s2).2.2.1 (rAdd i s.2.1 s2).2.2.2 d K vw w i k (c + 1) s2.2.1 := by
  obtain ⟨h0, h1, h2, h3, h4, h5, h6, h7, h8⟩ := h
  have hAn : ∀ a q, (a ≠ 90 ∨ q ≠ 1200 + i) → (rAdd i s.2.1 s2).2.2.1 a q = s2.2.2.1 a q := fun a q hq => vu_ne hq
  have hEn : ∀ q, q ≠ i → (rAdd i s.2.1 s2).2.2.2 q = s2.2.2.2 q := fun q hq => va_up_ne _ _ hq
  have hEi : (rAdd i s.2.1 s2).2.2.2 i = eAdd (s.2.2.2 i) s.2.1 := by show va_up _ i _ i = _; rw [va_up_self, ke i hi]
  have hai : ∀ a, s2.2.2.1 a (1200 + i) = s.2.2.1 a (1200 + i) := fun a => ka a _ (Or.inr (Or.inr (by omega)))
  have hlt := tT_lt t2
  refine ⟨h0, ?_, ?_, ?_, ?_, ?_, ?_, ?_, ?_⟩
  · rw [hAn _ _ (Or.inl (by decide)), hai]; exact h1
  · show va_up s2.2.2.1 90 (upd (s2.2.2.1 90) (1200 + i) (s2.2.2.1 90 (1200 + i) + 1)) 90 (1200 + i) = _
    rw [va_up_self, upd_self, hai, h2, nI_1]
  · rw [hAn _ _ (Or.inl (by decide)), hai]; exact h3
  · rw [hEi]; exact h4
  · rw [hEi]; exact h5
  · rw [hEi]; show (s.2.2.2 i).2.2.2.1 + 1 = _; rw [h6]
  · rw [hEi]
    refine tC_snoc (b := s.2.1) ?_ ?_ ?_
    · refine tC_mono (fun x y r => tT_lt r) (fun j a b => ?_) (fun x y hx hy r => ?_) h7
      · exact va_up_ne _ _ (by omega)
      · refine tT_same (fun q a b => ⟨?_, fun e _ _ => ?_⟩) r
        · rw [hEn q (by omega), ke q (by omega)]
        · rw [hAn _ _ (Or.inr (by omega))]
          exact ka _ _ (Or.inr (Or.inr (by omega)))
    · show va_up (s.2.2.2 i).2.2.1 (s.2.2.2 i).2.2.2.1 (some s.2.1) (0 + c) = _
      rw [h6, Nat.zero_add, va_up_self]
    · refine tT_same (fun q a b => ⟨hEn q (by omega), fun e _ _ => hAn _ _ (Or.inr (by omega))⟩) t2
  · rw [hEi, hAn _ _ (Or.inl (by decide)), hai]
    exact h8
theorem tO_op {s : rS} {x : Int32} (hK : K = 2) (h : tO s.2.2.1 s.2.2.2 d K vw w i k c s.2.1) : tO (rOp i x s).2.2.1 (rOp i x s).2.2.2 d K vw w i (k + 1) c s.2.1 := by
  subst hK
  obtain ⟨h0, h1, h2, h3, h4, h5, h6, h7, h8⟩ := h
  have hAn : ∀ a q, (a ≠ 88 ∨ q ≠ 1200 + i) → (rOp i x s).2.2.1 a q = s.2.2.1 a q := fun a q hq => vu_ne hq
  have hEn : ∀ q, q ≠ i → (rOp i x s).2.2.2 q = s.2.2.2 q := fun q hq => va_up_ne _ _ hq
  have hEi : (rOp i x s).2.2.2 i = eOp (s.2.2.2 i) x := va_up_self _ _ _
  refine ⟨h0, ?_, ?_, ?_, ?_, ?_, ?_, ?_, ?_⟩
  · rw [hAn _ _ (Or.inl (by decide))]; exact h1
  · rw [hAn _ _ (Or.inl (by decide))]; exact h2
  · rw [hAn _ _ (Or.inl (by decide))]; exact h3
  · rw [hEi]; exact h4
  · rw [hEi]; exact h5
  · rw [hEi]; exact h6
  · rw [hEi]
    refine tC_mono (fun x y r => tT_lt r) (fun j a b => rfl) (fun x y hx hy r => ?_) h7
    exact tT_same (fun q a b => ⟨hEn q (by omega), fun e _ _ => hAn _ _ (Or.inr (by omega))⟩) r
  · obtain ⟨g1, g2, g3, g4, g5, g6, g7⟩ := h8
    rw [hEi]
    refine ⟨g1, g2, fun _ _ => ?_, fun q => absurd q (by decide), fun q => absurd q (by decide), fun q => absurd q (by decide), g7⟩
    show va_up s.2.2.1 88 (upd (s.2.2.1 88) (1200 + i) x) 88 (1200 + i) = _
    rw [va_up_self, upd_self]
    rfl
theorem tO_close {s : rS} (h : tO s.2.2.1 s.2.2.2 d K vw w i k c s.2.1) (hk : kOK K k) (h2k : K = 2 → 0 < k) (hc : eCnt K c) (hc4 : c ≤ 4) : tT (rClose i vw s).2.2.1 (rClose i vw s).2.2.2 (d + 1) i s.2.1 := by
  obtain ⟨h0, h1, h2, h3, h4, h5, h6, h7, h8⟩ := h
  obtain ⟨hK, -⟩ := hk
  have hAn : ∀ a q, (a ≠ 91 ∨ q ≠ 1200 + i) → (rClose i vw s).2.2.1 a q = s.2.2.1 a q := fun a q hq => vu_ne hq
  have hEn : ∀ q, q ≠ i → (rClose i vw s).2.2.2 q = s.2.2.2 q := fun q hq => by
    unfold rClose
    cases vw with
    | none => rfl
    | some a => exact va_up_ne _ _ hq
  have hle := tC_le (fun x y r => tT_lt r) h7
  obtain ⟨g1, g2, g3, g4, g5, g6, g7⟩ := h8
  have hE : ∃ e', (rClose i vw s).2.2.2 i = e' ∧ e'.1 = K ∧ e'.2.1 = nI w ∧ e'.2.2.2.1 = c ∧ e'.2.2.1 = (s.2.2.2 i).2.2.1 ∧ tArg (s.2.2.1 88 (1200 + i)) e' := by
    by_cases q78 : K = 7 ∨ K = 8
    · obtain ⟨⟨v, hv, ev⟩, evw⟩ := g6 q78
      subst evw
      refine ⟨_, rfl, ?_⟩
      have e1 : (rClose i (some (s.2.2.1 88 (1200 + i), w)) s).2.2.2 i = eVar (s.2.2.2 i) (s.2.2.1 88 (1200 + i)) (nI w) := va_up_self _ _ _
      rw [e1]
      refine ⟨h4, h5, h6, rfl, ⟨v, hv, ev⟩, g2, fun q => ?_, fun q => ?_, fun q => ?_, fun _ _ _ _ _ _ => rfl, fun _ => h5.symm, fun q => ?_⟩
      · have q : (s.2.2.2 i).1 = 0 := q
        clear g1 g2 g6; omega
      · have q : (s.2.2.2 i).1 = 2 := q
        clear g1 g2 g6; omega
      · have q : (s.2.2.2 i).1 = 13 := q
        clear g1 g2 g6; omega
      · have q : (s.2.2.2 i).1 = 4 ∨ 9 ≤ (s.2.2.2 i).1 := q
        clear g1 g2 g6; omega
    · have evw := g7 (by clear g1 g2 g6; omega) (by clear g1 g2 g6; omega)
      subst evw
      refine ⟨_, rfl, ?_⟩
      have e1 : (rClose i none s).2.2.2 i = s.2.2.2 i := rfl
      rw [e1]
      refine ⟨h4, h5, h6, rfl, g1, g2, fun q => ?_, fun q => ?_, fun q => ?_, fun q0 q2 q3 q5 q6 q13 => ?_, fun q => ?_, fun q q13 => ?_⟩
      · clear g1 g2 g6; omega
      · exact g3 (by clear g1 g2 g6; omega) (h2k (by clear g1 g2 g6; omega))
      · exact g4 (by clear g1 g2 g6; omega)
      · exact (g5 (by clear g1 g2 g6; omega)).1
      · clear g1 g2 g6; omega
      · rw [(g5 (by clear g1 g2 g6; omega)).2, h5, nI_1]
  obtain ⟨e', e1, e2, e3, e4, e5, e6⟩ := hE
  refine ⟨?_, ?_, ?_⟩
  · unfold tN
    rw [e1, e2, e3, e4, hAn 87 _ (Or.inl (by decide)), hAn 88 _ (Or.inl (by decide)), hAn 89 _ (Or.inl (by decide)), hAn 90 _ (Or.inl (by decide))]
    exact ⟨by omega, h1, h2, h3, ⟨w, h0, rfl⟩, e6, hc, hc4⟩
  · show va_up s.2.2.1 91 (upd (s.2.2.1 91) (1200 + i) (nI (1200 + s.2.1))) 91 (1200 + i) = _
    rw [va_up_self, upd_self]
  · rw [e1, e4, e5]
    refine tC_mono (fun x y r => tT_lt r) (fun j a b => rfl) (fun x y hx hy r => ?_) h7
    exact tT_same (fun q a b => ⟨hEn q (by omega), fun e _ _ => hAn _ _ (Or.inr (by omega))⟩) r
theorem rParts_tT (hR : ∀ s b, s.1 ≤ z → rdE T z d s = .inr b → tT b.2.2.1 b.2.2.2 d s.2.1 b.2.1 ∧ rKA s b) : ∀ (m k : Nat) (s b : rS), s.1 ≤ z → i < s.2.1 → kOK K k → tO s.2.2.1 s.2.2.2 d K vw w i k k s.2.1 → rParts T z (rdE T z d) K i vw m k s = .inr b → tT b.2.2.1 b.2.2.2 (d + 1) i b.2.1 ∧ rKAi i s b
  | 0, k, s, b, _, _, _, _, h => nomatch h
  | m + 1, k, s, b, hz, hi, hk, ho, h => by
    cases hr : rdE T z d s with
    | inl q => rw [rParts_ill hr] at h; cases h
    | inr s2 =>
      rw [rParts_ok hr, rBeh_O] at h
      obtain ⟨t2, ka⟩ := hR s s2 hz hr
      have ks := rdE_ks (T := T) (z := z) d s
      have kres := rdE_res (T := T) (z := z) d s hz
      rw [hr] at ks kres
      obtain ⟨ks1, ks2⟩ := ks
      have hz2 : s2.1 ≤ z := kres.2.1
      have ha := tO_add hi ho t2 ka ks2
      have kadd : ∀ a q, (a < 87 ∨ 91 < a ∨ (q < 1200 + s.2.1 ∧ q ≠ 1200 + i)) → (rAdd i s.2.1 s2).2.2.1 a q = s.2.2.1 a q := fun a q hq => (vu_ne (by omega)).trans (ka a q (by omega))
      cases hb : rBehO T z K k i (rAdd i s.2.1 s2) with
      | inl q => rw [hb] at h; cases h
      | inr y =>
        rw [hb] at h
        cases y with
        | inl s3 =>
          have h : rParts T z (rdE T z d) K i vw m (k + 1) s3 = .inr b := h
          obtain ⟨hk1, hs3⟩ := rBehO_more hk hb
          rcases hs3 with ⟨hK2, rfl⟩ | ⟨hK2, hk0, rfl⟩
          · have hz3 : s2.1 + 1 ≤ z := by
              have r := rBeh_res (T := T) (z := z) (K := K) (k := k) (i := i) (s := rAdd i s.2.1 s2) (g := fun s => .inr s) (f := fun s => .inr s) hz2 (fun b hb => rGood.refl hb.2.1) (fun b hb => rGood.refl hb.2.1)
              rw [rBeh_O, hb] at r
              exact r.2.1
            obtain ⟨g1, g2⟩ := rParts_tT hR m (k + 1) ((rAdd i s.2.1 s2).1 + 1, (rAdd i s.2.1 s2).2) b hz3 (show i < s2.2.1 by omega) hk1 (by
              obtain ⟨p0, p1, p2, p3, p4, p5, p6, p7, q1, q2, q3, q4, q5, q6, q7⟩ := ha
              exact ⟨p0, p1, p2, p3, p4, p5, p6, p7, q1, q2, fun e => absurd e hK2, q4, q5, q6, q7⟩) h
            refine ⟨g1, fun a q hq => (g2 a q ?_).trans (kadd a q hq)⟩
            have : (rAdd i s.2.1 s2).2.1 = s2.2.1 := rfl
            show a < 87 ∨ 91 < a ∨ (q < 1200 + s2.2.1 ∧ q ≠ 1200 + i)
            omega
          · have hz3 : s2.1 + 1 ≤ z := by
              have r := rBeh_res (T := T) (z := z) (K := K) (k := k) (i := i) (s := rAdd i s.2.1 s2) (g := fun s => .inr s) (f := fun s => .inr s) hz2 (fun b hb => rGood.refl hb.2.1) (fun b hb => rGood.refl hb.2.1)
              rw [rBeh_O, hb] at r
              exact r.2.1
            obtain ⟨g1, g2⟩ := rParts_tT hR m (k + 1) (rOp i (rlk T z (rAdd i s.2.1 s2).1) (rAdd i s.2.1 s2)) b hz3 (show i < s2.2.1 by omega) hk1 (tO_op hK2 ha) h
            refine ⟨g1, fun a q hq => (g2 a q ?_).trans ((vu_ne (by omega)).trans (kadd a q hq))⟩
            show a < 87 ∨ 91 < a ∨ (q < 1200 + s2.2.1 ∧ q ≠ 1200 + i)
            omega
        | inr s3 =>
          have h : (.inr (rClose i vw s3) : rR) = .inr b := h
          cases h
          obtain ⟨c1, c2, c3, c4⟩ := rBehO_done hk hb
          have ha' : tO s3.2.2.1 s3.2.2.2 d K vw w i k (k + 1) s3.2.1 := by rw [c3]; exact ha
          refine ⟨tO_close ha' hk (fun e => by have := c4 e; omega) c1 c2, fun a q hq => ?_⟩
          refine (vu_ne (by omega)).trans ?_
          rw [c3]
          exact kadd a q hq
end TR3
