def sB (A0 : mA) (P : Nat → Option uF) (SY : Nat → mS) (SR : Nat → Int32) (c d : Nat) : Prop := ∀ (E : Nat → eN) (bs i b : Nat) (cl : Nat → Option cF) (s s' : cS) (t : Int32) (env : Nat → aV) (k : aC) (fr ft : Nat) (S : xT) (O : Nat → Prop), uT A0 E bs d i b → bs + b ≤ 1200 → pCl P SY SR cl → clR cl → eSm E s.2.2 → ck cl d i s = .inr (t, s') → fr < ft → ft + d + 8 * c ≤ 65 → cQ S fr ft s.1 s.2.1 env k O →
  cOut O fr ft S s'.1 s'.2.1 env t (evD (PVf P) (evC (PVf P) (PEf P) c) E d i env k) (cvD P (cvC P c) E fr d i S)
section SIB
variable {A0 : mA} {P : Nat → Option uF} {SY : Nat → mS} {SR : Nat → Int32} {c d : Nat}
theorem sB_s (hP : pOk P SY SR) (hA : pRf A0 P) (IH : sB A0 P SY SR c d) (IHc : 0 < c → sB A0 P SY SR (c - 1) 8) : sB A0 P SY SR c (d + 1) := by
  intro E bs i b cl s s' t env k fr ft S O hT hb hcl hclR hsm hck hfr hft hq
  have hN := gN_of hT hb
  rw [ck_at hsm] at hck
  obtain ⟨e, he⟩ : ∃ x, E i = x := ⟨_, rfl⟩
  have hpart := uT_part hT
  rw [he] at hN hck hpart
  obtain ⟨hnd, hk14, -, -, ⟨⟨v0, hv20, ev⟩, ⟨g, hg8, eg⟩, -⟩, hct, hc4, -⟩ := id hN
  have hix : cIx (eVr e) = v0 := by rw [ev]; exact nI_clamp (by omega)
  have hig : cIx (eNm e) = g := by rw [eg]; exact nI_clamp (by omega)
  unfold evD cvD
  rw [he]
  have h5 := hq.2.1.1
  have hk4 := hq.2.2.1.1
  by_cases q400 : k.1 = 400
  · rw [if_pos q400, if_pos (by rw [h5, q400]; decide)]
    exact hq.fault (q := 5)
  rw [if_neg q400, if_neg (by rw [h5]; exact fun w => absurd ((nI_leI (a := 400) (by omega) (by omega)).mp w) (by omega))]
  refine cOut.pre (kp_1 (i := 5) (x := S.1 5 + 1) (by omega)) ?_
  have hq := hq.tick q400
  obtain ⟨k1, hk1⟩ : ∃ x : aC, (k.1 + 1, k.2) = x := ⟨_, rfl⟩
  obtain ⟨S1, hS1⟩ : ∃ x : xT, (upd S.1 5 (S.1 5 + 1), S.2) = x := ⟨_, rfl⟩
  rw [hk1, hS1] at hq ⊢
  have ch : ∀ j, j < e.2.2.2.1 → ∀ (s s' : cS) (t : Int32) (env : Nat → aV) (k : aC) (ft : Nat) (S : xT) (O : Nat → Prop), eSm E s.2.2 → ck cl d (ePt e j) s = .inr (t, s') → fr < ft → ft + d + 8 * c ≤ 65 → cQ S fr ft s.1 s.2.1 env k O → cOut O fr ft S s'.1 s'.2.1 env t (evD (PVf P) (evC (PVf P) (PEf P) c) E d (ePt e j) env k) (cvD P (cvC P c) E fr d (ePt e j) S) := fun j hj s s' t env k ft S O h1 h2 h3 h4 h5 => by
    obtain ⟨y, hy1, hy2⟩ := hpart j hj
    exact IH E bs (ePt e j) y cl s s' t env k fr ft S O hy1 (by omega) hcl hclR h1 h2 h3 h4 h5
  have hft' : ft + d + 8 * c ≤ 65 := by omega
  have hcase : e.1 = 0 ∨ e.1 = 1 ∨ e.1 = 2 ∨ e.1 = 3 ∨ e.1 = 4 ∨ e.1 = 5 ∨ e.1 = 6 ∨ e.1 = 7 ∨ e.1 = 8 ∨ e.1 = 9 ∨ e.1 = 10 ∨ e.1 = 11 ∨ e.1 = 12 ∨ e.1 = 13 := by omega
  rcases hcase with hk | hk | hk | hk | hk | hk | hk | hk | hk | hk | hk | hk | hk | hk
  · rw [ckS_0 hk] at hck
    rw [evS_0 hk, cvS_0 hk]
    obtain ⟨t9, s9, h1, h2⟩ := cB_inv hck
    cases h2
    unfold cNum at h1
    rw [hct.1 hk] at h1
    rw [cAll_0 h1]
    exact hq.num
  · rw [ckS_1 hk] at hck
    rw [evS_1 hk, cvS_1 hk]
    obtain ⟨h1, rfl⟩ := cUse_inv hck
    obtain ⟨v1, v2, v3, v4, v5⟩ := cVar_inv h1
    rw [hix] at v1 ⊢
    rw [ev] at v3
    unfold cOff
    rw [ev]
    exact hq.use hv20 v1 (t3_of (by decide) v4 v5) v3
  · rw [ckS_2 hk] at hck
    rw [evS_2 hk, cvS_2 hk]
    have hcn : e.2.2.2.1 = 2 := hct.2.2.1 hk
    obtain ⟨t9, s9, h1, h2⟩ := cB_inv hck
    unfold cNum at h1
    rw [hcn] at h1
    obtain ⟨s1, g1, h1⟩ := cAll_s h1
    have sm1 := hsm.trans (ck_sm g1)
    obtain ⟨s2, g2, h1⟩ := cAll_s h1
    rw [cAll_0 h1] at h2
    cases h2
    refine cOut.bnd (ch 0 (by omega) s s1 0 env k1 ft S1 O hsm g1 hfr hft' hq) (fun k2 v2 S2 y2 hq2 hv2 => ?_)
    refine cOut.bnd (ch 1 (by omega) s1 s' 0 env k2 ft S2 O sm1 g2 hfr hft' hq2) (fun k3 v3 S3 y3 hq3 hv3 => ?_)
    rw [cVl0 hv2, cVl0 hv3]
    show cOut O fr ft S3 s'.1 s'.2.1 env 0 (match aOp e.2.2.2.2.2.1 y2 y3 with
      | .inl q => (k3, .inl q)
      | .inr z => (k3, .inr (.inl z))) (cvO e.2.2.2.2.2.1 y2 y3 S3)
    unfold cvO
    cases ho : aOp e.2.2.2.2.2.1 y2 y3 with
    | inl q => exact hq3.fault
    | inr z => exact hq3.num
  · rw [ckS_3 hk] at hck
    rw [evS_3 hk, cvS_3 hk]
    have hcn : e.2.2.2.1 = 3 := hct.2.2.2.1 hk
    unfold cCho at hck
    obtain ⟨t1, s1, h1, h2⟩ := cB_inv hck
    obtain ⟨t2, s2, h3, h4⟩ := cB_inv h2
    obtain ⟨t3, s3, h5, h6⟩ := cB_inv h4
    have g1 := cPart_inv h1
    have sm1 := hsm.trans (ck_sm g1)
    have sm2 := sm1.trans (ck_sm h3)
    by_cases q6 : t3 = t2 ∧ s3.2.1 = s2.2.1
    rotate_left
    · rw [if_neg q6] at h6
      cases h6
    rw [if_pos q6] at h6
    cases h6
    obtain ⟨q61, q62⟩ := q6
    have T21 := ck_T d _ s1 h3
    have T32 := ck_T d _ (s2.1, s1.2.1, s2.2.2) h5
    have T32 : ∀ v, s'.1 v = s2.1 v := T32
    refine cOut.bnd (ch 0 (by omega) s s1 0 env k1 ft S1 O hsm g1 hfr hft' hq) (fun k2 v2 S2 y2 hq2 hv2 => ?_)
    rw [cVl0 hv2]
    show cOut O fr ft S2 s'.1 s'.2.1 env t (if y2 = 0 then evD (PVf P) (evC (PVf P) (PEf P) c) E d (ePt e 2) env k2 else evD (PVf P) (evC (PVf P) (PEf P) c) E d (ePt e 1) env k2) (if y2 = 0 then cvD P (cvC P c) E fr d (ePt e 2) S2 else cvD P (cvC P c) E fr d (ePt e 1) S2)
    by_cases qx : y2 = 0
    · rw [if_pos qx, if_pos qx]
      have hgA : cQ S2 fr ft s2.1 s1.2.1 env k2 O := hq2.types T21
      rw [q61] at h5
      exact ch 2 (by omega) (s2.1, s1.2.1, s2.2.2) s' t env k2 ft S2 O sm2 h5 hfr hft' hgA
    · rw [if_neg qx, if_neg qx, q62]
      exact (ch 1 (by omega) s1 s2 t env k2 ft S2 O sm1 h3 hfr hft' hq2).fin (fun _ _ h => h.types T32)
  · rw [ckS_4 hk] at hck
    rw [evS_4 hk, cvS_4 hk]
    have hcn : e.2.2.2.1 = 2 := hct.2.2.2.2.1 hk
    unfold cBnd at hck
    rw [hix, ev] at hck
    rw [hix]
    by_cases qb : s.1 v0 = -1
    rotate_left
    · rw [if_neg qb] at hck
      cases hck
    rw [if_pos qb] at hck
    obtain ⟨t1, s1, h1, h2⟩ := cB_inv hck
    obtain ⟨t2, s2, h3, h4⟩ := cB_inv h2
    have sm1 := hsm.trans (ck_sm h1)
    have T1 := ck_T d _ s h1
    by_cases qo : cOwn s2.2.1 (nI v0)
    · rw [if_pos qo] at h4
      cases h4
    rw [if_neg qo] at h4
    cases h4
    have hbd : cBind (nI v0) t1 s1 = (upd s1.1 v0 t1, if t1 = 1 ∨ t1 = 2 then s1.2.1 ||| cBit (nI v0) else s1.2.1, s1.2.2) := by
      unfold cBind
      rw [show cIx (nI v0) = v0 from nI_clamp (by omega)]
    rw [hbd] at h3
    refine cOut.bnd (ch 0 (by omega) s s1 t1 env k1 ft S1 O hsm h1 hfr hft' hq) (fun k2 v2 S2 y2 hq2 hv2 => ?_)
    refine cOut.pre (kp_set (v0 := v0) (y := y2) (g := fr) (fun a ha => (hq2.2.2.2.2 a ha).1) (fun e _ h => h)) ?_
    have hgB := hq2.bind hv2 hv20 (by rw [T1]; exact qb)
    exact (ch 1 (by omega) (upd s1.1 v0 t1, if t1 = 1 ∨ t1 = 2 then s1.2.1 ||| cBit (nI v0) else s1.2.1, s1.2.2) s2 t (va_up env v0 v2) k2 ft _ O sm1 h3 hfr hft' hgB).fin (T := upd s2.1 v0 (-1)) (o := s2.2.1) (env := env) (fun _ _ h => h.unbind qo)
  · rw [ckS_5 hk] at hck
    rw [evS_5 hk, cvS_5 hk]
    have hcn : e.2.2.2.1 = 1 := hct.2.2.2.2.2.1 hk
    obtain ⟨t9, s9, h1, h2⟩ := cB_inv hck
    unfold cNum at h1
    rw [hcn] at h1
    obtain ⟨s1, g1, h1⟩ := cAll_s h1
    rw [cAll_0 h1] at h2
    cases h2
    refine cOut.bnd (ch 0 (by omega) s s' 0 env k1 ft S1 O hsm g1 hfr hft' hq) (fun k2 v2 S2 y2 hq2 hv2 => ?_)
    rw [cVl0 hv2]
    exact hq2.new y2 1 (Or.inl rfl) (fun _ => by decide)
  · rw [ckS_6 hk] at hck
    rw [evS_6 hk, cvS_6 hk]
    have hcn : e.2.2.2.1 = 2 := hct.2.2.2.2.2.2.1 hk
    obtain ⟨t9, s9, h1, h2⟩ := cB_inv hck
    unfold cNum at h1
    rw [hcn] at h1
    obtain ⟨s1, g1, h1⟩ := cAll_s h1
    have sm1 := hsm.trans (ck_sm g1)
    obtain ⟨s2, g2, h1⟩ := cAll_s h1
    rw [cAll_0 h1] at h2
    cases h2
    refine cOut.bnd (ch 0 (by omega) s s1 0 env k1 ft S1 O hsm g1 hfr hft' hq) (fun k2 v2 S2 y2 hq2 hv2 => ?_)
    refine cOut.bnd (ch 1 (by omega) s1 s' 0 env k2 ft S2 O sm1 g2 hfr hft' hq2) (fun k3 v3 S3 y3 hq3 hv3 => ?_)
    rw [cVl0 hv2, cVl0 hv3]
    exact hq3.new y2 y3 (Or.inr rfl) (fun w => absurd w (by decide))
  · rw [ckS_7 hk] at hck
    rw [evS_7 hk, cvS_7 hk]
    have hcn : e.2.2.2.1 = 1 ∨ e.2.2.2.1 = 2 := hct.2.2.2.2.2.2.2.1 hk
    obtain ⟨t9, s9, h1, h2⟩ := cB_inv hck
    unfold cNum at h1
    rw [hix]
    obtain ⟨rfl, rfl, tv, h2⟩ := cVr0_inv h2
    obtain ⟨v1, v2, v3, v4, v5⟩ := cVar_inv h2
    rw [hix] at v1
    rw [ev] at v3
    have htv : (tv : Int32) = 1 ∨ tv = 2 := t2_of (by split <;> decide) v4 (by have := v5; split at this <;> first | exact this | exact Int32.le_trans this (by decide))
    have ho := v3 htv
    rcases hcn with hcn | hcn
    · rw [hcn] at h1
      obtain ⟨s1, g1, h1⟩ := cAll_s h1
      obtain rfl := cAll_0 h1
      simp only [if_neg (show ¬ e.2.2.2.1 = 2 by omega)]
      refine cOut.bnd (ch 0 (by omega) s s' 0 env k1 ft S1 O hsm g1 hfr hft' hq) (fun k2 v2' S2 y2 hq2 hv2 => ?_)
      rw [cVl0 hv2]
      exact hq2.rd (hq2.1.2.1 v0 hv20 ho).2 y2 0
    · rw [hcn] at h1
      obtain ⟨s1, g1, h1⟩ := cAll_s h1
      have sm1 := hsm.trans (ck_sm g1)
      obtain ⟨s2, g2, h1⟩ := cAll_s h1
      obtain rfl := cAll_0 h1
      simp only [if_pos hcn]
      refine cOut.bnd (ch 0 (by omega) s s1 0 env k1 ft S1 O hsm g1 hfr hft' hq) (fun k2 v2' S2 y2 hq2 hv2 => ?_)
      refine cOut.bnd (ch 1 (by omega) s1 s' 0 env k2 ft S2 O sm1 g2 hfr hft' hq2) (fun k3 v3' S3 y3 hq3 hv3 => ?_)
      rw [cVl0 hv2, cVl0 hv3]
      exact hq3.rd (hq3.1.2.1 v0 hv20 ho).2 y2 y3
  · rw [ckS_8 hk] at hck
    rw [evS_8 hk, cvS_8 hk]
    have hcn : e.2.2.2.1 = 2 ∨ e.2.2.2.1 = 3 := hct.2.2.2.2.2.2.2.2.1 hk
    obtain ⟨t9, s9, h1, h2⟩ := cB_inv hck
    unfold cNum at h1
    rw [hix]
    obtain ⟨h3, rfl⟩ := cUse_inv h2
    obtain ⟨v1, v2, v3, v4, v5⟩ := cVar_inv h3
    rw [hix] at v1
    rw [ev] at v3
    have htv : (t : Int32) = 1 ∨ t = 2 := t2_of (by split <;> decide) v4 (by have := v5; split at this <;> first | exact this | exact Int32.le_trans this (by decide))
    have ho := v3 htv
    unfold cOff
    rw [ev, ← v1]
    rcases hcn with hcn | hcn
    · rw [hcn] at h1
      obtain ⟨s1, g1, h1⟩ := cAll_s h1
      have sm1 := hsm.trans (ck_sm g1)
      obtain ⟨s2, g2, h1⟩ := cAll_s h1
      obtain rfl := cAll_0 h1
      simp only [if_neg (show ¬ e.2.2.2.1 = 3 by omega), hcn]
      refine cOut.bnd (ch 0 (by omega) s s1 0 env k1 ft S1 O hsm g1 hfr hft' hq) (fun k2 v2' S2 y2 hq2 hv2 => ?_)
      show cOut O fr ft S2 _ _ env _ (aB (evD (PVf P) (evC (PVf P) (PEf P) c) E d (ePt e 1) env k2) _) (xB (cvD P (cvC P c) E fr d (ePt e 1) S2) _)
      refine cOut.bnd (ch 1 (by omega) s1 s9 0 env k2 ft S2 O sm1 g2 hfr hft' hq2) (fun k3 v3' S3 y3 hq3 hv3 => ?_)
      rw [cVl0 hv2, cVl0 hv3]
      exact hq3.put hv20 ho y2 0 y3
    · rw [hcn] at h1
      obtain ⟨s1, g1, h1⟩ := cAll_s h1
      have sm1 := hsm.trans (ck_sm g1)
      obtain ⟨s2, g2, h1⟩ := cAll_s h1
      have sm2 := sm1.trans (ck_sm g2)
      obtain ⟨s3, g3, h1⟩ := cAll_s h1
      obtain rfl := cAll_0 h1
      simp only [if_pos hcn]
      refine cOut.bnd (ch 0 (by omega) s s1 0 env k1 ft S1 O hsm g1 hfr hft' hq) (fun k2 v2' S2 y2 hq2 hv2 => ?_)
      refine cOut.bnd (ch 1 (by omega) s1 s2 0 env k2 ft S2 O sm1 g2 hfr hft' hq2) (fun k3 v3' S3 y3 hq3 hv3 => ?_)
      simp only [hcn]
      show cOut O fr ft S3 _ _ env _ (aB (evD (PVf P) (evC (PVf P) (PEf P) c) E d (ePt e 2) env k3) _) (xB (cvD P (cvC P c) E fr d (ePt e 2) S3) _)
      refine cOut.bnd (ch 2 (by omega) s2 s9 0 env k3 ft S3 O sm2 g3 hfr hft' hq3) (fun k4 v4' S4 y4 hq4 hv4 => ?_)
      rw [cVl0 hv2, cVl0 hv3, cVl0 hv4]
      exact hq4.put hv20 ho y2 y3 y4
  · rw [ckS_9 hk] at hck
    rw [evS_9 hk, cvS_9 hk]
    obtain ⟨rfl, rfl, tv, h2⟩ := cVr0_inv hck
    obtain ⟨v1, v2, v3, v4, v5⟩ := cVar_inv h2
    rw [hix]
    rw [ev] at v3
    have hv := (hq.1.2.1 v0 hv20 (v3 (t2_of (by decide) v4 v5))).2
    rw [xArr_of hv]
    obtain ⟨w1, w2, w3, r, cc, ct, w4, w5, w6, -⟩ := hv
    rw [w4, w5]
    exact hq.num
  · rw [ckS_10 hk] at hck
    rw [evS_10 hk, cvS_10 hk]
    obtain ⟨rfl, rfl, tv, h2⟩ := cVr0_inv hck
    obtain ⟨v1, v2, v3, v4, v5⟩ := cVar_inv h2
    rw [hix]
    rw [ev] at v3
    have hv := (hq.1.2.1 v0 hv20 (v3 (t2_of (by decide) v4 v5))).2
    rw [xArr_of hv]
    obtain ⟨w1, w2, w3, r, cc, ct, w4, w5, w6, -⟩ := hv
    rw [w4, w6]
    exact hq.num
  · rw [ckS_11 hk] at hck
    rw [evS_11 hk, cvS_11 hk]
    obtain ⟨rfl, h2⟩ := cVrT_inv hck
    obtain ⟨v1, v2, v3, v4, v5⟩ := cVar_inv h2
    rw [hix] at v1 ⊢
    rw [ev] at v3
    have htv := t2_of (by decide) v4 v5
    have hv := (hq.1.2.1 v0 hv20 (v3 htv)).2
    rw [v1] at hv
    exact hq.copy hv htv
  · rw [ckS_12 hk] at hck
    rw [evS_12 hk, cvS_12 hk]
    have hcn : e.2.2.2.1 = 1 := hct.2.2.2.2.2.2.2.2.2.2.2.2 hk
    obtain ⟨t1, s1, h1, h2⟩ := cB_inv hck
    obtain ⟨h3, rfl⟩ := cUse_inv h1
    obtain ⟨v1, v2, v3, v4, v5⟩ := cVar_inv h3
    rw [hix] at v1 ⊢
    rw [ev] at v3
    have ho := v3 (t2_of (by decide) v4 v5)
    rw [xArr_of (hq.1.2.1 v0 hv20 ho).2]
    obtain ⟨b1, b2⟩ := hq.give hv20 ho
    refine cOut.pre b2 ?_
    unfold cOff at h2
    rw [ev] at h2
    exact ch 0 (by omega) (s.1, s.2.1 &&& (cBit (nI v0) ^^^ (-1)), s.2.2) s' t env _ ft _ O hsm h2 hfr hft' b1
  · rw [ckS_13 hk] at hck
    rw [evS_13 hk, cvS_13 hk]
    unfold cCall at hck
    unfold cvL
    rw [hig] at hck ⊢
    cases hqc : cl g with
    | none => rw [hqc] at hck; cases hck
    | some u0 =>
      obtain ⟨a0, cn, Y, rt⟩ := u0
      rw [hqc] at hck
      dsimp only at hck
      by_cases qn : cn = e.2.2.2.1
      rotate_left
      · rw [if_neg qn] at hck
        cases hck
      rw [if_pos qn] at hck
      obtain ⟨t9, s9, h1, h2⟩ := cB_inv hck
      cases h2
      obtain ⟨u, hu, -, hucn, hSR, hSY⟩ := hcl g a0 cn Y t hg8 hqc
      obtain ⟨-, hu4, hV, hN0, hN150, -, hrg, clu, P0, E0, tu, su1, su2, hclu, hcluR, hsmu, hpar, hbody, hend⟩ := hP g u hu
      obtain ⟨huT, -, -⟩ := hA g u hu
      rw [PVf_of hu, hu]
      have h7 := hq.2.2.2.1
      have hc7 : cIx (S1.1 7) = ft := by rw [h7]; exact nI_clamp (by omega)
      dsimp only
      rw [hc7, if_pos ⟨h7, by omega⟩]
      have args : ∀ (q j : Nat) (acc : Nat → aV) (k : aC) (sa sc : cS) (S : xT), q + j = e.2.2.2.1 → eSm E sa.2.2 → cAll (ck cl d) e Y q j sa = .inr (t9, s') → cQ S fr (ft + 1) sa.1 sa.2.1 env k (fun a => O a ∨ cHs S ft sc.2.1 a) → cFr S ft sc.1 sc.2.1 acc → (∀ a, O a → ¬ cHs S ft sc.2.1 a) → cPar u.2.2.2.1 P0 (SY g) q j sc = .inr (tu, su1) →
          (match aArgs (evD (PVf P) (evC (PVf P) (PEf P) c) E d) e u.2.2.2.1 env q j acc k with
          | (k', .inl q') => ∃ S', cvA (cvD P (cvC P c) E fr d) e u.2.2.2.1 ft q j S = some (S', .inl (8 + q')) ∧ cCt S' k' ∧ kO S S'
          | (k', .inr acc') => ∃ S' y, cvA (cvD P (cvC P c) E fr d) e u.2.2.2.1 ft q j S = some (S', .inr y) ∧ cQ S' fr (ft + 1) s'.1 s'.2.1 env k' (fun a => O a ∨ cHs S' ft su1.2.1 a) ∧ cFr S' ft su1.1 su1.2.1 acc' ∧ (∀ a, O a → ¬ cHs S' ft su1.2.1 a) ∧ cKp O fr ft S S') := fun q => by
        induction q with
        | zero =>
          intro j acc k sa sc S hj hs hca hqa hfa hO hpa
          have e1 := cAll_0 hca
          cases hpa
          rw [e1]
          exact ⟨S, 0, rfl, hqa, hfa, hO, cKp.refl⟩
        | succ q ih =>
          intro j acc k sa sc S hj hs hca hqa hfa hO hpa
          obtain ⟨sb, b1, b2⟩ := cAll_s hca
          have hVj := (hV j (by omega)).1
          obtain ⟨vj, hvj, evj⟩ := hVj
          have hxj : cIx (u.2.2.2.1 j) = vj := by rw [evj]; exact nI_clamp (by omega)
          unfold cPar at hpa
          rw [hxj] at hpa
          by_cases qp : sc.1 vj = -1
          rotate_left
          · rw [if_neg qp] at hpa
            cases hpa
          rw [if_pos qp] at hpa
          have hbd : cBind (u.2.2.2.1 j) (SY g j) sc = (upd sc.1 vj (SY g j), if SY g j = 1 ∨ SY g j = 2 then sc.2.1 ||| cBit (nI vj) else sc.2.1, sc.2.2) := by
            unfold cBind
            rw [hxj, evj]
          rw [hbd] at hpa
          have hsy : SY g j = Y j := hSY j (by omega)
          rw [hsy] at hpa
          have hc1 := ch j (by omega) sa sb (Y j) env k (ft + 1) S (fun a => O a ∨ cHs S ft sc.2.1 a) hs b1 (by omega) (by omega) hqa
          have hu2 : aArgs (evD (PVf P) (evC (PVf P) (PEf P) c) E d) e u.2.2.2.1 env (q + 1) j acc k = (match evD (PVf P) (evC (PVf P) (PEf P) c) E d (ePt e j) env k with
            | (k', .inl q') => (k', .inl q')
            | (k', .inr v) => aArgs (evD (PVf P) (evC (PVf P) (PEf P) c) E d) e u.2.2.2.1 env q (j + 1) (va_up acc (cIx (u.2.2.2.1 j)) v) k') := rfl
          have hu3 : cvA (cvD P (cvC P c) E fr d) e u.2.2.2.1 ft (q + 1) j S = xB (cvD P (cvC P c) E fr d (ePt e j) S) fun s x => cvA (cvD P (cvC P c) E fr d) e u.2.2.2.1 ft q (j + 1) (xSet ft (cIx (u.2.2.2.1 j)) x s) := rfl
          rw [hu2, hu3]
          match hr : evD (PVf P) (evC (PVf P) (PEf P) c) E d (ePt e j) env k, hc1 with
          | (k2, .inl q'), ⟨S2, e2, r1, r2⟩ =>
            rw [e2]
            exact ⟨S2, rfl, r1, r2⟩
          | (k2, .inr v), ⟨S2, y, e2, r1, r2, r3⟩ =>
            rw [e2, hxj]
            have hff : S2.2.2 (20 + ft) = S.2.2 (20 + ft) := r2.2.1 ft (by omega) (by omega)
            have hfc : cFr S2 ft sc.1 sc.2.1 acc := hfa.keep hff (fun a ha => r2.1 a (Or.inr ha))
            have hvv : (Y j = 0 ∧ v = .inl y) ∨ ((Y j = 1 ∨ Y j = 2) ∧ vA S2 (Y j) y v ∧ ¬ cHs S2 ft sc.2.1 (xIx y)) := r3.imp_right (fun w => ⟨w.1, w.2.1, fun w2 => w.2.2.1 (Or.inr ((cHs_eq hff).mp w2))⟩)
            obtain ⟨n1, n2⟩ := hfc.bind hvv hvj qp
            have hOy : Y j = 1 ∨ Y j = 2 → ¬ O (xIx y) ∧ ¬ cHs S2 fr sb.2.1 (xIx y) ∧ xIx y < 8 ∧ ¬ S2.2.1 18 (xIx y) = 0 := fun w => by
              rcases r3 with ⟨w0, -⟩ | ⟨-, w1, w2, w3⟩
              · rw [w0] at w
                exact absurd w (by decide)
              · exact ⟨fun w4 => w2 (Or.inl w4), w3, w1.2.1, w1.tk⟩
            have hfr2 : (xSet ft vj y S2).2.2 (20 + fr) = S2.2.2 (20 + fr) := va_up_ne _ _ (by omega)
            have hO8 : ∀ a, O a → a < 8 := fun a ha => (hqa.2.2.2.2 a (Or.inl ha)).1
            have hkp : cKp O fr ft S (xSet ft vj y S2) := cKp.trans (S1 := S2) ⟨fun a ha => r2.1 a (Or.inl ha), fun g' hg' hf' => r2.2.1 g' (by omega) hf', r2.2.2⟩ (kp_set hO8 (fun e' he' _ => by omega))
            have hq3 : cQ (xSet ft vj y S2) fr (ft + 1) sb.1 sb.2.1 env k2 (fun a => O a ∨ cHs (xSet ft vj y S2) ft (if Y j = 1 ∨ Y j = 2 then sc.2.1 ||| cBit (nI vj) else sc.2.1) a) := by
              obtain ⟨m1, m2, m3, m4, m5⟩ := r1
              refine ⟨m1.keep hfr2 (fun a ha => ⟨rfl, rfl, rfl, va_up_ne _ _ (by have := (m1.hs ha).1; omega)⟩), m2, m3, m4, fun a ha => ?_⟩
              have hh : ∀ b, cHs (xSet ft vj y S2) fr sb.2.1 b ↔ cHs S2 fr sb.2.1 b := fun b => cHs_eq hfr2
              rcases ha with ha | ha
              · have := m5 a (Or.inl ha)
                exact ⟨this.1, this.2.1, fun w => this.2.2 ((hh a).mp w)⟩
              · rcases n2 a ha with w | ⟨w, rfl⟩
                · have := m5 a (Or.inr ((cHs_eq hff).mp w))
                  exact ⟨this.1, this.2.1, fun w => this.2.2 ((hh a).mp w)⟩
                · have := hOy w
                  exact ⟨this.2.2.1, this.2.2.2, fun w => this.2.1 ((hh _).mp w)⟩
            have hO3 : ∀ a, O a → ¬ cHs (xSet ft vj y S2) ft (if Y j = 1 ∨ Y j = 2 then sc.2.1 ||| cBit (nI vj) else sc.2.1) a := fun a ha w => by
              rcases n2 a w with w1 | ⟨w1, w2⟩
              · exact hO a ha ((cHs_eq hff).mp w1)
              · exact (hOy w1).1 (by rw [← w2]; exact ha)
            have hnext := ih (j + 1) (va_up acc vj v) k2 sb (upd sc.1 vj (Y j), if Y j = 1 ∨ Y j = 2 then sc.2.1 ||| cBit (nI vj) else sc.2.1, sc.2.2) (xSet ft vj y S2) (by omega) (hs.trans (ck_sm b1)) b2 hq3 n1 hO3 hpa
            show (match aArgs (evD (PVf P) (evC (PVf P) (PEf P) c) E d) e u.2.2.2.1 env q (j + 1) (va_up acc vj v) k2 with
              | (k', .inl q') => ∃ S', cvA (cvD P (cvC P c) E fr d) e u.2.2.2.1 ft q (j + 1) (xSet ft vj y S2) = some (S', .inl (8 + q')) ∧ cCt S' k' ∧ kO S S'
              | (k', .inr acc') => ∃ S' y', cvA (cvD P (cvC P c) E fr d) e u.2.2.2.1 ft q (j + 1) (xSet ft vj y S2) = some (S', .inr y') ∧ cQ S' fr (ft + 1) s'.1 s'.2.1 env k' (fun a => O a ∨ cHs S' ft su1.2.1 a) ∧ cFr S' ft su1.1 su1.2.1 acc' ∧ (∀ a, O a → ¬ cHs S' ft su1.2.1 a) ∧ cKp O fr ft S S')
            match hr2 : aArgs (evD (PVf P) (evC (PVf P) (PEf P) c) E d) e u.2.2.2.1 env q (j + 1) (va_up acc vj v) k2, hnext with
            | (k3, .inl q'), ⟨S3, e3, p1, p2⟩ => exact ⟨S3, e3, p1, hkp.2.2.trans p2⟩
            | (k3, .inr acc'), ⟨S3, y3, e3, p1, p2, p3, p4⟩ => exact ⟨S3, y3, e3, p1, p2, p3, hkp.trans p4⟩
      have hno0 : ∀ a, ¬ cHs (upd S1.1 7 (S1.1 7 + 1), S1.2) ft 0 a := fun a ⟨v, hv, ho, _⟩ => own_0 hv ho
      have hq7 : cQ (upd S1.1 7 (S1.1 7 + 1), S1.2) fr (ft + 1) s.1 s.2.1 env k1 O := hq.seven (by rw [h7, nI_1])
      have hq8 : cQ (upd S1.1 7 (S1.1 7 + 1), S1.2) fr (ft + 1) s.1 s.2.1 env k1 (fun a => O a ∨ cHs (upd S1.1 7 (S1.1 7 + 1), S1.2) ft 0 a) := ⟨hq7.1, hq7.2.1, hq7.2.2.1, hq7.2.2.2.1, fun a ha => ha.elim (hq7.2.2.2.2 a) (fun w => absurd w (hno0 a))⟩
      have hA1 := args e.2.2.2.1 0 (fun _ => .inl 0) k1 (s.1, s.2.1, va_up s.2.2 i (eCl (s.2.2 i) (some a0))) (cT0, 0, E0) (upd S1.1 7 (S1.1 7 + 1), S1.2) (by omega) (hsm.trans eSm.up) h1 hq8 ⟨fun v hv ht => by rw [show (cT0, (0 : Int32), E0).1 v = -1 from if_pos hv] at ht; exact absurd ht (by decide), fun v hv ho => absurd ho (own_0 hv), fun v w hv hw ho _ _ => absurd ho (own_0 hv)⟩ (fun a _ => hno0 a) (by rw [← qn, ← hucn]; exact hpar)
      have hkp0 : cKp O fr ft S1 (upd S1.1 7 (S1.1 7 + 1), S1.2) := kp_1 (by omega)
      match hr : aArgs (evD (PVf P) (evC (PVf P) (PEf P) c) E d) e u.2.2.2.1 env e.2.2.2.1 0 (fun _ => .inl 0) k1, hA1 with
      | (k2, .inl q'), ⟨S2, e2, p1, p2⟩ =>
        rw [e2]
        exact ⟨S2, rfl, p1, hkp0.2.2.trans p2⟩
      | (k2, .inr acc), ⟨S2, y2, e2, p1, p2, p3, p4⟩ =>
        rw [e2]
        show cOut O fr ft S1 s'.1 s'.2.1 env t (evC (PVf P) (PEf P) c g acc k2) (xB (cvC P c g ft S2) fun s2 v => some ((upd s2.1 7 (s2.1 7 - 1), s2.2), .inr v))
        refine cOut.pre (hkp0.trans p4) ?_
        cases hc0 : c with
        | zero => exact p1.fault (q := 5)
        | succ c' =>
          have IHb := IHc (by omega)
          rw [hc0] at IHb
          have ec : c' + 1 - 1 = c' := by omega
          rw [ec] at IHb
          have hbodyS : su1.2.2 = E0 := cPar_E _ _ _ hpar
          have hev : evC (PVf P) (PEf P) (c' + 1) g acc k2 = evD (PVf P) (evC (PVf P) (PEf P) c') u.2.2.2.2 8 0 acc k2 := by
            show evD (PVf P) (evC (PVf P) (PEf P) c') (PEf P g) 8 0 acc k2 = _
            rw [PEf_of hu]
          have hcv : cvC P (c' + 1) g ft S2 = cvD P (cvC P c') u.2.2.2.2 ft 8 0 S2 := by
            show (match P g with
              | none => none
              | some u => cvD P (cvC P c') u.2.2.2.2 ft 8 0 S2) = _
            rw [hu]
          rw [hev, hcv]
          obtain ⟨m1, m2, m3, m4, m5⟩ := id p1
          have hqb : cQ S2 ft (ft + 1) su1.1 su1.2.1 acc k2 (fun a => O a ∨ cHs S2 fr s'.2.1 a) := by
            refine ⟨p2, m2, m3, m4, fun a ha => ?_⟩
            rcases ha with ha | ha
            · exact ⟨(m5 a (Or.inl ha)).1, (m5 a (Or.inl ha)).2.1, p3 a ha⟩
            · exact ⟨(m1.hs ha).1, (m1.hs ha).2, fun w => (m5 a (Or.inr w)).2.2 ha⟩
          have hB := IHb u.2.2.2.2 (150 * g) 0 u.2.2.1 clu su1 su2 (SR g) acc k2 ft (ft + 1) S2 (fun a => O a ∨ cHs S2 fr s'.2.1 a) huT (by omega) hclu hcluR (by rw [hbodyS]; exact hsmu) hbody (by omega) (by omega) hqb
          rw [hSR] at hB
          match hr3 : evD (PVf P) (evC (PVf P) (PEf P) c') u.2.2.2.2 8 0 acc k2, hB with
          | (k3, .inl q'), ⟨S3, e3, b1, b2⟩ =>
            rw [e3]
            exact ⟨S3, rfl, b1, b2⟩
          | (k3, .inr v), ⟨S3, y3, e3, b1, b2, b3⟩ =>
            rw [e3]
            have hff : S3.2.2 (20 + fr) = S2.2.2 (20 + fr) := b2.2.1 fr (by omega) (by omega)
            have hfc : cFr S3 fr s'.1 s'.2.1 env := m1.keep hff (fun a ha => b2.1 a (Or.inr ha))
            obtain ⟨w1, w2, w3, w4, w5⟩ := b1
            refine ⟨(upd S3.1 7 (S3.1 7 - 1), S3.2), y3, rfl, ⟨hfc, w2, w3, ?_, fun a ha => ?_⟩, ?_, ?_⟩
            · show upd S3.1 7 (S3.1 7 - 1) 7 = nI ft
              rw [upd_self, w4, nI_p1]
            · exact ⟨(w5 a (Or.inl ha)).1, (w5 a (Or.inl ha)).2.1, fun w => (m5 a (Or.inl ha)).2.2 ((cHs_eq hff).mp w)⟩
            · exact cKp.trans (S1 := S3) ⟨fun a ha => b2.1 a (Or.inl ha), fun g' hg' hf' => b2.2.1 g' (by omega) (by omega), b2.2.2⟩ (kp_1 (by omega))
            · rcases b3 with b3 | ⟨z1, z2, z3, z4⟩
              · exact Or.inl b3
              · exact Or.inr ⟨z1, z2, fun w => z3 (Or.inl w), fun w => z3 (Or.inr ((cHs_eq hff).mp w))⟩
theorem sB_0 : sB A0 P SY SR c 0 := by
  intro E bs i b cl s s' t env k fr ft S O hT
  exact False.elim hT
theorem sB_all (hP : pOk P SY SR) (hA : pRf A0 P) : ∀ c d, sB A0 P SY SR c d
  | 0, 0 => sB_0
  | 0, d + 1 => sB_s hP hA (sB_all hP hA 0 d) (fun w => absurd w (Nat.lt_irrefl 0))
  | c + 1, 0 => sB_0
  | c + 1, d + 1 => sB_s hP hA (sB_all hP hA (c + 1) d) (fun _ => sB_all hP hA c 8)
termination_by c d => (c, d)
end SIB
