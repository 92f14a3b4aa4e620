section EVK
variable {PV : Nat → mS} {W : Nat → (Nat → aV) → aC → aR} {L : Nat → (Nat → aV) → aC → aR} {e : eN} {env : Nat → aV} {k : aC}
theorem evS_0 (h : e.1 = 0) : evS PV W L e env k = ((k, .inr (.inl e.2.2.2.2.1))) := by
  unfold evS
  rw [h]
  rfl
theorem evS_1 (h : e.1 = 1) : evS PV W L e env k = ((k, .inr (env (cIx (eVr e))))) := by
  unfold evS
  rw [h]
  rfl
theorem evS_2 (h : e.1 = 2) : evS PV W L e env k = (aB (L (ePt e 0) env k) fun k x => aB (L (ePt e 1) env k) fun k y => (match aOp e.2.2.2.2.2.1 (aN x) (aN y) with
    | .inl q => (k, .inl q)
    | .inr z => (k, .inr (.inl z)))) := by
  unfold evS
  rw [h]
  rfl
theorem evS_3 (h : e.1 = 3) : evS PV W L e env k = (aB (L (ePt e 0) env k) fun k x => if aN x = 0 then L (ePt e 2) env k else L (ePt e 1) env k) := by
  unfold evS
  rw [h]
  rfl
theorem evS_4 (h : e.1 = 4) : evS PV W L e env k = (aB (L (ePt e 0) env k) fun k x => L (ePt e 1) (va_up env (cIx (eVr e)) x) k) := by
  unfold evS
  rw [h]
  rfl
theorem evS_5 (h : e.1 = 5) : evS PV W L e env k = (aB (L (ePt e 0) env k) fun k r => aMk (aN r) 1 (fun _ => 0) k) := by
  unfold evS
  rw [h]
  rfl
theorem evS_6 (h : e.1 = 6) : evS PV W L e env k = (aB (L (ePt e 0) env k) fun k r => aB (L (ePt e 1) env k) fun k c => aMk (aN r) (aN c) (fun _ => 0) k) := by
  unfold evS
  rw [h]
  rfl
theorem evS_7 (h : e.1 = 7) : evS PV W L e env k = (aB (L (ePt e 0) env k) fun k i => aB (if e.2.2.2.1 = 2 then L (ePt e 1) env k else (k, .inr (.inl 0))) fun k j => if aInD (aX (env (cIx (eVr e)))) (aN i) (aN j) then (k, .inr (.inl ((aX (env (cIx (eVr e)))).2.2 (aIdx (aX (env (cIx (eVr e)))) (aN i) (aN j))))) else (k, .inl 3)) := by
  unfold evS
  rw [h]
  rfl
theorem evS_8 (h : e.1 = 8) : evS PV W L e env k = (aB (L (ePt e 0) env k) fun k i => aB (if e.2.2.2.1 = 3 then L (ePt e 1) env k else (k, .inr (.inl 0))) fun k j => aB (L (ePt e (e.2.2.2.1 - 1)) env k) fun k x =>
    if aInD (aX (env (cIx (eVr e)))) (aN i) (aN j) then ((k.1, k.2.1, k.2.2.1, k.2.2.2.1, k.2.2.2.2 + 1), .inr (.inr ((aX (env (cIx (eVr e)))).1, (aX (env (cIx (eVr e)))).2.1, vp_updL (aX (env (cIx (eVr e)))).2.2 (aIdx (aX (env (cIx (eVr e)))) (aN i) (aN j)) (aN x)))) else (k, .inl 3)) := by
  unfold evS
  rw [h]
  rfl
theorem evS_9 (h : e.1 = 9) : evS PV W L e env k = ((k, .inr (.inl (nI (aX (env (cIx (eVr e)))).1).toInt64))) := by
  unfold evS
  rw [h]
  rfl
theorem evS_10 (h : e.1 = 10) : evS PV W L e env k = ((k, .inr (.inl (nI (aX (env (cIx (eVr e)))).2.1).toInt64))) := by
  unfold evS
  rw [h]
  rfl
theorem evS_11 (h : e.1 = 11) : evS PV W L e env k = (aMk (nI (aX (env (cIx (eVr e)))).1).toInt64 (nI (aX (env (cIx (eVr e)))).2.1).toInt64 (aX (env (cIx (eVr e)))).2.2 k) := by
  unfold evS
  rw [h]
  rfl
theorem evS_12 (h : e.1 = 12) : evS PV W L e env k = (L (ePt e 0) env (k.1, k.2.1, k.2.2.1 - 1, k.2.2.2.1, k.2.2.2.2)) := by
  unfold evS
  rw [h]
  rfl
theorem evS_13 (h : e.1 = 13) : evS PV W L e env k = (match aArgs L e (PV (cIx (eNm e))) env e.2.2.2.1 0 (fun _ => .inl 0) k with
    | (k', .inl q) => (k', .inl q)
    | (k', .inr acc) => W (cIx (eNm e)) acc k') := by
  unfold evS
  rw [h]
  rfl
end EVK
section SIA
variable {A0 : mA} {PV : Nat → mS} {X0 X1 : gX} {pl pl1 : gP} {vs vs1 : gV} {dp m m' m1 k0 ka : Nat} {EV EV' EV1 : gE} {AR AR' AR1 : Nat → aA} {T T1 : mS} {o o1 : Int32} {env env1 : Nat → aV} {t t1 : Int32} {r : aR} {P : Nat → Option uF} {SY : Nat → mS} {SR : Nat → Int32} {c d : Nat}
theorem gOut.bnd1 {f : aC → aV → aR} (h : gOut A0 PV X0 pl1 vs1 dp EV m AR ka T1 o1 env1 t1 r) (hk : k0 + 1 ≤ ka) (hm : m ≤ ka) (g : ∀ k' v x EV' m' AR', gMn dp EV EV' m m' AR AR' → 1 ≤ k'.1 → m' ≤ k'.1 → k'.1 ≤ 400 → gR dp T1 o1 env1 EV' m' AR' → gVal t1 x v m' AR' → gOut A0 PV (.inr (pl1, x :: vs1, dp, EV', m', AR', k')) pl vs dp EV' m' AR' (k'.1 - 1) T o env t (f k' v)) : gOut A0 PV X0 pl vs dp EV m AR k0 T o env t (aB r f) := by
  match r, h with
  | (k', .inl q), h => exact h
  | (k', .inr v), ⟨x, EV', m', AR', h1, h2, h3, h4, h5, h6⟩ =>
    have hle := h2.1
    have h3 : m' + ka ≤ m + k'.1 := h3
    have g := g k' v x EV' m' AR' h2 (by omega) (by omega) h4 h5 h6
    show gOut A0 PV X0 pl vs dp EV m AR k0 T o env t (f k' v)
    match hr : f k' v, g with
    | (k2, .inl q), g => exact ⟨h1.trans g.1, g.2⟩
    | (k2, .inr v2), ⟨x2, EV2, m2, AR2, g1, g2, g3, g4, g5⟩ => exact ⟨x2, EV2, m2, AR2, h1.trans g1, h2.trans g2, by omega, g4, g5⟩
theorem gVal0 {x : Int64 × Int32} {v : aV} (h : gVal 0 x v m AR) : v = .inl x.1 := by
  rcases h with h | ⟨h, -⟩
  · exact h.2
  · rcases h with h | h <;> exact absurd h (by decide)
def sA (A0 : mA) (P : Nat → Option uF) (SY : Nat → mS) (SR : Nat → Int32) (c d : Nat) : Prop := ∀ (E : Nat → eN) (bs i b : Nat) (cl : Nat → Option cF) (s s' : cS) (t : Int32) (env : Nat → aV) (k : aC) (pl : gP) (vs : gV) (EV : gE) (m : Nat) (AR : Nat → aA), uT A0 E bs d i b → bs + b ≤ 1200 → pCl P SY SR cl → clR cl → eSm E s.2.2 → ck cl d i s = .inr (t, s') → pl.length + d ≤ 8 * (8 - c) → m ≤ k.1 → k.1 ≤ 400 → gR (7 - c) s.1 s.2.1 env EV m AR →
  gOut A0 (PVf P) (gStart (bs + i) pl vs (7 - c) EV m AR k) pl vs (7 - c) EV m AR k.1 s'.1 s'.2.1 env t (evD (PVf P) (evC (PVf P) (PEf P) c) E d i env k)
theorem aOp_4 {op : Int32} {x y : Int64} {q : Nat} (h : aOp op x y = .inl q) : q = 4 := by
  unfold aOp at h
  split at h
  · cases h
  · split at h
    · cases h
    · split at h
      · cases h
      · split at h
        · split at h
          · cases h; rfl
          · cases h
        · split at h <;> cases h
theorem gOut.ev (h : gOut A0 PV X0 pl vs dp EV1 m AR k0 T o env t r) (he : ∀ e, e < dp → ∀ v, EV1 e v = EV e v) : gOut A0 PV X0 pl vs dp EV m AR k0 T o env t r := by
  match r, h with
  | (k', .inl q), h => exact h
  | (k', .inr v), ⟨x, EV', m', AR', h1, h2, h3⟩ => exact ⟨x, EV', m', AR', h1, ⟨h2.1, h2.2.1, fun e hl v => (h2.2.2 e hl v).trans (he e hl v)⟩, h3⟩
theorem PVf_of {g : Nat} {u : uF} (h : P g = some u) : PVf P g = u.2.2.2.1 := by
  unfold PVf
  rw [h]
theorem PEf_of {g : Nat} {u : uF} (h : P g = some u) : PEf P g = u.2.2.2.2 := by
  unfold PEf
  rw [h]
theorem sA_s (hP : pOk P SY SR) (hA : pRf A0 P) (hc7 : c ≤ 7) (IH : sA A0 P SY SR c d) (IHc : 0 < c → sA A0 P SY SR (c - 1) 8) : sA A0 P SY SR c (d + 1) := by
  intro E bs i b cl s s' t env k pl vs EV m AR hT hb hcl hclR hsm hck hpl hm hk4 hg
  have hN := gN_of hT hb
  rw [ck_at hsm] at hck
  obtain ⟨e, he⟩ : ∃ x, E i = x := ⟨_, rfl⟩
  have hpart := uT_part hT
  rw [he] at hN hck hpart
  obtain ⟨hnd, hk14, -, -, ⟨⟨v0, hv20, ev⟩, ⟨g, hg8, eg⟩, -⟩, hct, hc4, -⟩ := id hN
  have hix : cIx (eVr e) = v0 := by rw [ev]; exact nI_clamp (by omega)
  have hig : cIx (eNm e) = g := by rw [eg]; exact nI_clamp (by omega)
  have hcal : e.1 = 13 → A0 93 (cIx (eNm e)) = nI e.2.2.2.1 ∧ ∀ j, j < e.2.2.2.1 → A0 95 (4 * cIx (eNm e) + j) = PVf P (cIx (eNm e)) j ∧ ∃ v, v < 20 ∧ PVf P (cIx (eNm e)) j = nI v := fun hk => by
    rw [ckS_13 hk] at hck
    unfold cCall at hck
    rw [hig] at hck ⊢
    cases hq : cl g with
    | none => rw [hq] at hck; cases hck
    | some u =>
      obtain ⟨a, cn, Y, rt⟩ := u
      rw [hq] at hck
      dsimp only at hck
      by_cases q : cn = e.2.2.2.1
      · obtain ⟨u, hu, -, hucn, -⟩ := hcl g a cn Y rt hg8 hq
        obtain ⟨-, h93, h95⟩ := hA g u hu
        obtain ⟨-, -, hV, -⟩ := hP g u hu
        rw [PVf_of hu, ← q, ← hucn]
        exact ⟨h93, fun j hj => ⟨h95 j hj, (hV j hj).1⟩⟩
      · rw [if_neg q] at hck
        cases hck
  unfold evD gStart
  rw [he]
  by_cases q400 : k.1 = 400
  · rw [if_pos q400, if_pos q400]
    exact ⟨mTo.refl, by decide, by decide⟩
  rw [if_neg q400, if_neg q400]
  obtain ⟨k1, hk1⟩ : ∃ x : aC, (k.1 + 1, k.2) = x := ⟨_, rfl⟩
  have hk1' : k1.1 = k.1 + 1 := by rw [← hk1]
  rw [hk1]
  have hdp : 7 - c ≤ 7 := by omega
  obtain ⟨dp, hdpe⟩ : ∃ x, 7 - c = x := ⟨_, rfl⟩
  have IH' := IH
  unfold sA at IH'
  rw [hdpe] at hg ⊢ IH'
  have st : ∀ kk vs EV m AR k' X, kk ≤ 5 → gSt (PVf P (cIx (eNm e))) bs i e kk pl vs dp EV m AR k' = some X → mTo A0 (PVf P) (.inr ((bs + i, kk) :: pl, vs, dp, EV, m, AR, k')) X := fun kk vs EV m AR k' X hkk h => mTo.step ⟨bs, i, e, kk, pl, rfl, by omega, hN, hcal, hkk, h⟩
  have ch : ∀ j, j < e.2.2.2.1 → ∀ (kk : Nat) (s s' : cS) (t : Int32) (env : Nat → aV) (k : aC) (vs : gV) (EV : gE) (m : Nat) (AR : Nat → aA), eSm E s.2.2 → ck cl d (ePt e j) s = .inr (t, s') → m ≤ k.1 → k.1 ≤ 400 → gR dp s.1 s.2.1 env EV m AR → gOut A0 (PVf P) (gStart (bs + ePt e j) ((bs + i, kk) :: pl) vs dp EV m AR k) ((bs + i, kk) :: pl) vs dp EV m AR k.1 s'.1 s'.2.1 env t (evD (PVf P) (evC (PVf P) (PEf P) c) E d (ePt e j) env k) := fun j hj kk s s' t env k vs EV m AR h1 h2 h3 h4 h5 => by
    obtain ⟨y, hy1, hy2⟩ := hpart j hj
    exact IH' E bs (ePt e j) y cl s s' t env k _ vs EV m AR hy1 (by omega) hcl hclR h1 h2 (by show pl.length + 1 + d ≤ _; omega) h3 h4 h5
  have hcase : e.1 = 0 ∨ e.1 = 1 ∨ e.1 = 2 ∨ e.1 = 3 ∨ e.1 = 4 ∨ e.1 = 5 ∨ e.1 = 6 ∨ e.1 = 7 ∨ e.1 = 8 ∨ e.1 = 9 ∨ e.1 = 10 ∨ e.1 = 11 ∨ e.1 = 12 ∨ e.1 = 13 := by omega
  rcases hcase with hk | hk | hk | hk | hk | hk | hk | hk | hk | hk | hk | hk | hk | hk
  · rw [ckS_0 hk] at hck
    rw [evS_0 hk]
    obtain ⟨t9, s9, h1, h2⟩ := cB_inv hck
    cases h2
    unfold cNum at h1
    rw [hct.1 hk] at h1
    rw [cAll_0 h1]
    exact ⟨_, _, _, _, st 0 vs EV m AR k1 _ (by omega) (gSt_0 hk), gMn.refl, by omega, by omega, hg, Or.inl ⟨rfl, rfl⟩⟩
  · rw [ckS_1 hk] at hck
    rw [evS_1 hk]
    obtain ⟨h1, rfl⟩ := cUse_inv hck
    obtain ⟨v1, v2, v3, v4, v5⟩ := cVar_inv h1
    rw [hix] at v1 ⊢
    rw [ev] at v3
    refine ⟨_, _, _, _, st 0 vs EV m AR k1 _ (by omega) (gSt_1 hk), gMn.refl, by omega, by omega, by unfold cOff; rw [ev]; exact hg.off hv20, ?_⟩
    rw [hix]
    rcases t3_of (by decide) v4 v5 with w | w | w
    · exact Or.inl ⟨w, hg.1 v0 hv20 (by rw [v1]; exact w)⟩
    · obtain ⟨a, a1, a2, a3, a4⟩ := hg.2.1 v0 hv20 (v3 (Or.inl w))
      exact Or.inr ⟨Or.inl w, a, a1, a2, a3, a4⟩
    · obtain ⟨a, a1, a2, a3, a4⟩ := hg.2.1 v0 hv20 (v3 (Or.inr w))
      exact Or.inr ⟨Or.inr w, a, a1, a2, a3, a4⟩
  · rw [ckS_2 hk] at hck
    rw [evS_2 hk]
    have hcn : e.2.2.2.1 = 2 := hct.2.2.1 hk
    obtain ⟨t9, s9, h1, h2⟩ := cB_inv hck
    unfold cNum at h1
    rw [hcn] at h1
    obtain ⟨s1, g1, h1⟩ := cAll_s h1
    have sm1 := hsm.trans (ck_sm g1)
    obtain ⟨s2, g2, h1⟩ := cAll_s h1
    rw [cAll_0 h1] at h2
    cases h2
    refine gOut.pre (st 0 (vs) EV m AR k1 _ (by omega) (by rw [gSt_2 hk]; unfold gDef; rw [if_pos (by omega)])) (gOut.bnd1 (ch 0 (by omega) 1 s s1 0 env k1 vs EV m AR hsm g1 (by omega) (by omega) hg) (by omega) (by omega) (fun k2 v2 x2 EV2 m2 AR2 mn2 p2 q2 r2 hg2 hv2 => ?_))
    refine gOut.pre (st 1 (x2 :: vs) EV2 m2 AR2 k2 _ (by omega) (by rw [gSt_2 hk]; unfold gDef; rw [if_pos (by omega)])) (gOut.bnd1 (ch 1 (by omega) 2 s1 s' 0 env k2 (x2 :: vs) EV2 m2 AR2 sm1 g2 q2 r2 hg2) (by omega) q2 (fun k3 v3 x3 EV3 m3 AR3 mn3 p3 q3 r3 hg3 hv3 => ?_))
    rw [gVal0 hv2, gVal0 hv3]
    refine gOut.pre (st 2 (x3 :: x2 :: vs) EV3 m3 AR3 k3 _ (by omega) (by rw [gSt_2 hk]; unfold gDef; rw [if_neg (by omega)]; unfold gFin; rw [if_pos hk])) ?_
    show gOut A0 (PVf P) (gJoin e.2.2.2.2.2.1 x2.1 x3.1 pl vs dp EV3 m3 AR3 k3) pl vs dp EV3 m3 AR3 (k3.1 - 1) s'.1 s'.2.1 env 0 (match aOp e.2.2.2.2.2.1 x2.1 x3.1 with
      | .inl q => (k3, .inl q)
      | .inr z => (k3, .inr (.inl z)))
    unfold gJoin
    cases ho : aOp e.2.2.2.2.2.1 x2.1 x3.1 with
    | inl q =>
      refine ⟨mTo.refl, ?_⟩
      have := aOp_4 ho
      omega
    | inr z => exact ⟨_, _, _, _, mTo.refl, gMn.refl, by omega, r3, hg3, Or.inl ⟨rfl, rfl⟩⟩
  · rw [ckS_3 hk] at hck
    rw [evS_3 hk]
    have hcn : e.2.2.2.1 = 3 := hct.2.2.2.1 hk
    unfold cCho at hck
    obtain ⟨t1, s1, h1, h2⟩ := cB_inv hck
    obtain ⟨t2, s2, h3, h4⟩ := cB_inv h2
    obtain ⟨t3, s3, h5, h6⟩ := cB_inv h4
    have g1 := cPart_inv h1
    have sm1 := hsm.trans (ck_sm g1)
    have sm2 := sm1.trans (ck_sm h3)
    by_cases q6 : t3 = t2 ∧ s3.2.1 = s2.2.1
    rotate_left
    · rw [if_neg q6] at h6
      cases h6
    rw [if_pos q6] at h6
    cases h6
    obtain ⟨q61, q62⟩ := q6
    have T21 := ck_T d _ s1 h3
    have T32 := ck_T d _ (s2.1, s1.2.1, s2.2.2) h5
    have T32 : ∀ v, s'.1 v = s2.1 v := T32
    refine gOut.pre (st 0 vs EV m AR k1 _ (by omega) (by rw [gSt_3 hk]; unfold gCho; rw [if_pos rfl])) (gOut.bnd1 (ch 0 (by omega) 1 s s1 0 env k1 vs EV m AR hsm g1 (by omega) (by omega) hg) (by omega) (by omega) (fun k2 v2 x2 EV2 m2 AR2 mn2 p2 q2 r2 hg2 hv2 => ?_))
    rw [gVal0 hv2]
    refine gOut.pre (st 1 (x2 :: vs) EV2 m2 AR2 k2 _ (by omega) (by rw [gSt_3 hk]; unfold gCho; rw [if_neg (by decide), if_pos rfl])) ?_
    have pass : ∀ x EV' m' AR' k', mTo A0 (PVf P) (.inr ((bs + i, 2) :: pl, x :: vs, dp, EV', m', AR', k')) (.inr (pl, x :: vs, dp, EV', m', AR', k')) := fun x EV' m' AR' k' => st 2 (x :: vs) EV' m' AR' k' _ (by omega) (by rw [gSt_3 hk]; unfold gCho; rw [if_neg (by decide), if_neg (by decide)])
    show gOut A0 (PVf P) (gStart (if x2.1 = 0 then bs + ePt e 2 else bs + ePt e 1) ((bs + i, 2) :: pl) vs dp EV2 m2 AR2 k2) pl vs dp EV2 m2 AR2 (k2.1 - 1) s'.1 s'.2.1 env t (if x2.1 = 0 then evD (PVf P) (evC (PVf P) (PEf P) c) E d (ePt e 2) env k2 else evD (PVf P) (evC (PVf P) (PEf P) c) E d (ePt e 1) env k2)
    by_cases qx : x2.1 = 0
    · rw [if_pos qx, if_pos qx]
      have hgA : gR dp s2.1 s1.2.1 env EV2 m2 AR2 := hg2.types T21
      rw [q61] at h5
      exact (ch 2 (by omega) 2 (s2.1, s1.2.1, s2.2.2) s' t env k2 vs EV2 m2 AR2 sm2 h5 q2 r2 hgA).fin (by omega) pass (fun _ _ _ _ h => h)
    · rw [if_neg qx, if_neg qx]
      exact (ch 1 (by omega) 2 s1 s2 t env k2 vs EV2 m2 AR2 sm1 h3 q2 r2 hg2).fin (by omega) pass (fun _ _ _ _ h => by rw [q62]; exact h.types T32)
  · rw [ckS_4 hk] at hck
    rw [evS_4 hk]
    have hcn : e.2.2.2.1 = 2 := hct.2.2.2.2.1 hk
    unfold cBnd at hck
    rw [hix, ev] at hck
    rw [hix]
    by_cases qb : s.1 v0 = -1
    rotate_left
    · rw [if_neg qb] at hck
      cases hck
    rw [if_pos qb] at hck
    obtain ⟨t1, s1, h1, h2⟩ := cB_inv hck
    obtain ⟨t2, s2, h3, h4⟩ := cB_inv h2
    have sm1 := hsm.trans (ck_sm h1)
    have T1 := ck_T d _ s h1
    by_cases qo : cOwn s2.2.1 (nI v0)
    · rw [if_pos qo] at h4
      cases h4
    rw [if_neg qo] at h4
    cases h4
    have hbd : cBind (nI v0) t1 s1 = (upd s1.1 v0 t1, if t1 = 1 ∨ t1 = 2 then s1.2.1 ||| cBit (nI v0) else s1.2.1, s1.2.2) := by
      unfold cBind
      rw [show cIx (nI v0) = v0 from nI_clamp (by omega)]
    rw [hbd] at h3
    refine gOut.pre (st 0 vs EV m AR k1 _ (by omega) (by rw [gSt_4 hk]; unfold gBnd; rw [if_pos rfl])) (gOut.bnd1 (ch 0 (by omega) 1 s s1 t1 env k1 vs EV m AR hsm h1 (by omega) (by omega) hg) (by omega) (by omega) (fun k2 v2 x2 EV2 m2 AR2 mn2 p2 q2 r2 hg2 hv2 => ?_))
    refine gOut.pre (st 1 (x2 :: vs) EV2 m2 AR2 k2 _ (by omega) (by rw [gSt_4 hk]; unfold gBnd; rw [if_neg (by decide), if_pos rfl])) ?_
    have pass : ∀ x EV' m' AR' k', mTo A0 (PVf P) (.inr ((bs + i, 2) :: pl, x :: vs, dp, EV', m', AR', k')) (.inr (pl, x :: vs, dp, EV', m', AR', k')) := fun x EV' m' AR' k' => st 2 (x :: vs) EV' m' AR' k' _ (by omega) (by rw [gSt_4 hk]; unfold gBnd; rw [if_neg (by decide), if_neg (by decide)])
    rw [hix]
    have hgB := hg2.bind hv2 hv20 (by rw [T1]; exact qb)
    have hh := (ch 1 (by omega) 2 (upd s1.1 v0 t1, if t1 = 1 ∨ t1 = 2 then s1.2.1 ||| cBit (nI v0) else s1.2.1, s1.2.2) s2 t (va_up env v0 v2) k2 vs (gHold EV2 dp v0 x2) m2 AR2 sm1 h3 q2 r2 hgB).fin (k0 := k2.1 - 1) (T := upd s2.1 v0 (-1)) (o := s2.2.1) (env := env) (by omega) pass (fun _ _ _ _ h => h.unbind qo)
    exact gOut.ev hh (fun e he v => by unfold gHold; rw [if_neg (by omega)])
  · rw [ckS_5 hk] at hck
    rw [evS_5 hk]
    have hcn : e.2.2.2.1 = 1 := hct.2.2.2.2.2.1 hk
    obtain ⟨t9, s9, h1, h2⟩ := cB_inv hck
    unfold cNum at h1
    rw [hcn] at h1
    obtain ⟨s1, g1, h1⟩ := cAll_s h1
    have sm1 := hsm.trans (ck_sm g1)
    rw [cAll_0 h1] at h2
    cases h2
    refine gOut.pre (st 0 (vs) EV m AR k1 _ (by omega) (by rw [gSt_5 hk]; unfold gDef; rw [if_pos (by omega)])) (gOut.bnd1 (ch 0 (by omega) 1 s s' 0 env k1 vs EV m AR hsm g1 (by omega) (by omega) hg) (by omega) (by omega) (fun k2 v2 x2 EV2 m2 AR2 mn2 p2 q2 r2 hg2 hv2 => ?_))
    rw [gVal0 hv2]
    refine gOut.pre (st 1 (x2 :: vs) EV2 m2 AR2 k2 _ (by omega) (by rw [gSt_5 hk]; unfold gDef; rw [if_neg (by omega)]; unfold gFin; rw [if_neg (by omega), if_pos hk])) ?_
    exact gNew_out hg2 (Or.inl rfl) r2 (by omega)
  · rw [ckS_6 hk] at hck
    rw [evS_6 hk]
    have hcn : e.2.2.2.1 = 2 := hct.2.2.2.2.2.2.1 hk
    obtain ⟨t9, s9, h1, h2⟩ := cB_inv hck
    unfold cNum at h1
    rw [hcn] at h1
    obtain ⟨s1, g1, h1⟩ := cAll_s h1
    have sm1 := hsm.trans (ck_sm g1)
    obtain ⟨s2, g2, h1⟩ := cAll_s h1
    rw [cAll_0 h1] at h2
    cases h2
    refine gOut.pre (st 0 (vs) EV m AR k1 _ (by omega) (by rw [gSt_6 hk]; unfold gDef; rw [if_pos (by omega)])) (gOut.bnd1 (ch 0 (by omega) 1 s s1 0 env k1 vs EV m AR hsm g1 (by omega) (by omega) hg) (by omega) (by omega) (fun k2 v2 x2 EV2 m2 AR2 mn2 p2 q2 r2 hg2 hv2 => ?_))
    refine gOut.pre (st 1 (x2 :: vs) EV2 m2 AR2 k2 _ (by omega) (by rw [gSt_6 hk]; unfold gDef; rw [if_pos (by omega)])) (gOut.bnd1 (ch 1 (by omega) 2 s1 s' 0 env k2 (x2 :: vs) EV2 m2 AR2 sm1 g2 q2 r2 hg2) (by omega) q2 (fun k3 v3 x3 EV3 m3 AR3 mn3 p3 q3 r3 hg3 hv3 => ?_))
    rw [gVal0 hv2, gVal0 hv3]
    refine gOut.pre (st 2 (x3 :: x2 :: vs) EV3 m3 AR3 k3 _ (by omega) (by rw [gSt_6 hk]; unfold gDef; rw [if_neg (by omega)]; unfold gFin; rw [if_neg (by omega), if_neg (by omega), if_pos hk])) ?_
    exact gNew_out hg3 (Or.inr rfl) r3 (by omega)
  · rw [ckS_7 hk] at hck
    rw [evS_7 hk]
    have hcn : e.2.2.2.1 = 1 ∨ e.2.2.2.1 = 2 := hct.2.2.2.2.2.2.2.1 hk
    obtain ⟨t9, s9, h1, h2⟩ := cB_inv hck
    unfold cNum at h1
    rw [hix]
    obtain ⟨rfl, rfl, tv, h2⟩ := cVr0_inv h2
    obtain ⟨v1, v2, v3, v4, v5⟩ := cVar_inv h2
    rw [hix] at v1
    rw [ev] at v3
    rcases hcn with hcn | hcn
    · rw [hcn] at h1
      obtain ⟨s1, g1, h1⟩ := cAll_s h1
      have sm1 := hsm.trans (ck_sm g1)
      obtain rfl := cAll_0 h1
      simp only [if_neg (show ¬ e.2.2.2.1 = 2 by omega)]
      refine gOut.pre (st 0 (vs) EV m AR k1 _ (by omega) (by rw [gSt_7 hk]; unfold gDef; rw [if_pos (by omega)])) ?_
      refine gOut.bnd1 (ch 0 (by omega) 1 s s' 0 env k1 (vs) EV m AR hsm g1 (by omega) (by omega) hg) (by omega) (by omega) (fun k2 v2' x2 EV2 m2 AR2 mn2 p2 q2 r2 hg2 hv2 => ?_)
      have htv : (tv : Int32) = 1 ∨ tv = 2 := t2_of (by split <;> decide) v4 (by have := v5; split at this <;> first | exact this | exact Int32.le_trans this (by decide))
      obtain ⟨a, a1, a2, a3, a4⟩ := hg2.2.1 v0 hv20 (v3 htv)
      have hst := st 1 (x2 :: vs) EV2 m2 AR2 k2 (gRd a x2.1 0 pl vs dp EV2 m2 AR2 k2) (by omega) (by rw [gSt_7 hk]; unfold gDef; rw [if_neg (by omega)]; unfold gFin; rw [if_neg (by omega), if_neg (by omega), if_neg (by omega), if_pos hk, if_neg (show ¬ e.2.2.2.1 = 2 by omega), hix]; exact gArr_of a1 a2 (by omega))
      rw [gVal0 hv2, a3]
      refine gOut.pre hst ?_
      show gOut A0 (PVf P) (gRd a x2.1 0 pl vs dp EV2 m2 AR2 k2) pl vs dp EV2 m2 AR2 (k2.1 - 1) _ _ env 0 (if aInD (AR2 a) x2.1 0 = true then (k2, .inr (.inl ((AR2 a).2.2 (aIdx (AR2 a) x2.1 0)))) else (k2, .inl 3))
      unfold gRd
      by_cases qi : aInD (AR2 a) x2.1 0 = true
      · rw [if_pos qi, if_pos qi]
        exact ⟨_, _, _, _, mTo.refl, gMn.refl, by omega, r2, hg2, Or.inl ⟨rfl, rfl⟩⟩
      · rw [if_neg qi, if_neg qi]
        exact ⟨mTo.refl, by decide, by decide⟩
    · rw [hcn] at h1
      obtain ⟨s1, g1, h1⟩ := cAll_s h1
      have sm1 := hsm.trans (ck_sm g1)
      obtain ⟨s2, g2, h1⟩ := cAll_s h1
      have sm2 := sm1.trans (ck_sm g2)
      obtain rfl := cAll_0 h1
      simp only [if_pos hcn]
      refine gOut.pre (st 0 (vs) EV m AR k1 _ (by omega) (by rw [gSt_7 hk]; unfold gDef; rw [if_pos (by omega)])) ?_
      refine gOut.bnd1 (ch 0 (by omega) 1 s s1 0 env k1 (vs) EV m AR hsm g1 (by omega) (by omega) hg) (by omega) (by omega) (fun k2 v2' x2 EV2 m2 AR2 mn2 p2 q2 r2 hg2 hv2 => ?_)
      refine gOut.pre (st 1 (x2 :: vs) EV2 m2 AR2 k2 _ (by omega) (by rw [gSt_7 hk]; unfold gDef; rw [if_pos (by omega)])) ?_
      refine gOut.bnd1 (ch 1 (by omega) 2 s1 s' 0 env k2 (x2 :: vs) EV2 m2 AR2 sm1 g2 q2 r2 hg2) (by omega) q2 (fun k3 v3' x3 EV3 m3 AR3 mn3 p3 q3 r3 hg3 hv3 => ?_)
      have htv : (tv : Int32) = 1 ∨ tv = 2 := t2_of (by split <;> decide) v4 (by have := v5; split at this <;> first | exact this | exact Int32.le_trans this (by decide))
      obtain ⟨a, a1, a2, a3, a4⟩ := hg3.2.1 v0 hv20 (v3 htv)
      have hst := st 2 (x3 :: x2 :: vs) EV3 m3 AR3 k3 (gRd a x2.1 x3.1 pl vs dp EV3 m3 AR3 k3) (by omega) (by rw [gSt_7 hk]; unfold gDef; rw [if_neg (by omega)]; unfold gFin; rw [if_neg (by omega), if_neg (by omega), if_neg (by omega), if_pos hk, if_pos hcn, hix]; exact gArr_of a1 a2 (by omega))
      rw [gVal0 hv2, gVal0 hv3, a3]
      refine gOut.pre hst ?_
      show gOut A0 (PVf P) (gRd a x2.1 x3.1 pl vs dp EV3 m3 AR3 k3) pl vs dp EV3 m3 AR3 (k3.1 - 1) _ _ env 0 (if aInD (AR3 a) x2.1 x3.1 = true then (k3, .inr (.inl ((AR3 a).2.2 (aIdx (AR3 a) x2.1 x3.1)))) else (k3, .inl 3))
      unfold gRd
      by_cases qi : aInD (AR3 a) x2.1 x3.1 = true
      · rw [if_pos qi, if_pos qi]
        exact ⟨_, _, _, _, mTo.refl, gMn.refl, by omega, r3, hg3, Or.inl ⟨rfl, rfl⟩⟩
      · rw [if_neg qi, if_neg qi]
        exact ⟨mTo.refl, by decide, by decide⟩
  · rw [ckS_8 hk] at hck
    rw [evS_8 hk]
    have hcn : e.2.2.2.1 = 2 ∨ e.2.2.2.1 = 3 := hct.2.2.2.2.2.2.2.2.1 hk
    obtain ⟨t9, s9, h1, h2⟩ := cB_inv hck
    unfold cNum at h1
    rw [hix]
    obtain ⟨h2', rfl⟩ := cUse_inv h2
    obtain ⟨v1, v2, v3, v4, v5⟩ := cVar_inv h2'
    rw [hix] at v1
    rw [ev] at v3
    rcases hcn with hcn | hcn
    · rw [hcn] at h1
      obtain ⟨s1, g1, h1⟩ := cAll_s h1
      have sm1 := hsm.trans (ck_sm g1)
      obtain ⟨s2, g2, h1⟩ := cAll_s h1
      have sm2 := sm1.trans (ck_sm g2)
      obtain rfl := cAll_0 h1
      simp only [if_neg (show ¬ e.2.2.2.1 = 3 by omega)]
      refine gOut.pre (st 0 (vs) EV m AR k1 _ (by omega) (by rw [gSt_8 hk]; unfold gDef; rw [if_pos (by omega)])) ?_
      refine gOut.bnd1 (ch 0 (by omega) 1 s s1 0 env k1 (vs) EV m AR hsm g1 (by omega) (by omega) hg) (by omega) (by omega) (fun k2 v2' x2 EV2 m2 AR2 mn2 p2 q2 r2 hg2 hv2 => ?_)
      refine gOut.pre (st 1 (x2 :: vs) EV2 m2 AR2 k2 _ (by omega) (by rw [gSt_8 hk]; unfold gDef; rw [if_pos (by omega)])) ?_
      simp only [hcn]
      show gOut A0 (PVf P) _ pl vs dp EV2 m2 AR2 (k2.1 - 1) _ _ env _ (aB (evD (PVf P) (evC (PVf P) (PEf P) c) E d (ePt e 1) env k2) _)
      refine gOut.bnd1 (ch 1 (by omega) 2 s1 s9 0 env k2 (x2 :: vs) EV2 m2 AR2 sm1 g2 q2 r2 hg2) (by omega) q2 (fun k3 v3' x3 EV3 m3 AR3 mn3 p3 q3 r3 hg3 hv3 => ?_)
      have htv : (t : Int32) = 1 ∨ t = 2 := t2_of (by split <;> decide) v4 (by have := v5; split at this <;> first | exact this | exact Int32.le_trans this (by decide))
      obtain ⟨a, a1, a2, a3, a4⟩ := hg3.2.1 v0 hv20 (v3 htv)
      have hst := st 2 (x3 :: x2 :: vs) EV3 m3 AR3 k3 (gPu a x2.1 0 x3.1 pl vs dp EV3 m3 AR3 k3) (by omega) (by rw [gSt_8 hk]; unfold gDef; rw [if_neg (by omega)]; unfold gFin; rw [if_neg (by omega), if_neg (by omega), if_neg (by omega), if_neg (by omega), if_neg (show ¬ e.2.2.2.1 = 3 by omega), hix]; exact gArr_of a1 a2 (by omega))
      rw [gVal0 hv2, gVal0 hv3, a3]
      refine gOut.pre hst ?_
      show gOut A0 (PVf P) (gPu a x2.1 0 x3.1 pl vs dp EV3 m3 AR3 k3) pl vs dp EV3 m3 AR3 (k3.1 - 1) _ (cOff (eVr e) s9).2.1 env t (if aInD (AR3 a) x2.1 0 = true then ((k3.1, k3.2.1, k3.2.2.1, k3.2.2.2.1, k3.2.2.2.2 + 1), .inr (.inr ((AR3 a).1, (AR3 a).2.1, vp_updL (AR3 a).2.2 (aIdx (AR3 a) x2.1 0) x3.1))) else (k3, .inl 3))
      unfold gPu
      have hgo : gR dp (cOff (eVr e) s9).1 (cOff (eVr e) s9).2.1 env EV3 m3 AR3 := by unfold cOff; rw [ev]; exact hg3.off hv20
      by_cases qi : aInD (AR3 a) x2.1 0 = true
      · rw [if_pos qi, if_pos qi]
        have hae : ∀ b, b < m3 → va_up AR3 m3 ((AR3 a).1, (AR3 a).2.1, vp_updL (AR3 a).2.2 (aIdx (AR3 a) x2.1 0) x3.1) b = AR3 b := fun b hb => va_up_ne _ _ (by omega)
        exact ⟨_, _, _, _, mTo.refl, ⟨Nat.le_succ _, hae, fun _ _ _ => rfl⟩, by show m3 + 1 + (k3.1 - 1) ≤ m3 + k3.1; omega, r3, hgo.mono (Nat.le_succ _) hae (fun _ => rfl), Or.inr ⟨htv, m3, rfl, Nat.lt_succ_self _, by rw [va_up_self], by rw [va_up_self]; exact a4⟩⟩
      · rw [if_neg qi, if_neg qi]
        exact ⟨mTo.refl, by decide, by decide⟩
    · rw [hcn] at h1
      obtain ⟨s1, g1, h1⟩ := cAll_s h1
      have sm1 := hsm.trans (ck_sm g1)
      obtain ⟨s2, g2, h1⟩ := cAll_s h1
      have sm2 := sm1.trans (ck_sm g2)
      obtain ⟨s3, g3, h1⟩ := cAll_s h1
      obtain rfl := cAll_0 h1
      simp only [if_pos hcn]
      refine gOut.pre (st 0 (vs) EV m AR k1 _ (by omega) (by rw [gSt_8 hk]; unfold gDef; rw [if_pos (by omega)])) ?_
      refine gOut.bnd1 (ch 0 (by omega) 1 s s1 0 env k1 (vs) EV m AR hsm g1 (by omega) (by omega) hg) (by omega) (by omega) (fun k2 v2' x2 EV2 m2 AR2 mn2 p2 q2 r2 hg2 hv2 => ?_)
      refine gOut.pre (st 1 (x2 :: vs) EV2 m2 AR2 k2 _ (by omega) (by rw [gSt_8 hk]; unfold gDef; rw [if_pos (by omega)])) ?_
      refine gOut.bnd1 (ch 1 (by omega) 2 s1 s2 0 env k2 (x2 :: vs) EV2 m2 AR2 sm1 g2 q2 r2 hg2) (by omega) q2 (fun k3 v3' x3 EV3 m3 AR3 mn3 p3 q3 r3 hg3 hv3 => ?_)
      refine gOut.pre (st 2 (x3 :: x2 :: vs) EV3 m3 AR3 k3 _ (by omega) (by rw [gSt_8 hk]; unfold gDef; rw [if_pos (by omega)])) ?_
      simp only [hcn]
      show gOut A0 (PVf P) _ pl vs dp EV3 m3 AR3 (k3.1 - 1) _ _ env _ (aB (evD (PVf P) (evC (PVf P) (PEf P) c) E d (ePt e 2) env k3) _)
      refine gOut.bnd1 (ch 2 (by omega) 3 s2 s9 0 env k3 (x3 :: x2 :: vs) EV3 m3 AR3 sm2 g3 q3 r3 hg3) (by omega) q3 (fun k4 v4' x4 EV4 m4 AR4 mn4 p4 q4 r4 hg4 hv4 => ?_)
      have htv : (t : Int32) = 1 ∨ t = 2 := t2_of (by split <;> decide) v4 (by have := v5; split at this <;> first | exact this | exact Int32.le_trans this (by decide))
      obtain ⟨a, a1, a2, a3, a4⟩ := hg4.2.1 v0 hv20 (v3 htv)
      have hst := st 3 (x4 :: x3 :: x2 :: vs) EV4 m4 AR4 k4 (gPu a x2.1 x3.1 x4.1 pl vs dp EV4 m4 AR4 k4) (by omega) (by rw [gSt_8 hk]; unfold gDef; rw [if_neg (by omega)]; unfold gFin; rw [if_neg (by omega), if_neg (by omega), if_neg (by omega), if_neg (by omega), if_pos hcn, hix]; exact gArr_of a1 a2 (by omega))
      rw [gVal0 hv2, gVal0 hv3, gVal0 hv4, a3]
      refine gOut.pre hst ?_
      show gOut A0 (PVf P) (gPu a x2.1 x3.1 x4.1 pl vs dp EV4 m4 AR4 k4) pl vs dp EV4 m4 AR4 (k4.1 - 1) _ (cOff (eVr e) s9).2.1 env t (if aInD (AR4 a) x2.1 x3.1 = true then ((k4.1, k4.2.1, k4.2.2.1, k4.2.2.2.1, k4.2.2.2.2 + 1), .inr (.inr ((AR4 a).1, (AR4 a).2.1, vp_updL (AR4 a).2.2 (aIdx (AR4 a) x2.1 x3.1) x4.1))) else (k4, .inl 3))
      unfold gPu
      have hgo : gR dp (cOff (eVr e) s9).1 (cOff (eVr e) s9).2.1 env EV4 m4 AR4 := by unfold cOff; rw [ev]; exact hg4.off hv20
      by_cases qi : aInD (AR4 a) x2.1 x3.1 = true
      · rw [if_pos qi, if_pos qi]
        have hae : ∀ b, b < m4 → va_up AR4 m4 ((AR4 a).1, (AR4 a).2.1, vp_updL (AR4 a).2.2 (aIdx (AR4 a) x2.1 x3.1) x4.1) b = AR4 b := fun b hb => va_up_ne _ _ (by omega)
        exact ⟨_, _, _, _, mTo.refl, ⟨Nat.le_succ _, hae, fun _ _ _ => rfl⟩, by show m4 + 1 + (k4.1 - 1) ≤ m4 + k4.1; omega, r4, hgo.mono (Nat.le_succ _) hae (fun _ => rfl), Or.inr ⟨htv, m4, rfl, Nat.lt_succ_self _, by rw [va_up_self], by rw [va_up_self]; exact a4⟩⟩
      · rw [if_neg qi, if_neg qi]
        exact ⟨mTo.refl, by decide, by decide⟩
  · rw [ckS_9 hk] at hck
    rw [evS_9 hk]
    obtain ⟨rfl, rfl, tv, h2⟩ := cVr0_inv hck
    obtain ⟨v1, v2, v3, v4, v5⟩ := cVar_inv h2
    rw [hix]
    rw [ev] at v3
    obtain ⟨a, a1, a2, a3, a4⟩ := hg.2.1 v0 hv20 (v3 (t2_of (by decide) v4 v5))
    rw [a3]
    exact ⟨_, _, _, _, st 0 vs EV m AR k1 _ (by omega) (by rw [gSt_9 hk, hix]; exact gArr_of a1 a2 (by omega)), gMn.refl, by omega, by omega, hg, Or.inl ⟨rfl, rfl⟩⟩
  · rw [ckS_10 hk] at hck
    rw [evS_10 hk]
    obtain ⟨rfl, rfl, tv, h2⟩ := cVr0_inv hck
    obtain ⟨v1, v2, v3, v4, v5⟩ := cVar_inv h2
    rw [hix]
    rw [ev] at v3
    obtain ⟨a, a1, a2, a3, a4⟩ := hg.2.1 v0 hv20 (v3 (t2_of (by decide) v4 v5))
    rw [a3]
    exact ⟨_, _, _, _, st 0 vs EV m AR k1 _ (by omega) (by rw [gSt_10 hk, hix]; exact gArr_of a1 a2 (by omega)), gMn.refl, by omega, by omega, hg, Or.inl ⟨rfl, rfl⟩⟩
  · rw [ckS_11 hk] at hck
    rw [evS_11 hk]
    obtain ⟨rfl, h2⟩ := cVrT_inv hck
    obtain ⟨v1, v2, v3, v4, v5⟩ := cVar_inv h2
    rw [hix]
    rw [ev] at v3
    have htv := t2_of (by decide) v4 v5
    obtain ⟨a, a1, a2, a3, a4⟩ := hg.2.1 v0 hv20 (v3 htv)
    rw [a3]
    refine gOut.pre (st 0 vs EV m AR k1 _ (by omega) (by rw [gSt_11 hk, hix]; exact gArr_of a1 a2 (by omega))) ?_
    have nn : ∀ n : Nat, n ≤ 40 → ¬ (nI n).toInt64 < 0 := fun n hn => by
      rw [nI_l (by omega)]
      exact Int64.not_lt.mpr ((lN_le (a := 0) (by omega) (by omega)).mpr (Nat.zero_le n))
    exact gMk_out hg (fun w => w.elim (nn _ a4.1) (nn _ a4.2)) htv (by omega) (by omega)
  · rw [ckS_12 hk] at hck
    rw [evS_12 hk]
    have hcn : e.2.2.2.1 = 1 := hct.2.2.2.2.2.2.2.2.2.2.2.2 hk
    obtain ⟨t1, s1, h1, h2⟩ := cB_inv hck
    obtain ⟨-, rfl⟩ := cUse_inv h1
    have pass : ∀ x EV' m' AR' k', mTo A0 (PVf P) (.inr ((bs + i, 1) :: pl, x :: vs, dp, EV', m', AR', k')) (.inr (pl, x :: vs, dp, EV', m', AR', k')) := fun x EV' m' AR' k' => st 1 (x :: vs) EV' m' AR' k' _ (by omega) (by rw [gSt_12 hk]; unfold gDrp; rw [if_neg (by decide)])
    refine gOut.pre (st 0 vs EV m AR k1 _ (by omega) (by rw [gSt_12 hk]; unfold gDrp; rw [if_pos rfl])) ?_
    exact (ch 0 (by omega) 1 (cOff (eVr e) s) s' t env (k1.1, k1.2.1, k1.2.2.1 - 1, k1.2.2.2) vs EV m AR hsm h2 (by show m ≤ k1.1; omega) (by show k1.1 ≤ 400; omega) (by unfold cOff; rw [ev]; exact hg.off hv20)).fin (by show k.1 ≤ k1.1; omega) pass (fun _ _ _ _ h => h)
  · rw [ckS_13 hk] at hck
    rw [evS_13 hk]
    unfold cCall at hck
    rw [hig] at hck ⊢
    cases hq : cl g with
    | none => rw [hq] at hck; cases hck
    | some u0 =>
      obtain ⟨a0, cn, Y, rt⟩ := u0
      rw [hq] at hck
      dsimp only at hck
      by_cases qn : cn = e.2.2.2.1
      rotate_left
      · rw [if_neg qn] at hck
        cases hck
      rw [if_pos qn] at hck
      obtain ⟨t9, s9, h1, h2⟩ := cB_inv hck
      cases h2
      obtain ⟨u, hu, -, hucn, hSR, hSY⟩ := hcl g a0 cn Y t hg8 hq
      obtain ⟨-, hu4, hV, hN0, hN150, -, hrg, clu, P0, E0, tu, su1, su2, hclu, hcluR, hsmu, hpar, hbody, hend⟩ := hP g u hu
      obtain ⟨huT, -, -⟩ := hA g u hu
      rw [PVf_of hu]
      have args : ∀ (q j : Nat) (acc : Nat → aV) (k : aC) (sa : cS) (sc : cS) (EV : gE) (m : Nat) (AR : Nat → aA) (as : gV), q + j = e.2.2.2.1 → as.length = j → eSm E sa.2.2 → cAll (ck cl d) e Y q j sa = .inr (t9, s') → gR dp sa.1 sa.2.1 env EV m AR → m ≤ k.1 → k.1 ≤ 400 → 1 ≤ k.1 → cPar u.2.2.2.1 P0 (SY g) q j sc = .inr (tu, su1) → (∀ (EVx : gE) (f : Nat → Int64 × Int32), (∀ j', j' < j → f j' = as.getD (j - 1 - j') (0, 0)) → gR (dp + 1) sc.1 sc.2.1 acc (gArgs u.2.2.2.1 (dp + 1) f j 0 EVx) m AR) →
          (match aArgs (evD (PVf P) (evC (PVf P) (PEf P) c) E d) e u.2.2.2.1 env q j acc k with
          | (k', .inl q') => mTo A0 (PVf P) (.inr ((bs + i, j) :: pl, as ++ vs, dp, EV, m, AR, k)) (.inl (k', q')) ∧ 2 ≤ q' ∧ q' ≤ 5
          | (k', .inr acc') => ∃ as' EV' m' AR', mTo A0 (PVf P) (.inr ((bs + i, j) :: pl, as ++ vs, dp, EV, m, AR, k)) (.inr ((bs + i, e.2.2.2.1) :: pl, as' ++ vs, dp, EV', m', AR', k')) ∧ as'.length = e.2.2.2.1 ∧ gMn dp EV EV' m m' AR AR' ∧ m' + k.1 ≤ m + k'.1 ∧ k'.1 ≤ 400 ∧ gR dp s'.1 s'.2.1 env EV' m' AR' ∧ ∀ (EVx : gE) (f : Nat → Int64 × Int32), (∀ j', j' < e.2.2.2.1 → f j' = as'.getD (e.2.2.2.1 - 1 - j') (0, 0)) → gR (dp + 1) su1.1 su1.2.1 acc' (gArgs u.2.2.2.1 (dp + 1) f e.2.2.2.1 0 EVx) m' AR') := fun q => by
        induction q with
        | zero =>
          intro j acc k sa sc EV m AR as hj hl hs hca hga hm hk4 hk1 hpa hf
          obtain rfl : j = e.2.2.2.1 := by omega
          have e1 := cAll_0 hca
          cases hpa
          rw [e1]
          exact ⟨as, EV, m, AR, mTo.refl, hl, gMn.refl, Nat.le_refl _, hk4, hga, hf⟩
        | succ q ih =>
          intro j acc k sa sc EV m AR as hj hl hs hca hga hm hk4 hk1 hpa hf
          obtain ⟨sb, b1, b2⟩ := cAll_s hca
          have hVj := (hV j (by omega)).1
          obtain ⟨vj, hvj, evj⟩ := hVj
          have hxj : cIx (u.2.2.2.1 j) = vj := by rw [evj]; exact nI_clamp (by omega)
          unfold cPar at hpa
          rw [hxj] at hpa
          by_cases qp : sc.1 vj = -1
          rotate_left
          · rw [if_neg qp] at hpa
            cases hpa
          rw [if_pos qp] at hpa
          have hstep := st j (as ++ vs) EV m AR k _ (by omega) (by rw [gSt_13 hk]; unfold gCal; rw [if_pos (show j < e.2.2.2.1 by omega)])
          have hc1 := gOut.pre hstep (ch j (by omega) (j + 1) sa sb (Y j) env k (as ++ vs) EV m AR hs b1 hm hk4 hga)
          have hu2 : aArgs (evD (PVf P) (evC (PVf P) (PEf P) c) E d) e u.2.2.2.1 env (q + 1) j acc k = (match evD (PVf P) (evC (PVf P) (PEf P) c) E d (ePt e j) env k with
            | (k', .inl q') => (k', .inl q')
            | (k', .inr v) => aArgs (evD (PVf P) (evC (PVf P) (PEf P) c) E d) e u.2.2.2.1 env q (j + 1) (va_up acc (cIx (u.2.2.2.1 j)) v) k') := rfl
          rw [hu2]
          match hr : evD (PVf P) (evC (PVf P) (PEf P) c) E d (ePt e j) env k, hc1 with
          | (k2, .inl q'), hc1 => exact hc1
          | (k2, .inr v), ⟨x, EV2, m2, AR2, r1, r2, r3, r4, r5, r6⟩ =>
            have hle := r2.1
            have r3 : m2 + k.1 ≤ m + k2.1 := r3
            have hbd : cBind (u.2.2.2.1 j) (SY g j) sc = (upd sc.1 vj (SY g j), if SY g j = 1 ∨ SY g j = 2 then sc.2.1 ||| cBit (nI vj) else sc.2.1, sc.2.2) := by
              unfold cBind
              rw [hxj, evj]
            rw [hbd] at hpa
            have hnext := ih (j + 1) (va_up acc (cIx (u.2.2.2.1 j)) v) k2 sb _ EV2 m2 AR2 (x :: as) (by omega) (by show as.length + 1 = _; omega) (hs.trans (ck_sm b1)) b2 r5 (by omega) r4 (by omega) hpa (fun EVx f hff => by
              rw [gArgs_snoc, Nat.zero_add, hxj]
              have f1 : f j = x := by
                have := hff j (by omega)
                rw [show j + 1 - 1 - j = 0 by omega] at this
                exact this
              rw [f1]
              have hgc := (hf EVx f (fun j' hj' => by
                have := hff j' (by omega)
                rw [show j + 1 - 1 - j' = (j - 1 - j') + 1 by omega] at this
                exact this)).mono (EV' := gArgs u.2.2.2.1 (dp + 1) f j 0 EVx) hle r2.2.1 (fun _ => rfl)
              have hsy : SY g j = Y j := hSY j (by omega)
              rw [hsy]
              exact hgc.bind r6 hvj qp)
            dsimp only
            match hr2 : aArgs (evD (PVf P) (evC (PVf P) (PEf P) c) E d) e u.2.2.2.1 env q (j + 1) (va_up acc (cIx (u.2.2.2.1 j)) v) k2, hnext with
            | (k3, .inl q'), hnext => exact ⟨r1.trans hnext.1, hnext.2⟩
            | (k3, .inr acc'), ⟨as', EV', m', AR', n1, n2, n3, n4, n5, n6, n7⟩ => exact ⟨as', EV', m', AR', r1.trans n1, n2, r2.trans n3, by omega, n5, n6, n7⟩
      have hga0 : gR dp s.1 s.2.1 env EV m AR := hg
      have hA1 := args e.2.2.2.1 0 (fun _ => .inl 0) k1 (s.1, s.2.1, va_up s.2.2 i (eCl (s.2.2 i) (some a0))) (cT0, 0, E0) EV m AR [] (by omega) rfl (hsm.trans eSm.up) h1 hga0 (by omega) (by omega) (by omega) (by rw [← qn, ← hucn]; exact hpar) (fun EVx f _ => ⟨fun v hv ht => by rw [show (cT0, (0 : Int32), E0).1 v = -1 from if_pos hv] at ht; exact absurd ht (by decide), fun v hv ho => absurd ho (own_0 hv), fun v hv ho => absurd ho (own_0 hv)⟩)
      match hr : aArgs (evD (PVf P) (evC (PVf P) (PEf P) c) E d) e u.2.2.2.1 env e.2.2.2.1 0 (fun _ => .inl 0) k1, hA1 with
      | (k2, .inl q'), hA1 => exact hA1
      | (k2, .inr acc), ⟨as', EV2, m2, AR2, n1, n2, n3, n4, n5, n6, n7⟩ =>
        have hle := n3.1
        show gOut A0 (PVf P) _ pl vs dp EV m AR k.1 s'.1 s'.2.1 env t (evC (PVf P) (PEf P) c g acc k2)
        have hstep := st e.2.2.2.1 (as' ++ vs) EV2 m2 AR2 k2 _ (by omega) (by rw [gSt_13 hk]; unfold gCal; rw [if_neg (Nat.lt_irrefl _), if_pos rfl, if_pos (by rw [List.length_append]; omega), hig])
        have hdrop : (as' ++ vs).drop e.2.2.2.1 = vs := by rw [← n2, List.drop_left]
        refine gOut.pre (n1.trans hstep) ?_
        unfold gEnter
        rw [PVf_of hu, hdrop]
        cases hc0 : c with
        | zero =>
          rw [if_pos (by omega)]
          exact ⟨mTo.refl, by decide, by decide⟩
        | succ c' =>
          rw [if_neg (by omega)]
          have IHb := IHc (by omega)
          rw [hc0] at IHb
          unfold sA at IHb
          have hd2 : 7 - (c' + 1 - 1) = dp + 1 := by omega
          have ec : c' + 1 - 1 = c' := by omega
          rw [hd2, ec] at IHb
          have hbodyS : su1.2.2 = E0 := cPar_E _ _ _ hpar
          have hgn := n7 EV2 (fun j => (as' ++ vs).getD (e.2.2.2.1 - 1 - j) (0, 0)) (fun j' hj' => by
            rw [List.getD_eq_getElem?_getD, List.getD_eq_getElem?_getD, List.getElem?_append_left (by omega)])
          have hev : evC (PVf P) (PEf P) (c' + 1) g acc k2 = evD (PVf P) (evC (PVf P) (PEf P) c') u.2.2.2.2 8 0 acc k2 := by
            show evD (PVf P) (evC (PVf P) (PEf P) c') (PEf P g) 8 0 acc k2 = _
            rw [PEf_of hu]
          rw [hev]
          have hB := IHb u.2.2.2.2 (150 * g) 0 u.2.2.1 clu su1 su2 (SR g) acc k2 ((bs + i, e.2.2.2.1 + 1) :: pl) vs _ m2 AR2 huT (by omega) hclu hcluR (by rw [hbodyS]; exact hsmu) hbody (by show pl.length + 1 + 8 ≤ _; omega) (by omega) n5 hgn
          rw [hSR] at hB
          have pass : ∀ x EV' m' AR' k', mTo A0 (PVf P) (.inr ((bs + i, e.2.2.2.1 + 1) :: pl, x :: vs, dp + 1, EV', m', AR', k')) (.inr (pl, x :: vs, dp, EV', m', AR', k')) := fun x EV' m' AR' k' => mTo.step ⟨bs, i, e, e.2.2.2.1 + 1, pl, rfl, by omega, hN, hcal, by omega, by
            show gSt (PVf P (cIx (eNm e))) bs i e (e.2.2.2.1 + 1) pl (x :: vs) (dp + 1) EV' m' AR' k' = _
            rw [gSt_13 hk]
            unfold gCal
            rw [if_neg (by omega), if_neg (by omega), if_pos (by omega)]
            rfl⟩
          match hr3 : evD (PVf P) (evC (PVf P) (PEf P) c') u.2.2.2.2 8 0 acc k2, hB with
          | (k3, .inl q'), hB => exact hB
          | (k3, .inr v), ⟨x, EV3, m3, AR3, b1, b2, b3, b4, b5, b6⟩ =>
            have b3 : m3 + k2.1 ≤ m2 + k3.1 := b3
            have hrow : ∀ e', e' < dp + 1 → ∀ v, EV3 e' v = EV2 e' v := fun e' he' v => (b2.2.2 e' he' v).trans (gArgs_row _ _ _ _ (by omega) v)
            exact ⟨x, EV3, m3, AR3, b1.trans (pass x EV3 m3 AR3 k3), n3.trans ⟨b2.1, b2.2.1, fun e' he' v => hrow e' (by omega) v⟩, by omega, b4, n6.mono b2.1 b2.2.1 (fun v => hrow dp (by omega) v), b6⟩
end SIA
