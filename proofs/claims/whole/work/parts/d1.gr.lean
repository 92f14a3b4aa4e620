/-! the program, its types, and what ties the evaluation to the reference's machine -/
def PVf (P : Nat → Option uF) (g : Nat) : mS := match P g with
  | none => fun _ => 0
  | some u => u.2.2.2.1
def PEf (P : Nat → Option uF) (g : Nat) : Nat → eN := match P g with
  | none => fun _ => (0, 0, fun _ => none, 0, 0, 0, 0, 0, 0, none)
  | some u => u.2.2.2.2
def pCl (P : Nat → Option uF) (SY : Nat → mS) (SR : Nat → Int32) (cl : Nat → Option cF) : Prop := ∀ g a c Y rt, g < 8 → cl g = some (a, c, Y, rt) → ∃ u, P g = some u ∧ u.1 = a ∧ u.2.1 = c ∧ SR g = rt ∧ ∀ k, k < c → SY g k = Y k
def pOk (P : Nat → Option uF) (SY : Nat → mS) (SR : Nat → Int32) : Prop := ∀ g u, P g = some u → g < 8 ∧ u.2.1 ≤ 4 ∧ (∀ k, k < u.2.1 → (∃ v, v < 20 ∧ u.2.2.2.1 k = nI v) ∧ rg3 (SY g k)) ∧ 0 < u.2.2.1 ∧ u.2.2.1 ≤ 150 ∧ eWf u.2.2.1 u.2.2.2.2 ∧ rg3 (SR g) ∧ ∃ cl P0 E0 t1 s1 s2, pCl P SY SR cl ∧ clR cl ∧ eSm u.2.2.2.2 E0 ∧ cPar u.2.2.2.1 P0 (SY g) u.2.1 0 (cT0, 0, E0) = .inr (t1, s1) ∧ ck cl 8 0 s1 = .inr (SR g, s2) ∧ ∀ k, k < u.2.1 → ¬ cOwn s2.2.1 (u.2.2.2.1 k)
def pRf (A0 : mA) (P : Nat → Option uF) : Prop := ∀ g u, P g = some u → uT A0 u.2.2.2.2 (150 * g) 8 0 u.2.2.1 ∧ A0 93 g = nI u.2.1 ∧ ∀ k, k < u.2.1 → A0 95 (4 * g + k) = u.2.2.2.1 k
def aSz (a : aA) : Prop := a.1 ≤ 40 ∧ a.2.1 ≤ 40
def gR (dp : Nat) (T : mS) (o : Int32) (env : Nat → aV) (EV : gE) (m : Nat) (AR : Nat → aA) : Prop := (∀ v, v < 20 → T v = 0 → env v = .inl (EV dp v).1) ∧ (∀ v, v < 20 → cOwn o (nI v) → ∃ a, (EV dp v).2 = nI a ∧ a < m ∧ env v = .inr (AR a) ∧ aSz (AR a)) ∧ ∀ v, v < 20 → cOwn o (nI v) → T v = 1 ∨ T v = 2
def gVal (t : Int32) (x : Int64 × Int32) (v : aV) (m : Nat) (AR : Nat → aA) : Prop := (t = 0 ∧ v = .inl x.1) ∨ ((t = 1 ∨ t = 2) ∧ ∃ a, x.2 = nI a ∧ a < m ∧ v = .inr (AR a) ∧ aSz (AR a))
def gMn (dp : Nat) (EV EV' : gE) (m m' : Nat) (AR AR' : Nat → aA) : Prop := m ≤ m' ∧ (∀ a, a < m → AR' a = AR a) ∧ ∀ e, e < dp → ∀ v, EV' e v = EV e v
def gOut (A0 : mA) (PV : Nat → mS) (X0 : gX) (pl : gP) (vs : gV) (dp : Nat) (EV : gE) (m : Nat) (AR : Nat → aA) (k0 : Nat) (T : mS) (o : Int32) (env : Nat → aV) (t : Int32) (r : aR) : Prop := match r with
  | (k', .inl q) => mTo A0 PV X0 (.inl (k', q)) ∧ 2 ≤ q ∧ q ≤ 5
  | (k', .inr v) => ∃ x EV' m' AR', mTo A0 PV X0 (.inr (pl, x :: vs, dp, EV', m', AR', k')) ∧ gMn dp EV EV' m m' AR AR' ∧ m' + k0 ≤ m + k'.1 ∧ k'.1 ≤ 400 ∧ gR dp T o env EV' m' AR' ∧ gVal t x v m' AR'
theorem clamp40 {x : Int64} (h : ¬ 40 < x) : x.toNatClampNeg ≤ 40 := by
  have h1 := Int64.le_iff_toInt_le.mp (Int64.not_lt.mp h)
  have e : (40 : Int64).toInt = 40 := rfl
  rw [e] at h1
  show x.toInt.toNat ≤ 40
  omega
section GRL
variable {A0 : mA} {PV : Nat → mS} {X0 X1 : gX} {pl pl1 : gP} {vs vs1 : gV} {dp m m' m1 k0 k1 : Nat} {EV EV' EV1 : gE} {AR AR' AR1 : Nat → aA} {T T1 : mS} {o o1 : Int32} {env env1 : Nat → aV} {t t1 : Int32} {r : aR} {E : Nat → eN}
theorem gMn.refl : gMn dp EV EV m m AR AR := ⟨Nat.le_refl _, fun _ _ => rfl, fun _ _ _ => rfl⟩
theorem gMn.trans (h : gMn dp EV EV' m m' AR AR') (g : gMn dp EV' EV1 m' m1 AR' AR1) : gMn dp EV EV1 m m1 AR AR1 := ⟨Nat.le_trans h.1 g.1, fun a ha => (g.2.1 a (Nat.lt_of_lt_of_le ha h.1)).trans (h.2.1 a ha), fun e he v => (g.2.2 e he v).trans (h.2.2 e he v)⟩
theorem gR.mono (h : gR dp T o env EV m AR) (hm : m ≤ m') (ha : ∀ a, a < m → AR' a = AR a) (he : ∀ v, EV' dp v = EV dp v) : gR dp T o env EV' m' AR' := by
  refine ⟨fun v hv ht => by rw [he]; exact h.1 v hv ht, fun v hv ho => ?_, h.2.2⟩
  obtain ⟨a, h1, h2, h3⟩ := h.2.1 v hv ho
  exact ⟨a, by rw [he]; exact h1, by omega, by rw [ha a h2]; exact h3⟩
theorem gVal.mono {x : Int64 × Int32} {v : aV} (h : gVal t x v m AR) (hm : m ≤ m') (ha : ∀ a, a < m → AR' a = AR a) : gVal t x v m' AR' := by
  rcases h with h | ⟨ht, a, h1, h2, h3⟩
  · exact Or.inl h
  · exact Or.inr ⟨ht, a, h1, by omega, by rw [ha a h2]; exact h3⟩
theorem gR.bind {x : Int64 × Int32} {v : aV} {v0 : Nat} (h : gR dp T o env EV m AR) (hv : gVal t x v m AR) (h20 : v0 < 20) (hT : T v0 = -1) : gR dp (upd T v0 t) (if t = 1 ∨ t = 2 then o ||| cBit (nI v0) else o) (va_up env v0 v) (gHold EV dp v0 x) m AR := by
  have hno : ¬ cOwn o (nI v0) := fun w => by
    rcases h.2.2 v0 h20 w with q | q <;> rw [hT] at q <;> exact absurd q (by decide)
  have hown : ∀ w, w < 20 → cOwn (if t = 1 ∨ t = 2 then o ||| cBit (nI v0) else o) (nI w) → (w = v0 ∧ (t = 1 ∨ t = 2)) ∨ (w ≠ v0 ∧ cOwn o (nI w)) := fun w hw q => by
    by_cases qt : t = 1 ∨ t = 2
    · rw [if_pos qt] at q
      rcases (own_or o hw h20).mp q with e | e
      · exact Or.inl ⟨e, qt⟩
      · by_cases e2 : w = v0
        · exact Or.inl ⟨e2, qt⟩
        · exact Or.inr ⟨e2, e⟩
    · rw [if_neg qt] at q
      refine Or.inr ⟨fun e => hno (by rw [← e]; exact q), q⟩
  refine ⟨fun w hw ht => ?_, fun w hw ho => ?_, fun w hw ho => ?_⟩
  · by_cases e : w = v0
    · subst e
      rw [upd_self] at ht
      rw [va_up_self]
      unfold gHold
      rw [if_pos ⟨rfl, rfl⟩]
      rcases hv with ⟨-, hv⟩ | ⟨ht2, -⟩
      · exact hv
      · rw [ht] at ht2
        exact absurd ht2 (by decide)
    · rw [upd_ne e] at ht
      rw [va_up_ne _ _ e]
      unfold gHold
      rw [if_neg (fun q => e q.2)]
      exact h.1 w hw ht
  · rcases hown w hw ho with ⟨e, ht2⟩ | ⟨e, ho2⟩
    · subst e
      rw [va_up_self]
      unfold gHold
      rw [if_pos ⟨rfl, rfl⟩]
      rcases hv with ⟨ht, -⟩ | ⟨-, hv⟩
      · rw [ht] at ht2
        exact absurd ht2 (by decide)
      · exact hv
    · rw [va_up_ne _ _ e]
      unfold gHold
      rw [if_neg (fun q => e q.2)]
      exact h.2.1 w hw ho2
  · rcases hown w hw ho with ⟨e, ht2⟩ | ⟨e, ho2⟩
    · subst e
      rw [upd_self]
      exact ht2
    · rw [upd_ne e]
      exact h.2.2 w hw ho2
theorem gR.off {v0 : Nat} (h : gR dp T o env EV m AR) (h20 : v0 < 20) : gR dp T (o &&& (cBit (nI v0) ^^^ (-1))) env EV m AR := ⟨h.1, fun w hw ho => h.2.1 w hw ((own_off o hw h20).mp ho).2, fun w hw ho => h.2.2 w hw ((own_off o hw h20).mp ho).2⟩
theorem gR.unbind {v0 : Nat} {v : aV} (h : gR dp T o (va_up env v0 v) EV m AR) (hno : ¬ cOwn o (nI v0)) : gR dp (upd T v0 (-1)) o env EV m AR := by
  refine ⟨fun w hw ht => ?_, fun w hw ho => ?_, fun w hw ho => ?_⟩
  · by_cases e : w = v0
    · subst e
      rw [upd_self] at ht
      exact absurd ht (by decide)
    · rw [upd_ne e] at ht
      have := h.1 w hw ht
      rw [va_up_ne _ _ e] at this
      exact this
  · have e : w ≠ v0 := fun e => hno (by rw [← e]; exact ho)
    have := h.2.1 w hw ho
    rw [va_up_ne _ _ e] at this
    exact this
  · have e : w ≠ v0 := fun e => hno (by rw [← e]; exact ho)
    rw [upd_ne e]
    exact h.2.2 w hw ho
theorem gR.types (h : gR dp T o env EV m AR) (hT : ∀ v, T1 v = T v) : gR dp T1 o env EV m AR := ⟨fun w hw ht => h.1 w hw (by rw [← hT]; exact ht), h.2.1, fun w hw ho => by rw [hT]; exact h.2.2 w hw ho⟩
theorem gOut.pre (h : mTo A0 PV X0 X1) (g : gOut A0 PV X1 pl vs dp EV m AR k0 T o env t r) : gOut A0 PV X0 pl vs dp EV m AR k0 T o env t r := by
  match r, g with
  | (k', .inl q), g => exact ⟨h.trans g.1, g.2⟩
  | (k', .inr v), ⟨x, EV', m', AR', g, g2⟩ => exact ⟨x, EV', m', AR', h.trans g, g2⟩
theorem gOut.bnd {f : aC → aV → aR} (h : gOut A0 PV X0 pl1 vs1 dp EV m AR k0 T1 o1 env1 t1 r) (g : ∀ k' v x EV' m' AR', gMn dp EV EV' m m' AR AR' → m' + k0 ≤ m + k'.1 → k'.1 ≤ 400 → gR dp T1 o1 env1 EV' m' AR' → gVal t1 x v m' AR' → gOut A0 PV (.inr (pl1, x :: vs1, dp, EV', m', AR', k')) pl vs dp EV' m' AR' k'.1 T o env t (f k' v)) : gOut A0 PV X0 pl vs dp EV m AR k0 T o env t (aB r f) := by
  match r, h with
  | (k', .inl q), h => exact h
  | (k', .inr v), ⟨x, EV', m', AR', h1, h2, h3, h4, h5, h6⟩ =>
    have g := g k' v x EV' m' AR' h2 h3 h4 h5 h6
    show gOut A0 PV X0 pl vs dp EV m AR k0 T o env t (f k' v)
    match hr : f k' v, g with
    | (k2, .inl q), g => exact ⟨h1.trans g.1, g.2⟩
    | (k2, .inr v2), ⟨x2, EV2, m2, AR2, g1, g2, g3, g4, g5⟩ => exact ⟨x2, EV2, m2, AR2, h1.trans g1, h2.trans g2, by omega, g4, g5⟩
/-- a step behind the value -/
theorem gOut.fin (h : gOut A0 PV X0 pl1 vs dp EV m AR k1 T1 o1 env1 t r) (hk : k0 ≤ k1) (hst : ∀ x EV' m' AR' k', mTo A0 PV (.inr (pl1, x :: vs, dp, EV', m', AR', k')) (.inr (pl, x :: vs, dp, EV', m', AR', k'))) (hR : ∀ EV' m' AR', gMn dp EV EV' m m' AR AR' → gR dp T1 o1 env1 EV' m' AR' → gR dp T o env EV' m' AR') : gOut A0 PV X0 pl vs dp EV m AR k0 T o env t r := by
  match r, h with
  | (k', .inl q), h => exact h
  | (k', .inr v), ⟨x, EV', m', AR', h1, h2, h3, h4, h5, h6⟩ => exact ⟨x, EV', m', AR', h1.trans (hst x EV' m' AR' k'), h2, by omega, h4, hR EV' m' AR' h2 h5, h6⟩
theorem gOut.weak (h : gOut A0 PV X0 pl vs dp EV m AR k1 T o env t r) (hk : k0 ≤ k1) : gOut A0 PV X0 pl vs dp EV m AR k0 T o env t r := h.fin hk (fun _ _ _ _ _ => mTo.refl) (fun _ _ _ _ h => h)
theorem gMk_out {rr cc : Int64} {ct : Nat → Int64} {k : aC} (hg : gR dp T o env EV m AR) (hr : ¬ (rr < 0 ∨ cc < 0)) (ht : t = 1 ∨ t = 2) (hk : k.1 ≤ 400) (hk0 : k0 + 1 ≤ k.1) : gOut A0 PV (gMk rr cc ct pl vs dp EV m AR k) pl vs dp EV m AR k0 T o env t (aMk rr cc ct k) := by
  unfold gMk aMk
  rw [if_neg hr]
  by_cases q : 40 < rr ∨ 40 < cc ∨ 40 < rr * cc ∨ k.2.2.1 = 8
  · rw [if_pos q, if_pos q]
    exact ⟨mTo.refl, by decide, by decide⟩
  · rw [if_neg q, if_neg q]
    have ha : ∀ a, a < m → va_up AR m (rr.toNatClampNeg, cc.toNatClampNeg, ct) a = AR a := fun a ha => va_up_ne _ _ (by omega)
    exact ⟨_, _, _, _, mTo.refl, ⟨Nat.le_succ m, ha, fun _ _ _ => rfl⟩, by show m + 1 + k0 ≤ m + k.1; omega, hk, hg.mono (Nat.le_succ m) ha (fun _ => rfl), Or.inr ⟨ht, m, rfl, Nat.lt_succ_self m, by rw [va_up_self], by rw [va_up_self]; exact ⟨clamp40 (fun w => q (Or.inl w)), clamp40 (fun w => q (Or.inr (Or.inl w)))⟩⟩⟩
theorem gNew_out {rr cc : Int64} {k : aC} (hg : gR dp T o env EV m AR) (ht : t = 1 ∨ t = 2) (hk : k.1 ≤ 400) (hk0 : k0 + 1 ≤ k.1) : gOut A0 PV (gNew rr cc pl vs dp EV m AR k) pl vs dp EV m AR k0 T o env t (aMk rr cc (fun _ => 0) k) := by
  unfold gNew
  by_cases q : rr < 0 ∨ cc < 0
  · rw [if_pos q]
    unfold aMk
    rw [if_pos q]
    exact ⟨mTo.refl, by decide, by decide⟩
  · rw [if_neg q]
    exact gMk_out hg q ht hk hk0
theorem gArr_of {h : Int32} {a : Nat} {f : Nat → gX} (e : h = nI a) (ha : a < m) (hm : m ≤ 400) : gArr h m f = some (f a) := by
  unfold gArr
  rw [e, nI_clamp (by omega), if_pos ⟨rfl, ha⟩]
theorem gArgs_snoc {V : mS} {f : Nat → Int64 × Int32} : ∀ (m j : Nat) (EV : gE), gArgs V dp f (m + 1) j EV = gHold (gArgs V dp f m j EV) dp (cIx (V (j + m))) (f (j + m))
  | 0, j, EV => rfl
  | m + 1, j, EV => by
    show gArgs V dp f (m + 1) (j + 1) _ = gHold (gArgs V dp f m (j + 1) _) dp (cIx (V (j + (m + 1)))) (f (j + (m + 1)))
    rw [gArgs_snoc m (j + 1), show j + 1 + m = j + (m + 1) by omega]
theorem gArgs_row {V : mS} {f : Nat → Int64 × Int32} : ∀ (m j : Nat) (EV : gE) (e : Nat), e ≠ dp → ∀ v, gArgs V dp f m j EV e v = EV e v
  | 0, _, _, _, _, _ => rfl
  | m + 1, j, EV, e, he, v => by
    show gArgs V dp f m (j + 1) (gHold EV dp (cIx (V j)) (f j)) e v = _
    rw [gArgs_row m (j + 1) _ e he v]
    unfold gHold
    rw [if_neg (fun q => he q.1)]
theorem tC_prt {R : Nat → Nat → Prop} {pt : Nat → Option Nat} (h3 : ∀ x y, R x y → x < y) : ∀ {n c p b : Nat}, tC R pt n c p b → ∀ j, c ≤ j → j < c + n → ∃ x y, pt j = some x ∧ R x y ∧ y ≤ b
  | 0, c, p, b, _, j, h1, h2 => absurd h2 (by omega)
  | n + 1, c, p, b, h, j, h1, h2 => by
    obtain ⟨hp, p', hR, hC⟩ := h
    by_cases q : j = c
    · rw [q]
      exact ⟨p, p', hp, hR, tC_le h3 hC⟩
    · exact tC_prt h3 hC j (by omega) (by omega)
theorem uT_part {bs d i b : Nat} (h : uT A0 E bs (d + 1) i b) : ∀ j, j < (E i).2.2.2.1 → ∃ y, uT A0 E bs d (ePt (E i) j) y ∧ y ≤ b := fun j hj => by
  obtain ⟨x, y, h1, h2, h3⟩   := tC_prt (fun x y r => uT_lt r) h.2.2 j (Nat.zero_le _) (by omega)
  refine ⟨y, ?_, h3⟩
  unfold ePt
  rw [h1]
  exact h2
theorem uT_chain {bs d : Nat} {pt : Nat → Option Nat} : ∀ {n c p b : Nat}, tC (uT A0 E bs d) pt n c p b → bs + b ≤ 1200 → ∃ X : Nat → Nat, X c = bs + p ∧ ∀ j, c ≤ j → j < c + n → X j = bs + (pt j).getD 0 ∧ X j < 1200 ∧ A0 91 (X j) = nI (X (j + 1))
  | 0, c, p, b, _, _ => ⟨fun _ => bs + p, rfl, fun j h1 h2 => absurd h2 (by omega)⟩
  | n + 1, c, p, b, h, hb => by
    have hle := tC_le (fun x y r => uT_lt r) h
    obtain ⟨hp, p', hR, hC⟩ := h
    obtain ⟨X, hX0, hX⟩ := uT_chain hC hb
    have hlt := uT_lt hR
    have hle2 := tC_le (fun x y r => uT_lt r) hC
    refine ⟨fun j => if j = c then bs + p else X j, if_pos rfl, fun j h1 h2 => ?_⟩
    by_cases q : j = c
    · subst q
      simp only [if_pos rfl, if_neg (show ¬ j + 1 = j by omega)]
      rw [hp, hX0]
      have hlt3 : bs + p < 1200 := by omega
      refine ⟨rfl, hlt3, ?_⟩
      cases d with
      | zero => exact False.elim hR
      | succ d => exact hR.2.1
    · simp only [if_neg q, if_neg (show ¬ j + 1 = c by omega)]
      exact hX j (by omega) (by omega)
theorem gN_of {bs d i b : Nat} (h : uT A0 E bs (d + 1) i b) (hb : bs + b ≤ 1200) : gN A0 bs i (E i) := by
  have hl := uT_lt h
  obtain ⟨⟨t1, t2, t3, t4, t5, t6⟩, h2, h3⟩ := h
  obtain ⟨X, hX0, hX⟩ := uT_chain h3 hb
  exact ⟨by omega, t1, t2, t3, t4, t5, t6, X, hX0, fun j hj => hX j (Nat.zero_le _) (by omega)⟩
end GRL
/-- the check leaves the types as they were -/
theorem cAll_T {L : Nat → cS → cR} (hL : ∀ p s t s', L p s = .inr (t, s') → ∀ v, s'.1 v = s.1 v) {e : eN} {W : Nat → Int32} : ∀ (m j : Nat) (s : cS) {t : Int32} {s' : cS}, cAll L e W m j s = .inr (t, s') → ∀ v, s'.1 v = s.1 v
  | 0, _, s, t, s', h => by rw [cAll_0 h]; exact fun _ => rfl
  | m + 1, j, s, t, s', h => fun v => by
    obtain ⟨s1, h1, h2⟩ := cAll_s h
    rw [cAll_T hL m (j + 1) s1 h2 v, hL _ _ _ _ h1 v]
theorem ck_T {cl : Nat → Option cF} : ∀ (d i : Nat) (s : cS) {t : Int32} {s' : cS}, ck cl d i s = .inr (t, s') → ∀ v, s'.1 v = s.1 v
  | 0, _, _, _, _, h => by cases h
  | d + 1, i, s, t, s', h => by
    have hL : ∀ p s t s', ck cl d p s = .inr (t, s') → ∀ v, s'.1 v = s.1 v := fun p s t s' h => ck_T d p s h
    have h : ckS cl (ck cl d) i (s.2.2 i) s = .inr (t, s') := h
    obtain ⟨e, he⟩ : ∃ x, s.2.2 i = x := ⟨_, rfl⟩
    rw [he] at h
    unfold ckS at h
    by_cases q1 : e.1 = 1
    · rw [if_pos q1] at h
      rw [(cUse_inv h).2]
      exact fun _ => rfl
    rw [if_neg q1] at h
    by_cases q3 : e.1 = 3
    · rw [if_pos q3] at h
      unfold cCho at h
      obtain ⟨t1, s1, h1, h2⟩ := cB_inv h
      obtain ⟨t2, s2, h3, h4⟩ := cB_inv h2
      obtain ⟨t3, s3, h5, h6⟩ := cB_inv h4
      split at h6
      · cases h6
        intro v
        have e3 := hL _ _ _ _ h5 v
        have e3 : s'.1 v = s2.1 v := e3
        rw [e3, hL _ _ _ _ h3 v, hL _ _ _ _ (cPart_inv h1) v]
      · cases h6
    rw [if_neg q3] at h
    by_cases q4 : e.1 = 4
    · rw [if_pos q4] at h
      unfold cBnd at h
      split at h
      · rename_i hm1
        obtain ⟨t1, s1, h1, h2⟩ := cB_inv h
        obtain ⟨t2, s2, h3, h4⟩ := cB_inv h2
        split at h4
        · cases h4
        · cases h4
          intro v
          show upd s2.1 (cIx (eVr e)) (-1) v = s.1 v
          by_cases q : v = cIx (eVr e)
          · rw [q, upd_self, hm1]
          · rw [upd_ne q]
            have e3 := hL _ _ _ _ h3 v
            have e3 : s2.1 v = upd s1.1 (cIx (eVr e)) t1 v := e3
            rw [e3, upd_ne q, hL _ _ _ _ h1 v]
      · cases h
    rw [if_neg q4] at h
    by_cases q5 : e.1 = 5
    · rw [if_pos q5] at h
      obtain ⟨t1, s1, h1, h2⟩ := cB_inv h
      cases h2
      exact cAll_T hL _ _ _ h1
    rw [if_neg q5] at h
    by_cases q6 : e.1 = 6
    · rw [if_pos q6] at h
      obtain ⟨t1, s1, h1, h2⟩ := cB_inv h
      cases h2
      exact cAll_T hL _ _ _ h1
    rw [if_neg q6] at h
    by_cases q7 : e.1 = 7
    · rw [if_pos q7] at h
      obtain ⟨t1, s1, h1, h2⟩ := cB_inv h
      obtain ⟨-, rfl, -⟩ := cVr0_inv h2
      exact cAll_T hL _ _ _ h1
    rw [if_neg q7] at h
    by_cases q8 : e.1 = 8
    · rw [if_pos q8] at h
      obtain ⟨t1, s1, h1, h2⟩ := cB_inv h
      obtain ⟨-, rfl⟩ := cUse_inv h2
      exact cAll_T (s' := s1) hL _ _ _ h1
    rw [if_neg q8] at h
    by_cases q9 : e.1 = 9
    · rw [if_pos q9] at h
      obtain ⟨-, rfl, -⟩ := cVr0_inv h
      exact fun _ => rfl
    rw [if_neg q9] at h
    by_cases q10 : e.1 = 10
    · rw [if_pos q10] at h
      obtain ⟨-, rfl, -⟩ := cVr0_inv h
      exact fun _ => rfl
    rw [if_neg q10] at h
    by_cases q11 : e.1 = 11
    · rw [if_pos q11] at h
      obtain ⟨rfl, -⟩ := cVrT_inv h
      exact fun _ => rfl
    rw [if_neg q11] at h
    by_cases q12 : e.1 = 12
    · rw [if_pos q12] at h
      obtain ⟨t1, s1, h1, h2⟩ := cB_inv h
      obtain ⟨-, rfl⟩ := cUse_inv h1
      exact fun v => (hL _ _ _ _ h2 v).trans rfl
    rw [if_neg q12] at h
    by_cases q13 : e.1 = 13
    · rw [if_pos q13] at h
      unfold cCall at h
      cases hcl : cl (cIx (eNm e)) with
      | none => rw [hcl] at h; cases h
      | some u =>
        obtain ⟨a, c, Y, rt⟩ := u
        rw [hcl] at h
        dsimp only at h
        split at h
        · obtain ⟨t1, s1, h1, h2⟩ := cB_inv h
          cases h2
          exact fun v => (cAll_T hL _ _ _ h1 v).trans rfl
        · cases h
    rw [if_neg q13] at h
    obtain ⟨t1, s1, h1, h2⟩ := cB_inv h
    cases h2
    exact cAll_T hL _ _ _ h1
