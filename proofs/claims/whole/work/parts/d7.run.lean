/-! run -/
section RUN
variable {V Q Y : mS} {Lx : Nat → Int64} {cn : Nat}
theorem xPar_k : ∀ (m k : Nat) (S : xT), (xPar V m k S).1 = S.1 ∧ (xPar V m k S).2.1 = S.2.1 ∧ ∀ i, i ≠ 20 → (xPar V m k S).2.2 i = S.2.2 i
  | 0, _, S => ⟨rfl, rfl, fun _ _ => rfl⟩
  | m + 1, k, S => by
    obtain ⟨h1, h2, h3⟩ := xPar_k m (k + 1) (xSet 0 (cIx (V k)) (S.2.2 4 k) S)
    exact ⟨h1, h2, fun i hi => (h3 i hi).trans (va_up_ne _ _ hi)⟩
theorem par_start (hY : ∀ k, k < cn → Y k = 0) (h4 : cn ≤ 4) : ∀ (m k : Nat) (sc : cS) (EV : gE) (S : xT) {t : Int32} {s1 : cS}, m + k = cn → sc.2.1 = 0 → (∀ v, v < 20 → sc.1 v = 0 → (EV 0 v).1 = S.2.2 20 v) → (∀ k, k < 4 → S.2.2 4 k = Lx k) → cPar V Q Y m k sc = .inr (t, s1) → s1.2.1 = 0 ∧ ∀ v, v < 20 → s1.1 v = 0 → (gPar V Lx m k EV 0 v).1 = (xPar V m k S).2.2 20 v
  | 0, k, sc, EV, S, t, s1, hk, ho, hv, hl, h => by
    cases h
    exact ⟨ho, hv⟩
  | m + 1, k, sc, EV, S, t, s1, hk, ho, hv, hl, h => by
    unfold cPar at h
    by_cases q : sc.1 (cIx (V k)) = -1
    · rw [if_pos q, hY k (by omega)] at h
      refine par_start hY h4 m (k + 1) (cBind (V k) 0 sc) (gHold EV 0 (cIx (V k)) (Lx k, (EV 0 (cIx (V k))).2)) (xSet 0 (cIx (V k)) (S.2.2 4 k) S) (by omega) ho (fun v hv20 ht => ?_) (fun j hj => ?_) h
      · have e : (xSet 0 (cIx (V k)) (S.2.2 4 k) S).2.2 20 v = vp_updL (S.2.2 20) (cIx (V k)) (S.2.2 4 k) v := rfl
        rw [e]
        unfold gHold
        by_cases w : v = cIx (V k)
        · rw [if_pos ⟨rfl, w⟩]
          exact ((if_pos w).trans (hl k (by omega))).symm
        · rw [if_neg (fun z => w z.2)]
          have ht : upd sc.1 (cIx (V k)) 0 v = 0 := ht
          rw [upd_ne w] at ht
          exact (hv v hv20 ht).trans (if_neg w).symm
      · exact hl j hj
    · rw [if_neg q] at h
      cases h
end RUN
section HRW
variable {G : zG} {l : Launch} {n : Nat} {σ : zS} {xs : mS} {xr : Int64} {xa : mA} {xl : mL} {xf : xF} {S : mS} {A : mA} {L : mL} {rn : Int64}
theorem xfn_at {c : Int32} {a : Nat} (h : xfn xf c = some a) : ∃ f, f < 8 ∧ c - 65 = nI f ∧ xf f = some a := by
  unfold xfn at h
  by_cases q : 65 ≤ c ∧ c ≤ 72
  · rw [if_pos q] at h
    have q1 := Int32.le_iff_toInt_le.mp q.1
    have q2 := Int32.le_iff_toInt_le.mp q.2
    have e1 : (65 : Int32).toInt = 65 := rfl
    have e2 : (72 : Int32).toInt = 72 := rfl
    rw [e1] at q1
    rw [e2] at q2
    have ec : c = nI c.toInt.toNat := by
      apply Int32.toInt_inj.mp
      rw [nI_toInt (by omega)]
      omega
    obtain ⟨w, hw⟩ : ∃ w, c.toInt.toNat = w + 65 := ⟨c.toInt.toNat - 65, by omega⟩
    have e3 : c - 65 = nI w := by
      rw [ec, hw, ← nI_add]
      exact Int32.add_sub_cancel _ _
    rw [e3, nI_clamp (by omega)] at h
    exact ⟨w, by omega, e3, h⟩
  · rw [if_neg q] at h
    cases h
theorem l_run (hn : 114 ≤ n) (hn2 : n < 900000) (h : Rel FRw n σ xs xr xa xl xf S A L rn) (c : Int32) : lCall G l FRw 5 y_S_run b_S_run 3 [.ref 0, .int c] y_M_run b_M_run 5 [.ref 85, .int c] n σ xs xr xa xl xf S A L rn := by
  cases hx : xfn xf c with
  | none => exact l_run_no FRw_ok hn hn2 h c hx
  | some a =>
    obtain ⟨f, hf, hc, hxf⟩ := xfn_at hx
    obtain ⟨⟨tu, tz, hTx⟩, h6, ⟨hcn2, hdf, hFR⟩, hAr, hRs, hCn⟩ := id h
    have hFR2 : FRw n (mOv S A L rn σ) xf A := FRw_ok.2.2.2 n σ n _ xf A (Nat.le_refl _) (fun i hi _ => mOv_at (by omega)) hFR
    obtain ⟨P, SY, SR, hP, hA, hU, hfn⟩ := prog hFR2 hn hn2
    obtain ⟨u, hu, hua, hg0, hg3, h94, h96⟩ := hfn f hf a hxf
    obtain ⟨-, hu4, hV, hN0, hN150, -, hrg, clu, P0, E0, tu1, su1, su2, hclu, hcluR, hsmu, hpar, hbody, hend⟩ := hP f u hu
    obtain ⟨huT, h93, h95⟩ := hA f u hu
    have h92 : ¬ A 92 f = 0 := fun w => by
      have := (hdf f hf).mpr w
      rw [hxf] at this
      cases this
    obtain ⟨-, -, hUf⟩ := id hU
    obtain ⟨ua, ub, -⟩ := hUf f u hu
    rw [hua] at ua ub
    by_cases hY : ∀ k, k < u.2.1 → SY f k = 0
    rotate_left
    · refine ⟨6, 1, 6, 1, by omega, by omega, by omega, by omega, _, c_S_run_arr (by omega) hn2 hx ua (by omega) hu4 hg0 hg3 hY, fun o n' σ' hp => ?_⟩
      obtain ⟨rfl, rfl, rfl⟩ := hp
      refine ⟨by omega, by omega, xs, xr, xa, xl, xf, va_up σ n (.inr (9, [])), 1, 0, by rw [mOv_up (by omega)], va_up_ne _ _ (by omega), Or.inr ⟨n, 0, rfl, by omega, hn, by omega, rfl, va_up_self _ _ _⟩, fun σ2 τ hag => ?_⟩
      refine MetZ.mono (c_M_run_arr (by omega) hf hc h92 h93 hu4 h96 hY) (fun o n' σ' hp => ?_)
      obtain ⟨rfl, rfl, rfl⟩ := hp
      obtain ⟨h1, h2, ⟨h3, h4, h5⟩, h6⟩ := h
      exact ⟨upd S 0 1, A, L, rn, 0, rfl, rfl, rfl, rfl, fun _ => rfl, h1, h2, ⟨h3, h4, FRw_ok.2.2.2 _ _ _ _ _ _ (by omega) (fun i a b => (hag i (by omega)).trans (va_up_ne _ _ (by omega))) h5⟩, h6⟩
    · obtain ⟨ho0, hst⟩ := par_start (Lx := L 111) hY hu4 u.2.1 0 (cT0, 0, E0) (gE0 A L) (xSt0 (upd xs 3 (-1), xa, xl)) (by omega) rfl (fun v hv ht => by rw [show (cT0, (0 : Int32), E0).1 v = -1 from if_pos hv] at ht; exact absurd ht (by decide)) (fun k hk => hAr k hk) hpar
      obtain ⟨k1, k2, k3⟩ := xPar_k (V := u.2.2.2.1) u.2.1 0 (xSt0 (upd xs 3 (-1), xa, xl))
      obtain ⟨X0, hX0⟩ : ∃ X0, xPar u.2.2.2.1 u.2.1 0 (xSt0 (upd xs 3 (-1), xa, xl)) = X0 := ⟨_, rfl⟩
      obtain ⟨EV0, hEV0⟩ : ∃ EV0, gPar u.2.2.2.1 (L 111) u.2.1 0 (gE0 A L) = EV0 := ⟨_, rfl⟩
      rw [hX0] at k1 k2 k3
      rw [hX0, hEV0] at hst
      have hbodyS : su1.2.2 = E0 := cPar_E _ _ _ hpar
      have hno : ∀ v, v < 20 → ¬ cOwn su1.2.1 (nI v) := fun v hv => by rw [ho0]; exact own_0 hv
      obtain ⟨env, henv⟩ : ∃ env : Nat → aV, env = fun v => .inl (EV0 0 v).1 := ⟨_, rfl⟩
      have hgR : gR (7 - 7) su1.1 su1.2.1 env EV0 0 (fun _ => (0, 0, fun _ => 0)) := ⟨fun v _ _ => by rw [henv], fun v hv ho => absurd ho (hno v hv), fun v hv ho => absurd ho (hno v hv)⟩
      have hcQ : cQ X0 0 1 su1.1 su1.2.1 env (0, 0, 0, 0, 0) (fun _ => False) := by
        refine ⟨⟨fun v hv ht => ?_, fun v hv ho => absurd ho (hno v hv), fun v w hv _ ho _ _ => absurd ho (hno v hv)⟩, ⟨?_, ?_, ?_, ?_⟩, ⟨by decide, ?_, ?_⟩, ?_, fun a ha => False.elim ha⟩
        · rw [henv]
          exact congrArg Sum.inl (hst v hv ht)
        · rw [k1]; rfl
        · rw [k1]; rfl
        · rw [k1]; rfl
        · rw [k1]; rfl
        · rw [k1]; rfl
        · rw [k2]
          have e18 : (xSt0 (upd xs 3 (-1), xa, xl)).2.1 18 = fl (xa 18) 8 0 := rfl
          have e0 : mcnt (fl (xa 18) 8 0) 8 = 0 := mcnt_0 8 (fun j hj => if_pos hj)
          rw [e18, e0]
          rfl
        · rw [k1]; rfl
      have SA := sA_all hP hA 7 (by omega) 8 u.2.2.2.2 (150 * f) 0 u.2.2.1 clu su1 su2 (SR f) env (0, 0, 0, 0, 0) [] [] EV0 0 (fun _ => (0, 0, fun _ => 0)) huT (by omega) hclu hcluR (by rw [hbodyS]; exact hsmu) hbody (by decide) (Nat.le_refl _) (by decide) hgR
      have SB := sB_all hP hA 7 8 u.2.2.2.2 (150 * f) 0 u.2.2.1 clu su1 su2 (SR f) env (0, 0, 0, 0, 0) 0 1 X0 (fun _ => False) huT (by omega) hclu hcluR (by rw [hbodyS]; exact hsmu) hbody (by decide) (by decide) hcQ
      have hcv : cvC P 8 f 0 X0 = cvD P (cvC P 7) u.2.2.2.2 0 8 0 X0 := by
        show (match P f with
          | none => none
          | some u => cvD P (cvC P 7) u.2.2.2.2 0 8 0 X0) = _
        rw [hu]
      have hX1 : ∀ i, i < 5 → i ≠ 3 → X0.1 i = xs i := fun i hi h3 => by
        rw [k1]
        show upd (upd (upd (upd (upd (upd (upd xs 3 (-1)) 10 0) 8 0) 9 0) 5 0) 6 0) 7 1 i = xs i
        rw [upd_ne (by omega), upd_ne (by omega), upd_ne (by omega), upd_ne (by omega), upd_ne (by omega), upd_ne (by omega), upd_ne h3]
      have hX3 : X0.1 3 = -1 := by rw [k1]; rfl
      have hXa : X0.2.1 1 = xa 1 := by rw [k2]; rfl
      have hXl : X0.2.2 4 = xl 4 := by rw [k3 4 (by omega)]; rfl
      have hMg : ∀ (X : gX), mTo A (PVf P) (gStart (150 * f + 0) [] [] (7 - 7) EV0 0 (fun _ => (0, 0, fun _ => 0)) (0, 0, 0, 0, 0)) X → mTo A (PVf P) (.inr ([(150 * f, 0)], [], 0, EV0, 0, (fun _ => (0, 0, fun _ => 0)), (1, 0, 0, 0, 0))) X := fun X hto => hto
      have hRel : ∀ (n' : Nat) (σ2 : zS) (xs' : mS) (xr' : Int64) (xa' : mA) (xl' : mL) (S' : mS) (A' : mA) (L' : mL) (rn' : Int64), n ≤ n' → (∀ i, 114 ≤ i → i < n → σ2 i = σ i) → (∀ i, i < 5 → i ≠ 3 → xs' i = xs i) → xa' 1 = xa 1 → xl' 4 = xl 4 → (∀ j, j ≠ 0 → j ≠ 19 → ¬ (32 ≤ j ∧ j ≤ 44) → j ≠ 46 → j ≠ 48 → j ≠ 49 → S' j = S j) → (∀ a, a < 98 → A' a = A a) → L' 111 = L 111 → rRs xs' xr' xa' xl' S' L' rn' → rCn xs' S' → Rel FRw n' σ2 xs' xr' xa' xl' xf S' A' L' rn' := fun n' σ2 xs' xr' xa' xl' S' A' L' rn' q1 q2 q3 q4 q5 q6 q7 q8 q9 q10 => by
        obtain ⟨x1, x2, x3, x4, x5, x6', x7, x8, x9⟩ := hTx
        refine ⟨⟨tu, tz, ?_, ?_, ?_, ?_, x5, x6', fun i hi => ?_, fun i hi => ?_, fun i hi => ?_⟩, ?_, ⟨?_, fun g hg => ?_, ?_⟩, fun k hk => ?_, q9, q10⟩
        · rw [q3 0 (by omega) (by omega)]; exact x1
        · rw [q3 1 (by omega) (by omega)]; exact x2
        · rw [q6 1 (by omega) (by omega) (by omega) (by omega) (by omega) (by omega)]; exact x3
        · rw [q6 2 (by omega) (by omega) (by omega) (by omega) (by omega) (by omega)]; exact x4
        · rw [q4, q7 86 (by omega)]; exact x7 i hi
        · rw [q7 86 (by omega)]; exact x8 i hi
        · rw [q4]; exact x9 i hi
        · rw [q3 4 (by omega) (by omega), q6 6 (by omega) (by omega) (by omega) (by omega) (by omega) (by omega)]; exact h6
        · rw [q3 2 (by omega) (by omega), q7 92 (by omega)]; exact hcn2
        · rw [q7 92 (by omega)]; exact hdf g hg
        · exact FRw_ok.2.2.2 _ _ _ _ _ _ q1 q2 (FRw_ok.1 _ _ _ _ _ (fun a k hm => by unfold mKept at hm; rw [q7 a (by omega)]) hFR)
        · rw [q5, q8]; exact hAr k hk
      have hb0 : mOv S A L rn σ u.1 = gF u.1 (nI f) u.2.1 (SR f) (some (u.1 + 4)) := by rw [hua]; exact hg0
      have hb3 : mOv S A L rn σ (u.1 + 3) = .inl (0, 4, .inl (SY f)) := by rw [hua]; exact hg3
      have hM : ∀ (n' : Nat) (τ : zS) (X : gX), 113 ≤ n' → mTo A (PVf P) (gStart (150 * f + 0) [] [] (7 - 7) EV0 0 (fun _ => (0, 0, fun _ => 0)) (0, 0, 0, 0, 0)) X → (∀ y, X = .inl y → y.2 ≠ 0 ∧ y.2 < 2 ^ 31) → (∀ q, X = .inr q → q.1 = [] ∧ q.2.1.length = 1 ∧ (SR f ≠ 0 → ∃ a, (q.2.1.getD 0 (0, 0)).2 = nI a ∧ a < q.2.2.2.2.1)) → MetZ G l y_M_run b_M_run 5 (some .int) [] 4 0 0 [.ref 85, .int c] n' (mOv S A L rn τ) (rEnd S A L rn τ n' (SR f) X) := fun n' τ X g1 g2 g3 g4 => c_M_run (AR := fun _ => (0, 0, fun _ => 0)) (PV := PVf P) g1 hf hc h92 h93 hu4 h94 (fun k hk => ⟨h95 k hk, (hV k hk).1⟩) h96 hY (by rw [hEV0]; exact hMg X g2) g3 g4
      match hr : evD (PVf P) (evC (PVf P) (PEf P) 7) u.2.2.2.2 8 0 env (0, 0, 0, 0, 0), SA, SB with
      | (k', .inl q), ⟨a1, a2, a3⟩, ⟨X1, b1, b2, b3⟩ =>
        refine ⟨171, 1, 6, 4, by omega, by omega, by omega, by omega, _, c_S_run (s := (xs, xa, xl)) hU hu (by rw [hua]; exact hx) hb0 hb3 hY (by show cvC P 8 f 0 (xPar u.2.2.2.1 u.2.1 0 (xSt0 (upd xs 3 (-1), xa, xl))) = _; rw [hX0, hcv]; exact b1), fun o n' σ' hp => ?_⟩
        obtain ⟨rfl, rfl, rfl⟩ := hp
        obtain ⟨q', rfl⟩ : ∃ q', q = q' + 1 := ⟨q - 1, by omega⟩
        refine ⟨by omega, by omega, X1.1, xr, X1.2.1, X1.2.2, xf, va_up σ n (.inr (8 + (q' + 1), [])), q' + 1, 0, by rw [mOv_up (by omega)], va_up_ne _ _ (by omega), Or.inr ⟨n, q', rfl, by omega, hn, by omega, rfl, by rw [va_up_self, show 8 + (q' + 1) = 9 + q' by omega]⟩, fun σ2 τ hag => ?_⟩
        refine MetZ.mono (hM (n + 1) τ _ (by omega) a1 (fun y hy => by cases hy; exact ⟨by show q' + 1 ≠ 0; omega, by show q' + 1 < 2 ^ 31; omega⟩) (fun y hy => by cases hy)) (fun o n' σ' hp => ?_)
        obtain ⟨e9, S', A', L', rn', rfl, p1, p2, p3, rfl, p4, p5, p6⟩ := hp
        refine ⟨S', A', L', rn', 0, rfl, e9, rfl, p4, fun _ => rfl, hRel _ _ _ _ _ _ _ _ _ _ (by omega) (fun i e1 e2 => (hag i (by omega)).trans (va_up_ne _ _ (by omega))) (fun i e1 e2 => (b3.1 i e1).trans (hX1 i e1 e2)) (b3.2.1.trans hXa) (b3.2.2.trans hXl) p1 p2 p3 ⟨by rw [p5, b3.1 3 (by omega), hX3], Or.inl p5⟩ ?_⟩
        exact ⟨b2.1.trans p6.1.symm, b2.2.1.trans p6.2.1.symm, b2.2.2.1.trans p6.2.2.2.1.symm, b2.2.2.2.trans p6.2.2.2.2.symm⟩
      | (k', .inr v), ⟨x, EV', m', AR', a1, a2, a3, a4, a5, a6⟩, ⟨X1, y, b1, b2, b3, b4⟩ =>
        refine ⟨171, 1, 6, 4, by omega, by omega, by omega, by omega, _, c_S_run (s := (xs, xa, xl)) hU hu (by rw [hua]; exact hx) hb0 hb3 hY (by show cvC P 8 f 0 (xPar u.2.2.2.1 u.2.1 0 (xSt0 (upd xs 3 (-1), xa, xl))) = _; rw [hX0, hcv]; exact b1), fun o n' σ' hp => ?_⟩
        obtain ⟨rfl, e1, rfl⟩ := hp
        obtain rfl : n = n' := e1.symm
        refine ⟨by omega, by omega, upd X1.1 3 (SR f), y, X1.2.1, X1.2.2, xf, σ, 0, SR f, rfl, rfl, Or.inl ⟨rfl, rfl⟩, fun σ2 τ hag => ?_⟩
        have a3 : m' + 0 ≤ 0 + k'.1 := a3
        refine MetZ.mono (hM n τ _ (by omega) a1 (fun y hy => by cases hy) (fun q hq => ?_)) (fun o n' σ' hp => ?_)
        · cases hq
          refine ⟨rfl, rfl, fun w => ?_⟩
          rcases a6 with ⟨w2, -⟩ | ⟨-, a, w1, w2, -⟩
          · exact absurd w2 w
          · exact ⟨a, w1, w2⟩
        obtain ⟨e9, S', A', L', rn', rfl, p1, p2, p3, rfl, p4, p5, p6, p7, p8⟩ := hp
        refine ⟨S', A', L', rn', SR f, rfl, e9, rfl, p4, fun _ => rfl, hRel _ _ _ _ _ _ _ _ _ _ (by omega) (fun i e1 e2 => hag i (by omega)) (fun i e1 e2 => (upd_ne e2).trans ((b3.2.2.1 i e1).trans (hX1 i e1 e2))) (b3.2.2.2.1.trans hXa) (b3.2.2.2.2.trans hXl) p1 p2 p3 ⟨by rw [p5, upd_self], ?_⟩ ?_⟩
        · rcases b4 with ⟨w1, w2⟩ | ⟨w1, w2, -⟩
          · refine Or.inr (Or.inl ⟨by rw [p5, w1], ?_⟩)
            rw [w1] at a6
            have := gVal0 a6
            rw [w2] at this
            rw [p7]
            exact Sum.inl.inj this
          · have hne : SR f ≠ 0 := fun w => by rw [w] at w1; exact absurd w1 (by decide)
            obtain ⟨a', z1, z2, z3, z4, z5⟩ := p8 hne
            obtain ⟨y1, y2, y3, r, c', ct, y4, y5, y6, y7, y8, y9, y10, y11⟩ := w2
            refine Or.inr (Or.inr ⟨by rw [p5]; exact w1, xIx y, r, c', ⟨y1, y2, y5, y6, y7, y8, y9⟩, ?_⟩)
            rcases a6 with ⟨w, -⟩ | ⟨-, a, g1, g2, g3, -⟩
            · exact absurd w hne
            have z2 : a' < m' := z2
            have ea : a = a' := nI_inj (by omega) (by omega) (g1.symm.trans z1)
            have eA : AR' a' = (r, c', ct) := by
              rw [y4, ea] at g3
              exact (Sum.inr.inj g3).symm
            have z3 : S' 48 = nI (AR' a').1 := z3
            have z4 : S' 49 = nI (AR' a').2.1 := z4
            have z5 : ∀ j, j < (AR' a').1 * (AR' a').2.1 → L' 112 j = (AR' a').2.2 j := z5
            rw [eA] at z3 z4 z5
            exact ⟨z3, z4, fun w => y10 (by rw [← p5]; exact w), fun j hj => (y11 j hj).trans (z5 j hj).symm⟩
        · obtain ⟨c1, c2, c3, c4⟩ := b2.2.1
          exact ⟨c1.trans p6.1.symm, c2.trans p6.2.1.symm, c3.trans p6.2.2.2.1.symm, c4.trans p6.2.2.2.2.symm⟩
theorem HR_w {Ls : Nat} : lHR G l FRw Ls := by
  intro t n σ xs xr xa xl xf S A L rn x h1 h2 h3 h4 h5 h6
  exact l_run (by omega) (by omega) h6 _
end HRW
