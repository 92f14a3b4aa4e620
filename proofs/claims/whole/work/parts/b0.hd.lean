section HDW
variable {G : zG} {l : Launch} {n f : Nat} {σ : zS} {xs : mS} {xr : Int64} {xa : mA} {xl : mL} {xf : xF} {S : mS} {A A' : mA} {L : mL} {rn : Int64}
theorem mOv_at {i : Nat} (h : 113 ≤ i) : mOv S A L rn σ i = σ i := by
  unfold mOv
  rw [if_neg (by omega), if_neg (by omega), if_pos h]
theorem mOv_self {τ : zS} (h : ∀ k, k < 113 → τ k = mOv S A L rn σ k) : mOv S A L rn τ = τ := by
  funext k
  by_cases q : 113 ≤ k
  · exact mOv_at q
  · rw [h k (by omega)]
    unfold mOv
    by_cases q1 : k = 85
    · rw [if_pos q1, if_pos q1]
    · rw [if_neg q1, if_neg q1]
      by_cases q2 : k < 86
      · rw [if_pos q2, if_pos q2, h k (by omega)]
        unfold mOv
        rw [if_neg q1, if_pos q2]
      · rw [if_neg q2, if_neg q2, if_neg q, if_neg q]
theorem mcnt_same {B C : Nat → Int32} : ∀ k, (∀ j, j < k → B j = C j) → mcnt B k = mcnt C k
  | 0, _ => rfl
  | k + 1, h => by
    unfold mcnt
    rw [mcnt_same k (fun j hj => h j (by omega)), h k (by omega)]
theorem mcnt_one {B C : Nat → Int32} (hC : C f = 0) (hB : B f ≠ 0) : ∀ k, (∀ j, j < k → j ≠ f → B j = C j) → f < k → mcnt B k = mcnt C k + 1
  | 0, _, h => absurd h (by omega)
  | k + 1, h, hf => by
    unfold mcnt
    by_cases q : f = k
    · subst q
      rw [mcnt_same f (fun j hj => h j (by omega) (by omega)), if_neg hB, if_pos hC]
    · rw [mcnt_one hC hB k (fun j hj => h j (by omega)) (by omega), h k (by omega) (by omega)]
      omega
/-- a define that fails -/
theorem Rel_fail {n' u z : Nat} {σ2 : zS} {S' : mS} {w : Int32} (h : Rel FRw n σ xs xr xa xl xf S A L rn) (ht : rTx xs xa S A u z) (hn : n ≤ n') (hs : ∀ i, 114 ≤ i → i < n → σ2 i = σ i) (hd : dSk S S') (h6 : S' 6 = w) (hk : fKp A A') : Rel FRw n' σ2 (upd (xD xs) 4 w) xr xa xl xf S' A' L rn := by
  obtain ⟨-, -, ⟨h3, h4, h5⟩, h6', h7, h8⟩ := h
  obtain ⟨t1, t2, t3, t4, t5, t6, t7, t8, t9⟩ := ht
  obtain ⟨d1, d2, d3⟩ := hd
  have k92 : ∀ j, j < 8 → A' 92 j = A 92 j := fun j hj => hk 92 j (Or.inr (Or.inl ⟨by omega, by omega, hj⟩))
  refine ⟨⟨0, 0, rfl, rfl, d1, d2, by omega, by omega, fun i hi => absurd hi (by omega), fun i hi => by rw [hk 86 i (Or.inl rfl)]; exact t8 i hi, t9⟩, h6.symm, ⟨?_, fun f hf => ?_, ?_⟩, h6', ?_, ?_⟩
  · show xs 2 = _
    rw [h3, mcnt_same 8 k92]
  · rw [k92 f hf]; exact h4 f hf
  · exact FRw_ok.2.2.2 _ _ _ _ _ _ hn hs (FRw_ok.1 _ _ _ _ _ (fun a k hm => hk a k (Or.inr hm)) h5)
  · unfold rRs
    rw [d3 46 (by omega), d3 48 (by omega), d3 49 (by omega)]
    exact h7
  · unfold rCn
    rw [d3 39 (by omega), d3 40 (by omega), d3 42 (by omega), d3 43 (by omega)]
    exact h8
def fOwn (f b k : Nat) : Prop := (92 ≤ b ∧ b ≤ 94 ∧ k = f) ∨ (95 ≤ b ∧ b ≤ 97 ∧ 4 * f ≤ k ∧ k < 4 * f + 4) ∨ (87 ≤ b ∧ b ≤ 91 ∧ 150 * f ≤ k ∧ k < 150 * f + 150)
theorem fRec_but {g a cn N : Nat} {V Y : mS} {rt : Int32} {E : Nat → eN} {clf : Nat → Option cF} {x : Nat} (hg : g < 8) (hgf : g ≠ f) (hxf : xf f = none) (h : fRec n σ xf A g a cn V Y rt N E clf) (hk : ∀ b k, (b = 86 ∨ mKept b k) → ¬ fOwn f b k → A' b k = A b k) : fRec n σ (va_up xf f (some x)) A' g a cn V Y rt N E clf := by
  obtain ⟨h1, h2, h3, h4, h5, h6, h7, h8, h9, h10, h11, h12, h13, h14⟩ := h
  refine ⟨h1, h2, h3, h4, h5, ?_, ?_, fun k hk' => ⟨?_, ?_⟩, h9, h10, uT_same (fun k _ hb a ha ha2 => hk a _ (Or.inr (Or.inr (Or.inr ⟨ha, ha2, by omega⟩))) (by unfold fOwn; omega)) h11, h12, h13, fun g' a' c' Y' rt' hg' hc' => ?_⟩
  · rw [hk 93 g (Or.inr (Or.inl ⟨by omega, by omega, hg⟩)) (by unfold fOwn; omega)]; exact h6
  · rw [hk 94 g (Or.inr (Or.inl ⟨by omega, by omega, hg⟩)) (by unfold fOwn; omega)]; exact h7
  · rw [hk 95 _ (Or.inr (Or.inr (Or.inl ⟨by omega, by omega, by omega⟩))) (by unfold fOwn; omega)]; exact (h8 k hk').1
  · rw [hk 96 _ (Or.inr (Or.inr (Or.inl ⟨by omega, by omega, by omega⟩))) (by unfold fOwn; omega)]; exact (h8 k hk').2
  · obtain ⟨s1, s2, s3, s4, s5⟩ := h14 g' a' c' Y' rt' hg' hc'
    have hgf' : g' ≠ f := fun q => by rw [q, hxf] at s1; cases s1
    refine ⟨(va_up_ne _ _ hgf').trans s1, ?_, ?_, s4, fun k hk' => ?_⟩
    · rw [hk 93 g' (Or.inr (Or.inl ⟨by omega, by omega, hg'⟩)) (by unfold fOwn; omega)]; exact s2
    · rw [hk 94 g' (Or.inr (Or.inl ⟨by omega, by omega, hg'⟩)) (by unfold fOwn; omega)]; exact s3
    · rw [hk 96 _ (Or.inr (Or.inr (Or.inl ⟨by omega, by omega, by omega⟩))) (by unfold fOwn; omega)]; exact s5 k hk'
/-- the arrays behind a define that succeeds -/
theorem dNew_facts {a : rF} {S3 : mS} {A3 A4 : mA} (hf : f < 8) (hN : a.2.2.2.2.2.2.2.1 ≤ 150) (hcn : a.2.1 ≤ 4) (hg : fGd S A a S3 A3) (h4 : ∀ b, b < 98 ∨ 103 < b → A4 b = A3 b) (hd : dNew f a.2.2.2.2.2.2.2.1 A4 A') :
    (∀ b k, (b = 86 ∨ mKept b k) → ¬ fOwn f b k → A' b k = A b k) ∧ A' 92 f = 1 ∧ A' 93 f = nI a.2.1 ∧ A' 94 f = a.2.2.2.2.2.1 ∧ (∀ k, k < a.2.1 → A' 95 (4 * f + k) = a.2.2.1 k ∧ A' 96 (4 * f + k) = a.2.2.2.2.1 k) ∧ uT A' a.2.2.2.2.2.2.2.2.2 (150 * f) 8 0 a.2.2.2.2.2.2.2.1 := by
  obtain ⟨-, -, -, hkp, hpr, hrt, hT⟩ := hg
  obtain ⟨A1, A2, rfl, ⟨p1, p2⟩, ⟨q1, q2⟩⟩ := hd
  have e1 : ∀ b k, b < 98 → (92 ≤ b → b ≤ 94 → k ≠ f) → va_up (va_up (va_up A4 92 (upd (A4 92) f 1)) 93 (upd (A4 93) f (A4 93 8))) 94 (upd (A4 94) f (A4 94 8)) b k = A3 b k := fun b k hb hk => by
    have e : va_up (va_up (va_up A4 92 (upd (A4 92) f 1)) 93 (upd (A4 93) f (A4 93 8))) 94 (upd (A4 94) f (A4 94 8)) b k = A4 b k := by
      refine (vu_ne (A := va_up (va_up A4 92 (upd (A4 92) f 1)) 93 (upd (A4 93) f (A4 93 8))) (by omega)).trans ?_
      exact (vu_ne (A := va_up A4 92 (upd (A4 92) f 1)) (by omega)).trans (vu_ne (by omega))
    rw [e, h4 b (Or.inl hb)]
  refine ⟨fun b k hb hown => ?_, ?_, ?_, ?_, fun k hk => ⟨?_, ?_⟩, ?_⟩
  · have hb98 : b < 98 := by unfold mKept at hb; omega
    rw [q1 b k (by unfold fOwn at hown; unfold mKept at hb; omega), p1 b k (by unfold fOwn at hown; unfold mKept at hb; omega), e1 b k hb98 (by unfold fOwn at hown; omega)]
    exact hkp b k hb
  · rw [q1 92 f (by omega), p1 92 f (by omega)]
    show upd (A4 92) f 1 f = 1
    rw [upd_self]
  · rw [q1 93 f (by omega), p1 93 f (by omega)]
    show upd (A4 93) f (A4 93 8) f = _
    rw [upd_self, h4 93 (by omega)]
    exact hpr.1
  · rw [q1 94 f (by omega), p1 94 f (by omega)]
    show upd (A4 94) f (A4 94 8) f = _
    rw [upd_self, h4 94 (by omega)]
    exact hrt
  · rw [q1 95 _ (by omega), (p2 k (by omega)).1, e1 95 _ (by omega) (by omega)]
    exact (hpr.2 k hk).1
  · rw [q1 96 _ (by omega), (p2 k (by omega)).2, e1 96 _ (by omega) (by omega)]
    exact (hpr.2 k hk).2.2
  · refine uT_of (Nat.le_refl _) hN hf (fun q hq => ?_) hT
    obtain ⟨r1, r2, r3, r4⟩ := q2 q hq
    have e2 : ∀ b, 87 ≤ b → b ≤ 91 → A2 b (1200 + q) = A3 b (1200 + q) := fun b _ _ => by rw [p1 b _ (by omega), e1 b _ (by omega) (by omega)]
    rw [r1, r2, r3, r4, e2 87 (by omega) (by omega), e2 88 (by omega) (by omega), e2 90 (by omega) (by omega), e2 91 (by omega) (by omega)]
    exact ⟨rfl, rfl, rfl, rfl⟩
theorem uT_sm {bs : Nat} {E E' : Nat → eN} (g : eSm E E') : ∀ {d j b : Nat}, uT A E bs d j b → uT A E' bs d j b
  | 0, _, _, h => h
  | d + 1, j, b, h => by
    obtain ⟨h1, h2, h3⟩ := h
    obtain ⟨c, e⟩ := g j
    refine ⟨?_, h2, ?_⟩
    · unfold uN at h1 ⊢
      rw [e]
      exact h1
    · rw [e]
      exact tC_mono (fun x y r => uT_lt r) (fun _ _ _ => rfl) (fun x y _ _ r => uT_sm g r) h3
theorem HD_w {Ls : Nat} : lHD G l FRw Ls := by
  intro t n σ xs xr xa xl xf S A L rn htl hLs _ hn hn2 h
  have h0 := h
  obtain ⟨⟨u, z, tx⟩, h4, ⟨hc, hfn, hFR⟩, hAr, hRs, hCn⟩ := h
  have tx0 := tx
  obtain ⟨t1, t2, t3, t4, t5, t6, t7, t8, t9⟩ := tx
  have hz : z ≤ 150 := by omega
  have hT : ∀ p, rlk (xa 1) z p = rlk (A 86) z p := fun p => by
    unfold rlk
    by_cases q : p < z
    · rw [if_pos q, if_pos q, (t7 p q).1]
    · rw [if_neg q, if_neg q]
  have h114 : ∀ τ : zS, (∀ k, k < n → τ k = mOv S A L rn σ k) → mOv S A L rn τ = τ ∧ τ 113 = σ 113 ∧ ∀ i, 114 ≤ i → i < n → τ i = σ i := fun τ hτ => ⟨mOv_self (fun k hk => hτ k (by omega)), (hτ 113 (by omega)).trans (mOv_at (by omega)), fun i h1 h2 => (hτ i h2).trans (mOv_at (by omega))⟩
  cases hr : rdF (A 86) z A (fun _ => rE0 0 0) (fun _ => 0) (fun _ => 0) (fun _ => 0) with
  | inl q =>
    refine ⟨43, 340, 2300, 8, by omega, by omega, by omega, by omega, _, c_S_define_ill (A := A) (E := fun _ => rE0 0 0) (q := q) (by omega) (by omega) t2 hz t9 (by rw [rdF_T hT]; exact hr), fun o n' σ' hp => ?_⟩
    obtain ⟨x, τ, rfl, rfl, p1, p2, rfl, p3, p4⟩ := hp
    obtain ⟨m1, m2, m3⟩ := h114 τ p4
    refine ⟨by omega, by omega, upd (xD xs) 4 (nI q), xr, xa, xl, xf, τ, 1, 0, by rw [m1], m2, Or.inr ⟨x, 0, rfl, by omega, by omega, by omega, rfl, p3⟩, fun σ2 τ2 hag => ?_⟩
    refine MetZ.mono (c_M_define_ill (by omega) ⟨t4, hz, t8⟩ hr) (fun o n'' σ'' hp => ?_)
    obtain ⟨rfl, rfl, S', A', rfl, d, s0, s6, kp⟩ := hp
    exact ⟨S', A', L, rn, 0, rfl, rfl, rfl, s0, fun hh => absurd hh (by decide), Rel_fail h0 tx0 (by omega) (fun i a b => (hag i (by omega)).trans (m3 i a b)) d s6 kp⟩
  | inr a =>
    obtain ⟨f, hok, hpk, hrt, hz1, hT8, hka⟩ := rdF_ok hz hr
    obtain ⟨hf8, haf, hcn, hvs, hN0, hN, hwf, hdp⟩ := id hok
    have hclO : clOk n (mOv S A L rn σ) xf (clA σ xf A) := fun g hg => by
      rcases clA_ok hFR g hg with q | ⟨a', cn', Y', rt', q1, q2, q3, q4, q5, q6, bd, q7⟩
      · exact Or.inl q
      · exact Or.inr ⟨a', cn', Y', rt', q1, q2, q3, q4, by rw [mOv_at (by omega)]; exact q5, q6, bd, by rw [mOv_at (by omega)]; exact q7⟩
    have hcl : clR (clW (clA σ xf A) f (n + 1) a.2.1 a.2.2.2.2.1 a.2.2.2.2.2.1) := fun g a' c' Y' rt' hg hc' => by
      by_cases q : g = f
      · have e : some (n + 1, a.2.1, a.2.2.2.2.1, a.2.2.2.2.2.1) = some (a', c', Y', rt') := (if_pos q : clW (clA σ xf A) f (n + 1) a.2.1 a.2.2.2.2.1 a.2.2.2.2.2.1 g = _).symm.trans hc'
        cases e
        exact ⟨hrt, fun k hk => (hpk k hk).2.2⟩
      · exact clA_R hFR g a' c' Y' rt' hg ((if_neg q : clW (clA σ xf A) f (n + 1) a.2.1 a.2.2.2.2.1 a.2.2.2.2.2.1 g = _).symm.trans hc')
    have hold : xf f = none ↔ (A 92 f != 0) = false := by
      rw [hfn f hf8]
      by_cases q : A 92 f = 0
      · simp [q]
      · simp [q]
    have henv : ∀ S' A', S' 28 = nI f → fKp A A' → fPr A' a.2.1 a.2.2.1 a.2.2.2.1 a.2.2.2.2.1 → A' 94 8 = a.2.2.2.2.2.1 → mEnv S' A' (clW (clA σ xf A) f (n + 1) a.2.1 a.2.2.2.2.1 a.2.2.2.2.2.1) f := fun S' A' s28 hkp hpr h94 => by
      refine ⟨s28, hf8, fun g hg => ?_⟩
      by_cases q : g = f
      · refine Or.inr ⟨Or.inl q, n + 1, a.2.1, a.2.2.2.2.1, a.2.2.2.2.2.1, if_pos q, ?_, ?_, hcn, fun k hk => ?_⟩
        · rw [show mIx f g = 8 from if_pos q]; exact hpr.1
        · rw [show mIx f g = 8 from if_pos q]; exact h94
        · rw [show mIx f g = 8 from if_pos q]; exact (hpr.2 k hk).2.2
      · have e : clW (clA σ xf A) f (n + 1) a.2.1 a.2.2.2.2.1 a.2.2.2.2.2.1 g = clA σ xf A g := if_neg q
        have k92 : A' 92 g = A 92 g := hkp 92 g (Or.inr (Or.inl ⟨by omega, by omega, hg⟩))
        have ei : mIx f g = g := if_neg q
        cases hx : xf g with
        | none => exact Or.inl ⟨q, by rw [e]; unfold clA; rw [hx]; rfl, by rw [k92]; exact (hfn g hg).mp hx⟩
        | some a' =>
          obtain ⟨cn', V', Y', rt', N', E', clf', c1, c2⟩ := clA_of hFR hg hx
          obtain ⟨s1, s2, s3, s4, s5⟩ := clA_sig hFR g a' cn' Y' rt' hg c1
          refine Or.inr ⟨Or.inr (by rw [k92]; intro w; rw [(hfn g hg).mpr w] at hx; cases hx), a', cn', Y', rt', by rw [e]; exact c1, ?_, ?_, s4, fun k hk => ?_⟩
          · rw [ei, hkp 93 g (Or.inr (Or.inl ⟨by omega, by omega, hg⟩))]; exact s2
          · rw [ei, hkp 94 g (Or.inr (Or.inl ⟨by omega, by omega, hg⟩))]; exact s3
          · rw [ei, hkp 96 _ (Or.inr (Or.inr (Or.inl ⟨by omega, by omega, by omega⟩)))]; exact s5 k hk
    have SD := c_S_define_ok (G := G) (l := l) (xr := xr) (xl := xl) (A := A) (E := fun _ => rE0 0 0) (by omega) (by omega) t2 hz t9 (by rw [rdF_T hT]; exact hr) hok hclO
    refine ⟨43, 340, 2300, 8, by omega, by omega, by omega, by omega, _, SD, fun o n' σ' hp => ?_⟩
    cases hk : chk (clW (clA σ xf A) f (n + 1) a.2.1 a.2.2.2.2.1 a.2.2.2.2.2.1) (xf f) a.2.1 a.2.2.1 a.2.2.2.1 a.2.2.2.2.1 a.2.2.2.2.2.1 a.2.2.2.2.2.2.2.2.2 with
    | inl q =>
      rw [hk] at hp
      obtain ⟨x, τ, rfl, rfl, p1, p2, rfl, p3, p4⟩ := hp
      obtain ⟨m1, m2, m3⟩ := h114 τ p4
      refine ⟨by omega, by omega, upd (xD xs) 4 q, xr, xa, xl, xf, τ, 2, 0, by rw [m1], m2, Or.inr ⟨x, 1, rfl, by omega, by omega, by omega, rfl, p3⟩, fun σ2 τ2 hag => ?_⟩
      refine MetZ.mono (c_M_define_ok (w := some q) (by omega) ⟨t4, hz, t8⟩ hr hf8 haf hcn hpk hN henv (fun B0 => ?_)) (fun o n'' σ'' hp => ?_)
      · rcases chk_rel (rt := a.2.2.2.2.2.1) (B0 := B0) hcl hT8 hpk hold with ⟨q', k1, k2, k3⟩ | ⟨s, u', k1, -⟩
        · rw [hk] at k1; cases k1; exact ⟨k2, k3⟩
        · rw [hk] at k1; cases k1
      · obtain ⟨rfl, S', A', rfl, d, rfl, s0, s6, kp⟩ := hp
        exact ⟨S', A', L, rn, 0, rfl, rfl, rfl, s0, fun hh => absurd hh (by decide), Rel_fail h0 tx0 (by omega) (fun i a b => (hag i (by omega)).trans (m3 i a b)) d s6 kp⟩
    | inr b =>
      obtain ⟨tt, s⟩ := b
      rw [hk] at hp
      obtain ⟨rfl, p1, p2, τ, rfl, p4, p5, p6⟩ := hp
      obtain ⟨m1, m2, m3⟩ := h114 τ p4
      obtain ⟨hsm, hxf⟩ := chk_sm hk
      refine ⟨by omega, by omega, upd (xD xs) 2 (xs 2 + 1), xr, xa, xl, va_up xf f (some (n + 1)), τ, 0, xs 2 + 1, by rw [m1], m2, Or.inl ⟨rfl, rfl⟩, fun σ2 τ2 hag => ?_⟩
      refine MetZ.mono (c_M_define_ok (w := none) (by omega) ⟨t4, hz, t8⟩ hr hf8 haf hcn hpk hN henv (fun B0 => ?_)) (fun o n'' σ'' hp => ?_)
      · rcases chk_rel (rt := a.2.2.2.2.2.1) (B0 := B0) hcl hT8 hpk hold with ⟨q', k1, -⟩ | ⟨s, u', -, k2⟩
        · rw [hk] at k1; cases k1
        · exact ⟨u', k2⟩
      · obtain ⟨rfl, S', A', rfl, ⟨d1, d2, d3⟩, rfl, s0, s6, S3, A3, hg, -, A4, hA4, hdn⟩ := hp
        obtain ⟨f1, f2, f3, f4, f5, f6⟩ := dNew_facts hf8 hN hcn hg hA4 hdn
        have hA0 : A 92 f = 0 := (hfn f hf8).mp hxf
        have k92 : ∀ j, j < 8 → j ≠ f → A' 92 j = A 92 j := fun j hj hjf => f1 92 j (Or.inr (Or.inl ⟨by omega, by omega, hj⟩)) (by unfold fOwn; omega)
        have hcnt : mcnt (A' 92) 8 = mcnt (A 92) 8 + 1 := mcnt_one hA0 (by rw [f2]; decide) 8 k92 hf8
        refine ⟨S', A', L, rn, nI (mcnt (A' 92) 8), rfl, rfl, rfl, s0, fun _ => by rw [hcnt, hc, nI_1], ⟨0, 0, rfl, rfl, d1, d2, by omega, by omega, fun i hi => absurd hi (by omega), fun i hi => by rw [f1 86 i (Or.inl rfl) (by unfold fOwn; omega)]; exact t8 i hi, t9⟩, s6.symm, ⟨?_, fun g hg' => ?_, fun g hg' a' ha' => ?_⟩, hAr, ?_, ?_⟩
        · show xs 2 + 1 = _
          rw [hcnt, hc, nI_1]
        · by_cases q : g = f
          · subst q
            rw [va_up_self, f2]
            exact ⟨fun w => (by cases w), fun w => absurd w (by decide)⟩
          · rw [va_up_ne _ _ q, k92 g hg' q]
            exact hfn g hg'
        · by_cases q : g = f
          · subst q
            rw [va_up_self] at ha'
            cases ha'
            have hT8' := tT_sm hsm hT8
            refine ⟨a.2.1, a.2.2.1, a.2.2.2.2.1, a.2.2.2.2.2.1, a.2.2.2.2.2.2.2.1, s.2.2, clW (clA σ xf A) g (n + 1) a.2.1 a.2.2.2.2.1 a.2.2.2.2.2.1, by omega, by omega, hN, hcn, p6.same (n := n + 5 + 2 * a.2.2.2.2.2.2.2.1) (by omega) (by omega) hN0 (fun i a b => hag i (by omega)), f3, f4, f5, fun k hk' => ⟨(hpk k hk').1, (hpk k hk').2.2⟩, hrt, ?_, ⟨a.2.2.2.1, a.2.2.2.2.2.2.2.2.2, tt, s, hpk, by rw [← hxf]; exact hk, rfl, _, hT8⟩, hcl, fun g' a' c' Y' rt' hg'' hc' => ?_⟩
            · exact uT_sm hsm f6
            · by_cases q' : g' = g
              · subst q'
                have e : some (n + 1, a.2.1, a.2.2.2.2.1, a.2.2.2.2.2.1) = some (a', c', Y', rt') := (if_pos rfl : clW (clA σ xf A) g' (n + 1) a.2.1 a.2.2.2.2.1 a.2.2.2.2.2.1 g' = _).symm.trans hc'
                cases e
                exact ⟨va_up_self _ _ _, f3, f4, hcn, fun k hk' => (f5 k hk').2⟩
              · obtain ⟨s1, s2, s3, s4, s5⟩ := clA_sig hFR g' a' c' Y' rt' hg'' ((if_neg q' : clW (clA σ xf A) g (n + 1) a.2.1 a.2.2.2.2.1 a.2.2.2.2.2.1 g' = _).symm.trans hc')
                refine ⟨(va_up_ne _ _ q').trans s1, ?_, ?_, s4, fun k hk' => ?_⟩
                · rw [f1 93 g' (Or.inr (Or.inl ⟨by omega, by omega, hg''⟩)) (by unfold fOwn; omega)]; exact s2
                · rw [f1 94 g' (Or.inr (Or.inl ⟨by omega, by omega, hg''⟩)) (by unfold fOwn; omega)]; exact s3
                · rw [f1 96 _ (Or.inr (Or.inr (Or.inl ⟨by omega, by omega, by omega⟩))) (by unfold fOwn; omega)]; exact s5 k hk'
          · rw [va_up_ne _ _ q] at ha'
            obtain ⟨cn', V', Y', rt', N', E', clf', hrc⟩ := hFR g hg' a' ha'
            exact ⟨cn', V', Y', rt', N', E', clf', fRec_but hg' q hxf (hrc.same (by omega) (fun i a b => (hag i (by omega)).trans (m3 i a b))) f1⟩
        · unfold rRs
          rw [d3 46 (by omega), d3 48 (by omega), d3 49 (by omega)]
          exact hRs
        · unfold rCn
          rw [d3 39 (by omega), d3 40 (by omega), d3 42 (by omega), d3 43 (by omega)]
          exact hCn
end HDW
