section CLS2
variable {S S' S1 S2 : xT} {fr ft a v0 : Nat} {T T1 : mS} {o o1 : Int32} {env env1 : Nat → aV} {k k' : aC} {O O1 : Nat → Prop} {t t1 : Int32} {x y : Int64} {v : aV} {r : aR} {X : xR}
/-- an array is made -/
theorem cQ.mk (h : cQ S fr ft T o env k O) (rr cc : Int64) (ct : Nat → Int64) (C : Nat → Nat → Int64) (hC : ∀ a j, j < rr.toNatClampNeg * cc.toNatClampNeg → j < 40 → C a j = ct j) (ht : t = 1 ∨ t = 2) (h1 : t = 1 → cc.toNatClampNeg = 1) : cOut O fr ft S T o env t (aMk rr cc ct k) (match xmk S.2.1 rr cc with
    | .inl q => some (S, .inl q)
    | .inr a => some ((xmS S.1, xmA S.2.1 a rr cc, va_up S.2.2 (10 + a) (C a)), .inr (nI a).toInt64)) := by
  unfold aMk xmk
  by_cases q0 : rr < 0 ∨ cc < 0
  · rw [if_pos q0, if_pos q0]
    exact h.fault (q := 2)
  rw [if_neg q0, if_neg q0]
  by_cases q1 : 40 < rr ∨ 40 < cc ∨ 40 < rr * cc
  · rw [if_pos q1, if_pos (by rcases q1 with q | q | q; exact Or.inl q; exact Or.inr (Or.inl q); exact Or.inr (Or.inr (Or.inl q)))]
    exact h.fault (q := 5)
  rw [if_neg q1]
  obtain ⟨g1, ⟨c1, c2, c3, c4⟩, ⟨t1, t2, t3⟩, g4, g5⟩ := id h
  cases hx : xff (S.2.1 18) 8 0 with
  | none =>
    have e8 : mcnt (S.2.1 18) 8 = 8 := mcnt_all 8 (fun j hj => xff_none hx j (by omega) (by omega))
    have e8' : k.2.2.1 = 8 := t3.trans (congrArg nI e8)
    rw [if_pos (Or.inr (Or.inr (Or.inr e8')))]
    exact h.fault (q := 5)
  | some a =>
    obtain ⟨-, ha, ha0⟩ := xff_lt hx
    have ha : a < 8 := by omega
    have hlt := mcnt_lt ha0 8 ha
    have hn8 : ¬ k.2.2.1 = 8 := fun w => by
      rw [t3] at w
      have := nI_inj (b := 8) (by omega) (by omega) w
      omega
    rw [if_neg (fun w => by rcases w with w | w | w | w; exact q1 (Or.inl w); exact q1 (Or.inr (Or.inl w)); exact q1 (Or.inr (Or.inr w)); exact hn8 w)]
    obtain ⟨r', hr', er⟩ := l_of (x := rr) (b := 40) (by omega) (Int64.not_lt.mp (fun w => q0 (Or.inl w))) (Int64.not_lt.mp (fun w => q1 (Or.inl w)))
    obtain ⟨c', hc', ec⟩ := l_of (x := cc) (b := 40) (by omega) (Int64.not_lt.mp (fun w => q0 (Or.inr w))) (Int64.not_lt.mp (fun w => q1 (Or.inr (Or.inl w))))
    have hm : r' * c' ≤ 1600 := Nat.mul_le_mul hr' hc'
    have hp : r' * c' ≤ 40 := Decidable.byContradiction fun w => q1 (Or.inr (Or.inr (by
      rw [er, ec, lN_mul]
      exact (lN_lt (a := 40) (by omega) (by omega)).mpr (by omega))))
    have er2 : rr.toNatClampNeg = r' := by rw [er]; exact lN_clamp (by omega)
    have ec2 : cc.toNatClampNeg = c' := by rw [ec]; exact lN_clamp (by omega)
    rw [er2, ec2] at hC
    rw [ec2] at h1
    obtain ⟨x1, x2⟩ := xIx_l ha
    have a18 : xmA S.2.1 a rr cc 18 = upd (S.2.1 18) a 1 := rfl
    have a7 : xmA S.2.1 a rr cc 7 = upd (S.2.1 7) a rr.toInt32 := rfl
    have a8 : xmA S.2.1 a rr cc 8 = upd (S.2.1 8) a cc.toInt32 := rfl
    have hka : ∀ b, b ≠ a → kA S (xmS S.1, xmA S.2.1 a rr cc, va_up S.2.2 (10 + a) (C a)) b := fun b hb => ⟨by show xmA S.2.1 a rr cc 7 b = _; rw [a7, upd_ne hb], by show xmA S.2.1 a rr cc 8 b = _; rw [a8, upd_ne hb], by show xmA S.2.1 a rr cc 18 b = _; rw [a18, upd_ne hb], va_up_ne _ _ (by omega)⟩
    have hne : ∀ b, ¬ S.2.1 18 b = 0 → b ≠ a := fun b hb e => hb (by rw [e]; exact ha0)
    have hfr : ∀ g, va_up S.2.2 (10 + a) (C a) (20 + g) = S.2.2 (20 + g) := fun g => va_up_ne _ _ (by omega)
    have hcn : mcnt (upd (S.2.1 18) a 1) 8 = mcnt (S.2.1 18) 8 + 1 := mcnt_one (f := a) ha0 (by rw [upd_self]; decide) 8 (fun j _ hj => upd_ne hj) ha
    have s10 : xmS S.1 10 = S.1 10 + 1 := rfl
    have s8 : xmS S.1 8 = S.1 8 + 1 := rfl
    have s9 : xmS S.1 9 = xmax (S.1 9) (S.1 10 + 1) := rfl
    have hHs : ∀ b, cHs (xmS S.1, xmA S.2.1 a rr cc, va_up S.2.2 (10 + a) (C a)) fr o b ↔ cHs S fr o b := fun b => cHs_eq (hfr fr)
    refine ⟨_, _, rfl, ⟨g1.keep (hfr fr) (fun b hb => hka b (hne b (g1.hs hb).2)), ⟨c1, ?_, ?_, c4⟩, ⟨t1, ?_, ?_⟩, g4, fun b hb => ⟨(g5 b hb).1, ?_, fun w => (g5 b hb).2.2 ((hHs b).mp w)⟩⟩, ⟨fun b hb => hka b (hne b (g5 b hb).2.1), fun g _ _ => hfr g, fun i hi => ?_, rfl, va_up_ne _ _ (by omega)⟩, Or.inr ⟨ht, ⟨?_, ?_, ?_, r', c', ct, ?_, ?_, ?_, hr', hc', hp, h1, ?_⟩, ?_, ?_⟩⟩
    · show xmS S.1 8 = k.2.1 + 1
      rw [s8, c2]
    · show xmS S.1 9 = xmax k.2.2.2.1 (k.2.2.1 + 1)
      rw [s9, c3, t2]
    · show xmS S.1 10 = k.2.2.1 + 1
      rw [s10, t2]
    · show k.2.2.1 + 1 = nI (mcnt (upd (S.2.1 18) a 1) 8)
      rw [hcn, t3, nI_1]
    · rw [(hka b (hne b (g5 b hb).2.1)).2.2.1]
      exact (g5 b hb).2.1
    · show xmS S.1 i = S.1 i
      unfold xmS
      rw [upd_ne (by omega), upd_ne (by omega), upd_ne (by omega)]
    · rw [x2]; exact x1
    · rw [x2]; exact ha
    · rw [x2]; show upd (S.2.1 18) a 1 a = 1; rw [upd_self]
    · rw [er2, ec2]
    · rw [x2]; show upd (S.2.1 7) a rr.toInt32 a = _; rw [upd_self, er, lN_i]
    · rw [x2]; show upd (S.2.1 8) a cc.toInt32 a = _; rw [upd_self, ec, lN_i]
    · intro j hj
      rw [x2]
      show va_up S.2.2 (10 + a) (C a) (10 + a) j = ct j
      rw [va_up_self]
      exact hC a j hj (by omega)
    · rw [x2]
      exact fun w => (g5 a w).2.1 ha0
    · rw [x2]
      exact fun w => (g1.hs ((hHs a).mp w)).2 ha0
theorem xArr_of {f : Nat → xR} (h : vA S t x v) : xArr x f = f (xIx x) := if_pos ⟨h.1, h.2.1⟩
theorem cQ.new (h : cQ S fr ft T o env k O) (rr cc : Int64) (ht : t = 1 ∨ t = 2) (h1 : t = 1 → cc.toNatClampNeg = 1) : cOut O fr ft S T o env t (aMk rr cc (fun _ => 0) k) (xMk rr cc S) := h.mk rr cc (fun _ => 0) (fun a => fl (S.2.2 (10 + a)) 40 0) (fun a j _ hj => if_pos hj) ht h1
theorem cQ.copy (h : cQ S fr ft T o env k O) (hv : vA S t x v) (ht : t = 1 ∨ t = 2) : cOut O fr ft S T o env t (aMk (nI (aX v).1).toInt64 (nI (aX v).2.1).toInt64 (aX v).2.2 k) (xArr x fun a => xCp a S) := by
  rw [xArr_of hv]
  have htk := hv.tk
  obtain ⟨h1, h2, h3, r, c, ct, rfl, h5, h6, h7, h8, h9, h10, h11⟩ := hv
  unfold xCp
  rw [if_neg htk, h5, h6]
  have er : (nI r).toInt64.toNatClampNeg = r := by rw [nI_l (by omega)]; exact lN_clamp (by omega)
  have ec : (nI c).toInt64.toNatClampNeg = c := by rw [nI_l (by omega)]; exact lN_clamp (by omega)
  exact h.mk (nI r).toInt64 (nI c).toInt64 ct (fun b k => if k < 40 then S.2.2 (10 + xIx x) k else fl (S.2.2 (10 + b)) 40 0 k) (fun a j hj h40 => by
    rw [er, ec] at hj
    show (if j < 40 then S.2.2 (10 + xIx x) j else _) = _
    rw [if_pos h40]
    exact h11 j hj) ht (fun w => by rw [ec]; exact h10 w)
/-- a number is read -/
theorem cQ.rd (h : cQ S fr ft T o env k O) (hv : vA S t x v) (i j : Int64) : cOut O fr ft S T o env 0 (if aInD (aX v) i j = true then (k, .inr (.inl ((aX v).2.2 (aIdx (aX v) i j)))) else (k, .inl 3)) (xArr x fun a => xRd a i j S) := by
  rw [xArr_of hv]
  unfold xRd
  rw [← hv.has i j]
  by_cases q : aInD (aX v) i j = true
  · obtain ⟨e1, e2, e3⟩ := hv.idx q
    rw [if_pos q, if_pos q, if_pos e1, e2]
    obtain ⟨h1, h2, h3, r, c, ct, rfl, h5, h6, h7, h8, h9, h10, h11⟩ := hv
    have := h11 _ e3
    rw [this]
    exact h.num
  · rw [if_neg q, if_neg q]
    exact h.fault (q := 3)
/-- an update in place -/
theorem cQ.put (h : cQ S fr ft T o env k O) (h20 : v0 < 20) (ho : cOwn o (nI v0)) (i j z : Int64) : cOut O fr ft S T (o &&& (cBit (nI v0) ^^^ (-1))) env (T v0) (if aInD (aX (env v0)) i j = true then ((k.1, k.2.1, k.2.2.1, k.2.2.2.1, k.2.2.2.2 + 1), .inr (.inr ((aX (env v0)).1, (aX (env v0)).2.1, vp_updL (aX (env v0)).2.2 (aIdx (aX (env v0)) i j) z))) else (k, .inl 3)) (xArr (S.2.2 (20 + fr) v0) fun a => xPu a i j z S) := by
  obtain ⟨ht, hv⟩ := h.1.2.1 v0 h20 ho
  rw [xArr_of hv]
  unfold xPu
  rw [← hv.has i j]
  by_cases q : aInD (aX (env v0)) i j = true
  · obtain ⟨e1, e2, e3⟩ := hv.idx q
    rw [if_pos q, if_pos q, if_pos e1, e2]
    obtain ⟨g1, ⟨c1, c2, c3, c4⟩, ⟨t1, t2, t3⟩, g4, g5⟩ := (h.off h20)
    obtain ⟨a, ea⟩ : ∃ a, xIx (S.2.2 (20 + fr) v0) = a := ⟨_, rfl⟩
    have hno := h.1.noHs h20 ho
    have hO : ¬ O (xIx (S.2.2 (20 + fr) v0)) := fun w => (h.2.2.2.2 _ w).2.2 ⟨v0, h20, ho, rfl⟩
    obtain ⟨h1, h2, h3, r, c, ct, ev, h5, h6, h7, h8, h9, h10, h11⟩ := hv
    rw [ea] at hno hO h2 h3 h5 h6 h11 ⊢
    rw [ev] at e3 ⊢
    have e3 : aIdx (aX (.inr (r, c, ct))) i j < r * c := e3
    obtain ⟨ix, hix⟩ : ∃ w, aIdx (aX (.inr (r, c, ct))) i j = w := ⟨_, rfl⟩
    rw [hix] at e3 ⊢
    obtain ⟨x1, x2⟩ := xIx_l h2
    have hka : ∀ b, b ≠ a → kA S (upd S.1 6 (S.1 6 + 1), S.2.1, va_up S.2.2 (10 + a) (vp_updL (S.2.2 (10 + a)) ix z)) b := fun b hb => ⟨rfl, rfl, rfl, va_up_ne _ _ (by omega)⟩
    have hfr : ∀ g, va_up S.2.2 (10 + a) (vp_updL (S.2.2 (10 + a)) ix z) (20 + g) = S.2.2 (20 + g) := fun g => va_up_ne _ _ (by omega)
    have hHs : ∀ b, cHs (upd S.1 6 (S.1 6 + 1), S.2.1, va_up S.2.2 (10 + a) (vp_updL (S.2.2 (10 + a)) ix z)) fr (o &&& (cBit (nI v0) ^^^ (-1))) b ↔ cHs S fr (o &&& (cBit (nI v0) ^^^ (-1))) b := fun b => cHs_eq (hfr fr)
    refine ⟨_, _, rfl, ⟨g1.keep (hfr fr) (fun b hb => hka b (fun e => hno (by rw [← e]; exact hb))), ⟨c1, c2, c3, ?_⟩, ⟨t1, t2, t3⟩, g4, fun b hb => ⟨(g5 b hb).1, (g5 b hb).2.1, fun w => (g5 b hb).2.2 ((hHs b).mp w)⟩⟩, ⟨fun b hb => hka b (fun e => hO (by rw [← e]; exact hb)), fun g _ _ => hfr g, fun i hi => ?_, rfl, va_up_ne _ _ (by omega)⟩, Or.inr ⟨ht, ⟨?_, ?_, ?_, r, c, vp_updL ct ix z, rfl, ?_, ?_, h7, h8, h9, h10, ?_⟩, ?_, ?_⟩⟩
    · show upd S.1 6 (S.1 6 + 1) 6 = k.2.2.2.2 + 1
      rw [upd_self, c4]
    · exact upd_ne (by omega)
    · rw [x2]; exact x1
    · rw [x2]; exact h2
    · rw [x2]; exact h3
    · rw [x2]; exact h5
    · rw [x2]; exact h6
    · intro j' hj'
      rw [x2]
      show va_up S.2.2 (10 + a) (vp_updL (S.2.2 (10 + a)) ix z) (10 + a) j' = _
      rw [va_up_self]
      by_cases q' : j' = ix
      · rw [q']
        exact (if_pos rfl).trans (if_pos rfl).symm
      · exact (if_neg q').trans ((h11 j' hj').trans (if_neg q').symm)
    · rw [x2]; exact hO
    · rw [x2]
      exact fun w => hno ((hHs a).mp w)
  · rw [if_neg q, if_neg q]
    exact h.fault (q := 3)
/-- an array is given up -/
theorem cQ.give (h : cQ S fr ft T o env k O) (h20 : v0 < 20) (ho : cOwn o (nI v0)) : cQ (xGv (xIx (S.2.2 (20 + fr) v0)) S) fr ft T (o &&& (cBit (nI v0) ^^^ (-1))) env (k.1, k.2.1, k.2.2.1 - 1, k.2.2.2.1, k.2.2.2.2) O ∧ cKp O fr ft S (xGv (xIx (S.2.2 (20 + fr) v0)) S) := by
  obtain ⟨ht, hv⟩ := h.1.2.1 v0 h20 ho
  have hno := h.1.noHs h20 ho
  have hO : ¬ O (xIx (S.2.2 (20 + fr) v0)) := fun w => (h.2.2.2.2 _ w).2.2 ⟨v0, h20, ho, rfl⟩
  have htk := hv.tk
  have ha := hv.2.1
  obtain ⟨g1, ⟨c1, c2, c3, c4⟩, ⟨t1, t2, t3⟩, g4, g5⟩ := (h.off h20)
  obtain ⟨a, ea⟩ : ∃ a, xIx (S.2.2 (20 + fr) v0) = a := ⟨_, rfl⟩
  rw [ea] at hno hO htk ha ⊢
  have a18 : (xGv a S).2.1 18 = upd (S.2.1 18) a 0 := rfl
  have hka : ∀ b, b ≠ a → kA S (xGv a S) b := fun b hb => ⟨rfl, rfl, by rw [a18, upd_ne hb], rfl⟩
  have hcn : mcnt (S.2.1 18) 8 = mcnt (upd (S.2.1 18) a 0) 8 + 1 := mcnt_one (f := a) (by rw [upd_self]) htk 8 (fun j _ hj => (upd_ne hj).symm) ha
  have hHs : ∀ b, cHs (xGv a S) fr (o &&& (cBit (nI v0) ^^^ (-1))) b ↔ cHs S fr (o &&& (cBit (nI v0) ^^^ (-1))) b := fun b => cHs_eq rfl
  refine ⟨⟨g1.keep rfl (fun b hb => hka b (fun e => hno (by rw [← e]; exact hb))), ⟨c1, c2, c3, c4⟩, ⟨t1, ?_, ?_⟩, g4, fun b hb => ⟨(g5 b hb).1, ?_, fun w => (g5 b hb).2.2 ((hHs b).mp w)⟩⟩, fun b hb => hka b (fun e => hO (by rw [← e]; exact hb)), fun _ _ _ => rfl, fun i hi => upd_ne (by omega), rfl, rfl⟩
  · show upd S.1 10 (S.1 10 - 1) 10 = k.2.2.1 - 1
    rw [upd_self, t2]
  · show k.2.2.1 - 1 = nI (mcnt (upd (S.2.1 18) a 0) 8)
    rw [t3, hcn, nI_p1]
  · rw [(hka b (fun e => hO (by rw [← e]; exact hb))).2.2.1]
    exact (g5 b hb).2.1
end CLS2
