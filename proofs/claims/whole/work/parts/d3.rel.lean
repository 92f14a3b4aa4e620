section SAA
variable {A0 : mA} {P : Nat → Option uF} {SY : Nat → mS} {SR : Nat → Int32}
theorem sA_0 {c : Nat} : sA A0 P SY SR c 0 := by
  intro E bs i b cl s s' t env k pl vs EV m AR hT
  exact False.elim hT
theorem sA_all (hP : pOk P SY SR) (hA : pRf A0 P) : ∀ c, c ≤ 7 → ∀ d, sA A0 P SY SR c d
  | 0, _, 0 => sA_0
  | 0, h, d + 1 => sA_s hP hA h (sA_all hP hA 0 h d) (fun w => absurd w (Nat.lt_irrefl 0))
  | c + 1, _, 0 => sA_0
  | c + 1, h, d + 1 => sA_s hP hA h (sA_all hP hA (c + 1) h d) (fun _ => sA_all hP hA c (Nat.le_of_succ_le h) 8)
termination_by c _ d => (c, d)
end SAA
/-! the class's cells and the evaluation's values -/
def kA (S S' : xT) (a : Nat) : Prop := S'.2.1 7 a = S.2.1 7 a ∧ S'.2.1 8 a = S.2.1 8 a ∧ S'.2.1 18 a = S.2.1 18 a ∧ S'.2.2 (10 + a) = S.2.2 (10 + a)
def kO (S S' : xT) : Prop := (∀ i, i < 5 → S'.1 i = S.1 i) ∧ S'.2.1 1 = S.2.1 1 ∧ S'.2.2 4 = S.2.2 4
/-- what stays: the arrays of others, the other frames, the rest of the cells -/
def cKp (O : Nat → Prop) (fr ft : Nat) (S S' : xT) : Prop := (∀ a, O a → kA S S' a) ∧ (∀ g, g < ft → g ≠ fr → S'.2.2 (20 + g) = S.2.2 (20 + g)) ∧ kO S S'
def vA (S : xT) (t : Int32) (x : Int64) (v : aV) : Prop := x.toInt32 = nI (xIx x) ∧ xIx x < 8 ∧ S.2.1 18 (xIx x) = 1 ∧ ∃ r c ct, v = .inr (r, c, ct) ∧ S.2.1 7 (xIx x) = nI r ∧ S.2.1 8 (xIx x) = nI c ∧ r ≤ 40 ∧ c ≤ 40 ∧ r * c ≤ 40 ∧ (t = 1 → c = 1) ∧ ∀ j, j < r * c → S.2.2 (10 + xIx x) j = ct j
/-- an array of a frame's variable -/
def cHs (S : xT) (fr : Nat) (o : Int32) (a : Nat) : Prop := ∃ v, v < 20 ∧ cOwn o (nI v) ∧ xIx (S.2.2 (20 + fr) v) = a
def cFr (S : xT) (fr : Nat) (T : mS) (o : Int32) (env : Nat → aV) : Prop := (∀ v, v < 20 → T v = 0 → env v = .inl (S.2.2 (20 + fr) v)) ∧ (∀ v, v < 20 → cOwn o (nI v) → (T v = 1 ∨ T v = 2) ∧ vA S (T v) (S.2.2 (20 + fr) v) (env v)) ∧ ∀ v w, v < 20 → w < 20 → cOwn o (nI v) → cOwn o (nI w) → xIx (S.2.2 (20 + fr) v) = xIx (S.2.2 (20 + fr) w) → v = w
def cCt (S : xT) (k : aC) : Prop := S.1 5 = nI k.1 ∧ S.1 8 = k.2.1 ∧ S.1 9 = k.2.2.2.1 ∧ S.1 6 = k.2.2.2.2
def cTh (S : xT) (k : aC) : Prop := k.1 ≤ 400 ∧ S.1 10 = k.2.2.1 ∧ k.2.2.1 = nI (mcnt (S.2.1 18) 8)
def cQ (S : xT) (fr ft : Nat) (T : mS) (o : Int32) (env : Nat → aV) (k : aC) (O : Nat → Prop) : Prop := cFr S fr T o env ∧ cCt S k ∧ cTh S k ∧ S.1 7 = nI ft ∧ ∀ a, O a → a < 8 ∧ ¬ S.2.1 18 a = 0 ∧ ¬ cHs S fr o a
def cVl (S : xT) (fr : Nat) (o : Int32) (O : Nat → Prop) (t : Int32) (y : Int64) (v : aV) : Prop := (t = 0 ∧ v = .inl y) ∨ ((t = 1 ∨ t = 2) ∧ vA S t y v ∧ ¬ O (xIx y) ∧ ¬ cHs S fr o (xIx y))
def cOut (O : Nat → Prop) (fr ft : Nat) (S : xT) (T : mS) (o : Int32) (env : Nat → aV) (t : Int32) (r : aR) (x : xR) : Prop := match r with
  | (k', .inl q) => ∃ S', x = some (S', .inl (8 + q)) ∧ cCt S' k' ∧ kO S S'
  | (k', .inr v) => ∃ S' y, x = some (S', .inr y) ∧ cQ S' fr ft T o env k' O ∧ cKp O fr ft S S' ∧ cVl S' fr o O t y v
theorem xIx_l {a : Nat} (h : a < 8) : (nI a).toInt64.toInt32 = nI a ∧ xIx (nI a).toInt64 = a := by
  have e : (nI a).toInt64.toInt32 = nI a := by rw [nI_l (by omega), lN_i]
  refine ⟨e, ?_⟩
  unfold xIx
  rw [e]
  exact nI_clamp (by omega)
theorem xff_none {f : Nat → Int32} : ∀ {m k : Nat}, xff f m k = none → ∀ j, k ≤ j → j < k + m → ¬ f j = 0
  | 0, k, _, j, h1, h2 => absurd h2 (by omega)
  | m + 1, k, h, j, h1, h2 => by
    unfold xff at h
    by_cases q : f k = 0
    · rw [if_pos q] at h
      cases h
    · rw [if_neg q] at h
      by_cases e : j = k
      · rw [e]; exact q
      · exact xff_none h j (by omega) (by omega)
theorem mcnt_all {f : Nat → Int32} : ∀ k, (∀ j, j < k → ¬ f j = 0) → mcnt f k = k
  | 0, _ => rfl
  | k + 1, h => by
    unfold mcnt
    rw [mcnt_all k (fun j hj => h j (by omega)), if_neg (h k (by omega))]
theorem mcnt_lt {f : Nat → Int32} {a : Nat} (ha : f a = 0) : ∀ k, a < k → mcnt f k < k
  | 0, h => absurd h (by omega)
  | k + 1, h => by
    unfold mcnt
    have := mcnt_le f k
    by_cases q : a = k
    · subst q
      rw [if_pos ha]
      omega
    · have := mcnt_lt ha k (by omega)
      split <;> omega
section CLS
variable {S S' S1 S2 : xT} {fr ft a v0 : Nat} {T T1 : mS} {o o1 : Int32} {env env1 : Nat → aV} {k k' : aC} {O O1 : Nat → Prop} {t t1 : Int32} {x y : Int64} {v : aV} {r : aR} {X : xR}
theorem kA.refl : kA S S a := ⟨rfl, rfl, rfl, rfl⟩
theorem kA.trans (h : kA S S1 a) (g : kA S1 S2 a) : kA S S2 a := ⟨g.1.trans h.1, g.2.1.trans h.2.1, g.2.2.1.trans h.2.2.1, g.2.2.2.trans h.2.2.2⟩
theorem kO.refl : kO S S := ⟨fun _ _ => rfl, rfl, rfl⟩
theorem kO.trans (h : kO S S1) (g : kO S1 S2) : kO S S2 := ⟨fun i hi => (g.1 i hi).trans (h.1 i hi), g.2.1.trans h.2.1, g.2.2.trans h.2.2⟩
theorem cKp.refl : cKp O fr ft S S := ⟨fun _ _ => kA.refl, fun _ _ _ => rfl, kO.refl⟩
theorem cKp.trans (h : cKp O fr ft S S1) (g : cKp O fr ft S1 S2) : cKp O fr ft S S2 := ⟨fun a ha => (h.1 a ha).trans (g.1 a ha), fun e he hf => (g.2.1 e he hf).trans (h.2.1 e he hf), h.2.2.trans g.2.2⟩
theorem cKp.sub (h : cKp O1 fr ft S S1) (g : ∀ a, O a → O1 a) : cKp O fr ft S S1 := ⟨fun a ha => h.1 a (g a ha), h.2⟩
theorem vA.keep (h : vA S t x v) (g : kA S S1 (xIx x)) : vA S1 t x v := by
  obtain ⟨h1, h2, h3, r, c, ct, h4, h5, h6, h7, h8, h9, h10, h11⟩ := h
  exact ⟨h1, h2, g.2.2.1.trans h3, r, c, ct, h4, g.1.trans h5, g.2.1.trans h6, h7, h8, h9, h10, fun j hj => by rw [g.2.2.2]; exact h11 j hj⟩
theorem vA.tk (h : vA S t x v) : ¬ S.2.1 18 (xIx x) = 0 := by
  rw [h.2.2.1]
  decide
theorem cHs_eq (hf : S1.2.2 (20 + fr) = S.2.2 (20 + fr)) : cHs S1 fr o a ↔ cHs S fr o a := by
  unfold cHs
  rw [hf]
theorem cFr.keep (h : cFr S fr T o env) (hf : S1.2.2 (20 + fr) = S.2.2 (20 + fr)) (ha : ∀ a, cHs S fr o a → kA S S1 a) : cFr S1 fr T o env := by
  refine ⟨fun v hv ht => by rw [hf]; exact h.1 v hv ht, fun v hv ho => ?_, fun v w hv hw ho hp => by rw [hf]; exact h.2.2 v w hv hw ho hp⟩
  obtain ⟨h1, h2⟩ := h.2.1 v hv ho
  refine ⟨h1, ?_⟩
  rw [hf]
  exact h2.keep (ha _ ⟨v, hv, ho, rfl⟩)
theorem cFr.hs (h : cFr S fr T o env) (g : cHs S fr o a) : a < 8 ∧ ¬ S.2.1 18 a = 0 := by
  obtain ⟨v, hv, ho, rfl⟩ := g
  have := (h.2.1 v hv ho).2
  exact ⟨this.2.1, this.tk⟩
theorem cFr.types (h : cFr S fr T o env) (hT : ∀ v, T1 v = T v) : cFr S fr T1 o env := ⟨fun w hw ht => h.1 w hw (by rw [← hT]; exact ht), fun w hw ho => by rw [hT]; exact h.2.1 w hw ho, h.2.2⟩
theorem cQ.types (h : cQ S fr ft T o env k O) (hT : ∀ v, T1 v = T v) : cQ S fr ft T1 o env k O := ⟨h.1.types hT, h.2⟩
theorem cHs.off (h20 : v0 < 20) (h : cHs S fr (o &&& (cBit (nI v0) ^^^ (-1))) a) : cHs S fr o a := by
  obtain ⟨v, hv, ho, e⟩ := h
  exact ⟨v, hv, ((own_off o hv h20).mp ho).2, e⟩
theorem cFr.noHs (h : cFr S fr T o env) (h20 : v0 < 20) (ho : cOwn o (nI v0)) : ¬ cHs S fr (o &&& (cBit (nI v0) ^^^ (-1))) (xIx (S.2.2 (20 + fr) v0)) := fun ⟨v, hv, hq, e⟩ => by
  obtain ⟨h1, h2⟩ := (own_off o hv h20).mp hq
  exact h1 (h.2.2 v v0 hv h20 h2 ho e)
theorem cFr.off (h : cFr S fr T o env) (h20 : v0 < 20) : cFr S fr T (o &&& (cBit (nI v0) ^^^ (-1))) env := ⟨h.1, fun w hw ho => h.2.1 w hw ((own_off o hw h20).mp ho).2, fun v w hv hw ho hp => h.2.2 v w hv hw ((own_off o hv h20).mp ho).2 ((own_off o hw h20).mp hp).2⟩
theorem cQ.off (h : cQ S fr ft T o env k O) (h20 : v0 < 20) : cQ S fr ft T (o &&& (cBit (nI v0) ^^^ (-1))) env k O := ⟨h.1.off h20, h.2.1, h.2.2.1, h.2.2.2.1, fun a ha => ⟨(h.2.2.2.2 a ha).1, (h.2.2.2.2 a ha).2.1, fun w => (h.2.2.2.2 a ha).2.2 (w.off h20)⟩⟩
theorem cOut.pre (h : cKp O fr ft S S1) (g : cOut O fr ft S1 T o env t r X) : cOut O fr ft S T o env t r X := by
  match r, g with
  | (k', .inl q), ⟨S2, e, g1, g2⟩ => exact ⟨S2, e, g1, h.2.2.trans g2⟩
  | (k', .inr v), ⟨S2, y, e, g1, g2, g3⟩ => exact ⟨S2, y, e, g1, h.trans g2, g3⟩
theorem cOut.bnd {f : aC → aV → aR} {g : xT → Int64 → xR} (h : cOut O fr ft S T1 o1 env1 t1 r X) (hg : ∀ k' v S' y, cQ S' fr ft T1 o1 env1 k' O → cVl S' fr o1 O t1 y v → cOut O fr ft S' T o env t (f k' v) (g S' y)) : cOut O fr ft S T o env t (aB r f) (xB X g) := by
  match r, h with
  | (k', .inl q), ⟨S2, e, g1, g2⟩ =>
    rw [e]
    exact ⟨S2, rfl, g1, g2⟩
  | (k', .inr v), ⟨S2, y, e, g1, g2, g3⟩ =>
    rw [e]
    exact cOut.pre g2 (hg k' v S2 y g1 g3)
theorem cOut.fin (h : cOut O fr ft S T1 o env1 t r X) (hq : ∀ S' k', cQ S' fr ft T1 o env1 k' O → cQ S' fr ft T o env k' O) : cOut O fr ft S T o env t r X := by
  match r, h with
  | (k', .inl q), h => exact h
  | (k', .inr v), ⟨S2, y, e, g1, g2, g3⟩ => exact ⟨S2, y, e, hq S2 k' g1, g2, g3⟩
theorem cVl0 (h : cVl S fr o O 0 y v) : v = .inl y := by
  rcases h with h | ⟨h, -⟩
  · exact h.2
  · rcases h with h | h <;> exact absurd h (by decide)
theorem cQ.num (h : cQ S fr ft T o env k O) : cOut O fr ft S T o env 0 (k, .inr (.inl y)) (some (S, .inr y)) := ⟨S, y, rfl, h, cKp.refl, Or.inl ⟨rfl, rfl⟩⟩
theorem cQ.fault {q fr1 ft1 : Nat} (h : cQ S fr1 ft1 T1 o1 env1 k O1) : cOut O fr ft S T o env t (k, .inl q) (some (S, .inl (8 + q))) := ⟨S, rfl, h.2.1, kO.refl⟩
theorem kp_1 {i : Nat} {x : Int32} (h : ¬ i < 5) : cKp O fr ft S (upd S.1 i x, S.2) := ⟨fun _ _ => kA.refl, fun _ _ _ => rfl, fun j hj => upd_ne (by omega), rfl, rfl⟩
theorem cQ.tick (h : cQ S fr ft T o env k O) (hk : k.1 ≠ 400) : cQ (upd S.1 5 (S.1 5 + 1), S.2) fr ft T o env (k.1 + 1, k.2) O := by
  obtain ⟨h1, ⟨c1, c2, c3, c4⟩, ⟨t1, t2, t3⟩, h4, h5⟩ := h
  refine ⟨h1, ⟨?_, c2, c3, c4⟩, ⟨by show k.1 + 1 ≤ 400; omega, t2, t3⟩, h4, h5⟩
  show upd S.1 5 (S.1 5 + 1) 5 = nI (k.1 + 1)
  rw [upd_self, c1, nI_1]
theorem cQ.seven (h : cQ S fr ft T o env k O) {ft' : Nat} {x : Int32} (hx : x = nI ft') : cQ (upd S.1 7 x, S.2) fr ft' T o env k O := by
  obtain ⟨h1, ⟨c1, c2, c3, c4⟩, ⟨t1, t2, t3⟩, h4, h5⟩ := h
  refine ⟨h1, ⟨c1, c2, c3, c4⟩, ⟨t1, t2, t3⟩, ?_, h5⟩
  show upd S.1 7 x 7 = _
  rw [upd_self, hx]
theorem cQ.use (h : cQ S fr ft T o env k O) (h20 : v0 < 20) (ht : T v0 = t) (hr : t = 0 ∨ t = 1 ∨ t = 2) (ho : t = 1 ∨ t = 2 → cOwn o (nI v0)) : cOut O fr ft S T (o &&& (cBit (nI v0) ^^^ (-1))) env t (k, .inr (env v0)) (some (S, .inr (S.2.2 (20 + fr) v0))) := by
  refine ⟨S, _, rfl, h.off h20, cKp.refl, ?_⟩
  rcases hr with hr | hr
  · exact Or.inl ⟨hr, h.1.1 v0 h20 (by rw [ht]; exact hr)⟩
  · have ho := ho hr
    have hv := (h.1.2.1 v0 h20 ho).2
    rw [ht] at hv
    exact Or.inr ⟨hr, hv, fun w => (h.2.2.2.2 _ w).2.2 ⟨v0, h20, ho, rfl⟩, h.1.noHs h20 ho⟩
theorem cFr.bind (h : cFr S fr T o env) (hv : (t = 0 ∧ v = .inl y) ∨ ((t = 1 ∨ t = 2) ∧ vA S t y v ∧ ¬ cHs S fr o (xIx y))) (h20 : v0 < 20) (hT : T v0 = -1) : cFr (xSet fr v0 y S) fr (upd T v0 t) (if t = 1 ∨ t = 2 then o ||| cBit (nI v0) else o) (va_up env v0 v) ∧ ∀ a, cHs (xSet fr v0 y S) fr (if t = 1 ∨ t = 2 then o ||| cBit (nI v0) else o) a → (cHs S fr o a ∨ ((t = 1 ∨ t = 2) ∧ a = xIx y)) := by
  have hno : ¬ cOwn o (nI v0) := fun w => by
    rcases (h.2.1 v0 h20 w).1 with q | q <;> rw [hT] at q <;> exact absurd q (by decide)
  have hown : ∀ w, w < 20 → cOwn (if t = 1 ∨ t = 2 then o ||| cBit (nI v0) else o) (nI w) → (w = v0 ∧ (t = 1 ∨ t = 2)) ∨ (w ≠ v0 ∧ cOwn o (nI w)) := fun w hw q => by
    by_cases qt : t = 1 ∨ t = 2
    · rw [if_pos qt] at q
      rcases (own_or o hw h20).mp q with e | e
      · exact Or.inl ⟨e, qt⟩
      · by_cases e2 : w = v0
        · exact Or.inl ⟨e2, qt⟩
        · exact Or.inr ⟨e2, e⟩
    · rw [if_neg qt] at q
      refine Or.inr ⟨fun e => hno (by rw [← e]; exact q), q⟩
  have hset : (xSet fr v0 y S).2.2 (20 + fr) = vp_updL (S.2.2 (20 + fr)) v0 y := va_up_self _ _ _
  have hs0 : vp_updL (S.2.2 (20 + fr)) v0 y v0 = y := if_pos rfl
  have hsn : ∀ w, w ≠ v0 → vp_updL (S.2.2 (20 + fr)) v0 y w = S.2.2 (20 + fr) w := fun w hw => if_neg hw
  have hka : ∀ a, a < 8 → kA S (xSet fr v0 y S) a := fun a ha => ⟨rfl, rfl, rfl, va_up_ne _ _ (by omega)⟩
  have hyt : t = 1 ∨ t = 2 → vA S t y v ∧ ¬ cHs S fr o (xIx y) := fun w => by
    rcases hv with ⟨e, -⟩ | ⟨-, e⟩
    · rw [e] at w
      exact absurd w (by decide)
    · exact e
  refine ⟨⟨fun w hw ht => ?_, fun w hw ho => ?_, fun w u hw hu ho hp hx => ?_⟩, fun a ⟨w, hw, ho, e⟩ => ?_⟩
  · rw [hset]
    by_cases e : w = v0
    · subst e
      rw [upd_self] at ht
      rw [va_up_self, hs0]
      rcases hv with ⟨-, hv⟩ | ⟨ht2, -⟩
      · exact hv
      · rw [ht] at ht2
        exact absurd ht2 (by decide)
    · rw [upd_ne e] at ht
      rw [va_up_ne _ _ e, hsn w e]
      exact h.1 w hw ht
  · rw [hset]
    rcases hown w hw ho with ⟨e, ht2⟩ | ⟨e, ho2⟩
    · subst e
      rw [va_up_self, hs0, upd_self]
      have := (hyt ht2).1
      exact ⟨ht2, this.keep (hka _ this.2.1)⟩
    · rw [va_up_ne _ _ e, hsn w e, upd_ne e]
      have := h.2.1 w hw ho2
      exact ⟨this.1, this.2.keep (hka _ this.2.2.1)⟩
  · rw [hset] at hx
    rcases hown w hw ho with ⟨e, ht2⟩ | ⟨e, ho2⟩
    · subst e
      rcases hown u hu hp with ⟨e', -⟩ | ⟨e', hp2⟩
      · exact e'.symm
      · rw [hs0, hsn u e'] at hx
        exact absurd ⟨u, hu, hp2, hx.symm⟩ (hyt ht2).2
    · rcases hown u hu hp with ⟨e', ht2⟩ | ⟨e', hp2⟩
      · subst e'
        rw [hs0, hsn w e] at hx
        exact absurd ⟨w, hw, ho2, hx⟩ (hyt ht2).2
      · rw [hsn w e, hsn u e'] at hx
        exact h.2.2 w u hw hu ho2 hp2 hx
  · rw [hset] at e
    rcases hown w hw ho with ⟨e', ht2⟩ | ⟨e', ho2⟩
    · subst e'
      rw [hs0] at e
      exact Or.inr ⟨ht2, e.symm⟩
    · rw [hsn w e'] at e
      exact Or.inl ⟨w, hw, ho2, e⟩
theorem kp_set {g : Nat} (h8 : ∀ a, O a → a < 8) (hg : ∀ e, e < ft → e ≠ fr → e ≠ g) : cKp O fr ft S (xSet g v0 y S) := ⟨fun a ha => ⟨rfl, rfl, rfl, va_up_ne _ _ (by have := h8 a ha; omega)⟩, fun e he hf => va_up_ne _ _ (by have := hg e he hf; omega), fun _ _ => rfl, rfl, va_up_ne _ _ (by omega)⟩
theorem cQ.bind (h : cQ S fr ft T o env k O) (hv : cVl S fr o O t y v) (h20 : v0 < 20) (hT : T v0 = -1) : cQ (xSet fr v0 y S) fr ft (upd T v0 t) (if t = 1 ∨ t = 2 then o ||| cBit (nI v0) else o) (va_up env v0 v) k O := by
  have hv2 : (t = 0 ∧ v = .inl y) ∨ ((t = 1 ∨ t = 2) ∧ vA S t y v ∧ ¬ cHs S fr o (xIx y)) := hv.imp_right (fun w => ⟨w.1, w.2.1, w.2.2.2⟩)
  obtain ⟨b1, b2⟩ := h.1.bind hv2 h20 hT
  refine ⟨b1, h.2.1, h.2.2.1, h.2.2.2.1, fun a ha => ⟨(h.2.2.2.2 a ha).1, (h.2.2.2.2 a ha).2.1, fun w => ?_⟩⟩
  rcases b2 a w with w | ⟨w, e⟩
  · exact (h.2.2.2.2 a ha).2.2 w
  · rcases hv with ⟨e2, -⟩ | ⟨-, -, e2, -⟩
    · rw [e2] at w
      exact absurd w (by decide)
    · exact e2 (by rw [← e]; exact ha)
theorem cQ.unbind (h : cQ S fr ft T o (va_up env v0 v) k O) (hno : ¬ cOwn o (nI v0)) : cQ S fr ft (upd T v0 (-1)) o env k O := by
  refine ⟨⟨fun w hw ht => ?_, fun w hw ho => ?_, h.1.2.2⟩, h.2⟩
  · by_cases e : w = v0
    · subst e
      rw [upd_self] at ht
      exact absurd ht (by decide)
    · rw [upd_ne e] at ht
      have := h.1.1 w hw ht
      rw [va_up_ne _ _ e] at this
      exact this
  · have e : w ≠ v0 := fun e => hno (by rw [← e]; exact ho)
    have := h.1.2.1 w hw ho
    rw [va_up_ne _ _ e] at this
    rw [upd_ne e]
    exact this
theorem vA.has (h : vA S t x v) (i j : Int64) : aInD (aX v) i j = xHD S (xIx x) i j := by
  obtain ⟨h1, h2, h3, r, c, ct, rfl, h5, h6, -⟩ := h
  unfold xHD
  rw [h5, h6]
  rfl
theorem vA.idx (h : vA S t x v) {i j : Int64} (g : aInD (aX v) i j = true) : xKok S (xIx x) i j = true ∧ xK S (xIx x) i j = aIdx (aX v) i j ∧ aIdx (aX v) i j < (aX v).1 * (aX v).2.1 := by
  obtain ⟨h1, h2, h3, r, c, ct, rfl, h5, h6, h7, h8, h9, -⟩ := h
  obtain ⟨i', j', e1, e2, e3, e4, e5, e6, e7⟩ := l_idx (r := r) (c := c) (ct := ct) g h7 h8
  have e5 : aIdx (aX (.inr (r, c, ct))) i j = i' * c + j' := e5
  have ek : xK S (xIx x) i j = i' * c + j' := by
    unfold xK
    rw [h6, e7]
    exact nI_clamp (by omega)
  refine ⟨?_, by rw [ek, e5], by rw [e5]; exact e6⟩
  unfold xKok
  rw [ek, h6, e7]
  simp only [Bool.and_eq_true, decide_eq_true_iff, true_and]
  omega
end CLS
