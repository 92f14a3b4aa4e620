/-! X: the class's own cells, 0 .. 84. xs: its ints (0 typed, 1 length, 2 defined, 3 resultType, 4 place, 5 begun, 6 updates, 7 framesTaken, 8 made, 9 most, 10 there); xr: result; xa: arrays of ints, chars, booleans by their numbers (1 text, 7 heights, 8 widths, 18 taken); xl: arrays of longs (4 arguments, 10 .. 17 numbers, 20 .. 84 frames); xf: the functions -/
abbrev xF : Type := Nat → Option Nat
def xF0 (xs : mS) (xr : Int64) : List Value := [.ref 1, .ref 2, .ref 3, .ref 4, .ref 5, .int (xs 0), .int (xs 1), .int (xs 2), .int (xs 3), .long xr]
def xF2 (xs : mS) : List Value := [.int (xs 4)]
def xF5 (xs : mS) : List Value := [.ref 6, .int (xs 5), .int (xs 6), .ref 19, .int (xs 7)]
def xF6 (xs : mS) : List Value := [.ref 7, .ref 8, .int (xs 8), .int (xs 9), .ref 9, .ref 18, .int (xs 10)]
def xTy (i : Nat) : Nat := match i with
  | 1 => 2
  | 7 => 0
  | 8 => 0
  | 18 => 3
  | _ => 1
def xLen (i : Nat) : Nat := if i = 1 then 150 else if i = 4 then 4 else if i < 9 then 8 else if i < 18 then 40 else if i = 18 then 8 else 20
def xOv (xs : mS) (xr : Int64) (xa : mA) (xl : mL) (xf : xF) (σ : zS) : zS := fun i =>
  if i = 0 then .inr (0, xF0 xs xr) else if i = 2 then .inr (1, xF2 xs) else if i = 5 then .inr (7, xF5 xs) else if i = 6 then .inr (6, xF6 xs)
  else if i = 3 then .inl (4, 8, .inr (.inr (.inr (.inr xf)))) else if i = 9 then .inl (6, 8, .inr (.inr (.inr (.inr (fun j => if j < 8 then some (9 + 1 + j) else none)))))
  else if i = 19 then .inl (6, 65, .inr (.inr (.inr (.inr (fun j => if j < 65 then some (19 + 1 + j) else none))))) else if 85 ≤ i then σ i
  else if xTy i = 1 then .inl (1, xLen i, .inr (.inl (xl i))) else .inl (xTy i, xLen i, .inl (xa i))
section XS
variable (xs : mS) (xr : Int64) (xa : mA) (xl : mL) (xf : xF) (σ : zS)
theorem xOv_0 {k : Nat} (x : Int32) (r : Int64) (h : k < 4) : va_up (xOv xs xr xa xl xf σ) 0 (.inr (0, xF0 (upd xs k x) r)) = xOv (upd xs k x) r xa xl xf σ := by
  have e2 : xF2 (upd xs k x) = xF2 xs := by simp [xF2, upd, show ¬ 4 = k by omega]
  have e5 : xF5 (upd xs k x) = xF5 xs := by simp [xF5, upd, show ¬ 5 = k by omega, show ¬ 6 = k by omega, show ¬ 7 = k by omega]
  have e6 : xF6 (upd xs k x) = xF6 xs := by simp [xF6, upd, show ¬ 8 = k by omega, show ¬ 9 = k by omega, show ¬ 10 = k by omega]
  funext i
  unfold va_up xOv
  by_cases h : i = 0
  · simp [h]
  · simp [h, e2, e5, e6]
theorem xOv_0r (r : Int64) : va_up (xOv xs xr xa xl xf σ) 0 (.inr (0, xF0 xs r)) = xOv xs r xa xl xf σ := by
  funext i
  unfold va_up xOv
  by_cases h : i = 0
  · simp [h]
  · simp [h]
theorem xOv_2 (x : Int32) : va_up (xOv xs xr xa xl xf σ) 2 (.inr (1, [.int x])) = xOv (upd xs 4 x) xr xa xl xf σ := by
  have e0 : xF0 (upd xs 4 x) xr = xF0 xs xr := rfl
  have e5 : xF5 (upd xs 4 x) = xF5 xs := rfl
  have e6 : xF6 (upd xs 4 x) = xF6 xs := rfl
  have e2 : xF2 (upd xs 4 x) = [.int x] := rfl
  funext i
  unfold va_up xOv
  by_cases h : i = 2
  · simp [h, e2]
  · simp [h, e0, e5, e6]
theorem xOv_5 {k : Nat} (x : Int32) (h : 5 ≤ k) (h' : k < 8) : va_up (xOv xs xr xa xl xf σ) 5 (.inr (7, xF5 (upd xs k x))) = xOv (upd xs k x) xr xa xl xf σ := by
  have e0 : xF0 (upd xs k x) xr = xF0 xs xr := by simp [xF0, upd, show ¬ 0 = k by omega, show ¬ 1 = k by omega, show ¬ 2 = k by omega, show ¬ 3 = k by omega]
  have e2 : xF2 (upd xs k x) = xF2 xs := by simp [xF2, upd, show ¬ 4 = k by omega]
  have e6 : xF6 (upd xs k x) = xF6 xs := by simp [xF6, upd, show ¬ 8 = k by omega, show ¬ 9 = k by omega, show ¬ 10 = k by omega]
  funext i
  unfold va_up xOv
  by_cases h : i = 5
  · simp [h]
  · simp [h, e2, e0, e6]
theorem xOv_6 {k : Nat} (x : Int32) (h : 8 ≤ k) : va_up (xOv xs xr xa xl xf σ) 6 (.inr (6, xF6 (upd xs k x))) = xOv (upd xs k x) xr xa xl xf σ := by
  have e0 : xF0 (upd xs k x) xr = xF0 xs xr := by simp [xF0, upd, show ¬ 0 = k by omega, show ¬ 1 = k by omega, show ¬ 2 = k by omega, show ¬ 3 = k by omega]
  have e2 : xF2 (upd xs k x) = xF2 xs := by simp [xF2, upd, show ¬ 4 = k by omega]
  have e5 : xF5 (upd xs k x) = xF5 xs := by simp [xF5, upd, show ¬ 5 = k by omega, show ¬ 6 = k by omega, show ¬ 7 = k by omega]
  funext i
  unfold va_up xOv
  by_cases h : i = 6
  · simp [h]
  · simp [h, e2, e0, e5]
theorem xOv_f (f : xF) : va_up (xOv xs xr xa xl xf σ) 3 (.inl (4, 8, .inr (.inr (.inr (.inr f))))) = xOv xs xr xa xl f σ := by
  funext i
  unfold va_up xOv
  by_cases h : i = 3
  · simp [h]
  · simp [h]
/-- the numbers of arrays of longs, and of the others -/
def xIsL (i : Nat) : Prop := i = 4 ∨ (10 ≤ i ∧ i < 18) ∨ (20 ≤ i ∧ i < 85)
def xIsA (i : Nat) : Prop := i = 1 ∨ i = 7 ∨ i = 8 ∨ i = 18
theorem xTy_L {i : Nat} (h : xIsL i) : xTy i = 1 := by
  unfold xIsL at h
  unfold xTy
  split <;> first | omega | rfl
theorem xTy_A {i : Nat} (h : xIsA i) : xTy i ≠ 1 := by
  rcases h with rfl | rfl | rfl | rfl <;> decide
theorem xOv_atL {a : Nat} (h : xIsL a) : xOv xs xr xa xl xf σ a = .inl (1, xLen a, .inr (.inl (xl a))) := by
  have e := xTy_L h
  unfold xIsL at h
  unfold xOv
  rw [if_neg (by omega), if_neg (by omega), if_neg (by omega), if_neg (by omega), if_neg (by omega), if_neg (by omega), if_neg (by omega), if_neg (by omega), if_pos e]
theorem xOv_atA {a : Nat} (h : xIsA a) : xOv xs xr xa xl xf σ a = .inl (xTy a, xLen a, .inl (xa a)) := by
  rcases h with rfl | rfl | rfl | rfl <;> rfl
theorem xOv_L {a : Nat} (h : xIsL a) (f : Nat → Int64) : va_up (xOv xs xr xa xl xf σ) a (.inl (1, xLen a, .inr (.inl f))) = xOv xs xr xa (va_up xl a f) xf σ := by
  funext i
  by_cases e : i = a
  · subst e
    rw [va_up_self, xOv_atL _ _ _ _ _ _ h, va_up_self]
  · rw [va_up_ne _ _ e]
    unfold xOv
    rw [va_up_ne _ _ e]
theorem xOv_A {a : Nat} (h : xIsA a) (f : Nat → Int32) : va_up (xOv xs xr xa xl xf σ) a (.inl (xTy a, xLen a, .inl f)) = xOv xs xr (va_up xa a f) xl xf σ := by
  funext i
  by_cases e : i = a
  · subst e
    rw [va_up_self, xOv_atA _ _ _ _ _ _ h, va_up_self]
  · rw [va_up_ne _ _ e]
    unfold xOv
    rw [va_up_ne _ _ e]
theorem xOv_out {i : Nat} (h : 85 ≤ i) : xOv xs xr xa xl xf σ i = σ i := by
  unfold xOv
  rw [if_neg (by omega), if_neg (by omega), if_neg (by omega), if_neg (by omega), if_neg (by omega), if_neg (by omega), if_neg (by omega), if_pos h]
theorem xOv_new {i : Nat} (h : 85 ≤ i) (e : va_E) : va_up (xOv xs xr xa xl xf σ) i e = xOv xs xr xa xl xf (va_up σ i e) := by
  funext j
  by_cases hj : j = i
  · subst hj
    rw [va_up_self, xOv_out _ _ _ _ _ _ h, va_up_self]
  · rw [va_up_ne _ _ hj]
    unfold xOv
    rw [va_up_ne _ _ hj]
/-- the two sides' cells stand apart -/
theorem mx_comm (S : mS) (A : mA) (L : mL) (rn : Int64) : mOv S A L rn (xOv xs xr xa xl xf σ) = xOv xs xr xa xl xf (mOv S A L rn σ) := by
  funext i
  by_cases h : 85 ≤ i
  · rw [xOv_out _ _ _ _ _ _ h]
    unfold mOv
    by_cases h1 : i = 85
    · rw [if_pos h1, if_pos h1]
    · have h3 : ¬ i < 86 := by omega
      rw [xOv_out _ _ _ _ _ _ h]
  · rw [mOv_out _ _ _ _ _ (by omega)]
    unfold xOv
    rw [if_neg h, if_neg h]
end XS
section XR
variable {G : zG} {K : zK} {y : MethodName} {cc : ByteArray} {nL : Nat} {ret : Option FieldType} {hs : List (Nat × Nat × Nat × Nat)} {n k1 k2 pc : Nat} {lv : List (Nat × Value)} {st : List Value} {xs : mS} {xr : Int64} {xa : mA} {xl : mL} {xf : xF} {σ : zS}
theorem zx_put0 (C : zC G K y cc nL ret hs) (pc' : Nat) {idx fk : Nat} (k : Nat) {x : Int32} (hf : zP y.cls idx 0 fk .int) (hd : decode cc pc = .ok (.putfield idx, 3)) (hp : pc + 3 = pc') (hn : 85 ≤ n) (hfk : fk < 10) (hk : k < 4) (hset : (xF0 xs xr).set fk (.int x) = xF0 (upd xs k x) xr)
    (kk : Z G K n (xOv (upd xs k x) xr xa xl xf σ) k1 k2 pc' lv st) : Z G K n (xOv xs xr xa xl xf σ) k1 k2 pc lv (.int x :: .ref 0 :: st) := by
  refine z_put C pc' (fs := xF0 xs xr) hf hd hp (by omega) rfl hfk rfl rfl ?_
  rw [hset, xOv_0 _ _ _ _ _ _ _ _ hk]
  exact kk
theorem zx_put0r (C : zC G K y cc nL ret hs) (pc' : Nat) {idx : Nat} {x : Int64} (hf : zP y.cls idx 0 9 .long) (hd : decode cc pc = .ok (.putfield idx, 3)) (hp : pc + 3 = pc') (hn : 85 ≤ n)
    (kk : Z G K n (xOv xs x xa xl xf σ) k1 k2 pc' lv st) : Z G K n (xOv xs xr xa xl xf σ) k1 k2 pc lv (.long x :: .ref 0 :: st) := by
  refine z_put C pc' (fs := xF0 xs xr) hf hd hp (by omega) rfl (by decide : 9 < 10) rfl rfl ?_
  rw [show (xF0 xs xr).set 9 (.long x) = xF0 xs x from rfl, xOv_0r]
  exact kk
theorem zx_put2 (C : zC G K y cc nL ret hs) (pc' : Nat) {idx : Nat} {x : Int32} (hf : zP y.cls idx 1 0 .int) (hd : decode cc pc = .ok (.putfield idx, 3)) (hp : pc + 3 = pc') (hn : 85 ≤ n)
    (kk : Z G K n (xOv (upd xs 4 x) xr xa xl xf σ) k1 k2 pc' lv st) : Z G K n (xOv xs xr xa xl xf σ) k1 k2 pc lv (.int x :: .ref 2 :: st) := by
  refine z_put C pc' (fs := xF2 xs) hf hd hp (by omega) rfl (by decide : 0 < 1) rfl rfl ?_
  rw [show (xF2 xs).set 0 (.int x) = [.int x] from rfl, xOv_2]
  exact kk
theorem zx_put5 (C : zC G K y cc nL ret hs) (pc' : Nat) {idx fk : Nat} (k : Nat) {x : Int32} (hf : zP y.cls idx 7 fk .int) (hd : decode cc pc = .ok (.putfield idx, 3)) (hp : pc + 3 = pc') (hn : 85 ≤ n) (hfk : fk < 5) (hk : 5 ≤ k) (hk' : k < 8) (hset : (xF5 xs).set fk (.int x) = xF5 (upd xs k x))
    (kk : Z G K n (xOv (upd xs k x) xr xa xl xf σ) k1 k2 pc' lv st) : Z G K n (xOv xs xr xa xl xf σ) k1 k2 pc lv (.int x :: .ref 5 :: st) := by
  refine z_put C pc' (fs := xF5 xs) hf hd hp (by omega) rfl hfk rfl rfl ?_
  rw [hset, xOv_5 _ _ _ _ _ _ _ hk hk']
  exact kk
theorem zx_put6 (C : zC G K y cc nL ret hs) (pc' : Nat) {idx fk : Nat} (k : Nat) {x : Int32} (hf : zP y.cls idx 6 fk .int) (hd : decode cc pc = .ok (.putfield idx, 3)) (hp : pc + 3 = pc') (hn : 85 ≤ n) (hfk : fk < 7) (hk : 8 ≤ k) (hset : (xF6 xs).set fk (.int x) = xF6 (upd xs k x))
    (kk : Z G K n (xOv (upd xs k x) xr xa xl xf σ) k1 k2 pc' lv st) : Z G K n (xOv xs xr xa xl xf σ) k1 k2 pc lv (.int x :: .ref 6 :: st) := by
  refine z_put C pc' (fs := xF6 xs) hf hd hp (by omega) rfl hfk rfl rfl ?_
  rw [hset, xOv_6 _ _ _ _ _ _ _ hk]
  exact kk
theorem zx_last (C : zC G K y cc nL ret hs) (pc' : Nat) {a : Nat} {j : Int32} {x : Int64} (jn : Nat) (hd : decode cc pc = .ok (.lastore, 1)) (hp : pc + 1 = pc') (hn : 85 ≤ n) (ha : xIsL a) (hj : j = nI jn) (hl : jn < xLen a) (hs : xLen a < 2 ^ 31)
    (k : Z G K n (xOv xs xr xa (va_up xl a (vp_updL (xl a) jn x)) xf σ) k1 k2 pc' lv st) : Z G K n (xOv xs xr xa xl xf σ) k1 k2 pc lv (.long x :: .int j :: .ref a :: st) := by
  have h85 : a < 85 := by unfold xIsL at ha; omega
  refine z_last C pc' jn hd hp (by omega) (xOv_atL _ _ _ _ _ _ ha) hj hl hs ?_
  rw [xOv_L _ _ _ _ _ _ ha]
  exact k
theorem zx_lald (C : zC G K y cc nL ret hs) (pc' : Nat) {a : Nat} {j : Int32} (jn : Nat) (hd : decode cc pc = .ok (.laload, 1)) (hp : pc + 1 = pc') (hn : 85 ≤ n) (ha : xIsL a) (hj : j = nI jn) (hl : jn < xLen a) (hs : xLen a < 2 ^ 31)
    (k : Z G K n (xOv xs xr xa xl xf σ) k1 k2 pc' lv (.long (xl a jn) :: st)) : Z G K n (xOv xs xr xa xl xf σ) k1 k2 pc lv (.int j :: .ref a :: st) := by
  have h85 : a < 85 := by unfold xIsL at ha; omega
  exact z_lald C pc' jn hd hp (by omega) (xOv_atL _ _ _ _ _ _ ha) hj hl hs k
theorem zx_iast (C : zC G K y cc nL ret hs) (pc' : Nat) {a : Nat} {j x : Int32} (jn : Nat) (hd : decode cc pc = .ok (.iastore, 1)) (hp : pc + 1 = pc') (hn : 85 ≤ n) (ha : a = 7 ∨ a = 8) (hj : j = nI jn) (hl : jn < 8)
    (k : Z G K n (xOv xs xr (va_up xa a (upd (xa a) jn x)) xl xf σ) k1 k2 pc' lv st) : Z G K n (xOv xs xr xa xl xf σ) k1 k2 pc lv (.int x :: .int j :: .ref a :: st) := by
  have hA : xIsA a := by unfold xIsA; omega
  have e := xOv_A xs xr xa xl xf σ hA (upd (xa a) jn x)
  rcases ha with rfl | rfl
  · refine z_iast C pc' jn hd hp (by omega) rfl hj hl (by decide) ?_
    rw [show va_up (xOv xs xr xa xl xf σ) 7 (.inl (0, xLen 7, .inl (upd (xa 7) jn x))) = _ from e]
    exact k
  · refine z_iast C pc' jn hd hp (by omega) rfl hj hl (by decide) ?_
    rw [show va_up (xOv xs xr xa xl xf σ) 8 (.inl (0, xLen 8, .inl (upd (xa 8) jn x))) = _ from e]
    exact k
theorem zx_cast (C : zC G K y cc nL ret hs) (pc' : Nat) {j x : Int32} (jn : Nat) (x' : Int32) (hd : decode cc pc = .ok (.castore, 1)) (hp : pc + 1 = pc') (hn : 85 ≤ n) (hj : j = nI jn) (hl : jn < 150) (hx : vp_nar .char x = x')
    (k : Z G K n (xOv xs xr (va_up xa 1 (upd (xa 1) jn x')) xl xf σ) k1 k2 pc' lv st) : Z G K n (xOv xs xr xa xl xf σ) k1 k2 pc lv (.int x :: .int j :: .ref 1 :: st) := by
  refine z_cast C pc' jn hd hp (by omega) rfl hj hl (by decide) x' hx ?_
  have e : va_up (xOv xs xr xa xl xf σ) 1 (.inl (2, xLen 1, .inl (upd (xa 1) jn x'))) = _ := xOv_A xs xr xa xl xf σ (Or.inl rfl) (upd (xa 1) jn x')
  rw [e]
  exact k
theorem zx_zast (C : zC G K y cc nL ret hs) (pc' : Nat) {j x : Int32} (jn : Nat) (x' : Int32) (hd : decode cc pc = .ok (.bastore, 1)) (hp : pc + 1 = pc') (hn : 85 ≤ n) (hj : j = nI jn) (hl : jn < 8) (hx : vp_nar .boolean x = x')
    (k : Z G K n (xOv xs xr (va_up xa 18 (upd (xa 18) jn x')) xl xf σ) k1 k2 pc' lv st) : Z G K n (xOv xs xr xa xl xf σ) k1 k2 pc lv (.int x :: .int j :: .ref 18 :: st) := by
  refine z_zast C pc' jn hd hp (by omega) rfl hj hl (by decide) x' hx ?_
  have e : va_up (xOv xs xr xa xl xf σ) 18 (.inl (3, xLen 18, .inl (upd (xa 18) jn x'))) = _ := xOv_A xs xr xa xl xf σ (Or.inr (Or.inr (Or.inr rfl))) (upd (xa 18) jn x')
  rw [e]
  exact k
theorem zx_fnull (C : zC G K y cc nL ret hs) (pc' : Nat) {j : Int32} (jn : Nat) (hd : decode cc pc = .ok (.aastore, 1)) (hp : pc + 1 = pc') (hn : 85 ≤ n) (hj : j = nI jn) (hl : jn < 8)
    (k : Z G K n (xOv xs xr xa xl (va_up xf jn none) σ) k1 k2 pc' lv st) : Z G K n (xOv xs xr xa xl xf σ) k1 k2 pc lv (.null :: .int j :: .ref 3 :: st) := by
  refine z_aastN C pc' (t := 4) jn hd hp (by omega) rfl rfl hj hl (by decide) ?_
  rw [xOv_f]
  exact k
theorem z_aretN (C : zC G K y cc nL ret hs) {D : String} {σ : zS} (hr : ret = some (.object D)) (hd : decode cc pc = .ok (.areturn, 1)) (hq : kpo K (.returned (some .null)) n σ) (hc : k1 ≤ kmc K) (hl : k2 ≤ kms K) : Z G K n σ k1 k2 pc lv [.null] := fun H locs ls h1 h2 h3 =>
  W.widen hc hl (xt_ret (W.aret C.1 C.2.1 (C.2.2.2.1.trans hr) (Or.inl ⟨_, rfl⟩) (Or.inl rfl) (fun t ht hW => ⟨.returned (some .null), n, σ, rfl, hq, by rw [ht]; exact h1⟩) h2 hd C.lk))
end XR
