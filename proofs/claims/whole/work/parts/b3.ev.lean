/-! the owned bits -/
section BIT
theorem own_sh : ∀ u, u < 20 → ((nI u &&& 31).toBitVec.smod 32).toNat = u := by decide
theorem own_bit (o : Int32) {u : Nat} (hu : u < 20) : cOwn o (nI u) ↔ o.toBitVec.getLsbD u = true := by
  have e : (o >>> (nI u &&& 31)).toBitVec = o.toBitVec.sshiftRight u := by
    rw [Int32.toBitVec_shiftRight]
    show o.toBitVec.sshiftRight ((nI u &&& 31).toBitVec.smod 32).toNat = _
    rw [own_sh u hu]
  have e2 : ((o >>> (nI u &&& 31)) &&& 1).toBitVec = o.toBitVec.sshiftRight u &&& 1#32 := by
    rw [Int32.toBitVec_and, e]
    rfl
  have e3 : (o.toBitVec.sshiftRight u &&& 1#32).getLsbD 0 = o.toBitVec.getLsbD u := by
    rw [BitVec.getLsbD_and, BitVec.getLsbD_sshiftRight]
    simp [show u < 32 by omega]
  show (o >>> (nI u &&& 31)) &&& 1 ≠ 0 ↔ _
  rcases i32_and1 (o >>> (nI u &&& 31)) with h | h
  · rw [h] at e2 ⊢
    rw [← e2] at e3
    rw [← e3]
    simp
  · rw [h] at e2 ⊢
    rw [← e2] at e3
    rw [← e3]
    simp
theorem bit_bit : ∀ v, v < 20 → ∀ u, u < 20 → (cBit (nI v)).toBitVec.getLsbD u = decide (u = v) := by decide
theorem own_or (o : Int32) {u v : Nat} (hu : u < 20) (hv : v < 20) : cOwn (o ||| cBit (nI v)) (nI u) ↔ (u = v ∨ cOwn o (nI u)) := by
  rw [own_bit _ hu, own_bit _ hu, Int32.toBitVec_or, BitVec.getLsbD_or, bit_bit v hv u hu]
  by_cases q : u = v <;> simp [q]
theorem bit_not : ∀ v, v < 20 → ∀ u, u < 20 → (cBit (nI v) ^^^ (-1)).toBitVec.getLsbD u = !decide (u = v) := by decide
theorem own_off (o : Int32) {u v : Nat} (hu : u < 20) (hv : v < 20) : cOwn (o &&& (cBit (nI v) ^^^ (-1))) (nI u) ↔ (u ≠ v ∧ cOwn o (nI u)) := by
  rw [own_bit _ hu, own_bit _ hu, Int32.toBitVec_and, BitVec.getLsbD_and, bit_not v hv u hu]
  by_cases q : u = v <;> simp [q]
theorem own_0 {u : Nat} (hu : u < 20) : ¬ cOwn 0 (nI u) := by
  rw [own_bit _ hu]
  simp
end BIT
/-! the evaluation: numbers, and rows and tables as values; counts: expressions begun, arrays made, there, most, updates -/
abbrev aA : Type := Nat × Nat × (Nat → Int64)
abbrev aV : Type := Int64 ⊕ aA
abbrev aC : Type := Nat × Int32 × Int32 × Int32 × Int32
/-- a fault's code, or a value -/
abbrev aR : Type := aC × (Nat ⊕ aV)
def aN (v : aV) : Int64 := match v with
  | .inl x => x
  | .inr _ => 0
def aX (v : aV) : aA := match v with
  | .inl _ => (0, 0, fun _ => 0)
  | .inr a => a
def aB (x : aR) (f : aC → aV → aR) : aR := match x with
  | (k, .inl q) => (k, .inl q)
  | (k, .inr v) => f k v
def aMk (r c : Int64) (ct : Nat → Int64) (k : aC) : aR :=
  if r < 0 ∨ c < 0 then (k, .inl 2) else if 40 < r ∨ 40 < c ∨ 40 < r * c ∨ k.2.2.1 = 8 then (k, .inl 5)
  else ((k.1, k.2.1 + 1, k.2.2.1 + 1, xmax k.2.2.2.1 (k.2.2.1 + 1), k.2.2.2.2), .inr (.inr (r.toNatClampNeg, c.toNatClampNeg, ct)))
def aOp (op : Int32) (x y : Int64) : Nat ⊕ Int64 :=
  if op = 43 then .inr (x + y) else if op = 45 then .inr (x - y) else if op = 42 then .inr (x * y)
  else if op = 47 then (if y = 0 then .inl 4 else .inr (x / y)) else if op = 60 then .inr (if x < y then 1 else 0) else .inr (if x = y then 1 else 0)
def aIn (a : aA) (i j : Int64) : Prop := 0 ≤ i ∧ i < (nI a.1).toInt64 ∧ 0 ≤ j ∧ j < (nI a.2.1).toInt64
abbrev aInD (a : aA) (i j : Int64) : Bool := decide (0 ≤ i) && decide (i < (nI a.1).toInt64) && decide (0 ≤ j) && decide (j < (nI a.2.1).toInt64)
def aIdx (a : aA) (i j : Int64) : Nat := i.toNatClampNeg * a.2.1 + j.toNatClampNeg
/-- a call's parts, from j on, m of them: each to its parameter -/
def aArgs (L : Nat → (Nat → aV) → aC → aR) (e : eN) (V : mS) (env : Nat → aV) : Nat → Nat → (Nat → aV) → aC → aC × (Nat ⊕ (Nat → aV))
  | 0, _, acc, k => (k, .inr acc)
  | m + 1, j, acc, k => match L (ePt e j) env k with
    | (k', .inl q) => (k', .inl q)
    | (k', .inr v) => aArgs L e V env m (j + 1) (va_up acc (cIx (V j)) v) k'
def evS (PV : Nat → mS) (W : Nat → (Nat → aV) → aC → aR) (L : Nat → (Nat → aV) → aC → aR) (e : eN) (env : Nat → aV) (k : aC) : aR :=
  if e.1 = 0 then (k, .inr (.inl e.2.2.2.2.1))
  else if e.1 = 1 then (k, .inr (env (cIx (eVr e))))
  else if e.1 = 2 then aB (L (ePt e 0) env k) fun k x => aB (L (ePt e 1) env k) fun k y => (match aOp e.2.2.2.2.2.1 (aN x) (aN y) with
    | .inl q => (k, .inl q)
    | .inr z => (k, .inr (.inl z)))
  else if e.1 = 3 then aB (L (ePt e 0) env k) fun k x => if aN x = 0 then L (ePt e 2) env k else L (ePt e 1) env k
  else if e.1 = 4 then aB (L (ePt e 0) env k) fun k x => L (ePt e 1) (va_up env (cIx (eVr e)) x) k
  else if e.1 = 5 then aB (L (ePt e 0) env k) fun k r => aMk (aN r) 1 (fun _ => 0) k
  else if e.1 = 6 then aB (L (ePt e 0) env k) fun k r => aB (L (ePt e 1) env k) fun k c => aMk (aN r) (aN c) (fun _ => 0) k
  else if e.1 = 7 then aB (L (ePt e 0) env k) fun k i => aB (if e.2.2.2.1 = 2 then L (ePt e 1) env k else (k, .inr (.inl 0))) fun k j => if aInD (aX (env (cIx (eVr e)))) (aN i) (aN j) then (k, .inr (.inl ((aX (env (cIx (eVr e)))).2.2 (aIdx (aX (env (cIx (eVr e)))) (aN i) (aN j))))) else (k, .inl 3)
  else if e.1 = 8 then aB (L (ePt e 0) env k) fun k i => aB (if e.2.2.2.1 = 3 then L (ePt e 1) env k else (k, .inr (.inl 0))) fun k j => aB (L (ePt e (e.2.2.2.1 - 1)) env k) fun k x =>
    if aInD (aX (env (cIx (eVr e)))) (aN i) (aN j) then ((k.1, k.2.1, k.2.2.1, k.2.2.2.1, k.2.2.2.2 + 1), .inr (.inr ((aX (env (cIx (eVr e)))).1, (aX (env (cIx (eVr e)))).2.1, vp_updL (aX (env (cIx (eVr e)))).2.2 (aIdx (aX (env (cIx (eVr e)))) (aN i) (aN j)) (aN x)))) else (k, .inl 3)
  else if e.1 = 9 then (k, .inr (.inl (nI (aX (env (cIx (eVr e)))).1).toInt64))
  else if e.1 = 10 then (k, .inr (.inl (nI (aX (env (cIx (eVr e)))).2.1).toInt64))
  else if e.1 = 11 then aMk (nI (aX (env (cIx (eVr e)))).1).toInt64 (nI (aX (env (cIx (eVr e)))).2.1).toInt64 (aX (env (cIx (eVr e)))).2.2 k
  else if e.1 = 12 then L (ePt e 0) env (k.1, k.2.1, k.2.2.1 - 1, k.2.2.2.1, k.2.2.2.2)
  else match aArgs L e (PV (cIx (eNm e))) env e.2.2.2.1 0 (fun _ => .inl 0) k with
    | (k', .inl q) => (k', .inl q)
    | (k', .inr acc) => W (cIx (eNm e)) acc k'
def evD (PV : Nat → mS) (W : Nat → (Nat → aV) → aC → aR) (E : Nat → eN) : Nat → Nat → (Nat → aV) → aC → aR
  | 0, _, _, k => (k, .inl 5)
  | d + 1, i, env, k => if k.1 = 400 then (k, .inl 5) else evS PV W (evD PV W E d) (E i) env (k.1 + 1, k.2)
def evC (PV : Nat → mS) (PE : Nat → Nat → eN) : Nat → Nat → (Nat → aV) → aC → aR
  | 0, _, _, k => (k, .inl 5)
  | c + 1, g, env, k => evD PV (evC PV PE c) (PE g) 8 0 env k
section UOP
variable {G : zG} {l : Launch} {n : Nat} {σ : zS} {xs : mS} {xr : Int64} {xa : mA} {xl : mL} {xf : xF}
theorem c_U_divide (hn : 85 ≤ n) (hn2 : n < 1000000) (x y : Int64) {mc ms : Nat} (hm : y = 0 → 1 ≤ mc ∧ 6 ≤ ms) : MetZ G l y_U_divide b_U_divide 4 (some .long) [] 6 mc ms [.long x, .long y] n (xOv xs xr xa xl xf σ) (fun o n' σ' => (y ≠ 0 ∧ o = .returned (some (.long (x / y))) ∧ n' = n ∧ σ' = xOv xs xr xa xl xf σ) ∨ (y = 0 ∧ o = .threw n ∧ n' = n + 1 ∧ σ' = xOv xs xr xa xl xf (va_up σ n (.inr (12, []))))) := by
  refine MetZ.of (by decide) (Nat.le_of_ble_eq_true rfl) (fun K hK hR hpo hmc hms C => ?_)
  refine z_lload_n C 1 d_U_divide_0 rfl rfl ?_
  refine z_lconst C 2 d_U_divide_1 rfl 0 (by decide) ?_
  refine z_lcmp C 3 d_U_divide_2 rfl ?_
  by_cases q : y = 0
  · have hb := hm q
    refine z_if_ne C 6 16 d_U_divide_3 rfl (by decide) (fun h9 => absurd ((lg_cmp_eq _ _).mpr q) h9) (fun _ => ?_)
    exact z_throwS C (ci := 12) (names := zNm) (text := "divided by 0") rfl (by decide) zNm_fit cl_U_131 ini_e4 (by decide) at_U_135 d_U_divide_6 d_U_divide_9 d_U_divide_10 d_U_divide_12 d_U_divide_15 (fun h hh => nomatch hh) (by rw [hR]; show 2 + 3 < _; simp only [zRm]; omega) (by rw [hR]; show _ + (13 * (2 + 1) + 43) ≤ _; simp only [zRm]; exact Nat.le_of_ble_eq_true rfl) (by omega) (by rw [hR]; simp only [zRm]; omega) (by rw [hR]; simp only [zRm]; omega) (by rw [hmc]; omega) (by rw [hms]; omega) (by rw [hpo]; exact Or.inr ⟨q, rfl, rfl, xOv_up hn _⟩)
  · refine z_if_ne C 6 16 d_U_divide_3 rfl (by decide) (fun _ => ?_) (fun h9 => absurd h9 (fun w => q ((lg_cmp_eq _ _).mp w)))
    refine z_lload_n C 17 d_U_divide_16 rfl rfl ?_
    refine z_lload_n C 18 d_U_divide_17 rfl rfl ?_
    refine z_ldiv C 19 d_U_divide_18 rfl q ?_
    exact z_lret C rfl d_U_divide_19 (by rw [hpo]; exact Or.inl ⟨q, rfl, rfl, rfl⟩) (by rw [hmc]; omega) (by rw [hms]; omega)
end UOP
