/-! the class's evaluation as a function of its cells: none where an index is none -/
abbrev xT : Type := mS × mA × mL
abbrev xR : Type := Option (xT × (Nat ⊕ Int64))
def xB (x : xR) (f : xT → Int64 → xR) : xR := match x with
  | none => none
  | some (s, .inl q) => some (s, .inl q)
  | some (s, .inr v) => f s v
def xP (s : xT) (v : Int64) : xR := some (s, .inr v)
theorem xB_P (x : xR) : xB x xP = x := by
  match x with
  | none => rfl
  | some (s, .inl q) => rfl
  | some (s, .inr v) => rfl
def xIx (x : Int64) : Nat := x.toInt32.toNatClampNeg
def xSet (fr v : Nat) (x : Int64) (s : xT) : xT := (s.1, s.2.1, va_up s.2.2 (20 + fr) (vp_updL (s.2.2 (20 + fr)) v x))
def xMk (h w : Int64) (s : xT) : xR := match xmk s.2.1 h w with
  | .inl q => some (s, .inl q)
  | .inr a => some ((xmS s.1, xmA s.2.1 a h w, va_up s.2.2 (10 + a) (fl (s.2.2 (10 + a)) 40 0)), .inr (nI a).toInt64)
/-- the array of a variable: none if it's none -/
def xArr (x : Int64) (f : Nat → xR) : xR := if x.toInt32 = nI (xIx x) ∧ xIx x < 8 then f (xIx x) else none
def xK (s : xT) (a : Nat) (i j : Int64) : Nat := (i * (s.2.1 8 a).toInt64 + j).toInt32.toNatClampNeg
def xKok (s : xT) (a : Nat) (i j : Int64) : Bool := decide ((i * (s.2.1 8 a).toInt64 + j).toInt32 = nI (xK s a i j)) && decide (xK s a i j < 40)
abbrev xHD (s : xT) (a : Nat) (i j : Int64) : Bool := decide (0 ≤ i) && decide (i < (s.2.1 7 a).toInt64) && decide (0 ≤ j) && decide (j < (s.2.1 8 a).toInt64)
theorem xHD_iff {s : xT} {a : Nat} {i j : Int64} : xHD s a i j = true ↔ xhas s.2.1 a i j := by
  unfold xHD xhas
  simp only [Bool.and_eq_true, decide_eq_true_iff, and_assoc]
def xRd (a : Nat) (i j : Int64) (s : xT) : xR := if xHD s a i j = true then (if xKok s a i j = true then some (s, .inr (s.2.2 (10 + a) (xK s a i j))) else none) else some (s, .inl 11)
def xPu (a : Nat) (i j x : Int64) (s : xT) : xR := if xHD s a i j = true then (if xKok s a i j = true then some ((upd s.1 6 (s.1 6 + 1), s.2.1, va_up s.2.2 (10 + a) (vp_updL (s.2.2 (10 + a)) (xK s a i j) x)), .inr (nI a).toInt64) else none) else some (s, .inl 11)
def xCp (a : Nat) (s : xT) : xR := if s.2.1 18 a = 0 then none else match xmk s.2.1 (s.2.1 7 a).toInt64 (s.2.1 8 a).toInt64 with
  | .inl q => some (s, .inl q)
  | .inr b => some ((xmS s.1, xmA s.2.1 b (s.2.1 7 a).toInt64 (s.2.1 8 a).toInt64, va_up s.2.2 (10 + b) (fun k => if k < 40 then s.2.2 (10 + a) k else fl (s.2.2 (10 + b)) 40 0 k)), .inr (nI b).toInt64)
def xGv (a : Nat) (s : xT) : xT := (upd s.1 10 (s.1 10 - 1), va_up s.2.1 18 (upd (s.2.1 18) a 0), s.2.2)
/-- a function: its cell, its parameters' count, its nodes' count, its variables, its nodes -/
abbrev uF : Type := Nat × Nat × Nat × mS × (Nat → eN)
def cvA (L : Nat → xT → xR) (e : eN) (V : mS) (fr : Nat) : Nat → Nat → xT → xR
  | 0, _, s => some (s, .inr 0)
  | m + 1, j, s => xB (L (ePt e j) s) fun s x => cvA L e V fr m (j + 1) (xSet fr (cIx (V j)) x s)
def cvL (P : Nat → Option uF) (W : Nat → Nat → xT → xR) (L : Nat → xT → xR) (e : eN) (s : xT) : xR := match P (cIx (eNm e)) with
  | none => none
  | some u => if s.1 7 = nI (cIx (s.1 7)) ∧ cIx (s.1 7) < 65 then xB (cvA L e u.2.2.2.1 (cIx (s.1 7)) e.2.2.2.1 0 (upd s.1 7 (s.1 7 + 1), s.2)) fun s1 _ => xB (W (cIx (eNm e)) (cIx (s.1 7)) s1) fun s2 v => some ((upd s2.1 7 (s2.1 7 - 1), s2.2), .inr v) else none
def cvO (op : Int32) (x y : Int64) (s : xT) : xR := match aOp op x y with
  | .inl q => some (s, .inl (8 + q))
  | .inr z => some (s, .inr z)
def cvS (P : Nat → Option uF) (W : Nat → Nat → xT → xR) (L : Nat → xT → xR) (fr : Nat) (e : eN) (s : xT) : xR :=
  if e.1 = 0 then some (s, .inr e.2.2.2.2.1)
  else if e.1 = 1 then some (s, .inr (s.2.2 (20 + fr) (cIx (eVr e))))
  else if e.1 = 2 then xB (L (ePt e 0) s) fun s x => xB (L (ePt e 1) s) fun s y => cvO e.2.2.2.2.2.1 x y s
  else if e.1 = 3 then xB (L (ePt e 0) s) fun s x => if x = 0 then L (ePt e 2) s else L (ePt e 1) s
  else if e.1 = 4 then xB (L (ePt e 0) s) fun s x => L (ePt e 1) (xSet fr (cIx (eVr e)) x s)
  else if e.1 = 5 then xB (L (ePt e 0) s) fun s h => xMk h 1 s
  else if e.1 = 6 then xB (L (ePt e 0) s) fun s h => xB (L (ePt e 1) s) fun s w => xMk h w s
  else if e.1 = 7 then xB (L (ePt e 0) s) fun s i => xB (if e.2.2.2.1 = 2 then L (ePt e 1) s else some (s, .inr 0)) fun s j => xArr (s.2.2 (20 + fr) (cIx (eVr e))) fun a => xRd a i j s
  else if e.1 = 8 then xB (L (ePt e 0) s) fun s i => xB (if e.2.2.2.1 = 3 then L (ePt e 1) s else some (s, .inr 0)) fun s j => xB (L (ePt e (e.2.2.2.1 - 1)) s) fun s x => xArr (s.2.2 (20 + fr) (cIx (eVr e))) fun a => xPu a i j x s
  else if e.1 = 9 then xArr (s.2.2 (20 + fr) (cIx (eVr e))) fun a => some (s, .inr (s.2.1 7 a).toInt64)
  else if e.1 = 10 then xArr (s.2.2 (20 + fr) (cIx (eVr e))) fun a => some (s, .inr (s.2.1 8 a).toInt64)
  else if e.1 = 11 then xArr (s.2.2 (20 + fr) (cIx (eVr e))) fun a => xCp a s
  else if e.1 = 12 then xArr (s.2.2 (20 + fr) (cIx (eVr e))) fun a => L (ePt e 0) (xGv a s)
  else cvL P W L e s
def cvD (P : Nat → Option uF) (W : Nat → Nat → xT → xR) (E : Nat → eN) (fr : Nat) : Nat → Nat → xT → xR
  | 0, _, _ => none
  | d + 1, i, s => if 400 ≤ s.1 5 then some (s, .inl 13) else cvS P W (cvD P W E fr d) fr (E i) (upd s.1 5 (s.1 5 + 1), s.2)
def cvC (P : Nat → Option uF) : Nat → Nat → Nat → xT → xR
  | 0, _, _, s => some (s, .inl 13)
  | c + 1, g, fr, s => match P g with
    | none => none
    | some u => cvD P (cvC P c) u.2.2.2.2 fr 8 0 s
/-- the calls' callees are the functions' cells -/
def eCs (P : Nat → Option uF) (E : Nat → eN) : Nat → Nat → Prop
  | 0, _ => False
  | d + 1, i => ((E i).1 = 13 → ∃ u, P (cIx (eNm (E i))) = some u ∧ (E i).2.2.2.2.2.2.2.2.2 = some u.1 ∧ (E i).2.2.2.1 = u.2.1) ∧ ∀ j, j < (E i).2.2.2.1 → eCs P E d (ePt (E i) j)
def uC (B N : Nat) (E : Nat → eN) (σ : zS) : Prop := ∀ i, i < N → σ (B + 2 * i) = eCell B i (E i) ∧ σ (B + 2 * i + 1) = eParts B (E i)
def uOk (n : Nat) (σ : zS) (P : Nat → Option uF) : Prop := 114 ≤ n ∧ n < 900000 ∧ ∀ g u, P g = some u → 114 ≤ u.1 ∧ u.1 + 4 + 2 * u.2.2.1 ≤ n ∧ u.2.1 ≤ 4 ∧ 0 < u.2.2.1 ∧ (∃ f rt, σ u.1 = gF u.1 f u.2.1 rt (some (u.1 + 4))) ∧ σ (u.1 + 1) = .inl (0, 4, .inl u.2.2.2.1) ∧ uC (u.1 + 4) u.2.2.1 u.2.2.2.2 σ ∧ eWf u.2.2.1 u.2.2.2.2 ∧ eCs P u.2.2.2.2 8 0 ∧ ∀ k, k < u.2.1 → ∃ v, v < 20 ∧ u.2.2.2.1 k = nI v
def uP (n : Nat) (σ : zS) (P : Nat → Option uF) (B N : Nat) (E : Nat → eN) : Prop := uOk n σ P ∧ 114 ≤ B ∧ B + 2 * N ≤ n ∧ uC B N E σ ∧ eWf N E
abbrev uSt (σ : zS) (xr : Int64) (xf : xF) (s : xT) : zS := xOv s.1 xr s.2.1 s.2.2 xf σ
def uPost (n : Nat) (σ : zS) (xr : Int64) (xf : xF) (x : xT × (Nat ⊕ Int64)) : zPost := fun o n' σ' => match x with
  | (s, .inl q) => o = .threw n ∧ n' = n + 1 ∧ σ' = xOv s.1 xr s.2.1 s.2.2 xf (va_up σ n (.inr (q, [])))
  | (s, .inr v) => o = .returned (some (.long v)) ∧ n' = n ∧ σ' = uSt σ xr xf s
def uHyp (G : zG) (l : Launch) (c d : Nat) : Prop := ∀ (n : Nat) (σ : zS) (xr : Int64) (xf : xF) (P : Nat → Option uF) (B N : Nat) (E : Nat → eN) (i fr : Nat) (s : xT) (res : xT × (Nat ⊕ Int64)) (mc ms : Nat), uP n σ P B N E → eCs P E d i → i < N → fr < 65 → cvD P (cvC P c) E fr d i s = some res → ((∃ q, res.2 = .inl q) → 1 ≤ mc ∧ 6 ≤ ms) →
  MetZ G l y_U_work b_U_work 5 (some .long) [] (12 + 2 * d + 20 * c) mc ms [.ref 5, .ref (B + 2 * i), .int (nI (8 - c)), .int (nI fr)] n (uSt σ xr xf s) (uPost n σ xr xf res)
section ZUS
variable {G : zG} {K : zK} {y : MethodName} {cc : ByteArray} {nL : Nat} {ret : Option FieldType} {pc n : Nat} {lv : List (Nat × Value)} {st : List Value} {σ : zS} {xr : Int64} {xf : xF}
theorem zu_sub (C : zC G K y cc nL ret []) (pc' : Nat) {yc : MethodName} {ccc : ByteArray} {nLc d len : Nat} {retc : Option FieldType} {av st0 : List Value} {ig : Instr} {x : xR} {f : xT → Int64 → xR} {res : xT × (Nat ⊕ Int64)} {s : xT} (hres : xB x f = some res)
    (hM : ∀ x0, x = some x0 → ∀ mc ms, ((∃ q, x0.2 = .inl q) → 1 ≤ mc ∧ 6 ≤ ms) → MetZ G (kl K) yc ccc nLc retc [] d mc ms av n (uSt σ xr xf s) (uPost n σ xr xf x0))
    (hwd : zWd yc ccc nLc retc [] ∈ zTb) (hini : Cond.initialized yc.cls ∈ zTb) (hd : decode cc pc = .ok (ig, len)) (hp : pc + len = pc')
    (hgo : ∀ (H : Heap) (ls : Array Slot), zHW G n (uSt σ xr xf s) H → ls.size = (kc K).maxLocals → zGo K (F0 (km K) pc ls (st0.map (zV G))) (F0 (km K) pc ls (st.map (zV G))) yc (av.map (zV G)).toArray H)
    (hwt : (st.map fun v => v.category).sum ≤ 8) (hfr : d + 1 ≤ (kR K).frames) (hlo : 8 + (nLc + 11) + 60 * d ≤ (kR K).locals)
    (hmc : (kR K).cells ≤ kmc K) (hms : (kR K).slots ≤ kms K) (hpo : kpo K = uPost n σ xr xf res) (hm : (∃ q, res.2 = .inl q) → 1 ≤ (kR K).cells ∧ 6 ≤ (kR K).slots)
    (kO : ∀ s' v, f s' v = some res → Z G K n (uSt σ xr xf s') 0 0 pc' lv (.long v :: st)) : Z G K n (uSt σ xr xf s) 0 0 pc lv st0 := by
  match x, hres, hM with
  | none, hres, _ => cases hres
  | some (s1, .inl q), hres, hM =>
    have e : (s1, Sum.inl q) = res := Option.some.inj hres
    subst e
    have hb := hm ⟨q, rfl⟩
    refine z_call C pc' (hM _ rfl 1 6 (fun _ => ⟨Nat.le_refl _, Nat.le_refl _⟩)) hwd hini hd hp hgo hwt hfr hlo (by omega) (by omega) (fun v n' σ' hv => ?_) (fun x n' σ' hv => ?_)
    · cases hv.1
    · exact zx_out C (fun h hh => nomatch hh) (by rw [hpo]; exact hv) (by omega) (by omega)
  | some (s1, .inr v), hres, hM =>
    refine z_call C pc' (hM _ rfl 0 0 (fun w => by obtain ⟨q, w⟩ := w; cases w)) hwd hini hd hp hgo hwt hfr hlo (by omega) (by omega) (fun v' n' σ' hv => ?_) (fun x n' σ' hv => ?_)
    · obtain ⟨e0, e1, rfl⟩ := hv
      cases e0
      obtain rfl : n = n' := e1.symm
      exact kO s1 v hres
    · cases hv.1
end ZUS
section UOP2
variable {G : zG} {l : Launch} {n : Nat} {σ : zS} {xr : Int64} {xf : xF} {s : xT}
theorem c_U_operate (hn : 85 ≤ n) (hn2 : n < 1000000) (op : Int32) (x y : Int64) {res : xT × (Nat ⊕ Int64)} {mc ms : Nat} (hres : cvO op x y s = some res) (hm : (∃ q, res.2 = .inl q) → 1 ≤ mc ∧ 6 ≤ ms) : MetZ G l y_U_operate b_U_operate 5 (some .long) [] 7 mc ms [.int op, .long x, .long y] n (uSt σ xr xf s) (uPost n σ xr xf res) := by
  unfold cvO aOp at hres
  refine MetZ.of (by decide) (Nat.le_of_ble_eq_true rfl) (fun K hK hR hpo hmc hms C => ?_)
  refine z_iload_n C 1 d_U_operate_0 rfl rfl ?_
  by_cases q43 : op = 43
  · subst q43
    cases hres
    refine z_lookup C 52 d_U_operate_1 (by decide) (off := 51) (by decide) (by decide) ?_
    refine z_lload_n C 53 d_U_operate_52 rfl rfl ?_
    refine z_lload_n C 54 d_U_operate_53 rfl rfl ?_
    refine z_ladd C 55 d_U_operate_54 rfl ?_
    exact z_lret C rfl d_U_operate_55 (by rw [hpo]; exact ⟨rfl, rfl, rfl⟩) (by rw [hmc]; omega) (by rw [hms]; omega)
  rw [if_neg q43] at hres
  by_cases q45 : op = 45
  · subst q45
    cases hres
    refine z_lookup C 56 d_U_operate_1 (by decide) (off := 55) (by decide) (by decide) ?_
    refine z_lload_n C 57 d_U_operate_56 rfl rfl ?_
    refine z_lload_n C 58 d_U_operate_57 rfl rfl ?_
    refine z_lsub C 59 d_U_operate_58 rfl ?_
    exact z_lret C rfl d_U_operate_59 (by rw [hpo]; exact ⟨rfl, rfl, rfl⟩) (by rw [hmc]; omega) (by rw [hms]; omega)
  rw [if_neg q45] at hres
  by_cases q42 : op = 42
  · subst q42
    cases hres
    refine z_lookup C 60 d_U_operate_1 (by decide) (off := 59) (by decide) (by decide) ?_
    refine z_lload_n C 61 d_U_operate_60 rfl rfl ?_
    refine z_lload_n C 62 d_U_operate_61 rfl rfl ?_
    refine z_lmul C 63 d_U_operate_62 rfl ?_
    exact z_lret C rfl d_U_operate_63 (by rw [hpo]; exact ⟨rfl, rfl, rfl⟩) (by rw [hmc]; omega) (by rw [hms]; omega)
  rw [if_neg q42] at hres
  by_cases q47 : op = 47
  · subst q47
    rw [if_pos rfl] at hres
    refine z_lookup C 64 d_U_operate_1 (by decide) (off := 63) (by decide) (by decide) ?_
    refine z_lload_n C 65 d_U_operate_64 rfl rfl ?_
    refine z_lload_n C 66 d_U_operate_65 rfl rfl ?_
    by_cases q : y = 0
    · rw [if_pos q] at hres
      cases hres
      have hb := hm ⟨_, rfl⟩
      refine z_call C 69 (c_U_divide hn hn2 x y (mc := 1) (ms := 6) (fun _ => ⟨by omega, by omega⟩)) w_U_divide ini_U d_U_operate_66 rfl (z_goS (As := [.long x, .long y]) C l_U_127 w_U_divide nm_of d_U_operate_66 rfl) (Nat.le_of_ble_eq_true rfl) (by rw [hR]; simp only [zRm]; omega) (by rw [hR]; simp only [zRm]; omega) (by rw [hR]; simp only [zRm]; omega) (by rw [hR]; simp only [zRm]; omega) (fun v n' σ' hv => ?_) (fun x n' σ' hv => ?_)
      · rcases hv with ⟨w, -⟩ | ⟨-, hv, -⟩
        · exact absurd q w
        · cases hv
      · obtain ⟨-, e0, rfl, rfl⟩ := hv.resolve_left (fun w => w.1 q)
        cases e0
        exact zx_out C (fun h hh => nomatch hh) (by rw [hpo]; exact ⟨rfl, rfl, rfl⟩) (by rw [hmc]; omega) (by rw [hms]; omega)
    · rw [if_neg q] at hres
      cases hres
      refine z_call C 69 (c_U_divide hn hn2 x y (mc := 0) (ms := 0) (fun w => absurd w q)) w_U_divide ini_U d_U_operate_66 rfl (z_goS (As := [.long x, .long y]) C l_U_127 w_U_divide nm_of d_U_operate_66 rfl) (Nat.le_of_ble_eq_true rfl) (by rw [hR]; simp only [zRm]; omega) (by rw [hR]; simp only [zRm]; omega) (by rw [hR]; simp only [zRm]; omega) (by rw [hR]; simp only [zRm]; omega) (fun v n' σ' hv => ?_) (fun x n' σ' hv => ?_)
      rotate_left
      · rcases hv with ⟨-, hv, -⟩ | ⟨w, -⟩
        · cases hv
        · exact absurd w q
      obtain ⟨-, e0, e1, rfl⟩ := hv.resolve_right (fun w => q w.1)
      cases e0
      obtain rfl : n = n' := e1.symm
      exact z_lret C rfl d_U_operate_69 (by rw [hpo]; exact ⟨rfl, rfl, rfl⟩) (by rw [hmc]; omega) (by rw [hms]; omega)
  rw [if_neg q47] at hres
  by_cases q60 : op = 60
  · subst q60
    rw [if_pos rfl] at hres
    cases hres
    refine z_lookup C 70 d_U_operate_1 (by decide) (off := 69) (by decide) (by decide) ?_
    refine z_lload_n C 71 d_U_operate_70 rfl rfl ?_
    refine z_lload_n C 72 d_U_operate_71 rfl rfl ?_
    refine z_lcmp C 73 d_U_operate_72 rfl ?_
    by_cases q : x < y
    · refine z_if_ge C 76 80 d_U_operate_73 rfl (by decide) (fun h9 => absurd h9 (fun w => absurd q (Int64.not_lt.mpr ((lg_cmp_ge _ _).mp w)))) (fun _ => ?_)
      refine z_lconst C 77 d_U_operate_76 rfl 1 (by decide) ?_
      refine z_goto C 81 d_U_operate_77 (by decide) ?_
      exact z_lret C rfl d_U_operate_81 (by rw [hpo]; exact ⟨by rw [if_pos q], rfl, rfl⟩) (by rw [hmc]; omega) (by rw [hms]; omega)
    · refine z_if_ge C 76 80 d_U_operate_73 rfl (by decide) (fun _ => ?_) (fun h9 => absurd ((lg_cmp_ge _ _).mpr (Int64.not_lt.mp q)) h9)
      refine z_lconst C 81 d_U_operate_80 rfl 0 (by decide) ?_
      exact z_lret C rfl d_U_operate_81 (by rw [hpo]; exact ⟨by rw [if_neg q], rfl, rfl⟩) (by rw [hmc]; omega) (by rw [hms]; omega)
  rw [if_neg q60] at hres
  cases hres
  have hne : ∀ a : Int32, op ≠ a → ((a.toInt == op.toInt) = false) := fun a ha => by
    refine beq_false_of_ne (fun e => ha ?_)
    exact (Int32.toInt_inj.mp e).symm
  refine z_lookup C 82 d_U_operate_1 (by decide) (off := 81) (lk_off _ _ _ ?_) (by decide) ?_
  · show (!((42 : Int32).toInt == op.toInt) && (!((43 : Int32).toInt == op.toInt) && (!((45 : Int32).toInt == op.toInt) && (!((47 : Int32).toInt == op.toInt) && (!((60 : Int32).toInt == op.toInt) && true))))) = true
    rw [hne 42 q42, hne 43 q43, hne 45 q45, hne 47 q47, hne 60 q60]
    rfl
  refine z_lload_n C 83 d_U_operate_82 rfl rfl ?_
  refine z_lload_n C 84 d_U_operate_83 rfl rfl ?_
  refine z_lcmp C 85 d_U_operate_84 rfl ?_
  by_cases q : x = y
  · refine z_if_ne C 88 92 d_U_operate_85 rfl (by decide) (fun h9 => absurd ((lg_cmp_eq _ _).mpr q) h9) (fun _ => ?_)
    refine z_lconst C 89 d_U_operate_88 rfl 1 (by decide) ?_
    refine z_goto C 93 d_U_operate_89 (by decide) ?_
    exact z_lret C rfl d_U_operate_93 (by rw [hpo]; exact ⟨by rw [if_pos q], rfl, rfl⟩) (by rw [hmc]; omega) (by rw [hms]; omega)
  · refine z_if_ne C 88 92 d_U_operate_85 rfl (by decide) (fun _ => ?_) (fun h9 => absurd h9 (fun w => q ((lg_cmp_eq _ _).mp w)))
    refine z_lconst C 93 d_U_operate_92 rfl 0 (by decide) ?_
    exact z_lret C rfl d_U_operate_93 (by rw [hpo]; exact ⟨by rw [if_neg q], rfl, rfl⟩) (by rw [hmc]; omega) (by rw [hms]; omega)
end UOP2
