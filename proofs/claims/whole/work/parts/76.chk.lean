/-! the Checker's cells: itself at c, its types at c + 1, both behind the expressions -/
def kC (c F : Nat) (o : Int32) : va_E := .inr (5, [.ref F, .ref 3, .ref 2, .ref (c + 1), .int o])
def kSt (B N c F : Nat) (σ : zS) (xs : mS) (xr : Int64) (xa : mA) (xl : mL) (xf : xF) (s : cS) : zS := xOv xs xr xa xl xf (va_up (va_up (eOv B N s.2.2 σ) c (kC c F s.2.1)) (c + 1) (.inl (0, 20, .inl s.1)))
def kIll (B c : Nat) (σ : zS) (xs : mS) (xr : Int64) (xa : mA) (xl : mL) (xf : xF) (q : Int32) : zPost := fun o n' σ' => o = .threw (c + 2) ∧ n' = c + 3 ∧ ∃ τ, σ' = xOv (upd xs 4 q) xr xa xl xf τ ∧ τ (c + 2) = .inr (10, []) ∧ ∀ k, k < B → τ k = σ k
def kPost (B N c F : Nat) (σ : zS) (xs : mS) (xr : Int64) (xa : mA) (xl : mL) (xf : xF) (v : Int32 → Option Value) (x : cR) : zPost := fun o n' σ' => match x with
  | .inl q => kIll B c σ xs xr xa xl xf q o n' σ'
  | .inr (t, s) => o = .returned (v t) ∧ n' = c + 2 ∧ σ' = kSt B N c F σ xs xr xa xl xf s
abbrev kvI : Int32 → Option Value := fun t => some (.int t)
abbrev kvN : Int32 → Option Value := fun _ => none
section KST
variable {B N c F i : Nat} {σ : zS} {xs : mS} {xr : Int64} {xa : mA} {xl : mL} {xf : xF} {s : cS}
theorem kSt_c (hc : 85 ≤ c) : kSt B N c F σ xs xr xa xl xf s c = kC c F s.2.1 := (xOv_at hc).trans ((va_up_ne _ _ (by omega)).trans (va_up_self _ _ _))
theorem kSt_t (hc : 85 ≤ c) : kSt B N c F σ xs xr xa xl xf s (c + 1) = .inl (0, 20, .inl s.1) := (xOv_at (by omega)).trans (va_up_self _ _ _)
theorem kSt_e (hB : 85 ≤ B) (hc : c = B + 2 * N) (hi : i < N) : kSt B N c F σ xs xr xa xl xf s (B + 2 * i) = eCell B i (s.2.2 i) := (xOv_at (by omega)).trans ((va_up_ne _ _ (by omega)).trans ((va_up_ne _ _ (by omega)).trans (eOv_obj hi)))
theorem kSt_p (hB : 85 ≤ B) (hc : c = B + 2 * N) (hi : i < N) : kSt B N c F σ xs xr xa xl xf s (B + 2 * i + 1) = eParts B (s.2.2 i) := (xOv_at (by omega)).trans ((va_up_ne _ _ (by omega)).trans ((va_up_ne _ _ (by omega)).trans (eOv_prt hi)))
theorem kSt_lo (hc : c = B + 2 * N) (h1 : 85 ≤ i) (h2 : i < B) : kSt B N c F σ xs xr xa xl xf s i = σ i := (xOv_at h1).trans ((va_up_ne _ _ (by omega)).trans ((va_up_ne _ _ (by omega)).trans (eOv_lo h2)))
theorem kSt_own (hc : 85 ≤ c) (o : Int32) : va_up (kSt B N c F σ xs xr xa xl xf s) c (kC c F o) = kSt B N c F σ xs xr xa xl xf (s.1, o, s.2.2) := by
  unfold kSt
  rw [xOv_up hc, va_comm _ _ _ (by omega), va_up2]
theorem kSt_typ (hc : 85 ≤ c) (f : mS) : va_up (kSt B N c F σ xs xr xa xl xf s) (c + 1) (.inl (0, 20, .inl f)) = kSt B N c F σ xs xr xa xl xf (f, s.2) := by
  unfold kSt
  rw [xOv_up (by omega), va_up2]
theorem kSt_exp {e' : eN} (hB : 85 ≤ B) (hc : c = B + 2 * N) (hi : i < N) (hp : e'.2.2.1 = (s.2.2 i).2.2.1) : va_up (kSt B N c F σ xs xr xa xl xf s) (B + 2 * i) (eCell B i e') = kSt B N c F σ xs xr xa xl xf (s.1, s.2.1, va_up s.2.2 i e') := by
  unfold kSt
  rw [xOv_up (by omega), va_comm _ _ _ (by omega), va_comm (eOv B N s.2.2 σ) _ _ (by omega), eOv_upO hi hp]
theorem kIll_mk {q : Int32} (hc : c = B + 2 * N) : kIll B c σ xs xr xa xl xf q (.threw (c + 2)) (c + 2 + 1) (xOv (upd xs 4 q) xr xa xl xf (va_up (va_up (va_up (eOv B N s.2.2 σ) c (kC c F s.2.1)) (c + 1) (.inl (0, 20, .inl s.1))) (c + 2) (.inr (10, [])))) := by
  refine ⟨rfl, rfl, _, rfl, va_up_self _ _ _, fun k hk => ?_⟩
  rw [va_up_ne _ _ (by omega), va_up_ne _ _ (by omega), va_up_ne _ _ (by omega), eOv_lo hk]
end KST
/-! what the expressions' nodes must be -/
def eCnt (k c : Nat) : Prop := (k = 0 → c = 0) ∧ (k = 1 → c = 0) ∧ (k = 2 → c = 2) ∧ (k = 3 → c = 3) ∧ (k = 4 → c = 2) ∧ (k = 5 → c = 1) ∧ (k = 6 → c = 2) ∧ (k = 7 → c = 1 ∨ c = 2) ∧ (k = 8 → c = 2 ∨ c = 3) ∧ (k = 9 → c = 0) ∧ (k = 10 → c = 0) ∧ (k = 11 → c = 0) ∧ (k = 12 → c = 1)
def eWf1 (N : Nat) (e : eN) : Prop := e.1 < 14 ∧ e.2.2.2.1 ≤ 4 ∧ (∃ v, v < 20 ∧ eVr e = nI v) ∧ (∃ f, f < 8 ∧ eNm e = nI f) ∧ (∀ j, j < e.2.2.2.1 → e.2.2.1 j = some (ePt e j) ∧ ePt e j < N) ∧ eCnt e.1 e.2.2.2.1
def eWf (N : Nat) (E : Nat → eN) : Prop := ∀ i, i < N → eWf1 N (E i)
def eDp (E : Nat → eN) : Nat → Nat → Prop
  | 0, _ => False
  | d + 1, i => ∀ j, j < (E i).2.2.2.1 → eDp E d (ePt (E i) j)
theorem eWf.sm {N : Nat} {E E' : Nat → eN} (h : eWf N E) (g : eSm E E') : eWf N E' := fun i hi => by
  obtain ⟨c, e⟩ := g i
  rw [e]
  exact h i hi
theorem eDp.sm {E E' : Nat → eN} (g : eSm E E') : ∀ {d i : Nat}, eDp E d i → eDp E' d i
  | 0, _, h => h
  | d + 1, i, h => fun j hj => by
    obtain ⟨c, e⟩ := g i
    rw [e] at hj ⊢
    exact eDp.sm g (h j hj)
/-- what holds before the Checker's methods: the cells of functions that can be called -/
def kPre (B N c F : Nat) (σ : zS) (xf : xF) (cl : Nat → Option cF) (f : Nat) : Prop := 114 ≤ F ∧ F + 4 ≤ B ∧ c = B + 2 * N ∧ c < 900000 ∧ f < 8 ∧ (∃ cn Y res, cl f = some (F, cn, Y, res)) ∧
  (∀ g, g < 8 → g ≠ f → (xf g = none ∧ cl g = none) ∨ ∃ a cn Y res, xf g = some a ∧ cl g = some (a, cn, Y, res)) ∧
  ∀ g a cn Y res, g < 8 → cl g = some (a, cn, Y, res) → 114 ≤ a ∧ a + 4 ≤ B ∧ σ (a + 3) = .inl (0, 4, .inl Y) ∧ cn ≤ 4 ∧ ∃ bd, σ a = gF a (nI g) cn res bd
theorem d_T_wrong_0 : decode b_T_wrong 0 = .ok (.aload_n 0, 1) := by decide +kernel
theorem d_T_wrong_1 : decode b_T_wrong 1 = .ok (.iload_n 1, 1) := by decide +kernel
theorem d_T_wrong_2 : decode b_T_wrong 2 = .ok (.putfield 9, 3) := by decide +kernel
theorem d_T_wrong_5 : decode b_T_wrong 5 = .ok (.new 22, 3) := by decide +kernel
theorem d_T_wrong_8 : decode b_T_wrong 8 = .ok (.dup, 1) := by decide +kernel
theorem d_T_wrong_9 : decode b_T_wrong 9 = .ok (.ldc 24, 2) := by decide +kernel
theorem d_T_wrong_11 : decode b_T_wrong 11 = .ok (.invokespecial 26, 3) := by decide +kernel
theorem d_T_wrong_14 : decode b_T_wrong 14 = .ok (.athrow, 1) := by decide +kernel
theorem d_C_isOwned_0 : decode b_C_isOwned 0 = .ok (.aload_n 0, 1) := by decide +kernel
theorem d_C_isOwned_1 : decode b_C_isOwned 1 = .ok (.getfield 15, 3) := by decide +kernel
theorem d_C_isOwned_4 : decode b_C_isOwned 4 = .ok (.iload_n 1, 1) := by decide +kernel
theorem d_C_isOwned_5 : decode b_C_isOwned 5 = .ok (.ishr, 1) := by decide +kernel
theorem d_C_isOwned_6 : decode b_C_isOwned 6 = .ok (.iconst 1, 1) := by decide +kernel
theorem d_C_isOwned_7 : decode b_C_isOwned 7 = .ok (.iand, 1) := by decide +kernel
theorem d_C_isOwned_8 : decode b_C_isOwned 8 = .ok (.ifCond .eq 7, 3) := by decide +kernel
theorem d_C_isOwned_11 : decode b_C_isOwned 11 = .ok (.iconst 1, 1) := by decide +kernel
theorem d_C_isOwned_12 : decode b_C_isOwned 12 = .ok (.goto 4, 3) := by decide +kernel
theorem d_C_isOwned_15 : decode b_C_isOwned 15 = .ok (.iconst 0, 1) := by decide +kernel
theorem d_C_isOwned_16 : decode b_C_isOwned 16 = .ok (.ireturn, 1) := by decide +kernel
theorem d_C_refuseIfOwned_0 : decode b_C_refuseIfOwned 0 = .ok (.aload_n 0, 1) := by decide +kernel
theorem d_C_refuseIfOwned_1 : decode b_C_refuseIfOwned 1 = .ok (.iload_n 1, 1) := by decide +kernel
theorem d_C_refuseIfOwned_2 : decode b_C_refuseIfOwned 2 = .ok (.invokevirtual 146, 3) := by decide +kernel
theorem d_C_refuseIfOwned_5 : decode b_C_refuseIfOwned 5 = .ok (.ifCond .eq 11, 3) := by decide +kernel
theorem d_C_refuseIfOwned_8 : decode b_C_refuseIfOwned 8 = .ok (.aload_n 0, 1) := by decide +kernel
theorem d_C_refuseIfOwned_9 : decode b_C_refuseIfOwned 9 = .ok (.getfield 27, 3) := by decide +kernel
theorem d_C_refuseIfOwned_12 : decode b_C_refuseIfOwned 12 = .ok (.iload_n 2, 1) := by decide +kernel
theorem d_C_refuseIfOwned_13 : decode b_C_refuseIfOwned 13 = .ok (.invokevirtual 36, 3) := by decide +kernel
theorem d_C_refuseIfOwned_16 : decode b_C_refuseIfOwned 16 = .ok (.return_, 1) := by decide +kernel
theorem d_C_refuseIfBound_0 : decode b_C_refuseIfBound 0 = .ok (.aload_n 0, 1) := by decide +kernel
theorem d_C_refuseIfBound_1 : decode b_C_refuseIfBound 1 = .ok (.getfield 9, 3) := by decide +kernel
theorem d_C_refuseIfBound_4 : decode b_C_refuseIfBound 4 = .ok (.iload_n 1, 1) := by decide +kernel
theorem d_C_refuseIfBound_5 : decode b_C_refuseIfBound 5 = .ok (.iaload, 1) := by decide +kernel
theorem d_C_refuseIfBound_6 : decode b_C_refuseIfBound 6 = .ok (.iconst (-1), 1) := by decide +kernel
theorem d_C_refuseIfBound_7 : decode b_C_refuseIfBound 7 = .ok (.if_icmp .eq 11, 3) := by decide +kernel
theorem d_C_refuseIfBound_10 : decode b_C_refuseIfBound 10 = .ok (.aload_n 0, 1) := by decide +kernel
theorem d_C_refuseIfBound_11 : decode b_C_refuseIfBound 11 = .ok (.getfield 27, 3) := by decide +kernel
theorem d_C_refuseIfBound_14 : decode b_C_refuseIfBound 14 = .ok (.iload_n 2, 1) := by decide +kernel
theorem d_C_refuseIfBound_15 : decode b_C_refuseIfBound 15 = .ok (.invokevirtual 36, 3) := by decide +kernel
theorem d_C_refuseIfBound_18 : decode b_C_refuseIfBound 18 = .ok (.return_, 1) := by decide +kernel
theorem d_C_bind_0 : decode b_C_bind 0 = .ok (.aload_n 0, 1) := by decide +kernel
theorem d_C_bind_1 : decode b_C_bind 1 = .ok (.getfield 9, 3) := by decide +kernel
theorem d_C_bind_4 : decode b_C_bind 4 = .ok (.iload_n 1, 1) := by decide +kernel
theorem d_C_bind_5 : decode b_C_bind 5 = .ok (.iload_n 2, 1) := by decide +kernel
theorem d_C_bind_6 : decode b_C_bind 6 = .ok (.iastore, 1) := by decide +kernel
theorem d_C_bind_7 : decode b_C_bind 7 = .ok (.iload_n 2, 1) := by decide +kernel
theorem d_C_bind_8 : decode b_C_bind 8 = .ok (.invokestatic 142, 3) := by decide +kernel
theorem d_C_bind_11 : decode b_C_bind 11 = .ok (.ifCond .eq 15, 3) := by decide +kernel
theorem d_C_bind_14 : decode b_C_bind 14 = .ok (.aload_n 0, 1) := by decide +kernel
theorem d_C_bind_15 : decode b_C_bind 15 = .ok (.dup, 1) := by decide +kernel
theorem d_C_bind_16 : decode b_C_bind 16 = .ok (.getfield 15, 3) := by decide +kernel
theorem d_C_bind_19 : decode b_C_bind 19 = .ok (.iconst 1, 1) := by decide +kernel
theorem d_C_bind_20 : decode b_C_bind 20 = .ok (.iload_n 1, 1) := by decide +kernel
theorem d_C_bind_21 : decode b_C_bind 21 = .ok (.ishl, 1) := by decide +kernel
theorem d_C_bind_22 : decode b_C_bind 22 = .ok (.ior, 1) := by decide +kernel
theorem d_C_bind_23 : decode b_C_bind 23 = .ok (.putfield 15, 3) := by decide +kernel
theorem d_C_bind_26 : decode b_C_bind 26 = .ok (.return_, 1) := by decide +kernel
theorem d_C_lookAtVariable_0 : decode b_C_lookAtVariable 0 = .ok (.aload_n 0, 1) := by decide +kernel
theorem d_C_lookAtVariable_1 : decode b_C_lookAtVariable 1 = .ok (.getfield 9, 3) := by decide +kernel
theorem d_C_lookAtVariable_4 : decode b_C_lookAtVariable 4 = .ok (.aload_n 1, 1) := by decide +kernel
theorem d_C_lookAtVariable_5 : decode b_C_lookAtVariable 5 = .ok (.getfield 130, 3) := by decide +kernel
theorem d_C_lookAtVariable_8 : decode b_C_lookAtVariable 8 = .ok (.iaload, 1) := by decide +kernel
theorem d_C_lookAtVariable_9 : decode b_C_lookAtVariable 9 = .ok (.istore 4, 2) := by decide +kernel
theorem d_C_lookAtVariable_11 : decode b_C_lookAtVariable 11 = .ok (.iload 4, 2) := by decide +kernel
theorem d_C_lookAtVariable_13 : decode b_C_lookAtVariable 13 = .ok (.invokestatic 142, 3) := by decide +kernel
theorem d_C_lookAtVariable_16 : decode b_C_lookAtVariable 16 = .ok (.ifCond .eq 18, 3) := by decide +kernel
theorem d_C_lookAtVariable_19 : decode b_C_lookAtVariable 19 = .ok (.aload_n 0, 1) := by decide +kernel
theorem d_C_lookAtVariable_20 : decode b_C_lookAtVariable 20 = .ok (.aload_n 1, 1) := by decide +kernel
theorem d_C_lookAtVariable_21 : decode b_C_lookAtVariable 21 = .ok (.getfield 130, 3) := by decide +kernel
theorem d_C_lookAtVariable_24 : decode b_C_lookAtVariable 24 = .ok (.invokevirtual 146, 3) := by decide +kernel
theorem d_C_lookAtVariable_27 : decode b_C_lookAtVariable 27 = .ok (.ifCond .ne 7, 3) := by decide +kernel
theorem d_C_lookAtVariable_30 : decode b_C_lookAtVariable 30 = .ok (.iconst 1, 1) := by decide +kernel
theorem d_C_lookAtVariable_31 : decode b_C_lookAtVariable 31 = .ok (.goto 4, 3) := by decide +kernel
theorem d_C_lookAtVariable_34 : decode b_C_lookAtVariable 34 = .ok (.iconst 0, 1) := by decide +kernel
theorem d_C_lookAtVariable_35 : decode b_C_lookAtVariable 35 = .ok (.istore 5, 2) := by decide +kernel
theorem d_C_lookAtVariable_37 : decode b_C_lookAtVariable 37 = .ok (.iload 4, 2) := by decide +kernel
theorem d_C_lookAtVariable_39 : decode b_C_lookAtVariable 39 = .ok (.iconst (-1), 1) := by decide +kernel
theorem d_C_lookAtVariable_40 : decode b_C_lookAtVariable 40 = .ok (.if_icmp .eq 20, 3) := by decide +kernel
theorem d_C_lookAtVariable_43 : decode b_C_lookAtVariable 43 = .ok (.iload 5, 2) := by decide +kernel
theorem d_C_lookAtVariable_45 : decode b_C_lookAtVariable 45 = .ok (.ifCond .ne 15, 3) := by decide +kernel
theorem d_C_lookAtVariable_48 : decode b_C_lookAtVariable 48 = .ok (.iload 4, 2) := by decide +kernel
theorem d_C_lookAtVariable_50 : decode b_C_lookAtVariable 50 = .ok (.iload_n 2, 1) := by decide +kernel
theorem d_C_lookAtVariable_51 : decode b_C_lookAtVariable 51 = .ok (.if_icmp .lt 9, 3) := by decide +kernel
theorem d_C_lookAtVariable_54 : decode b_C_lookAtVariable 54 = .ok (.iload 4, 2) := by decide +kernel
theorem d_C_lookAtVariable_56 : decode b_C_lookAtVariable 56 = .ok (.iload_n 3, 1) := by decide +kernel
theorem d_C_lookAtVariable_57 : decode b_C_lookAtVariable 57 = .ok (.if_icmp .le 14, 3) := by decide +kernel
theorem d_C_lookAtVariable_60 : decode b_C_lookAtVariable 60 = .ok (.aload_n 0, 1) := by decide +kernel
theorem d_C_lookAtVariable_61 : decode b_C_lookAtVariable 61 = .ok (.getfield 27, 3) := by decide +kernel
theorem d_C_lookAtVariable_64 : decode b_C_lookAtVariable 64 = .ok (.aload_n 1, 1) := by decide +kernel
theorem d_C_lookAtVariable_65 : decode b_C_lookAtVariable 65 = .ok (.getfield 133, 3) := by decide +kernel
theorem d_C_lookAtVariable_68 : decode b_C_lookAtVariable 68 = .ok (.invokevirtual 36, 3) := by decide +kernel
theorem d_C_lookAtVariable_71 : decode b_C_lookAtVariable 71 = .ok (.iload 4, 2) := by decide +kernel
theorem d_C_lookAtVariable_73 : decode b_C_lookAtVariable 73 = .ok (.ireturn, 1) := by decide +kernel
theorem d_C_useUp_0 : decode b_C_useUp 0 = .ok (.aload_n 0, 1) := by decide +kernel
theorem d_C_useUp_1 : decode b_C_useUp 1 = .ok (.aload_n 1, 1) := by decide +kernel
theorem d_C_useUp_2 : decode b_C_useUp 2 = .ok (.iload_n 2, 1) := by decide +kernel
theorem d_C_useUp_3 : decode b_C_useUp 3 = .ok (.iload_n 3, 1) := by decide +kernel
theorem d_C_useUp_4 : decode b_C_useUp 4 = .ok (.invokevirtual 116, 3) := by decide +kernel
theorem d_C_useUp_7 : decode b_C_useUp 7 = .ok (.istore 4, 2) := by decide +kernel
theorem d_C_useUp_9 : decode b_C_useUp 9 = .ok (.aload_n 0, 1) := by decide +kernel
theorem d_C_useUp_10 : decode b_C_useUp 10 = .ok (.dup, 1) := by decide +kernel
theorem d_C_useUp_11 : decode b_C_useUp 11 = .ok (.getfield 15, 3) := by decide +kernel
theorem d_C_useUp_14 : decode b_C_useUp 14 = .ok (.iconst 1, 1) := by decide +kernel
theorem d_C_useUp_15 : decode b_C_useUp 15 = .ok (.aload_n 1, 1) := by decide +kernel
theorem d_C_useUp_16 : decode b_C_useUp 16 = .ok (.getfield 130, 3) := by decide +kernel
theorem d_C_useUp_19 : decode b_C_useUp 19 = .ok (.ishl, 1) := by decide +kernel
theorem d_C_useUp_20 : decode b_C_useUp 20 = .ok (.iconst (-1), 1) := by decide +kernel
theorem d_C_useUp_21 : decode b_C_useUp 21 = .ok (.ixor, 1) := by decide +kernel
theorem d_C_useUp_22 : decode b_C_useUp 22 = .ok (.iand, 1) := by decide +kernel
theorem d_C_useUp_23 : decode b_C_useUp 23 = .ok (.putfield 15, 3) := by decide +kernel
theorem d_C_useUp_26 : decode b_C_useUp 26 = .ok (.iload 4, 2) := by decide +kernel
theorem d_C_useUp_28 : decode b_C_useUp 28 = .ok (.ireturn, 1) := by decide +kernel
section ZSN
variable {G : zG} {K : zK} {y : MethodName} {cc : ByteArray} {nL : Nat} {ret : Option FieldType} {hs : List (Nat × Nat × Nat × Nat)} {n k1 k2 pc : Nat} {σ : zS} {lv : List (Nat × Value)} {st : List Value}
def zLSN (own : String) (idx : Nat) (y : MethodName) (k : Nat) : Prop := (∃ host, Cond.methodLinkNest own idx y host ∈ zTb) ∧ Cond.static y ∈ zTb ∧ Cond.initialized y.cls ∈ zTb ∧ (y.cls ≠ "java/lang/invoke/MethodHandle" ∧ y.cls ≠ "java/lang/invoke/VarHandle") ∧ (parseMethodDescriptor y.desc).map (fun q => q.parameters.length) = some k
theorem z_goSN (C : zC G K y cc nL ret hs) {yc : MethodName} {ccc : ByteArray} {nLc idx k : Nat} {retc : Option FieldType} {hsc : List (Nat × Nat × Nat × Nat)} {As : List Value}
    (hL : zLSN y.cls idx yc k) (hwd : zWd yc ccc nLc retc hsc ∈ zTb) (hnm : ∀ (a : Array Value) (u : State), (zWd yc ccc nLc retc hsc).before a u = true → ∃ mk, u.methodNamed? yc = some mk) (hd : decode cc pc = .ok (.invokestatic idx, 3)) (hk : As.length = k) :
    ∀ (H : Heap) (ls : Array Slot), zHW G n σ H → ls.size = (kc K).maxLocals → zGo K (F0 (km K) pc ls ((As.reverse ++ st).map (zV G))) (F0 (km K) pc ls (st.map (zV G))) yc (As.map (zV G)).toArray H := by
  intro H ls h1 hsz T locs k1 k2 hT X
  obtain ⟨⟨host, l1⟩, l2, l3, l4, l5⟩ := hL
  obtain ⟨mk, hnamed⟩ := hnm _ _ (C.ts _ hwd)
  obtain ⟨methM, cM, hmethM, -, -, -, -, -, -, hsigM⟩ := zWd_spec (C.ts _ hwd) hnamed
  have hstatic : methM.isStatic = true := Cond.static_spec hnamed hmethM (C.ts _ l2)
  obtain ⟨kP, hkP, -⟩ := className_of_methodNamed hnamed
  have hinitP : kP.init = .initialized := Cond.initialized_spec (findClass_of_methodNamed hnamed) hkP (C.ts _ l3)
  obtain ⟨vm₁, X₁, hstep₁⟩ := X.invokestaticNest C.1 C.own (C.ts _ l1) hnamed hmethM hstatic hkP hinitP l4 (g := F0 (km K) pc ls ((As.reverse ++ st).map (zV G))) rfl (argsL := As.map (zV G)) (rest := st.map (zV G))
    (by rw [List.length_map, hk]; exact z_len l5 hsigM) (by simp) (by rw [C.2.1]; exact hd)
  exact ⟨vm₁, mk, X₁, X₁.named hnamed, hstep₁⟩
end ZSN
theorem lw_C_142 : Cond.methodLinkNest "SoleArrays$Checker" 142 ⟨"SoleArrays", "isArray", "(I)Z"⟩ "SoleArrays" ∈ zTb := zt3 115 (by decide +kernel) rfl
theorem ls_S_isArray : Cond.static ⟨"SoleArrays", "isArray", "(I)Z"⟩ ∈ zTb := zt1 171 (by decide +kernel) rfl
theorem l_C_142 : zLSN "SoleArrays$Checker" 142 y_S_isArray 1 := ⟨⟨_, lw_C_142⟩, ls_S_isArray, ini_S, ⟨by decide, by decide⟩, by decide +kernel⟩
section KLF
variable {G : zG} {l : Launch} {n B N c F i : Nat} {σ : zS} {xs : mS} {xr : Int64} {xa : mA} {xl : mL} {xf : xF} {s : cS}
theorem c_T_wrong (hn : 85 ≤ n) (hn2 : n < 1000000) (q : Int32) : MetZ G l y_T_wrong b_T_wrong 2 none [] 6 1 6 [.ref 2, .int q] n (xOv xs xr xa xl xf σ) (fun o n' σ' => o = .threw n ∧ n' = n + 1 ∧ σ' = xOv (upd xs 4 q) xr xa xl xf (va_up σ n (.inr (10, [])))) := by
  refine MetZ.of (by decide) (Nat.le_of_ble_eq_true rfl) (fun K hK hR hpo hmc hms C => ?_)
  refine z_aload_n C 1 d_T_wrong_0 rfl rfl ?_
  refine z_iload_n C 2 d_T_wrong_1 rfl rfl ?_
  refine zx_put2 C 5 p_T_9 d_T_wrong_2 rfl (by omega) ?_
  exact z_throwS C (ci := 10) (names := zNm) (text := "the function is wrong") rfl (by decide) zNm_fit cl_T_22 ini_e2 (by decide) at_T_26 d_T_wrong_5 d_T_wrong_8 d_T_wrong_9 d_T_wrong_11 d_T_wrong_14 (fun h hh => nomatch hh) (by rw [hR]; show 2 + 3 < _; simp only [zRm]; omega) (by rw [hR]; show _ + (13 * (2 + 1) + 43) ≤ _; simp only [zRm]; exact Nat.le_of_ble_eq_true rfl) (by omega) (by rw [hR]; simp only [zRm]; omega) (by rw [hR]; simp only [zRm]; omega) (by rw [hmc]; omega) (by rw [hms]; omega) (by rw [hpo]; exact ⟨rfl, rfl, xOv_up hn _⟩)
theorem c_C_isOwned (hc : 85 ≤ c) (v : Int32) : MetZ G l y_C_isOwned b_C_isOwned 2 (some .boolean) [] 0 0 0 [.ref c, .int v] (c + 2) (kSt B N c F σ xs xr xa xl xf s) (fun o n' σ' => o = .returned (some (.int (if cOwn s.2.1 v then 1 else 0))) ∧ n' = c + 2 ∧ σ' = kSt B N c F σ xs xr xa xl xf s) := by
  refine MetZ.of (by decide) (Nat.le_of_ble_eq_true rfl) (fun K hK hR hpo hmc hms C => ?_)
  refine z_aload_n C 1 d_C_isOwned_0 rfl rfl ?_
  refine z_get C 4 f_C_15 d_C_isOwned_1 rfl (by omega) (kSt_c hc) rfl ?_
  refine z_iload_n C 5 d_C_isOwned_4 rfl rfl ?_
  refine z_ishr C 6 d_C_isOwned_5 rfl ?_
  refine z_iconst C 7 d_C_isOwned_6 rfl 1 (by decide) ?_
  refine z_iand C 8 d_C_isOwned_7 rfl ?_
  refine z_if_eq C 11 15 d_C_isOwned_8 rfl (by decide) (fun h1 => ?_) (fun h2 => ?_)
  · refine z_iconst C 16 d_C_isOwned_15 rfl 0 (by decide) ?_
    exact z_zret C rfl (rfl) d_C_isOwned_16 (by rw [hpo]; exact ⟨by rw [if_neg (fun q : cOwn s.2.1 v => q h1)], rfl, rfl⟩) (by rw [hmc]; omega) (by rw [hms]; omega)
  · refine z_iconst C 12 d_C_isOwned_11 rfl 1 (by decide) ?_
    refine z_goto C 16 d_C_isOwned_12 (by decide) ?_
    exact z_zret C rfl (rfl) d_C_isOwned_16 (by rw [hpo]; exact ⟨by rw [if_pos (show cOwn s.2.1 v from h2)], rfl, rfl⟩) (by rw [hmc]; omega) (by rw [hms]; omega)
theorem c_C_refuseIfOwned (hB : 85 ≤ B) (hc : c = B + 2 * N) (hn2 : c < 900000) (v0 w : Int32) {mc ms : Nat} (hm : (∃ q, (if cOwn s.2.1 v0 then .inl w else .inr (0, s) : cR) = .inl q) → 1 ≤ mc ∧ 6 ≤ ms) : MetZ G l y_C_refuseIfOwned b_C_refuseIfOwned 3 none [] 7 mc ms [.ref c, .int v0, .int w] (c + 2) (kSt B N c F σ xs xr xa xl xf s) (kPost B N c F σ xs xr xa xl xf kvN (if cOwn s.2.1 v0 then .inl w else .inr (0, s))) := by
  refine MetZ.of (by decide) (Nat.le_of_ble_eq_true rfl) (fun K hK hR hpo hmc hms C => ?_)
  refine z_aload_n C 1 d_C_refuseIfOwned_0 rfl rfl ?_
  refine z_iload_n C 2 d_C_refuseIfOwned_1 rfl rfl ?_
  refine z_call C 5 (c_C_isOwned (by omega) v0) w_C_isOwned ini_C d_C_refuseIfOwned_2 rfl (z_goV (As := [.int v0]) C l_C_146 w_C_isOwned d_C_refuseIfOwned_2 (by omega) ((kSt_c (by omega))) rfl rfl) (Nat.le_of_ble_eq_true rfl) (by rw [hR]; simp only [zRm]; omega) (by rw [hR]; simp only [zRm]; omega) (by rw [hR]; simp only [zRm]; omega) (by rw [hR]; simp only [zRm]; omega) (fun v n' σ' hv => ?_) (fun x n' σ' hv => ?_)
  rotate_left
  · cases hv.1
  obtain ⟨e0, rfl, rfl⟩ := hv
  by_cases q : cOwn s.2.1 v0
  · rw [if_pos q] at hpo hm e0
    cases e0
    have hb := hm ⟨_, rfl⟩
    refine z_if_eq C 8 16 d_C_refuseIfOwned_5 rfl (by decide) (fun h9 => absurd h9 (show ¬ (1 : Int32) = 0 by decide)) (fun _ => ?_)
    refine z_aload_n C 9 d_C_refuseIfOwned_8 rfl rfl ?_
    refine z_get C 12 f_C_27 d_C_refuseIfOwned_9 rfl (by omega) (kSt_c (by omega)) rfl ?_
    refine z_iload_n C 13 d_C_refuseIfOwned_12 rfl rfl ?_
    refine z_call C 16 (c_T_wrong (by omega) (by omega) w) w_T_wrong ini_T d_C_refuseIfOwned_13 rfl (z_goV (As := [.int w]) C l_C_36 w_T_wrong d_C_refuseIfOwned_13 (by omega) (rfl) rfl rfl) (Nat.le_of_ble_eq_true rfl) (by rw [hR]; simp only [zRm]; omega) (by rw [hR]; simp only [zRm]; omega) (by rw [hR]; simp only [zRm]; omega) (by rw [hR]; simp only [zRm]; omega) (fun v n' σ' hv => ?_) (fun x n' σ' hv => ?_)
    · cases hv.1
    · obtain ⟨e0, rfl, rfl⟩ := hv
      cases e0
      exact zx_out C (fun h hh => nomatch hh) (by rw [hpo]; exact kIll_mk hc) (by rw [hmc]; omega) (by rw [hms]; omega)
  · rw [if_neg q] at hpo hm e0
    cases e0
    refine z_if_eq C 8 16 d_C_refuseIfOwned_5 rfl (by decide) (fun _ => ?_) (fun h9 => absurd (show (0 : Int32) = 0 from rfl) h9)
    exact z_vret C rfl d_C_refuseIfOwned_16 (by rw [hpo]; exact ⟨rfl, rfl, rfl⟩) (by rw [hmc]; omega) (by rw [hms]; omega)
theorem c_C_refuseIfBound (hB : 85 ≤ B) (hc : c = B + 2 * N) (hn2 : c < 900000) {v : Nat} (hv20 : v < 20) (w : Int32) {mc ms : Nat} (hm : (∃ q, (if s.1 v = -1 then .inr (0, s) else .inl w : cR) = .inl q) → 1 ≤ mc ∧ 6 ≤ ms) : MetZ G l y_C_refuseIfBound b_C_refuseIfBound 3 none [] 7 mc ms [.ref c, .int (nI v), .int w] (c + 2) (kSt B N c F σ xs xr xa xl xf s) (kPost B N c F σ xs xr xa xl xf kvN (if s.1 v = -1 then .inr (0, s) else .inl w)) := by
  refine MetZ.of (by decide) (Nat.le_of_ble_eq_true rfl) (fun K hK hR hpo hmc hms C => ?_)
  refine z_aload_n C 1 d_C_refuseIfBound_0 rfl rfl ?_
  refine z_get C 4 f_C_9 d_C_refuseIfBound_1 rfl (by omega) (kSt_c (by omega)) rfl ?_
  refine z_iload_n C 5 d_C_refuseIfBound_4 rfl rfl ?_
  refine z_iald C 6 v d_C_refuseIfBound_5 rfl (by omega) (kSt_t (by omega)) rfl hv20 (by decide) ?_
  refine z_iconst C 7 d_C_refuseIfBound_6 rfl (-1) (by decide) ?_
  by_cases q : s.1 v = -1
  · rw [if_pos q] at hpo hm
    refine z_icmp_eq C 10 18 d_C_refuseIfBound_7 rfl (by decide) (fun _ => ?_) (fun h9 => absurd q h9)
    exact z_vret C rfl d_C_refuseIfBound_18 (by rw [hpo]; exact ⟨rfl, rfl, rfl⟩) (by rw [hmc]; omega) (by rw [hms]; omega)
  · rw [if_neg q] at hpo hm
    have hb := hm ⟨_, rfl⟩
    refine z_icmp_eq C 10 18 d_C_refuseIfBound_7 rfl (by decide) (fun h9 => absurd h9 q) (fun _ => ?_)
    refine z_aload_n C 11 d_C_refuseIfBound_10 rfl rfl ?_
    refine z_get C 14 f_C_27 d_C_refuseIfBound_11 rfl (by omega) (kSt_c (by omega)) rfl ?_
    refine z_iload_n C 15 d_C_refuseIfBound_14 rfl rfl ?_
    refine z_call C 18 (c_T_wrong (by omega) (by omega) w) w_T_wrong ini_T d_C_refuseIfBound_15 rfl (z_goV (As := [.int w]) C l_C_36 w_T_wrong d_C_refuseIfBound_15 (by omega) (rfl) rfl rfl) (Nat.le_of_ble_eq_true rfl) (by rw [hR]; simp only [zRm]; omega) (by rw [hR]; simp only [zRm]; omega) (by rw [hR]; simp only [zRm]; omega) (by rw [hR]; simp only [zRm]; omega) (fun v n' σ' hv => ?_) (fun x n' σ' hv => ?_)
    · cases hv.1
    · obtain ⟨e0, rfl, rfl⟩ := hv
      cases e0
      exact zx_out C (fun h hh => nomatch hh) (by rw [hpo]; exact kIll_mk hc) (by rw [hmc]; omega) (by rw [hms]; omega)
theorem c_C_bind (hc : 85 ≤ c) {v : Nat} (hv20 : v < 20) (t : Int32) : MetZ G l y_C_bind b_C_bind 3 none [] 1 0 0 [.ref c, .int (nI v), .int t] (c + 2) (kSt B N c F σ xs xr xa xl xf s) (fun o n' σ' => o = .returned none ∧ n' = c + 2 ∧ σ' = kSt B N c F σ xs xr xa xl xf (cBind (nI v) t s)) := by
  have hix : cIx (nI v) = v := nI_clamp (by omega)
  refine MetZ.of (by decide) (Nat.le_of_ble_eq_true rfl) (fun K hK hR hpo hmc hms C => ?_)
  refine z_aload_n C 1 d_C_bind_0 rfl rfl ?_
  refine z_get C 4 f_C_9 d_C_bind_1 rfl (by omega) (kSt_c hc) rfl ?_
  refine z_iload_n C 5 d_C_bind_4 rfl rfl ?_
  refine z_iload_n C 6 d_C_bind_5 rfl rfl ?_
  refine z_iast C 7 v d_C_bind_6 rfl (by omega) (kSt_t hc) rfl hv20 (by decide) ?_
  rw [kSt_typ hc]
  refine z_iload_n C 8 d_C_bind_7 rfl rfl ?_
  refine z_call C 11 (c_S_isArray t) w_S_isArray ini_S d_C_bind_8 rfl (z_goSN (As := [.int t]) C l_C_142 w_S_isArray nm_S_isArray d_C_bind_8 rfl) (Nat.le_of_ble_eq_true rfl) (by rw [hR]; simp only [zRm]; omega) (by rw [hR]; simp only [zRm]; omega) (by rw [hR]; simp only [zRm]; omega) (by rw [hR]; simp only [zRm]; omega) (fun v n' σ' hv => ?_) (fun x n' σ' hv => ?_)
  rotate_left
  · cases hv.1
  obtain ⟨e0, rfl, rfl⟩ := hv
  by_cases q : t = 1 ∨ t = 2
  · rw [if_pos q] at e0
    cases e0
    refine z_if_eq C 14 26 d_C_bind_11 rfl (by decide) (fun h9 => absurd h9 (show ¬ (1 : Int32) = 0 by decide)) (fun _ => ?_)
    refine z_aload_n C 15 d_C_bind_14 rfl rfl ?_
    refine z_dup C 16 d_C_bind_15 rfl rfl ?_
    refine z_get C 19 f_C_15 d_C_bind_16 rfl (by omega) (kSt_c hc) rfl ?_
    refine z_iconst C 20 d_C_bind_19 rfl 1 (by decide) ?_
    refine z_iload_n C 21 d_C_bind_20 rfl rfl ?_
    refine z_ishl C 22 d_C_bind_21 rfl ?_
    refine z_ior C 23 d_C_bind_22 rfl ?_
    refine z_put C 26 p_C_15 d_C_bind_23 rfl (by omega) (kSt_c hc) (z_ltb rfl) rfl rfl ?_
    show Z G K _ (va_up _ _ (kC c F (s.2.1 ||| cBit (nI v)))) _ _ _ _ _
    rw [kSt_own hc]
    exact z_vret C rfl d_C_bind_26 (by rw [hpo]; exact ⟨rfl, rfl, by unfold cBind; rw [if_pos q, hix]⟩) (by rw [hmc]; omega) (by rw [hms]; omega)
  · rw [if_neg q] at e0
    cases e0
    refine z_if_eq C 14 26 d_C_bind_11 rfl (by decide) (fun _ => ?_) (fun h9 => absurd (show (0 : Int32) = 0 from rfl) h9)
    exact z_vret C rfl d_C_bind_26 (by rw [hpo]; exact ⟨rfl, rfl, by unfold cBind; rw [if_neg q, hix]⟩) (by rw [hmc]; omega) (by rw [hms]; omega)
theorem c_C_lookAtVariable (hB : 85 ≤ B) (hc : c = B + 2 * N) (hn2 : c < 900000) (hi : i < N) (hw : eWf1 N (s.2.2 i)) (lo hi' : Int32) {mc ms : Nat} (hm : (∃ q, cVrT (cVar (s.2.2 i) lo hi' s) s = .inl q) → 1 ≤ mc ∧ 6 ≤ ms) : MetZ G l y_C_lookAtVariable b_C_lookAtVariable 6 (some .int) [] 7 mc ms [.ref c, .ref (B + 2 * i), .int lo, .int hi'] (c + 2) (kSt B N c F σ xs xr xa xl xf s) (kPost B N c F σ xs xr xa xl xf kvI (cVrT (cVar (s.2.2 i) lo hi' s) s)) := by
  obtain ⟨-, -, ⟨v0, hv20, ev⟩, -⟩ := hw
  have hix : cIx (eVr (s.2.2 i)) = v0 := by rw [ev]; exact nI_clamp (by omega)
  have ev' : (s.2.2 i).2.2.2.2.2.2.1 = nI v0 := ev
  unfold cVar at hm ⊢
  rw [hix, ev] at hm ⊢
  refine MetZ.of (by decide) (Nat.le_of_ble_eq_true rfl) (fun K hK hR hpo hmc hms C => ?_)
  have fin : ∀ k : Int32, (s.1 v0 = -1 ∨ k ≠ 0 ∨ s.1 v0 < lo ∨ hi' < s.1 v0) → (s.1 v0 = -1 ∨ ((s.1 v0 = 1 ∨ s.1 v0 = 2) ∧ ¬ cOwn s.2.1 (nI v0)) ∨ s.1 v0 < lo ∨ hi' < s.1 v0) → Z G K (c + 2) (kSt B N c F σ xs xr xa xl xf s) 0 0 60 [(5, .int k), (4, .int (s.1 v0)), (0, .ref c), (1, .ref (B + 2 * i)), (2, .int lo), (3, .int hi')] [] := fun k _ hq => by
    rw [if_pos hq] at hpo hm
    have hb := hm ⟨_, rfl⟩
    refine z_aload_n C 61 d_C_lookAtVariable_60 rfl rfl ?_
    refine z_get C 64 f_C_27 d_C_lookAtVariable_61 rfl (by omega) (kSt_c (by omega)) rfl ?_
    refine z_aload_n C 65 d_C_lookAtVariable_64 rfl rfl ?_
    refine z_get C 68 f_C_133 d_C_lookAtVariable_65 rfl (by omega) (kSt_e hB hc hi) rfl ?_
    refine z_call C 71 (c_T_wrong (by omega) (by omega) (eVp (s.2.2 i))) w_T_wrong ini_T d_C_lookAtVariable_68 rfl (z_goV (As := [.int (eVp (s.2.2 i))]) C l_C_36 w_T_wrong d_C_lookAtVariable_68 (by omega) (rfl) rfl rfl) (Nat.le_of_ble_eq_true rfl) (by rw [hR]; simp only [zRm]; omega) (by rw [hR]; simp only [zRm]; omega) (by rw [hR]; simp only [zRm]; omega) (by rw [hR]; simp only [zRm]; omega) (fun v n' σ' hv => ?_) (fun x n' σ' hv => ?_)
    · cases hv.1
    · obtain ⟨e0, rfl, rfl⟩ := hv
      cases e0
      exact zx_out C (fun h hh => nomatch hh) (by rw [hpo]; exact kIll_mk hc) (by rw [hmc]; omega) (by rw [hms]; omega)
  have tl : ∀ k : Int32, (k ≠ 0 ↔ (s.1 v0 = 1 ∨ s.1 v0 = 2) ∧ ¬ cOwn s.2.1 (nI v0)) → Z G K (c + 2) (kSt B N c F σ xs xr xa xl xf s) 0 0 35 [(4, .int (s.1 v0)), (0, .ref c), (1, .ref (B + 2 * i)), (2, .int lo), (3, .int hi')] [.int k] := fun k hk => by
    refine z_istore C 37 d_C_lookAtVariable_35 rfl (by decide) ?_
    refine z_iload C 39 d_C_lookAtVariable_37 rfl rfl ?_
    refine z_iconst C 40 d_C_lookAtVariable_39 rfl (-1) (by decide) ?_
    refine z_icmp_eq C 43 60 d_C_lookAtVariable_40 rfl (by decide) (fun g1 => ?_) (fun g1 => ?_)
    · exact fin k (Or.inl g1) (Or.inl g1)
    refine z_iload C 45 d_C_lookAtVariable_43 rfl rfl ?_
    refine z_if_ne C 48 60 d_C_lookAtVariable_45 rfl (by decide) (fun g2 => ?_) (fun g2 => ?_)
    · exact fin k (Or.inr (Or.inl g2)) (Or.inr (Or.inl (hk.mp g2)))
    refine z_iload C 50 d_C_lookAtVariable_48 rfl rfl ?_
    refine z_iload_n C 51 d_C_lookAtVariable_50 rfl rfl ?_
    refine z_icmp_lt C 54 60 d_C_lookAtVariable_51 rfl (by decide) (fun g3 => ?_) (fun g3 => ?_)
    · exact fin k (Or.inr (Or.inr (Or.inl g3))) (Or.inr (Or.inr (Or.inl g3)))
    refine z_iload C 56 d_C_lookAtVariable_54 rfl rfl ?_
    refine z_iload_n C 57 d_C_lookAtVariable_56 rfl rfl ?_
    refine z_icmp_le C 60 71 d_C_lookAtVariable_57 rfl (by decide) (fun g4 => ?_) (fun g4 => ?_)
    · rw [if_neg (fun q => by
        rcases q with q | q | q | q
        · exact g1 q
        · exact absurd g2 (hk.mpr q)
        · exact g3 q
        · exact absurd q (Int32.not_lt.mpr g4))] at hpo hm
      refine z_iload C 73 d_C_lookAtVariable_71 rfl rfl ?_
      exact z_iret C rfl d_C_lookAtVariable_73 (by rw [hpo]; exact ⟨rfl, rfl, rfl⟩) (by rw [hmc]; omega) (by rw [hms]; omega)
    · exact fin k (Or.inr (Or.inr (Or.inr (Int32.not_le.mp g4)))) (Or.inr (Or.inr (Or.inr (Int32.not_le.mp g4))))
  refine z_aload_n C 1 d_C_lookAtVariable_0 rfl rfl ?_
  refine z_get C 4 f_C_9 d_C_lookAtVariable_1 rfl (by omega) (kSt_c (by omega)) rfl ?_
  refine z_aload_n C 5 d_C_lookAtVariable_4 rfl rfl ?_
  refine z_get C 8 f_C_130 d_C_lookAtVariable_5 rfl (by omega) (kSt_e hB hc hi) rfl ?_
  refine z_iald C 9 v0 d_C_lookAtVariable_8 rfl (by omega) (kSt_t (by omega)) ev' hv20 (by decide) ?_
  refine z_istore C 11 d_C_lookAtVariable_9 rfl (by decide) ?_
  refine z_iload C 13 d_C_lookAtVariable_11 rfl rfl ?_
  refine z_call C 16 (c_S_isArray (s.1 v0)) w_S_isArray ini_S d_C_lookAtVariable_13 rfl (z_goSN (As := [.int (s.1 v0)]) C l_C_142 w_S_isArray nm_S_isArray d_C_lookAtVariable_13 rfl) (Nat.le_of_ble_eq_true rfl) (by rw [hR]; simp only [zRm]; omega) (by rw [hR]; simp only [zRm]; omega) (by rw [hR]; simp only [zRm]; omega) (by rw [hR]; simp only [zRm]; omega) (fun v n' σ' hv => ?_) (fun x n' σ' hv => ?_)
  rotate_left
  · cases hv.1
  obtain ⟨e0, rfl, rfl⟩ := hv
  by_cases q : s.1 v0 = 1 ∨ s.1 v0 = 2
  · rw [if_pos q] at e0
    cases e0
    refine z_if_eq C 19 34 d_C_lookAtVariable_16 rfl (by decide) (fun h9 => absurd h9 (show ¬ (1 : Int32) = 0 by decide)) (fun _ => ?_)
    refine z_aload_n C 20 d_C_lookAtVariable_19 rfl rfl ?_
    refine z_aload_n C 21 d_C_lookAtVariable_20 rfl rfl ?_
    refine z_get C 24 f_C_130 d_C_lookAtVariable_21 rfl (by omega) (kSt_e hB hc hi) rfl ?_
    rw [ev']
    refine z_call C 27 (c_C_isOwned (by omega) (nI v0)) w_C_isOwned ini_C d_C_lookAtVariable_24 rfl (z_goV (As := [.int (nI v0)]) C l_C_146 w_C_isOwned d_C_lookAtVariable_24 (by omega) ((kSt_c (by omega))) rfl rfl) (Nat.le_of_ble_eq_true rfl) (by rw [hR]; simp only [zRm]; omega) (by rw [hR]; simp only [zRm]; omega) (by rw [hR]; simp only [zRm]; omega) (by rw [hR]; simp only [zRm]; omega) (fun v n' σ' hv => ?_) (fun x n' σ' hv => ?_)
    rotate_left
    · cases hv.1
    obtain ⟨e0, rfl, rfl⟩ := hv
    by_cases q2 : cOwn s.2.1 (nI v0)
    · rw [if_pos q2] at e0
      cases e0
      refine z_if_ne C 30 34 d_C_lookAtVariable_27 rfl (by decide) (fun _ => ?_) (fun h9 => absurd h9 (show ¬ (1 : Int32) = 0 by decide))
      refine z_iconst C 35 d_C_lookAtVariable_34 rfl 0 (by decide) ?_
      exact tl 0 ⟨fun w => absurd rfl w, fun w => absurd q2 w.2⟩
    · rw [if_neg q2] at e0
      cases e0
      refine z_if_ne C 30 34 d_C_lookAtVariable_27 rfl (by decide) (fun h9 => absurd (show (0 : Int32) = 0 from rfl) h9) (fun _ => ?_)
      refine z_iconst C 31 d_C_lookAtVariable_30 rfl 1 (by decide) ?_
      refine z_goto C 35 d_C_lookAtVariable_31 (by decide) ?_
      exact tl 1 ⟨fun _ => ⟨q, q2⟩, fun _ => by decide⟩
  · rw [if_neg q] at e0
    cases e0
    refine z_if_eq C 19 34 d_C_lookAtVariable_16 rfl (by decide) (fun _ => ?_) (fun h9 => absurd (show (0 : Int32) = 0 from rfl) h9)
    refine z_iconst C 35 d_C_lookAtVariable_34 rfl 0 (by decide) ?_
    exact tl 0 ⟨fun w => absurd rfl w, fun w => absurd w.1 q⟩
theorem c_C_useUp (hB : 85 ≤ B) (hc : c = B + 2 * N) (hn2 : c < 900000) (hi : i < N) (hw : eWf1 N (s.2.2 i)) (lo hi' : Int32) {mc ms : Nat} (hm : (∃ q, cUse (s.2.2 i) lo hi' s = .inl q) → 1 ≤ mc ∧ 6 ≤ ms) : MetZ G l y_C_useUp b_C_useUp 5 (some .int) [] 8 mc ms [.ref c, .ref (B + 2 * i), .int lo, .int hi'] (c + 2) (kSt B N c F σ xs xr xa xl xf s) (kPost B N c F σ xs xr xa xl xf kvI (cUse (s.2.2 i) lo hi' s)) := by
  refine MetZ.of (by decide) (Nat.le_of_ble_eq_true rfl) (fun K hK hR hpo hmc hms C => ?_)
  refine z_aload_n C 1 d_C_useUp_0 rfl rfl ?_
  refine z_aload_n C 2 d_C_useUp_1 rfl rfl ?_
  refine z_iload_n C 3 d_C_useUp_2 rfl rfl ?_
  refine z_iload_n C 4 d_C_useUp_3 rfl rfl ?_
  unfold cUse at hm hpo
  cases hx : cVar (s.2.2 i) lo hi' s with
  | inl q =>
    rw [hx] at hm hpo
    have hb := hm ⟨_, rfl⟩
    refine z_call C 7 (c_C_lookAtVariable (mc := 1) (ms := 6) hB hc hn2 hi hw lo hi' (fun _ => ⟨by omega, by omega⟩)) w_C_lookAtVariable ini_C d_C_useUp_4 rfl (z_goV (As := [.ref (B + 2 * i), .int lo, .int hi']) C l_C_116 w_C_lookAtVariable d_C_useUp_4 (by omega) ((kSt_c (by omega))) rfl rfl) (Nat.le_of_ble_eq_true rfl) (by rw [hR]; simp only [zRm]; omega) (by rw [hR]; simp only [zRm]; omega) (by rw [hR]; simp only [zRm]; omega) (by rw [hR]; simp only [zRm]; omega) (fun v n' σ' hv => ?_) (fun x n' σ' hv => ?_)
    · rw [hx] at hv
      cases hv.1
    · rw [hx] at hv
      exact zx_out C (fun h hh => nomatch hh) (by rw [hpo]; exact hv) (by rw [hmc]; omega) (by rw [hms]; omega)
  | inr t =>
    rw [hx] at hm hpo
    refine z_call C 7 (c_C_lookAtVariable (mc := 0) (ms := 0) hB hc hn2 hi hw lo hi' (fun w => by rw [hx] at w; obtain ⟨q, w⟩ := w; cases w)) w_C_lookAtVariable ini_C d_C_useUp_4 rfl (z_goV (As := [.ref (B + 2 * i), .int lo, .int hi']) C l_C_116 w_C_lookAtVariable d_C_useUp_4 (by omega) ((kSt_c (by omega))) rfl rfl) (Nat.le_of_ble_eq_true rfl) (by rw [hR]; simp only [zRm]; omega) (by rw [hR]; simp only [zRm]; omega) (by rw [hR]; simp only [zRm]; omega) (by rw [hR]; simp only [zRm]; omega) (fun v n' σ' hv => ?_) (fun x n' σ' hv => ?_)
    rotate_left
    · rw [hx] at hv
      cases hv.1
    rw [hx] at hv
    obtain ⟨e0, rfl, rfl⟩ := hv
    cases e0
    refine z_istore C 9 d_C_useUp_7 rfl (by decide) ?_
    refine z_aload_n C 10 d_C_useUp_9 rfl rfl ?_
    refine z_dup C 11 d_C_useUp_10 rfl rfl ?_
    refine z_get C 14 f_C_15 d_C_useUp_11 rfl (by omega) (kSt_c (by omega)) rfl ?_
    refine z_iconst C 15 d_C_useUp_14 rfl 1 (by decide) ?_
    refine z_aload_n C 16 d_C_useUp_15 rfl rfl ?_
    refine z_get C 19 f_C_130 d_C_useUp_16 rfl (by omega) (kSt_e hB hc hi) rfl ?_
    refine z_ishl C 20 d_C_useUp_19 rfl ?_
    refine z_iconst C 21 d_C_useUp_20 rfl (-1) (by decide) ?_
    refine z_ixor C 22 d_C_useUp_21 rfl ?_
    refine z_iand C 23 d_C_useUp_22 rfl ?_
    refine z_put C 26 p_C_15 d_C_useUp_23 rfl (by omega) (kSt_c (by omega)) (z_ltb rfl) rfl rfl ?_
    show Z G K _ (va_up _ _ (kC c F (s.2.1 &&& (cBit (eVr (s.2.2 i)) ^^^ (-1))))) _ _ _ _ _
    rw [kSt_own (by omega)]
    refine z_iload C 28 d_C_useUp_26 rfl rfl ?_
    exact z_iret C rfl d_C_useUp_28 (by rw [hpo]; exact ⟨rfl, rfl, rfl⟩) (by rw [hmc]; omega) (by rw [hms]; omega)
end KLF
