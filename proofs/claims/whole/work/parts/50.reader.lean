theorem d_T_ill_0 : decode b_T_ill 0 = .ok (.aload_n 0, 1) := by decide +kernel
theorem d_T_ill_1 : decode b_T_ill 1 = .ok (.iload_n 1, 1) := by decide +kernel
theorem d_T_ill_2 : decode b_T_ill 2 = .ok (.putfield 9, 3) := by decide +kernel
theorem d_T_ill_5 : decode b_T_ill 5 = .ok (.new 15, 3) := by decide +kernel
theorem d_T_ill_8 : decode b_T_ill 8 = .ok (.dup, 1) := by decide +kernel
theorem d_T_ill_9 : decode b_T_ill 9 = .ok (.ldc 17, 2) := by decide +kernel
theorem d_T_ill_11 : decode b_T_ill 11 = .ok (.invokespecial 19, 3) := by decide +kernel
theorem d_T_ill_14 : decode b_T_ill 14 = .ok (.athrow, 1) := by decide +kernel
theorem d_R_init_0 : decode b_R_init 0 = .ok (.aload_n 0, 1) := by decide +kernel
theorem d_R_init_1 : decode b_R_init 1 = .ok (.invokespecial 3, 3) := by decide +kernel
theorem d_R_init_4 : decode b_R_init 4 = .ok (.aload_n 0, 1) := by decide +kernel
theorem d_R_init_5 : decode b_R_init 5 = .ok (.iconst 0, 1) := by decide +kernel
theorem d_R_init_6 : decode b_R_init 6 = .ok (.putfield 9, 3) := by decide +kernel
theorem d_R_init_9 : decode b_R_init 9 = .ok (.aload_n 0, 1) := by decide +kernel
theorem d_R_init_10 : decode b_R_init 10 = .ok (.aload_n 1, 1) := by decide +kernel
theorem d_R_init_11 : decode b_R_init 11 = .ok (.putfield 15, 3) := by decide +kernel
theorem d_R_init_14 : decode b_R_init 14 = .ok (.aload_n 0, 1) := by decide +kernel
theorem d_R_init_15 : decode b_R_init 15 = .ok (.iload_n 2, 1) := by decide +kernel
theorem d_R_init_16 : decode b_R_init 16 = .ok (.putfield 19, 3) := by decide +kernel
theorem d_R_init_19 : decode b_R_init 19 = .ok (.aload_n 0, 1) := by decide +kernel
theorem d_R_init_20 : decode b_R_init 20 = .ok (.aload_n 3, 1) := by decide +kernel
theorem d_R_init_21 : decode b_R_init 21 = .ok (.putfield 22, 3) := by decide +kernel
theorem d_R_init_24 : decode b_R_init 24 = .ok (.return_, 1) := by decide +kernel
theorem d_R_next_0 : decode b_R_next 0 = .ok (.aload_n 0, 1) := by decide +kernel
theorem d_R_next_1 : decode b_R_next 1 = .ok (.getfield 9, 3) := by decide +kernel
theorem d_R_next_4 : decode b_R_next 4 = .ok (.aload_n 0, 1) := by decide +kernel
theorem d_R_next_5 : decode b_R_next 5 = .ok (.getfield 19, 3) := by decide +kernel
theorem d_R_next_8 : decode b_R_next 8 = .ok (.if_icmp .ge 15, 3) := by decide +kernel
theorem d_R_next_11 : decode b_R_next 11 = .ok (.aload_n 0, 1) := by decide +kernel
theorem d_R_next_12 : decode b_R_next 12 = .ok (.getfield 15, 3) := by decide +kernel
theorem d_R_next_15 : decode b_R_next 15 = .ok (.aload_n 0, 1) := by decide +kernel
theorem d_R_next_16 : decode b_R_next 16 = .ok (.getfield 9, 3) := by decide +kernel
theorem d_R_next_19 : decode b_R_next 19 = .ok (.caload, 1) := by decide +kernel
theorem d_R_next_20 : decode b_R_next 20 = .ok (.goto 4, 3) := by decide +kernel
theorem d_R_next_23 : decode b_R_next 23 = .ok (.iconst 0, 1) := by decide +kernel
theorem d_R_next_24 : decode b_R_next 24 = .ok (.ireturn, 1) := by decide +kernel
theorem d_R_nextIsOneOf_0 : decode b_R_nextIsOneOf 0 = .ok (.aload_n 0, 1) := by decide +kernel
theorem d_R_nextIsOneOf_1 : decode b_R_nextIsOneOf 1 = .ok (.invokevirtual 39, 3) := by decide +kernel
theorem d_R_nextIsOneOf_4 : decode b_R_nextIsOneOf 4 = .ok (.iload_n 1, 1) := by decide +kernel
theorem d_R_nextIsOneOf_5 : decode b_R_nextIsOneOf 5 = .ok (.if_icmp .lt 15, 3) := by decide +kernel
theorem d_R_nextIsOneOf_8 : decode b_R_nextIsOneOf 8 = .ok (.aload_n 0, 1) := by decide +kernel
theorem d_R_nextIsOneOf_9 : decode b_R_nextIsOneOf 9 = .ok (.invokevirtual 39, 3) := by decide +kernel
theorem d_R_nextIsOneOf_12 : decode b_R_nextIsOneOf 12 = .ok (.iload_n 2, 1) := by decide +kernel
theorem d_R_nextIsOneOf_13 : decode b_R_nextIsOneOf 13 = .ok (.if_icmp .gt 7, 3) := by decide +kernel
theorem d_R_nextIsOneOf_16 : decode b_R_nextIsOneOf 16 = .ok (.iconst 1, 1) := by decide +kernel
theorem d_R_nextIsOneOf_17 : decode b_R_nextIsOneOf 17 = .ok (.goto 4, 3) := by decide +kernel
theorem d_R_nextIsOneOf_20 : decode b_R_nextIsOneOf 20 = .ok (.iconst 0, 1) := by decide +kernel
theorem d_R_nextIsOneOf_21 : decode b_R_nextIsOneOf 21 = .ok (.ireturn, 1) := by decide +kernel
theorem d_R_takeOneOf_0 : decode b_R_takeOneOf 0 = .ok (.aload_n 0, 1) := by decide +kernel
theorem d_R_takeOneOf_1 : decode b_R_takeOneOf 1 = .ok (.invokevirtual 39, 3) := by decide +kernel
theorem d_R_takeOneOf_4 : decode b_R_takeOneOf 4 = .ok (.istore_n 3, 1) := by decide +kernel
theorem d_R_takeOneOf_5 : decode b_R_takeOneOf 5 = .ok (.iload_n 3, 1) := by decide +kernel
theorem d_R_takeOneOf_6 : decode b_R_takeOneOf 6 = .ok (.iload_n 1, 1) := by decide +kernel
theorem d_R_takeOneOf_7 : decode b_R_takeOneOf 7 = .ok (.if_icmp .lt 8, 3) := by decide +kernel
theorem d_R_takeOneOf_10 : decode b_R_takeOneOf 10 = .ok (.iload_n 3, 1) := by decide +kernel
theorem d_R_takeOneOf_11 : decode b_R_takeOneOf 11 = .ok (.iload_n 2, 1) := by decide +kernel
theorem d_R_takeOneOf_12 : decode b_R_takeOneOf 12 = .ok (.if_icmp .le 14, 3) := by decide +kernel
theorem d_R_takeOneOf_15 : decode b_R_takeOneOf 15 = .ok (.aload_n 0, 1) := by decide +kernel
theorem d_R_takeOneOf_16 : decode b_R_takeOneOf 16 = .ok (.getfield 22, 3) := by decide +kernel
theorem d_R_takeOneOf_19 : decode b_R_takeOneOf 19 = .ok (.aload_n 0, 1) := by decide +kernel
theorem d_R_takeOneOf_20 : decode b_R_takeOneOf 20 = .ok (.getfield 9, 3) := by decide +kernel
theorem d_R_takeOneOf_23 : decode b_R_takeOneOf 23 = .ok (.invokevirtual 61, 3) := by decide +kernel
theorem d_R_takeOneOf_26 : decode b_R_takeOneOf 26 = .ok (.aload_n 0, 1) := by decide +kernel
theorem d_R_takeOneOf_27 : decode b_R_takeOneOf 27 = .ok (.dup, 1) := by decide +kernel
theorem d_R_takeOneOf_28 : decode b_R_takeOneOf 28 = .ok (.getfield 9, 3) := by decide +kernel
theorem d_R_takeOneOf_31 : decode b_R_takeOneOf 31 = .ok (.iconst 1, 1) := by decide +kernel
theorem d_R_takeOneOf_32 : decode b_R_takeOneOf 32 = .ok (.iadd, 1) := by decide +kernel
theorem d_R_takeOneOf_33 : decode b_R_takeOneOf 33 = .ok (.putfield 9, 3) := by decide +kernel
theorem d_R_takeOneOf_36 : decode b_R_takeOneOf 36 = .ok (.iload_n 3, 1) := by decide +kernel
theorem d_R_takeOneOf_37 : decode b_R_takeOneOf 37 = .ok (.iload_n 1, 1) := by decide +kernel
theorem d_R_takeOneOf_38 : decode b_R_takeOneOf 38 = .ok (.isub, 1) := by decide +kernel
theorem d_R_takeOneOf_39 : decode b_R_takeOneOf 39 = .ok (.ireturn, 1) := by decide +kernel
theorem va_up2 {α : Type} (f : Nat → α) (i : Nat) (a b : α) : va_up (va_up f i a) i b = va_up f i b := by
  funext j
  by_cases h : j = i
  · subst h; rw [va_up_self, va_up_self]
  · rw [va_up_ne _ _ h, va_up_ne _ _ h, va_up_ne _ _ h]
section RD0
variable {G : zG} {K : zK} {y : MethodName} {cc : ByteArray} {nL : Nat} {ret : Option FieldType} {hs : List (Nat × Nat × Nat × Nat)} {n k1 k2 pc : Nat} {σ : zS} {lv : List (Nat × Value)} {st : List Value}
theorem z_putS (C : zC G K y cc nL ret hs) (pc' : Nat) {i ci idx fk : Nat} {ty : FieldType} {fs : List Value} {v : Value} (hf : zP y.cls idx ci fk ty) (hd : decode cc pc = .ok (.putfield idx, 3)) (hp : pc + 3 = pc') (hi : i < n) (hl : fk < fs.length) (hn : narrow ty v = v) (hfit : fits ty v = true)
    (k : Z G K n (va_up σ i (.inr (ci, fs.set fk v))) k1 k2 pc' lv st) : Z G K n (va_up σ i (.inr (ci, fs))) k1 k2 pc lv (v :: .ref i :: st) := z_put C pc' hf hd hp hi (va_up_self _ _ _) hl hn hfit (by rw [va_up2]; exact k)
theorem z_putFS (C : zC G K y cc nL ret hs) (pc' : Nat) {i ci idx fk : Nat} {ty : FieldType} {fs : List Value} {v : Value} (hf : zPF y.cls idx ci fk ty) (hin : y.name = "<init>") (hd : decode cc pc = .ok (.putfield idx, 3)) (hp : pc + 3 = pc') (hi : i < n) (hl : fk < fs.length) (hn : narrow ty v = v) (hfit : fits ty v = true)
    (k : Z G K n (va_up σ i (.inr (ci, fs.set fk v))) k1 k2 pc' lv st) : Z G K n (va_up σ i (.inr (ci, fs))) k1 k2 pc lv (v :: .ref i :: st) := z_putF C pc' hf hin hd hp hi (va_up_self _ _ _) hl hn hfit (by rw [va_up2]; exact k)
end RD0
/-- the Reader's cell: text, length, fault, at -/
def rdC (p z : Nat) : va_E := .inr (4, [.ref 1, .int (nI z), .ref 2, .int (nI p)])
/-- the next character, 0 at the text's end -/
def xlk (xa : mA) (p z : Nat) : Int32 := if p < z then xa 1 p else 0
section RD
variable {G : zG} {l : Launch} {n r p z : Nat} {σ : zS} {xs : mS} {xr : Int64} {xa : mA} {xl : mL} {xf : xF}
theorem xOv_at {i : Nat} (h : 85 ≤ i) : xOv xs xr xa xl xf σ i = σ i := by
  unfold xOv
  rw [if_neg (by omega), if_neg (by omega), if_neg (by omega), if_neg (by omega), if_neg (by omega), if_neg (by omega), if_neg (by omega), if_pos h]
theorem xOv_up {i : Nat} (h : 85 ≤ i) (e : va_E) : va_up (xOv xs xr xa xl xf σ) i e = xOv xs xr xa xl xf (va_up σ i e) := by
  funext j
  by_cases q : j = i
  · subst q
    rw [va_up_self, xOv_at h, va_up_self]
  · rw [va_up_ne _ _ q]
    unfold xOv
    rw [va_up_ne _ _ q]
theorem c_T_ill (hn : 85 ≤ n) (hn2 : n < 1000000) (q : Int32) : MetZ G l y_T_ill b_T_ill 2 none [] 6 1 6 [.ref 2, .int q] n (xOv xs xr xa xl xf σ) (fun o n' σ' => o = .threw n ∧ n' = n + 1 ∧ σ' = xOv (upd xs 4 q) xr xa xl xf (va_up σ n (.inr (9, [])))) := by
  refine MetZ.of (by decide) (Nat.le_of_ble_eq_true rfl) (fun K hK hR hpo hmc hms C => ?_)
  refine z_aload_n C 1 d_T_ill_0 rfl rfl ?_
  refine z_iload_n C 2 d_T_ill_1 rfl rfl ?_
  refine zx_put2 C 5 p_T_9 d_T_ill_2 rfl (by omega) ?_
  exact z_throwS C (ci := 9) (names := zNm) (text := "the text is ill") rfl (by decide) zNm_fit cl_T_15 ini_e1 (by decide) at_T_19 d_T_ill_5 d_T_ill_8 d_T_ill_9 d_T_ill_11 d_T_ill_14 (fun h hh => nomatch hh) (by rw [hR]; show 2 + 3 < _; simp only [zRm]; omega) (by rw [hR]; show _ + (13 * (2 + 1) + 43) ≤ _; simp only [zRm]; exact Nat.le_of_ble_eq_true rfl) (by omega) (by rw [hR]; simp only [zRm]; omega) (by rw [hR]; simp only [zRm]; omega) (by rw [hmc]; omega) (by rw [hms]; omega) (by rw [hpo]; exact ⟨rfl, rfl, xOv_up hn _⟩)
theorem c_R_init (hr : r < n) (x : Int32) : MetZ G l y_R_init b_R_init 4 none [] 1 0 0 [.ref r, .ref 1, .int x, .ref 2] n (va_up σ r (.inr (4, [.null, .int 0, .null, .int 0]))) (fun o n' σ' => o = .returned none ∧ n' = n ∧ σ' = va_up σ r (.inr (4, [.ref 1, .int x, .ref 2, .int 0]))) := by
  refine MetZ.of (by decide) (Nat.le_of_ble_eq_true rfl) (fun K hK hR hpo hmc hms C => ?_)
  refine z_aload_n C 1 d_R_init_0 rfl rfl ?_
  refine z_objinit C 4 d_R_init_1 rfl o_R_3 i_obj w_obj (by rw [hR]; decide) (by rw [hR]; decide) ?_
  refine z_aload_n C 5 d_R_init_4 rfl rfl ?_
  refine z_iconst C 6 d_R_init_5 rfl 0 (by decide) ?_
  refine z_putS C 9 p_R_9 d_R_init_6 rfl hr (by decide) rfl rfl ?_
  refine z_aload_n C 10 d_R_init_9 rfl rfl ?_
  refine z_aload_n C 11 d_R_init_10 rfl rfl ?_
  refine z_putFS C 14 q_R_15 rfl d_R_init_11 rfl hr (by decide) rfl rfl ?_
  refine z_aload_n C 15 d_R_init_14 rfl rfl ?_
  refine z_iload_n C 16 d_R_init_15 rfl rfl ?_
  refine z_putFS C 19 q_R_19 rfl d_R_init_16 rfl hr (by decide) rfl rfl ?_
  refine z_aload_n C 20 d_R_init_19 rfl rfl ?_
  refine z_aload_n C 21 d_R_init_20 rfl rfl ?_
  refine z_putFS C 24 q_R_22 rfl d_R_init_21 rfl hr (z_ltb rfl) rfl rfl ?_
  exact z_vret C rfl d_R_init_24 (by rw [hpo]; exact ⟨rfl, rfl, rfl⟩) (by rw [hmc]; omega) (by rw [hms]; omega)
theorem c_R_next (hn : 85 ≤ n) (hr : 85 ≤ r) (hrn : r < n) (hrd0 : σ r = rdC p z) (hz : z ≤ 150) (hp : p ≤ 150) (hc : ∀ i, i < 150 → narrow .char (.int (xa 1 i)) = .int (xa 1 i)) : MetZ G l y_R_next b_R_next 1 (some .char) [] 0 0 0 [.ref r] n (xOv xs xr xa xl xf σ) (fun o n' σ' => o = .returned (some (.int (xlk xa p z))) ∧ n' = n ∧ σ' = xOv xs xr xa xl xf σ) := by
  have hrd : xOv xs xr xa xl xf σ r = .inr (4, [.ref 1, .int (nI z), .ref 2, .int (nI p)]) := (xOv_at hr).trans hrd0
  refine MetZ.of (by decide) (Nat.le_of_ble_eq_true rfl) (fun K hK hR hpo hmc hms C => ?_)
  refine z_aload_n C 1 d_R_next_0 rfl rfl ?_
  refine z_get C 4 f_R_9 d_R_next_1 rfl (by omega) hrd rfl ?_
  refine z_aload_n C 5 d_R_next_4 rfl rfl ?_
  refine z_get C 8 f_R_19 d_R_next_5 rfl (by omega) hrd rfl ?_
  refine z_icmp_ge C 11 23 d_R_next_8 rfl (by decide) (fun h1 => ?_) (fun h1 => ?_)
  · have h2 : ¬ p < z := fun q => absurd h1 (nI_ge q (by omega))
    refine z_iconst C 24 d_R_next_23 rfl 0 (by decide) ?_
    exact z_zret C rfl (rfl) d_R_next_24 (by rw [hpo]; exact ⟨by rw [xlk, if_neg h2], rfl, rfl⟩) (by rw [hmc]; omega) (by rw [hms]; omega)
  · have h2 : p < z := Nat.lt_of_not_le fun q => h1 (nI_le q (by omega))
    refine z_aload_n C 12 d_R_next_11 rfl rfl ?_
    refine z_get C 15 f_R_15 d_R_next_12 rfl (by omega) hrd rfl ?_
    refine z_aload_n C 16 d_R_next_15 rfl rfl ?_
    refine z_get C 19 f_R_9 d_R_next_16 rfl (by omega) hrd rfl ?_
    refine z_cald C 20 p d_R_next_19 rfl (by omega) rfl rfl (by show p < 150; omega) (by decide) ?_
    refine z_goto C 24 d_R_next_20 (by decide) ?_
    exact z_zret C rfl ((hc p (by omega))) d_R_next_24 (by rw [hpo]; exact ⟨by rw [xlk, if_pos h2], rfl, rfl⟩) (by rw [hmc]; omega) (by rw [hms]; omega)
theorem c_R_takeOneOf (hn : 85 ≤ n) (hn2 : n < 1000000) (hr : 85 ≤ r) (hrn : r < n) (hrd0 : σ r = rdC p z) (hz : z ≤ 150) (hp : p ≤ 150) (hc : ∀ i, i < 150 → narrow .char (.int (xa 1 i)) = .int (xa 1 i)) (lo hi : Int32) {mc ms : Nat} (hm : ¬ (lo ≤ xlk xa p z ∧ xlk xa p z ≤ hi) → 1 ≤ mc ∧ 6 ≤ ms) : MetZ G l y_R_takeOneOf b_R_takeOneOf 4 (some .int) [] 7 mc ms [.ref r, .int lo, .int hi] n (xOv xs xr xa xl xf σ)
    (fun o n' σ' => ((lo ≤ xlk xa p z ∧ xlk xa p z ≤ hi) ∧ o = .returned (some (.int (xlk xa p z - lo))) ∧ n' = n ∧ σ' = xOv xs xr xa xl xf (va_up σ r (rdC (p + 1) z))) ∨ (¬ (lo ≤ xlk xa p z ∧ xlk xa p z ≤ hi) ∧ o = .threw n ∧ n' = n + 1 ∧ σ' = xOv (upd xs 4 (nI p)) xr xa xl xf (va_up σ n (.inr (9, []))))) := by
  have hrd : xOv xs xr xa xl xf σ r = .inr (4, [.ref 1, .int (nI z), .ref 2, .int (nI p)]) := (xOv_at hr).trans hrd0
  refine MetZ.of (by decide) (Nat.le_of_ble_eq_true rfl) (fun K hK hR hpo hmc hms C => ?_)
  have bad : ∀ lv, zl lv 0 = some (.ref r) → ¬ (lo ≤ xlk xa p z ∧ xlk xa p z ≤ hi) → Z G K n (xOv xs xr xa xl xf σ) 0 0 15 lv [] := fun lv hl hb => by
    have hm' := hm hb
    refine z_aload_n C 16 d_R_takeOneOf_15 rfl hl ?_
    refine z_get C 19 f_R_22 d_R_takeOneOf_16 rfl (by omega) hrd rfl ?_
    refine z_aload_n C 20 d_R_takeOneOf_19 rfl hl ?_
    refine z_get C 23 f_R_9 d_R_takeOneOf_20 rfl (by omega) hrd rfl ?_
    refine z_call C 26 (c_T_ill hn hn2 (nI p)) w_T_ill ini_T d_R_takeOneOf_23 rfl (z_goV (As := [.int (nI p)]) C l_R_61 w_T_ill d_R_takeOneOf_23 (by omega) rfl rfl rfl) (Nat.le_of_ble_eq_true rfl) (by rw [hR]; simp only [zRm]; omega) (by rw [hR]; simp only [zRm]; omega) (by rw [hR]; simp only [zRm]; omega) (by rw [hR]; simp only [zRm]; omega) (fun v n' σ' hv => ?_) (fun x n' σ' hv => ?_)
    · cases hv.1
    · obtain ⟨e0, rfl, rfl⟩ := hv
      cases e0
      exact zx_out C (fun h hh => nomatch hh) (by rw [hpo]; exact Or.inr ⟨hb, rfl, rfl, rfl⟩) (by rw [hmc]; omega) (by rw [hms]; omega)
  refine z_aload_n C 1 d_R_takeOneOf_0 rfl rfl ?_
  refine z_call C 4 (c_R_next hn hr hrn hrd0 hz hp hc) w_R_next ini_R d_R_takeOneOf_1 rfl (z_goV (As := []) C l_R_39 w_R_next d_R_takeOneOf_1 (by omega) (hrd) rfl rfl) (Nat.le_of_ble_eq_true rfl) (by rw [hR]; simp only [zRm]; omega) (by rw [hR]; simp only [zRm]; omega) (by rw [hR]; simp only [zRm]; omega) (by rw [hR]; simp only [zRm]; omega) (fun v n' σ' hv => ?_) (fun x n' σ' hv => ?_)
  · obtain ⟨e0, e1, rfl⟩ := hv
    cases e0
    obtain rfl : n = n' := e1.symm
    refine z_istore_n C 5 d_R_takeOneOf_4 rfl (by decide) ?_
    refine z_iload_n C 6 d_R_takeOneOf_5 rfl rfl ?_
    refine z_iload_n C 7 d_R_takeOneOf_6 rfl rfl ?_
    refine z_icmp_lt C 10 15 d_R_takeOneOf_7 rfl (by decide) (fun h1 => ?_) (fun h1 => ?_)
    · exact bad _ rfl (fun q => Int32.not_le.mpr h1 q.1)
    · refine z_iload_n C 11 d_R_takeOneOf_10 rfl rfl ?_
      refine z_iload_n C 12 d_R_takeOneOf_11 rfl rfl ?_
      refine z_icmp_le C 15 26 d_R_takeOneOf_12 rfl (by decide) (fun h2 => ?_) (fun h2 => ?_)
      · refine z_aload_n C 27 d_R_takeOneOf_26 rfl rfl ?_
        refine z_dup C 28 d_R_takeOneOf_27 rfl rfl ?_
        refine z_get C 31 f_R_9 d_R_takeOneOf_28 rfl (by omega) hrd rfl ?_
        refine z_iconst C 32 d_R_takeOneOf_31 rfl 1 (by decide) ?_
        refine z_iadd C 33 d_R_takeOneOf_32 rfl ?_
        refine z_put C 36 p_R_9 d_R_takeOneOf_33 rfl hrn hrd (z_ltb rfl) rfl rfl ?_
        refine z_iload_n C 37 d_R_takeOneOf_36 rfl rfl ?_
        refine z_iload_n C 38 d_R_takeOneOf_37 rfl rfl ?_
        refine z_isub C 39 d_R_takeOneOf_38 rfl ?_
        exact z_iret C rfl d_R_takeOneOf_39 (by rw [hpo]; exact Or.inl ⟨⟨Int32.not_lt.mp h1, h2⟩, rfl, rfl, by rw [xOv_up hr]; show xOv _ _ _ _ _ (va_up σ r (.inr (4, [.ref 1, .int (nI z), .ref 2, .int (nI p + 1)]))) = _; rw [nI_1]; rfl⟩) (by rw [hmc]; omega) (by rw [hms]; omega)
      · exact bad _ rfl (fun q => h2 q.2)
  · cases hv.1
end RD
