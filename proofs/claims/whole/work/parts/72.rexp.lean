theorem d_R_readExpression_0 : decode b_R_readExpression 0 = .ok (.iload_n 1, 1) := by decide +kernel
theorem d_R_readExpression_1 : decode b_R_readExpression 1 = .ok (.bipush 8, 2) := by decide +kernel
theorem d_R_readExpression_3 : decode b_R_readExpression 3 = .ok (.if_icmp .le 8, 3) := by decide +kernel
theorem d_R_readExpression_6 : decode b_R_readExpression 6 = .ok (.aload_n 0, 1) := by decide +kernel
theorem d_R_readExpression_7 : decode b_R_readExpression 7 = .ok (.invokevirtual 70, 3) := by decide +kernel
theorem d_R_readExpression_10 : decode b_R_readExpression 10 = .ok (.areturn, 1) := by decide +kernel
theorem d_R_readExpression_11 : decode b_R_readExpression 11 = .ok (.aload_n 0, 1) := by decide +kernel
theorem d_R_readExpression_12 : decode b_R_readExpression 12 = .ok (.bipush 48, 2) := by decide +kernel
theorem d_R_readExpression_14 : decode b_R_readExpression 14 = .ok (.bipush 57, 2) := by decide +kernel
theorem d_R_readExpression_16 : decode b_R_readExpression 16 = .ok (.invokevirtual 74, 3) := by decide +kernel
theorem d_R_readExpression_19 : decode b_R_readExpression 19 = .ok (.ifCond .eq 8, 3) := by decide +kernel
theorem d_R_readExpression_22 : decode b_R_readExpression 22 = .ok (.aload_n 0, 1) := by decide +kernel
theorem d_R_readExpression_23 : decode b_R_readExpression 23 = .ok (.invokevirtual 78, 3) := by decide +kernel
theorem d_R_readExpression_26 : decode b_R_readExpression 26 = .ok (.areturn, 1) := by decide +kernel
theorem d_R_readExpression_27 : decode b_R_readExpression 27 = .ok (.aload_n 0, 1) := by decide +kernel
theorem d_R_readExpression_28 : decode b_R_readExpression 28 = .ok (.bipush 97, 2) := by decide +kernel
theorem d_R_readExpression_30 : decode b_R_readExpression 30 = .ok (.bipush 116, 2) := by decide +kernel
theorem d_R_readExpression_32 : decode b_R_readExpression 32 = .ok (.invokevirtual 74, 3) := by decide +kernel
theorem d_R_readExpression_35 : decode b_R_readExpression 35 = .ok (.ifCond .eq 9, 3) := by decide +kernel
theorem d_R_readExpression_38 : decode b_R_readExpression 38 = .ok (.aload_n 0, 1) := by decide +kernel
theorem d_R_readExpression_39 : decode b_R_readExpression 39 = .ok (.iload_n 1, 1) := by decide +kernel
theorem d_R_readExpression_40 : decode b_R_readExpression 40 = .ok (.invokevirtual 81, 3) := by decide +kernel
theorem d_R_readExpression_43 : decode b_R_readExpression 43 = .ok (.areturn, 1) := by decide +kernel
theorem d_R_readExpression_44 : decode b_R_readExpression 44 = .ok (.aload_n 0, 1) := by decide +kernel
theorem d_R_readExpression_45 : decode b_R_readExpression 45 = .ok (.bipush 65, 2) := by decide +kernel
theorem d_R_readExpression_47 : decode b_R_readExpression 47 = .ok (.bipush 72, 2) := by decide +kernel
theorem d_R_readExpression_49 : decode b_R_readExpression 49 = .ok (.invokevirtual 74, 3) := by decide +kernel
theorem d_R_readExpression_52 : decode b_R_readExpression 52 = .ok (.ifCond .eq 9, 3) := by decide +kernel
theorem d_R_readExpression_55 : decode b_R_readExpression 55 = .ok (.aload_n 0, 1) := by decide +kernel
theorem d_R_readExpression_56 : decode b_R_readExpression 56 = .ok (.iload_n 1, 1) := by decide +kernel
theorem d_R_readExpression_57 : decode b_R_readExpression 57 = .ok (.invokevirtual 84, 3) := by decide +kernel
theorem d_R_readExpression_60 : decode b_R_readExpression 60 = .ok (.areturn, 1) := by decide +kernel
theorem d_R_readExpression_61 : decode b_R_readExpression 61 = .ok (.aload_n 0, 1) := by decide +kernel
theorem d_R_readExpression_62 : decode b_R_readExpression 62 = .ok (.invokevirtual 39, 3) := by decide +kernel
theorem d_R_readExpression_65 : decode b_R_readExpression 65 = .ok (.lookupswitch 143 #[(35, 113), (36, 129), (37, 107), (38, 95), (40, 83), (63, 89), (64, 101), (94, 121), (126, 137)], 83) := by decide +kernel
theorem d_R_readExpression_148 : decode b_R_readExpression 148 = .ok (.aload_n 0, 1) := by decide +kernel
theorem d_R_readExpression_149 : decode b_R_readExpression 149 = .ok (.iload_n 1, 1) := by decide +kernel
theorem d_R_readExpression_150 : decode b_R_readExpression 150 = .ok (.invokevirtual 87, 3) := by decide +kernel
theorem d_R_readExpression_153 : decode b_R_readExpression 153 = .ok (.areturn, 1) := by decide +kernel
theorem d_R_readExpression_154 : decode b_R_readExpression 154 = .ok (.aload_n 0, 1) := by decide +kernel
theorem d_R_readExpression_155 : decode b_R_readExpression 155 = .ok (.iload_n 1, 1) := by decide +kernel
theorem d_R_readExpression_156 : decode b_R_readExpression 156 = .ok (.invokevirtual 90, 3) := by decide +kernel
theorem d_R_readExpression_159 : decode b_R_readExpression 159 = .ok (.areturn, 1) := by decide +kernel
theorem d_R_readExpression_160 : decode b_R_readExpression 160 = .ok (.aload_n 0, 1) := by decide +kernel
theorem d_R_readExpression_161 : decode b_R_readExpression 161 = .ok (.iload_n 1, 1) := by decide +kernel
theorem d_R_readExpression_162 : decode b_R_readExpression 162 = .ok (.invokevirtual 93, 3) := by decide +kernel
theorem d_R_readExpression_165 : decode b_R_readExpression 165 = .ok (.areturn, 1) := by decide +kernel
theorem d_R_readExpression_166 : decode b_R_readExpression 166 = .ok (.aload_n 0, 1) := by decide +kernel
theorem d_R_readExpression_167 : decode b_R_readExpression 167 = .ok (.iload_n 1, 1) := by decide +kernel
theorem d_R_readExpression_168 : decode b_R_readExpression 168 = .ok (.invokevirtual 96, 3) := by decide +kernel
theorem d_R_readExpression_171 : decode b_R_readExpression 171 = .ok (.areturn, 1) := by decide +kernel
theorem d_R_readExpression_172 : decode b_R_readExpression 172 = .ok (.aload_n 0, 1) := by decide +kernel
theorem d_R_readExpression_173 : decode b_R_readExpression 173 = .ok (.iload_n 1, 1) := by decide +kernel
theorem d_R_readExpression_174 : decode b_R_readExpression 174 = .ok (.invokevirtual 99, 3) := by decide +kernel
theorem d_R_readExpression_177 : decode b_R_readExpression 177 = .ok (.areturn, 1) := by decide +kernel
theorem d_R_readExpression_178 : decode b_R_readExpression 178 = .ok (.aload_n 0, 1) := by decide +kernel
theorem d_R_readExpression_179 : decode b_R_readExpression 179 = .ok (.getstatic 102, 3) := by decide +kernel
theorem d_R_readExpression_182 : decode b_R_readExpression 182 = .ok (.invokevirtual 108, 3) := by decide +kernel
theorem d_R_readExpression_185 : decode b_R_readExpression 185 = .ok (.areturn, 1) := by decide +kernel
theorem d_R_readExpression_186 : decode b_R_readExpression 186 = .ok (.aload_n 0, 1) := by decide +kernel
theorem d_R_readExpression_187 : decode b_R_readExpression 187 = .ok (.getstatic 112, 3) := by decide +kernel
theorem d_R_readExpression_190 : decode b_R_readExpression 190 = .ok (.invokevirtual 108, 3) := by decide +kernel
theorem d_R_readExpression_193 : decode b_R_readExpression 193 = .ok (.areturn, 1) := by decide +kernel
theorem d_R_readExpression_194 : decode b_R_readExpression 194 = .ok (.aload_n 0, 1) := by decide +kernel
theorem d_R_readExpression_195 : decode b_R_readExpression 195 = .ok (.getstatic 115, 3) := by decide +kernel
theorem d_R_readExpression_198 : decode b_R_readExpression 198 = .ok (.invokevirtual 108, 3) := by decide +kernel
theorem d_R_readExpression_201 : decode b_R_readExpression 201 = .ok (.areturn, 1) := by decide +kernel
theorem d_R_readExpression_202 : decode b_R_readExpression 202 = .ok (.aload_n 0, 1) := by decide +kernel
theorem d_R_readExpression_203 : decode b_R_readExpression 203 = .ok (.iload_n 1, 1) := by decide +kernel
theorem d_R_readExpression_204 : decode b_R_readExpression 204 = .ok (.invokevirtual 118, 3) := by decide +kernel
theorem d_R_readExpression_207 : decode b_R_readExpression 207 = .ok (.areturn, 1) := by decide +kernel
theorem d_R_readExpression_208 : decode b_R_readExpression 208 = .ok (.aload_n 0, 1) := by decide +kernel
theorem d_R_readExpression_209 : decode b_R_readExpression 209 = .ok (.invokevirtual 70, 3) := by decide +kernel
theorem d_R_readExpression_212 : decode b_R_readExpression 212 = .ok (.areturn, 1) := by decide +kernel
theorem sf_102 : Cond.fieldLink "SoleArrays$Reader" 102 "SoleArrays$Form" "HEIGHT" "LSoleArrays$Form;" ∈ zTb := zt3 46 (by decide +kernel) rfl
theorem sf_112 : Cond.fieldLink "SoleArrays$Reader" 112 "SoleArrays$Form" "WIDTH" "LSoleArrays$Form;" ∈ zTb := zt3 48 (by decide +kernel) rfl
theorem sf_115 : Cond.fieldLink "SoleArrays$Reader" 115 "SoleArrays$Form" "COPY" "LSoleArrays$Form;" ∈ zTb := zt3 50 (by decide +kernel) rfl
section RDX
variable {G : zG} {l : Launch} {d r p z B N : Nat} {σ : zS} {xs : mS} {xr : Int64} {xa : mA} {xl : mL} {xf : xF} {E : Nat → eN} {A : mA}
theorem rPost_ret {res : rR} {v : Option Value} {n' : Nat} {σ' : zS} (h : rPost B N r z σ xs xr xa xl xf res (.returned v) n' σ') : v = some (.ref (B + 2 * N)) := by
  cases res with
  | inl q =>
    obtain ⟨x, τ, h1, -⟩ := h
    cases h1
  | inr s =>
    have h1 := h.1
    cases h1
    rfl
theorem rIll_mk2 {M q : Nat} {E' : Nat → eN} (hrB : r < B) (hM : M ≤ 150) : rIll B r σ xs xr xa xl xf q (.threw (B + 2 * M)) (B + 2 * M + 1) (xOv (upd xs 4 (nI q)) xr xa xl xf (va_up (eOv B M E' σ) (B + 2 * M) (.inr (9, [])))) := by
  refine ⟨B + 2 * M, _, rfl, rfl, by omega, by omega, rfl, va_up_self _ _ _, fun k hk => ?_⟩
  rw [va_up_ne _ _ (by omega), eOv_lo (by omega)]
theorem lk_off (ps : List (Int × Int)) (dflt x : Int) (h : ps.all (fun a => !(a.1 == x)) = true) : Op.lookupswitch.offset ps dflt x = dflt := by
  induction ps with
  | nil => rfl
  | cons a r ih =>
    obtain ⟨a, o⟩ := a
    rw [List.all_cons, Bool.and_eq_true] at h
    rw [Op.lookupswitch.offset_cons, if_neg (by have := h.1; simpa using this)]
    exact ih h.2
theorem rHyp_0 : rHyp G l 0 := by
  intro B N r p z σ xs xr xa xl xf A E mc ms h hmc0 hms0
  obtain ⟨hr, hrB, hB, hrd0, hz, hp, hN, hc⟩ := h
  have hrd : xOv xs xr xa xl xf (eOv B N E σ) r = .inr (4, [.ref 1, .int (nI z), .ref 2, .int (nI p)]) := (xOv_at (by omega)).trans ((eOv_lo hrB).trans hrd0)
  have hm1 : 2 * (p - p) + 1 ≤ mc := hmc0
  have hm2 : 14 * (p - p) + 6 ≤ ms := hms0
  refine MetZ.of (by decide) (Nat.le_of_ble_eq_true rfl) (fun K hK hR hpo hmc hms C => ?_)
  refine z_iload_n C 1 d_R_readExpression_0 rfl rfl ?_
  refine z_bipush C 3 d_R_readExpression_1 rfl 8 (by decide) ?_
  refine z_icmp_le C 6 11 d_R_readExpression_3 rfl (by decide) (fun h9 => absurd h9 (show ¬ nI 9 ≤ 8 by decide)) (fun _ => ?_)
  refine z_aload_n C 7 d_R_readExpression_6 rfl rfl ?_
  refine z_call C 10 (c_R_refuse (by omega) (by omega) (by omega) (by omega) ((eOv_lo hrB).trans hrd0)) w_R_refuse ini_R d_R_readExpression_7 rfl (z_goV (As := []) C l_R_70 w_R_refuse d_R_readExpression_7 (by omega) (hrd) rfl rfl) (Nat.le_of_ble_eq_true rfl) (by rw [hR]; simp only [zRm]; omega) (by rw [hR]; simp only [zRm]; omega) (by rw [hR]; simp only [zRm]; omega) (by rw [hR]; simp only [zRm]; omega) (fun v n' σ' hv => ?_) (fun x n' σ' hv => ?_)
  rotate_left
  · obtain ⟨e0, rfl, rfl⟩ := hv
    cases e0
    exact zx_out C (fun h hh => nomatch hh) (by rw [hpo]; exact rIll_mk2 hrB (by omega)) (by rw [hmc]; omega) (by rw [hms]; omega)
  · cases hv.1
theorem rHyp_s (RX : rHyp G l d) (hd7 : d ≤ 7) : rHyp G l (d + 1) := by
  intro B N r p z σ xs xr xa xl xf A E mc ms h
  obtain ⟨res, hres⟩ : ∃ x, rdE (xa 1) z (d + 1) (p, N, A, E) = x := ⟨_, rfl⟩
  rw [hres, show 9 - (d + 1) = 8 - d by omega]
  intro hmc0 hms0
  have h0 := h
  obtain ⟨hr, hrB, hB, hrd0, hz, hp, hN, hc⟩ := h
  have hrd : xOv xs xr xa xl xf (eOv B N E σ) r = .inr (4, [.ref 1, .int (nI z), .ref 2, .int (nI p)]) := (xOv_at (by omega)).trans ((eOv_lo hrB).trans hrd0)
  rw [rdE] at hres
  dsimp only at hres
  refine MetZ.of (by decide) (Nat.le_of_ble_eq_true rfl) (fun K hK hR hpo hmc hms C => ?_)
  subst hK
  refine z_iload_n C 1 d_R_readExpression_0 rfl rfl ?_
  refine z_bipush C 3 d_R_readExpression_1 rfl 8 (by decide) ?_
  refine z_icmp_le C 6 11 d_R_readExpression_3 rfl (by decide) (fun _ => ?_) (fun h9 => absurd (show nI (8 - d) ≤ nI 8 from (nI_leI (by omega) (by omega)).mpr (by omega)) h9)

  refine z_aload_n C 12 d_R_readExpression_11 rfl rfl ?_
  refine z_bipush C 14 d_R_readExpression_12 rfl 48 (by decide) ?_
  refine z_bipush C 16 d_R_readExpression_14 rfl 57 (by decide) ?_
  refine z_call C 19 (c_R_nextIsOneOf (p := p) (z := z) (by omega) (by omega) (by omega) ((eOv_lo hrB).trans hrd0) hz (by omega) hc 48 57) w_R_nextIsOneOf ini_R d_R_readExpression_16 rfl (z_goV (As := [.int 48, .int 57]) C l_R_74 w_R_nextIsOneOf d_R_readExpression_16 (by omega) (hrd) rfl rfl) (Nat.le_of_ble_eq_true rfl) (by rw [hR]; simp only [zRm]; omega) (by rw [hR]; simp only [zRm]; omega) (by rw [hR]; simp only [zRm]; omega) (by rw [hR]; simp only [zRm]; omega) (fun v n' σ' hv => ?_) (fun x n' σ' hv => ?_)
  rotate_left
  · cases hv.1
  obtain ⟨e0, e1, rfl⟩ := hv
  subst e1
  by_cases q1 : 48 ≤ rlk (xa 1) z p ∧ rlk (xa 1) z p ≤ 57
  · rw [show (if (48 : Int32) ≤ xlk xa p z ∧ xlk xa p z ≤ 57 then (1 : Int32) else 0) = 1 from if_pos q1] at e0
    cases e0
    rw [if_pos q1] at hres
    refine z_if_eq C 22 27 d_R_readExpression_19 rfl (by decide) (fun h9 => absurd h9 (show ¬ (1 : Int32) = 0 by decide)) (fun _ => ?_)
    have hdl := rDigs_lt (T := xa 1) (z := z) (v := 0) q1 3
    have hdl1 : p < (rDigs (xa 1) z 4 p 0).1 := hdl.1
    have hm1 : 2 * ((rDigs (xa 1) z 4 p 0).1 - p) ≤ mc := by rw [← hres] at hmc0; exact hmc0
    have hm2 : 14 * ((rDigs (xa 1) z 4 p 0).1 - p) ≤ ms := by rw [← hres] at hms0; exact hms0
    refine z_aload_n C 23 d_R_readExpression_22 rfl rfl ?_
    refine z_call C 26 (c_R_readDigits h0 (mc := mc) (ms := ms) (by omega) (by omega)) w_R_readDigits ini_R d_R_readExpression_23 rfl (z_goV (As := []) C l_R_78 w_R_readDigits d_R_readExpression_23 (by omega) (hrd) rfl rfl) (Nat.le_of_ble_eq_true rfl) (by rw [hR]; simp only [zRm]; omega) (by rw [hR]; simp only [zRm]; omega) (by rw [hR]; simp only [zRm]; omega) (by rw [hR]; simp only [zRm]; omega) (fun v n' σ' hv => ?_) (fun x n' σ' hv => ?_)
    rotate_left
    · cases hv.1
    obtain ⟨e0, rfl, rfl⟩ := hv
    cases e0
    exact z_aret C rfl d_R_readExpression_26 (by rw [hpo]; exact (by rw [← hres]; exact ⟨rfl, rfl, rfl⟩)) (by rw [hmc]; omega) (by rw [hms]; omega)
  rw [show (if (48 : Int32) ≤ xlk xa p z ∧ xlk xa p z ≤ 57 then (1 : Int32) else 0) = 0 from if_neg q1] at e0
  cases e0
  rw [if_neg q1] at hres
  refine z_if_eq C 22 27 d_R_readExpression_19 rfl (by decide) (fun _ => ?_) (fun h9 => absurd (show (0 : Int32) = 0 from rfl) h9)
  refine z_aload_n C 28 d_R_readExpression_27 rfl rfl ?_
  refine z_bipush C 30 d_R_readExpression_28 rfl 97 (by decide) ?_
  refine z_bipush C 32 d_R_readExpression_30 rfl 116 (by decide) ?_
  refine z_call C 35 (c_R_nextIsOneOf (p := p) (z := z) (by omega) (by omega) (by omega) ((eOv_lo hrB).trans hrd0) hz (by omega) hc 97 116) w_R_nextIsOneOf ini_R d_R_readExpression_32 rfl (z_goV (As := [.int 97, .int 116]) C l_R_74 w_R_nextIsOneOf d_R_readExpression_32 (by omega) (hrd) rfl rfl) (Nat.le_of_ble_eq_true rfl) (by rw [hR]; simp only [zRm]; omega) (by rw [hR]; simp only [zRm]; omega) (by rw [hR]; simp only [zRm]; omega) (by rw [hR]; simp only [zRm]; omega) (fun v n' σ' hv => ?_) (fun x n' σ' hv => ?_)
  rotate_left
  · cases hv.1
  obtain ⟨e0, e1, rfl⟩ := hv
  subst e1
  by_cases q2 : 97 ≤ rlk (xa 1) z p ∧ rlk (xa 1) z p ≤ 116
  · rw [show (if (97 : Int32) ≤ xlk xa p z ∧ xlk xa p z ≤ 116 then (1 : Int32) else 0) = 1 from if_pos q2] at e0
    cases e0
    rw [if_pos q2] at hres
    refine z_if_eq C 38 44 d_R_readExpression_35 rfl (by decide) (fun h9 => absurd h9 (show ¬ (1 : Int32) = 0 by decide)) (fun _ => ?_)
    refine z_aload_n C 39 d_R_readExpression_38 rfl rfl ?_
    refine z_iload_n C 40 d_R_readExpression_39 rfl rfl ?_
    refine z_call C 43 (c_R_readFromVariable (A := A) RX (by omega) h0 q2 rfl hres (mc := mc) (ms := ms) hmc0 hms0) w_R_readFromVariable ini_R d_R_readExpression_40 rfl (z_goV (As := [.int (nI (8 - d))]) C l_R_81 w_R_readFromVariable d_R_readExpression_40 (by omega) (hrd) rfl rfl) (Nat.le_of_ble_eq_true rfl) (by rw [hR]; simp only [zRm]; omega) (by rw [hR]; simp only [zRm]; omega) (by rw [hR]; simp only [zRm]; omega) (by rw [hR]; simp only [zRm]; omega) (fun v n' σ' hv => ?_) (fun x n' σ' hv => ?_)
    rotate_left
    · exact zx_out C (fun h hh => nomatch hh) (by rw [hpo]; exact hv) (by rw [hmc]; omega) (by rw [hms]; omega)
    obtain rfl := rPost_ret hv
    exact z_aret C rfl d_R_readExpression_43 (by rw [hpo]; exact hv) (by rw [hmc]; omega) (by rw [hms]; omega)
  rw [show (if (97 : Int32) ≤ xlk xa p z ∧ xlk xa p z ≤ 116 then (1 : Int32) else 0) = 0 from if_neg q2] at e0
  cases e0
  rw [if_neg q2] at hres
  refine z_if_eq C 38 44 d_R_readExpression_35 rfl (by decide) (fun _ => ?_) (fun h9 => absurd (show (0 : Int32) = 0 from rfl) h9)
  refine z_aload_n C 45 d_R_readExpression_44 rfl rfl ?_
  refine z_bipush C 47 d_R_readExpression_45 rfl 65 (by decide) ?_
  refine z_bipush C 49 d_R_readExpression_47 rfl 72 (by decide) ?_
  refine z_call C 52 (c_R_nextIsOneOf (p := p) (z := z) (by omega) (by omega) (by omega) ((eOv_lo hrB).trans hrd0) hz (by omega) hc 65 72) w_R_nextIsOneOf ini_R d_R_readExpression_49 rfl (z_goV (As := [.int 65, .int 72]) C l_R_74 w_R_nextIsOneOf d_R_readExpression_49 (by omega) (hrd) rfl rfl) (Nat.le_of_ble_eq_true rfl) (by rw [hR]; simp only [zRm]; omega) (by rw [hR]; simp only [zRm]; omega) (by rw [hR]; simp only [zRm]; omega) (by rw [hR]; simp only [zRm]; omega) (fun v n' σ' hv => ?_) (fun x n' σ' hv => ?_)
  rotate_left
  · cases hv.1
  obtain ⟨e0, e1, rfl⟩ := hv
  subst e1
  by_cases q3 : 65 ≤ rlk (xa 1) z p ∧ rlk (xa 1) z p ≤ 72
  · rw [show (if (65 : Int32) ≤ xlk xa p z ∧ xlk xa p z ≤ 72 then (1 : Int32) else 0) = 1 from if_pos q3] at e0
    cases e0
    rw [if_pos q3] at hres
    refine z_if_eq C 55 61 d_R_readExpression_52 rfl (by decide) (fun h9 => absurd h9 (show ¬ (1 : Int32) = 0 by decide)) (fun _ => ?_)
    refine z_aload_n C 56 d_R_readExpression_55 rfl rfl ?_
    refine z_iload_n C 57 d_R_readExpression_56 rfl rfl ?_
    refine z_call C 60 (c_R_readCall (A := A) RX (by omega) h0 q3 rfl hres (mc := mc) (ms := ms) hmc0 hms0) w_R_readCall ini_R d_R_readExpression_57 rfl (z_goV (As := [.int (nI (8 - d))]) C l_R_84 w_R_readCall d_R_readExpression_57 (by omega) (hrd) rfl rfl) (Nat.le_of_ble_eq_true rfl) (by rw [hR]; simp only [zRm]; omega) (by rw [hR]; simp only [zRm]; omega) (by rw [hR]; simp only [zRm]; omega) (by rw [hR]; simp only [zRm]; omega) (fun v n' σ' hv => ?_) (fun x n' σ' hv => ?_)
    rotate_left
    · exact zx_out C (fun h hh => nomatch hh) (by rw [hpo]; exact hv) (by rw [hmc]; omega) (by rw [hms]; omega)
    obtain rfl := rPost_ret hv
    exact z_aret C rfl d_R_readExpression_60 (by rw [hpo]; exact hv) (by rw [hmc]; omega) (by rw [hms]; omega)
  rw [show (if (65 : Int32) ≤ xlk xa p z ∧ xlk xa p z ≤ 72 then (1 : Int32) else 0) = 0 from if_neg q3] at e0
  cases e0
  rw [if_neg q3] at hres
  refine z_if_eq C 55 61 d_R_readExpression_52 rfl (by decide) (fun _ => ?_) (fun h9 => absurd (show (0 : Int32) = 0 from rfl) h9)
  refine z_aload_n C 62 d_R_readExpression_61 rfl rfl ?_
  refine z_call C 65 (c_R_next (p := p) (z := z) (by omega) (by omega) (by omega) ((eOv_lo hrB).trans hrd0) hz (by omega) hc) w_R_next ini_R d_R_readExpression_62 rfl (z_goV (As := []) C l_R_39 w_R_next d_R_readExpression_62 (by omega) (hrd) rfl rfl) (Nat.le_of_ble_eq_true rfl) (by rw [hR]; simp only [zRm]; omega) (by rw [hR]; simp only [zRm]; omega) (by rw [hR]; simp only [zRm]; omega) (by rw [hR]; simp only [zRm]; omega) (fun v n' σ' hv => ?_) (fun x n' σ' hv => ?_)
  rotate_left
  · cases hv.1
  obtain ⟨e0, e1, rfl⟩ := hv
  cases e0
  subst e1
  have hlk : rlk (xa 1) z p = xlk xa p z := rfl

  by_cases w40 : rlk (xa 1) z p = 40
  · rw [if_pos w40] at hres
    rw [show xlk xa p z = 40 from w40]
    refine z_lookup C 148 d_R_readExpression_65 (by decide) (off := 83) (by decide) (by decide) ?_
    refine z_aload_n C 149 d_R_readExpression_148 rfl rfl ?_
    refine z_iload_n C 150 d_R_readExpression_149 rfl rfl ?_
    refine z_call C 153 (c_R_readOperation (A := A) RX (by omega) h0 w40 hres (mc := mc) (ms := ms) hmc0 hms0) w_R_readOperation ini_R d_R_readExpression_150 rfl (z_goV (As := [.int (nI (8 - d))]) C l_R_87 w_R_readOperation d_R_readExpression_150 (by omega) (hrd) rfl rfl) (Nat.le_of_ble_eq_true rfl) (by rw [hR]; simp only [zRm]; omega) (by rw [hR]; simp only [zRm]; omega) (by rw [hR]; simp only [zRm]; omega) (by rw [hR]; simp only [zRm]; omega) (fun v n' σ' hv => ?_) (fun x n' σ' hv => ?_)
    rotate_left
    · exact zx_out C (fun h hh => nomatch hh) (by rw [hpo]; exact hv) (by rw [hmc]; omega) (by rw [hms]; omega)
    obtain rfl := rPost_ret hv
    exact z_aret C rfl d_R_readExpression_153 (by rw [hpo]; exact hv) (by rw [hmc]; omega) (by rw [hms]; omega)
  rw [if_neg w40] at hres
  by_cases w63 : rlk (xa 1) z p = 63
  · rw [if_pos w63] at hres
    rw [show xlk xa p z = 63 from w63]
    refine z_lookup C 154 d_R_readExpression_65 (by decide) (off := 89) (by decide) (by decide) ?_
    refine z_aload_n C 155 d_R_readExpression_154 rfl rfl ?_
    refine z_iload_n C 156 d_R_readExpression_155 rfl rfl ?_
    refine z_call C 159 (c_R_readChoice (A := A) RX (by omega) h0 w63 hres (mc := mc) (ms := ms) hmc0 hms0) w_R_readChoice ini_R d_R_readExpression_156 rfl (z_goV (As := [.int (nI (8 - d))]) C l_R_90 w_R_readChoice d_R_readExpression_156 (by omega) (hrd) rfl rfl) (Nat.le_of_ble_eq_true rfl) (by rw [hR]; simp only [zRm]; omega) (by rw [hR]; simp only [zRm]; omega) (by rw [hR]; simp only [zRm]; omega) (by rw [hR]; simp only [zRm]; omega) (fun v n' σ' hv => ?_) (fun x n' σ' hv => ?_)
    rotate_left
    · exact zx_out C (fun h hh => nomatch hh) (by rw [hpo]; exact hv) (by rw [hmc]; omega) (by rw [hms]; omega)
    obtain rfl := rPost_ret hv
    exact z_aret C rfl d_R_readExpression_159 (by rw [hpo]; exact hv) (by rw [hmc]; omega) (by rw [hms]; omega)
  rw [if_neg w63] at hres
  by_cases w64 : rlk (xa 1) z p = 64
  · rw [if_pos w64] at hres
    rw [show xlk xa p z = 64 from w64]
    refine z_lookup C 166 d_R_readExpression_65 (by decide) (off := 101) (by decide) (by decide) ?_
    refine z_aload_n C 167 d_R_readExpression_166 rfl rfl ?_
    refine z_iload_n C 168 d_R_readExpression_167 rfl rfl ?_
    refine z_call C 171 (c_R_readNewRow (A := A) RX (by omega) h0 w64 hres (mc := mc) (ms := ms) hmc0 hms0) w_R_readNewRow ini_R d_R_readExpression_168 rfl (z_goV (As := [.int (nI (8 - d))]) C l_R_96 w_R_readNewRow d_R_readExpression_168 (by omega) (hrd) rfl rfl) (Nat.le_of_ble_eq_true rfl) (by rw [hR]; simp only [zRm]; omega) (by rw [hR]; simp only [zRm]; omega) (by rw [hR]; simp only [zRm]; omega) (by rw [hR]; simp only [zRm]; omega) (fun v n' σ' hv => ?_) (fun x n' σ' hv => ?_)
    rotate_left
    · exact zx_out C (fun h hh => nomatch hh) (by rw [hpo]; exact hv) (by rw [hmc]; omega) (by rw [hms]; omega)
    obtain rfl := rPost_ret hv
    exact z_aret C rfl d_R_readExpression_171 (by rw [hpo]; exact hv) (by rw [hmc]; omega) (by rw [hms]; omega)
  rw [if_neg w64] at hres
  by_cases w37 : rlk (xa 1) z p = 37
  · rw [if_pos w37] at hres
    rw [show xlk xa p z = 37 from w37]
    refine z_lookup C 172 d_R_readExpression_65 (by decide) (off := 107) (by decide) (by decide) ?_
    refine z_aload_n C 173 d_R_readExpression_172 rfl rfl ?_
    refine z_iload_n C 174 d_R_readExpression_173 rfl rfl ?_
    refine z_call C 177 (c_R_readNewTable (A := A) RX (by omega) h0 w37 hres (mc := mc) (ms := ms) hmc0 hms0) w_R_readNewTable ini_R d_R_readExpression_174 rfl (z_goV (As := [.int (nI (8 - d))]) C l_R_99 w_R_readNewTable d_R_readExpression_174 (by omega) (hrd) rfl rfl) (Nat.le_of_ble_eq_true rfl) (by rw [hR]; simp only [zRm]; omega) (by rw [hR]; simp only [zRm]; omega) (by rw [hR]; simp only [zRm]; omega) (by rw [hR]; simp only [zRm]; omega) (fun v n' σ' hv => ?_) (fun x n' σ' hv => ?_)
    rotate_left
    · exact zx_out C (fun h hh => nomatch hh) (by rw [hpo]; exact hv) (by rw [hmc]; omega) (by rw [hms]; omega)
    obtain rfl := rPost_ret hv
    exact z_aret C rfl d_R_readExpression_177 (by rw [hpo]; exact hv) (by rw [hmc]; omega) (by rw [hms]; omega)
  rw [if_neg w37] at hres
  by_cases w38 : rlk (xa 1) z p = 38
  · rw [if_pos w38] at hres
    rw [show xlk xa p z = 38 from w38]
    refine z_lookup C 160 d_R_readExpression_65 (by decide) (off := 95) (by decide) (by decide) ?_
    refine z_aload_n C 161 d_R_readExpression_160 rfl rfl ?_
    refine z_iload_n C 162 d_R_readExpression_161 rfl rfl ?_
    refine z_call C 165 (c_R_readBinding (A := A) RX (by omega) h0 w38 hres (mc := mc) (ms := ms) hmc0 hms0) w_R_readBinding ini_R d_R_readExpression_162 rfl (z_goV (As := [.int (nI (8 - d))]) C l_R_93 w_R_readBinding d_R_readExpression_162 (by omega) (hrd) rfl rfl) (Nat.le_of_ble_eq_true rfl) (by rw [hR]; simp only [zRm]; omega) (by rw [hR]; simp only [zRm]; omega) (by rw [hR]; simp only [zRm]; omega) (by rw [hR]; simp only [zRm]; omega) (fun v n' σ' hv => ?_) (fun x n' σ' hv => ?_)
    rotate_left
    · exact zx_out C (fun h hh => nomatch hh) (by rw [hpo]; exact hv) (by rw [hmc]; omega) (by rw [hms]; omega)
    obtain rfl := rPost_ret hv
    exact z_aret C rfl d_R_readExpression_165 (by rw [hpo]; exact hv) (by rw [hmc]; omega) (by rw [hms]; omega)
  rw [if_neg w38] at hres
  by_cases w126 : rlk (xa 1) z p = 126
  · rw [if_pos w126] at hres
    rw [show xlk xa p z = 126 from w126]
    refine z_lookup C 202 d_R_readExpression_65 (by decide) (off := 137) (by decide) (by decide) ?_
    refine z_aload_n C 203 d_R_readExpression_202 rfl rfl ?_
    refine z_iload_n C 204 d_R_readExpression_203 rfl rfl ?_
    refine z_call C 207 (c_R_readGivingUp (A := A) RX (by omega) h0 w126 hres (mc := mc) (ms := ms) hmc0 hms0) w_R_readGivingUp ini_R d_R_readExpression_204 rfl (z_goV (As := [.int (nI (8 - d))]) C l_R_118 w_R_readGivingUp d_R_readExpression_204 (by omega) (hrd) rfl rfl) (Nat.le_of_ble_eq_true rfl) (by rw [hR]; simp only [zRm]; omega) (by rw [hR]; simp only [zRm]; omega) (by rw [hR]; simp only [zRm]; omega) (by rw [hR]; simp only [zRm]; omega) (fun v n' σ' hv => ?_) (fun x n' σ' hv => ?_)
    rotate_left
    · exact zx_out C (fun h hh => nomatch hh) (by rw [hpo]; exact hv) (by rw [hmc]; omega) (by rw [hms]; omega)
    obtain rfl := rPost_ret hv
    exact z_aret C rfl d_R_readExpression_207 (by rw [hpo]; exact hv) (by rw [hmc]; omega) (by rw [hms]; omega)
  rw [if_neg w126] at hres
  by_cases w35 : rlk (xa 1) z p = 35
  · rw [if_pos w35] at hres
    rw [show xlk xa p z = 35 from w35]
    refine z_lookup C 178 d_R_readExpression_65 (by decide) (off := 113) (by decide) (by decide) ?_
    have hpz : p < z := rlk_lt w35 (by decide)
    refine z_aload_n C 179 d_R_readExpression_178 rfl rfl ?_
    refine z_getsF C 182 9 (by decide) sf_102 d_R_readExpression_179 rfl ?_
    rw [rLet] at hres
    by_cases q : 97 ≤ rlk (xa 1) z (p + 1) ∧ rlk (xa 1) z (p + 1) ≤ 116
    · rw [show (rGo (p, N, A, E) (p + 1)).1 = p + 1 from rfl, if_pos q] at hres
      have hm1 : 2 * (p + 2 - p) ≤ mc := by rw [← hres] at hmc0; exact hmc0
      have hm2 : 14 * (p + 2 - p) ≤ ms := by rw [← hres] at hms0; exact hms0
      refine z_call C 185 (c_R_readSignAndVariable (k := 9) h0 hpz (mc := mc) (ms := ms) ⟨by omega, by omega⟩ (fun x => absurd q x)) w_R_readSignAndVariable ini_R d_R_readExpression_182 rfl (z_goV (As := [.ref (1000001 + 9)]) C l_R_108 w_R_readSignAndVariable d_R_readExpression_182 (by omega) (hrd) rfl rfl) (Nat.le_of_ble_eq_true rfl) (by rw [hR]; simp only [zRm]; omega) (by rw [hR]; simp only [zRm]; omega) (by rw [hR]; simp only [zRm]; omega) (by rw [hR]; simp only [zRm]; omega) (fun v n' σ' hv => ?_) (fun x n' σ' hv => ?_)
      rotate_left
      · rcases hv with ⟨-, e0, -⟩ | ⟨x, -⟩
        · cases e0
        · exact absurd q x
      obtain ⟨-, e0, rfl, rfl⟩ := hv.resolve_right (fun x => x.1 q)
      cases e0
      exact z_aret C rfl d_R_readExpression_185 (by rw [hpo]; exact (by rw [← hres]; exact ⟨rfl, rfl, rfl⟩)) (by rw [hmc]; omega) (by rw [hms]; omega)
    · rw [show (rGo (p, N, A, E) (p + 1)).1 = p + 1 from rfl, if_neg q] at hres
      have hm1 : 2 * (p + 1 - p) + 1 ≤ mc := by rw [← hres] at hmc0; exact hmc0
      have hm2 : 14 * (p + 1 - p) + 6 ≤ ms := by rw [← hres] at hms0; exact hms0
      refine z_call C 185 (c_R_readSignAndVariable (k := 9) h0 hpz (mc := mc) (ms := ms) ⟨by omega, by omega⟩ (fun _ => ⟨by omega, by omega⟩)) w_R_readSignAndVariable ini_R d_R_readExpression_182 rfl (z_goV (As := [.ref (1000001 + 9)]) C l_R_108 w_R_readSignAndVariable d_R_readExpression_182 (by omega) (hrd) rfl rfl) (Nat.le_of_ble_eq_true rfl) (by rw [hR]; simp only [zRm]; omega) (by rw [hR]; simp only [zRm]; omega) (by rw [hR]; simp only [zRm]; omega) (by rw [hR]; simp only [zRm]; omega) (fun v n' σ' hv => ?_) (fun x n' σ' hv => ?_)
      rotate_left
      · have hv := (hv.resolve_left (fun x => q x.1)).2
        exact zx_out C (fun h hh => nomatch hh) (by rw [hpo]; exact (by rw [← hres]; exact hv)) (by rw [hmc]; omega) (by rw [hms]; omega)
      · obtain ⟨-, e0, -⟩ := hv.resolve_right (fun x => by obtain ⟨-, y, τ, e0, -⟩ := x; cases e0)
        obtain ⟨q', -⟩ := hv.resolve_right (fun x => by obtain ⟨-, y, τ, e0, -⟩ := x; cases e0)
        exact absurd q' q
  rw [if_neg w35] at hres
  by_cases w94 : rlk (xa 1) z p = 94
  · rw [if_pos w94] at hres
    rw [show xlk xa p z = 94 from w94]
    refine z_lookup C 186 d_R_readExpression_65 (by decide) (off := 121) (by decide) (by decide) ?_
    have hpz : p < z := rlk_lt w94 (by decide)
    refine z_aload_n C 187 d_R_readExpression_186 rfl rfl ?_
    refine z_getsF C 190 10 (by decide) sf_112 d_R_readExpression_187 rfl ?_
    rw [rLet] at hres
    by_cases q : 97 ≤ rlk (xa 1) z (p + 1) ∧ rlk (xa 1) z (p + 1) ≤ 116
    · rw [show (rGo (p, N, A, E) (p + 1)).1 = p + 1 from rfl, if_pos q] at hres
      have hm1 : 2 * (p + 2 - p) ≤ mc := by rw [← hres] at hmc0; exact hmc0
      have hm2 : 14 * (p + 2 - p) ≤ ms := by rw [← hres] at hms0; exact hms0
      refine z_call C 193 (c_R_readSignAndVariable (k := 10) h0 hpz (mc := mc) (ms := ms) ⟨by omega, by omega⟩ (fun x => absurd q x)) w_R_readSignAndVariable ini_R d_R_readExpression_190 rfl (z_goV (As := [.ref (1000001 + 10)]) C l_R_108 w_R_readSignAndVariable d_R_readExpression_190 (by omega) (hrd) rfl rfl) (Nat.le_of_ble_eq_true rfl) (by rw [hR]; simp only [zRm]; omega) (by rw [hR]; simp only [zRm]; omega) (by rw [hR]; simp only [zRm]; omega) (by rw [hR]; simp only [zRm]; omega) (fun v n' σ' hv => ?_) (fun x n' σ' hv => ?_)
      rotate_left
      · rcases hv with ⟨-, e0, -⟩ | ⟨x, -⟩
        · cases e0
        · exact absurd q x
      obtain ⟨-, e0, rfl, rfl⟩ := hv.resolve_right (fun x => x.1 q)
      cases e0
      exact z_aret C rfl d_R_readExpression_193 (by rw [hpo]; exact (by rw [← hres]; exact ⟨rfl, rfl, rfl⟩)) (by rw [hmc]; omega) (by rw [hms]; omega)
    · rw [show (rGo (p, N, A, E) (p + 1)).1 = p + 1 from rfl, if_neg q] at hres
      have hm1 : 2 * (p + 1 - p) + 1 ≤ mc := by rw [← hres] at hmc0; exact hmc0
      have hm2 : 14 * (p + 1 - p) + 6 ≤ ms := by rw [← hres] at hms0; exact hms0
      refine z_call C 193 (c_R_readSignAndVariable (k := 10) h0 hpz (mc := mc) (ms := ms) ⟨by omega, by omega⟩ (fun _ => ⟨by omega, by omega⟩)) w_R_readSignAndVariable ini_R d_R_readExpression_190 rfl (z_goV (As := [.ref (1000001 + 10)]) C l_R_108 w_R_readSignAndVariable d_R_readExpression_190 (by omega) (hrd) rfl rfl) (Nat.le_of_ble_eq_true rfl) (by rw [hR]; simp only [zRm]; omega) (by rw [hR]; simp only [zRm]; omega) (by rw [hR]; simp only [zRm]; omega) (by rw [hR]; simp only [zRm]; omega) (fun v n' σ' hv => ?_) (fun x n' σ' hv => ?_)
      rotate_left
      · have hv := (hv.resolve_left (fun x => q x.1)).2
        exact zx_out C (fun h hh => nomatch hh) (by rw [hpo]; exact (by rw [← hres]; exact hv)) (by rw [hmc]; omega) (by rw [hms]; omega)
      · obtain ⟨-, e0, -⟩ := hv.resolve_right (fun x => by obtain ⟨-, y, τ, e0, -⟩ := x; cases e0)
        obtain ⟨q', -⟩ := hv.resolve_right (fun x => by obtain ⟨-, y, τ, e0, -⟩ := x; cases e0)
        exact absurd q' q
  rw [if_neg w94] at hres
  by_cases w36 : rlk (xa 1) z p = 36
  · rw [if_pos w36] at hres
    rw [show xlk xa p z = 36 from w36]
    refine z_lookup C 194 d_R_readExpression_65 (by decide) (off := 129) (by decide) (by decide) ?_
    have hpz : p < z := rlk_lt w36 (by decide)
    refine z_aload_n C 195 d_R_readExpression_194 rfl rfl ?_
    refine z_getsF C 198 11 (by decide) sf_115 d_R_readExpression_195 rfl ?_
    rw [rLet] at hres
    by_cases q : 97 ≤ rlk (xa 1) z (p + 1) ∧ rlk (xa 1) z (p + 1) ≤ 116
    · rw [show (rGo (p, N, A, E) (p + 1)).1 = p + 1 from rfl, if_pos q] at hres
      have hm1 : 2 * (p + 2 - p) ≤ mc := by rw [← hres] at hmc0; exact hmc0
      have hm2 : 14 * (p + 2 - p) ≤ ms := by rw [← hres] at hms0; exact hms0
      refine z_call C 201 (c_R_readSignAndVariable (k := 11) h0 hpz (mc := mc) (ms := ms) ⟨by omega, by omega⟩ (fun x => absurd q x)) w_R_readSignAndVariable ini_R d_R_readExpression_198 rfl (z_goV (As := [.ref (1000001 + 11)]) C l_R_108 w_R_readSignAndVariable d_R_readExpression_198 (by omega) (hrd) rfl rfl) (Nat.le_of_ble_eq_true rfl) (by rw [hR]; simp only [zRm]; omega) (by rw [hR]; simp only [zRm]; omega) (by rw [hR]; simp only [zRm]; omega) (by rw [hR]; simp only [zRm]; omega) (fun v n' σ' hv => ?_) (fun x n' σ' hv => ?_)
      rotate_left
      · rcases hv with ⟨-, e0, -⟩ | ⟨x, -⟩
        · cases e0
        · exact absurd q x
      obtain ⟨-, e0, rfl, rfl⟩ := hv.resolve_right (fun x => x.1 q)
      cases e0
      exact z_aret C rfl d_R_readExpression_201 (by rw [hpo]; exact (by rw [← hres]; exact ⟨rfl, rfl, rfl⟩)) (by rw [hmc]; omega) (by rw [hms]; omega)
    · rw [show (rGo (p, N, A, E) (p + 1)).1 = p + 1 from rfl, if_neg q] at hres
      have hm1 : 2 * (p + 1 - p) + 1 ≤ mc := by rw [← hres] at hmc0; exact hmc0
      have hm2 : 14 * (p + 1 - p) + 6 ≤ ms := by rw [← hres] at hms0; exact hms0
      refine z_call C 201 (c_R_readSignAndVariable (k := 11) h0 hpz (mc := mc) (ms := ms) ⟨by omega, by omega⟩ (fun _ => ⟨by omega, by omega⟩)) w_R_readSignAndVariable ini_R d_R_readExpression_198 rfl (z_goV (As := [.ref (1000001 + 11)]) C l_R_108 w_R_readSignAndVariable d_R_readExpression_198 (by omega) (hrd) rfl rfl) (Nat.le_of_ble_eq_true rfl) (by rw [hR]; simp only [zRm]; omega) (by rw [hR]; simp only [zRm]; omega) (by rw [hR]; simp only [zRm]; omega) (by rw [hR]; simp only [zRm]; omega) (fun v n' σ' hv => ?_) (fun x n' σ' hv => ?_)
      rotate_left
      · have hv := (hv.resolve_left (fun x => q x.1)).2
        exact zx_out C (fun h hh => nomatch hh) (by rw [hpo]; exact (by rw [← hres]; exact hv)) (by rw [hmc]; omega) (by rw [hms]; omega)
      · obtain ⟨-, e0, -⟩ := hv.resolve_right (fun x => by obtain ⟨-, y, τ, e0, -⟩ := x; cases e0)
        obtain ⟨q', -⟩ := hv.resolve_right (fun x => by obtain ⟨-, y, τ, e0, -⟩ := x; cases e0)
        exact absurd q' q
  rw [if_neg w36] at hres
  have hm1 : 2 * (p - p) + 1 ≤ mc := by rw [← hres] at hmc0; exact hmc0
  have hm2 : 14 * (p - p) + 6 ≤ ms := by rw [← hres] at hms0; exact hms0
  have hne : ∀ a : Int32, rlk (xa 1) z p ≠ a → ((a.toInt == (xlk xa p z).toInt) = false) := fun a ha => by
    refine beq_false_of_ne (fun e => ha ?_)
    exact (Int32.toInt_inj.mp e).symm
  refine z_lookup C 208 d_R_readExpression_65 (by decide) (off := 143) (lk_off _ _ _ ?_) (by decide) ?_
  · show (!((35 : Int32).toInt == (xlk xa p z).toInt) && (!((36 : Int32).toInt == (xlk xa p z).toInt) && (!((37 : Int32).toInt == (xlk xa p z).toInt) && (!((38 : Int32).toInt == (xlk xa p z).toInt) && (!((40 : Int32).toInt == (xlk xa p z).toInt) && (!((63 : Int32).toInt == (xlk xa p z).toInt) && (!((64 : Int32).toInt == (xlk xa p z).toInt) && (!((94 : Int32).toInt == (xlk xa p z).toInt) && (!((126 : Int32).toInt == (xlk xa p z).toInt) && true))))))))) = true
    rw [hne 35 w35, hne 36 w36, hne 37 w37, hne 38 w38, hne 40 w40, hne 63 w63, hne 64 w64, hne 94 w94, hne 126 w126]
    rfl
  refine z_aload_n C 209 d_R_readExpression_208 rfl rfl ?_
  refine z_call C 212 (c_R_refuse (by omega) (by omega) (by omega) (by omega) ((eOv_lo hrB).trans hrd0)) w_R_refuse ini_R d_R_readExpression_209 rfl (z_goV (As := []) C l_R_70 w_R_refuse d_R_readExpression_209 (by omega) (hrd) rfl rfl) (Nat.le_of_ble_eq_true rfl) (by rw [hR]; simp only [zRm]; omega) (by rw [hR]; simp only [zRm]; omega) (by rw [hR]; simp only [zRm]; omega) (by rw [hR]; simp only [zRm]; omega) (fun v n' σ' hv => ?_) (fun x n' σ' hv => ?_)
  rotate_left
  · obtain ⟨e0, rfl, rfl⟩ := hv
    cases e0
    exact zx_out C (fun h hh => nomatch hh) (by rw [hpo]; exact (by rw [← hres]; exact rIll_mk2 hrB (by omega))) (by rw [hmc]; omega) (by rw [hms]; omega)
  · cases hv.1
theorem rHyp_all : ∀ d, d ≤ 8 → rHyp G l d
  | 0, _ => rHyp_0
  | d + 1, h => rHyp_s (rHyp_all d (by omega)) (by omega)
end RDX
