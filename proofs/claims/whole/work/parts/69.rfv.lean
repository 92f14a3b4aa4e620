theorem d_R_readFromVariable_0 : decode b_R_readFromVariable 0 = .ok (.aload_n 0, 1) := by decide +kernel
theorem d_R_readFromVariable_1 : decode b_R_readFromVariable 1 = .ok (.getfield 9, 3) := by decide +kernel
theorem d_R_readFromVariable_4 : decode b_R_readFromVariable 4 = .ok (.istore_n 2, 1) := by decide +kernel
theorem d_R_readFromVariable_5 : decode b_R_readFromVariable 5 = .ok (.aload_n 0, 1) := by decide +kernel
theorem d_R_readFromVariable_6 : decode b_R_readFromVariable 6 = .ok (.bipush 97, 2) := by decide +kernel
theorem d_R_readFromVariable_8 : decode b_R_readFromVariable 8 = .ok (.bipush 116, 2) := by decide +kernel
theorem d_R_readFromVariable_10 : decode b_R_readFromVariable 10 = .ok (.invokevirtual 28, 3) := by decide +kernel
theorem d_R_readFromVariable_13 : decode b_R_readFromVariable 13 = .ok (.istore_n 3, 1) := by decide +kernel
theorem d_R_readFromVariable_14 : decode b_R_readFromVariable 14 = .ok (.aload_n 0, 1) := by decide +kernel
theorem d_R_readFromVariable_15 : decode b_R_readFromVariable 15 = .ok (.invokevirtual 39, 3) := by decide +kernel
theorem d_R_readFromVariable_18 : decode b_R_readFromVariable 18 = .ok (.bipush 91, 2) := by decide +kernel
theorem d_R_readFromVariable_20 : decode b_R_readFromVariable 20 = .ok (.if_icmp .ne 14, 3) := by decide +kernel
theorem d_R_readFromVariable_23 : decode b_R_readFromVariable 23 = .ok (.aload_n 0, 1) := by decide +kernel
theorem d_R_readFromVariable_24 : decode b_R_readFromVariable 24 = .ok (.iload_n 2, 1) := by decide +kernel
theorem d_R_readFromVariable_25 : decode b_R_readFromVariable 25 = .ok (.iload_n 1, 1) := by decide +kernel
theorem d_R_readFromVariable_26 : decode b_R_readFromVariable 26 = .ok (.invokevirtual 135, 3) := by decide +kernel
theorem d_R_readFromVariable_29 : decode b_R_readFromVariable 29 = .ok (.astore 4, 2) := by decide +kernel
theorem d_R_readFromVariable_31 : decode b_R_readFromVariable 31 = .ok (.goto 36, 3) := by decide +kernel
theorem d_R_readFromVariable_34 : decode b_R_readFromVariable 34 = .ok (.aload_n 0, 1) := by decide +kernel
theorem d_R_readFromVariable_35 : decode b_R_readFromVariable 35 = .ok (.invokevirtual 39, 3) := by decide +kernel
theorem d_R_readFromVariable_38 : decode b_R_readFromVariable 38 = .ok (.bipush 123, 2) := by decide +kernel
theorem d_R_readFromVariable_40 : decode b_R_readFromVariable 40 = .ok (.if_icmp .ne 14, 3) := by decide +kernel
theorem d_R_readFromVariable_43 : decode b_R_readFromVariable 43 = .ok (.aload_n 0, 1) := by decide +kernel
theorem d_R_readFromVariable_44 : decode b_R_readFromVariable 44 = .ok (.iload_n 2, 1) := by decide +kernel
theorem d_R_readFromVariable_45 : decode b_R_readFromVariable 45 = .ok (.iload_n 1, 1) := by decide +kernel
theorem d_R_readFromVariable_46 : decode b_R_readFromVariable 46 = .ok (.invokevirtual 139, 3) := by decide +kernel
theorem d_R_readFromVariable_49 : decode b_R_readFromVariable 49 = .ok (.astore 4, 2) := by decide +kernel
theorem d_R_readFromVariable_51 : decode b_R_readFromVariable 51 = .ok (.goto 16, 3) := by decide +kernel
theorem d_R_readFromVariable_54 : decode b_R_readFromVariable 54 = .ok (.new 121, 3) := by decide +kernel
theorem d_R_readFromVariable_57 : decode b_R_readFromVariable 57 = .ok (.dup, 1) := by decide +kernel
theorem d_R_readFromVariable_58 : decode b_R_readFromVariable 58 = .ok (.getstatic 142, 3) := by decide +kernel
theorem d_R_readFromVariable_61 : decode b_R_readFromVariable 61 = .ok (.iload_n 2, 1) := by decide +kernel
theorem d_R_readFromVariable_62 : decode b_R_readFromVariable 62 = .ok (.invokespecial 126, 3) := by decide +kernel
theorem d_R_readFromVariable_65 : decode b_R_readFromVariable 65 = .ok (.astore 4, 2) := by decide +kernel
theorem d_R_readFromVariable_67 : decode b_R_readFromVariable 67 = .ok (.aload 4, 2) := by decide +kernel
theorem d_R_readFromVariable_69 : decode b_R_readFromVariable 69 = .ok (.iload_n 3, 1) := by decide +kernel
theorem d_R_readFromVariable_70 : decode b_R_readFromVariable 70 = .ok (.putfield 145, 3) := by decide +kernel
theorem d_R_readFromVariable_73 : decode b_R_readFromVariable 73 = .ok (.aload 4, 2) := by decide +kernel
theorem d_R_readFromVariable_75 : decode b_R_readFromVariable 75 = .ok (.iload_n 2, 1) := by decide +kernel
theorem d_R_readFromVariable_76 : decode b_R_readFromVariable 76 = .ok (.putfield 148, 3) := by decide +kernel
theorem d_R_readFromVariable_79 : decode b_R_readFromVariable 79 = .ok (.aload 4, 2) := by decide +kernel
theorem d_R_readFromVariable_81 : decode b_R_readFromVariable 81 = .ok (.areturn, 1) := by decide +kernel
theorem sf_142 : Cond.fieldLink "SoleArrays$Reader" 142 "SoleArrays$Form" "VARIABLE" "LSoleArrays$Form;" ∈ zTb := zt3 0 (by decide +kernel) rfl
section RFV
variable {G : zG} {l : Launch} {d r p z B N : Nat} {σ : zS} {xs : mS} {xr : Int64} {xa : mA} {xl : mL} {xf : xF} {E : Nat → eN} {A : mA}
theorem c_R_readFromVariable (RX : rHyp G l d) (hd8 : d ≤ 8) (h : rPre B N r p z σ xa) (hq : 97 ≤ rlk (xa 1) z p ∧ rlk (xa 1) z p ≤ 116) {vv : Int32} (hvv : rlk (xa 1) z p - 97 = vv) {res : rR}
    (hres : (if rlk (xa 1) z (p + 1) = 91 then rParts (xa 1) z (rdE (xa 1) z d) 7 N (some (vv, p)) 4 0 (rGo (rNode 7 vv p (rE0 7 p) (p, N, A, E)) (p + 2))
       else if rlk (xa 1) z (p + 1) = 123 then rParts (xa 1) z (rdE (xa 1) z d) 8 N (some (vv, p)) 4 0 (rGo (rNode 8 vv p (rE0 8 p) (p, N, A, E)) (p + 2))
       else .inr (rGo (rNode 1 vv p (eVar (rE0 1 p) vv (nI p)) (p, N, A, E)) (p + 1))) = res) {mc ms : Nat} (hmc0 : rCe p res ≤ mc) (hms0 : rSl p res ≤ ms) :
    MetZ G l y_R_readFromVariable b_R_readFromVariable 5 (some (.object "SoleArrays$Expression")) [] (9 + 4 * d + 3) mc ms [.ref r, .int (nI (8 - d))] (B + 2 * N) (xOv xs xr xa xl xf (eOv B N E σ)) (rPost B N r z σ xs xr xa xl xf res) := by
  have h0 := h
  obtain ⟨hr, hrB, hB, hrd0, hz, hp, hN, hc⟩ := h
  have hpz : p < z := rlk_pos hq.1 (by decide)
  have hrd : xOv xs xr xa xl xf (eOv B N E σ) r = .inr (4, [.ref 1, .int (nI z), .ref 2, .int (nI p)]) := (xOv_at (by omega)).trans ((eOv_lo hrB).trans hrd0)
  have hra : eOv B N E (va_up σ r (rdC (p + 1) z)) r = rdC (p + 1) z := (eOv_lo hrB).trans (va_up_self _ _ _)
  have hra2 : xOv xs xr xa xl xf (eOv B N E (va_up σ r (rdC (p + 1) z))) r = .inr (4, [.ref 1, .int (nI z), .ref 2, .int (nI (p + 1))]) := (xOv_at (by omega)).trans hra
  refine MetZ.of (by decide) (Nat.le_of_ble_eq_true rfl) (fun K hK hR hpo hmc hms C => ?_)
  subst hK
  have hRc : (kR K).cells = mc := by rw [hR]; rfl
  have hRs : (kR K).slots = ms := by rw [hR]; rfl
  have hRf : (kR K).frames = 9 + 4 * d + 3 := by rw [hR]; rfl
  have hRl : (kR K).locals = 60 * (9 + 4 * d + 3) := by rw [hR]; rfl
  have fin : ∀ (s' : rS) (k1 k2 : Nat) (lv : List (Nat × Value)), N < s'.2.1 → s'.2.1 ≤ 150 → res = rV N vv p (.inr s') → k1 ≤ mc → k2 ≤ ms → zl lv 4 = some (.ref (B + 2 * N)) → zl lv 3 = some (.int vv) → zl lv 2 = some (.int (nI p)) → Z G K (B + 2 * s'.2.1) (xOv xs xr xa xl xf (eOv B s'.2.1 s'.2.2.2 (va_up σ r (rdC s'.1 z)))) k1 k2 67 lv [] := fun s' k1 k2 lv g1 g2 g3 g4 g5 l4 l3 l2 => by
    have ho : ∀ e : Nat → eN, xOv xs xr xa xl xf (eOv B s'.2.1 e (va_up σ r (rdC s'.1 z))) (B + 2 * N) = eCell B N (e N) := fun e => (xOv_at (by omega)).trans (eOv_obj g1)
    refine z_aload C 69 d_R_readFromVariable_67 rfl l4 ?_
    refine z_iload_n C 70 d_R_readFromVariable_69 rfl l3 ?_
    refine z_put C 73 p_R_145 d_R_readFromVariable_70 rfl (by omega) (ho _) (z_ltb rfl) rfl rfl ?_
    rw [xOv_up (by omega)]
    show Z G K _ (xOv _ _ _ _ _ (va_up _ _ (eCell B N (eVar (s'.2.2.2 N) vv (s'.2.2.2 N).2.2.2.2.2.2.2.1)))) _ _ _ _ _
    rw [eOv_upO (e' := eVar (s'.2.2.2 N) vv (s'.2.2.2 N).2.2.2.2.2.2.2.1) g1 rfl]
    refine z_aload C 75 d_R_readFromVariable_73 rfl l4 ?_
    refine z_iload_n C 76 d_R_readFromVariable_75 rfl l2 ?_
    refine z_put C 79 p_R_148 d_R_readFromVariable_76 rfl (by omega) (ho _) (z_ltb rfl) rfl rfl ?_
    rw [va_up_self, xOv_up (by omega)]
    show Z G K _ (xOv _ _ _ _ _ (va_up _ _ (eCell B N (eVar (s'.2.2.2 N) vv (nI p))))) _ _ _ _ _
    rw [eOv_upO (e' := eVar (s'.2.2.2 N) vv (nI p)) g1 (by rw [va_up_self]; rfl), va_up2]
    refine z_aload C 81 d_R_readFromVariable_79 rfl l4 ?_
    exact z_aret C rfl d_R_readFromVariable_81 (by rw [hpo, g3]; exact ⟨rfl, rfl, rfl⟩) (by omega) (by omega)
  refine z_aload_n C 1 d_R_readFromVariable_0 rfl rfl ?_
  refine z_get C 4 f_R_9 d_R_readFromVariable_1 rfl (by omega) hrd rfl ?_
  refine z_istore_n C 5 d_R_readFromVariable_4 rfl (by decide) ?_
  refine z_aload_n C 6 d_R_readFromVariable_5 rfl rfl ?_
  refine z_bipush C 8 d_R_readFromVariable_6 rfl 97 (by decide) ?_
  refine z_bipush C 10 d_R_readFromVariable_8 rfl 116 (by decide) ?_
  refine z_call C 13 (c_R_takeOneOf (p := p) (z := z) (by omega) (by omega) (by omega) (by omega) ((eOv_lo hrB).trans hrd0) hz (by omega) hc 97 116 (mc := 0) (ms := 0) (fun w => absurd hq w)) w_R_takeOneOf ini_R d_R_readFromVariable_10 rfl (z_goV (As := [.int 97, .int 116]) C l_R_28 w_R_takeOneOf d_R_readFromVariable_10 (by omega) (hrd) rfl rfl) (Nat.le_of_ble_eq_true rfl) (by rw [hR]; simp only [zRm]; omega) (by rw [hR]; simp only [zRm]; omega) (by rw [hR]; simp only [zRm]; omega) (by rw [hR]; simp only [zRm]; omega) (fun v n' σ' hv => ?_) (fun x n' σ' hv => ?_)
  rotate_left
  · rcases hv with ⟨-, e0, -⟩ | ⟨w, -⟩
    · cases e0
    · exact absurd hq w
  obtain ⟨-, e0, rfl, rfl⟩ := hv.resolve_right (fun w => w.1 hq)
  cases e0
  rw [eOv_low hrB, show xlk xa p z - 97 = vv from hvv]
  refine z_istore_n C 14 d_R_readFromVariable_13 rfl (by decide) ?_
  refine z_aload_n C 15 d_R_readFromVariable_14 rfl rfl ?_
  refine z_call C 18 (c_R_next (p := p + 1) (z := z) (by omega) (by omega) (by omega) hra hz (by omega) hc) w_R_next ini_R d_R_readFromVariable_15 rfl (z_goV (As := []) C l_R_39 w_R_next d_R_readFromVariable_15 (by omega) (hra2) rfl rfl) (Nat.le_of_ble_eq_true rfl) (by rw [hR]; simp only [zRm]; omega) (by rw [hR]; simp only [zRm]; omega) (by rw [hR]; simp only [zRm]; omega) (by rw [hR]; simp only [zRm]; omega) (fun v n' σ' hv => ?_) (fun x n' σ' hv => ?_)
  rotate_left
  · cases hv.1
  obtain ⟨e0, e1, rfl⟩ := hv
  cases e0
  subst e1
  refine z_bipush C 20 d_R_readFromVariable_18 rfl 91 (by decide) ?_
  by_cases h91 : rlk (xa 1) z (p + 1) = 91
  · rw [if_pos h91] at hres
    refine z_icmp_ne C 23 34 d_R_readFromVariable_20 rfl (by decide) (fun h9 => absurd (show xlk xa (p + 1) z = 91 from h91) h9) (fun _ => ?_)
    refine z_aload_n C 24 d_R_readFromVariable_23 rfl rfl ?_
    refine z_iload_n C 25 d_R_readFromVariable_24 rfl rfl ?_
    refine z_iload_n C 26 d_R_readFromVariable_25 rfl rfl ?_
    have hcall : (rV N vv p (rParts (xa 1) z (rdE (xa 1) z d) 7 N none 4 0 (rGo (rNode 7 vv p (rE0 7 p) (p, N, A, E)) (p + 2)))) = res := by rw [← rParts_vw]; exact hres
    have hlt91 : p + 1 < z := rlk_lt h91 (by decide)
    have hkp := rParts_kp (T := xa 1) (z := z) (R := rdE (xa 1) z d) (fun s => (rdE_ks d s).kp) (K := 7) (i := N) (vw := none) 4 0 (rGo (rNode 7 vv p (rE0 7 p) (p, N, A, E)) (p + 2)) (Nat.lt_succ_self N)
    have hrs := rParts_res (T := xa 1) (z := z) (R := rdE (xa 1) z d) (rdE_res d) (K := 7) (i := N) (vw := none) 4 0 (rGo (rNode 7 vv p (rE0 7 p) (p, N, A, E)) (p + 2)) hlt91
    obtain ⟨res', hres'⟩ : ∃ x, rParts (xa 1) z (rdE (xa 1) z d) 7 N none 4 0 (rGo (rNode 7 vv p (rE0 7 p) (p, N, A, E)) (p + 2)) = x := ⟨_, rfl⟩
    rw [hres'] at hcall hkp hrs
    have hc1 : rCe p res' ≤ mc := by rw [← (rV_ce (i := N) (v := vv) (w := p)).1, hcall]; exact hmc0
    have hc2 : rSl p res' ≤ ms := by rw [← (rV_ce (i := N) (v := vv) (w := p)).2, hcall]; exact hms0
    refine z_call C 29 (c_R_readReading (v := vv) RX hd8 (h0.at hpz (by omega)) hN h91 hres' (mc := mc) (ms := ms) hc1 hc2) w_R_readReading ini_R d_R_readFromVariable_26 rfl (z_goV (As := [.int (nI p), .int (nI (8 - d))]) C l_R_135 w_R_readReading d_R_readFromVariable_26 (by omega) (hra2) rfl rfl) (Nat.le_of_ble_eq_true rfl) (by rw [hR]; simp only [zRm]; omega) (by rw [hR]; simp only [zRm]; omega) (by rw [hR]; simp only [zRm]; omega) (by rw [hR]; simp only [zRm]; omega) (fun v n' σ' hv => ?_) (fun x n' σ' hv => ?_)
    · cases res' with
      | inl q =>
        obtain ⟨x, τ, e0, -⟩ := hv
        cases e0
      | inr s' =>
        obtain ⟨e0, rfl, rfl⟩ := hv
        cases e0
        rw [va_up2]
        have g1 : s'.1 ≤ z := hrs.2.1
        have g2 : s'.2.1 + (p + 2) ≤ N + 1 + s'.1 := hrs.2.2.2
        have g3 : N + 1 ≤ s'.2.1 := hkp.1
        refine z_astore C 31 d_R_readFromVariable_29 rfl (by decide) ?_
        refine z_goto C 67 d_R_readFromVariable_31 (by decide) ?_
        exact fin s' _ _ _ g3 (by omega) hcall.symm (by omega) (by omega) rfl rfl rfl
    · cases res' with
      | inl q =>
        have hq' : (.inl q : rR) = res := hcall
        exact zx_out C (fun h hh => nomatch hh) (by rw [hpo, ← hq']; exact rIll.low hv) (by omega) (by omega)
      | inr s' =>
        obtain ⟨e0, -⟩ := hv
        cases e0
  rw [if_neg h91] at hres
  refine z_icmp_ne C 23 34 d_R_readFromVariable_20 rfl (by decide) (fun _ => ?_) (fun h9 => absurd h9 (show ¬ xlk xa (p + 1) z = 91 from h91))
  refine z_aload_n C 35 d_R_readFromVariable_34 rfl rfl ?_
  refine z_call C 38 (c_R_next (p := p + 1) (z := z) (by omega) (by omega) (by omega) hra hz (by omega) hc) w_R_next ini_R d_R_readFromVariable_35 rfl (z_goV (As := []) C l_R_39 w_R_next d_R_readFromVariable_35 (by omega) (hra2) rfl rfl) (Nat.le_of_ble_eq_true rfl) (by rw [hR]; simp only [zRm]; omega) (by rw [hR]; simp only [zRm]; omega) (by rw [hR]; simp only [zRm]; omega) (by rw [hR]; simp only [zRm]; omega) (fun v n' σ' hv => ?_) (fun x n' σ' hv => ?_)
  rotate_left
  · cases hv.1
  obtain ⟨e0, e1, rfl⟩ := hv
  cases e0
  subst e1
  refine z_bipush C 40 d_R_readFromVariable_38 rfl 123 (by decide) ?_
  clear h91
  by_cases h91 : rlk (xa 1) z (p + 1) = 123
  · rw [if_pos h91] at hres
    refine z_icmp_ne C 43 54 d_R_readFromVariable_40 rfl (by decide) (fun h9 => absurd (show xlk xa (p + 1) z = 123 from h91) h9) (fun _ => ?_)
    refine z_aload_n C 44 d_R_readFromVariable_43 rfl rfl ?_
    refine z_iload_n C 45 d_R_readFromVariable_44 rfl rfl ?_
    refine z_iload_n C 46 d_R_readFromVariable_45 rfl rfl ?_
    have hcall : (rV N vv p (rParts (xa 1) z (rdE (xa 1) z d) 8 N none 4 0 (rGo (rNode 8 vv p (rE0 8 p) (p, N, A, E)) (p + 2)))) = res := by rw [← rParts_vw]; exact hres
    have hlt91 : p + 1 < z := rlk_lt h91 (by decide)
    have hkp := rParts_kp (T := xa 1) (z := z) (R := rdE (xa 1) z d) (fun s => (rdE_ks d s).kp) (K := 8) (i := N) (vw := none) 4 0 (rGo (rNode 8 vv p (rE0 8 p) (p, N, A, E)) (p + 2)) (Nat.lt_succ_self N)
    have hrs := rParts_res (T := xa 1) (z := z) (R := rdE (xa 1) z d) (rdE_res d) (K := 8) (i := N) (vw := none) 4 0 (rGo (rNode 8 vv p (rE0 8 p) (p, N, A, E)) (p + 2)) hlt91
    obtain ⟨res', hres'⟩ : ∃ x, rParts (xa 1) z (rdE (xa 1) z d) 8 N none 4 0 (rGo (rNode 8 vv p (rE0 8 p) (p, N, A, E)) (p + 2)) = x := ⟨_, rfl⟩
    rw [hres'] at hcall hkp hrs
    have hc1 : rCe p res' ≤ mc := by rw [← (rV_ce (i := N) (v := vv) (w := p)).1, hcall]; exact hmc0
    have hc2 : rSl p res' ≤ ms := by rw [← (rV_ce (i := N) (v := vv) (w := p)).2, hcall]; exact hms0
    refine z_call C 49 (c_R_readUpdate (v := vv) RX hd8 (h0.at hpz (by omega)) hN h91 hres' (mc := mc) (ms := ms) hc1 hc2) w_R_readUpdate ini_R d_R_readFromVariable_46 rfl (z_goV (As := [.int (nI p), .int (nI (8 - d))]) C l_R_139 w_R_readUpdate d_R_readFromVariable_46 (by omega) (hra2) rfl rfl) (Nat.le_of_ble_eq_true rfl) (by rw [hR]; simp only [zRm]; omega) (by rw [hR]; simp only [zRm]; omega) (by rw [hR]; simp only [zRm]; omega) (by rw [hR]; simp only [zRm]; omega) (fun v n' σ' hv => ?_) (fun x n' σ' hv => ?_)
    · cases res' with
      | inl q =>
        obtain ⟨x, τ, e0, -⟩ := hv
        cases e0
      | inr s' =>
        obtain ⟨e0, rfl, rfl⟩ := hv
        cases e0
        rw [va_up2]
        have g1 : s'.1 ≤ z := hrs.2.1
        have g2 : s'.2.1 + (p + 2) ≤ N + 1 + s'.1 := hrs.2.2.2
        have g3 : N + 1 ≤ s'.2.1 := hkp.1
        refine z_astore C 51 d_R_readFromVariable_49 rfl (by decide) ?_
        refine z_goto C 67 d_R_readFromVariable_51 (by decide) ?_
        exact fin s' _ _ _ g3 (by omega) hcall.symm (by omega) (by omega) rfl rfl rfl
    · cases res' with
      | inl q =>
        have hq' : (.inl q : rR) = res := hcall
        exact zx_out C (fun h hh => nomatch hh) (by rw [hpo, ← hq']; exact rIll.low hv) (by omega) (by omega)
      | inr s' =>
        obtain ⟨e0, -⟩ := hv
        cases e0
  rw [if_neg h91] at hres
  refine z_icmp_ne C 43 54 d_R_readFromVariable_40 rfl (by decide) (fun _ => ?_) (fun h9 => absurd h9 (show ¬ xlk xa (p + 1) z = 123 from h91))
  have q1 : 2 * (p + 1 - p) ≤ mc := by rw [← hres] at hmc0; exact hmc0
  have q2 : 14 * (p + 1 - p) ≤ ms := by rw [← hres] at hms0; exact hms0
  refine z_new C 57 n_R_121 d_R_readFromVariable_54 rfl (by omega) (by rw [hR]; simp only [zRm]; omega) (by rw [hR]; simp only [zRm]; omega) ?_
  refine z_dup C 58 d_R_readFromVariable_57 rfl rfl ?_
  refine z_getsF C 61 1 (by decide) sf_142 d_R_readFromVariable_58 rfl ?_
  refine z_iload_n C 62 d_R_readFromVariable_61 rfl rfl ?_
  refine z_call C 65 (c_E_init (by omega) (by omega) 1 (nI p)) w_E_init ini_E d_R_readFromVariable_62 rfl (z_goI (As := [.ref (1000001 + 1), .int (nI p)]) C l_R_126 w_E_init d_R_readFromVariable_62 rfl) (Nat.le_of_ble_eq_true rfl) (by rw [hR]; simp only [zRm]; omega) (by rw [hR]; simp only [zRm]; omega) (by rw [hR]; simp only [zRm]; omega) (by rw [hR]; simp only [zRm]; omega) (fun v n' σ' hv => ?_) (fun x n' σ' hv => ?_)
  rotate_left
  · cases hv.1
  obtain ⟨e0, e1, rfl⟩ := hv
  cases e0
  have e1 : n' = B + 2 * (N + 1) := e1
  subst e1
  refine z_astore C 67 d_R_readFromVariable_65 rfl (by decide) ?_
  exact fin (p + 1, N + 1, rFlat A N 1 vv p, va_up E N (rE0 1 p)) _ _ _ (Nat.lt_succ_self N) (by show N + 1 ≤ 150; omega) (by
    rw [← hres]
    show _ = (.inr (p + 1, N + 1, rFlat A N 1 vv p, va_up (va_up E N (rE0 1 p)) N (eVar (va_up E N (rE0 1 p) N) vv (nI p))) : rR)
    rw [va_up2, va_up_self]
    rfl) (by omega) (by omega) rfl rfl rfl
end RFV
