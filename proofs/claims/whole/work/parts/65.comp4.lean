theorem d_R_readOperation_0 : decode b_R_readOperation 0 = .ok (.new 121, 3) := by decide +kernel
theorem d_R_readOperation_3 : decode b_R_readOperation 3 = .ok (.dup, 1) := by decide +kernel
theorem d_R_readOperation_4 : decode b_R_readOperation 4 = .ok (.getstatic 167, 3) := by decide +kernel
theorem d_R_readOperation_7 : decode b_R_readOperation 7 = .ok (.aload_n 0, 1) := by decide +kernel
theorem d_R_readOperation_8 : decode b_R_readOperation 8 = .ok (.getfield 9, 3) := by decide +kernel
theorem d_R_readOperation_11 : decode b_R_readOperation 11 = .ok (.invokespecial 126, 3) := by decide +kernel
theorem d_R_readOperation_14 : decode b_R_readOperation 14 = .ok (.astore_n 2, 1) := by decide +kernel
theorem d_R_readOperation_15 : decode b_R_readOperation 15 = .ok (.aload_n 0, 1) := by decide +kernel
theorem d_R_readOperation_16 : decode b_R_readOperation 16 = .ok (.bipush 40, 2) := by decide +kernel
theorem d_R_readOperation_18 : decode b_R_readOperation 18 = .ok (.invokevirtual 35, 3) := by decide +kernel
theorem d_R_readOperation_21 : decode b_R_readOperation 21 = .ok (.aload_n 2, 1) := by decide +kernel
theorem d_R_readOperation_22 : decode b_R_readOperation 22 = .ok (.aload_n 0, 1) := by decide +kernel
theorem d_R_readOperation_23 : decode b_R_readOperation 23 = .ok (.iload_n 1, 1) := by decide +kernel
theorem d_R_readOperation_24 : decode b_R_readOperation 24 = .ok (.iconst 1, 1) := by decide +kernel
theorem d_R_readOperation_25 : decode b_R_readOperation 25 = .ok (.iadd, 1) := by decide +kernel
theorem d_R_readOperation_26 : decode b_R_readOperation 26 = .ok (.invokevirtual 53, 3) := by decide +kernel
theorem d_R_readOperation_29 : decode b_R_readOperation 29 = .ok (.invokevirtual 154, 3) := by decide +kernel
theorem d_R_readOperation_32 : decode b_R_readOperation 32 = .ok (.aload_n 2, 1) := by decide +kernel
theorem d_R_readOperation_33 : decode b_R_readOperation 33 = .ok (.aload_n 0, 1) := by decide +kernel
theorem d_R_readOperation_34 : decode b_R_readOperation 34 = .ok (.invokevirtual 170, 3) := by decide +kernel
theorem d_R_readOperation_37 : decode b_R_readOperation 37 = .ok (.putfield 173, 3) := by decide +kernel
theorem d_R_readOperation_40 : decode b_R_readOperation 40 = .ok (.aload_n 2, 1) := by decide +kernel
theorem d_R_readOperation_41 : decode b_R_readOperation 41 = .ok (.aload_n 0, 1) := by decide +kernel
theorem d_R_readOperation_42 : decode b_R_readOperation 42 = .ok (.iload_n 1, 1) := by decide +kernel
theorem d_R_readOperation_43 : decode b_R_readOperation 43 = .ok (.iconst 1, 1) := by decide +kernel
theorem d_R_readOperation_44 : decode b_R_readOperation 44 = .ok (.iadd, 1) := by decide +kernel
theorem d_R_readOperation_45 : decode b_R_readOperation 45 = .ok (.invokevirtual 53, 3) := by decide +kernel
theorem d_R_readOperation_48 : decode b_R_readOperation 48 = .ok (.invokevirtual 154, 3) := by decide +kernel
theorem d_R_readOperation_51 : decode b_R_readOperation 51 = .ok (.aload_n 0, 1) := by decide +kernel
theorem d_R_readOperation_52 : decode b_R_readOperation 52 = .ok (.bipush 41, 2) := by decide +kernel
theorem d_R_readOperation_54 : decode b_R_readOperation 54 = .ok (.invokevirtual 35, 3) := by decide +kernel
theorem d_R_readOperation_57 : decode b_R_readOperation 57 = .ok (.aload_n 2, 1) := by decide +kernel
theorem d_R_readOperation_58 : decode b_R_readOperation 58 = .ok (.areturn, 1) := by decide +kernel
theorem sf_167 : Cond.fieldLink "SoleArrays$Reader" 167 "SoleArrays$Form" "OPERATION" "LSoleArrays$Form;" ∈ zTb := zt3 12 (by decide +kernel) rfl
theorem rIsOp_fits {c : Int32} (h : rIsOp c = true) : fits .char (.int c) = true := by
  unfold rIsOp at h
  simp only [Bool.or_eq_true, beq_iff_eq] at h
  rcases h with ((((w | w) | w) | w) | w) | w <;> rw [w] <;> decide
section CMP4
variable {G : zG} {l : Launch} {d r p z B N : Nat} {σ : zS} {xs : mS} {xr : Int64} {xa : mA} {xl : mL} {xf : xF} {E : Nat → eN} {A : mA}
theorem c_R_readOperation (RX : rHyp G l d) (hd8 : d ≤ 8) (h : rPre B N r p z σ xa) (hch : rlk (xa 1) z p = 40) {res : rR} (hres0 : rParts (xa 1) z (rdE (xa 1) z d) 2 N none 4 0 (rGo (rNode 2 0 p (rE0 2 p) (p, N, A, E)) (p + 1)) = res) {mc ms : Nat} (hmc0 : rCe p res ≤ mc) (hms0 : rSl p res ≤ ms) :
    MetZ G l y_R_readOperation b_R_readOperation 3 (some (.object "SoleArrays$Expression")) [] (9 + 4 * d + 2) mc ms [.ref r, .int (nI (8 - d))] (B + 2 * N) (xOv xs xr xa xl xf (eOv B N E σ)) (rPost B N r z σ xs xr xa xl xf res) := by
  have h0 := h
  obtain ⟨hr, hrB, hB, hrd0, hz, hp, hN, hc⟩ := h
  have hpz : p < z := rlk_lt hch (by decide)
  have hrd : xOv xs xr xa xl xf (eOv B N E σ) r = .inr (4, [.ref 1, .int (nI z), .ref 2, .int (nI p)]) := (xOv_at (by omega)).trans ((eOv_lo hrB).trans hrd0)
  have hb := rCe_ge (p := p) (rParts_res (T := xa 1) (R := rdE (xa 1) z d) (rdE_res d) (K := 2) (i := N) (vw := none) 4 0 (rGo (rNode 2 0 p (rE0 2 p) (p, N, A, E)) (p + 1)) hpz) (by show p ≤ p + 1; omega)
  rw [hres0] at hb
  have hbA : 2 * (p + 1 - p) ≤ rCe p res := hb.1
  have hbB : 14 * (p + 1 - p) ≤ rSl p res := hb.2
  refine MetZ.of (by decide) (Nat.le_of_ble_eq_true rfl) (fun K hK hR hpo hmc hms C => ?_)
  subst hK
  have hRc : (kR K).cells = mc := by rw [hR]; rfl
  have hRs : (kR K).slots = ms := by rw [hR]; rfl
  have hRf : (kR K).frames = 9 + 4 * d + 2 := by rw [hR]; rfl
  have hRl : (kR K).locals = 60 * (9 + 4 * d + 2) := by rw [hR]; rfl
  refine z_new C 3 n_R_121 d_R_readOperation_0 rfl (by omega) (by rw [hR]; simp only [zRm]; omega) (by rw [hR]; simp only [zRm]; omega) ?_
  refine z_dup C 4 d_R_readOperation_3 rfl rfl ?_
  refine z_getsF C 7 2 (by decide) sf_167 d_R_readOperation_4 rfl ?_
  refine z_aload_n C 8 d_R_readOperation_7 rfl rfl ?_
  refine z_get C 11 f_R_9 d_R_readOperation_8 rfl (by omega) ((va_up_ne _ _ (by omega)).trans hrd) rfl ?_
  refine z_call C 14 (c_E_init (by omega) (by omega) 2 (nI p)) w_E_init ini_E d_R_readOperation_11 rfl (z_goI (As := [.ref (1000001 + 2), .int (nI p)]) C l_R_126 w_E_init d_R_readOperation_11 rfl) (Nat.le_of_ble_eq_true rfl) (by rw [hR]; simp only [zRm]; omega) (by rw [hR]; simp only [zRm]; omega) (by rw [hR]; simp only [zRm]; omega) (by rw [hR]; simp only [zRm]; omega) (fun v n' σ' hv => ?_) (fun x n' σ' hv => ?_)
  · obtain ⟨e0, e1, rfl⟩ := hv
    cases e0
    have e1 : n' = B + 2 * (N + 1) := e1
    subst e1
    refine z_astore_n C 15 d_R_readOperation_14 rfl (by decide) ?_
    refine Z.same (τ := xOv xs xr xa xl xf (eOv B (N + 1) (va_up E N (rE0 2 p)) (va_up σ r (rdC p z)))) (fun i _ => by rw [va_same hrd0]; rfl) ?_
    refine z_take C rfl 40 (by decide) (p, N + 1, rFlat A N 2 0 p, va_up E N (rE0 2 p)) d_R_readOperation_15 d_R_readOperation_16 d_R_readOperation_18 rfl (h0.at hp (Nat.zero_le _)) (by show N + 1 ≤ 150; omega) (by omega) (by omega) (by omega) (by omega) ⟨by omega, by omega⟩ (fun w => absurd hch w) (fun w => absurd hch w) (fun _ => ?_)
    obtain ⟨t0, ht0⟩ : ∃ t : rS, t = rGo (rNode 2 0 p (rE0 2 p) (p, N, A, E)) (p + 1) := ⟨_, rfl⟩
    have hv0 : t0.1 = p + 1 := by rw [ht0]; rfl
    have hu0 : t0.2.1 = N + 1 := by rw [ht0]; rfl
    rw [← ht0] at hres0
    have hz0 : t0.1 ≤ z := by omega
    have hp0 : p ≤ t0.1 := by omega
    have hm0 : t0.2.1 ≤ t0.1 := by omega
    have hi0 : N < t0.2.1 := by omega
    have hk0 : (t0.2.2.2 N).2.2.2.1 = 0 := by
      rw [ht0]
      show (va_up E N (rE0 2 p) N).2.2.2.1 = 0
      rw [va_up_self]
      rfl
    refine Z.same (τ := xOv xs xr xa xl xf (eOv B t0.2.1 t0.2.2.2 (va_up σ r (rdC t0.1 z)))) (fun i _ => by rw [ht0]; rfl) ?_
    rw [show B + 2 * ((p, N + 1, rFlat A N 2 0 p, va_up E N (rE0 2 p)) : rS).2.1 = B + 2 * t0.2.1 by rw [hu0]]
    have hb0 := rCe_parts (T := xa 1) (z := z) (p := p) (d := d) (K := 2) (i := N) (m := 3) (k := 0) (vw := none) (s := t0) hz0 hp0
    rw [hres0] at hb0
    refine z_part C rfl hd8 RX (i := N) (k := 0) t0 d_R_readOperation_21 d_R_readOperation_22 d_R_readOperation_23 d_R_readOperation_24 d_R_readOperation_25 d_R_readOperation_26 d_R_readOperation_29 rfl rfl rfl (h0.at hz0 hm0) hi0 hk0 (by omega) (by omega) (by omega) (by omega) (by omega) (by omega) (by omega) (fun q hq o n' σ' hv => ?_) (fun s2 hs2 => ?_)
    · rw [hpo, ← hres0, rParts_ill hq]
      exact hv
    obtain ⟨hk1, hi1, hg1, hy1, hn1⟩ := rAdd_cnt hz0 hs2 hi0 hk0
    have hw0 := rParts_ge (T := xa 1) (z := z) (p := p) (d := d) (K := 2) (i := N) (m := 3) (k := 0) (vw := none) (s := t0) hz0 hs2 (by omega)
    rw [hres0] at hw0
    refine Z.widen (j1 := 2 * (s2.1 - p)) (j2 := 14 * (s2.1 - p)) (by omega) (by omega) ?_
    have hOp : (if rIsOp (rlk (xa 1) z s2.1) = true then rParts (xa 1) z (rdE (xa 1) z d) 2 N none 3 1 (rOp N (rlk (xa 1) z s2.1) (rAdd N (t0).2.1 s2)) else .inl s2.1) = res := by rw [← hres0, rParts_ok hs2]; rfl
    have hra : eOv B s2.2.1 (rAdd N (t0).2.1 s2).2.2.2 (va_up σ r (rdC s2.1 z)) r = rdC s2.1 z := (eOv_lo hrB).trans (va_up_self _ _ _)
    refine z_aload_n C 33 d_R_readOperation_32 rfl rfl ?_
    refine z_aload_n C 34 d_R_readOperation_33 rfl rfl ?_
    by_cases hop : rIsOp (rlk (xa 1) z s2.1) = true
    rotate_left
    · rw [if_neg hop] at hOp
      have hop0 : rIsOp (xlk xa s2.1 z) = false := by
        cases h9 : rIsOp (xlk xa s2.1 z) with
        | false => rfl
        | true => exact absurd h9 hop
      rw [← hOp] at hmc0 hms0
      have q1 : 2 * (s2.1 - p) + 1 ≤ mc := hmc0
      have q2 : 14 * (s2.1 - p) + 6 ≤ ms := hms0
      refine z_call C 37 (c_R_takeOperation (p := s2.1) (z := z) (by omega) (by omega) (by omega) (by omega) hra hz (by omega) hc (mc := 1) (ms := 6) (fun _ => ⟨by omega, by omega⟩)) w_R_takeOperation ini_R d_R_readOperation_34 rfl (z_goV (As := []) C l_R_170 w_R_takeOperation d_R_readOperation_34 (by omega) ((xOv_at (by omega)).trans hra) rfl rfl) (Nat.le_of_ble_eq_true rfl) (by rw [hR]; simp only [zRm]; omega) (by rw [hR]; simp only [zRm]; omega) (by rw [hR]; simp only [zRm]; omega) (by rw [hR]; simp only [zRm]; omega) (fun v n' σ' hv => ?_) (fun x n' σ' hv => ?_)
      · rcases hv with ⟨w, -⟩ | ⟨-, e0, -⟩
        · exact absurd w hop
        · cases e0
      · rcases hv with ⟨w, -⟩ | ⟨-, e0, rfl, rfl⟩
        · exact absurd w hop
        · cases e0
          exact zx_out C (fun h hh => nomatch hh) (by rw [hpo, ← hOp]; exact rIll_mk hrB (by omega)) (by omega) (by omega)
    rw [if_pos hop] at hOp
    have hltO : s2.1 < z := rlk_lt (T := xa 1) rfl (rIsOp_ne hop)
    have hopn : ¬ rIsOp (xlk xa s2.1 z) = false := fun w => absurd (hop.symm.trans w) (by decide)
    refine z_call C 37 (c_R_takeOperation (p := s2.1) (z := z) (by omega) (by omega) (by omega) (by omega) hra hz (by omega) hc (mc := 0) (ms := 0) (fun w => absurd w hopn)) w_R_takeOperation ini_R d_R_readOperation_34 rfl (z_goV (As := []) C l_R_170 w_R_takeOperation d_R_readOperation_34 (by omega) ((xOv_at (by omega)).trans hra) rfl rfl) (Nat.le_of_ble_eq_true rfl) (by rw [hR]; simp only [zRm]; omega) (by rw [hR]; simp only [zRm]; omega) (by rw [hR]; simp only [zRm]; omega) (by rw [hR]; simp only [zRm]; omega) (fun v n' σ' hv => ?_) (fun x n' σ' hv => ?_)
    rotate_left
    · rcases hv with ⟨-, e0, -⟩ | ⟨w, -⟩
      · cases e0
      · exact absurd w hopn
    obtain ⟨-, e0, rfl, rfl⟩ := hv.resolve_right (fun w => hopn w.1)
    cases e0
    rw [eOv_low hrB, va_up2]
    refine z_put C 40 p_R_173 d_R_readOperation_37 rfl (by omega) ((xOv_at (by omega)).trans (eOv_obj hi1)) (z_ltb rfl) (by rw [xlk, if_pos hltO]; exact hc s2.1 (by omega)) (rIsOp_fits hop) ?_
    rw [xOv_up (by omega)]
    show Z G K _ (xOv _ _ _ _ _ (va_up _ _ (eCell B N (eOp ((rAdd N (t0).2.1 s2).2.2.2 N) (rlk (xa 1) z s2.1))))) _ _ _ _ _
    rw [eOv_upO (e' := eOp ((rAdd N (t0).2.1 s2).2.2.2 N) (rlk (xa 1) z s2.1)) hi1 rfl]
    obtain ⟨t1, ht1⟩ : ∃ t : rS, t = rOp N (rlk (xa 1) z s2.1) (rAdd N (t0).2.1 s2) := ⟨_, rfl⟩
    have hres1 : rParts (xa 1) z (rdE (xa 1) z d) 2 N none 3 1 t1 = res := by rw [ht1]; exact hOp
    have hv1 : t1.1 = s2.1 + 1 := by rw [ht1]; rfl
    have hu1 : t1.2.1 = s2.2.1 := by rw [ht1]; rfl
    have hz1 : t1.1 ≤ z := by omega
    have hp1 : p ≤ t1.1 := by omega
    have hm1 : t1.2.1 ≤ t1.1 := by omega
    have hi1' : N < t1.2.1 := by omega
    have hk1' : (t1.2.2.2 N).2.2.2.1 = 1 := by
      rw [ht1]
      show (va_up (rAdd N (t0).2.1 s2).2.2.2 N (eOp ((rAdd N (t0).2.1 s2).2.2.2 N) _) N).2.2.2.1 = 1
      rw [va_up_self]
      exact hk1
    refine Z.same (τ := xOv xs xr xa xl xf (eOv B t1.2.1 t1.2.2.2 (va_up σ r (rdC t1.1 z)))) (fun i _ => by rw [ht1]; rfl) ?_
    rw [show B + 2 * s2.2.1 = B + 2 * t1.2.1 by rw [hu1]]
    clear hi1 hk1
    have hi1 := hi1'
    have hk1 := hk1'
    have hb1 := rCe_parts (T := xa 1) (z := z) (p := p) (d := d) (K := 2) (i := N) (m := 2) (k := 1) (vw := none) (s := t1) hz1 hp1
    rw [hres1] at hb1
    refine z_part C rfl hd8 RX (i := N) (k := 1) t1 d_R_readOperation_40 d_R_readOperation_41 d_R_readOperation_42 d_R_readOperation_43 d_R_readOperation_44 d_R_readOperation_45 d_R_readOperation_48 rfl rfl rfl (h0.at hz1 hm1) hi1 hk1 (by omega) (by omega) (by omega) (by omega) (by omega) (by omega) (by omega) (fun q hq o n' σ' hv => ?_) (fun s3 hs3 => ?_)
    · rw [hpo, ← hres1, rParts_ill hq]
      exact hv
    obtain ⟨hk2, hi2, hg2, hy2, hn2⟩ := rAdd_cnt hz1 hs3 hi1 hk1
    have hw1 := rParts_ge (T := xa 1) (z := z) (p := p) (d := d) (K := 2) (i := N) (m := 2) (k := 1) (vw := none) (s := t1) hz1 hs3 (by omega)
    rw [hres1] at hw1
    refine Z.widen (j1 := 2 * (s3.1 - p)) (j2 := 14 * (s3.1 - p)) (by omega) (by omega) ?_
    have hr1 : rTake (xa 1) z 41 (rAdd N (t1).2.1 s3) (fun s3 => .inr (rClose N none s3)) = res := by rw [← hres1, rParts_ok hs3]; rfl
    refine z_take C rfl 41 (by decide) (rAdd N (t1).2.1 s3) d_R_readOperation_51 d_R_readOperation_52 d_R_readOperation_54 rfl (h0.at hy2 (Nat.zero_le _)) (by show s3.2.1 ≤ 150; omega) (by omega) (by omega) (by omega) (by omega) ⟨by omega, by omega⟩ (fun w => ?_) (fun w o n' σ' hv => ?_) (fun w => ?_)
    · rw [rTake, if_neg w] at hr1
      rw [← hr1] at hmc0 hms0
      have q1 : 2 * (s3.1 - p) + 1 ≤ mc := hmc0
      have q2 : 14 * (s3.1 - p) + 6 ≤ ms := hms0
      exact ⟨by omega, by omega⟩
    · rw [hpo, ← hr1, rTake, if_neg w]
      exact hv
    rw [rTake, if_pos w] at hr1
    have hlt1 := rlk_lt w (by decide)
    have hlt1 : s3.1 < z := hlt1
    refine z_aload_n C 58 d_R_readOperation_57 rfl rfl ?_
    rw [← hr1] at hmc0 hms0
    have q1 : 2 * (s3.1 + 1 - p) ≤ mc := hmc0
    have q2 : 14 * (s3.1 + 1 - p) ≤ ms := hms0
    exact z_aret C rfl d_R_readOperation_58 (by rw [hpo, ← hr1]; exact ⟨rfl, rfl, rfl⟩) (by omega) (by omega)
  · cases hv.1
end CMP4
