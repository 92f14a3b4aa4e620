theorem d_R_readUpdate_0 : decode b_R_readUpdate 0 = .ok (.new 121, 3) := by decide +kernel
theorem d_R_readUpdate_3 : decode b_R_readUpdate 3 = .ok (.dup, 1) := by decide +kernel
theorem d_R_readUpdate_4 : decode b_R_readUpdate 4 = .ok (.getstatic 158, 3) := by decide +kernel
theorem d_R_readUpdate_7 : decode b_R_readUpdate 7 = .ok (.iload_n 1, 1) := by decide +kernel
theorem d_R_readUpdate_8 : decode b_R_readUpdate 8 = .ok (.invokespecial 126, 3) := by decide +kernel
theorem d_R_readUpdate_11 : decode b_R_readUpdate 11 = .ok (.astore_n 3, 1) := by decide +kernel
theorem d_R_readUpdate_12 : decode b_R_readUpdate 12 = .ok (.aload_n 0, 1) := by decide +kernel
theorem d_R_readUpdate_13 : decode b_R_readUpdate 13 = .ok (.bipush 123, 2) := by decide +kernel
theorem d_R_readUpdate_15 : decode b_R_readUpdate 15 = .ok (.invokevirtual 35, 3) := by decide +kernel
theorem d_R_readUpdate_18 : decode b_R_readUpdate 18 = .ok (.aload_n 3, 1) := by decide +kernel
theorem d_R_readUpdate_19 : decode b_R_readUpdate 19 = .ok (.aload_n 0, 1) := by decide +kernel
theorem d_R_readUpdate_20 : decode b_R_readUpdate 20 = .ok (.iload_n 2, 1) := by decide +kernel
theorem d_R_readUpdate_21 : decode b_R_readUpdate 21 = .ok (.iconst 1, 1) := by decide +kernel
theorem d_R_readUpdate_22 : decode b_R_readUpdate 22 = .ok (.iadd, 1) := by decide +kernel
theorem d_R_readUpdate_23 : decode b_R_readUpdate 23 = .ok (.invokevirtual 53, 3) := by decide +kernel
theorem d_R_readUpdate_26 : decode b_R_readUpdate 26 = .ok (.invokevirtual 154, 3) := by decide +kernel
theorem d_R_readUpdate_29 : decode b_R_readUpdate 29 = .ok (.aload_n 0, 1) := by decide +kernel
theorem d_R_readUpdate_30 : decode b_R_readUpdate 30 = .ok (.bipush 44, 2) := by decide +kernel
theorem d_R_readUpdate_32 : decode b_R_readUpdate 32 = .ok (.invokevirtual 35, 3) := by decide +kernel
theorem d_R_readUpdate_35 : decode b_R_readUpdate 35 = .ok (.aload_n 3, 1) := by decide +kernel
theorem d_R_readUpdate_36 : decode b_R_readUpdate 36 = .ok (.aload_n 0, 1) := by decide +kernel
theorem d_R_readUpdate_37 : decode b_R_readUpdate 37 = .ok (.iload_n 2, 1) := by decide +kernel
theorem d_R_readUpdate_38 : decode b_R_readUpdate 38 = .ok (.iconst 1, 1) := by decide +kernel
theorem d_R_readUpdate_39 : decode b_R_readUpdate 39 = .ok (.iadd, 1) := by decide +kernel
theorem d_R_readUpdate_40 : decode b_R_readUpdate 40 = .ok (.invokevirtual 53, 3) := by decide +kernel
theorem d_R_readUpdate_43 : decode b_R_readUpdate 43 = .ok (.invokevirtual 154, 3) := by decide +kernel
theorem d_R_readUpdate_46 : decode b_R_readUpdate 46 = .ok (.aload_n 0, 1) := by decide +kernel
theorem d_R_readUpdate_47 : decode b_R_readUpdate 47 = .ok (.invokevirtual 39, 3) := by decide +kernel
theorem d_R_readUpdate_50 : decode b_R_readUpdate 50 = .ok (.bipush 44, 2) := by decide +kernel
theorem d_R_readUpdate_52 : decode b_R_readUpdate 52 = .ok (.if_icmp .ne 20, 3) := by decide +kernel
theorem d_R_readUpdate_55 : decode b_R_readUpdate 55 = .ok (.aload_n 0, 1) := by decide +kernel
theorem d_R_readUpdate_56 : decode b_R_readUpdate 56 = .ok (.bipush 44, 2) := by decide +kernel
theorem d_R_readUpdate_58 : decode b_R_readUpdate 58 = .ok (.invokevirtual 35, 3) := by decide +kernel
theorem d_R_readUpdate_61 : decode b_R_readUpdate 61 = .ok (.aload_n 3, 1) := by decide +kernel
theorem d_R_readUpdate_62 : decode b_R_readUpdate 62 = .ok (.aload_n 0, 1) := by decide +kernel
theorem d_R_readUpdate_63 : decode b_R_readUpdate 63 = .ok (.iload_n 2, 1) := by decide +kernel
theorem d_R_readUpdate_64 : decode b_R_readUpdate 64 = .ok (.iconst 1, 1) := by decide +kernel
theorem d_R_readUpdate_65 : decode b_R_readUpdate 65 = .ok (.iadd, 1) := by decide +kernel
theorem d_R_readUpdate_66 : decode b_R_readUpdate 66 = .ok (.invokevirtual 53, 3) := by decide +kernel
theorem d_R_readUpdate_69 : decode b_R_readUpdate 69 = .ok (.invokevirtual 154, 3) := by decide +kernel
theorem d_R_readUpdate_72 : decode b_R_readUpdate 72 = .ok (.aload_n 0, 1) := by decide +kernel
theorem d_R_readUpdate_73 : decode b_R_readUpdate 73 = .ok (.bipush 125, 2) := by decide +kernel
theorem d_R_readUpdate_75 : decode b_R_readUpdate 75 = .ok (.invokevirtual 35, 3) := by decide +kernel
theorem d_R_readUpdate_78 : decode b_R_readUpdate 78 = .ok (.aload_n 3, 1) := by decide +kernel
theorem d_R_readUpdate_79 : decode b_R_readUpdate 79 = .ok (.areturn, 1) := by decide +kernel
theorem sf_158 : Cond.fieldLink "SoleArrays$Reader" 158 "SoleArrays$Form" "UPDATE" "LSoleArrays$Form;" ∈ zTb := zt2 238 (by decide +kernel) rfl
section CMP6
variable {G : zG} {l : Launch} {d r p z B N : Nat} {σ : zS} {xs : mS} {xr : Int64} {xa : mA} {xl : mL} {xf : xF} {E : Nat → eN} {A : mA}
theorem c_R_readUpdate {v : Int32} (RX : rHyp G l d) (hd8 : d ≤ 8) (h : rPre B N r (p + 1) z σ xa) (hNp : N ≤ p) (hch : rlk (xa 1) z (p + 1) = 123) {res : rR} (hres0 : rParts (xa 1) z (rdE (xa 1) z d) 8 N none 4 0 (rGo (rNode 8 v p (rE0 8 p) (p, N, A, E)) (p + 2)) = res) {mc ms : Nat} (hmc0 : rCe p res ≤ mc) (hms0 : rSl p res ≤ ms) :
    MetZ G l y_R_readUpdate b_R_readUpdate 4 (some (.object "SoleArrays$Expression")) [] (9 + 4 * d + 2) mc ms [.ref r, .int (nI p), .int (nI (8 - d))] (B + 2 * N) (xOv xs xr xa xl xf (eOv B N E σ)) (rPost B N r z σ xs xr xa xl xf res) := by
  have h0 := h
  obtain ⟨hr, hrB, hB, hrd0, hz, hp, hN, hc⟩ := h
  have hpz : p + 1 < z := rlk_lt hch (by decide)
  have hrd : xOv xs xr xa xl xf (eOv B N E σ) r = .inr (4, [.ref 1, .int (nI z), .ref 2, .int (nI (p + 1))]) := (xOv_at (by omega)).trans ((eOv_lo hrB).trans hrd0)
  have hb := rCe_ge (p := p) (rParts_res (T := xa 1) (R := rdE (xa 1) z d) (rdE_res d) (K := 8) (i := N) (vw := none) 4 0 (rGo (rNode 8 v p (rE0 8 p) (p, N, A, E)) (p + 2)) hpz) (by show p ≤ p + 2; omega)
  rw [hres0] at hb
  have hbA : 2 * (p + 2 - p) ≤ rCe p res := hb.1
  have hbB : 14 * (p + 2 - p) ≤ rSl p res := hb.2
  refine MetZ.of (by decide) (Nat.le_of_ble_eq_true rfl) (fun K hK hR hpo hmc hms C => ?_)
  subst hK
  have hRc : (kR K).cells = mc := by rw [hR]; rfl
  have hRs : (kR K).slots = ms := by rw [hR]; rfl
  have hRf : (kR K).frames = 9 + 4 * d + 2 := by rw [hR]; rfl
  have hRl : (kR K).locals = 60 * (9 + 4 * d + 2) := by rw [hR]; rfl
  refine z_new C 3 n_R_121 d_R_readUpdate_0 rfl (by omega) (by rw [hR]; simp only [zRm]; omega) (by rw [hR]; simp only [zRm]; omega) ?_
  refine z_dup C 4 d_R_readUpdate_3 rfl rfl ?_
  refine z_getsF C 7 8 (by decide) sf_158 d_R_readUpdate_4 rfl ?_
  refine z_iload_n C 8 d_R_readUpdate_7 rfl rfl ?_
  refine z_call C 11 (c_E_init (by omega) (by omega) 8 (nI p)) w_E_init ini_E d_R_readUpdate_8 rfl (z_goI (As := [.ref (1000001 + 8), .int (nI p)]) C l_R_126 w_E_init d_R_readUpdate_8 rfl) (Nat.le_of_ble_eq_true rfl) (by rw [hR]; simp only [zRm]; omega) (by rw [hR]; simp only [zRm]; omega) (by rw [hR]; simp only [zRm]; omega) (by rw [hR]; simp only [zRm]; omega) (fun v n' σ' hv => ?_) (fun x n' σ' hv => ?_)
  · obtain ⟨e0, e1, rfl⟩ := hv
    cases e0
    have e1 : n' = B + 2 * (N + 1) := e1
    subst e1
    refine z_astore_n C 12 d_R_readUpdate_11 rfl (by decide) ?_
    refine Z.same (τ := xOv xs xr xa xl xf (eOv B (N + 1) (va_up E N (rE0 8 p)) (va_up σ r (rdC (p + 1) z)))) (fun i _ => by rw [va_same hrd0]; rfl) ?_
    refine z_take C rfl 123 (by decide) (p + 1, N + 1, rFlat A N 8 v p, va_up E N (rE0 8 p)) d_R_readUpdate_12 d_R_readUpdate_13 d_R_readUpdate_15 rfl (h0.at hp (Nat.zero_le _)) (by show N + 1 ≤ 150; omega) (by omega) (by omega) (by omega) (by omega) ⟨by omega, by omega⟩ (fun w => absurd hch w) (fun w => absurd hch w) (fun _ => ?_)
    obtain ⟨t0, ht0⟩ : ∃ t : rS, t = rGo (rNode 8 v p (rE0 8 p) (p, N, A, E)) (p + 2) := ⟨_, rfl⟩
    have hv0 : t0.1 = p + 2 := by rw [ht0]; rfl
    have hu0 : t0.2.1 = N + 1 := by rw [ht0]; rfl
    rw [← ht0] at hres0
    have hz0 : t0.1 ≤ z := by omega
    have hp0 : p ≤ t0.1 := by omega
    have hm0 : t0.2.1 ≤ t0.1 := by omega
    have hi0 : N < t0.2.1 := by omega
    have hk0 : (t0.2.2.2 N).2.2.2.1 = 0 := by
      rw [ht0]
      show (va_up E N (rE0 8 p) N).2.2.2.1 = 0
      rw [va_up_self]
      rfl
    refine Z.same (τ := xOv xs xr xa xl xf (eOv B t0.2.1 t0.2.2.2 (va_up σ r (rdC t0.1 z)))) (fun i _ => by rw [ht0]; rfl) ?_
    rw [show B + 2 * ((p + 1, N + 1, rFlat A N 8 v p, va_up E N (rE0 8 p)) : rS).2.1 = B + 2 * t0.2.1 by rw [hu0]]
    have hb0 := rCe_parts (T := xa 1) (z := z) (p := p) (d := d) (K := 8) (i := N) (m := 3) (k := 0) (vw := none) (s := t0) hz0 hp0
    rw [hres0] at hb0
    refine z_part C rfl hd8 RX (i := N) (k := 0) t0 d_R_readUpdate_18 d_R_readUpdate_19 d_R_readUpdate_20 d_R_readUpdate_21 d_R_readUpdate_22 d_R_readUpdate_23 d_R_readUpdate_26 rfl rfl rfl (h0.at hz0 hm0) hi0 hk0 (by omega) (by omega) (by omega) (by omega) (by omega) (by omega) (by omega) (fun q hq o n' σ' hv => ?_) (fun s2 hs2 => ?_)
    · rw [hpo, ← hres0, rParts_ill hq]
      exact hv
    obtain ⟨hk1, hi1, hg1, hy1, hn1⟩ := rAdd_cnt hz0 hs2 hi0 hk0
    have hw0 := rParts_ge (T := xa 1) (z := z) (p := p) (d := d) (K := 8) (i := N) (m := 3) (k := 0) (vw := none) (s := t0) hz0 hs2 (by omega)
    rw [hres0] at hw0
    refine Z.widen (j1 := 2 * (s2.1 - p)) (j2 := 14 * (s2.1 - p)) (by omega) (by omega) ?_
    have hr0 : rTake (xa 1) z 44 (rAdd N (t0).2.1 s2) (fun s3 => rParts (xa 1) z (rdE (xa 1) z d) 8 N none 3 1 s3) = res := by rw [← hres0, rParts_ok hs2]; rfl
    refine z_take C rfl 44 (by decide) (rAdd N (t0).2.1 s2) d_R_readUpdate_29 d_R_readUpdate_30 d_R_readUpdate_32 rfl (h0.at hy1 (Nat.zero_le _)) (by show s2.2.1 ≤ 150; omega) (by omega) (by omega) (by omega) (by omega) ⟨by omega, by omega⟩ (fun w => ?_) (fun w o n' σ' hv => ?_) (fun w => ?_)
    · rw [rTake, if_neg w] at hr0
      rw [← hr0] at hmc0 hms0
      have q1 : 2 * (s2.1 - p) + 1 ≤ mc := hmc0
      have q2 : 14 * (s2.1 - p) + 6 ≤ ms := hms0
      exact ⟨by omega, by omega⟩
    · rw [hpo, ← hr0, rTake, if_neg w]
      exact hv
    rw [rTake, if_pos w] at hr0
    have hlt0 := rlk_lt w (by decide)
    have hlt0 : s2.1 < z := hlt0
    obtain ⟨t1, ht1⟩ : ∃ t : rS, t = (s2.1 + 1, s2.2.1, (rAdd N (t0).2.1 s2).2.2) := ⟨_, rfl⟩
    have hres1 : rParts (xa 1) z (rdE (xa 1) z d) 8 N none 3 1 t1 = res := by rw [ht1]; exact hr0
    have hz1 : t1.1 ≤ z := by rw [ht1]; exact hlt0
    have hv1 : t1.1 = s2.1 + 1 := by rw [ht1]
    have hu1 : t1.2.1 = s2.2.1 := by rw [ht1]
    have hp1 : p ≤ t1.1 := by omega
    have hm1 : t1.2.1 ≤ t1.1 := by omega
    have hi1' : N < t1.2.1 := by omega
    have hk1' : (t1.2.2.2 N).2.2.2.1 = 1 := by rw [ht1]; exact hk1
    refine Z.same (τ := xOv xs xr xa xl xf (eOv B t1.2.1 t1.2.2.2 (va_up σ r (rdC t1.1 z)))) (fun i _ => by rw [ht1]; rfl) ?_
    rw [show B + 2 * (rAdd N (t0).2.1 s2).2.1 = B + 2 * t1.2.1 by rw [ht1]; rfl]
    clear hi1 hk1
    have hi1 := hi1'
    have hk1 := hk1'
    have hb1 := rCe_parts (T := xa 1) (z := z) (p := p) (d := d) (K := 8) (i := N) (m := 2) (k := 1) (vw := none) (s := t1) hz1 hp1
    rw [hres1] at hb1
    refine z_part C rfl hd8 RX (i := N) (k := 1) t1 d_R_readUpdate_35 d_R_readUpdate_36 d_R_readUpdate_37 d_R_readUpdate_38 d_R_readUpdate_39 d_R_readUpdate_40 d_R_readUpdate_43 rfl rfl rfl (h0.at hz1 hm1) hi1 hk1 (by omega) (by omega) (by omega) (by omega) (by omega) (by omega) (by omega) (fun q hq o n' σ' hv => ?_) (fun s3 hs3 => ?_)
    · rw [hpo, ← hres1, rParts_ill hq]
      exact hv
    obtain ⟨hk2, hi2, hg2, hy2, hn2⟩ := rAdd_cnt hz1 hs3 hi1 hk1
    have hw1 := rParts_ge (T := xa 1) (z := z) (p := p) (d := d) (K := 8) (i := N) (m := 2) (k := 1) (vw := none) (s := t1) hz1 hs3 (by omega)
    rw [hres1] at hw1
    refine Z.widen (j1 := 2 * (s3.1 - p)) (j2 := 14 * (s3.1 - p)) (by omega) (by omega) ?_
    have hra : eOv B s3.2.1 (rAdd N (t1).2.1 s3).2.2.2 (va_up σ r (rdC s3.1 z)) r = rdC s3.1 z := (eOv_lo hrB).trans (va_up_self _ _ _)
    refine z_aload_n C 47 d_R_readUpdate_46 rfl rfl ?_
    refine z_call C 50 (c_R_next (by omega) (by omega) (by omega) hra hz (by omega) hc) w_R_next ini_R d_R_readUpdate_47 rfl (z_goV (As := []) C l_R_39 w_R_next d_R_readUpdate_47 (by omega) ((xOv_at (by omega)).trans hra) rfl rfl) (Nat.le_of_ble_eq_true rfl) (by rw [hR]; simp only [zRm]; omega) (by rw [hR]; simp only [zRm]; omega) (by rw [hR]; simp only [zRm]; omega) (by rw [hR]; simp only [zRm]; omega) (fun v n' σ' hv => ?_) (fun x n' σ' hv => ?_)
    rotate_left
    · cases hv.1
    obtain ⟨e0, e1, rfl⟩ := hv
    cases e0
    subst e1
    refine z_bipush C 52 d_R_readUpdate_50 rfl 44 (by decide) ?_
    by_cases hcm : rlk (xa 1) z s3.1 = 44
    rotate_left
    · refine z_icmp_ne C 55 72 d_R_readUpdate_52 rfl (by decide) (fun _ => ?_) (fun h9 => absurd h9 (show ¬ xlk xa s3.1 z = 44 from hcm))
      have hr1 : rTake (xa 1) z 125 (rAdd N (t1).2.1 s3) (fun s3 => .inr (rClose N none s3)) = res := by rw [← hres1, rParts_ok hs3]; rw [rBeh_81]; exact (if_neg (show ¬ rlk (xa 1) z (rAdd N (t1).2.1 s3).1 = 44 from hcm)).symm
      refine z_take C rfl 125 (by decide) (rAdd N (t1).2.1 s3) d_R_readUpdate_72 d_R_readUpdate_73 d_R_readUpdate_75 rfl (h0.at hy2 (Nat.zero_le _)) (by show s3.2.1 ≤ 150; omega) (by omega) (by omega) (by omega) (by omega) ⟨by omega, by omega⟩ (fun w => ?_) (fun w o n' σ' hv => ?_) (fun w => ?_)
      · rw [rTake, if_neg w] at hr1
        rw [← hr1] at hmc0 hms0
        have q1 : 2 * (s3.1 - p) + 1 ≤ mc := hmc0
        have q2 : 14 * (s3.1 - p) + 6 ≤ ms := hms0
        exact ⟨by omega, by omega⟩
      · rw [hpo, ← hr1, rTake, if_neg w]
        exact hv
      rw [rTake, if_pos w] at hr1
      have hlt1 := rlk_lt w (by decide)
      have hlt1 : s3.1 < z := hlt1
      refine z_aload_n C 79 d_R_readUpdate_78 rfl rfl ?_
      rw [← hr1] at hmc0 hms0
      have q1 : 2 * (s3.1 + 1 - p) ≤ mc := hmc0
      have q2 : 14 * (s3.1 + 1 - p) ≤ ms := hms0
      exact z_aret C rfl d_R_readUpdate_79 (by rw [hpo, ← hr1]; exact ⟨rfl, rfl, rfl⟩) (by omega) (by omega)
    refine z_icmp_ne C 55 72 d_R_readUpdate_52 rfl (by decide) (fun h9 => absurd (show xlk xa s3.1 z = 44 from hcm) h9) (fun _ => ?_)
    have hr1 : rParts (xa 1) z (rdE (xa 1) z d) 8 N none 2 2 (s3.1 + 1, s3.2.1, (rAdd N (t1).2.1 s3).2.2) = res := by
      rw [← hres1, rParts_ok hs3, rBeh_81, if_pos (show rlk (xa 1) z (rAdd N (t1).2.1 s3).1 = 44 from hcm)]
      rfl
    have hlt1 : s3.1 < z := rlk_lt hcm (by decide)
    refine z_take C rfl 44 (by decide) (rAdd N (t1).2.1 s3) d_R_readUpdate_55 d_R_readUpdate_56 d_R_readUpdate_58 rfl (h0.at hy2 (Nat.zero_le _)) (by show s3.2.1 ≤ 150; omega) (by omega) (by omega) (by omega) (by omega) ⟨by omega, by omega⟩ (fun w => absurd hcm w) (fun w => absurd hcm w) (fun _ => ?_)
    obtain ⟨t2, ht2⟩ : ∃ t : rS, t = (s3.1 + 1, s3.2.1, (rAdd N (t1).2.1 s3).2.2) := ⟨_, rfl⟩
    have hres2 : rParts (xa 1) z (rdE (xa 1) z d) 8 N none 2 2 t2 = res := by rw [ht2]; exact hr1
    have hz2 : t2.1 ≤ z := by rw [ht2]; exact hlt1
    have hv2 : t2.1 = s3.1 + 1 := by rw [ht2]
    have hu2 : t2.2.1 = s3.2.1 := by rw [ht2]
    have hp2 : p ≤ t2.1 := by omega
    have hm2 : t2.2.1 ≤ t2.1 := by omega
    have hi2' : N < t2.2.1 := by omega
    have hk2' : (t2.2.2.2 N).2.2.2.1 = 2 := by rw [ht2]; exact hk2
    refine Z.same (τ := xOv xs xr xa xl xf (eOv B t2.2.1 t2.2.2.2 (va_up σ r (rdC t2.1 z)))) (fun i _ => by rw [ht2]; rfl) ?_
    rw [show B + 2 * (rAdd N (t1).2.1 s3).2.1 = B + 2 * t2.2.1 by rw [ht2]; rfl]
    clear hi2 hk2
    have hi2 := hi2'
    have hk2 := hk2'
    have hb2 := rCe_parts (T := xa 1) (z := z) (p := p) (d := d) (K := 8) (i := N) (m := 1) (k := 2) (vw := none) (s := t2) hz2 hp2
    rw [hres2] at hb2
    refine z_part C rfl hd8 RX (i := N) (k := 2) t2 d_R_readUpdate_61 d_R_readUpdate_62 d_R_readUpdate_63 d_R_readUpdate_64 d_R_readUpdate_65 d_R_readUpdate_66 d_R_readUpdate_69 rfl rfl rfl (h0.at hz2 hm2) hi2 hk2 (by omega) (by omega) (by omega) (by omega) (by omega) (by omega) (by omega) (fun q hq o n' σ' hv => ?_) (fun s4 hs4 => ?_)
    · rw [hpo, ← hres2, rParts_ill hq]
      exact hv
    obtain ⟨hk3, hi3, hg3, hy3, hn3⟩ := rAdd_cnt hz2 hs4 hi2 hk2
    have hw2 := rParts_ge (T := xa 1) (z := z) (p := p) (d := d) (K := 8) (i := N) (m := 1) (k := 2) (vw := none) (s := t2) hz2 hs4 (by omega)
    rw [hres2] at hw2
    refine Z.widen (j1 := 2 * (s4.1 - p)) (j2 := 14 * (s4.1 - p)) (by omega) (by omega) ?_
    have hr2 : rTake (xa 1) z 125 (rAdd N (t2).2.1 s4) (fun s3 => .inr (rClose N none s3)) = res := by rw [← hres2, rParts_ok hs4]; rfl
    refine z_take C rfl 125 (by decide) (rAdd N (t2).2.1 s4) d_R_readUpdate_72 d_R_readUpdate_73 d_R_readUpdate_75 rfl (h0.at hy3 (Nat.zero_le _)) (by show s4.2.1 ≤ 150; omega) (by omega) (by omega) (by omega) (by omega) ⟨by omega, by omega⟩ (fun w => ?_) (fun w o n' σ' hv => ?_) (fun w => ?_)
    · rw [rTake, if_neg w] at hr2
      rw [← hr2] at hmc0 hms0
      have q1 : 2 * (s4.1 - p) + 1 ≤ mc := hmc0
      have q2 : 14 * (s4.1 - p) + 6 ≤ ms := hms0
      exact ⟨by omega, by omega⟩
    · rw [hpo, ← hr2, rTake, if_neg w]
      exact hv
    rw [rTake, if_pos w] at hr2
    have hlt2 := rlk_lt w (by decide)
    have hlt2 : s4.1 < z := hlt2
    refine z_aload_n C 79 d_R_readUpdate_78 rfl rfl ?_
    rw [← hr2] at hmc0 hms0
    have q1 : 2 * (s4.1 + 1 - p) ≤ mc := hmc0
    have q2 : 14 * (s4.1 + 1 - p) ≤ ms := hms0
    exact z_aret C rfl d_R_readUpdate_79 (by rw [hpo, ← hr2]; exact ⟨rfl, rfl, rfl⟩) (by omega) (by omega)
  · cases hv.1
end CMP6
