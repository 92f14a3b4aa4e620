theorem d_R_readReading_0 : decode b_R_readReading 0 = .ok (.new 121, 3) := by decide +kernel
theorem d_R_readReading_3 : decode b_R_readReading 3 = .ok (.dup, 1) := by decide +kernel
theorem d_R_readReading_4 : decode b_R_readReading 4 = .ok (.getstatic 151, 3) := by decide +kernel
theorem d_R_readReading_7 : decode b_R_readReading 7 = .ok (.iload_n 1, 1) := by decide +kernel
theorem d_R_readReading_8 : decode b_R_readReading 8 = .ok (.invokespecial 126, 3) := by decide +kernel
theorem d_R_readReading_11 : decode b_R_readReading 11 = .ok (.astore_n 3, 1) := by decide +kernel
theorem d_R_readReading_12 : decode b_R_readReading 12 = .ok (.aload_n 0, 1) := by decide +kernel
theorem d_R_readReading_13 : decode b_R_readReading 13 = .ok (.bipush 91, 2) := by decide +kernel
theorem d_R_readReading_15 : decode b_R_readReading 15 = .ok (.invokevirtual 35, 3) := by decide +kernel
theorem d_R_readReading_18 : decode b_R_readReading 18 = .ok (.aload_n 3, 1) := by decide +kernel
theorem d_R_readReading_19 : decode b_R_readReading 19 = .ok (.aload_n 0, 1) := by decide +kernel
theorem d_R_readReading_20 : decode b_R_readReading 20 = .ok (.iload_n 2, 1) := by decide +kernel
theorem d_R_readReading_21 : decode b_R_readReading 21 = .ok (.iconst 1, 1) := by decide +kernel
theorem d_R_readReading_22 : decode b_R_readReading 22 = .ok (.iadd, 1) := by decide +kernel
theorem d_R_readReading_23 : decode b_R_readReading 23 = .ok (.invokevirtual 53, 3) := by decide +kernel
theorem d_R_readReading_26 : decode b_R_readReading 26 = .ok (.invokevirtual 154, 3) := by decide +kernel
theorem d_R_readReading_29 : decode b_R_readReading 29 = .ok (.aload_n 0, 1) := by decide +kernel
theorem d_R_readReading_30 : decode b_R_readReading 30 = .ok (.invokevirtual 39, 3) := by decide +kernel
theorem d_R_readReading_33 : decode b_R_readReading 33 = .ok (.bipush 44, 2) := by decide +kernel
theorem d_R_readReading_35 : decode b_R_readReading 35 = .ok (.if_icmp .ne 20, 3) := by decide +kernel
theorem d_R_readReading_38 : decode b_R_readReading 38 = .ok (.aload_n 0, 1) := by decide +kernel
theorem d_R_readReading_39 : decode b_R_readReading 39 = .ok (.bipush 44, 2) := by decide +kernel
theorem d_R_readReading_41 : decode b_R_readReading 41 = .ok (.invokevirtual 35, 3) := by decide +kernel
theorem d_R_readReading_44 : decode b_R_readReading 44 = .ok (.aload_n 3, 1) := by decide +kernel
theorem d_R_readReading_45 : decode b_R_readReading 45 = .ok (.aload_n 0, 1) := by decide +kernel
theorem d_R_readReading_46 : decode b_R_readReading 46 = .ok (.iload_n 2, 1) := by decide +kernel
theorem d_R_readReading_47 : decode b_R_readReading 47 = .ok (.iconst 1, 1) := by decide +kernel
theorem d_R_readReading_48 : decode b_R_readReading 48 = .ok (.iadd, 1) := by decide +kernel
theorem d_R_readReading_49 : decode b_R_readReading 49 = .ok (.invokevirtual 53, 3) := by decide +kernel
theorem d_R_readReading_52 : decode b_R_readReading 52 = .ok (.invokevirtual 154, 3) := by decide +kernel
theorem d_R_readReading_55 : decode b_R_readReading 55 = .ok (.aload_n 0, 1) := by decide +kernel
theorem d_R_readReading_56 : decode b_R_readReading 56 = .ok (.bipush 93, 2) := by decide +kernel
theorem d_R_readReading_58 : decode b_R_readReading 58 = .ok (.invokevirtual 35, 3) := by decide +kernel
theorem d_R_readReading_61 : decode b_R_readReading 61 = .ok (.aload_n 3, 1) := by decide +kernel
theorem d_R_readReading_62 : decode b_R_readReading 62 = .ok (.areturn, 1) := by decide +kernel
theorem sf_151 : Cond.fieldLink "SoleArrays$Reader" 151 "SoleArrays$Form" "READING" "LSoleArrays$Form;" ∈ zTb := zt2 228 (by decide +kernel) rfl
theorem rBeh_70 {T : Nat → Int32} {z i : Nat} {s : rS} {g f : rS → rR} : rBeh T z 7 0 i s g f = if rlk T z s.1 = 44 then g (s.1 + 1, s.2) else rTake T z 93 s f := by
  show (if 0 = 0 ∧ rlk T z s.1 = 44 then g (s.1 + 1, s.2) else rTake T z 93 s f) = _
  by_cases h : rlk T z s.1 = 44
  · rw [if_pos h, if_pos ⟨rfl, h⟩]
  · rw [if_neg h, if_neg (fun q => h q.2)]
theorem rBeh_81 {T : Nat → Int32} {z i : Nat} {s : rS} {g f : rS → rR} : rBeh T z 8 1 i s g f = if rlk T z s.1 = 44 then g (s.1 + 1, s.2) else rTake T z 125 s f := by
  show (if 1 = 1 ∧ rlk T z s.1 = 44 then g (s.1 + 1, s.2) else rTake T z 125 s f) = _
  by_cases h : rlk T z s.1 = 44
  · rw [if_pos h, if_pos ⟨rfl, h⟩]
  · rw [if_neg h, if_neg (fun q => h q.2)]
section CMP5
variable {G : zG} {l : Launch} {d r p z B N : Nat} {σ : zS} {xs : mS} {xr : Int64} {xa : mA} {xl : mL} {xf : xF} {E : Nat → eN} {A : mA}
theorem c_R_readReading {v : Int32} (RX : rHyp G l d) (hd8 : d ≤ 8) (h : rPre B N r (p + 1) z σ xa) (hNp : N ≤ p) (hch : rlk (xa 1) z (p + 1) = 91) {res : rR} (hres0 : rParts (xa 1) z (rdE (xa 1) z d) 7 N none 4 0 (rGo (rNode 7 v p (rE0 7 p) (p, N, A, E)) (p + 2)) = res) {mc ms : Nat} (hmc0 : rCe p res ≤ mc) (hms0 : rSl p res ≤ ms) :
    MetZ G l y_R_readReading b_R_readReading 4 (some (.object "SoleArrays$Expression")) [] (9 + 4 * d + 2) mc ms [.ref r, .int (nI p), .int (nI (8 - d))] (B + 2 * N) (xOv xs xr xa xl xf (eOv B N E σ)) (rPost B N r z σ xs xr xa xl xf res) := by
  have h0 := h
  obtain ⟨hr, hrB, hB, hrd0, hz, hp, hN, hc⟩ := h
  have hpz : p + 1 < z := rlk_lt hch (by decide)
  have hrd : xOv xs xr xa xl xf (eOv B N E σ) r = .inr (4, [.ref 1, .int (nI z), .ref 2, .int (nI (p + 1))]) := (xOv_at (by omega)).trans ((eOv_lo hrB).trans hrd0)
  have hb := rCe_ge (p := p) (rParts_res (T := xa 1) (R := rdE (xa 1) z d) (rdE_res d) (K := 7) (i := N) (vw := none) 4 0 (rGo (rNode 7 v p (rE0 7 p) (p, N, A, E)) (p + 2)) hpz) (by show p ≤ p + 2; omega)
  rw [hres0] at hb
  have hbA : 2 * (p + 2 - p) ≤ rCe p res := hb.1
  have hbB : 14 * (p + 2 - p) ≤ rSl p res := hb.2
  refine MetZ.of (by decide) (Nat.le_of_ble_eq_true rfl) (fun K hK hR hpo hmc hms C => ?_)
  subst hK
  have hRc : (kR K).cells = mc := by rw [hR]; rfl
  have hRs : (kR K).slots = ms := by rw [hR]; rfl
  have hRf : (kR K).frames = 9 + 4 * d + 2 := by rw [hR]; rfl
  have hRl : (kR K).locals = 60 * (9 + 4 * d + 2) := by rw [hR]; rfl
  refine z_new C 3 n_R_121 d_R_readReading_0 rfl (by omega) (by rw [hR]; simp only [zRm]; omega) (by rw [hR]; simp only [zRm]; omega) ?_
  refine z_dup C 4 d_R_readReading_3 rfl rfl ?_
  refine z_getsF C 7 7 (by decide) sf_151 d_R_readReading_4 rfl ?_
  refine z_iload_n C 8 d_R_readReading_7 rfl rfl ?_
  refine z_call C 11 (c_E_init (by omega) (by omega) 7 (nI p)) w_E_init ini_E d_R_readReading_8 rfl (z_goI (As := [.ref (1000001 + 7), .int (nI p)]) C l_R_126 w_E_init d_R_readReading_8 rfl) (Nat.le_of_ble_eq_true rfl) (by rw [hR]; simp only [zRm]; omega) (by rw [hR]; simp only [zRm]; omega) (by rw [hR]; simp only [zRm]; omega) (by rw [hR]; simp only [zRm]; omega) (fun v n' σ' hv => ?_) (fun x n' σ' hv => ?_)
  · obtain ⟨e0, e1, rfl⟩ := hv
    cases e0
    have e1 : n' = B + 2 * (N + 1) := e1
    subst e1
    refine z_astore_n C 12 d_R_readReading_11 rfl (by decide) ?_
    refine Z.same (τ := xOv xs xr xa xl xf (eOv B (N + 1) (va_up E N (rE0 7 p)) (va_up σ r (rdC (p + 1) z)))) (fun i _ => by rw [va_same hrd0]; rfl) ?_
    refine z_take C rfl 91 (by decide) (p + 1, N + 1, rFlat A N 7 v p, va_up E N (rE0 7 p)) d_R_readReading_12 d_R_readReading_13 d_R_readReading_15 rfl (h0.at hp (Nat.zero_le _)) (by show N + 1 ≤ 150; omega) (by omega) (by omega) (by omega) (by omega) ⟨by omega, by omega⟩ (fun w => absurd hch w) (fun w => absurd hch w) (fun _ => ?_)
    obtain ⟨t0, ht0⟩ : ∃ t : rS, t = rGo (rNode 7 v p (rE0 7 p) (p, N, A, E)) (p + 2) := ⟨_, rfl⟩
    have hv0 : t0.1 = p + 2 := by rw [ht0]; rfl
    have hu0 : t0.2.1 = N + 1 := by rw [ht0]; rfl
    rw [← ht0] at hres0
    have hz0 : t0.1 ≤ z := by omega
    have hp0 : p ≤ t0.1 := by omega
    have hm0 : t0.2.1 ≤ t0.1 := by omega
    have hi0 : N < t0.2.1 := by omega
    have hk0 : (t0.2.2.2 N).2.2.2.1 = 0 := by
      rw [ht0]
      show (va_up E N (rE0 7 p) N).2.2.2.1 = 0
      rw [va_up_self]
      rfl
    refine Z.same (τ := xOv xs xr xa xl xf (eOv B t0.2.1 t0.2.2.2 (va_up σ r (rdC t0.1 z)))) (fun i _ => by rw [ht0]; rfl) ?_
    rw [show B + 2 * ((p + 1, N + 1, rFlat A N 7 v p, va_up E N (rE0 7 p)) : rS).2.1 = B + 2 * t0.2.1 by rw [hu0]]
    have hb0 := rCe_parts (T := xa 1) (z := z) (p := p) (d := d) (K := 7) (i := N) (m := 3) (k := 0) (vw := none) (s := t0) hz0 hp0
    rw [hres0] at hb0
    refine z_part C rfl hd8 RX (i := N) (k := 0) t0 d_R_readReading_18 d_R_readReading_19 d_R_readReading_20 d_R_readReading_21 d_R_readReading_22 d_R_readReading_23 d_R_readReading_26 rfl rfl rfl (h0.at hz0 hm0) hi0 hk0 (by omega) (by omega) (by omega) (by omega) (by omega) (by omega) (by omega) (fun q hq o n' σ' hv => ?_) (fun s2 hs2 => ?_)
    · rw [hpo, ← hres0, rParts_ill hq]
      exact hv
    obtain ⟨hk1, hi1, hg1, hy1, hn1⟩ := rAdd_cnt hz0 hs2 hi0 hk0
    have hw0 := rParts_ge (T := xa 1) (z := z) (p := p) (d := d) (K := 7) (i := N) (m := 3) (k := 0) (vw := none) (s := t0) hz0 hs2 (by omega)
    rw [hres0] at hw0
    refine Z.widen (j1 := 2 * (s2.1 - p)) (j2 := 14 * (s2.1 - p)) (by omega) (by omega) ?_
    have hra : eOv B s2.2.1 (rAdd N (t0).2.1 s2).2.2.2 (va_up σ r (rdC s2.1 z)) r = rdC s2.1 z := (eOv_lo hrB).trans (va_up_self _ _ _)
    refine z_aload_n C 30 d_R_readReading_29 rfl rfl ?_
    refine z_call C 33 (c_R_next (by omega) (by omega) (by omega) hra hz (by omega) hc) w_R_next ini_R d_R_readReading_30 rfl (z_goV (As := []) C l_R_39 w_R_next d_R_readReading_30 (by omega) ((xOv_at (by omega)).trans hra) rfl rfl) (Nat.le_of_ble_eq_true rfl) (by rw [hR]; simp only [zRm]; omega) (by rw [hR]; simp only [zRm]; omega) (by rw [hR]; simp only [zRm]; omega) (by rw [hR]; simp only [zRm]; omega) (fun v n' σ' hv => ?_) (fun x n' σ' hv => ?_)
    rotate_left
    · cases hv.1
    obtain ⟨e0, e1, rfl⟩ := hv
    cases e0
    subst e1
    refine z_bipush C 35 d_R_readReading_33 rfl 44 (by decide) ?_
    by_cases hcm : rlk (xa 1) z s2.1 = 44
    rotate_left
    · refine z_icmp_ne C 38 55 d_R_readReading_35 rfl (by decide) (fun _ => ?_) (fun h9 => absurd h9 (show ¬ xlk xa s2.1 z = 44 from hcm))
      have hr0 : rTake (xa 1) z 93 (rAdd N (t0).2.1 s2) (fun s3 => .inr (rClose N none s3)) = res := by rw [← hres0, rParts_ok hs2]; rw [rBeh_70]; exact (if_neg (show ¬ rlk (xa 1) z (rAdd N (t0).2.1 s2).1 = 44 from hcm)).symm
      refine z_take C rfl 93 (by decide) (rAdd N (t0).2.1 s2) d_R_readReading_55 d_R_readReading_56 d_R_readReading_58 rfl (h0.at hy1 (Nat.zero_le _)) (by show s2.2.1 ≤ 150; omega) (by omega) (by omega) (by omega) (by omega) ⟨by omega, by omega⟩ (fun w => ?_) (fun w o n' σ' hv => ?_) (fun w => ?_)
      · rw [rTake, if_neg w] at hr0
        rw [← hr0] at hmc0 hms0
        have q1 : 2 * (s2.1 - p) + 1 ≤ mc := hmc0
        have q2 : 14 * (s2.1 - p) + 6 ≤ ms := hms0
        exact ⟨by omega, by omega⟩
      · rw [hpo, ← hr0, rTake, if_neg w]
        exact hv
      rw [rTake, if_pos w] at hr0
      have hlt0 := rlk_lt w (by decide)
      have hlt0 : s2.1 < z := hlt0
      refine z_aload_n C 62 d_R_readReading_61 rfl rfl ?_
      rw [← hr0] at hmc0 hms0
      have q1 : 2 * (s2.1 + 1 - p) ≤ mc := hmc0
      have q2 : 14 * (s2.1 + 1 - p) ≤ ms := hms0
      exact z_aret C rfl d_R_readReading_62 (by rw [hpo, ← hr0]; exact ⟨rfl, rfl, rfl⟩) (by omega) (by omega)
    refine z_icmp_ne C 38 55 d_R_readReading_35 rfl (by decide) (fun h9 => absurd (show xlk xa s2.1 z = 44 from hcm) h9) (fun _ => ?_)
    have hr0 : rParts (xa 1) z (rdE (xa 1) z d) 7 N none 3 1 (s2.1 + 1, s2.2.1, (rAdd N (t0).2.1 s2).2.2) = res := by
      rw [← hres0, rParts_ok hs2, rBeh_70, if_pos (show rlk (xa 1) z (rAdd N (t0).2.1 s2).1 = 44 from hcm)]
      rfl
    have hlt0 : s2.1 < z := rlk_lt hcm (by decide)
    refine z_take C rfl 44 (by decide) (rAdd N (t0).2.1 s2) d_R_readReading_38 d_R_readReading_39 d_R_readReading_41 rfl (h0.at hy1 (Nat.zero_le _)) (by show s2.2.1 ≤ 150; omega) (by omega) (by omega) (by omega) (by omega) ⟨by omega, by omega⟩ (fun w => absurd hcm w) (fun w => absurd hcm w) (fun _ => ?_)
    obtain ⟨t1, ht1⟩ : ∃ t : rS, t = (s2.1 + 1, s2.2.1, (rAdd N (t0).2.1 s2).2.2) := ⟨_, rfl⟩
    have hres1 : rParts (xa 1) z (rdE (xa 1) z d) 7 N none 3 1 t1 = res := by rw [ht1]; exact hr0
    have hz1 : t1.1 ≤ z := by rw [ht1]; exact hlt0
    have hv1 : t1.1 = s2.1 + 1 := by rw [ht1]
    have hu1 : t1.2.1 = s2.2.1 := by rw [ht1]
    have hp1 : p ≤ t1.1 := by omega
    have hm1 : t1.2.1 ≤ t1.1 := by omega
    have hi1' : N < t1.2.1 := by omega
    have hk1' : (t1.2.2.2 N).2.2.2.1 = 1 := by rw [ht1]; exact hk1
    refine Z.same (τ := xOv xs xr xa xl xf (eOv B t1.2.1 t1.2.2.2 (va_up σ r (rdC t1.1 z)))) (fun i _ => by rw [ht1]; rfl) ?_
    rw [show B + 2 * (rAdd N (t0).2.1 s2).2.1 = B + 2 * t1.2.1 by rw [ht1]; rfl]
    clear hi1 hk1
    have hi1 := hi1'
    have hk1 := hk1'
    have hb1 := rCe_parts (T := xa 1) (z := z) (p := p) (d := d) (K := 7) (i := N) (m := 2) (k := 1) (vw := none) (s := t1) hz1 hp1
    rw [hres1] at hb1
    refine z_part C rfl hd8 RX (i := N) (k := 1) t1 d_R_readReading_44 d_R_readReading_45 d_R_readReading_46 d_R_readReading_47 d_R_readReading_48 d_R_readReading_49 d_R_readReading_52 rfl rfl rfl (h0.at hz1 hm1) hi1 hk1 (by omega) (by omega) (by omega) (by omega) (by omega) (by omega) (by omega) (fun q hq o n' σ' hv => ?_) (fun s3 hs3 => ?_)
    · rw [hpo, ← hres1, rParts_ill hq]
      exact hv
    obtain ⟨hk2, hi2, hg2, hy2, hn2⟩ := rAdd_cnt hz1 hs3 hi1 hk1
    have hw1 := rParts_ge (T := xa 1) (z := z) (p := p) (d := d) (K := 7) (i := N) (m := 2) (k := 1) (vw := none) (s := t1) hz1 hs3 (by omega)
    rw [hres1] at hw1
    refine Z.widen (j1 := 2 * (s3.1 - p)) (j2 := 14 * (s3.1 - p)) (by omega) (by omega) ?_
    have hr1 : rTake (xa 1) z 93 (rAdd N (t1).2.1 s3) (fun s3 => .inr (rClose N none s3)) = res := by rw [← hres1, rParts_ok hs3]; rfl
    refine z_take C rfl 93 (by decide) (rAdd N (t1).2.1 s3) d_R_readReading_55 d_R_readReading_56 d_R_readReading_58 rfl (h0.at hy2 (Nat.zero_le _)) (by show s3.2.1 ≤ 150; omega) (by omega) (by omega) (by omega) (by omega) ⟨by omega, by omega⟩ (fun w => ?_) (fun w o n' σ' hv => ?_) (fun w => ?_)
    · rw [rTake, if_neg w] at hr1
      rw [← hr1] at hmc0 hms0
      have q1 : 2 * (s3.1 - p) + 1 ≤ mc := hmc0
      have q2 : 14 * (s3.1 - p) + 6 ≤ ms := hms0
      exact ⟨by omega, by omega⟩
    · rw [hpo, ← hr1, rTake, if_neg w]
      exact hv
    rw [rTake, if_pos w] at hr1
    have hlt1 := rlk_lt w (by decide)
    have hlt1 : s3.1 < z := hlt1
    refine z_aload_n C 62 d_R_readReading_61 rfl rfl ?_
    rw [← hr1] at hmc0 hms0
    have q1 : 2 * (s3.1 + 1 - p) ≤ mc := hmc0
    have q2 : 14 * (s3.1 + 1 - p) ≤ ms := hms0
    exact z_aret C rfl d_R_readReading_62 (by rw [hpo, ← hr1]; exact ⟨rfl, rfl, rfl⟩) (by omega) (by omega)
  · cases hv.1
end CMP5
