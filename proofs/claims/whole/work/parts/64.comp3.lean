theorem sf_183 : Cond.fieldLink "SoleArrays$Reader" 183 "SoleArrays$Form" "GIVING_UP" "LSoleArrays$Form;" ∈ zTb := zt3 56 (by decide +kernel) rfl
theorem sf_180 : Cond.fieldLink "SoleArrays$Reader" 180 "SoleArrays$Form" "BINDING" "LSoleArrays$Form;" ∈ zTb := zt3 28 (by decide +kernel) rfl
section CMP3
variable {G : zG} {l : Launch} {d r p z B N : Nat} {σ : zS} {xs : mS} {xr : Int64} {xa : mA} {xl : mL} {xf : xF} {E : Nat → eN} {A : mA}
theorem c_R_readGivingUp (RX : rHyp G l d) (hd8 : d ≤ 8) (h : rPre B N r p z σ xa) (hch : rlk (xa 1) z p = 126) {res : rR} (hres : rLet (xa 1) z 97 116 (rGo (p, N, A, E) (p + 1)) (fun v s1 => rTake (xa 1) z 59 s1 fun s2 => rParts (xa 1) z (rdE (xa 1) z d) 12 N none 4 0 (rNode 12 v p (eVar (rE0 12 p) v (nI (p + 1))) s2)) = res) {mc ms : Nat} (hmc0 : rCe p res ≤ mc) (hms0 : rSl p res ≤ ms) :
    MetZ G l y_R_readGivingUp b_R_readGivingUp 3 (some (.object "SoleArrays$Expression")) [] (9 + 4 * d + 2) mc ms [.ref r, .int (nI (8 - d))] (B + 2 * N) (xOv xs xr xa xl xf (eOv B N E σ)) (rPost B N r z σ xs xr xa xl xf res) := by
  have h0 := h
  obtain ⟨hr, hrB, hB, hrd0, hz, hp, hN, hc⟩ := h
  have hpz : p < z := rlk_lt hch (by decide)
  have hrd : xOv xs xr xa xl xf (eOv B N E σ) r = .inr (4, [.ref 1, .int (nI z), .ref 2, .int (nI p)]) := (xOv_at (by omega)).trans ((eOv_lo hrB).trans hrd0)
  refine MetZ.of (by decide) (Nat.le_of_ble_eq_true rfl) (fun K hK hR hpo hmc hms C => ?_)
  subst hK
  have hRc : (kR K).cells = mc := by rw [hR]; rfl
  have hRs : (kR K).slots = ms := by rw [hR]; rfl
  have hRf : (kR K).frames = 9 + 4 * d + 2 := by rw [hR]; rfl
  have hRl : (kR K).locals = 60 * (9 + 4 * d + 2) := by rw [hR]; rfl
  by_cases hl : 97 ≤ rlk (xa 1) z (p + 1) ∧ rlk (xa 1) z (p + 1) ≤ 116
  · have hpz1 : p + 1 < z := rlk_pos hl.1 (by decide)
    have hrT : rTake (xa 1) z 59 (p + 2, N, A, E) (fun s2 => rParts (xa 1) z (rdE (xa 1) z d) 12 N none 4 0 (rNode 12 (rlk (xa 1) z (p + 1) - 97) p (eVar (rE0 12 p) (rlk (xa 1) z (p + 1) - 97) (nI (p + 1))) s2)) = res := by
      rw [← hres, rLet, if_pos (show 97 ≤ rlk (xa 1) z (rGo (p, N, A, E) (p + 1)).1 ∧ rlk (xa 1) z (rGo (p, N, A, E) (p + 1)).1 ≤ 116 from hl)]
      rfl
    have hge : 4 ≤ mc ∧ 28 ≤ ms := by
      by_cases w : rlk (xa 1) z (p + 2) = 59
      · have hr1 : rParts (xa 1) z (rdE (xa 1) z d) 12 N none 4 0 (rNode 12 (rlk (xa 1) z (p + 1) - 97) p (eVar (rE0 12 p) (rlk (xa 1) z (p + 1) - 97) (nI (p + 1))) (p + 3, N, A, E)) = res := by
          rw [← hrT, rTake, if_pos w]
        have hlt := rlk_lt w (by decide)
        have hb := rCe_ge (p := p) (rParts_res (T := xa 1) (R := rdE (xa 1) z d) (rdE_res d) (K := 12) (i := N) (vw := none) 4 0 (rNode 12 (rlk (xa 1) z (p + 1) - 97) p (eVar (rE0 12 p) (rlk (xa 1) z (p + 1) - 97) (nI (p + 1))) (p + 3, N, A, E)) hlt) (by show p ≤ p + 3; omega)
        rw [hr1] at hb
        have hbA : 2 * (p + 3 - p) ≤ rCe p res := hb.1
        have hbB : 14 * (p + 3 - p) ≤ rSl p res := hb.2
        exact ⟨by omega, by omega⟩
      · have hr1 : (.inl (p + 2) : rR) = res := by rw [← hrT, rTake, if_neg w]
        rw [← hr1] at hmc0 hms0
        have q1 : 2 * (p + 2 - p) + 1 ≤ mc := hmc0
        have q2 : 14 * (p + 2 - p) + 6 ≤ ms := hms0
        exact ⟨by omega, by omega⟩
    refine z_aload_n C 1 d_R_readGivingUp_0 rfl rfl ?_
    refine z_getsF C 4 12 (by decide) sf_183 d_R_readGivingUp_1 rfl ?_
    refine z_call C 7 (c_R_readSignAndVariable (k := 12) h0 hpz (mc := 2) (ms := 14) ⟨by omega, by omega⟩ (fun w => absurd hl w)) w_R_readSignAndVariable ini_R d_R_readGivingUp_4 rfl (z_goV (As := [.ref (1000001 + 12)]) C l_R_108 w_R_readSignAndVariable d_R_readGivingUp_4 (by omega) (hrd) rfl rfl) (Nat.le_of_ble_eq_true rfl) (by rw [hR]; simp only [zRm]; omega) (by rw [hR]; simp only [zRm]; omega) (by rw [hR]; simp only [zRm]; omega) (by rw [hR]; simp only [zRm]; omega) (fun v n' σ' hv => ?_) (fun x n' σ' hv => ?_)
    · rcases hv with ⟨-, e0, e1, rfl⟩ | ⟨w, -⟩
      · cases e0
        subst e1
        refine z_astore_n C 8 d_R_readGivingUp_7 rfl (by decide) ?_
        refine z_take C rfl 59 (by decide) (p + 2, N + 1, A, va_up E N (eVar (rE0 12 p) (rlk (xa 1) z (p + 1) - 97) (nI (p + 1)))) d_R_readGivingUp_8 d_R_readGivingUp_9 d_R_readGivingUp_11 rfl (h0.at hpz1 (Nat.zero_le _)) (by show N + 1 ≤ 150; omega) (by omega) (by omega) (by omega) (by omega) ⟨by omega, by omega⟩ (fun w => ?_) (fun w o n' σ' hv => ?_) (fun w => ?_)
        · exact ⟨by omega, by
            rw [rTake, if_neg w] at hrT
            rw [← hrT] at hms0
            have q2 : 14 * (p + 2 - p) + 6 ≤ ms := hms0
            omega⟩
        · rw [hpo, ← hrT, rTake, if_neg w]
          exact hv
        have hlt := rlk_lt w (by decide)
        have hlt : p + 2 < z := hlt
        rw [rTake, if_pos w] at hrT
        obtain ⟨t0, ht0⟩ : ∃ t : rS, t = (rNode 12 (rlk (xa 1) z (p + 1) - 97) p (eVar (rE0 12 p) (rlk (xa 1) z (p + 1) - 97) (nI (p + 1))) (p + 3, N, A, E)) := ⟨_, rfl⟩
        have hres0 : rParts (xa 1) z (rdE (xa 1) z d) 12 N none 4 0 t0 = res := by rw [ht0]; exact hrT
        have hv0 : t0.1 = p + 3 := by rw [ht0]; rfl
        have hu0 : t0.2.1 = N + 1 := by rw [ht0]; rfl
        have hz0 : t0.1 ≤ z := by omega
        have hp0 : p ≤ t0.1 := by omega
        have hm0 : t0.2.1 ≤ t0.1 := by omega
        have hi0 : N < t0.2.1 := by omega
        have hk0 : (t0.2.2.2 N).2.2.2.1 = 0 := by
          rw [ht0]
          show (va_up E N (eVar (rE0 12 p) (rlk (xa 1) z (p + 1) - 97) (nI (p + 1))) N).2.2.2.1 = 0
          rw [va_up_self]
          rfl
        refine Z.same (τ := xOv xs xr xa xl xf (eOv B t0.2.1 t0.2.2.2 (va_up σ r (rdC t0.1 z)))) (fun i _ => by rw [ht0]; rfl) ?_
        rw [show B + 2 * ((p + 2, N + 1, A, va_up E N (eVar (rE0 12 p) (rlk (xa 1) z (p + 1) - 97) (nI (p + 1)))) : rS).2.1 = B + 2 * t0.2.1 by rw [hu0]]
        have hb0 := rCe_parts (T := xa 1) (z := z) (p := p) (d := d) (K := 12) (i := N) (m := 3) (k := 0) (vw := none) (s := t0) hz0 hp0
        rw [hres0] at hb0
        refine z_part C rfl hd8 RX (i := N) (k := 0) t0 d_R_readGivingUp_14 d_R_readGivingUp_15 d_R_readGivingUp_16 d_R_readGivingUp_17 d_R_readGivingUp_18 d_R_readGivingUp_19 d_R_readGivingUp_22 rfl rfl rfl (h0.at hz0 hm0) hi0 hk0 (by omega) (by omega) (by omega) (by omega) (by omega) (by omega) (by omega) (fun q hq o n' σ' hv => ?_) (fun s2 hs2 => ?_)
        · rw [hpo, ← hres0, rParts_ill hq]
          exact hv
        obtain ⟨hk1, hi1, hg1, hy1, hn1⟩ := rAdd_cnt hz0 hs2 hi0 hk0
        have hw0 := rParts_ge (T := xa 1) (z := z) (p := p) (d := d) (K := 12) (i := N) (m := 3) (k := 0) (vw := none) (s := t0) hz0 hs2 (by omega)
        rw [hres0] at hw0
        refine Z.widen (j1 := 2 * (s2.1 - p)) (j2 := 14 * (s2.1 - p)) (by omega) (by omega) ?_
        have hfin : res = .inr (rClose N none (rAdd N (t0).2.1 s2)) := by rw [← hres0, rParts_ok hs2]; rfl
        refine z_aload_n C 26 d_R_readGivingUp_25 rfl rfl ?_
        exact z_aret C rfl d_R_readGivingUp_26 (by rw [hpo, hfin]; exact ⟨rfl, rfl, rfl⟩) (by omega) (by omega)
      · exact absurd hl w
    · rcases hv with ⟨-, e0, -⟩ | ⟨w, -⟩
      · cases e0
      · exact absurd hl w
  · have hr1 : (.inl (p + 1) : rR) = res := by
      rw [← hres, rLet, if_neg (show ¬ (97 ≤ rlk (xa 1) z (rGo (p, N, A, E) (p + 1)).1 ∧ rlk (xa 1) z (rGo (p, N, A, E) (p + 1)).1 ≤ 116) from hl)]
      rfl
    rw [← hr1] at hmc0 hms0
    have q1 : 2 * (p + 1 - p) + 1 ≤ mc := hmc0
    have q2 : 14 * (p + 1 - p) + 6 ≤ ms := hms0
    refine z_aload_n C 1 d_R_readGivingUp_0 rfl rfl ?_
    refine z_getsF C 4 12 (by decide) sf_183 d_R_readGivingUp_1 rfl ?_
    refine z_call C 7 (c_R_readSignAndVariable (k := 12) h0 hpz (mc := 3) (ms := 20) ⟨by omega, by omega⟩ (fun _ => ⟨by omega, by omega⟩)) w_R_readSignAndVariable ini_R d_R_readGivingUp_4 rfl (z_goV (As := [.ref (1000001 + 12)]) C l_R_108 w_R_readSignAndVariable d_R_readGivingUp_4 (by omega) (hrd) rfl rfl) (Nat.le_of_ble_eq_true rfl) (by rw [hR]; simp only [zRm]; omega) (by rw [hR]; simp only [zRm]; omega) (by rw [hR]; simp only [zRm]; omega) (by rw [hR]; simp only [zRm]; omega) (fun v n' σ' hv => ?_) (fun x n' σ' hv => ?_)
    · rcases hv with ⟨w, -⟩ | ⟨-, x, τ, e0, -⟩
      · exact absurd w hl
      · cases e0
    · rcases hv with ⟨w, -⟩ | ⟨-, hv⟩
      · exact absurd w hl
      · exact zx_out C (fun h hh => nomatch hh) (by rw [hpo, ← hr1]; exact hv) (by omega) (by omega)
theorem c_R_readBinding (RX : rHyp G l d) (hd8 : d ≤ 8) (h : rPre B N r p z σ xa) (hch : rlk (xa 1) z p = 38) {res : rR} (hres : rLet (xa 1) z 97 116 (rGo (p, N, A, E) (p + 1)) (fun v s1 => rTake (xa 1) z 61 s1 fun s2 => rParts (xa 1) z (rdE (xa 1) z d) 4 N none 4 0 (rNode 4 v p (eVar (rE0 4 p) v (nI (p + 1))) s2)) = res) {mc ms : Nat} (hmc0 : rCe p res ≤ mc) (hms0 : rSl p res ≤ ms) :
    MetZ G l y_R_readBinding b_R_readBinding 3 (some (.object "SoleArrays$Expression")) [] (9 + 4 * d + 2) mc ms [.ref r, .int (nI (8 - d))] (B + 2 * N) (xOv xs xr xa xl xf (eOv B N E σ)) (rPost B N r z σ xs xr xa xl xf res) := by
  have h0 := h
  obtain ⟨hr, hrB, hB, hrd0, hz, hp, hN, hc⟩ := h
  have hpz : p < z := rlk_lt hch (by decide)
  have hrd : xOv xs xr xa xl xf (eOv B N E σ) r = .inr (4, [.ref 1, .int (nI z), .ref 2, .int (nI p)]) := (xOv_at (by omega)).trans ((eOv_lo hrB).trans hrd0)
  refine MetZ.of (by decide) (Nat.le_of_ble_eq_true rfl) (fun K hK hR hpo hmc hms C => ?_)
  subst hK
  have hRc : (kR K).cells = mc := by rw [hR]; rfl
  have hRs : (kR K).slots = ms := by rw [hR]; rfl
  have hRf : (kR K).frames = 9 + 4 * d + 2 := by rw [hR]; rfl
  have hRl : (kR K).locals = 60 * (9 + 4 * d + 2) := by rw [hR]; rfl
  by_cases hl : 97 ≤ rlk (xa 1) z (p + 1) ∧ rlk (xa 1) z (p + 1) ≤ 116
  · have hpz1 : p + 1 < z := rlk_pos hl.1 (by decide)
    have hrT : rTake (xa 1) z 61 (p + 2, N, A, E) (fun s2 => rParts (xa 1) z (rdE (xa 1) z d) 4 N none 4 0 (rNode 4 (rlk (xa 1) z (p + 1) - 97) p (eVar (rE0 4 p) (rlk (xa 1) z (p + 1) - 97) (nI (p + 1))) s2)) = res := by
      rw [← hres, rLet, if_pos (show 97 ≤ rlk (xa 1) z (rGo (p, N, A, E) (p + 1)).1 ∧ rlk (xa 1) z (rGo (p, N, A, E) (p + 1)).1 ≤ 116 from hl)]
      rfl
    have hge : 4 ≤ mc ∧ 28 ≤ ms := by
      by_cases w : rlk (xa 1) z (p + 2) = 61
      · have hr1 : rParts (xa 1) z (rdE (xa 1) z d) 4 N none 4 0 (rNode 4 (rlk (xa 1) z (p + 1) - 97) p (eVar (rE0 4 p) (rlk (xa 1) z (p + 1) - 97) (nI (p + 1))) (p + 3, N, A, E)) = res := by
          rw [← hrT, rTake, if_pos w]
        have hlt := rlk_lt w (by decide)
        have hb := rCe_ge (p := p) (rParts_res (T := xa 1) (R := rdE (xa 1) z d) (rdE_res d) (K := 4) (i := N) (vw := none) 4 0 (rNode 4 (rlk (xa 1) z (p + 1) - 97) p (eVar (rE0 4 p) (rlk (xa 1) z (p + 1) - 97) (nI (p + 1))) (p + 3, N, A, E)) hlt) (by show p ≤ p + 3; omega)
        rw [hr1] at hb
        have hbA : 2 * (p + 3 - p) ≤ rCe p res := hb.1
        have hbB : 14 * (p + 3 - p) ≤ rSl p res := hb.2
        exact ⟨by omega, by omega⟩
      · have hr1 : (.inl (p + 2) : rR) = res := by rw [← hrT, rTake, if_neg w]
        rw [← hr1] at hmc0 hms0
        have q1 : 2 * (p + 2 - p) + 1 ≤ mc := hmc0
        have q2 : 14 * (p + 2 - p) + 6 ≤ ms := hms0
        exact ⟨by omega, by omega⟩
    refine z_aload_n C 1 d_R_readBinding_0 rfl rfl ?_
    refine z_getsF C 4 4 (by decide) sf_180 d_R_readBinding_1 rfl ?_
    refine z_call C 7 (c_R_readSignAndVariable (k := 4) h0 hpz (mc := 2) (ms := 14) ⟨by omega, by omega⟩ (fun w => absurd hl w)) w_R_readSignAndVariable ini_R d_R_readBinding_4 rfl (z_goV (As := [.ref (1000001 + 4)]) C l_R_108 w_R_readSignAndVariable d_R_readBinding_4 (by omega) (hrd) rfl rfl) (Nat.le_of_ble_eq_true rfl) (by rw [hR]; simp only [zRm]; omega) (by rw [hR]; simp only [zRm]; omega) (by rw [hR]; simp only [zRm]; omega) (by rw [hR]; simp only [zRm]; omega) (fun v n' σ' hv => ?_) (fun x n' σ' hv => ?_)
    · rcases hv with ⟨-, e0, e1, rfl⟩ | ⟨w, -⟩
      · cases e0
        subst e1
        refine z_astore_n C 8 d_R_readBinding_7 rfl (by decide) ?_
        refine z_take C rfl 61 (by decide) (p + 2, N + 1, A, va_up E N (eVar (rE0 4 p) (rlk (xa 1) z (p + 1) - 97) (nI (p + 1)))) d_R_readBinding_8 d_R_readBinding_9 d_R_readBinding_11 rfl (h0.at hpz1 (Nat.zero_le _)) (by show N + 1 ≤ 150; omega) (by omega) (by omega) (by omega) (by omega) ⟨by omega, by omega⟩ (fun w => ?_) (fun w o n' σ' hv => ?_) (fun w => ?_)
        · exact ⟨by omega, by
            rw [rTake, if_neg w] at hrT
            rw [← hrT] at hms0
            have q2 : 14 * (p + 2 - p) + 6 ≤ ms := hms0
            omega⟩
        · rw [hpo, ← hrT, rTake, if_neg w]
          exact hv
        have hlt := rlk_lt w (by decide)
        have hlt : p + 2 < z := hlt
        rw [rTake, if_pos w] at hrT
        obtain ⟨t0, ht0⟩ : ∃ t : rS, t = (rNode 4 (rlk (xa 1) z (p + 1) - 97) p (eVar (rE0 4 p) (rlk (xa 1) z (p + 1) - 97) (nI (p + 1))) (p + 3, N, A, E)) := ⟨_, rfl⟩
        have hres0 : rParts (xa 1) z (rdE (xa 1) z d) 4 N none 4 0 t0 = res := by rw [ht0]; exact hrT
        have hv0 : t0.1 = p + 3 := by rw [ht0]; rfl
        have hu0 : t0.2.1 = N + 1 := by rw [ht0]; rfl
        have hz0 : t0.1 ≤ z := by omega
        have hp0 : p ≤ t0.1 := by omega
        have hm0 : t0.2.1 ≤ t0.1 := by omega
        have hi0 : N < t0.2.1 := by omega
        have hk0 : (t0.2.2.2 N).2.2.2.1 = 0 := by
          rw [ht0]
          show (va_up E N (eVar (rE0 4 p) (rlk (xa 1) z (p + 1) - 97) (nI (p + 1))) N).2.2.2.1 = 0
          rw [va_up_self]
          rfl
        refine Z.same (τ := xOv xs xr xa xl xf (eOv B t0.2.1 t0.2.2.2 (va_up σ r (rdC t0.1 z)))) (fun i _ => by rw [ht0]; rfl) ?_
        rw [show B + 2 * ((p + 2, N + 1, A, va_up E N (eVar (rE0 4 p) (rlk (xa 1) z (p + 1) - 97) (nI (p + 1)))) : rS).2.1 = B + 2 * t0.2.1 by rw [hu0]]
        have hb0 := rCe_parts (T := xa 1) (z := z) (p := p) (d := d) (K := 4) (i := N) (m := 3) (k := 0) (vw := none) (s := t0) hz0 hp0
        rw [hres0] at hb0
        refine z_part C rfl hd8 RX (i := N) (k := 0) t0 d_R_readBinding_14 d_R_readBinding_15 d_R_readBinding_16 d_R_readBinding_17 d_R_readBinding_18 d_R_readBinding_19 d_R_readBinding_22 rfl rfl rfl (h0.at hz0 hm0) hi0 hk0 (by omega) (by omega) (by omega) (by omega) (by omega) (by omega) (by omega) (fun q hq o n' σ' hv => ?_) (fun s2 hs2 => ?_)
        · rw [hpo, ← hres0, rParts_ill hq]
          exact hv
        obtain ⟨hk1, hi1, hg1, hy1, hn1⟩ := rAdd_cnt hz0 hs2 hi0 hk0
        have hw0 := rParts_ge (T := xa 1) (z := z) (p := p) (d := d) (K := 4) (i := N) (m := 3) (k := 0) (vw := none) (s := t0) hz0 hs2 (by omega)
        rw [hres0] at hw0
        refine Z.widen (j1 := 2 * (s2.1 - p)) (j2 := 14 * (s2.1 - p)) (by omega) (by omega) ?_
        have hr0 : rTake (xa 1) z 59 (rAdd N (t0).2.1 s2) (fun s3 => rParts (xa 1) z (rdE (xa 1) z d) 4 N none 3 1 s3) = res := by rw [← hres0, rParts_ok hs2]; rfl
        refine z_take C rfl 59 (by decide) (rAdd N (t0).2.1 s2) d_R_readBinding_25 d_R_readBinding_26 d_R_readBinding_28 rfl (h0.at hy1 (Nat.zero_le _)) (by show s2.2.1 ≤ 150; omega) (by omega) (by omega) (by omega) (by omega) ⟨by omega, by omega⟩ (fun w => ?_) (fun w o n' σ' hv => ?_) (fun w => ?_)
        · rw [rTake, if_neg w] at hr0
          rw [← hr0] at hmc0 hms0
          have q1 : 2 * (s2.1 - p) + 1 ≤ mc := hmc0
          have q2 : 14 * (s2.1 - p) + 6 ≤ ms := hms0
          exact ⟨by omega, by omega⟩
        · rw [hpo, ← hr0, rTake, if_neg w]
          exact hv
        rw [rTake, if_pos w] at hr0
        have hlt0 := rlk_lt w (by decide)
        have hlt0 : s2.1 < z := hlt0
        obtain ⟨t1, ht1⟩ : ∃ t : rS, t = (s2.1 + 1, s2.2.1, (rAdd N (t0).2.1 s2).2.2) := ⟨_, rfl⟩
        have hres1 : rParts (xa 1) z (rdE (xa 1) z d) 4 N none 3 1 t1 = res := by rw [ht1]; exact hr0
        have hz1 : t1.1 ≤ z := by rw [ht1]; exact hlt0
        have hv1 : t1.1 = s2.1 + 1 := by rw [ht1]
        have hu1 : t1.2.1 = s2.2.1 := by rw [ht1]
        have hp1 : p ≤ t1.1 := by omega
        have hm1 : t1.2.1 ≤ t1.1 := by omega
        have hi1' : N < t1.2.1 := by omega
        have hk1' : (t1.2.2.2 N).2.2.2.1 = 1 := by rw [ht1]; exact hk1
        refine Z.same (τ := xOv xs xr xa xl xf (eOv B t1.2.1 t1.2.2.2 (va_up σ r (rdC t1.1 z)))) (fun i _ => by rw [ht1]; rfl) ?_
        rw [show B + 2 * (rAdd N (t0).2.1 s2).2.1 = B + 2 * t1.2.1 by rw [ht1]; rfl]
        clear hi1 hk1
        have hi1 := hi1'
        have hk1 := hk1'
        have hb1 := rCe_parts (T := xa 1) (z := z) (p := p) (d := d) (K := 4) (i := N) (m := 2) (k := 1) (vw := none) (s := t1) hz1 hp1
        rw [hres1] at hb1
        refine z_part C rfl hd8 RX (i := N) (k := 1) t1 d_R_readBinding_31 d_R_readBinding_32 d_R_readBinding_33 d_R_readBinding_34 d_R_readBinding_35 d_R_readBinding_36 d_R_readBinding_39 rfl rfl rfl (h0.at hz1 hm1) hi1 hk1 (by omega) (by omega) (by omega) (by omega) (by omega) (by omega) (by omega) (fun q hq o n' σ' hv => ?_) (fun s3 hs3 => ?_)
        · rw [hpo, ← hres1, rParts_ill hq]
          exact hv
        obtain ⟨hk2, hi2, hg2, hy2, hn2⟩ := rAdd_cnt hz1 hs3 hi1 hk1
        have hw1 := rParts_ge (T := xa 1) (z := z) (p := p) (d := d) (K := 4) (i := N) (m := 2) (k := 1) (vw := none) (s := t1) hz1 hs3 (by omega)
        rw [hres1] at hw1
        refine Z.widen (j1 := 2 * (s3.1 - p)) (j2 := 14 * (s3.1 - p)) (by omega) (by omega) ?_
        have hfin : res = .inr (rClose N none (rAdd N (t1).2.1 s3)) := by rw [← hres1, rParts_ok hs3]; rfl
        refine z_aload_n C 43 d_R_readBinding_42 rfl rfl ?_
        exact z_aret C rfl d_R_readBinding_43 (by rw [hpo, hfin]; exact ⟨rfl, rfl, rfl⟩) (by omega) (by omega)
      · exact absurd hl w
    · rcases hv with ⟨-, e0, -⟩ | ⟨w, -⟩
      · cases e0
      · exact absurd hl w
  · have hr1 : (.inl (p + 1) : rR) = res := by
      rw [← hres, rLet, if_neg (show ¬ (97 ≤ rlk (xa 1) z (rGo (p, N, A, E) (p + 1)).1 ∧ rlk (xa 1) z (rGo (p, N, A, E) (p + 1)).1 ≤ 116) from hl)]
      rfl
    rw [← hr1] at hmc0 hms0
    have q1 : 2 * (p + 1 - p) + 1 ≤ mc := hmc0
    have q2 : 14 * (p + 1 - p) + 6 ≤ ms := hms0
    refine z_aload_n C 1 d_R_readBinding_0 rfl rfl ?_
    refine z_getsF C 4 4 (by decide) sf_180 d_R_readBinding_1 rfl ?_
    refine z_call C 7 (c_R_readSignAndVariable (k := 4) h0 hpz (mc := 3) (ms := 20) ⟨by omega, by omega⟩ (fun _ => ⟨by omega, by omega⟩)) w_R_readSignAndVariable ini_R d_R_readBinding_4 rfl (z_goV (As := [.ref (1000001 + 4)]) C l_R_108 w_R_readSignAndVariable d_R_readBinding_4 (by omega) (hrd) rfl rfl) (Nat.le_of_ble_eq_true rfl) (by rw [hR]; simp only [zRm]; omega) (by rw [hR]; simp only [zRm]; omega) (by rw [hR]; simp only [zRm]; omega) (by rw [hR]; simp only [zRm]; omega) (fun v n' σ' hv => ?_) (fun x n' σ' hv => ?_)
    · rcases hv with ⟨w, -⟩ | ⟨-, x, τ, e0, -⟩
      · exact absurd w hl
      · cases e0
    · rcases hv with ⟨w, -⟩ | ⟨-, hv⟩
      · exact absurd w hl
      · exact zx_out C (fun h hh => nomatch hh) (by rw [hpo, ← hr1]; exact hv) (by omega) (by omega)
end CMP3
