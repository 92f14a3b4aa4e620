theorem rAdd_cnt {T : Nat → Int32} {z d i k : Nat} {s s2 : rS} (hs : s.1 ≤ z) (hs2 : rdE T z d s = .inr s2) (hi : i < s.2.1) (hk : (s.2.2.2 i).2.2.2.1 = k) : ((rAdd i s.2.1 s2).2.2.2 i).2.2.2.1 = k + 1 ∧ i < s2.2.1 ∧ s.1 ≤ s2.1 ∧ s2.1 ≤ z ∧ s2.2.1 + s.1 ≤ s.2.1 + s2.1 := by
  have ks := rdE_ks (T := T) (z := z) d s
  rw [hs2] at ks
  have hg := rdE_pos (T := T) (d := d) hs hs2
  refine ⟨?_, Nat.lt_trans hi ks.1, hg.1, hg.2.1, hg.2.2.2⟩
  show (va_up s2.2.2.2 i (eAdd (s2.2.2.2 i) s.2.1) i).2.2.2.1 = k + 1
  rw [va_up_self]
  show (s2.2.2.2 i).2.2.2.1 + 1 = k + 1
  rw [ks.2 i hi, hk]
theorem rParts_ge {T : Nat → Int32} {z d K i m k p : Nat} {vw : Option (Int32 × Nat)} {s s2 : rS} (hs : s.1 ≤ z) (h : rdE T z d s = .inr s2) (hp : p ≤ s2.1) : 2 * (s2.1 - p) ≤ rCe p (rParts T z (rdE T z d) K i vw (m + 1) k s) ∧ 14 * (s2.1 - p) ≤ rSl p (rParts T z (rdE T z d) K i vw (m + 1) k s) := by
  have hg := rdE_pos (T := T) (d := d) hs h
  rw [rParts_ok h]
  exact rCe_ge (a := rAdd i s.2.1 s2) (rBeh_res hg.2.1 (fun c hc => rParts_res (rdE_res d) m (k + 1) c hc.2.1) (fun c hc => ⟨Nat.le_refl _, hc.2.1, Nat.le_refl _, Nat.le_refl _⟩)) hp
section CMP2
variable {G : zG} {l : Launch} {d r p z B N : Nat} {σ : zS} {xs : mS} {xr : Int64} {xa : mA} {xl : mL} {xf : xF} {E : Nat → eN} {A : mA}
theorem c_R_readNewTable (RX : rHyp G l d) (hd8 : d ≤ 8) (h : rPre B N r p z σ xa) (hch : rlk (xa 1) z p = 37) {res : rR} (hres0 : rParts (xa 1) z (rdE (xa 1) z d) 6 N none 4 0 (rGo (rNode 6 0 p (rE0 6 p) (p, N, A, E)) (p + 1)) = res) {mc ms : Nat} (hmc0 : rCe p res ≤ mc) (hms0 : rSl p res ≤ ms) :
    MetZ G l y_R_readNewTable b_R_readNewTable 3 (some (.object "SoleArrays$Expression")) [] (9 + 4 * d + 2) mc ms [.ref r, .int (nI (8 - d))] (B + 2 * N) (xOv xs xr xa xl xf (eOv B N E σ)) (rPost B N r z σ xs xr xa xl xf res) := by
  have h0 := h
  obtain ⟨hr, hrB, hB, hrd0, hz, hp, hN, hc⟩ := h
  have hpz : p < z := rlk_lt hch (by decide)
  have hrd : xOv xs xr xa xl xf (eOv B N E σ) r = .inr (4, [.ref 1, .int (nI z), .ref 2, .int (nI p)]) := (xOv_at (by omega)).trans ((eOv_lo hrB).trans hrd0)
  have hb := rCe_ge (p := p) (rParts_res (T := xa 1) (R := rdE (xa 1) z d) (rdE_res d) (K := 6) (i := N) (vw := none) 4 0 (rGo (rNode 6 0 p (rE0 6 p) (p, N, A, E)) (p + 1)) hpz) (by show p ≤ p + 1; omega)
  rw [hres0] at hb
  have hbA : 2 * (p + 1 - p) ≤ rCe p res := hb.1
  have hbB : 14 * (p + 1 - p) ≤ rSl p res := hb.2
  refine MetZ.of (by decide) (Nat.le_of_ble_eq_true rfl) (fun K hK hR hpo hmc hms C => ?_)
  subst hK
  have hRc : (kR K).cells = mc := by rw [hR]; rfl
  have hRs : (kR K).slots = ms := by rw [hR]; rfl
  have hRf : (kR K).frames = 9 + 4 * d + 2 := by rw [hR]; rfl
  have hRl : (kR K).locals = 60 * (9 + 4 * d + 2) := by rw [hR]; rfl
  refine z_new C 3 n_R_121 d_R_readNewTable_0 rfl (by omega) (by rw [hR]; simp only [zRm]; omega) (by rw [hR]; simp only [zRm]; omega) ?_
  refine z_dup C 4 d_R_readNewTable_3 rfl rfl ?_
  refine z_getsF C 7 6 (by decide) sf_189 d_R_readNewTable_4 rfl ?_
  refine z_aload_n C 8 d_R_readNewTable_7 rfl rfl ?_
  refine z_get C 11 f_R_9 d_R_readNewTable_8 rfl (by omega) ((va_up_ne _ _ (by omega)).trans hrd) rfl ?_
  refine z_call C 14 (c_E_init (by omega) (by omega) 6 (nI p)) w_E_init ini_E d_R_readNewTable_11 rfl (z_goI (As := [.ref (1000001 + 6), .int (nI p)]) C l_R_126 w_E_init d_R_readNewTable_11 rfl) (Nat.le_of_ble_eq_true rfl) (by rw [hR]; simp only [zRm]; omega) (by rw [hR]; simp only [zRm]; omega) (by rw [hR]; simp only [zRm]; omega) (by rw [hR]; simp only [zRm]; omega) (fun v n' σ' hv => ?_) (fun x n' σ' hv => ?_)
  · obtain ⟨e0, e1, rfl⟩ := hv
    cases e0
    have e1 : n' = B + 2 * (N + 1) := e1
    subst e1
    refine z_astore_n C 15 d_R_readNewTable_14 rfl (by decide) ?_
    refine Z.same (τ := xOv xs xr xa xl xf (eOv B (N + 1) (va_up E N (rE0 6 p)) (va_up σ r (rdC p z)))) (fun i _ => by rw [va_same hrd0]; rfl) ?_
    refine z_take C rfl 37 (by decide) (p, N + 1, rFlat A N 6 0 p, va_up E N (rE0 6 p)) d_R_readNewTable_15 d_R_readNewTable_16 d_R_readNewTable_18 rfl (h0.at hp (Nat.zero_le _)) (by show N + 1 ≤ 150; omega) (by omega) (by omega) (by omega) (by omega) ⟨by omega, by omega⟩ (fun w => absurd hch w) (fun w => absurd hch w) (fun _ => ?_)
    obtain ⟨t0, ht0⟩ : ∃ t : rS, t = rGo (rNode 6 0 p (rE0 6 p) (p, N, A, E)) (p + 1) := ⟨_, rfl⟩
    have hv0 : t0.1 = p + 1 := by rw [ht0]; rfl
    have hu0 : t0.2.1 = N + 1 := by rw [ht0]; rfl
    rw [← ht0] at hres0
    have hz0 : t0.1 ≤ z := by omega
    have hp0 : p ≤ t0.1 := by omega
    have hm0 : t0.2.1 ≤ t0.1 := by omega
    have hi0 : N < t0.2.1 := by omega
    have hk0 : (t0.2.2.2 N).2.2.2.1 = 0 := by
      rw [ht0]
      show (va_up E N (rE0 6 p) N).2.2.2.1 = 0
      rw [va_up_self]
      rfl
    refine Z.same (τ := xOv xs xr xa xl xf (eOv B t0.2.1 t0.2.2.2 (va_up σ r (rdC t0.1 z)))) (fun i _ => by rw [ht0]; rfl) ?_
    rw [show B + 2 * ((p, N + 1, rFlat A N 6 0 p, va_up E N (rE0 6 p)) : rS).2.1 = B + 2 * t0.2.1 by rw [hu0]]
    have hb0 := rCe_parts (T := xa 1) (z := z) (p := p) (d := d) (K := 6) (i := N) (m := 3) (k := 0) (vw := none) (s := t0) hz0 hp0
    rw [hres0] at hb0
    refine z_part C rfl hd8 RX (i := N) (k := 0) t0 d_R_readNewTable_21 d_R_readNewTable_22 d_R_readNewTable_23 d_R_readNewTable_24 d_R_readNewTable_25 d_R_readNewTable_26 d_R_readNewTable_29 rfl rfl rfl (h0.at hz0 hm0) hi0 hk0 (by omega) (by omega) (by omega) (by omega) (by omega) (by omega) (by omega) (fun q hq o n' σ' hv => ?_) (fun s2 hs2 => ?_)
    · rw [hpo, ← hres0, rParts_ill hq]
      exact hv
    obtain ⟨hk1, hi1, hg1, hy1, hn1⟩ := rAdd_cnt hz0 hs2 hi0 hk0
    have hw0 := rParts_ge (T := xa 1) (z := z) (p := p) (d := d) (K := 6) (i := N) (m := 3) (k := 0) (vw := none) (s := t0) hz0 hs2 (by omega)
    rw [hres0] at hw0
    refine Z.widen (j1 := 2 * (s2.1 - p)) (j2 := 14 * (s2.1 - p)) (by omega) (by omega) ?_
    have hr0 : rTake (xa 1) z 44 (rAdd N (t0).2.1 s2) (fun s3 => rParts (xa 1) z (rdE (xa 1) z d) 6 N none 3 1 s3) = res := by rw [← hres0, rParts_ok hs2]; rfl
    refine z_take C rfl 44 (by decide) (rAdd N (t0).2.1 s2) d_R_readNewTable_32 d_R_readNewTable_33 d_R_readNewTable_35 rfl (h0.at hy1 (Nat.zero_le _)) (by show s2.2.1 ≤ 150; omega) (by omega) (by omega) (by omega) (by omega) ⟨by omega, by omega⟩ (fun w => ?_) (fun w o n' σ' hv => ?_) (fun w => ?_)
    · rw [rTake, if_neg w] at hr0
      rw [← hr0] at hmc0 hms0
      have q1 : 2 * (s2.1 - p) + 1 ≤ mc := hmc0
      have q2 : 14 * (s2.1 - p) + 6 ≤ ms := hms0
      exact ⟨by omega, by omega⟩
    · rw [hpo, ← hr0, rTake, if_neg w]
      exact hv
    rw [rTake, if_pos w] at hr0
    have hlt0 := rlk_lt w (by decide)
    have hlt0 : s2.1 < z := hlt0
    obtain ⟨t1, ht1⟩ : ∃ t : rS, t = (s2.1 + 1, s2.2.1, (rAdd N (t0).2.1 s2).2.2) := ⟨_, rfl⟩
    have hres1 : rParts (xa 1) z (rdE (xa 1) z d) 6 N none 3 1 t1 = res := by rw [ht1]; exact hr0
    have hz1 : t1.1 ≤ z := by rw [ht1]; exact hlt0
    have hv1 : t1.1 = s2.1 + 1 := by rw [ht1]
    have hu1 : t1.2.1 = s2.2.1 := by rw [ht1]
    have hp1 : p ≤ t1.1 := by omega
    have hm1 : t1.2.1 ≤ t1.1 := by omega
    have hi1' : N < t1.2.1 := by omega
    have hk1' : (t1.2.2.2 N).2.2.2.1 = 1 := by rw [ht1]; exact hk1
    refine Z.same (τ := xOv xs xr xa xl xf (eOv B t1.2.1 t1.2.2.2 (va_up σ r (rdC t1.1 z)))) (fun i _ => by rw [ht1]; rfl) ?_
    rw [show B + 2 * (rAdd N (t0).2.1 s2).2.1 = B + 2 * t1.2.1 by rw [ht1]; rfl]
    clear hi1 hk1
    have hi1 := hi1'
    have hk1 := hk1'
    have hb1 := rCe_parts (T := xa 1) (z := z) (p := p) (d := d) (K := 6) (i := N) (m := 2) (k := 1) (vw := none) (s := t1) hz1 hp1
    rw [hres1] at hb1
    refine z_part C rfl hd8 RX (i := N) (k := 1) t1 d_R_readNewTable_38 d_R_readNewTable_39 d_R_readNewTable_40 d_R_readNewTable_41 d_R_readNewTable_42 d_R_readNewTable_43 d_R_readNewTable_46 rfl rfl rfl (h0.at hz1 hm1) hi1 hk1 (by omega) (by omega) (by omega) (by omega) (by omega) (by omega) (by omega) (fun q hq o n' σ' hv => ?_) (fun s3 hs3 => ?_)
    · rw [hpo, ← hres1, rParts_ill hq]
      exact hv
    obtain ⟨hk2, hi2, hg2, hy2, hn2⟩ := rAdd_cnt hz1 hs3 hi1 hk1
    have hw1 := rParts_ge (T := xa 1) (z := z) (p := p) (d := d) (K := 6) (i := N) (m := 2) (k := 1) (vw := none) (s := t1) hz1 hs3 (by omega)
    rw [hres1] at hw1
    refine Z.widen (j1 := 2 * (s3.1 - p)) (j2 := 14 * (s3.1 - p)) (by omega) (by omega) ?_
    have hfin : res = .inr (rClose N none (rAdd N (t1).2.1 s3)) := by rw [← hres1, rParts_ok hs3]; rfl
    refine z_aload_n C 50 d_R_readNewTable_49 rfl rfl ?_
    exact z_aret C rfl d_R_readNewTable_50 (by rw [hpo, hfin]; exact ⟨rfl, rfl, rfl⟩) (by omega) (by omega)
  · cases hv.1
theorem c_R_readChoice (RX : rHyp G l d) (hd8 : d ≤ 8) (h : rPre B N r p z σ xa) (hch : rlk (xa 1) z p = 63) {res : rR} (hres0 : rParts (xa 1) z (rdE (xa 1) z d) 3 N none 4 0 (rGo (rNode 3 0 p (rE0 3 p) (p, N, A, E)) (p + 1)) = res) {mc ms : Nat} (hmc0 : rCe p res ≤ mc) (hms0 : rSl p res ≤ ms) :
    MetZ G l y_R_readChoice b_R_readChoice 3 (some (.object "SoleArrays$Expression")) [] (9 + 4 * d + 2) mc ms [.ref r, .int (nI (8 - d))] (B + 2 * N) (xOv xs xr xa xl xf (eOv B N E σ)) (rPost B N r z σ xs xr xa xl xf res) := by
  have h0 := h
  obtain ⟨hr, hrB, hB, hrd0, hz, hp, hN, hc⟩ := h
  have hpz : p < z := rlk_lt hch (by decide)
  have hrd : xOv xs xr xa xl xf (eOv B N E σ) r = .inr (4, [.ref 1, .int (nI z), .ref 2, .int (nI p)]) := (xOv_at (by omega)).trans ((eOv_lo hrB).trans hrd0)
  have hb := rCe_ge (p := p) (rParts_res (T := xa 1) (R := rdE (xa 1) z d) (rdE_res d) (K := 3) (i := N) (vw := none) 4 0 (rGo (rNode 3 0 p (rE0 3 p) (p, N, A, E)) (p + 1)) hpz) (by show p ≤ p + 1; omega)
  rw [hres0] at hb
  have hbA : 2 * (p + 1 - p) ≤ rCe p res := hb.1
  have hbB : 14 * (p + 1 - p) ≤ rSl p res := hb.2
  refine MetZ.of (by decide) (Nat.le_of_ble_eq_true rfl) (fun K hK hR hpo hmc hms C => ?_)
  subst hK
  have hRc : (kR K).cells = mc := by rw [hR]; rfl
  have hRs : (kR K).slots = ms := by rw [hR]; rfl
  have hRf : (kR K).frames = 9 + 4 * d + 2 := by rw [hR]; rfl
  have hRl : (kR K).locals = 60 * (9 + 4 * d + 2) := by rw [hR]; rfl
  refine z_new C 3 n_R_121 d_R_readChoice_0 rfl (by omega) (by rw [hR]; simp only [zRm]; omega) (by rw [hR]; simp only [zRm]; omega) ?_
  refine z_dup C 4 d_R_readChoice_3 rfl rfl ?_
  refine z_getsF C 7 3 (by decide) sf_177 d_R_readChoice_4 rfl ?_
  refine z_aload_n C 8 d_R_readChoice_7 rfl rfl ?_
  refine z_get C 11 f_R_9 d_R_readChoice_8 rfl (by omega) ((va_up_ne _ _ (by omega)).trans hrd) rfl ?_
  refine z_call C 14 (c_E_init (by omega) (by omega) 3 (nI p)) w_E_init ini_E d_R_readChoice_11 rfl (z_goI (As := [.ref (1000001 + 3), .int (nI p)]) C l_R_126 w_E_init d_R_readChoice_11 rfl) (Nat.le_of_ble_eq_true rfl) (by rw [hR]; simp only [zRm]; omega) (by rw [hR]; simp only [zRm]; omega) (by rw [hR]; simp only [zRm]; omega) (by rw [hR]; simp only [zRm]; omega) (fun v n' σ' hv => ?_) (fun x n' σ' hv => ?_)
  · obtain ⟨e0, e1, rfl⟩ := hv
    cases e0
    have e1 : n' = B + 2 * (N + 1) := e1
    subst e1
    refine z_astore_n C 15 d_R_readChoice_14 rfl (by decide) ?_
    refine Z.same (τ := xOv xs xr xa xl xf (eOv B (N + 1) (va_up E N (rE0 3 p)) (va_up σ r (rdC p z)))) (fun i _ => by rw [va_same hrd0]; rfl) ?_
    refine z_take C rfl 63 (by decide) (p, N + 1, rFlat A N 3 0 p, va_up E N (rE0 3 p)) d_R_readChoice_15 d_R_readChoice_16 d_R_readChoice_18 rfl (h0.at hp (Nat.zero_le _)) (by show N + 1 ≤ 150; omega) (by omega) (by omega) (by omega) (by omega) ⟨by omega, by omega⟩ (fun w => absurd hch w) (fun w => absurd hch w) (fun _ => ?_)
    obtain ⟨t0, ht0⟩ : ∃ t : rS, t = rGo (rNode 3 0 p (rE0 3 p) (p, N, A, E)) (p + 1) := ⟨_, rfl⟩
    have hv0 : t0.1 = p + 1 := by rw [ht0]; rfl
    have hu0 : t0.2.1 = N + 1 := by rw [ht0]; rfl
    rw [← ht0] at hres0
    have hz0 : t0.1 ≤ z := by omega
    have hp0 : p ≤ t0.1 := by omega
    have hm0 : t0.2.1 ≤ t0.1 := by omega
    have hi0 : N < t0.2.1 := by omega
    have hk0 : (t0.2.2.2 N).2.2.2.1 = 0 := by
      rw [ht0]
      show (va_up E N (rE0 3 p) N).2.2.2.1 = 0
      rw [va_up_self]
      rfl
    refine Z.same (τ := xOv xs xr xa xl xf (eOv B t0.2.1 t0.2.2.2 (va_up σ r (rdC t0.1 z)))) (fun i _ => by rw [ht0]; rfl) ?_
    rw [show B + 2 * ((p, N + 1, rFlat A N 3 0 p, va_up E N (rE0 3 p)) : rS).2.1 = B + 2 * t0.2.1 by rw [hu0]]
    have hb0 := rCe_parts (T := xa 1) (z := z) (p := p) (d := d) (K := 3) (i := N) (m := 3) (k := 0) (vw := none) (s := t0) hz0 hp0
    rw [hres0] at hb0
    refine z_part C rfl hd8 RX (i := N) (k := 0) t0 d_R_readChoice_21 d_R_readChoice_22 d_R_readChoice_23 d_R_readChoice_24 d_R_readChoice_25 d_R_readChoice_26 d_R_readChoice_29 rfl rfl rfl (h0.at hz0 hm0) hi0 hk0 (by omega) (by omega) (by omega) (by omega) (by omega) (by omega) (by omega) (fun q hq o n' σ' hv => ?_) (fun s2 hs2 => ?_)
    · rw [hpo, ← hres0, rParts_ill hq]
      exact hv
    obtain ⟨hk1, hi1, hg1, hy1, hn1⟩ := rAdd_cnt hz0 hs2 hi0 hk0
    have hw0 := rParts_ge (T := xa 1) (z := z) (p := p) (d := d) (K := 3) (i := N) (m := 3) (k := 0) (vw := none) (s := t0) hz0 hs2 (by omega)
    rw [hres0] at hw0
    refine Z.widen (j1 := 2 * (s2.1 - p)) (j2 := 14 * (s2.1 - p)) (by omega) (by omega) ?_
    have hr0 : rTake (xa 1) z 40 (rAdd N (t0).2.1 s2) (fun s3 => rParts (xa 1) z (rdE (xa 1) z d) 3 N none 3 1 s3) = res := by rw [← hres0, rParts_ok hs2]; rfl
    refine z_take C rfl 40 (by decide) (rAdd N (t0).2.1 s2) d_R_readChoice_32 d_R_readChoice_33 d_R_readChoice_35 rfl (h0.at hy1 (Nat.zero_le _)) (by show s2.2.1 ≤ 150; omega) (by omega) (by omega) (by omega) (by omega) ⟨by omega, by omega⟩ (fun w => ?_) (fun w o n' σ' hv => ?_) (fun w => ?_)
    · rw [rTake, if_neg w] at hr0
      rw [← hr0] at hmc0 hms0
      have q1 : 2 * (s2.1 - p) + 1 ≤ mc := hmc0
      have q2 : 14 * (s2.1 - p) + 6 ≤ ms := hms0
      exact ⟨by omega, by omega⟩
    · rw [hpo, ← hr0, rTake, if_neg w]
      exact hv
    rw [rTake, if_pos w] at hr0
    have hlt0 := rlk_lt w (by decide)
    have hlt0 : s2.1 < z := hlt0
    obtain ⟨t1, ht1⟩ : ∃ t : rS, t = (s2.1 + 1, s2.2.1, (rAdd N (t0).2.1 s2).2.2) := ⟨_, rfl⟩
    have hres1 : rParts (xa 1) z (rdE (xa 1) z d) 3 N none 3 1 t1 = res := by rw [ht1]; exact hr0
    have hz1 : t1.1 ≤ z := by rw [ht1]; exact hlt0
    have hv1 : t1.1 = s2.1 + 1 := by rw [ht1]
    have hu1 : t1.2.1 = s2.2.1 := by rw [ht1]
    have hp1 : p ≤ t1.1 := by omega
    have hm1 : t1.2.1 ≤ t1.1 := by omega
    have hi1' : N < t1.2.1 := by omega
    have hk1' : (t1.2.2.2 N).2.2.2.1 = 1 := by rw [ht1]; exact hk1
    refine Z.same (τ := xOv xs xr xa xl xf (eOv B t1.2.1 t1.2.2.2 (va_up σ r (rdC t1.1 z)))) (fun i _ => by rw [ht1]; rfl) ?_
    rw [show B + 2 * (rAdd N (t0).2.1 s2).2.1 = B + 2 * t1.2.1 by rw [ht1]; rfl]
    clear hi1 hk1
    have hi1 := hi1'
    have hk1 := hk1'
    have hb1 := rCe_parts (T := xa 1) (z := z) (p := p) (d := d) (K := 3) (i := N) (m := 2) (k := 1) (vw := none) (s := t1) hz1 hp1
    rw [hres1] at hb1
    refine z_part C rfl hd8 RX (i := N) (k := 1) t1 d_R_readChoice_38 d_R_readChoice_39 d_R_readChoice_40 d_R_readChoice_41 d_R_readChoice_42 d_R_readChoice_43 d_R_readChoice_46 rfl rfl rfl (h0.at hz1 hm1) hi1 hk1 (by omega) (by omega) (by omega) (by omega) (by omega) (by omega) (by omega) (fun q hq o n' σ' hv => ?_) (fun s3 hs3 => ?_)
    · rw [hpo, ← hres1, rParts_ill hq]
      exact hv
    obtain ⟨hk2, hi2, hg2, hy2, hn2⟩ := rAdd_cnt hz1 hs3 hi1 hk1
    have hw1 := rParts_ge (T := xa 1) (z := z) (p := p) (d := d) (K := 3) (i := N) (m := 2) (k := 1) (vw := none) (s := t1) hz1 hs3 (by omega)
    rw [hres1] at hw1
    refine Z.widen (j1 := 2 * (s3.1 - p)) (j2 := 14 * (s3.1 - p)) (by omega) (by omega) ?_
    have hr1 : rTake (xa 1) z 124 (rAdd N (t1).2.1 s3) (fun s3 => rParts (xa 1) z (rdE (xa 1) z d) 3 N none 2 2 s3) = res := by rw [← hres1, rParts_ok hs3]; rfl
    refine z_take C rfl 124 (by decide) (rAdd N (t1).2.1 s3) d_R_readChoice_49 d_R_readChoice_50 d_R_readChoice_52 rfl (h0.at hy2 (Nat.zero_le _)) (by show s3.2.1 ≤ 150; omega) (by omega) (by omega) (by omega) (by omega) ⟨by omega, by omega⟩ (fun w => ?_) (fun w o n' σ' hv => ?_) (fun w => ?_)
    · rw [rTake, if_neg w] at hr1
      rw [← hr1] at hmc0 hms0
      have q1 : 2 * (s3.1 - p) + 1 ≤ mc := hmc0
      have q2 : 14 * (s3.1 - p) + 6 ≤ ms := hms0
      exact ⟨by omega, by omega⟩
    · rw [hpo, ← hr1, rTake, if_neg w]
      exact hv
    rw [rTake, if_pos w] at hr1
    have hlt1 := rlk_lt w (by decide)
    have hlt1 : s3.1 < z := hlt1
    obtain ⟨t2, ht2⟩ : ∃ t : rS, t = (s3.1 + 1, s3.2.1, (rAdd N (t1).2.1 s3).2.2) := ⟨_, rfl⟩
    have hres2 : rParts (xa 1) z (rdE (xa 1) z d) 3 N none 2 2 t2 = res := by rw [ht2]; exact hr1
    have hz2 : t2.1 ≤ z := by rw [ht2]; exact hlt1
    have hv2 : t2.1 = s3.1 + 1 := by rw [ht2]
    have hu2 : t2.2.1 = s3.2.1 := by rw [ht2]
    have hp2 : p ≤ t2.1 := by omega
    have hm2 : t2.2.1 ≤ t2.1 := by omega
    have hi2' : N < t2.2.1 := by omega
    have hk2' : (t2.2.2.2 N).2.2.2.1 = 2 := by rw [ht2]; exact hk2
    refine Z.same (τ := xOv xs xr xa xl xf (eOv B t2.2.1 t2.2.2.2 (va_up σ r (rdC t2.1 z)))) (fun i _ => by rw [ht2]; rfl) ?_
    rw [show B + 2 * (rAdd N (t1).2.1 s3).2.1 = B + 2 * t2.2.1 by rw [ht2]; rfl]
    clear hi2 hk2
    have hi2 := hi2'
    have hk2 := hk2'
    have hb2 := rCe_parts (T := xa 1) (z := z) (p := p) (d := d) (K := 3) (i := N) (m := 1) (k := 2) (vw := none) (s := t2) hz2 hp2
    rw [hres2] at hb2
    refine z_part C rfl hd8 RX (i := N) (k := 2) t2 d_R_readChoice_55 d_R_readChoice_56 d_R_readChoice_57 d_R_readChoice_58 d_R_readChoice_59 d_R_readChoice_60 d_R_readChoice_63 rfl rfl rfl (h0.at hz2 hm2) hi2 hk2 (by omega) (by omega) (by omega) (by omega) (by omega) (by omega) (by omega) (fun q hq o n' σ' hv => ?_) (fun s4 hs4 => ?_)
    · rw [hpo, ← hres2, rParts_ill hq]
      exact hv
    obtain ⟨hk3, hi3, hg3, hy3, hn3⟩ := rAdd_cnt hz2 hs4 hi2 hk2
    have hw2 := rParts_ge (T := xa 1) (z := z) (p := p) (d := d) (K := 3) (i := N) (m := 1) (k := 2) (vw := none) (s := t2) hz2 hs4 (by omega)
    rw [hres2] at hw2
    refine Z.widen (j1 := 2 * (s4.1 - p)) (j2 := 14 * (s4.1 - p)) (by omega) (by omega) ?_
    have hr2 : rTake (xa 1) z 41 (rAdd N (t2).2.1 s4) (fun s3 => .inr (rClose N none s3)) = res := by rw [← hres2, rParts_ok hs4]; rfl
    refine z_take C rfl 41 (by decide) (rAdd N (t2).2.1 s4) d_R_readChoice_66 d_R_readChoice_67 d_R_readChoice_69 rfl (h0.at hy3 (Nat.zero_le _)) (by show s4.2.1 ≤ 150; omega) (by omega) (by omega) (by omega) (by omega) ⟨by omega, by omega⟩ (fun w => ?_) (fun w o n' σ' hv => ?_) (fun w => ?_)
    · rw [rTake, if_neg w] at hr2
      rw [← hr2] at hmc0 hms0
      have q1 : 2 * (s4.1 - p) + 1 ≤ mc := hmc0
      have q2 : 14 * (s4.1 - p) + 6 ≤ ms := hms0
      exact ⟨by omega, by omega⟩
    · rw [hpo, ← hr2, rTake, if_neg w]
      exact hv
    rw [rTake, if_pos w] at hr2
    have hlt2 := rlk_lt w (by decide)
    have hlt2 : s4.1 < z := hlt2
    refine z_aload_n C 73 d_R_readChoice_72 rfl rfl ?_
    rw [← hr2] at hmc0 hms0
    have q1 : 2 * (s4.1 + 1 - p) ≤ mc := hmc0
    have q2 : 14 * (s4.1 + 1 - p) ≤ ms := hms0
    exact z_aret C rfl d_R_readChoice_73 (by rw [hpo, ← hr2]; exact ⟨rfl, rfl, rfl⟩) (by omega) (by omega)
  · cases hv.1
end CMP2
