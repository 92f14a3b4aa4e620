section RCL2
variable {G : zG} {l : Launch} {d r p z B N : Nat} {σ : zS} {xs : mS} {xr : Int64} {xa : mA} {xl : mL} {xf : xF} {E : Nat → eN} {A : mA}
def eC (p : Nat) (f : Int32) : eN := (13, nI p, fun _ => none, 0, 0, 32, 0, 0, f, none)
theorem c_R_readCall (RX : rHyp G l d) (hd8 : d ≤ 8) (h : rPre B N r p z σ xa) (hq : 65 ≤ rlk (xa 1) z p ∧ rlk (xa 1) z p ≤ 72) {f : Int32} (hf : rlk (xa 1) z p - 65 = f) {res : rR}
    (hres : (if rlk (xa 1) z (p + 1) = 40 then (if rlk (xa 1) z (p + 2) = 41 then .inr (rGo (rNode 13 f p (eC p f) (p, N, A, E)) (p + 3)) else rParts (xa 1) z (rdE (xa 1) z d) 13 N none 4 0 (rGo (rNode 13 f p (eC p f) (p, N, A, E)) (p + 2))) else .inl (p + 1)) = res) {mc ms : Nat} (hmc0 : rCe p res ≤ mc) (hms0 : rSl p res ≤ ms) :
    MetZ G l y_R_readCall b_R_readCall 4 (some (.object "SoleArrays$Expression")) [] (9 + 4 * d + 2) mc ms [.ref r, .int (nI (8 - d))] (B + 2 * N) (xOv xs xr xa xl xf (eOv B N E σ)) (rPost B N r z σ xs xr xa xl xf res) := by
  have h0 := h
  obtain ⟨hr, hrB, hB, hrd0, hz, hp, hN, hc⟩ := h
  have hpz : p < z := rlk_pos hq.1 (by decide)
  have hrd : xOv xs xr xa xl xf (eOv B N E σ) r = .inr (4, [.ref 1, .int (nI z), .ref 2, .int (nI p)]) := (xOv_at (by omega)).trans ((eOv_lo hrB).trans hrd0)
  have hbd : 2 ≤ mc ∧ 14 ≤ ms ∧ (¬ rlk (xa 1) z (p + 1) = 40 → 3 ≤ mc ∧ 20 ≤ ms) := by
    by_cases w : rlk (xa 1) z (p + 1) = 40
    · rw [if_pos w] at hres
      have hl := rlk_lt w (by decide)
      by_cases w2 : rlk (xa 1) z (p + 2) = 41
      · rw [if_pos w2] at hres
        rw [← hres] at hmc0 hms0
        have q1 : 2 * (p + 3 - p) ≤ mc := hmc0
        have q2 : 14 * (p + 3 - p) ≤ ms := hms0
        exact ⟨by omega, by omega, fun q => absurd w q⟩
      · rw [if_neg w2] at hres
        have hb := rCe_ge (p := p) (rParts_res (T := xa 1) (R := rdE (xa 1) z d) (rdE_res d) (K := 13) (i := N) (vw := none) 4 0 (rGo (rNode 13 f p (eC p f) (p, N, A, E)) (p + 2)) hl) (by show p ≤ p + 2; omega)
        rw [hres] at hb
        have hbA : 2 * (p + 2 - p) ≤ rCe p res := hb.1
        have hbB : 14 * (p + 2 - p) ≤ rSl p res := hb.2
        exact ⟨by omega, by omega, fun q => absurd w q⟩
    · rw [if_neg w] at hres
      rw [← hres] at hmc0 hms0
      have q1 : 2 * (p + 1 - p) + 1 ≤ mc := hmc0
      have q2 : 14 * (p + 1 - p) + 6 ≤ ms := hms0
      exact ⟨by omega, by omega, fun _ => ⟨by omega, by omega⟩⟩
  obtain ⟨hbd1, hbd2, hbd3⟩ := hbd
  refine MetZ.of (by decide) (Nat.le_of_ble_eq_true rfl) (fun K hK hR hpo hmc hms C => ?_)
  subst hK
  have hRc : (kR K).cells = mc := by rw [hR]; rfl
  have hRs : (kR K).slots = ms := by rw [hR]; rfl
  have hRf : (kR K).frames = 9 + 4 * d + 2 := by rw [hR]; rfl
  have hRl : (kR K).locals = 60 * (9 + 4 * d + 2) := by rw [hR]; rfl
  refine z_new C 3 n_R_121 d_R_readCall_0 rfl (by omega) (by rw [hR]; simp only [zRm]; omega) (by rw [hR]; simp only [zRm]; omega) ?_
  refine z_dup C 4 d_R_readCall_3 rfl rfl ?_
  refine z_getsF C 7 13 (by decide) sf_161 d_R_readCall_4 rfl ?_
  refine z_aload_n C 8 d_R_readCall_7 rfl rfl ?_
  refine z_get C 11 f_R_9 d_R_readCall_8 rfl (by omega) ((va_up_ne _ _ (by omega)).trans hrd) rfl ?_
  refine z_call C 14 (c_E_init (by omega) (by omega) 13 (nI p)) w_E_init ini_E d_R_readCall_11 rfl (z_goI (As := [.ref (1000001 + 13), .int (nI p)]) C l_R_126 w_E_init d_R_readCall_11 rfl) (Nat.le_of_ble_eq_true rfl) (by rw [hR]; simp only [zRm]; omega) (by rw [hR]; simp only [zRm]; omega) (by rw [hR]; simp only [zRm]; omega) (by rw [hR]; simp only [zRm]; omega) (fun v n' σ' hv => ?_) (fun x n' σ' hv => ?_)
  rotate_left
  · cases hv.1
  obtain ⟨e0, e1, rfl⟩ := hv
  cases e0
  have e1 : n' = B + 2 * (N + 1) := e1
  subst e1
  have hr1 : eOv B (N + 1) (va_up E N (eNew 13 (nI p))) σ r = rdC p z := (eOv_lo hrB).trans hrd0
  refine z_astore_n C 15 d_R_readCall_14 rfl (by decide) ?_
  refine z_aload_n C 16 d_R_readCall_15 rfl rfl ?_
  refine z_aload_n C 17 d_R_readCall_16 rfl rfl ?_
  refine z_bipush C 19 d_R_readCall_17 rfl 65 (by decide) ?_
  refine z_bipush C 21 d_R_readCall_19 rfl 72 (by decide) ?_
  refine z_call C 24 (c_R_takeOneOf (p := p) (z := z) (by omega) (by omega) (by omega) (by omega) hr1 hz (by omega) hc 65 72 (mc := 0) (ms := 0) (fun w => absurd hq w)) w_R_takeOneOf ini_R d_R_readCall_21 rfl (z_goV (As := [.int 65, .int 72]) C l_R_28 w_R_takeOneOf d_R_readCall_21 (by omega) ((xOv_at (by omega)).trans hr1) rfl rfl) (Nat.le_of_ble_eq_true rfl) (by rw [hR]; simp only [zRm]; omega) (by rw [hR]; simp only [zRm]; omega) (by rw [hR]; simp only [zRm]; omega) (by rw [hR]; simp only [zRm]; omega) (fun v n' σ' hv => ?_) (fun x n' σ' hv => ?_)
  rotate_left
  · rcases hv with ⟨-, e0, -⟩ | ⟨w, -⟩
    · cases e0
    · exact absurd hq w
  obtain ⟨-, e0, rfl, rfl⟩ := hv.resolve_right (fun w => w.1 hq)
  cases e0
  rw [eOv_low hrB, show xlk xa p z - 65 = f from hf]
  have ho : xOv xs xr xa xl xf (eOv B (N + 1) (va_up E N (eNew 13 (nI p))) (va_up σ r (rdC (p + 1) z))) (B + 2 * N) = eCell B N (eNew 13 (nI p)) := (xOv_at (by omega)).trans ((eOv_obj (Nat.lt_succ_self N)).trans (by rw [va_up_self]))
  refine z_put C 27 p_R_164 d_R_readCall_24 rfl (by omega) ho (z_ltb rfl) rfl rfl ?_
  rw [xOv_up (by omega)]
  show Z G K _ (xOv _ _ _ _ _ (va_up _ _ (eCell B N (eC p f)))) _ _ _ _ _
  rw [eOv_upO (e' := eC p f) (Nat.lt_succ_self N) (by rw [va_up_self]; rfl), va_up2]
  refine z_take C rfl 40 (by decide) (p + 1, N + 1, rFlat A N 13 f p, va_up E N (eC p f)) d_R_readCall_27 d_R_readCall_28 d_R_readCall_30 rfl (h0.at hpz (Nat.zero_le _)) (by show N + 1 ≤ 150; omega) (by omega) (by omega) (by omega) (by omega) ⟨by omega, by omega⟩ (fun w => ?_) (fun w o n' σ' hv => ?_) (fun w => ?_)
  · have := hbd3 w
    exact ⟨by omega, by omega⟩
  · rw [if_neg w] at hres
    rw [hpo, ← hres]
    exact hv
  have w : rlk (xa 1) z (p + 1) = 40 := w
  rw [if_pos w] at hres
  have hl : p + 1 < z := rlk_lt w (by decide)
  obtain ⟨t0, ht0⟩ : ∃ t : rS, t = rGo (rNode 13 f p (eC p f) (p, N, A, E)) (p + 2) := ⟨_, rfl⟩
  have hv0 : t0.1 = p + 2 := by rw [ht0]; rfl
  have hu0 : t0.2.1 = N + 1 := by rw [ht0]; rfl
  have hz0 : t0.1 ≤ z := by omega
  have hk0 : (t0.2.2.2 N).2.2.2.1 = 0 := by
    rw [ht0]
    show (va_up E N (eC p f) N).2.2.2.1 = 0
    rw [va_up_self]
    rfl
  refine Z.same (τ := xOv xs xr xa xl xf (eOv B t0.2.1 t0.2.2.2 (va_up σ r (rdC t0.1 z)))) (fun i _ => by rw [ht0]; rfl) ?_
  rw [show B + 2 * ((p + 1, N + 1, rFlat A N 13 f p, va_up E N (eC p f)) : rS).2.1 = B + 2 * t0.2.1 by rw [hu0]]
  have hra : eOv B t0.2.1 t0.2.2.2 (va_up σ r (rdC t0.1 z)) r = rdC t0.1 z := (eOv_lo hrB).trans (va_up_self _ _ _)
  have hra2 : xOv xs xr xa xl xf (eOv B t0.2.1 t0.2.2.2 (va_up σ r (rdC t0.1 z))) r = .inr (4, [.ref 1, .int (nI z), .ref 2, .int (nI t0.1)]) := (xOv_at (by omega)).trans hra
  refine z_iconst C 34 d_R_readCall_33 rfl 0 (by decide) ?_
  refine z_istore_n C 35 d_R_readCall_34 rfl (by decide) ?_
  refine z_iload_n C 36 d_R_readCall_35 rfl rfl ?_
  refine z_iconst C 37 d_R_readCall_36 rfl 4 (by decide) ?_
  refine z_icmp_ge C 40 71 d_R_readCall_37 rfl (by decide) (fun h9 => absurd h9 (show ¬ (4 : Int32) ≤ 0 by decide)) (fun _ => ?_)
  refine z_aload_n C 41 d_R_readCall_40 rfl rfl ?_
  refine z_call C 44 (c_R_next (p := t0.1) (z := z) (by omega) (by omega) (by omega) hra hz (by omega) hc) w_R_next ini_R d_R_readCall_41 rfl (z_goV (As := []) C l_R_39 w_R_next d_R_readCall_41 (by omega) (hra2) rfl rfl) (Nat.le_of_ble_eq_true rfl) (by rw [hR]; simp only [zRm]; omega) (by rw [hR]; simp only [zRm]; omega) (by rw [hR]; simp only [zRm]; omega) (by rw [hR]; simp only [zRm]; omega) (fun v n' σ' hv => ?_) (fun x n' σ' hv => ?_)
  rotate_left
  · cases hv.1
  obtain ⟨e0, e1, rfl⟩ := hv
  cases e0
  subst e1
  refine z_bipush C 46 d_R_readCall_44 rfl 41 (by decide) ?_
  by_cases h41 : rlk (xa 1) z t0.1 = 41
  · refine z_icmp_eq C 49 71 d_R_readCall_46 rfl (by decide) (fun _ => ?_) (fun h9 => absurd (show xlk xa t0.1 z = 41 from h41) h9)
    have w2 : rlk (xa 1) z (p + 2) = 41 := by rw [← hv0]; exact h41
    rw [if_pos w2] at hres
    rw [← hres] at hmc0 hms0
    have q1 : 2 * (p + 3 - p) ≤ mc := hmc0
    have q2 : 14 * (p + 3 - p) ≤ ms := hms0
    refine z_take C rfl 41 (by decide) t0 d_R_readCall_71 d_R_readCall_72 d_R_readCall_74 rfl (h0.at hz0 (Nat.zero_le _)) (by omega) (by omega) (by omega) (by omega) (by omega) ⟨by omega, by omega⟩ (fun w => absurd h41 w) (fun w => absurd h41 w) (fun _ => ?_)
    refine z_aload_n C 78 d_R_readCall_77 rfl rfl ?_
    exact z_aret C rfl d_R_readCall_78 (by rw [hpo, ← hres]; exact ⟨rfl, by rw [ht0]; rfl, by rw [ht0]; rfl⟩) (by omega) (by omega)
  refine z_icmp_eq C 49 71 d_R_readCall_46 rfl (by decide) (fun h9 => absurd h9 (show ¬ xlk xa t0.1 z = 41 from h41)) (fun _ => ?_)
  have w2 : ¬ rlk (xa 1) z (p + 2) = 41 := by rw [← hv0]; exact h41
  rw [if_neg w2, ← ht0] at hres
  refine z_aload_n C 50 d_R_readCall_49 rfl rfl ?_
  refine z_iload_n C 51 d_R_readCall_50 rfl rfl ?_
  refine z_call C 54 (c_R_takeCommaBefore (p := t0.1) (z := z) (by omega) (by omega) (by omega) (by omega) hra hz (by omega) hc (k := 0) (by omega) (mc := 0) (ms := 0) (fun q => absurd q (by omega))) w_R_takeCommaBefore ini_R d_R_readCall_51 rfl (z_goV (As := [.int (nI 0)]) C l_R_43 w_R_takeCommaBefore d_R_readCall_51 (by omega) (hra2) rfl rfl) (Nat.le_of_ble_eq_true rfl) (by rw [hR]; simp only [zRm]; omega) (by rw [hR]; simp only [zRm]; omega) (by rw [hR]; simp only [zRm]; omega) (by rw [hR]; simp only [zRm]; omega) (fun v n' σ' hv => ?_) (fun x n' σ' hv => ?_)
  rotate_left
  · rcases hv with ⟨-, e0, -⟩ | ⟨q, -⟩ | ⟨q, -⟩
    · cases e0
    · omega
    · omega
  have hv' : v = none ∧ n' = B + 2 * t0.2.1 ∧ σ' = xOv xs xr xa xl xf (eOv B t0.2.1 t0.2.2.2 (va_up σ r (rdC t0.1 z))) := by
    rcases hv with ⟨-, e0, e1, e2⟩ | ⟨q, -⟩ | ⟨q, -⟩
    · cases e0; exact ⟨rfl, e1, e2⟩
    · omega
    · omega
  obtain ⟨rfl, rfl, rfl⟩ := hv'
  have hb0 := rCe_parts (T := xa 1) (z := z) (p := p) (d := d) (K := 13) (i := N) (m := 3) (k := 0) (vw := none) (s := t0) hz0 (by omega)
  rw [hres] at hb0
  refine z_part C rfl hd8 RX (i := N) (k := 0) t0 d_R_readCall_54 d_R_readCall_55 d_R_readCall_56 d_R_readCall_57 d_R_readCall_58 d_R_readCall_59 d_R_readCall_62 rfl rfl rfl (h0.at hz0 (by omega)) (by omega) hk0 (by omega) (by omega) (by omega) (by omega) (by omega) (by omega) (by omega) (fun q hq o n' σ' hv => ?_) (fun s2 hs2 => ?_)
  · rw [hpo, ← hres, rParts_ill hq]
    exact hv
  obtain ⟨hk1, hi1, hg1, hy1, hn1⟩ := rAdd_cnt hz0 hs2 (show N < t0.2.1 by omega) hk0
  refine Z.widen (j1 := 2 * (s2.1 - p)) (j2 := 14 * (s2.1 - p)) (by omega) (by omega) ?_
  refine z_iinc C 68 d_R_readCall_65 rfl (nI 1) rfl rfl (by decide) ?_
  refine z_goto C 35 d_R_readCall_68 (by decide) ?_
  exact z_calls C RX hd8 h0 hmc0 hms0 hR hmc hms hpo 3 1 (rAdd N t0.2.1 s2) rfl (by omega) (by show p ≤ s2.1; omega) hy1 (by show s2.2.1 ≤ s2.1; omega) hi1 hk1 (by rw [← hres, rParts_ok hs2])
end RCL2
