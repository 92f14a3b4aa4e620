theorem d_R_readCall_0 : decode b_R_readCall 0 = .ok (.new 121, 3) := by decide +kernel
theorem d_R_readCall_3 : decode b_R_readCall 3 = .ok (.dup, 1) := by decide +kernel
theorem d_R_readCall_4 : decode b_R_readCall 4 = .ok (.getstatic 161, 3) := by decide +kernel
theorem d_R_readCall_7 : decode b_R_readCall 7 = .ok (.aload_n 0, 1) := by decide +kernel
theorem d_R_readCall_8 : decode b_R_readCall 8 = .ok (.getfield 9, 3) := by decide +kernel
theorem d_R_readCall_11 : decode b_R_readCall 11 = .ok (.invokespecial 126, 3) := by decide +kernel
theorem d_R_readCall_14 : decode b_R_readCall 14 = .ok (.astore_n 2, 1) := by decide +kernel
theorem d_R_readCall_15 : decode b_R_readCall 15 = .ok (.aload_n 2, 1) := by decide +kernel
theorem d_R_readCall_16 : decode b_R_readCall 16 = .ok (.aload_n 0, 1) := by decide +kernel
theorem d_R_readCall_17 : decode b_R_readCall 17 = .ok (.bipush 65, 2) := by decide +kernel
theorem d_R_readCall_19 : decode b_R_readCall 19 = .ok (.bipush 72, 2) := by decide +kernel
theorem d_R_readCall_21 : decode b_R_readCall 21 = .ok (.invokevirtual 28, 3) := by decide +kernel
theorem d_R_readCall_24 : decode b_R_readCall 24 = .ok (.putfield 164, 3) := by decide +kernel
theorem d_R_readCall_27 : decode b_R_readCall 27 = .ok (.aload_n 0, 1) := by decide +kernel
theorem d_R_readCall_28 : decode b_R_readCall 28 = .ok (.bipush 40, 2) := by decide +kernel
theorem d_R_readCall_30 : decode b_R_readCall 30 = .ok (.invokevirtual 35, 3) := by decide +kernel
theorem d_R_readCall_33 : decode b_R_readCall 33 = .ok (.iconst 0, 1) := by decide +kernel
theorem d_R_readCall_34 : decode b_R_readCall 34 = .ok (.istore_n 3, 1) := by decide +kernel
theorem d_R_readCall_35 : decode b_R_readCall 35 = .ok (.iload_n 3, 1) := by decide +kernel
theorem d_R_readCall_36 : decode b_R_readCall 36 = .ok (.iconst 4, 1) := by decide +kernel
theorem d_R_readCall_37 : decode b_R_readCall 37 = .ok (.if_icmp .ge 34, 3) := by decide +kernel
theorem d_R_readCall_40 : decode b_R_readCall 40 = .ok (.aload_n 0, 1) := by decide +kernel
theorem d_R_readCall_41 : decode b_R_readCall 41 = .ok (.invokevirtual 39, 3) := by decide +kernel
theorem d_R_readCall_44 : decode b_R_readCall 44 = .ok (.bipush 41, 2) := by decide +kernel
theorem d_R_readCall_46 : decode b_R_readCall 46 = .ok (.if_icmp .eq 25, 3) := by decide +kernel
theorem d_R_readCall_49 : decode b_R_readCall 49 = .ok (.aload_n 0, 1) := by decide +kernel
theorem d_R_readCall_50 : decode b_R_readCall 50 = .ok (.iload_n 3, 1) := by decide +kernel
theorem d_R_readCall_51 : decode b_R_readCall 51 = .ok (.invokevirtual 43, 3) := by decide +kernel
theorem d_R_readCall_54 : decode b_R_readCall 54 = .ok (.aload_n 2, 1) := by decide +kernel
theorem d_R_readCall_55 : decode b_R_readCall 55 = .ok (.aload_n 0, 1) := by decide +kernel
theorem d_R_readCall_56 : decode b_R_readCall 56 = .ok (.iload_n 1, 1) := by decide +kernel
theorem d_R_readCall_57 : decode b_R_readCall 57 = .ok (.iconst 1, 1) := by decide +kernel
theorem d_R_readCall_58 : decode b_R_readCall 58 = .ok (.iadd, 1) := by decide +kernel
theorem d_R_readCall_59 : decode b_R_readCall 59 = .ok (.invokevirtual 53, 3) := by decide +kernel
theorem d_R_readCall_62 : decode b_R_readCall 62 = .ok (.invokevirtual 154, 3) := by decide +kernel
theorem d_R_readCall_65 : decode b_R_readCall 65 = .ok (.iinc 3 1, 3) := by decide +kernel
theorem d_R_readCall_68 : decode b_R_readCall 68 = .ok (.goto (-33), 3) := by decide +kernel
theorem d_R_readCall_71 : decode b_R_readCall 71 = .ok (.aload_n 0, 1) := by decide +kernel
theorem d_R_readCall_72 : decode b_R_readCall 72 = .ok (.bipush 41, 2) := by decide +kernel
theorem d_R_readCall_74 : decode b_R_readCall 74 = .ok (.invokevirtual 35, 3) := by decide +kernel
theorem d_R_readCall_77 : decode b_R_readCall 77 = .ok (.aload_n 2, 1) := by decide +kernel
theorem d_R_readCall_78 : decode b_R_readCall 78 = .ok (.areturn, 1) := by decide +kernel
theorem sf_161 : Cond.fieldLink "SoleArrays$Reader" 161 "SoleArrays$Form" "CALL" "LSoleArrays$Form;" ∈ zTb := zt3 6 (by decide +kernel) rfl
theorem rBeh_13 {T : Nat → Int32} {z i j : Nat} {s : rS} {g f : rS → rR} : rBeh T z 13 j i s g f = if j < 3 ∧ rlk T z s.1 = 44 then g (s.1 + 1, s.2) else rTake T z 41 s f := rfl
section RCL
variable {G : zG} {l : Launch} {d r p z B N : Nat} {σ : zS} {xs : mS} {xr : Int64} {xa : mA} {xl : mL} {xf : xF} {E : Nat → eN} {A : mA}
/-- the parts of a call behind the first k of them -/
theorem z_calls {K : zK} (C : zC G K y_R_readCall b_R_readCall 4 (some (.object "SoleArrays$Expression")) []) (RX : rHyp G (kl K) d) (hd8 : d ≤ 8) (h0 : rPre B N r p z σ xa) {res : rR} {mc ms : Nat} (hmc0 : rCe p res ≤ mc) (hms0 : rSl p res ≤ ms) (hR : kR K = zRm (9 + 4 * d + 2) mc ms) (hmc : kmc K = mc) (hms : kms K = ms) (hpo : kpo K = rPost B N r z σ xs xr xa xl xf res) :
    ∀ (m k : Nat) (a : rS), m + k = 4 → 0 < k → p ≤ a.1 → a.1 ≤ z → a.2.1 ≤ a.1 → N < a.2.1 → (a.2.2.2 N).2.2.2.1 = k → rBeh (xa 1) z 13 (k - 1) N a (fun s3 => rParts (xa 1) z (rdE (xa 1) z d) 13 N none m k s3) (fun s3 => .inr (rClose N none s3)) = res →
      Z G K (B + 2 * a.2.1) (xOv xs xr xa xl xf (eOv B a.2.1 a.2.2.2 (va_up σ r (rdC a.1 z)))) (2 * (a.1 - p)) (14 * (a.1 - p)) 35 [(3, .int (nI k)), (2, .ref (B + 2 * N)), (0, .ref r), (1, .int (nI (8 - d)))] [] := fun m => by
  obtain ⟨hr, hrB, hB, hrd0, hz, hp, hN, hc⟩ := id h0
  have hRc : (kR K).cells = mc := by rw [hR]; rfl
  have hRs : (kR K).slots = ms := by rw [hR]; rfl
  have hRf : (kR K).frames = 9 + 4 * d + 2 := by rw [hR]; rfl
  have hRl : (kR K).locals = 60 * (9 + 4 * d + 2) := by rw [hR]; rfl
  have fin : ∀ (k : Nat) (a : rS), p ≤ a.1 → a.1 ≤ z → a.2.1 ≤ a.1 → N < a.2.1 → rTake (xa 1) z 41 a (fun s3 => .inr (rClose N none s3)) = res → Z G K (B + 2 * a.2.1) (xOv xs xr xa xl xf (eOv B a.2.1 a.2.2.2 (va_up σ r (rdC a.1 z)))) (2 * (a.1 - p)) (14 * (a.1 - p)) 71 [(3, .int (nI k)), (2, .ref (B + 2 * N)), (0, .ref r), (1, .int (nI (8 - d)))] [] := fun k a g1 g2 g3 g4 hr0 => by
    have hbnd : 2 * (a.1 - p) ≤ mc ∧ 14 * (a.1 - p) ≤ ms := by
      have hb := rCe_ge (p := p) (rTake_res (T := xa 1) (z := z) (c := 41) (s := a) (f := fun s3 => .inr (rClose N none s3)) g2 (by decide) (fun hl => ⟨Nat.le_refl _, hl, Nat.le_refl _, Nat.le_refl _⟩)) g1
      rw [hr0] at hb
      exact ⟨by omega, by omega⟩
    refine z_take C rfl 41 (by decide) a d_R_readCall_71 d_R_readCall_72 d_R_readCall_74 rfl (h0.at g2 (Nat.zero_le _)) (by omega) (by omega) (by omega) (by omega) (by omega) ⟨by omega, by omega⟩ (fun w => ?_) (fun w o n' σ' hv => ?_) (fun w => ?_)
    · rw [rTake, if_neg w] at hr0
      rw [← hr0] at hmc0 hms0
      have q1 : 2 * (a.1 - p) + 1 ≤ mc := hmc0
      have q2 : 14 * (a.1 - p) + 6 ≤ ms := hms0
      exact ⟨by omega, by omega⟩
    · rw [hpo, ← hr0, rTake, if_neg w]
      exact hv
    rw [rTake, if_pos w] at hr0
    refine z_aload_n C 78 d_R_readCall_77 rfl rfl ?_
    exact z_aret C rfl d_R_readCall_78 (by rw [hpo, ← hr0]; exact ⟨rfl, rfl, rfl⟩) (by omega) (by omega)
  induction m with
  | zero =>
    intro k a hk k0 g1 g2 g3 g4 g5 hb
    refine z_iload_n C 36 d_R_readCall_35 rfl rfl ?_
    refine z_iconst C 37 d_R_readCall_36 rfl 4 (by decide) ?_
    refine z_icmp_ge C 40 71 d_R_readCall_37 rfl (by decide) (fun _ => ?_) (fun h9 => absurd ((nI_leI (a := 4) (by omega) (by omega)).mpr (by omega)) h9)
    rw [rBeh_13, if_neg (by omega)] at hb
    exact fin k a g1 g2 g3 g4 hb
  | succ m ih =>
    intro k a hk k0 g1 g2 g3 g4 g5 hb
    have hra : eOv B a.2.1 a.2.2.2 (va_up σ r (rdC a.1 z)) r = rdC a.1 z := (eOv_lo hrB).trans (va_up_self _ _ _)
    have hra2 : xOv xs xr xa xl xf (eOv B a.2.1 a.2.2.2 (va_up σ r (rdC a.1 z))) r = .inr (4, [.ref 1, .int (nI z), .ref 2, .int (nI a.1)]) := (xOv_at (by omega)).trans hra
    have hbnd : 2 * (a.1 - p) ≤ mc ∧ 14 * (a.1 - p) ≤ ms := by
      have hb' := rCe_ge (p := p) (rBeh_res (T := xa 1) (z := z) (K := 13) (k := k - 1) (i := N) (s := a) (g := fun s3 => rParts (xa 1) z (rdE (xa 1) z d) 13 N none (m + 1) k s3) (f := fun s3 => .inr (rClose N none s3)) g2 (fun c hc => rParts_res (rdE_res d) (m + 1) k c hc.2.1) (fun c hc => ⟨Nat.le_refl _, hc.2.1, Nat.le_refl _, Nat.le_refl _⟩)) g1
      rw [hb] at hb'
      exact ⟨by omega, by omega⟩
    refine z_iload_n C 36 d_R_readCall_35 rfl rfl ?_
    refine z_iconst C 37 d_R_readCall_36 rfl 4 (by decide) ?_
    refine z_icmp_ge C 40 71 d_R_readCall_37 rfl (by decide) (fun h9 => absurd h9 (fun w => absurd ((nI_leI (a := 4) (by omega) (by omega)).mp w) (by omega))) (fun _ => ?_)
    refine z_aload_n C 41 d_R_readCall_40 rfl rfl ?_
    refine z_call C 44 (c_R_next (p := a.1) (z := z) (by omega) (by omega) (by omega) hra hz (by omega) hc) w_R_next ini_R d_R_readCall_41 rfl (z_goV (As := []) C l_R_39 w_R_next d_R_readCall_41 (by omega) (hra2) rfl rfl) (Nat.le_of_ble_eq_true rfl) (by rw [hR]; simp only [zRm]; omega) (by rw [hR]; simp only [zRm]; omega) (by rw [hR]; simp only [zRm]; omega) (by rw [hR]; simp only [zRm]; omega) (fun v n' σ' hv => ?_) (fun x n' σ' hv => ?_)
    rotate_left
    · cases hv.1
    obtain ⟨e0, e1, rfl⟩ := hv
    cases e0
    subst e1
    refine z_bipush C 46 d_R_readCall_44 rfl 41 (by decide) ?_
    by_cases h41 : rlk (xa 1) z a.1 = 41
    · refine z_icmp_eq C 49 71 d_R_readCall_46 rfl (by decide) (fun _ => ?_) (fun h9 => absurd (show xlk xa a.1 z = 41 from h41) h9)
      rw [rBeh_13, if_neg (fun w => absurd (h41.symm.trans w.2) (by decide))] at hb
      exact fin k a g1 g2 g3 g4 hb
    refine z_icmp_eq C 49 71 d_R_readCall_46 rfl (by decide) (fun h9 => absurd h9 (show ¬ xlk xa a.1 z = 41 from h41)) (fun _ => ?_)
    refine z_aload_n C 50 d_R_readCall_49 rfl rfl ?_
    refine z_iload_n C 51 d_R_readCall_50 rfl rfl ?_
    by_cases h44 : rlk (xa 1) z a.1 = 44
    rotate_left
    · rw [rBeh_13, if_neg (fun w => h44 w.2), rTake, if_neg h41] at hb
      rw [← hb] at hmc0 hms0
      have q1 : 2 * (a.1 - p) + 1 ≤ mc := hmc0
      have q2 : 14 * (a.1 - p) + 6 ≤ ms := hms0
      refine z_call C 54 (c_R_takeCommaBefore (p := a.1) (z := z) (by omega) (by omega) (by omega) (by omega) hra hz (by omega) hc (k := k) (by omega) (mc := 1) (ms := 6) (fun _ _ => ⟨by omega, by omega⟩)) w_R_takeCommaBefore ini_R d_R_readCall_51 rfl (z_goV (As := [.int (nI k)]) C l_R_43 w_R_takeCommaBefore d_R_readCall_51 (by omega) (hra2) rfl rfl) (Nat.le_of_ble_eq_true rfl) (by rw [hR]; simp only [zRm]; omega) (by rw [hR]; simp only [zRm]; omega) (by rw [hR]; simp only [zRm]; omega) (by rw [hR]; simp only [zRm]; omega) (fun v n' σ' hv => ?_) (fun x n' σ' hv => ?_)
      · rcases hv with ⟨w, -⟩ | ⟨-, w, -⟩ | ⟨-, -, e0, -⟩
        · omega
        · exact absurd w h44
        · cases e0
      · rcases hv with ⟨w, -⟩ | ⟨-, w, -⟩ | ⟨-, -, e0, rfl, rfl⟩
        · omega
        · exact absurd w h44
        · cases e0
          exact zx_out C (fun h hh => nomatch hh) (by rw [hpo, ← hb]; exact rIll_mk hrB (by omega)) (by omega) (by omega)
    rw [rBeh_13, if_pos ⟨by omega, h44⟩] at hb
    have hltA : a.1 < z := rlk_lt h44 (by decide)
    refine z_call C 54 (c_R_takeCommaBefore (p := a.1) (z := z) (by omega) (by omega) (by omega) (by omega) hra hz (by omega) hc (k := k) (by omega) (mc := 0) (ms := 0) (fun _ w => absurd h44 w)) w_R_takeCommaBefore ini_R d_R_readCall_51 rfl (z_goV (As := [.int (nI k)]) C l_R_43 w_R_takeCommaBefore d_R_readCall_51 (by omega) (hra2) rfl rfl) (Nat.le_of_ble_eq_true rfl) (by rw [hR]; simp only [zRm]; omega) (by rw [hR]; simp only [zRm]; omega) (by rw [hR]; simp only [zRm]; omega) (by rw [hR]; simp only [zRm]; omega) (fun v n' σ' hv => ?_) (fun x n' σ' hv => ?_)
    rotate_left
    · rcases hv with ⟨-, e0, -⟩ | ⟨-, -, e0, -⟩ | ⟨-, w, -⟩
      · cases e0
      · cases e0
      · exact absurd h44 w
    have hv' : v = none ∧ n' = B + 2 * a.2.1 ∧ σ' = xOv xs xr xa xl xf (va_up (eOv B a.2.1 a.2.2.2 (va_up σ r (rdC a.1 z))) r (rdC (a.1 + 1) z)) := by
      rcases hv with ⟨w, -⟩ | ⟨-, -, e0, e1, e2⟩ | ⟨-, w, -⟩
      · omega
      · cases e0; exact ⟨rfl, e1, e2⟩
      · exact absurd h44 w
    obtain ⟨rfl, rfl, rfl⟩ := hv'
    rw [eOv_low hrB, va_up2]
    obtain ⟨t, ht⟩ : ∃ t : rS, t = (a.1 + 1, a.2) := ⟨_, rfl⟩
    have hres0 : rParts (xa 1) z (rdE (xa 1) z d) 13 N none (m + 1) k t = res := by rw [ht]; exact hb
    have hv0 : t.1 = a.1 + 1 := by rw [ht]
    have hu0 : t.2.1 = a.2.1 := by rw [ht]
    have hz0 : t.1 ≤ z := by omega
    have hk0 : (t.2.2.2 N).2.2.2.1 = k := by rw [ht]; exact g5
    refine Z.same (τ := xOv xs xr xa xl xf (eOv B t.2.1 t.2.2.2 (va_up σ r (rdC t.1 z)))) (fun i _ => by rw [ht]) ?_
    rw [show B + 2 * a.2.1 = B + 2 * t.2.1 by rw [hu0]]
    have hb0 := rCe_parts (T := xa 1) (z := z) (p := p) (d := d) (K := 13) (i := N) (m := m) (k := k) (vw := none) (s := t) hz0 (by omega)
    rw [hres0] at hb0
    refine z_part C rfl hd8 RX (i := N) (k := k) t d_R_readCall_54 d_R_readCall_55 d_R_readCall_56 d_R_readCall_57 d_R_readCall_58 d_R_readCall_59 d_R_readCall_62 rfl rfl rfl (h0.at hz0 (by omega)) (by omega) hk0 (by omega) (by omega) (by omega) (by omega) (by omega) (by omega) (by omega) (fun q hq o n' σ' hv => ?_) (fun s2 hs2 => ?_)
    · rw [hpo, ← hres0, rParts_ill hq]
      exact hv
    obtain ⟨hk1, hi1, hg1, hy1, hn1⟩ := rAdd_cnt hz0 hs2 (show N < t.2.1 by omega) hk0
    refine Z.widen (j1 := 2 * (s2.1 - p)) (j2 := 14 * (s2.1 - p)) (by omega) (by omega) ?_
    refine z_iinc C 68 d_R_readCall_65 rfl (nI (k + 1)) rfl (z_inc k) (by decide) ?_
    refine z_goto C 35 d_R_readCall_68 (by decide) ?_
    exact ih (k + 1) (rAdd N t.2.1 s2) (by omega) (by omega) (by show p ≤ s2.1; omega) hy1 (by show s2.2.1 ≤ s2.1; omega) hi1 hk1 (by rw [← hres0, rParts_ok hs2]; rfl)
end RCL
