/-! a whole function's text -/
def rdQ (T : Nat → Int32) (z : Nat) (f : Int32) (A : mA) (E : Nat → eN) (m k p : Nat) (V P Y : mS) : Nat ⊕ rF := match rdP T z m k p V P Y with
  | .inl x => .inl x
  | .inr q => rdB T z f A E q
theorem rdQ_s {T : Nat → Int32} {z : Nat} {f : Int32} {A : mA} {E : Nat → eN} {m k p : Nat} {V P Y : mS} : rdQ T z f A E (m + 1) k p V P Y = (if 97 ≤ rlk T z p ∧ rlk T z p ≤ 116 then (if 48 ≤ rlk T z (p + 1) ∧ rlk T z (p + 1) ≤ 50 then (if k < 3 ∧ rlk T z (p + 2) = 44 then rdQ T z f A E m (k + 1) (p + 3) (upd V k (rlk T z p - 97)) (upd P k (nI p)) (upd Y k (rlk T z (p + 1) - 48)) else rdB T z f A E (p + 2, k + 1, upd V k (rlk T z p - 97), upd P k (nI p), upd Y k (rlk T z (p + 1) - 48))) else .inl (p + 1)) else .inl p) := by
  unfold rdQ
  rw [rdP]
  by_cases h1 : 97 ≤ rlk T z p ∧ rlk T z p ≤ 116
  · rw [if_pos h1, if_pos h1]
    by_cases h2 : 48 ≤ rlk T z (p + 1) ∧ rlk T z (p + 1) ≤ 50
    · rw [if_pos h2, if_pos h2]
      by_cases h3 : k < 3 ∧ rlk T z (p + 2) = 44
      · rw [if_pos h3, if_pos h3]
      · rw [if_neg h3, if_neg h3]
    · rw [if_neg h2, if_neg h2]
  · rw [if_neg h1, if_neg h1]
section RFN
variable {G : zG} {l : Launch} {r z : Nat} {σ : zS} {xs : mS} {xr : Int64} {xa : mA} {xl : mL} {xf : xF} {E : Nat → eN} {A : mA}
/-- the function's cells, its body's behind them -/
def gFn (r : Nat) (a : rF) (z : Nat) (σ : zS) : zS := eOv (r + 5) a.2.2.2.2.2.2.2.1 a.2.2.2.2.2.2.2.2.2 (gOv (r + 1) (gF (r + 1) a.1 a.2.1 a.2.2.2.2.2.1 (some (r + 5))) a.2.2.1 a.2.2.2.1 a.2.2.2.2.1 (va_up σ r (rdC a.2.2.2.2.2.2.1 z)))
def gPost (r z : Nat) (σ : zS) (xs : mS) (xr : Int64) (xa : mA) (xl : mL) (xf : xF) (res : Nat ⊕ rF) : zPost := fun o n' σ' => match res with
  | .inl q => gIll r σ xs xr xa xl xf q o n' σ'
  | .inr a => o = .returned (some (.ref (r + 1))) ∧ n' = r + 5 + 2 * a.2.2.2.2.2.2.2.1 ∧ σ' = xOv xs xr xa xl xf (gFn r a z σ)
theorem c_R_readFunction (h : gPre r 0 z σ xa) : MetZ G l y_R_readFunction b_R_readFunction 3 (some (.object "SoleArrays$Function")) [] 42 310 2200 [.ref r] (r + 1) (xOv xs xr xa xl xf σ) (gPost r z σ xs xr xa xl xf (rdF (xa 1) z A E (fun _ => 0) (fun _ => 0) (fun _ => 0))) := by
  obtain ⟨hr, hr2, hrd0, hz, -, hc⟩ := h
  obtain ⟨res, hres⟩ : ∃ x, rdF (xa 1) z A E (fun _ => 0) (fun _ => 0) (fun _ => 0) = x := ⟨_, rfl⟩
  rw [hres]
  have hrr : ∀ q c V P Y, gOv (r + 1) c V P Y (va_up σ r (rdC q z)) r = rdC q z := fun q c V P Y => (gOv_out (by omega)).trans (va_up_self _ _ _)
  have hrd : ∀ q c V P Y, xOv xs xr xa xl xf (gOv (r + 1) c V P Y (va_up σ r (rdC q z))) r = .inr (4, [.ref 1, .int (nI z), .ref 2, .int (nI q)]) := fun q c V P Y => (xOv_at (by omega)).trans (hrr q c V P Y)
  refine MetZ.of (by decide) (Nat.le_of_ble_eq_true rfl) (fun K hK hR hpo hmc hms C => ?_)
  subst hK
  have fin : ∀ (f : Int32) (k p : Nat) (V P Y : mS) (k2 : Nat), p ≤ z → rdB (xa 1) z f A E (p, k, V, P, Y) = res → Z G K (r + 5) (xOv xs xr xa xl xf (gOv (r + 1) (gF (r + 1) f k 0 none) V P Y (va_up σ r (rdC p z)))) 4 19 54 [(2, .int (nI k2)), (1, .ref (r + 1)), (0, .ref r)] [] := fun f k p V P Y k2 hp hB => by
    unfold rdB at hB
    dsimp only at hB
    refine z_aload_n C 55 d_R_readFunction_54 rfl rfl ?_
    refine z_bipush C 57 d_R_readFunction_55 rfl 41 (by decide) ?_
    by_cases q1 : rlk (xa 1) z p = 41
    rotate_left
    · rw [if_neg q1] at hB
      refine z_call C 60 (c_R_take (p := p) (z := z) (by omega) (by omega) (by omega) (by omega) (hrr _ _ _ _ _) hz (by omega) hc 41 (mc := 1) (ms := 6) (fun w => ⟨by omega, by omega⟩)) w_R_take ini_R d_R_readFunction_57 rfl (z_goV (As := [.int 41]) C l_R_35 w_R_take d_R_readFunction_57 (by omega) ((hrd _ _ _ _ _)) rfl rfl) (Nat.le_of_ble_eq_true rfl) (by rw [hR]; simp only [zRm]; omega) (by rw [hR]; simp only [zRm]; omega) (by rw [hR]; simp only [zRm]; omega) (by rw [hR]; simp only [zRm]; omega) (fun v n' σ' hv => ?_) (fun x n' σ' hv => ?_)
      rotate_left
      · obtain ⟨-, e0, rfl, rfl⟩ := hv.resolve_left (fun w => q1 w.1)
        cases e0
        exact zx_out C (fun h hh => nomatch hh) (by rw [hpo]; exact (by rw [← hB]; exact gIll_mk)) (by rw [hmc]; omega) (by rw [hms]; omega)
      · rcases hv with ⟨w, -⟩ | ⟨-, e0, -⟩
        · exact absurd w q1
        · cases e0
    rw [if_pos q1] at hB
    have hp1 : p < z := rlk_lt q1 (by decide)
    refine z_call C 60 (c_R_take (p := p) (z := z) (by omega) (by omega) (by omega) (by omega) (hrr _ _ _ _ _) hz (by omega) hc 41 (mc := 0) (ms := 0) (fun w => absurd q1 w)) w_R_take ini_R d_R_readFunction_57 rfl (z_goV (As := [.int 41]) C l_R_35 w_R_take d_R_readFunction_57 (by omega) ((hrd _ _ _ _ _)) rfl rfl) (Nat.le_of_ble_eq_true rfl) (by rw [hR]; simp only [zRm]; omega) (by rw [hR]; simp only [zRm]; omega) (by rw [hR]; simp only [zRm]; omega) (by rw [hR]; simp only [zRm]; omega) (fun v n' σ' hv => ?_) (fun x n' σ' hv => ?_)
    rotate_left
    · rcases hv with ⟨-, e0, -⟩ | ⟨w, -⟩
      · cases e0
      · exact absurd q1 w
    obtain ⟨-, e0, rfl, rfl⟩ := hv.resolve_right (fun w => w.1 q1)
    cases e0
    rw [gOv_low (by omega), va_up2]
    refine z_aload_n C 61 d_R_readFunction_60 rfl rfl ?_
    refine z_aload_n C 62 d_R_readFunction_61 rfl rfl ?_
    refine z_bipush C 64 d_R_readFunction_62 rfl 48 (by decide) ?_
    refine z_bipush C 66 d_R_readFunction_64 rfl 50 (by decide) ?_
    by_cases q2 : 48 ≤ rlk (xa 1) z (p + 1) ∧ rlk (xa 1) z (p + 1) ≤ 50
    rotate_left
    · rw [if_neg q2] at hB
      refine z_call C 69 (c_R_takeOneOf (p := p + 1) (z := z) (by omega) (by omega) (by omega) (by omega) (hrr _ _ _ _ _) hz (by omega) hc 48 50 (mc := 1) (ms := 6) (fun w => ⟨by omega, by omega⟩)) w_R_takeOneOf ini_R d_R_readFunction_66 rfl (z_goV (As := [.int 48, .int 50]) C l_R_28 w_R_takeOneOf d_R_readFunction_66 (by omega) ((hrd _ _ _ _ _)) rfl rfl) (Nat.le_of_ble_eq_true rfl) (by rw [hR]; simp only [zRm]; omega) (by rw [hR]; simp only [zRm]; omega) (by rw [hR]; simp only [zRm]; omega) (by rw [hR]; simp only [zRm]; omega) (fun v n' σ' hv => ?_) (fun x n' σ' hv => ?_)
      rotate_left
      · obtain ⟨-, e0, rfl, rfl⟩ := hv.resolve_left (fun w => q2 w.1)
        cases e0
        exact zx_out C (fun h hh => nomatch hh) (by rw [hpo]; exact (by rw [← hB]; exact gIll_mk)) (by rw [hmc]; omega) (by rw [hms]; omega)
      · rcases hv with ⟨w, -⟩ | ⟨-, e0, -⟩
        · exact absurd w q2
        · cases e0
    rw [if_pos q2] at hB
    have hp2 : p + 1 < z := rlk_pos q2.1 (by decide)
    refine z_call C 69 (c_R_takeOneOf (p := p + 1) (z := z) (by omega) (by omega) (by omega) (by omega) (hrr _ _ _ _ _) hz (by omega) hc 48 50 (mc := 0) (ms := 0) (fun w => absurd q2 w)) w_R_takeOneOf ini_R d_R_readFunction_66 rfl (z_goV (As := [.int 48, .int 50]) C l_R_28 w_R_takeOneOf d_R_readFunction_66 (by omega) ((hrd _ _ _ _ _)) rfl rfl) (Nat.le_of_ble_eq_true rfl) (by rw [hR]; simp only [zRm]; omega) (by rw [hR]; simp only [zRm]; omega) (by rw [hR]; simp only [zRm]; omega) (by rw [hR]; simp only [zRm]; omega) (fun v n' σ' hv => ?_) (fun x n' σ' hv => ?_)
    rotate_left
    · rcases hv with ⟨-, e0, -⟩ | ⟨w, -⟩
      · cases e0
      · exact absurd q2 w
    obtain ⟨-, e0, rfl, rfl⟩ := hv.resolve_right (fun w => w.1 q2)
    cases e0
    rw [gOv_low (by omega), va_up2]
    refine z_put C 72 p_R_50 d_R_readFunction_69 rfl (by omega) ((xOv_at (by omega)).trans gOv_0) (z_ltb rfl) rfl rfl ?_
    rw [xOv_up (by omega)]
    show Z G K _ (xOv _ _ _ _ _ (va_up _ _ (gF (r + 1) f k (xlk xa (p + 1) z - 48) none))) _ _ _ _ _
    rw [gOv_up0]
    refine z_aload_n C 73 d_R_readFunction_72 rfl rfl ?_
    refine z_bipush C 75 d_R_readFunction_73 rfl 61 (by decide) ?_
    by_cases q3 : rlk (xa 1) z (p + 2) = 61
    rotate_left
    · rw [if_neg q3] at hB
      refine z_call C 78 (c_R_take (p := p + 2) (z := z) (by omega) (by omega) (by omega) (by omega) (hrr _ _ _ _ _) hz (by omega) hc 61 (mc := 1) (ms := 6) (fun w => ⟨by omega, by omega⟩)) w_R_take ini_R d_R_readFunction_75 rfl (z_goV (As := [.int 61]) C l_R_35 w_R_take d_R_readFunction_75 (by omega) ((hrd _ _ _ _ _)) rfl rfl) (Nat.le_of_ble_eq_true rfl) (by rw [hR]; simp only [zRm]; omega) (by rw [hR]; simp only [zRm]; omega) (by rw [hR]; simp only [zRm]; omega) (by rw [hR]; simp only [zRm]; omega) (fun v n' σ' hv => ?_) (fun x n' σ' hv => ?_)
      rotate_left
      · obtain ⟨-, e0, rfl, rfl⟩ := hv.resolve_left (fun w => q3 w.1)
        cases e0
        exact zx_out C (fun h hh => nomatch hh) (by rw [hpo]; exact (by rw [← hB]; exact gIll_mk)) (by rw [hmc]; omega) (by rw [hms]; omega)
      · rcases hv with ⟨w, -⟩ | ⟨-, e0, -⟩
        · exact absurd w q3
        · cases e0
    rw [if_pos q3] at hB
    have hp3 : p + 2 < z := rlk_lt q3 (by decide)
    refine z_call C 78 (c_R_take (p := p + 2) (z := z) (by omega) (by omega) (by omega) (by omega) (hrr _ _ _ _ _) hz (by omega) hc 61 (mc := 0) (ms := 0) (fun w => absurd q3 w)) w_R_take ini_R d_R_readFunction_75 rfl (z_goV (As := [.int 61]) C l_R_35 w_R_take d_R_readFunction_75 (by omega) ((hrd _ _ _ _ _)) rfl rfl) (Nat.le_of_ble_eq_true rfl) (by rw [hR]; simp only [zRm]; omega) (by rw [hR]; simp only [zRm]; omega) (by rw [hR]; simp only [zRm]; omega) (by rw [hR]; simp only [zRm]; omega) (fun v n' σ' hv => ?_) (fun x n' σ' hv => ?_)
    rotate_left
    · rcases hv with ⟨-, e0, -⟩ | ⟨w, -⟩
      · cases e0
      · exact absurd q3 w
    obtain ⟨-, e0, rfl, rfl⟩ := hv.resolve_right (fun w => w.1 q3)
    cases e0
    rw [gOv_low (by omega), va_up2]
    refine z_aload_n C 79 d_R_readFunction_78 rfl rfl ?_
    refine z_aload_n C 80 d_R_readFunction_79 rfl rfl ?_
    refine z_iconst C 81 d_R_readFunction_80 rfl 1 (by decide) ?_
    obtain ⟨rb, hrb⟩ : ∃ x, rdE (xa 1) z 8 (p + 3, 0, A, E) = x := ⟨_, rfl⟩
    have hrs := rdE_res (T := xa 1) (z := z) 8 (p + 3, 0, A, E) (by show p + 3 ≤ z; omega)
    rw [hrb] at hrs hB
    have hce : rCe (p + 3) rb ≤ 301 ∧ rSl (p + 3) rb ≤ 2106 := by
      cases rb with
      | inl q =>
        have hq : q ≤ z := hrs.2
        exact ⟨by show 2 * (q - (p + 3)) + 1 ≤ _; omega, by show 14 * (q - (p + 3)) + 6 ≤ _; omega⟩
      | inr s =>
        have hq : s.1 ≤ z := hrs.2.1
        exact ⟨by show 2 * (s.1 - (p + 3)) ≤ _; omega, by show 14 * (s.1 - (p + 3)) ≤ _; omega⟩
    have RX := rHyp_all (G := G) (l := kl K) 8 (by omega) (r + 5) 0 r (p + 3) z (gOv (r + 1) (gF (r + 1) f k (xlk xa (p + 1) z - 48) none) V P Y (va_up σ r (rdC (p + 3) z))) xs xr xa xl xf A E 301 2106 ⟨by omega, by omega, by omega, hrr _ _ _ _ _, hz, by omega, by omega, hc⟩ (by rw [hrb]; exact hce.1) (by rw [hrb]; exact hce.2)
    rw [hrb, eOv_z] at RX
    refine z_call C 84 (RX) w_R_readExpression ini_R d_R_readFunction_81 rfl (z_goV (As := [.int 1]) C l_R_53 w_R_readExpression d_R_readFunction_81 (by omega) ((hrd _ _ _ _ _)) rfl rfl) (Nat.le_of_ble_eq_true rfl) (by rw [hR]; simp only [zRm]; omega) (by rw [hR]; simp only [zRm]; omega) (by rw [hR]; simp only [zRm]; omega) (by rw [hR]; simp only [zRm]; omega) (fun v n' σ' hv => ?_) (fun x n' σ' hv => ?_)
    rotate_left
    · cases rb with
      | inl q =>
        dsimp only at hB
        obtain ⟨x, τ, g1, g2, g3, g4, g5, g6, g7⟩ := hv
        cases g1
        subst g5
        exact zx_out C (fun h hh => nomatch hh) (by rw [hpo]; exact (by rw [← hB]; exact ⟨x, τ, rfl, g2, by omega, by omega, rfl, g6, fun k hk => by rw [g7 k hk, gOv_out (by omega), va_up_ne _ _ (by omega)]⟩)) (by rw [hmc]; omega) (by rw [hms]; omega)
      | inr s => cases hv.1
    cases rb with
    | inl q =>
      obtain ⟨x, τ, e0, -⟩ := hv
      cases e0
    | inr s =>
      dsimp only at hB
      obtain ⟨e0, rfl, rfl⟩ := hv
      cases e0
      have hs1 : s.1 ≤ z := hrs.2.1
      have hs2 : s.2.1 ≤ 150 := by
        have := hrs.2.2.2
        have t : s.2.1 + (p + 3) ≤ 0 + s.1 := this
        omega
      have hcell : ∀ σ', xOv xs xr xa xl xf (eOv (r + 5) s.2.1 s.2.2.2 (va_up (gOv (r + 1) (gF (r + 1) f k (xlk xa (p + 1) z - 48) none) V P Y σ') r (rdC s.1 z))) (r + 1) = gF (r + 1) f k (xlk xa (p + 1) z - 48) none := fun σ' => (xOv_at (by omega)).trans ((eOv_lo (by omega)).trans ((va_up_ne _ _ (by omega)).trans gOv_0))
      refine z_put C 87 p_R_57 d_R_readFunction_84 rfl (by omega) (hcell _) (z_ltb rfl) rfl rfl ?_
      rw [xOv_up (by omega), eOv_low (by omega), gOv_low (by omega), va_up2]
      show Z G K _ (xOv _ _ _ _ _ (eOv _ _ _ (va_up _ _ (gF (r + 1) f k (xlk xa (p + 1) z - 48) (some (r + 5)))))) _ _ _ _ _
      rw [gOv_up0]
      have hrq : xOv xs xr xa xl xf (eOv (r + 5) s.2.1 s.2.2.2 (gOv (r + 1) (gF (r + 1) f k (xlk xa (p + 1) z - 48) (some (r + 5))) V P Y (va_up σ r (rdC s.1 z)))) r = .inr (4, [.ref 1, .int (nI z), .ref 2, .int (nI s.1)]) := (xOv_at (by omega)).trans ((eOv_lo (by omega)).trans (hrr _ _ _ _ _))
      refine z_aload_n C 88 d_R_readFunction_87 rfl rfl ?_
      refine z_get C 91 f_R_9 d_R_readFunction_88 rfl (by omega) hrq rfl ?_
      refine z_aload_n C 92 d_R_readFunction_91 rfl rfl ?_
      refine z_get C 95 f_R_19 d_R_readFunction_92 rfl (by omega) hrq rfl ?_
      by_cases q4 : s.1 = z
      · rw [if_pos q4] at hB
        refine z_icmp_ge C 98 109 d_R_readFunction_95 rfl (by decide) (fun _ => ?_) (fun h9 => absurd ((nI_leI (by omega) (by omega)).mpr (by omega)) h9)
        refine z_aload_n C 110 d_R_readFunction_109 rfl rfl ?_
        exact z_aret C rfl d_R_readFunction_110 (by rw [hpo]; exact (by rw [← hB]; exact ⟨rfl, rfl, rfl⟩)) (by rw [hmc]; omega) (by rw [hms]; omega)
      · rw [if_neg q4] at hB
        refine z_icmp_ge C 98 109 d_R_readFunction_95 rfl (by decide) (fun h9 => absurd h9 (fun q => absurd ((nI_leI (by omega) (by omega)).mp q) (by omega))) (fun _ => ?_)
        refine z_aload_n C 99 d_R_readFunction_98 rfl rfl ?_
        refine z_get C 102 f_R_22 d_R_readFunction_99 rfl (by omega) hrq rfl ?_
        refine z_aload_n C 103 d_R_readFunction_102 rfl rfl ?_
        refine z_get C 106 f_R_9 d_R_readFunction_103 rfl (by omega) hrq rfl ?_
        refine z_call C 109 (c_T_ill (by omega) (by omega) (nI s.1)) w_T_ill ini_T d_R_readFunction_106 rfl (z_goV (As := [.int (nI s.1)]) C l_R_61 w_T_ill d_R_readFunction_106 (by omega) (rfl) rfl rfl) (Nat.le_of_ble_eq_true rfl) (by rw [hR]; simp only [zRm]; omega) (by rw [hR]; simp only [zRm]; omega) (by rw [hR]; simp only [zRm]; omega) (by rw [hR]; simp only [zRm]; omega) (fun v n' σ' hv => ?_) (fun x n' σ' hv => ?_)
        · cases hv.1
        · obtain ⟨e0, rfl, rfl⟩ := hv
          cases e0
          exact zx_out C (fun h hh => nomatch hh) (by rw [hpo]; exact (by rw [← hB]; exact ⟨r + 5 + 2 * s.2.1, _, rfl, rfl, by omega, by omega, rfl, va_up_self _ _ _, fun k hk => by rw [va_up_ne _ _ (by omega), eOv_lo (by omega), gOv_out (by omega), va_up_ne _ _ (by omega)]⟩)) (by rw [hmc]; omega) (by rw [hms]; omega)
  have par : ∀ (f : Int32) (m k p : Nat) (V P Y : mS), m + k = 3 → p ≤ z → rdQ (xa 1) z f A E (m + 1) k p V P Y = res → Z G K (r + 5) (xOv xs xr xa xl xf (gOv (r + 1) (gF (r + 1) f k 0 none) V P Y (va_up σ r (rdC p z)))) 4 19 43 [(2, .int (nI k)), (1, .ref (r + 1)), (0, .ref r)] [] := fun f m => by
    induction m with
    | zero =>
      intro k p V P Y hk hp hB
      obtain rfl : k = 3 := by omega
      rw [rdQ_s] at hB
      refine z_aload_n C 44 d_R_readFunction_43 rfl rfl ?_
      refine z_aload_n C 45 d_R_readFunction_44 rfl rfl ?_
      by_cases q1 : 97 ≤ rlk (xa 1) z p ∧ rlk (xa 1) z p ≤ 116
      · by_cases q2 : 48 ≤ rlk (xa 1) z (p + 1) ∧ rlk (xa 1) z (p + 1) ≤ 50
        · rw [if_pos q1, if_pos q2, if_neg (fun w => absurd w.1 (by omega))] at hB
          have hp2 : p + 1 < z := rlk_pos q2.1 (by decide)
          refine z_call C 48 (c_R_readParameter (k := 3) (mc := 0) (ms := 0) ⟨hr, hr2, va_up_self _ _ _, hz, hp, hc⟩ (by omega) (fun w => absurd ⟨q1, q2⟩ w)) w_R_readParameter ini_R d_R_readFunction_45 rfl (z_goV (As := [.ref (r + 1)]) C l_R_46 w_R_readParameter d_R_readFunction_45 (by omega) ((hrd _ _ _ _ _)) rfl rfl) (Nat.le_of_ble_eq_true rfl) (by rw [hR]; simp only [zRm]; omega) (by rw [hR]; simp only [zRm]; omega) (by rw [hR]; simp only [zRm]; omega) (by rw [hR]; simp only [zRm]; omega) (fun v n' σ' hv => ?_) (fun x n' σ' hv => ?_)
          rotate_left
          · simp only [if_pos q1, if_pos q2] at hv
            cases hv.1
          simp only [if_pos q1, if_pos q2] at hv
          obtain ⟨e0, rfl, rfl⟩ := hv
          cases e0
          refine z_iinc C 51 d_R_readFunction_48 rfl (nI 4) rfl (z_inc 3) (by decide) ?_
          refine z_goto C 24 d_R_readFunction_51 (by decide) ?_
          refine z_iload_n C 25 d_R_readFunction_24 rfl rfl ?_
          refine z_iconst C 26 d_R_readFunction_25 rfl 4 (by decide) ?_
          refine z_icmp_ge C 29 54 d_R_readFunction_26 rfl (by decide) (fun _ => ?_) (fun h9 => absurd (show (4 : Int32) ≤ nI 4 by decide) h9)
          exact fin _ _ _ _ _ _ _ (by omega) hB
        · rw [if_pos q1, if_neg q2] at hB
          refine z_call C 48 (c_R_readParameter (k := 3) (mc := 1) (ms := 6) ⟨hr, hr2, va_up_self _ _ _, hz, hp, hc⟩ (by omega) (fun w => ⟨by omega, by omega⟩)) w_R_readParameter ini_R d_R_readFunction_45 rfl (z_goV (As := [.ref (r + 1)]) C l_R_46 w_R_readParameter d_R_readFunction_45 (by omega) ((hrd _ _ _ _ _)) rfl rfl) (Nat.le_of_ble_eq_true rfl) (by rw [hR]; simp only [zRm]; omega) (by rw [hR]; simp only [zRm]; omega) (by rw [hR]; simp only [zRm]; omega) (by rw [hR]; simp only [zRm]; omega) (fun v n' σ' hv => ?_) (fun x n' σ' hv => ?_)
          · simp only [if_pos q1, if_neg q2] at hv
            obtain ⟨x, τ, e0, -⟩ := hv
            cases e0
          · simp only [if_pos q1, if_neg q2] at hv
            exact zx_out C (fun h hh => nomatch hh) (by rw [hpo]; exact (by rw [← hB]; exact hv)) (by rw [hmc]; omega) (by rw [hms]; omega)
      · rw [if_neg q1] at hB
        refine z_call C 48 (c_R_readParameter (k := 3) (mc := 1) (ms := 6) ⟨hr, hr2, va_up_self _ _ _, hz, hp, hc⟩ (by omega) (fun w => ⟨by omega, by omega⟩)) w_R_readParameter ini_R d_R_readFunction_45 rfl (z_goV (As := [.ref (r + 1)]) C l_R_46 w_R_readParameter d_R_readFunction_45 (by omega) ((hrd _ _ _ _ _)) rfl rfl) (Nat.le_of_ble_eq_true rfl) (by rw [hR]; simp only [zRm]; omega) (by rw [hR]; simp only [zRm]; omega) (by rw [hR]; simp only [zRm]; omega) (by rw [hR]; simp only [zRm]; omega) (fun v n' σ' hv => ?_) (fun x n' σ' hv => ?_)
        · simp only [if_neg q1] at hv
          obtain ⟨x, τ, e0, -⟩ := hv
          cases e0
        · simp only [if_neg q1] at hv
          exact zx_out C (fun h hh => nomatch hh) (by rw [hpo]; exact (by rw [← hB]; exact hv)) (by rw [hmc]; omega) (by rw [hms]; omega)
    | succ m ih =>
      intro k p V P Y hk hp hB
      rw [rdQ_s] at hB
      refine z_aload_n C 44 d_R_readFunction_43 rfl rfl ?_
      refine z_aload_n C 45 d_R_readFunction_44 rfl rfl ?_
      by_cases q1 : 97 ≤ rlk (xa 1) z p ∧ rlk (xa 1) z p ≤ 116
      · by_cases q2 : 48 ≤ rlk (xa 1) z (p + 1) ∧ rlk (xa 1) z (p + 1) ≤ 50
        · rw [if_pos q1, if_pos q2] at hB
          have hp2 : p + 1 < z := rlk_pos q2.1 (by decide)
          refine z_call C 48 (c_R_readParameter (k := k) (mc := 0) (ms := 0) ⟨hr, hr2, va_up_self _ _ _, hz, hp, hc⟩ (by omega) (fun w => absurd ⟨q1, q2⟩ w)) w_R_readParameter ini_R d_R_readFunction_45 rfl (z_goV (As := [.ref (r + 1)]) C l_R_46 w_R_readParameter d_R_readFunction_45 (by omega) ((hrd _ _ _ _ _)) rfl rfl) (Nat.le_of_ble_eq_true rfl) (by rw [hR]; simp only [zRm]; omega) (by rw [hR]; simp only [zRm]; omega) (by rw [hR]; simp only [zRm]; omega) (by rw [hR]; simp only [zRm]; omega) (fun v n' σ' hv => ?_) (fun x n' σ' hv => ?_)
          rotate_left
          · simp only [if_pos q1, if_pos q2] at hv
            cases hv.1
          simp only [if_pos q1, if_pos q2] at hv
          obtain ⟨e0, rfl, rfl⟩ := hv
          cases e0
          refine z_iinc C 51 d_R_readFunction_48 rfl (nI (k + 1)) rfl (z_inc k) (by decide) ?_
          refine z_goto C 24 d_R_readFunction_51 (by decide) ?_
          refine z_iload_n C 25 d_R_readFunction_24 rfl rfl ?_
          refine z_iconst C 26 d_R_readFunction_25 rfl 4 (by decide) ?_
          refine z_icmp_ge C 29 54 d_R_readFunction_26 rfl (by decide) (fun h9 => absurd h9 (fun q => absurd ((nI_leI (a := 4) (by omega) (by omega)).mp q) (by omega))) (fun _ => ?_)
          refine z_aload_n C 30 d_R_readFunction_29 rfl rfl ?_
          refine z_call C 33 (c_R_next (p := p + 2) (z := z) (by omega) (by omega) (by omega) (hrr _ _ _ _ _) hz (by omega) hc) w_R_next ini_R d_R_readFunction_30 rfl (z_goV (As := []) C l_R_39 w_R_next d_R_readFunction_30 (by omega) ((hrd _ _ _ _ _)) rfl rfl) (Nat.le_of_ble_eq_true rfl) (by rw [hR]; simp only [zRm]; omega) (by rw [hR]; simp only [zRm]; omega) (by rw [hR]; simp only [zRm]; omega) (by rw [hR]; simp only [zRm]; omega) (fun v n' σ' hv => ?_) (fun x n' σ' hv => ?_)
          rotate_left
          · cases hv.1
          obtain ⟨e0, e1, rfl⟩ := hv
          cases e0
          subst e1
          refine z_bipush C 35 d_R_readFunction_33 rfl 41 (by decide) ?_
          by_cases q5 : rlk (xa 1) z (p + 2) = 41
          · rw [if_neg (fun w => absurd (q5.symm.trans w.2) (by decide))] at hB
            refine z_icmp_eq C 38 54 d_R_readFunction_35 rfl (by decide) (fun _ => ?_) (fun h9 => absurd (show xlk xa (p + 2) z = 41 from q5) h9)
            exact fin _ _ _ _ _ _ _ (by omega) hB
          · refine z_icmp_eq C 38 54 d_R_readFunction_35 rfl (by decide) (fun h9 => absurd h9 (show ¬ xlk xa (p + 2) z = 41 from q5)) (fun _ => ?_)
            refine z_aload_n C 39 d_R_readFunction_38 rfl rfl ?_
            refine z_iload_n C 40 d_R_readFunction_39 rfl rfl ?_
            by_cases q6 : rlk (xa 1) z (p + 2) = 44
            · rw [if_pos ⟨by omega, q6⟩] at hB
              have hp3 : p + 2 < z := rlk_lt q6 (by decide)
              refine z_call C 43 (c_R_takeCommaBefore (p := p + 2) (z := z) (by omega) (by omega) (by omega) (by omega) (hrr _ _ _ _ _) hz (by omega) hc (k := k + 1) (by omega) (mc := 0) (ms := 0) (fun _ w => absurd q6 w)) w_R_takeCommaBefore ini_R d_R_readFunction_40 rfl (z_goV (As := [.int (nI (k + 1))]) C l_R_43 w_R_takeCommaBefore d_R_readFunction_40 (by omega) ((hrd _ _ _ _ _)) rfl rfl) (Nat.le_of_ble_eq_true rfl) (by rw [hR]; simp only [zRm]; omega) (by rw [hR]; simp only [zRm]; omega) (by rw [hR]; simp only [zRm]; omega) (by rw [hR]; simp only [zRm]; omega) (fun v n' σ' hv => ?_) (fun x n' σ' hv => ?_)
              · rcases hv with ⟨w, -⟩ | ⟨-, -, e0, rfl, rfl⟩ | ⟨-, w, -⟩
                · exact absurd w (by omega)
                · cases e0
                  rw [gOv_low (by omega), va_up2]
                  exact ih _ _ _ _ _ (by omega) (by omega) hB
                · exact absurd q6 w
              · rcases hv with ⟨-, e0, -⟩ | ⟨-, -, e0, -⟩ | ⟨-, w, -⟩
                · cases e0
                · cases e0
                · exact absurd q6 w
            · rw [if_neg (fun w => q6 w.2)] at hB
              unfold rdB at hB
              dsimp only at hB
              rw [if_neg q5] at hB
              refine z_call C 43 (c_R_takeCommaBefore (p := p + 2) (z := z) (by omega) (by omega) (by omega) (by omega) (hrr _ _ _ _ _) hz (by omega) hc (k := k + 1) (by omega) (mc := 1) (ms := 6) (fun _ w => ⟨by omega, by omega⟩)) w_R_takeCommaBefore ini_R d_R_readFunction_40 rfl (z_goV (As := [.int (nI (k + 1))]) C l_R_43 w_R_takeCommaBefore d_R_readFunction_40 (by omega) ((hrd _ _ _ _ _)) rfl rfl) (Nat.le_of_ble_eq_true rfl) (by rw [hR]; simp only [zRm]; omega) (by rw [hR]; simp only [zRm]; omega) (by rw [hR]; simp only [zRm]; omega) (by rw [hR]; simp only [zRm]; omega) (fun v n' σ' hv => ?_) (fun x n' σ' hv => ?_)
              · rcases hv with ⟨w, -⟩ | ⟨-, w, -⟩ | ⟨-, -, e0, -⟩
                · exact absurd w (by omega)
                · exact absurd w q6
                · cases e0
              · rcases hv with ⟨-, e0, -⟩ | ⟨-, -, e0, -⟩ | ⟨-, -, e0, rfl, rfl⟩
                · cases e0
                · cases e0
                · cases e0
                  exact zx_out C (fun h hh => nomatch hh) (by rw [hpo]; exact (by rw [← hB]; exact gIll_mk)) (by rw [hmc]; omega) (by rw [hms]; omega)
        · rw [if_pos q1, if_neg q2] at hB
          refine z_call C 48 (c_R_readParameter (k := k) (mc := 1) (ms := 6) ⟨hr, hr2, va_up_self _ _ _, hz, hp, hc⟩ (by omega) (fun w => ⟨by omega, by omega⟩)) w_R_readParameter ini_R d_R_readFunction_45 rfl (z_goV (As := [.ref (r + 1)]) C l_R_46 w_R_readParameter d_R_readFunction_45 (by omega) ((hrd _ _ _ _ _)) rfl rfl) (Nat.le_of_ble_eq_true rfl) (by rw [hR]; simp only [zRm]; omega) (by rw [hR]; simp only [zRm]; omega) (by rw [hR]; simp only [zRm]; omega) (by rw [hR]; simp only [zRm]; omega) (fun v n' σ' hv => ?_) (fun x n' σ' hv => ?_)
          · simp only [if_pos q1, if_neg q2] at hv
            obtain ⟨x, τ, e0, -⟩ := hv
            cases e0
          · simp only [if_pos q1, if_neg q2] at hv
            exact zx_out C (fun h hh => nomatch hh) (by rw [hpo]; exact (by rw [← hB]; exact hv)) (by rw [hmc]; omega) (by rw [hms]; omega)
      · rw [if_neg q1] at hB
        refine z_call C 48 (c_R_readParameter (k := k) (mc := 1) (ms := 6) ⟨hr, hr2, va_up_self _ _ _, hz, hp, hc⟩ (by omega) (fun w => ⟨by omega, by omega⟩)) w_R_readParameter ini_R d_R_readFunction_45 rfl (z_goV (As := [.ref (r + 1)]) C l_R_46 w_R_readParameter d_R_readFunction_45 (by omega) ((hrd _ _ _ _ _)) rfl rfl) (Nat.le_of_ble_eq_true rfl) (by rw [hR]; simp only [zRm]; omega) (by rw [hR]; simp only [zRm]; omega) (by rw [hR]; simp only [zRm]; omega) (by rw [hR]; simp only [zRm]; omega) (fun v n' σ' hv => ?_) (fun x n' σ' hv => ?_)
        · simp only [if_neg q1] at hv
          obtain ⟨x, τ, e0, -⟩ := hv
          cases e0
        · simp only [if_neg q1] at hv
          exact zx_out C (fun h hh => nomatch hh) (by rw [hpo]; exact (by rw [← hB]; exact hv)) (by rw [hmc]; omega) (by rw [hms]; omega)
  have hrd1 : xOv xs xr xa xl xf (va_up σ (r + 1) fnC0) r = .inr (4, [.ref 1, .int (nI z), .ref 2, .int (nI 0)]) := (xOv_at (by omega)).trans ((va_up_ne _ _ (by omega)).trans hrd0)
  unfold rdF at hres
  refine z_new C 3 n_R_26 d_R_readFunction_0 rfl (by omega) (by rw [hR]; simp only [zRm]; omega) (by rw [hR]; simp only [zRm]; omega) ?_
  rw [xOv_up (by omega)]
  refine z_dup C 4 d_R_readFunction_3 rfl rfl ?_
  refine z_aload_n C 5 d_R_readFunction_4 rfl rfl ?_
  refine z_bipush C 7 d_R_readFunction_5 rfl 65 (by decide) ?_
  refine z_bipush C 9 d_R_readFunction_7 rfl 72 (by decide) ?_
  by_cases q1 : 65 ≤ rlk (xa 1) z 0 ∧ rlk (xa 1) z 0 ≤ 72
  rotate_left
  · rw [if_neg q1] at hres
    refine z_call C 12 (c_R_takeOneOf (p := 0) (z := z) (by omega) (by omega) (by omega) (by omega) ((va_up_ne _ _ (by omega)).trans hrd0) hz (by omega) hc 65 72 (mc := 1) (ms := 6) (fun _ => ⟨by omega, by omega⟩)) w_R_takeOneOf ini_R d_R_readFunction_9 rfl (z_goV (As := [.int 65, .int 72]) C l_R_28 w_R_takeOneOf d_R_readFunction_9 (by omega) (hrd1) rfl rfl) (Nat.le_of_ble_eq_true rfl) (by rw [hR]; simp only [zRm]; omega) (by rw [hR]; simp only [zRm]; omega) (by rw [hR]; simp only [zRm]; omega) (by rw [hR]; simp only [zRm]; omega) (fun v n' σ' hv => ?_) (fun x n' σ' hv => ?_)
    · rcases hv with ⟨w, -⟩ | ⟨-, e0, -⟩
      · exact absurd w q1
      · cases e0
    · obtain ⟨-, e0, rfl, rfl⟩ := hv.resolve_left (fun w => q1 w.1)
      cases e0
      exact zx_out C (fun h hh => nomatch hh) (by rw [hpo]; exact (by rw [← hres]; exact ⟨r + 1 + 1, _, rfl, rfl, by omega, by omega, rfl, va_up_self _ _ _, fun k hk => by rw [va_up_ne _ _ (by omega), va_up_ne _ _ (by omega)]⟩)) (by rw [hmc]; omega) (by rw [hms]; omega)
  rw [if_pos q1] at hres
  have hz1 : 0 < z := rlk_pos q1.1 (by decide)
  refine z_call C 12 (c_R_takeOneOf (p := 0) (z := z) (by omega) (by omega) (by omega) (by omega) ((va_up_ne _ _ (by omega)).trans hrd0) hz (by omega) hc 65 72 (mc := 0) (ms := 0) (fun w => absurd q1 w)) w_R_takeOneOf ini_R d_R_readFunction_9 rfl (z_goV (As := [.int 65, .int 72]) C l_R_28 w_R_takeOneOf d_R_readFunction_9 (by omega) (hrd1) rfl rfl) (Nat.le_of_ble_eq_true rfl) (by rw [hR]; simp only [zRm]; omega) (by rw [hR]; simp only [zRm]; omega) (by rw [hR]; simp only [zRm]; omega) (by rw [hR]; simp only [zRm]; omega) (fun v n' σ' hv => ?_) (fun x n' σ' hv => ?_)
  rotate_left
  · rcases hv with ⟨-, e0, -⟩ | ⟨w, -⟩
    · cases e0
    · exact absurd q1 w
  obtain ⟨-, e0, rfl, rfl⟩ := hv.resolve_right (fun w => w.1 q1)
  cases e0
  rw [va_comm _ _ _ (by omega), ← xOv_up (by omega)]
  refine z_call C 15 (c_F_init (by omega) (xlk xa 0 z - 65)) w_F_init ini_F d_R_readFunction_12 rfl (z_goI (As := [.int (xlk xa 0 z - 65)]) C l_R_32 w_F_init d_R_readFunction_12 rfl) (Nat.le_of_ble_eq_true rfl) (by rw [hR]; simp only [zRm]; omega) (by rw [hR]; simp only [zRm]; omega) (by rw [hR]; simp only [zRm]; omega) (by rw [hR]; simp only [zRm]; omega) (fun v n' σ' hv => ?_) (fun x n' σ' hv => ?_)
  rotate_left
  · cases hv.1
  obtain ⟨e0, rfl, e2⟩ := hv
  cases e0
  obtain rfl : σ' = xOv xs xr xa xl xf (gOv (r + 1) (gF (r + 1) (xlk xa 0 z - 65) 0 0 none) (fun _ => 0) (fun _ => 0) (fun _ => 0) (va_up σ r (rdC 1 z))) := by
    rw [e2]
    funext j
    unfold gOv
    by_cases j85 : 85 ≤ j
    · rw [xOv_at j85, xOv_at j85]
    · rw [if_neg (by omega), if_neg (by omega), if_neg (by omega), if_neg (by omega)]
      unfold xOv
      rw [if_neg j85, if_neg j85]
  refine z_astore_n C 16 d_R_readFunction_15 rfl (by decide) ?_
  refine z_aload_n C 17 d_R_readFunction_16 rfl rfl ?_
  refine z_bipush C 19 d_R_readFunction_17 rfl 40 (by decide) ?_
  by_cases q2 : rlk (xa 1) z 1 = 40
  rotate_left
  · rw [if_neg q2] at hres
    refine z_call C 22 (c_R_take (p := 1) (z := z) (by omega) (by omega) (by omega) (by omega) (hrr _ _ _ _ _) hz (by omega) hc 40 (mc := 1) (ms := 6) (fun w => ⟨by omega, by omega⟩)) w_R_take ini_R d_R_readFunction_19 rfl (z_goV (As := [.int 40]) C l_R_35 w_R_take d_R_readFunction_19 (by omega) ((hrd _ _ _ _ _)) rfl rfl) (Nat.le_of_ble_eq_true rfl) (by rw [hR]; simp only [zRm]; omega) (by rw [hR]; simp only [zRm]; omega) (by rw [hR]; simp only [zRm]; omega) (by rw [hR]; simp only [zRm]; omega) (fun v n' σ' hv => ?_) (fun x n' σ' hv => ?_)
    rotate_left
    · obtain ⟨-, e0, rfl, rfl⟩ := hv.resolve_left (fun w => q2 w.1)
      cases e0
      exact zx_out C (fun h hh => nomatch hh) (by rw [hpo]; exact (by rw [← hres]; exact gIll_mk)) (by rw [hmc]; omega) (by rw [hms]; omega)
    · rcases hv with ⟨w, -⟩ | ⟨-, e0, -⟩
      · exact absurd w q2
      · cases e0
  rw [if_pos q2] at hres
  have hz2 : 1 < z := rlk_lt q2 (by decide)
  refine z_call C 22 (c_R_take (p := 1) (z := z) (by omega) (by omega) (by omega) (by omega) (hrr _ _ _ _ _) hz (by omega) hc 40 (mc := 0) (ms := 0) (fun w => absurd q2 w)) w_R_take ini_R d_R_readFunction_19 rfl (z_goV (As := [.int 40]) C l_R_35 w_R_take d_R_readFunction_19 (by omega) ((hrd _ _ _ _ _)) rfl rfl) (Nat.le_of_ble_eq_true rfl) (by rw [hR]; simp only [zRm]; omega) (by rw [hR]; simp only [zRm]; omega) (by rw [hR]; simp only [zRm]; omega) (by rw [hR]; simp only [zRm]; omega) (fun v n' σ' hv => ?_) (fun x n' σ' hv => ?_)
  rotate_left
  · rcases hv with ⟨-, e0, -⟩ | ⟨w, -⟩
    · cases e0
    · exact absurd q2 w
  obtain ⟨-, e0, rfl, rfl⟩ := hv.resolve_right (fun w => w.1 q2)
  cases e0
  rw [gOv_low (by omega), va_up2]
  refine z_iconst C 23 d_R_readFunction_22 rfl 0 (by decide) ?_
  refine z_istore_n C 24 d_R_readFunction_23 rfl (by decide) ?_
  refine z_iload_n C 25 d_R_readFunction_24 rfl rfl ?_
  refine z_iconst C 26 d_R_readFunction_25 rfl 4 (by decide) ?_
  refine z_icmp_ge C 29 54 d_R_readFunction_26 rfl (by decide) (fun h9 => absurd h9 (show ¬ (4 : Int32) ≤ 0 by decide)) (fun _ => ?_)
  refine z_aload_n C 30 d_R_readFunction_29 rfl rfl ?_
  refine z_call C 33 (c_R_next (p := 2) (z := z) (by omega) (by omega) (by omega) (hrr _ _ _ _ _) hz (by omega) hc) w_R_next ini_R d_R_readFunction_30 rfl (z_goV (As := []) C l_R_39 w_R_next d_R_readFunction_30 (by omega) ((hrd _ _ _ _ _)) rfl rfl) (Nat.le_of_ble_eq_true rfl) (by rw [hR]; simp only [zRm]; omega) (by rw [hR]; simp only [zRm]; omega) (by rw [hR]; simp only [zRm]; omega) (by rw [hR]; simp only [zRm]; omega) (fun v n' σ' hv => ?_) (fun x n' σ' hv => ?_)
  rotate_left
  · cases hv.1
  obtain ⟨e0, e1, rfl⟩ := hv
  cases e0
  subst e1
  refine z_bipush C 35 d_R_readFunction_33 rfl 41 (by decide) ?_
  by_cases q5 : rlk (xa 1) z 2 = 41
  · rw [if_pos q5] at hres
    refine z_icmp_eq C 38 54 d_R_readFunction_35 rfl (by decide) (fun _ => ?_) (fun h9 => absurd (show xlk xa 2 z = 41 from q5) h9)
    exact Z.widen (by omega) (by omega) (fin _ _ _ _ _ _ 0 (by omega) hres)
  · rw [if_neg q5] at hres
    refine z_icmp_eq C 38 54 d_R_readFunction_35 rfl (by decide) (fun h9 => absurd h9 (show ¬ xlk xa 2 z = 41 from q5)) (fun _ => ?_)
    refine z_aload_n C 39 d_R_readFunction_38 rfl rfl ?_
    refine z_iload_n C 40 d_R_readFunction_39 rfl rfl ?_
    refine z_call C 43 (c_R_takeCommaBefore (p := 2) (z := z) (by omega) (by omega) (by omega) (by omega) (hrr _ _ _ _ _) hz (by omega) hc (k := 0) (by omega) (mc := 0) (ms := 0) (fun w => absurd w (by omega))) w_R_takeCommaBefore ini_R d_R_readFunction_40 rfl (z_goV (As := [.int (nI 0)]) C l_R_43 w_R_takeCommaBefore d_R_readFunction_40 (by omega) ((hrd _ _ _ _ _)) rfl rfl) (Nat.le_of_ble_eq_true rfl) (by rw [hR]; simp only [zRm]; omega) (by rw [hR]; simp only [zRm]; omega) (by rw [hR]; simp only [zRm]; omega) (by rw [hR]; simp only [zRm]; omega) (fun v n' σ' hv => ?_) (fun x n' σ' hv => ?_)
    · rcases hv with ⟨-, e0, rfl, rfl⟩ | ⟨w, -⟩ | ⟨w, -⟩
      · cases e0
        exact Z.widen (by omega) (by omega) (par _ 3 0 2 _ _ _ (by omega) (by omega) hres)
      · exact absurd w (by omega)
      · exact absurd w (by omega)
    · rcases hv with ⟨-, e0, -⟩ | ⟨w, -⟩ | ⟨w, -⟩
      · cases e0
      · exact absurd w (by omega)
      · exact absurd w (by omega)
end RFN
