/-! a part of an expression being read, from any of the readers -/
def rHyp (G : zG) (l : Launch) (d : Nat) : Prop := ∀ (B N r p z : Nat) (σ : zS) (xs : mS) (xr : Int64) (xa : mA) (xl : mL) (xf : xF) (A : mA) (E : Nat → eN) (mc ms : Nat), rPre B N r p z σ xa → rCe p (rdE (xa 1) z d (p, N, A, E)) ≤ mc → rSl p (rdE (xa 1) z d (p, N, A, E)) ≤ ms →
  MetZ G l y_R_readExpression b_R_readExpression 2 (some (.object "SoleArrays$Expression")) [] (9 + 4 * d) mc ms [.ref r, .int (nI (9 - d))] (B + 2 * N) (xOv xs xr xa xl xf (eOv B N E σ)) (rPost B N r z σ xs xr xa xl xf (rdE (xa 1) z d (p, N, A, E)))
section ZPT
variable {G : zG} {K : zK} {y : MethodName} {cc : ByteArray} {nL : Nat} {ret : Option FieldType} {pc k1 k2 B r z : Nat} {lv : List (Nat × Value)} {σ : zS} {xs : mS} {xr : Int64} {xa : mA} {xl : mL} {xf : xF}
theorem rIll.low {c : va_E} {q n' : Nat} {o : Outcome} {σ' : zS} (h : rIll B r (va_up σ r c) xs xr xa xl xf q o n' σ') : rIll B r σ xs xr xa xl xf q o n' σ' := by
  obtain ⟨x, τ, h1, h2, h3, h4, h5, h6, h7⟩ := h
  exact ⟨x, τ, h1, h2, h3, h4, h5, h6, fun k hk => (h7 k hk).trans (va_up_ne _ _ (by omega))⟩
theorem z_part (C : zC G K y cc nL ret []) (hy : y.cls = "SoleArrays$Reader") {d i k : Nat} (hd8 : d ≤ 8) (RX : rHyp G (kl K) d) {ja jd : Fin 4} (s : rS)
    (e1 : decode cc pc = .ok (.aload_n ja, 1)) (e2 : decode cc (pc + 1) = .ok (.aload_n 0, 1)) (e3 : decode cc (pc + 2) = .ok (.iload_n jd, 1)) (e4 : decode cc (pc + 3) = .ok (.iconst 1, 1)) (e5 : decode cc (pc + 4) = .ok (.iadd, 1)) (e6 : decode cc (pc + 5) = .ok (.invokevirtual 53, 3)) (e7 : decode cc (pc + 8) = .ok (.invokevirtual 154, 3))
    (l1 : zl lv (ja : Nat) = some (.ref (B + 2 * i))) (l0 : zl lv 0 = some (.ref r)) (l2 : zl lv (jd : Nat) = some (.int (nI (8 - d))))
    (hp : rPre B s.2.1 r s.1 z (va_up σ r (rdC s.1 z)) xa) (hi : i < s.2.1) (hk : (s.2.2.2 i).2.2.2.1 = k) (hk4 : k < 4)
    (hfr : 9 + 4 * d + 1 ≤ (kR K).frames) (hlo : 8 + (2 + 11) + 60 * (9 + 4 * d) ≤ (kR K).locals) (hce : k1 + rCe s.1 (rdE (xa 1) z d s) ≤ (kR K).cells) (hsl : k2 + rSl s.1 (rdE (xa 1) z d s) ≤ (kR K).slots) (hmc : (kR K).cells ≤ kmc K) (hms : (kR K).slots ≤ kms K)
    (kI : ∀ q, rdE (xa 1) z d s = .inl q → ∀ o n' σ', rIll B r σ xs xr xa xl xf q o n' σ' → kpo K o n' σ')
    (kO : ∀ s2, rdE (xa 1) z d s = .inr s2 → Z G K (B + 2 * s2.2.1) (xOv xs xr xa xl xf (eOv B s2.2.1 (rAdd i s.2.1 s2).2.2.2 (va_up σ r (rdC s2.1 z)))) (k1 + 2 * (s2.1 - s.1)) (k2 + 14 * (s2.1 - s.1)) (pc + 11) lv []) :
    Z G K (B + 2 * s.2.1) (xOv xs xr xa xl xf (eOv B s.2.1 s.2.2.2 (va_up σ r (rdC s.1 z)))) k1 k2 pc lv [] := by
  have hp0 := hp
  obtain ⟨hr, hrB, hB, hrd0, hz, hpz, hN, hc⟩ := hp
  have hrd : xOv xs xr xa xl xf (eOv B s.2.1 s.2.2.2 (va_up σ r (rdC s.1 z))) r = .inr (4, [.ref 1, .int (nI z), .ref 2, .int (nI s.1)]) := (xOv_at (by omega)).trans ((eOv_lo hrB).trans hrd0)
  refine z_aload_n C (pc + 1) e1 rfl l1 ?_
  refine z_aload_n C (pc + 2) e2 rfl l0 ?_
  refine z_iload_n C (pc + 3) e3 rfl l2 ?_
  refine z_iconst C (pc + 4) e4 rfl 1 (by decide) ?_
  refine z_iadd C (pc + 5) e5 rfl ?_
  rw [nI_1, show 8 - d + 1 = 9 - d by omega]
  refine z_call C (pc + 8) (RX B s.2.1 r s.1 z (va_up σ r (rdC s.1 z)) xs xr xa xl xf s.2.2.1 s.2.2.2 (rCe s.1 (rdE (xa 1) z d s)) (rSl s.1 (rdE (xa 1) z d s)) hp0 (Nat.le_refl _) (Nat.le_refl _)) w_R_readExpression ini_R e6 rfl (z_goV (As := [.int (nI (9 - d))]) C (by rw [hy]; exact l_R_53) w_R_readExpression e6 (by omega) hrd rfl rfl) (Nat.le_of_ble_eq_true rfl) hfr hlo hce hsl (fun v n' σ' hv => ?_) (fun x n' σ' hv => ?_)
  · have hv : rPost B s.2.1 r z (va_up σ r (rdC s.1 z)) xs xr xa xl xf (rdE (xa 1) z d s) (.returned v) n' σ' := hv
    cases hR : rdE (xa 1) z d s with
    | inl q =>
      rw [hR] at hv
      obtain ⟨x, τ, h1, -⟩ := hv
      cases h1
    | inr s2 =>
      rw [hR] at hv
      obtain ⟨h1, rfl, rfl⟩ := hv
      cases h1
      have ks := rdE_ks (T := xa 1) (z := z) d s
      rw [hR] at ks
      obtain ⟨ks1, ks2⟩ := ks
      have hg := rdE_pos (T := xa 1) (d := d) hpz hR
      rw [va_up2]
      have hN2 : s2.2.1 ≤ s2.1 := by omega
      refine z_call C (pc + 11) (c_E_add (i := i) (j := s.2.1) (k := k) (by omega) rfl (by omega) ks1 (by rw [ks2 i hi]; exact hk) hk4) w_E_add ini_E e7 rfl (z_goV (As := [.ref (B + 2 * s.2.1)]) C (by rw [hy]; exact l_R_154) w_E_add e7 (by omega) ((xOv_at (by omega)).trans (eOv_obj (by omega))) rfl rfl) (Nat.le_of_ble_eq_true rfl) (by omega) (by omega) (by rw [hR] at hce; show k1 + rCe s.1 (.inr s2) + 0 ≤ _; omega) (by rw [hR] at hsl; show k2 + rSl s.1 (.inr s2) + 0 ≤ _; omega) (fun v n' σ' hv => ?_) (fun x n' σ' hv => ?_)
      · obtain ⟨h1, rfl, rfl⟩ := hv
        cases h1
        exact kO s2 hR
      · cases hv.1
  · have hv : rPost B s.2.1 r z (va_up σ r (rdC s.1 z)) xs xr xa xl xf (rdE (xa 1) z d s) (.threw x) n' σ' := hv
    cases hR : rdE (xa 1) z d s with
    | inl q =>
      rw [hR] at hv
      exact zx_out C (fun h hh => nomatch hh) (kI q hR _ _ _ (rIll.low hv)) (Nat.le_trans (by rw [hR] at hce; exact hce) hmc) (Nat.le_trans (by rw [hR] at hsl; exact hsl) hms)
    | inr s2 =>
      rw [hR] at hv
      obtain ⟨h1, -⟩ := hv
      cases h1
/-- a character that must stand here -/
theorem z_take (C : zC G K y cc nL ret []) (hy : y.cls = "SoleArrays$Reader") {c0 : Int} (c : Int32) (hc0 : (Int8.ofInt c0).toInt32 = c) (s : rS)
    (e1 : decode cc pc = .ok (.aload_n 0, 1)) (e2 : decode cc (pc + 1) = .ok (.bipush c0, 2)) (e3 : decode cc (pc + 3) = .ok (.invokevirtual 35, 3)) (l0 : zl lv 0 = some (.ref r))
    (hp : rPre B 0 r s.1 z (va_up σ r (rdC s.1 z)) xa) (hM : s.2.1 ≤ 150) (hfr : 8 ≤ (kR K).frames) (hlo : 8 + (2 + 11) + 60 * 7 ≤ (kR K).locals) (hmc : (kR K).cells ≤ kmc K) (hms : (kR K).slots ≤ kms K)
    (hce : k1 ≤ (kR K).cells ∧ k2 ≤ (kR K).slots) (hce2 : rlk (xa 1) z s.1 ≠ c → k1 + 1 ≤ (kR K).cells ∧ k2 + 6 ≤ (kR K).slots)
    (kI : rlk (xa 1) z s.1 ≠ c → ∀ o n' σ', rIll B r σ xs xr xa xl xf s.1 o n' σ' → kpo K o n' σ')
    (kO : rlk (xa 1) z s.1 = c → Z G K (B + 2 * s.2.1) (xOv xs xr xa xl xf (eOv B s.2.1 s.2.2.2 (va_up σ r (rdC (s.1 + 1) z)))) k1 k2 (pc + 6) lv []) :
    Z G K (B + 2 * s.2.1) (xOv xs xr xa xl xf (eOv B s.2.1 s.2.2.2 (va_up σ r (rdC s.1 z)))) k1 k2 pc lv [] := by
  obtain ⟨hr, hrB, hB, hrd0, hz, hpz, hN, hc⟩ := hp
  have hrd1 : eOv B s.2.1 s.2.2.2 (va_up σ r (rdC s.1 z)) r = rdC s.1 z := (eOv_lo hrB).trans hrd0
  have hrd : xOv xs xr xa xl xf (eOv B s.2.1 s.2.2.2 (va_up σ r (rdC s.1 z))) r = .inr (4, [.ref 1, .int (nI z), .ref 2, .int (nI s.1)]) := (xOv_at (by omega)).trans hrd1
  refine z_aload_n C (pc + 1) e1 rfl l0 ?_
  refine z_bipush C (pc + 3) e2 rfl c hc0 ?_
  by_cases q : rlk (xa 1) z s.1 = c
  · refine z_call C (pc + 6) (c_R_take (p := s.1) (z := z) (by omega) (by omega) (by omega) (by omega) hrd1 hz (by omega) hc c (mc := 0) (ms := 0) (fun w => absurd q w)) w_R_take ini_R e3 rfl (z_goV (As := [.int c]) C (by rw [hy]; exact l_R_35) w_R_take e3 (by omega) hrd rfl rfl) (Nat.le_of_ble_eq_true rfl) (by omega) (by omega) (by omega) (by omega) (fun v n' σ' hv => ?_) (fun x n' σ' hv => ?_)
    · rcases hv with ⟨-, h1, rfl, rfl⟩ | ⟨w, -⟩
      · cases h1
        rw [eOv_low hrB, va_up2]
        exact kO q
      · exact absurd q w
    · rcases hv with ⟨-, h1, -⟩ | ⟨w, -⟩
      · cases h1
      · exact absurd q w
  · have hb := hce2 q
    refine z_call C (pc + 6) (c_R_take (p := s.1) (z := z) (by omega) (by omega) (by omega) (by omega) hrd1 hz (by omega) hc c (mc := 1) (ms := 6) (fun _ => ⟨by omega, by omega⟩)) w_R_take ini_R e3 rfl (z_goV (As := [.int c]) C (by rw [hy]; exact l_R_35) w_R_take e3 (by omega) hrd rfl rfl) (Nat.le_of_ble_eq_true rfl) (by omega) (by omega) (by omega) (by omega) (fun v n' σ' hv => ?_) (fun x n' σ' hv => ?_)
    · rcases hv with ⟨w, -⟩ | ⟨-, h1, -⟩
      · exact absurd w q
      · cases h1
    · rcases hv with ⟨w, -⟩ | ⟨-, h1, rfl, rfl⟩
      · exact absurd w q
      · cases h1
        exact zx_out C (fun h hh => nomatch hh) (kI q _ _ _ (rIll_mk hrB (by omega))) (by omega) (by omega)
end ZPT
