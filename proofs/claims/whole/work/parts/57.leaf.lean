theorem d_R_readDigits_0 : decode b_R_readDigits 0 = .ok (.new 121, 3) := by decide +kernel
theorem d_R_readDigits_3 : decode b_R_readDigits 3 = .ok (.dup, 1) := by decide +kernel
theorem d_R_readDigits_4 : decode b_R_readDigits 4 = .ok (.getstatic 123, 3) := by decide +kernel
theorem d_R_readDigits_7 : decode b_R_readDigits 7 = .ok (.aload_n 0, 1) := by decide +kernel
theorem d_R_readDigits_8 : decode b_R_readDigits 8 = .ok (.getfield 9, 3) := by decide +kernel
theorem d_R_readDigits_11 : decode b_R_readDigits 11 = .ok (.invokespecial 126, 3) := by decide +kernel
theorem d_R_readDigits_14 : decode b_R_readDigits 14 = .ok (.astore_n 1, 1) := by decide +kernel
theorem d_R_readDigits_15 : decode b_R_readDigits 15 = .ok (.iconst 0, 1) := by decide +kernel
theorem d_R_readDigits_16 : decode b_R_readDigits 16 = .ok (.istore_n 2, 1) := by decide +kernel
theorem d_R_readDigits_17 : decode b_R_readDigits 17 = .ok (.iload_n 2, 1) := by decide +kernel
theorem d_R_readDigits_18 : decode b_R_readDigits 18 = .ok (.iconst 4, 1) := by decide +kernel
theorem d_R_readDigits_19 : decode b_R_readDigits 19 = .ok (.if_icmp .ge 42, 3) := by decide +kernel
theorem d_R_readDigits_22 : decode b_R_readDigits 22 = .ok (.aload_n 0, 1) := by decide +kernel
theorem d_R_readDigits_23 : decode b_R_readDigits 23 = .ok (.bipush 48, 2) := by decide +kernel
theorem d_R_readDigits_25 : decode b_R_readDigits 25 = .ok (.bipush 57, 2) := by decide +kernel
theorem d_R_readDigits_27 : decode b_R_readDigits 27 = .ok (.invokevirtual 74, 3) := by decide +kernel
theorem d_R_readDigits_30 : decode b_R_readDigits 30 = .ok (.ifCond .eq 31, 3) := by decide +kernel
theorem d_R_readDigits_33 : decode b_R_readDigits 33 = .ok (.aload_n 1, 1) := by decide +kernel
theorem d_R_readDigits_34 : decode b_R_readDigits 34 = .ok (.aload_n 1, 1) := by decide +kernel
theorem d_R_readDigits_35 : decode b_R_readDigits 35 = .ok (.getfield 129, 3) := by decide +kernel
theorem d_R_readDigits_38 : decode b_R_readDigits 38 = .ok (.ldc2_w 133, 3) := by decide +kernel
theorem d_R_readDigits_41 : decode b_R_readDigits 41 = .ok (.lmul, 1) := by decide +kernel
theorem d_R_readDigits_42 : decode b_R_readDigits 42 = .ok (.aload_n 0, 1) := by decide +kernel
theorem d_R_readDigits_43 : decode b_R_readDigits 43 = .ok (.bipush 48, 2) := by decide +kernel
theorem d_R_readDigits_45 : decode b_R_readDigits 45 = .ok (.bipush 57, 2) := by decide +kernel
theorem d_R_readDigits_47 : decode b_R_readDigits 47 = .ok (.invokevirtual 28, 3) := by decide +kernel
theorem d_R_readDigits_50 : decode b_R_readDigits 50 = .ok (.i2l, 1) := by decide +kernel
theorem d_R_readDigits_51 : decode b_R_readDigits 51 = .ok (.ladd, 1) := by decide +kernel
theorem d_R_readDigits_52 : decode b_R_readDigits 52 = .ok (.putfield 129, 3) := by decide +kernel
theorem d_R_readDigits_55 : decode b_R_readDigits 55 = .ok (.iinc 2 1, 3) := by decide +kernel
theorem d_R_readDigits_58 : decode b_R_readDigits 58 = .ok (.goto (-41), 3) := by decide +kernel
theorem d_R_readDigits_61 : decode b_R_readDigits 61 = .ok (.aload_n 1, 1) := by decide +kernel
theorem d_R_readDigits_62 : decode b_R_readDigits 62 = .ok (.areturn, 1) := by decide +kernel
theorem d_R_readSignAndVariable_0 : decode b_R_readSignAndVariable 0 = .ok (.new 121, 3) := by decide +kernel
theorem d_R_readSignAndVariable_3 : decode b_R_readSignAndVariable 3 = .ok (.dup, 1) := by decide +kernel
theorem d_R_readSignAndVariable_4 : decode b_R_readSignAndVariable 4 = .ok (.aload_n 1, 1) := by decide +kernel
theorem d_R_readSignAndVariable_5 : decode b_R_readSignAndVariable 5 = .ok (.aload_n 0, 1) := by decide +kernel
theorem d_R_readSignAndVariable_6 : decode b_R_readSignAndVariable 6 = .ok (.getfield 9, 3) := by decide +kernel
theorem d_R_readSignAndVariable_9 : decode b_R_readSignAndVariable 9 = .ok (.invokespecial 126, 3) := by decide +kernel
theorem d_R_readSignAndVariable_12 : decode b_R_readSignAndVariable 12 = .ok (.astore_n 2, 1) := by decide +kernel
theorem d_R_readSignAndVariable_13 : decode b_R_readSignAndVariable 13 = .ok (.aload_n 0, 1) := by decide +kernel
theorem d_R_readSignAndVariable_14 : decode b_R_readSignAndVariable 14 = .ok (.dup, 1) := by decide +kernel
theorem d_R_readSignAndVariable_15 : decode b_R_readSignAndVariable 15 = .ok (.getfield 9, 3) := by decide +kernel
theorem d_R_readSignAndVariable_18 : decode b_R_readSignAndVariable 18 = .ok (.iconst 1, 1) := by decide +kernel
theorem d_R_readSignAndVariable_19 : decode b_R_readSignAndVariable 19 = .ok (.iadd, 1) := by decide +kernel
theorem d_R_readSignAndVariable_20 : decode b_R_readSignAndVariable 20 = .ok (.putfield 9, 3) := by decide +kernel
theorem d_R_readSignAndVariable_23 : decode b_R_readSignAndVariable 23 = .ok (.aload_n 2, 1) := by decide +kernel
theorem d_R_readSignAndVariable_24 : decode b_R_readSignAndVariable 24 = .ok (.aload_n 0, 1) := by decide +kernel
theorem d_R_readSignAndVariable_25 : decode b_R_readSignAndVariable 25 = .ok (.getfield 9, 3) := by decide +kernel
theorem d_R_readSignAndVariable_28 : decode b_R_readSignAndVariable 28 = .ok (.putfield 148, 3) := by decide +kernel
theorem d_R_readSignAndVariable_31 : decode b_R_readSignAndVariable 31 = .ok (.aload_n 2, 1) := by decide +kernel
theorem d_R_readSignAndVariable_32 : decode b_R_readSignAndVariable 32 = .ok (.aload_n 0, 1) := by decide +kernel
theorem d_R_readSignAndVariable_33 : decode b_R_readSignAndVariable 33 = .ok (.bipush 97, 2) := by decide +kernel
theorem d_R_readSignAndVariable_35 : decode b_R_readSignAndVariable 35 = .ok (.bipush 116, 2) := by decide +kernel
theorem d_R_readSignAndVariable_37 : decode b_R_readSignAndVariable 37 = .ok (.invokevirtual 28, 3) := by decide +kernel
theorem d_R_readSignAndVariable_40 : decode b_R_readSignAndVariable 40 = .ok (.putfield 145, 3) := by decide +kernel
theorem d_R_readSignAndVariable_43 : decode b_R_readSignAndVariable 43 = .ok (.aload_n 2, 1) := by decide +kernel
theorem d_R_readSignAndVariable_44 : decode b_R_readSignAndVariable 44 = .ok (.areturn, 1) := by decide +kernel
theorem d_R_takeOperation_0 : decode b_R_takeOperation 0 = .ok (.aload_n 0, 1) := by decide +kernel
theorem d_R_takeOperation_1 : decode b_R_takeOperation 1 = .ok (.invokevirtual 39, 3) := by decide +kernel
theorem d_R_takeOperation_4 : decode b_R_takeOperation 4 = .ok (.istore_n 1, 1) := by decide +kernel
theorem d_R_takeOperation_5 : decode b_R_takeOperation 5 = .ok (.iload_n 1, 1) := by decide +kernel
theorem d_R_takeOperation_6 : decode b_R_takeOperation 6 = .ok (.tableswitch 107 42 61 #[94, 94, 107, 94, 107, 94, 107, 107, 107, 107, 107, 107, 107, 107, 107, 107, 107, 107, 94, 94], 94) := by decide +kernel
theorem d_R_takeOperation_100 : decode b_R_takeOperation 100 = .ok (.aload_n 0, 1) := by decide +kernel
theorem d_R_takeOperation_101 : decode b_R_takeOperation 101 = .ok (.dup, 1) := by decide +kernel
theorem d_R_takeOperation_102 : decode b_R_takeOperation 102 = .ok (.getfield 9, 3) := by decide +kernel
theorem d_R_takeOperation_105 : decode b_R_takeOperation 105 = .ok (.iconst 1, 1) := by decide +kernel
theorem d_R_takeOperation_106 : decode b_R_takeOperation 106 = .ok (.iadd, 1) := by decide +kernel
theorem d_R_takeOperation_107 : decode b_R_takeOperation 107 = .ok (.putfield 9, 3) := by decide +kernel
theorem d_R_takeOperation_110 : decode b_R_takeOperation 110 = .ok (.goto 14, 3) := by decide +kernel
theorem d_R_takeOperation_113 : decode b_R_takeOperation 113 = .ok (.aload_n 0, 1) := by decide +kernel
theorem d_R_takeOperation_114 : decode b_R_takeOperation 114 = .ok (.getfield 22, 3) := by decide +kernel
theorem d_R_takeOperation_117 : decode b_R_takeOperation 117 = .ok (.aload_n 0, 1) := by decide +kernel
theorem d_R_takeOperation_118 : decode b_R_takeOperation 118 = .ok (.getfield 9, 3) := by decide +kernel
theorem d_R_takeOperation_121 : decode b_R_takeOperation 121 = .ok (.invokevirtual 61, 3) := by decide +kernel
theorem d_R_takeOperation_124 : decode b_R_takeOperation 124 = .ok (.iload_n 1, 1) := by decide +kernel
theorem d_R_takeOperation_125 : decode b_R_takeOperation 125 = .ok (.ireturn, 1) := by decide +kernel
theorem sf_123 : Cond.fieldLink "SoleArrays$Reader" 123 "SoleArrays$Form" "DIGITS" "LSoleArrays$Form;" ∈ zTb := zt2 160 (by decide +kernel) rfl
theorem kl_133 : Cond.constantLong "SoleArrays$Reader" 133 10 ∈ zTb := zt2 219 (by decide +kernel) rfl
theorem va_same {α : Type} {f : Nat → α} {i : Nat} {x : α} (h : f i = x) : va_up f i x = f := by
  funext j
  by_cases q : j = i
  · subst q; rw [va_up_self, h]
  · rw [va_up_ne _ _ q]
theorem let_c {a b : Nat} (hab : a ≤ b) (hb : b < 2 ^ 31) {c : Int32} (h1 : nI a ≤ c) (h2 : c ≤ nI b) : ∃ k, k ≤ b - a ∧ c = nI (a + k) ∧ c - nI a = nI k := by
  have a1 := Int32.le_iff_toInt_le.mp h1
  have a2 := Int32.le_iff_toInt_le.mp h2
  rw [nI_toInt (by omega)] at a1
  rw [nI_toInt hb] at a2
  have e : c = nI (a + (c.toInt.toNat - a)) := by
    refine Int32.toInt_inj.mp ?_
    rw [nI_toInt (by omega)]
    omega
  refine ⟨c.toInt.toNat - a, by omega, e, ?_⟩
  have e2 : c = nI (c.toInt.toNat - a) + nI a := by rw [nI_add, Nat.add_comm]; exact e
  rw [e2, Int32.add_sub_cancel, ← e2]
/-- what holds before a reader's method: the Reader's cell r, the expressions' cells from B on, N of them -/
def rPre (B N r p z : Nat) (σ : zS) (xa : mA) : Prop := 114 ≤ r ∧ r < B ∧ B < 900000 ∧ σ r = rdC p z ∧ z ≤ 150 ∧ p ≤ z ∧ N ≤ p ∧ ∀ i, i < 150 → narrow .char (.int (xa 1 i)) = .int (xa 1 i)
def rIll (B r : Nat) (σ : zS) (xs : mS) (xr : Int64) (xa : mA) (xl : mL) (xf : xF) (q : Nat) : zPost := fun o n' σ' => ∃ (x : Nat) (τ : zS), o = .threw x ∧ n' = x + 1 ∧ B ≤ x ∧ x ≤ B + 300 ∧ σ' = xOv (upd xs 4 (nI q)) xr xa xl xf τ ∧ τ x = .inr (9, []) ∧ ∀ k, k < r → τ k = σ k
def rPost (B N r z : Nat) (σ : zS) (xs : mS) (xr : Int64) (xa : mA) (xl : mL) (xf : xF) (res : rR) : zPost := fun o n' σ' => match res with
  | .inl q => rIll B r σ xs xr xa xl xf q o n' σ'
  | .inr s => o = .returned (some (.ref (B + 2 * N))) ∧ n' = B + 2 * s.2.1 ∧ σ' = xOv xs xr xa xl xf (eOv B s.2.1 s.2.2.2 (va_up σ r (rdC s.1 z)))
def rCe (p : Nat) (res : rR) : Nat := match res with
  | .inl q => 2 * (q - p) + 1
  | .inr s => 2 * (s.1 - p)
def rSl (p : Nat) (res : rR) : Nat := match res with
  | .inl q => 14 * (q - p) + 6
  | .inr s => 14 * (s.1 - p)
section LF
variable {G : zG} {l : Launch} {r p z B N : Nat} {σ : zS} {xs : mS} {xr : Int64} {xa : mA} {xl : mL} {xf : xF} {E : Nat → eN}
def dN (p v : Nat) : eN := (0, nI p, fun _ => none, 0, lN v, 32, 0, 0, 0, none)
theorem c_R_readDigits (h : rPre B N r p z σ xa) {mc ms : Nat} (hmc0 : 2 ≤ mc) (hms0 : 14 ≤ ms) : MetZ G l y_R_readDigits b_R_readDigits 3 (some (.object "SoleArrays$Expression")) [] 8 mc ms [.ref r] (B + 2 * N) (xOv xs xr xa xl xf (eOv B N E σ))
    (fun o n' σ' => o = .returned (some (.ref (B + 2 * N))) ∧ n' = B + 2 * (N + 1) ∧ σ' = xOv xs xr xa xl xf (eOv B (N + 1) (va_up E N (dN p (rDigs (xa 1) z 4 p 0).2)) (va_up σ r (rdC (rDigs (xa 1) z 4 p 0).1 z)))) := by
  obtain ⟨hr, hrB, hB, hrd0, hz, hp, hN, hc⟩ := h
  have hrd : xOv xs xr xa xl xf (eOv B N E σ) r = .inr (4, [.ref 1, .int (nI z), .ref 2, .int (nI p)]) := (xOv_at (by omega)).trans ((eOv_lo hrB).trans hrd0)
  refine MetZ.of (by decide) (Nat.le_of_ble_eq_true rfl) (fun K hK hR hpo hmc hms C => ?_)
  have loop : ∀ (m k q v : Nat), m + k = 4 → q ≤ z → rDigs (xa 1) z m q v = rDigs (xa 1) z 4 p 0 → Z G K (B + 2 * (N + 1)) (xOv xs xr xa xl xf (eOv B (N + 1) (va_up E N (dN p v)) (va_up σ r (rdC q z)))) 2 14 17 [(2, .int (nI k)), (1, .ref (B + 2 * N)), (0, .ref r)] [] := fun m => by
    induction m with
    | zero =>
      intro k q v hk hq hd
      refine z_iload_n C 18 d_R_readDigits_17 rfl rfl ?_
      refine z_iconst C 19 d_R_readDigits_18 rfl 4 (by decide) ?_
      refine z_icmp_ge C 22 61 d_R_readDigits_19 rfl (by decide) (fun _ => ?_) (fun h9 => absurd ((nI_leI (a := 4) (by omega) (by omega)).mpr (by omega)) h9)
      refine z_aload_n C 62 d_R_readDigits_61 rfl rfl ?_
      exact z_aret C rfl d_R_readDigits_62 (by rw [hpo]; exact ⟨rfl, rfl, by rw [← hd]; rfl⟩) (by rw [hmc]; omega) (by rw [hms]; omega)
    | succ m ih =>
      intro k q v hk hq hd
      have hrq : eOv B (N + 1) (va_up E N (dN p v)) (va_up σ r (rdC q z)) r = rdC q z := (eOv_lo hrB).trans (va_up_self _ _ _)
      have hrq2 : xOv xs xr xa xl xf (eOv B (N + 1) (va_up E N (dN p v)) (va_up σ r (rdC q z))) r = .inr (4, [.ref 1, .int (nI z), .ref 2, .int (nI q)]) := (xOv_at (by omega)).trans hrq
      have hob : xOv xs xr xa xl xf (eOv B (N + 1) (va_up E N (dN p v)) (va_up σ r (rdC q z))) (B + 2 * N) = eCell B N (dN p v) := (xOv_at (by omega)).trans ((eOv_obj (Nat.lt_succ_self N)).trans (by rw [va_up_self]))
      refine z_iload_n C 18 d_R_readDigits_17 rfl rfl ?_
      refine z_iconst C 19 d_R_readDigits_18 rfl 4 (by decide) ?_
      refine z_icmp_ge C 22 61 d_R_readDigits_19 rfl (by decide) (fun h9 => absurd h9 (fun w => absurd ((nI_leI (a := 4) (by omega) (by omega)).mp w) (by omega))) (fun _ => ?_)
      refine z_aload_n C 23 d_R_readDigits_22 rfl rfl ?_
      refine z_bipush C 25 d_R_readDigits_23 rfl 48 (by decide) ?_
      refine z_bipush C 27 d_R_readDigits_25 rfl 57 (by decide) ?_
      refine z_call C 30 (c_R_nextIsOneOf (by omega) (by omega) (by omega) hrq hz (by omega) hc 48 57) w_R_nextIsOneOf ini_R d_R_readDigits_27 rfl (z_goV (As := [.int 48, .int 57]) C l_R_74 w_R_nextIsOneOf d_R_readDigits_27 (by omega) (hrq2) rfl rfl) (Nat.le_of_ble_eq_true rfl) (by rw [hR]; simp only [zRm]; omega) (by rw [hR]; simp only [zRm]; omega) (by rw [hR]; simp only [zRm]; omega) (by rw [hR]; simp only [zRm]; omega) (fun v n' σ' hv => ?_) (fun x n' σ' hv => ?_)
      · obtain ⟨e0, e1, rfl⟩ := hv
        subst e1
        by_cases hg : 48 ≤ rlk (xa 1) z q ∧ rlk (xa 1) z q ≤ 57
        · rw [show (if (48 : Int32) ≤ xlk xa q z ∧ xlk xa q z ≤ 57 then (1 : Int32) else 0) = 1 from if_pos hg] at e0
          cases e0
          refine z_if_eq C 33 61 d_R_readDigits_30 rfl (by decide) (fun h9 => absurd h9 (show ¬ (1 : Int32) = 0 by decide)) (fun _ => ?_)
          refine z_aload_n C 34 d_R_readDigits_33 rfl rfl ?_
          refine z_aload_n C 35 d_R_readDigits_34 rfl rfl ?_
          refine z_get C 38 f_R_129 d_R_readDigits_35 rfl (by omega) hob rfl ?_
          refine z_ldc2 C 41 10 d_R_readDigits_38 rfl kl_133 ?_
          refine z_lmul C 42 d_R_readDigits_41 rfl ?_
          refine z_aload_n C 43 d_R_readDigits_42 rfl rfl ?_
          refine z_bipush C 45 d_R_readDigits_43 rfl 48 (by decide) ?_
          refine z_bipush C 47 d_R_readDigits_45 rfl 57 (by decide) ?_
          refine z_call C 50 (c_R_takeOneOf (by omega) (by omega) (by omega) (by omega) hrq hz (by omega) hc 48 57 (mc := 0) (ms := 0) (fun w => absurd hg w)) w_R_takeOneOf ini_R d_R_readDigits_47 rfl (z_goV (As := [.int 48, .int 57]) C l_R_28 w_R_takeOneOf d_R_readDigits_47 (by omega) (hrq2) rfl rfl) (Nat.le_of_ble_eq_true rfl) (by rw [hR]; simp only [zRm]; omega) (by rw [hR]; simp only [zRm]; omega) (by rw [hR]; simp only [zRm]; omega) (by rw [hR]; simp only [zRm]; omega) (fun v n' σ' hv => ?_) (fun x n' σ' hv => ?_)
          · rcases hv with ⟨-, e0, rfl, rfl⟩ | ⟨w, -⟩
            · cases e0
              obtain ⟨dg, hdg, -, ed⟩ := let_c (a := 48) (b := 57) (by omega) (by omega) hg.1 hg.2
              have ed : xlk xa q z - 48 = nI dg := ed
              have ev : lN v * 10 + (nI dg).toInt64 = lN (10 * v + dg) := by
                rw [nI_l (by omega)]
                show Int64.ofNat v * Int64.ofNat 10 + Int64.ofNat dg = Int64.ofNat (10 * v + dg)
                rw [Int64.ofNat_add, Int64.ofNat_mul, Int64.mul_comm]
              rw [eOv_low hrB, va_up2, ed]
              refine z_i2l C 51 d_R_readDigits_50 rfl ?_
              refine z_ladd C 52 d_R_readDigits_51 rfl ?_
              have hob2 : xOv xs xr xa xl xf (eOv B (N + 1) (va_up E N (dN p v)) (va_up σ r (rdC (q + 1) z))) (B + 2 * N) = eCell B N (dN p v) := (xOv_at (by omega)).trans ((eOv_obj (Nat.lt_succ_self N)).trans (by rw [va_up_self]))
              refine z_put C 55 p_R_129 d_R_readDigits_52 rfl (by omega) hob2 (z_ltb rfl) rfl rfl ?_
              rw [xOv_up (by omega)]
              show Z G K _ (xOv _ _ _ _ _ (va_up _ _ (.inr (3, [.ref (1000001 + 0), .int (nI p), .ref (B + 2 * N + 1), .int (nI 0), .long (lN v * 10 + (nI dg).toInt64), .int 32, .int 0, .int 0, .int 0, va_rf none])))) _ _ _ _ _
              rw [ev, show (.inr (3, [.ref (1000001 + 0), .int (nI p), .ref (B + 2 * N + 1), .int (nI 0), .long (lN (10 * v + dg)), .int 32, .int 0, .int 0, .int 0, va_rf none]) : va_E) = eCell B N (dN p (10 * v + dg)) from rfl, eOv_upO (Nat.lt_succ_self N) (by rw [va_up_self]; rfl), va_up2]
              refine z_iinc C 58 d_R_readDigits_55 rfl (nI (k + 1)) rfl (z_inc k) (by decide) ?_
              refine z_goto C 17 d_R_readDigits_58 (by decide) ?_
              refine ih (k + 1) (q + 1) (10 * v + dg) (by omega) (rlk_pos hg.1 (by decide)) ?_
              rw [← hd]
              conv => rhs; unfold rDigs
              rw [if_pos hg, show rlk (xa 1) z q - 48 = nI dg from ed, nI_clamp (by omega)]
            · exact absurd hg w
          · rcases hv with ⟨-, e0, -⟩ | ⟨w, -⟩
            · cases e0
            · exact absurd hg w
        · rw [show (if (48 : Int32) ≤ xlk xa q z ∧ xlk xa q z ≤ 57 then (1 : Int32) else 0) = 0 from if_neg hg] at e0
          cases e0
          refine z_if_eq C 33 61 d_R_readDigits_30 rfl (by decide) (fun _ => ?_) (fun h9 => absurd (show (0 : Int32) = 0 from rfl) h9)
          refine z_aload_n C 62 d_R_readDigits_61 rfl rfl ?_
          exact z_aret C rfl d_R_readDigits_62 (by rw [hpo]; exact ⟨rfl, rfl, by rw [← hd, rDigs, if_neg hg]⟩) (by rw [hmc]; omega) (by rw [hms]; omega)
      · cases hv.1
  refine z_new C 3 n_R_121 d_R_readDigits_0 rfl (by omega) (by rw [hR]; simp only [zRm]; omega) (by rw [hR]; simp only [zRm]; omega) ?_
  refine z_dup C 4 d_R_readDigits_3 rfl rfl ?_
  refine z_getsF C 7 0 (by decide) sf_123 d_R_readDigits_4 rfl ?_
  refine z_aload_n C 8 d_R_readDigits_7 rfl rfl ?_
  refine z_get C 11 f_R_9 d_R_readDigits_8 rfl (by omega) ((va_up_ne _ _ (by omega)).trans hrd) rfl ?_
  refine z_call C 14 (c_E_init (by omega) (by omega) 0 (nI p)) w_E_init ini_E d_R_readDigits_11 rfl (z_goI (As := [.ref (1000001 + 0), .int (nI p)]) C l_R_126 w_E_init d_R_readDigits_11 rfl) (Nat.le_of_ble_eq_true rfl) (by rw [hR]; simp only [zRm]; omega) (by rw [hR]; simp only [zRm]; omega) (by rw [hR]; simp only [zRm]; omega) (by rw [hR]; simp only [zRm]; omega) (fun v n' σ' hv => ?_) (fun x n' σ' hv => ?_)
  · obtain ⟨e0, e1, rfl⟩ := hv
    cases e0
    have e1 : n' = B + 2 * (N + 1) := e1
    subst e1
    have k := loop 4 0 p 0 rfl hp rfl
    rw [va_same hrd0] at k
    refine z_astore_n C 15 d_R_readDigits_14 rfl (by decide) ?_
    refine z_iconst C 16 d_R_readDigits_15 rfl 0 (by decide) ?_
    refine z_istore_n C 17 d_R_readDigits_16 rfl (by decide) ?_
    exact Z.widen (by omega) (by omega) k
  · cases hv.1
end LF
