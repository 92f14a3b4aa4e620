section XC2
variable {G : zG} {l : Launch} {n : Nat} {xs : mS} {xr : Int64} {xa : mA} {xl : mL} {xf : xF} {σ : zS}
/-- the result's array: which it is, its sizes -/
def xRes (xs : mS) (xr : Int64) (xa : mA) (a r c : Nat) : Prop := xr.toInt32 = nI a ∧ a < 8 ∧ xa 7 a = nI r ∧ xa 8 a = nI c ∧ r ≤ 40 ∧ c ≤ 40 ∧ r * c ≤ 40
def xcol (xs : mS) (j : Int32) : Int32 := if xs 3 = 1 then 0 else j
def xcellP (xs : mS) (r c : Nat) (i j : Int32) : Prop := (xs 3 = 1 ∨ xs 3 = 2) ∧ ¬ i < 0 ∧ i < nI r ∧ ¬ xcol xs j < 0 ∧ xcol xs j < nI c
theorem z_i64 {x y : Int32} : x.toInt64 < y.toInt64 ↔ x < y := by
  rw [Int64.lt_iff_toInt_lt, Int32.lt_iff_toInt_lt, Int32.toInt_toInt64, Int32.toInt_toInt64]
theorem z_i64le {x y : Int32} : x.toInt64 ≤ y.toInt64 ↔ x ≤ y := by
  rw [Int64.le_iff_toInt_le, Int32.le_iff_toInt_le, Int32.toInt_toInt64, Int32.toInt_toInt64]
theorem c_S_cell (hn : 85 ≤ n) (hn2 : n < 1000000) (i j : Int32) (a r c : Nat) (hA : (xs 3 = 1 ∨ xs 3 = 2) → xRes xs xr xa a r c) : MetZ G l y_S_cell b_S_cell 5 (some .long) [] 8 1 6 [.ref 0, .int i, .int j] n (xOv xs xr xa xl xf σ) (fun o n' σ' => ((xcellP xs r c i j ∧ o = .returned (some (.long (xl (10 + a) (i.toNatClampNeg * c + (xcol xs j).toNatClampNeg))))) ∨ (¬ xcellP xs r c i j ∧ o = .returned (some (.long 0)))) ∧ n' = n ∧ σ' = xOv xs xr xa xl xf σ) := by
  refine MetZ.of (by decide) (Nat.le_of_ble_eq_true rfl) (fun K hK hR hpo hmc hms C => ?_)
  refine z_aload_n C 1 d_S_cell_0 rfl rfl ?_
  refine z_get C 4 f_S_47 d_S_cell_1 rfl (by omega) rfl rfl ?_
  refine z_call C 7 (c_S_isArray (xs 3)) w_S_isArray ini_S d_S_cell_4 rfl (z_goS (As := [.int (xs 3)]) C l_S_97 w_S_isArray nm_S_isArray d_S_cell_4 rfl) (Nat.le_of_ble_eq_true rfl) (by rw [hR]; simp only [zRm]; omega) (by rw [hR]; simp only [zRm]; omega) (by rw [hR]; simp only [zRm]; omega) (by rw [hR]; simp only [zRm]; omega) (fun v n' σ' hv => ?_) (fun x n' σ' hv => ?_)
  · obtain ⟨hv, e1, rfl⟩ := hv
    obtain rfl : n = n' := e1.symm
    cases hv
    refine z_if_ne C 10 12 d_S_cell_7 rfl (by decide) (fun h1 => ?_) (fun h1 => ?_)
    · have h2 : xs 3 = 1 ∨ xs 3 = 2 := by
        rcases Classical.em (xs 3 = 1 ∨ xs 3 = 2) with h | h
        · exact h
        · rw [if_neg h] at h1
          exact absurd rfl h1
      obtain ⟨a1, a2, a3, a4, a5, a6, a7⟩ := hA h2
      have go : Z G K n (xOv xs xr xa xl xf σ) 0 0 33 [(4, .int (xcol xs j)), (3, .int xr.toInt32), (0, .ref 0), (1, .int i), (2, .int j)] [] := by
        rw [a1]
        have hP : xhas xa a i.toInt64 (xcol xs j).toInt64 ↔ (¬ i < 0 ∧ i < nI r ∧ ¬ xcol xs j < 0 ∧ xcol xs j < nI c) := by
          unfold xhas
          rw [a3, a4, show (0 : Int64) = (0 : Int32).toInt64 from rfl, z_i64le, z_i64le, z_i64, z_i64, Int32.not_lt, Int32.not_lt]
        refine z_aload_n C 34 d_S_cell_33 rfl rfl ?_
        refine z_get C 37 f_S_33 d_S_cell_34 rfl (by omega) rfl rfl ?_
        refine z_get C 40 f_S_101 d_S_cell_37 rfl (by omega) rfl rfl ?_
        refine z_iload_n C 41 d_S_cell_40 rfl rfl ?_
        refine z_iload_n C 42 d_S_cell_41 rfl rfl ?_
        refine z_i2l C 43 d_S_cell_42 rfl ?_
        refine z_iload C 45 d_S_cell_43 rfl rfl ?_
        refine z_i2l C 46 d_S_cell_45 rfl ?_
        refine z_call C 49 (c_O_has hn a2 _ _) w_O_has ini_O d_S_cell_46 rfl (z_goV (As := [.int (nI a), .long i.toInt64, .long (xcol xs j).toInt64]) C l_S_114 w_O_has d_S_cell_46 (by omega) rfl rfl rfl) (Nat.le_of_ble_eq_true rfl) (by rw [hR]; simp only [zRm]; omega) (by rw [hR]; simp only [zRm]; omega) (by rw [hR]; simp only [zRm]; omega) (by rw [hR]; simp only [zRm]; omega) (fun v n' σ' hv => ?_) (fun x n' σ' hv => ?_)
        · obtain ⟨hv, e1, rfl⟩ := hv
          obtain rfl : n = n' := e1.symm
          rcases hv with ⟨hh, hv⟩ | ⟨hh, hv⟩
          · cases hv
            refine z_if_eq C 52 71 d_S_cell_49 rfl (by decide) (fun h9 => absurd h9 (show ¬ (1 : Int32) = 0 by decide)) (fun _ => ?_)
            obtain ⟨b1, b2, b3, b4⟩ := hP.mp hh
            obtain ⟨ii, hi, ei⟩ := nI_of b1
            obtain ⟨jj, hj, ej⟩ := nI_of b3
            have hi2 : ii < r := by rw [ei] at b2; exact (nI_ltI hi (by omega)).mp b2
            have hj2 : jj < c := by rw [ej] at b4; exact (nI_ltI hj (by omega)).mp b4
            have hb : ii * c + jj < 40 := by
              have h1 : (ii + 1) * c ≤ r * c := Nat.mul_le_mul_right c hi2
              rw [Nat.succ_mul] at h1
              omega
            have ek : (i.toInt64 * (xa 8 a).toInt64 + (xcol xs j).toInt64).toInt32 = nI (ii * c + jj) := by
              rw [a4, ei, ej, nI_l hi, nI_l (by omega), nI_l hj, lN_mul, lN_add, lN_i]
            refine z_aload_n C 53 d_S_cell_52 rfl rfl ?_
            refine z_get C 56 f_S_33 d_S_cell_53 rfl (by omega) rfl rfl ?_
            refine z_get C 59 f_S_101 d_S_cell_56 rfl (by omega) rfl rfl ?_
            refine z_iload_n C 60 d_S_cell_59 rfl rfl ?_
            refine z_iload_n C 61 d_S_cell_60 rfl rfl ?_
            refine z_i2l C 62 d_S_cell_61 rfl ?_
            refine z_iload C 64 d_S_cell_62 rfl rfl ?_
            refine z_i2l C 65 d_S_cell_64 rfl ?_
            refine z_call C 68 (c_O_numberAt hn hn2 a2 _ _ hh ek hb) w_O_numberAt ini_O d_S_cell_65 rfl (z_goV (As := [.int (nI a), .long i.toInt64, .long (xcol xs j).toInt64]) C l_S_118 w_O_numberAt d_S_cell_65 (by omega) rfl rfl rfl) (Nat.le_of_ble_eq_true rfl) (by rw [hR]; simp only [zRm]; omega) (by rw [hR]; simp only [zRm]; omega) (by rw [hR]; simp only [zRm]; omega) (by rw [hR]; simp only [zRm]; omega) (fun v n' σ' hv => ?_) (fun x n' σ' hv => ?_)
            · obtain ⟨hv, e1, rfl⟩ := hv
              obtain rfl : n = n' := e1.symm
              cases hv
              refine z_goto C 72 d_S_cell_68 (by decide) ?_
              exact z_lret C rfl d_S_cell_72 (by rw [hpo]; exact ⟨Or.inl ⟨⟨h2, b1, b2, b3, b4⟩, by rw [ei, ej, nI_clamp hi, nI_clamp hj]⟩, rfl, rfl⟩) (by rw [hmc]; omega) (by rw [hms]; omega)
            · exact absurd hv.1 (by simp)
          · cases hv
            refine z_if_eq C 52 71 d_S_cell_49 rfl (by decide) (fun _ => ?_) (fun h9 => absurd (show (0 : Int32) = 0 from rfl) h9)
            refine z_lconst C 72 d_S_cell_71 rfl 0 (by decide) ?_
            exact z_lret C rfl d_S_cell_72 (by rw [hpo]; exact ⟨Or.inr ⟨fun q => hh (hP.mpr q.2), rfl⟩, rfl, rfl⟩) (by rw [hmc]; omega) (by rw [hms]; omega)
        · obtain ⟨hv, -⟩ := hv
          rcases hv with ⟨-, hv⟩ | ⟨-, hv⟩ <;> cases hv
      refine z_aload_n C 13 d_S_cell_12 rfl rfl ?_
      refine z_get C 16 f_S_50 d_S_cell_13 rfl (by omega) rfl rfl ?_
      refine z_l2i C 17 d_S_cell_16 rfl ?_
      refine z_istore_n C 18 d_S_cell_17 rfl (by decide) ?_
      refine z_aload_n C 19 d_S_cell_18 rfl rfl ?_
      refine z_get C 22 f_S_47 d_S_cell_19 rfl (by omega) rfl rfl ?_
      refine z_iconst C 23 d_S_cell_22 rfl 1 (by decide) ?_
      refine z_icmp_ne C 26 30 d_S_cell_23 rfl (by decide) (fun hk => ?_) (fun hk => ?_)
      · refine z_iload_n C 31 d_S_cell_30 rfl rfl ?_
        refine z_istore C 33 d_S_cell_31 rfl (by decide) ?_
        rw [show xcol xs j = j from if_neg hk] at go
        exact go
      · refine z_iconst C 27 d_S_cell_26 rfl 0 (by decide) ?_
        refine z_goto C 31 d_S_cell_27 (by decide) ?_
        refine z_istore C 33 d_S_cell_31 rfl (by decide) ?_
        rw [show xcol xs j = 0 from if_pos hk] at go
        exact go
    · refine z_lconst C 11 d_S_cell_10 rfl 0 (by decide) ?_
      exact z_lret C rfl d_S_cell_11 (by rw [hpo]; exact ⟨Or.inr ⟨fun q => by rw [if_pos q.1] at h1; exact absurd h1 (by decide), rfl⟩, rfl, rfl⟩) (by rw [hmc]; omega) (by rw [hms]; omega)
  · exact absurd hv.1 (by simp)
end XC2
