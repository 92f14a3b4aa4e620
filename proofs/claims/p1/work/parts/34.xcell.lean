section XCE
variable {G : zG} {l : Launch} {n : Nat} {xs : mS} {xr : Int64} {xa : mA} {xl : mL} {xf : xF} {σ : zS}
/-- is there a number at i, j of the array a -/
def xhas (xa : mA) (a : Nat) (i j : Int64) : Prop := 0 ≤ i ∧ i < (xa 7 a).toInt64 ∧ 0 ≤ j ∧ j < (xa 8 a).toInt64
theorem c_O_has (hn : 85 ≤ n) {a : Nat} (ha : a < 8) (i j : Int64) : MetZ G l y_O_has b_O_has 6 (some .boolean) [] 0 0 0 [.ref 6, .int (nI a), .long i, .long j] n (xOv xs xr xa xl xf σ) (fun o n' σ' => ((xhas xa a i j ∧ o = .returned (some (.int 1))) ∨ (¬ xhas xa a i j ∧ o = .returned (some (.int 0)))) ∧ n' = n ∧ σ' = xOv xs xr xa xl xf σ) := by
  refine MetZ.of (by decide) (Nat.le_of_ble_eq_true rfl) (fun K hK hR hpo hmc hms C => ?_)
  have no : ¬ xhas xa a i j → ∀ lv, Z G K n (xOv xs xr xa xl xf σ) 0 0 42 lv [] := fun h lv => by
    refine z_iconst C 43 d_O_has_42 rfl 0 (by decide) ?_
    exact z_zret C rfl (rfl) d_O_has_43 (by rw [hpo]; exact ⟨Or.inr ⟨h, rfl⟩, rfl, rfl⟩) (by rw [hmc]; omega) (by rw [hms]; omega)
  refine z_lload_n C 1 d_O_has_0 rfl rfl ?_
  refine z_lconst C 2 d_O_has_1 rfl 0 (by decide) ?_
  refine z_lcmp C 3 d_O_has_2 rfl ?_
  refine z_if_lt C 6 42 d_O_has_3 rfl (by decide) (fun h1 => ?_) (fun h1 => ?_)
  · exact no (fun q => Int64.not_lt.mpr q.1 ((lg_cmp_lt _ _).mp h1)) _
  refine z_lload_n C 7 d_O_has_6 rfl rfl ?_
  refine z_aload_n C 8 d_O_has_7 rfl rfl ?_
  refine z_get C 11 f_O_9 d_O_has_8 rfl (by omega) rfl rfl ?_
  refine z_iload_n C 12 d_O_has_11 rfl rfl ?_
  refine z_iald C 13 a d_O_has_12 rfl (by omega) rfl rfl (by show a < 8; exact ha) (by decide) ?_
  refine z_i2l C 14 d_O_has_13 rfl ?_
  refine z_lcmp C 15 d_O_has_14 rfl ?_
  refine z_if_ge C 18 42 d_O_has_15 rfl (by decide) (fun h2 => ?_) (fun h2 => ?_)
  · exact no (fun q => Int64.not_lt.mpr ((lg_cmp_ge _ _).mp h2) q.2.1) _
  refine z_lload C 20 d_O_has_18 rfl rfl ?_
  refine z_lconst C 21 d_O_has_20 rfl 0 (by decide) ?_
  refine z_lcmp C 22 d_O_has_21 rfl ?_
  refine z_if_lt C 25 42 d_O_has_22 rfl (by decide) (fun h3 => ?_) (fun h3 => ?_)
  · exact no (fun q => Int64.not_lt.mpr q.2.2.1 ((lg_cmp_lt _ _).mp h3)) _
  refine z_lload C 27 d_O_has_25 rfl rfl ?_
  refine z_aload_n C 28 d_O_has_27 rfl rfl ?_
  refine z_get C 31 f_O_15 d_O_has_28 rfl (by omega) rfl rfl ?_
  refine z_iload_n C 32 d_O_has_31 rfl rfl ?_
  refine z_iald C 33 a d_O_has_32 rfl (by omega) rfl rfl (by show a < 8; exact ha) (by decide) ?_
  refine z_i2l C 34 d_O_has_33 rfl ?_
  refine z_lcmp C 35 d_O_has_34 rfl ?_
  refine z_if_ge C 38 42 d_O_has_35 rfl (by decide) (fun h4 => ?_) (fun h4 => ?_)
  · exact no (fun q => Int64.not_lt.mpr ((lg_cmp_ge _ _).mp h4) q.2.2.2) _
  refine z_iconst C 39 d_O_has_38 rfl 1 (by decide) ?_
  refine z_goto C 43 d_O_has_39 (by decide) ?_
  exact z_zret C rfl (rfl) d_O_has_43 (by rw [hpo]; exact ⟨Or.inl ⟨⟨Int64.not_lt.mp (fun q => h1 ((lg_cmp_lt _ _).mpr q)), Int64.not_le.mp (fun q => h2 ((lg_cmp_ge _ _).mpr q)), Int64.not_lt.mp (fun q => h3 ((lg_cmp_lt _ _).mpr q)), Int64.not_le.mp (fun q => h4 ((lg_cmp_ge _ _).mpr q))⟩, rfl⟩, rfl, rfl⟩) (by rw [hmc]; omega) (by rw [hms]; omega)
theorem c_O_indexOf (hn : 85 ≤ n) (hn2 : n < 1000000) {a : Nat} (ha : a < 8) (i j : Int64) : MetZ G l y_O_indexOf b_O_indexOf 6 (some .int) [] 6 1 6 [.ref 6, .int (nI a), .long i, .long j] n (xOv xs xr xa xl xf σ) (fun o n' σ' => (xhas xa a i j ∧ o = .returned (some (.int (i * (xa 8 a).toInt64 + j).toInt32)) ∧ n' = n ∧ σ' = xOv xs xr xa xl xf σ) ∨ (¬ xhas xa a i j ∧ o = .threw n ∧ n' = n + 1 ∧ σ' = va_up (xOv xs xr xa xl xf σ) n (.inr (11, [])))) := by
  refine MetZ.of (by decide) (Nat.le_of_ble_eq_true rfl) (fun K hK hR hpo hmc hms C => ?_)
  refine z_aload_n C 1 d_O_indexOf_0 rfl rfl ?_
  refine z_iload_n C 2 d_O_indexOf_1 rfl rfl ?_
  refine z_lload_n C 3 d_O_indexOf_2 rfl rfl ?_
  refine z_lload C 5 d_O_indexOf_3 rfl rfl ?_
  refine z_call C 8 (c_O_has hn ha i j) w_O_has ini_O d_O_indexOf_5 rfl (z_goV (As := [.int (nI a), .long i, .long j]) C l_O_83 w_O_has d_O_indexOf_5 (by omega) rfl rfl rfl) (Nat.le_of_ble_eq_true rfl) (by rw [hR]; simp only [zRm]; omega) (by rw [hR]; simp only [zRm]; omega) (by rw [hR]; simp only [zRm]; omega) (by rw [hR]; simp only [zRm]; omega) (fun v n' σ' hv => ?_) (fun x n' σ' hv => ?_)
  · obtain ⟨hv, rfl, rfl⟩ := hv
    rcases hv with ⟨hh, hv⟩ | ⟨hh, hv⟩
    · cases hv
      refine z_if_ne C 11 21 d_O_indexOf_8 rfl (by decide) (fun _ => ?_) (fun h9 => absurd h9 (show ¬ (1 : Int32) = 0 by decide))
      refine z_lload_n C 22 d_O_indexOf_21 rfl rfl ?_
      refine z_aload_n C 23 d_O_indexOf_22 rfl rfl ?_
      refine z_get C 26 f_O_15 d_O_indexOf_23 rfl (by omega) rfl rfl ?_
      refine z_iload_n C 27 d_O_indexOf_26 rfl rfl ?_
      refine z_iald C 28 a d_O_indexOf_27 rfl (by omega) rfl rfl (by show a < 8; exact ha) (by decide) ?_
      refine z_i2l C 29 d_O_indexOf_28 rfl ?_
      refine z_lmul C 30 d_O_indexOf_29 rfl ?_
      refine z_lload C 32 d_O_indexOf_30 rfl rfl ?_
      refine z_ladd C 33 d_O_indexOf_32 rfl ?_
      refine z_l2i C 34 d_O_indexOf_33 rfl ?_
      exact z_iret C rfl d_O_indexOf_34 (by rw [hpo]; exact Or.inl ⟨hh, rfl, rfl, rfl⟩) (by rw [hmc]; omega) (by rw [hms]; omega)
    · cases hv
      refine z_if_ne C 11 21 d_O_indexOf_8 rfl (by decide) (fun h9 => absurd (show (0 : Int32) = 0 from rfl) h9) (fun _ => ?_)
      exact z_throwS C (ci := 11) (names := zNm) (text := "no number there") rfl (by decide) zNm_fit cl_O_87 ini_e3 (by decide) at_O_91 d_O_indexOf_11 d_O_indexOf_14 d_O_indexOf_15 d_O_indexOf_17 d_O_indexOf_20 (fun h hh => nomatch hh) (by rw [hR]; show 2 + 3 < _; simp only [zRm]; omega) (by rw [hR]; show _ + (13 * (2 + 1) + 43) ≤ _; simp only [zRm]; exact Nat.le_of_ble_eq_true rfl) (by omega) (by rw [hR]; simp only [zRm]; omega) (by rw [hR]; simp only [zRm]; omega) (by rw [hmc]; omega) (by rw [hms]; omega) (by rw [hpo]; exact Or.inr ⟨hh, rfl, rfl, rfl⟩)
  · obtain ⟨hv, -⟩ := hv
    rcases hv with ⟨-, hv⟩ | ⟨-, hv⟩ <;> cases hv
/-- a row's or table's cells -/
theorem c_O_numberAt (hn : 85 ≤ n) (hn2 : n < 1000000) {a k : Nat} (ha : a < 8) (i j : Int64) (hh : xhas xa a i j) (hk : (i * (xa 8 a).toInt64 + j).toInt32 = nI k) (hk2 : k < 40) : MetZ G l y_O_numberAt b_O_numberAt 6 (some .long) [] 7 1 6 [.ref 6, .int (nI a), .long i, .long j] n (xOv xs xr xa xl xf σ) (fun o n' σ' => o = .returned (some (.long (xl (10 + a) k))) ∧ n' = n ∧ σ' = xOv xs xr xa xl xf σ) := by
  refine MetZ.of (by decide) (Nat.le_of_ble_eq_true rfl) (fun K hK hR hpo hmc hms C => ?_)
  refine z_aload_n C 1 d_O_numberAt_0 rfl rfl ?_
  refine z_get C 4 f_O_27 d_O_numberAt_1 rfl (by omega) rfl rfl ?_
  refine z_iload_n C 5 d_O_numberAt_4 rfl rfl ?_
  refine z_aald C 6 a (ty := .array .long) (some (10 + a)) d_O_numberAt_5 rfl (by omega) rfl rfl rfl rfl (by omega) (by decide) (by rw [if_pos ha]) ?_
  refine z_aload_n C 7 d_O_numberAt_6 rfl rfl ?_
  refine z_iload_n C 8 d_O_numberAt_7 rfl rfl ?_
  refine z_lload_n C 9 d_O_numberAt_8 rfl rfl ?_
  refine z_lload C 11 d_O_numberAt_9 rfl rfl ?_
  refine z_call C 14 (c_O_indexOf hn hn2 ha i j) w_O_indexOf ini_O d_O_numberAt_11 rfl (z_goV (As := [.int (nI a), .long i, .long j]) C l_O_79 w_O_indexOf d_O_numberAt_11 (by omega) rfl rfl rfl) (Nat.le_of_ble_eq_true rfl) (by rw [hR]; simp only [zRm]; omega) (by rw [hR]; simp only [zRm]; omega) (by rw [hR]; simp only [zRm]; omega) (by rw [hR]; simp only [zRm]; omega) (fun v n' σ' hv => ?_) (fun x n' σ' hv => ?_)
  · rcases hv with ⟨-, hv, rfl, rfl⟩ | ⟨q, -⟩
    · cases hv
      have hL : xIsL (10 + a) := by unfold xIsL; omega
      have hlen : xLen (10 + a) = 40 := by unfold xLen; rw [if_neg (by omega), if_neg (by omega), if_neg (by omega), if_pos (by omega)]
      refine zx_lald C 15 k d_O_numberAt_14 rfl (by omega) hL hk (by rw [hlen]; exact hk2) (by rw [hlen]; decide) ?_
      exact z_lret C rfl d_O_numberAt_15 (by rw [hpo]; exact ⟨rfl, rfl, rfl⟩) (by rw [hmc]; omega) (by rw [hms]; omega)
    · exact absurd hh q
  · rcases hv with ⟨-, hv, -⟩ | ⟨q, -⟩
    · cases hv
    · exact absurd hh q
end XCE
