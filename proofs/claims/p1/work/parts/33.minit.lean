theorem d_M_init_0 : decode b_M_init 0 = .ok (.aload_n 0, 1) := by decide +kernel
theorem d_M_init_1 : decode b_M_init 1 = .ok (.invokespecial 1, 3) := by decide +kernel
theorem d_M_init_4 : decode b_M_init 4 = .ok (.aload_n 0, 1) := by decide +kernel
theorem d_M_init_5 : decode b_M_init 5 = .ok (.sipush 150, 3) := by decide +kernel
theorem d_M_init_8 : decode b_M_init 8 = .ok (.newarray .char, 2) := by decide +kernel
theorem d_M_init_10 : decode b_M_init 10 = .ok (.putfield 7, 3) := by decide +kernel
theorem d_M_init_13 : decode b_M_init 13 = .ok (.aload_n 0, 1) := by decide +kernel
theorem d_M_init_14 : decode b_M_init 14 = .ok (.iconst (-1), 1) := by decide +kernel
theorem d_M_init_15 : decode b_M_init 15 = .ok (.putfield 13, 3) := by decide +kernel
theorem d_M_init_18 : decode b_M_init 18 = .ok (.aload_n 0, 1) := by decide +kernel
theorem d_M_init_19 : decode b_M_init 19 = .ok (.sipush 1350, 3) := by decide +kernel
theorem d_M_init_22 : decode b_M_init 22 = .ok (.newarray .int, 2) := by decide +kernel
theorem d_M_init_24 : decode b_M_init 24 = .ok (.putfield 17, 3) := by decide +kernel
theorem d_M_init_27 : decode b_M_init 27 = .ok (.aload_n 0, 1) := by decide +kernel
theorem d_M_init_28 : decode b_M_init 28 = .ok (.sipush 1350, 3) := by decide +kernel
theorem d_M_init_31 : decode b_M_init 31 = .ok (.newarray .int, 2) := by decide +kernel
theorem d_M_init_33 : decode b_M_init 33 = .ok (.putfield 21, 3) := by decide +kernel
theorem d_M_init_36 : decode b_M_init 36 = .ok (.aload_n 0, 1) := by decide +kernel
theorem d_M_init_37 : decode b_M_init 37 = .ok (.sipush 1350, 3) := by decide +kernel
theorem d_M_init_40 : decode b_M_init 40 = .ok (.newarray .int, 2) := by decide +kernel
theorem d_M_init_42 : decode b_M_init 42 = .ok (.putfield 24, 3) := by decide +kernel
theorem d_M_init_45 : decode b_M_init 45 = .ok (.aload_n 0, 1) := by decide +kernel
theorem d_M_init_46 : decode b_M_init 46 = .ok (.sipush 1350, 3) := by decide +kernel
theorem d_M_init_49 : decode b_M_init 49 = .ok (.newarray .int, 2) := by decide +kernel
theorem d_M_init_51 : decode b_M_init 51 = .ok (.putfield 27, 3) := by decide +kernel
theorem d_M_init_54 : decode b_M_init 54 = .ok (.aload_n 0, 1) := by decide +kernel
theorem d_M_init_55 : decode b_M_init 55 = .ok (.sipush 1350, 3) := by decide +kernel
theorem d_M_init_58 : decode b_M_init 58 = .ok (.newarray .int, 2) := by decide +kernel
theorem d_M_init_60 : decode b_M_init 60 = .ok (.putfield 30, 3) := by decide +kernel
theorem d_M_init_63 : decode b_M_init 63 = .ok (.aload_n 0, 1) := by decide +kernel
theorem d_M_init_64 : decode b_M_init 64 = .ok (.bipush 9, 2) := by decide +kernel
theorem d_M_init_66 : decode b_M_init 66 = .ok (.newarray .boolean, 2) := by decide +kernel
theorem d_M_init_68 : decode b_M_init 68 = .ok (.putfield 33, 3) := by decide +kernel
theorem d_M_init_71 : decode b_M_init 71 = .ok (.aload_n 0, 1) := by decide +kernel
theorem d_M_init_72 : decode b_M_init 72 = .ok (.bipush 9, 2) := by decide +kernel
theorem d_M_init_74 : decode b_M_init 74 = .ok (.newarray .int, 2) := by decide +kernel
theorem d_M_init_76 : decode b_M_init 76 = .ok (.putfield 37, 3) := by decide +kernel
theorem d_M_init_79 : decode b_M_init 79 = .ok (.aload_n 0, 1) := by decide +kernel
theorem d_M_init_80 : decode b_M_init 80 = .ok (.bipush 9, 2) := by decide +kernel
theorem d_M_init_82 : decode b_M_init 82 = .ok (.newarray .int, 2) := by decide +kernel
theorem d_M_init_84 : decode b_M_init 84 = .ok (.putfield 40, 3) := by decide +kernel
theorem d_M_init_87 : decode b_M_init 87 = .ok (.aload_n 0, 1) := by decide +kernel
theorem d_M_init_88 : decode b_M_init 88 = .ok (.bipush 36, 2) := by decide +kernel
theorem d_M_init_90 : decode b_M_init 90 = .ok (.newarray .int, 2) := by decide +kernel
theorem d_M_init_92 : decode b_M_init 92 = .ok (.putfield 43, 3) := by decide +kernel
theorem d_M_init_95 : decode b_M_init 95 = .ok (.aload_n 0, 1) := by decide +kernel
theorem d_M_init_96 : decode b_M_init 96 = .ok (.bipush 36, 2) := by decide +kernel
theorem d_M_init_98 : decode b_M_init 98 = .ok (.newarray .int, 2) := by decide +kernel
theorem d_M_init_100 : decode b_M_init 100 = .ok (.putfield 46, 3) := by decide +kernel
theorem d_M_init_103 : decode b_M_init 103 = .ok (.aload_n 0, 1) := by decide +kernel
theorem d_M_init_104 : decode b_M_init 104 = .ok (.bipush 36, 2) := by decide +kernel
theorem d_M_init_106 : decode b_M_init 106 = .ok (.newarray .int, 2) := by decide +kernel
theorem d_M_init_108 : decode b_M_init 108 = .ok (.putfield 49, 3) := by decide +kernel
theorem d_M_init_111 : decode b_M_init 111 = .ok (.aload_n 0, 1) := by decide +kernel
theorem d_M_init_112 : decode b_M_init 112 = .ok (.bipush 80, 2) := by decide +kernel
theorem d_M_init_114 : decode b_M_init 114 = .ok (.newarray .int, 2) := by decide +kernel
theorem d_M_init_116 : decode b_M_init 116 = .ok (.putfield 52, 3) := by decide +kernel
theorem d_M_init_119 : decode b_M_init 119 = .ok (.aload_n 0, 1) := by decide +kernel
theorem d_M_init_120 : decode b_M_init 120 = .ok (.bipush 80, 2) := by decide +kernel
theorem d_M_init_122 : decode b_M_init 122 = .ok (.newarray .int, 2) := by decide +kernel
theorem d_M_init_124 : decode b_M_init 124 = .ok (.putfield 55, 3) := by decide +kernel
theorem d_M_init_127 : decode b_M_init 127 = .ok (.aload_n 0, 1) := by decide +kernel
theorem d_M_init_128 : decode b_M_init 128 = .ok (.bipush 80, 2) := by decide +kernel
theorem d_M_init_130 : decode b_M_init 130 = .ok (.newarray .int, 2) := by decide +kernel
theorem d_M_init_132 : decode b_M_init 132 = .ok (.putfield 58, 3) := by decide +kernel
theorem d_M_init_135 : decode b_M_init 135 = .ok (.aload_n 0, 1) := by decide +kernel
theorem d_M_init_136 : decode b_M_init 136 = .ok (.bipush 80, 2) := by decide +kernel
theorem d_M_init_138 : decode b_M_init 138 = .ok (.newarray .int, 2) := by decide +kernel
theorem d_M_init_140 : decode b_M_init 140 = .ok (.putfield 61, 3) := by decide +kernel
theorem d_M_init_143 : decode b_M_init 143 = .ok (.aload_n 0, 1) := by decide +kernel
theorem d_M_init_144 : decode b_M_init 144 = .ok (.bipush 80, 2) := by decide +kernel
theorem d_M_init_146 : decode b_M_init 146 = .ok (.newarray .int, 2) := by decide +kernel
theorem d_M_init_148 : decode b_M_init 148 = .ok (.putfield 64, 3) := by decide +kernel
theorem d_M_init_151 : decode b_M_init 151 = .ok (.aload_n 0, 1) := by decide +kernel
theorem d_M_init_152 : decode b_M_init 152 = .ok (.bipush 20, 2) := by decide +kernel
theorem d_M_init_154 : decode b_M_init 154 = .ok (.newarray .int, 2) := by decide +kernel
theorem d_M_init_156 : decode b_M_init 156 = .ok (.putfield 67, 3) := by decide +kernel
theorem d_M_init_159 : decode b_M_init 159 = .ok (.aload_n 0, 1) := by decide +kernel
theorem d_M_init_160 : decode b_M_init 160 = .ok (.sipush 16080, 3) := by decide +kernel
theorem d_M_init_163 : decode b_M_init 163 = .ok (.newarray .long, 2) := by decide +kernel
theorem d_M_init_165 : decode b_M_init 165 = .ok (.putfield 70, 3) := by decide +kernel
theorem d_M_init_168 : decode b_M_init 168 = .ok (.aload_n 0, 1) := by decide +kernel
theorem d_M_init_169 : decode b_M_init 169 = .ok (.sipush 402, 3) := by decide +kernel
theorem d_M_init_172 : decode b_M_init 172 = .ok (.newarray .int, 2) := by decide +kernel
theorem d_M_init_174 : decode b_M_init 174 = .ok (.putfield 74, 3) := by decide +kernel
theorem d_M_init_177 : decode b_M_init 177 = .ok (.aload_n 0, 1) := by decide +kernel
theorem d_M_init_178 : decode b_M_init 178 = .ok (.sipush 402, 3) := by decide +kernel
theorem d_M_init_181 : decode b_M_init 181 = .ok (.newarray .int, 2) := by decide +kernel
theorem d_M_init_183 : decode b_M_init 183 = .ok (.putfield 77, 3) := by decide +kernel
theorem d_M_init_186 : decode b_M_init 186 = .ok (.aload_n 0, 1) := by decide +kernel
theorem d_M_init_187 : decode b_M_init 187 = .ok (.sipush 160, 3) := by decide +kernel
theorem d_M_init_190 : decode b_M_init 190 = .ok (.newarray .long, 2) := by decide +kernel
theorem d_M_init_192 : decode b_M_init 192 = .ok (.putfield 80, 3) := by decide +kernel
theorem d_M_init_195 : decode b_M_init 195 = .ok (.aload_n 0, 1) := by decide +kernel
theorem d_M_init_196 : decode b_M_init 196 = .ok (.sipush 160, 3) := by decide +kernel
theorem d_M_init_199 : decode b_M_init 199 = .ok (.newarray .int, 2) := by decide +kernel
theorem d_M_init_201 : decode b_M_init 201 = .ok (.putfield 83, 3) := by decide +kernel
theorem d_M_init_204 : decode b_M_init 204 = .ok (.aload_n 0, 1) := by decide +kernel
theorem d_M_init_205 : decode b_M_init 205 = .ok (.sipush 400, 3) := by decide +kernel
theorem d_M_init_208 : decode b_M_init 208 = .ok (.newarray .long, 2) := by decide +kernel
theorem d_M_init_210 : decode b_M_init 210 = .ok (.putfield 86, 3) := by decide +kernel
theorem d_M_init_213 : decode b_M_init 213 = .ok (.aload_n 0, 1) := by decide +kernel
theorem d_M_init_214 : decode b_M_init 214 = .ok (.sipush 400, 3) := by decide +kernel
theorem d_M_init_217 : decode b_M_init 217 = .ok (.newarray .int, 2) := by decide +kernel
theorem d_M_init_219 : decode b_M_init 219 = .ok (.putfield 89, 3) := by decide +kernel
theorem d_M_init_222 : decode b_M_init 222 = .ok (.aload_n 0, 1) := by decide +kernel
theorem d_M_init_223 : decode b_M_init 223 = .ok (.iconst 4, 1) := by decide +kernel
theorem d_M_init_224 : decode b_M_init 224 = .ok (.newarray .long, 2) := by decide +kernel
theorem d_M_init_226 : decode b_M_init 226 = .ok (.putfield 92, 3) := by decide +kernel
theorem d_M_init_229 : decode b_M_init 229 = .ok (.aload_n 0, 1) := by decide +kernel
theorem d_M_init_230 : decode b_M_init 230 = .ok (.iconst (-1), 1) := by decide +kernel
theorem d_M_init_231 : decode b_M_init 231 = .ok (.putfield 95, 3) := by decide +kernel
theorem d_M_init_234 : decode b_M_init 234 = .ok (.aload_n 0, 1) := by decide +kernel
theorem d_M_init_235 : decode b_M_init 235 = .ok (.bipush 40, 2) := by decide +kernel
theorem d_M_init_237 : decode b_M_init 237 = .ok (.newarray .long, 2) := by decide +kernel
theorem d_M_init_239 : decode b_M_init 239 = .ok (.putfield 98, 3) := by decide +kernel
theorem d_M_init_242 : decode b_M_init 242 = .ok (.return_, 1) := by decide +kernel
def mS0 : mS := fun k => if k = 6 then -1 else if k = 46 then -1 else 0
def mI (σ : zS) : zS := mOv mS0 (fun _ _ => 0) (fun _ _ => 0) 0 σ
def mD : List Value := [.int 0, .int 0, .int 0, .null, .int 0, .int 0, .int 0, .null, .null, .null, .null, .null, .int 0, .null, .null, .null, .null, .null, .null, .int 0, .null, .null, .null, .null, .null, .null, .int 0, .int 0, .int 0, .null, .null, .null, .int 0, .int 0, .null, .null, .int 0, .null, .null, .int 0, .int 0, .int 0, .int 0, .int 0, .int 0, .null, .int 0, .long 0, .int 0, .int 0, .null]
set_option maxRecDepth 4000 in
theorem c_M_init {G : zG} {l : Launch} {σ : zS} (hσ : σ 85 = .inr (8, mD)) : MetZ G l y_M_init b_M_init 1 none [] 1 27 25503 [.ref 85] 86 σ (fun o n' σ' => o = .returned none ∧ n' = 113 ∧ (∀ i, i < 85 → σ' i = σ i) ∧ ∀ i, 85 ≤ i → i < 113 → σ' i = mI σ i) := by
  refine MetZ.of (by decide) (Nat.le_of_ble_eq_true rfl) (fun K hK hR hpo hmc hms C => ?_)
  refine Z.same (τ := va_up σ 85 (.inr (8, mD))) (fun i _ => by by_cases h : i = 85 <;> simp [va_up, h, hσ]) ?_
  refine z_aload_n C 1 d_M_init_0 rfl rfl ?_
  refine z_objinit C 4 d_M_init_1 rfl o_M_1 i_obj w_obj (by rw [hR]; decide) (by rw [hR]; decide) ?_
  refine z_aload_n C 5 d_M_init_4 rfl rfl ?_
  refine z_sipush C 8 d_M_init_5 rfl 150 (by decide) ?_
  refine z_newa C 10 2 150 (a := (150, .inl (fun _ => 0))) rfl rfl aw_char (fun _ => rfl) (fun h => h) d_M_init_8 rfl (by decide) (by decide) (by decide) (by omega) (by rw [hR]; simp only [zRm]; omega) (by rw [hR]; simp only [zRm]; omega) ?_
  refine z_putF C 13 q_M_7 rfl d_M_init_10 rfl (by omega) rfl (z_ltb rfl) (rfl) rfl ?_
  refine z_aload_n C 14 d_M_init_13 rfl rfl ?_
  refine z_iconst C 15 d_M_init_14 rfl (-1) (by decide) ?_
  refine z_put C 18 p_M_13 d_M_init_15 rfl (by omega) rfl (z_ltb rfl) (rfl) rfl ?_
  refine z_aload_n C 19 d_M_init_18 rfl rfl ?_
  refine z_sipush C 22 d_M_init_19 rfl 1350 (by decide) ?_
  refine z_newa C 24 0 1350 (a := (1350, .inl (fun _ => 0))) rfl rfl aw_int (fun _ => rfl) (fun h => h) d_M_init_22 rfl (by decide) (by decide) (by decide) (by omega) (by rw [hR]; simp only [zRm]; omega) (by rw [hR]; simp only [zRm]; omega) ?_
  refine z_putF C 27 q_M_17 rfl d_M_init_24 rfl (by omega) rfl (z_ltb rfl) (rfl) rfl ?_
  refine z_aload_n C 28 d_M_init_27 rfl rfl ?_
  refine z_sipush C 31 d_M_init_28 rfl 1350 (by decide) ?_
  refine z_newa C 33 0 1350 (a := (1350, .inl (fun _ => 0))) rfl rfl aw_int (fun _ => rfl) (fun h => h) d_M_init_31 rfl (by decide) (by decide) (by decide) (by omega) (by rw [hR]; simp only [zRm]; omega) (by rw [hR]; simp only [zRm]; omega) ?_
  refine z_putF C 36 q_M_21 rfl d_M_init_33 rfl (by omega) rfl (z_ltb rfl) (rfl) rfl ?_
  refine z_aload_n C 37 d_M_init_36 rfl rfl ?_
  refine z_sipush C 40 d_M_init_37 rfl 1350 (by decide) ?_
  refine z_newa C 42 0 1350 (a := (1350, .inl (fun _ => 0))) rfl rfl aw_int (fun _ => rfl) (fun h => h) d_M_init_40 rfl (by decide) (by decide) (by decide) (by omega) (by rw [hR]; simp only [zRm]; omega) (by rw [hR]; simp only [zRm]; omega) ?_
  refine z_putF C 45 q_M_24 rfl d_M_init_42 rfl (by omega) rfl (z_ltb rfl) (rfl) rfl ?_
  refine z_aload_n C 46 d_M_init_45 rfl rfl ?_
  refine z_sipush C 49 d_M_init_46 rfl 1350 (by decide) ?_
  refine z_newa C 51 0 1350 (a := (1350, .inl (fun _ => 0))) rfl rfl aw_int (fun _ => rfl) (fun h => h) d_M_init_49 rfl (by decide) (by decide) (by decide) (by omega) (by rw [hR]; simp only [zRm]; omega) (by rw [hR]; simp only [zRm]; omega) ?_
  refine z_putF C 54 q_M_27 rfl d_M_init_51 rfl (by omega) rfl (z_ltb rfl) (rfl) rfl ?_
  refine z_aload_n C 55 d_M_init_54 rfl rfl ?_
  refine z_sipush C 58 d_M_init_55 rfl 1350 (by decide) ?_
  refine z_newa C 60 0 1350 (a := (1350, .inl (fun _ => 0))) rfl rfl aw_int (fun _ => rfl) (fun h => h) d_M_init_58 rfl (by decide) (by decide) (by decide) (by omega) (by rw [hR]; simp only [zRm]; omega) (by rw [hR]; simp only [zRm]; omega) ?_
  refine z_putF C 63 q_M_30 rfl d_M_init_60 rfl (by omega) rfl (z_ltb rfl) (rfl) rfl ?_
  refine z_aload_n C 64 d_M_init_63 rfl rfl ?_
  refine z_bipush C 66 d_M_init_64 rfl 9 (by decide) ?_
  refine z_newa C 68 3 9 (a := (9, .inl (fun _ => 0))) rfl rfl aw_boolean (fun _ => rfl) (fun h => h) d_M_init_66 rfl (by decide) (by decide) (by decide) (by omega) (by rw [hR]; simp only [zRm]; omega) (by rw [hR]; simp only [zRm]; omega) ?_
  refine z_putF C 71 q_M_33 rfl d_M_init_68 rfl (by omega) rfl (z_ltb rfl) (rfl) rfl ?_
  refine z_aload_n C 72 d_M_init_71 rfl rfl ?_
  refine z_bipush C 74 d_M_init_72 rfl 9 (by decide) ?_
  refine z_newa C 76 0 9 (a := (9, .inl (fun _ => 0))) rfl rfl aw_int (fun _ => rfl) (fun h => h) d_M_init_74 rfl (by decide) (by decide) (by decide) (by omega) (by rw [hR]; simp only [zRm]; omega) (by rw [hR]; simp only [zRm]; omega) ?_
  refine z_putF C 79 q_M_37 rfl d_M_init_76 rfl (by omega) rfl (z_ltb rfl) (rfl) rfl ?_
  refine z_aload_n C 80 d_M_init_79 rfl rfl ?_
  refine z_bipush C 82 d_M_init_80 rfl 9 (by decide) ?_
  refine z_newa C 84 0 9 (a := (9, .inl (fun _ => 0))) rfl rfl aw_int (fun _ => rfl) (fun h => h) d_M_init_82 rfl (by decide) (by decide) (by decide) (by omega) (by rw [hR]; simp only [zRm]; omega) (by rw [hR]; simp only [zRm]; omega) ?_
  refine z_putF C 87 q_M_40 rfl d_M_init_84 rfl (by omega) rfl (z_ltb rfl) (rfl) rfl ?_
  refine z_aload_n C 88 d_M_init_87 rfl rfl ?_
  refine z_bipush C 90 d_M_init_88 rfl 36 (by decide) ?_
  refine z_newa C 92 0 36 (a := (36, .inl (fun _ => 0))) rfl rfl aw_int (fun _ => rfl) (fun h => h) d_M_init_90 rfl (by decide) (by decide) (by decide) (by omega) (by rw [hR]; simp only [zRm]; omega) (by rw [hR]; simp only [zRm]; omega) ?_
  refine z_putF C 95 q_M_43 rfl d_M_init_92 rfl (by omega) rfl (z_ltb rfl) (rfl) rfl ?_
  refine z_aload_n C 96 d_M_init_95 rfl rfl ?_
  refine z_bipush C 98 d_M_init_96 rfl 36 (by decide) ?_
  refine z_newa C 100 0 36 (a := (36, .inl (fun _ => 0))) rfl rfl aw_int (fun _ => rfl) (fun h => h) d_M_init_98 rfl (by decide) (by decide) (by decide) (by omega) (by rw [hR]; simp only [zRm]; omega) (by rw [hR]; simp only [zRm]; omega) ?_
  refine z_putF C 103 q_M_46 rfl d_M_init_100 rfl (by omega) rfl (z_ltb rfl) (rfl) rfl ?_
  refine z_aload_n C 104 d_M_init_103 rfl rfl ?_
  refine z_bipush C 106 d_M_init_104 rfl 36 (by decide) ?_
  refine z_newa C 108 0 36 (a := (36, .inl (fun _ => 0))) rfl rfl aw_int (fun _ => rfl) (fun h => h) d_M_init_106 rfl (by decide) (by decide) (by decide) (by omega) (by rw [hR]; simp only [zRm]; omega) (by rw [hR]; simp only [zRm]; omega) ?_
  refine z_putF C 111 q_M_49 rfl d_M_init_108 rfl (by omega) rfl (z_ltb rfl) (rfl) rfl ?_
  refine z_aload_n C 112 d_M_init_111 rfl rfl ?_
  refine z_bipush C 114 d_M_init_112 rfl 80 (by decide) ?_
  refine z_newa C 116 0 80 (a := (80, .inl (fun _ => 0))) rfl rfl aw_int (fun _ => rfl) (fun h => h) d_M_init_114 rfl (by decide) (by decide) (by decide) (by omega) (by rw [hR]; simp only [zRm]; omega) (by rw [hR]; simp only [zRm]; omega) ?_
  refine z_putF C 119 q_M_52 rfl d_M_init_116 rfl (by omega) rfl (z_ltb rfl) (rfl) rfl ?_
  refine z_aload_n C 120 d_M_init_119 rfl rfl ?_
  refine z_bipush C 122 d_M_init_120 rfl 80 (by decide) ?_
  refine z_newa C 124 0 80 (a := (80, .inl (fun _ => 0))) rfl rfl aw_int (fun _ => rfl) (fun h => h) d_M_init_122 rfl (by decide) (by decide) (by decide) (by omega) (by rw [hR]; simp only [zRm]; omega) (by rw [hR]; simp only [zRm]; omega) ?_
  refine z_putF C 127 q_M_55 rfl d_M_init_124 rfl (by omega) rfl (z_ltb rfl) (rfl) rfl ?_
  refine z_aload_n C 128 d_M_init_127 rfl rfl ?_
  refine z_bipush C 130 d_M_init_128 rfl 80 (by decide) ?_
  refine z_newa C 132 0 80 (a := (80, .inl (fun _ => 0))) rfl rfl aw_int (fun _ => rfl) (fun h => h) d_M_init_130 rfl (by decide) (by decide) (by decide) (by omega) (by rw [hR]; simp only [zRm]; omega) (by rw [hR]; simp only [zRm]; omega) ?_
  refine z_putF C 135 q_M_58 rfl d_M_init_132 rfl (by omega) rfl (z_ltb rfl) (rfl) rfl ?_
  refine z_aload_n C 136 d_M_init_135 rfl rfl ?_
  refine z_bipush C 138 d_M_init_136 rfl 80 (by decide) ?_
  refine z_newa C 140 0 80 (a := (80, .inl (fun _ => 0))) rfl rfl aw_int (fun _ => rfl) (fun h => h) d_M_init_138 rfl (by decide) (by decide) (by decide) (by omega) (by rw [hR]; simp only [zRm]; omega) (by rw [hR]; simp only [zRm]; omega) ?_
  refine z_putF C 143 q_M_61 rfl d_M_init_140 rfl (by omega) rfl (z_ltb rfl) (rfl) rfl ?_
  refine z_aload_n C 144 d_M_init_143 rfl rfl ?_
  refine z_bipush C 146 d_M_init_144 rfl 80 (by decide) ?_
  refine z_newa C 148 0 80 (a := (80, .inl (fun _ => 0))) rfl rfl aw_int (fun _ => rfl) (fun h => h) d_M_init_146 rfl (by decide) (by decide) (by decide) (by omega) (by rw [hR]; simp only [zRm]; omega) (by rw [hR]; simp only [zRm]; omega) ?_
  refine z_putF C 151 q_M_64 rfl d_M_init_148 rfl (by omega) rfl (z_ltb rfl) (rfl) rfl ?_
  refine z_aload_n C 152 d_M_init_151 rfl rfl ?_
  refine z_bipush C 154 d_M_init_152 rfl 20 (by decide) ?_
  refine z_newa C 156 0 20 (a := (20, .inl (fun _ => 0))) rfl rfl aw_int (fun _ => rfl) (fun h => h) d_M_init_154 rfl (by decide) (by decide) (by decide) (by omega) (by rw [hR]; simp only [zRm]; omega) (by rw [hR]; simp only [zRm]; omega) ?_
  refine z_putF C 159 q_M_67 rfl d_M_init_156 rfl (by omega) rfl (z_ltb rfl) (rfl) rfl ?_
  refine z_aload_n C 160 d_M_init_159 rfl rfl ?_
  refine z_sipush C 163 d_M_init_160 rfl 16080 (by decide) ?_
  refine z_newa C 165 1 16080 (a := (16080, .inr (.inl (fun _ => 0)))) rfl rfl aw_long (fun _ => rfl) (fun h => h) d_M_init_163 rfl (by decide) (by decide) (by decide) (by omega) (by rw [hR]; simp only [zRm]; omega) (by rw [hR]; simp only [zRm]; omega) ?_
  refine z_putF C 168 q_M_70 rfl d_M_init_165 rfl (by omega) rfl (z_ltb rfl) (rfl) rfl ?_
  refine z_aload_n C 169 d_M_init_168 rfl rfl ?_
  refine z_sipush C 172 d_M_init_169 rfl 402 (by decide) ?_
  refine z_newa C 174 0 402 (a := (402, .inl (fun _ => 0))) rfl rfl aw_int (fun _ => rfl) (fun h => h) d_M_init_172 rfl (by decide) (by decide) (by decide) (by omega) (by rw [hR]; simp only [zRm]; omega) (by rw [hR]; simp only [zRm]; omega) ?_
  refine z_putF C 177 q_M_74 rfl d_M_init_174 rfl (by omega) rfl (z_ltb rfl) (rfl) rfl ?_
  refine z_aload_n C 178 d_M_init_177 rfl rfl ?_
  refine z_sipush C 181 d_M_init_178 rfl 402 (by decide) ?_
  refine z_newa C 183 0 402 (a := (402, .inl (fun _ => 0))) rfl rfl aw_int (fun _ => rfl) (fun h => h) d_M_init_181 rfl (by decide) (by decide) (by decide) (by omega) (by rw [hR]; simp only [zRm]; omega) (by rw [hR]; simp only [zRm]; omega) ?_
  refine z_putF C 186 q_M_77 rfl d_M_init_183 rfl (by omega) rfl (z_ltb rfl) (rfl) rfl ?_
  refine z_aload_n C 187 d_M_init_186 rfl rfl ?_
  refine z_sipush C 190 d_M_init_187 rfl 160 (by decide) ?_
  refine z_newa C 192 1 160 (a := (160, .inr (.inl (fun _ => 0)))) rfl rfl aw_long (fun _ => rfl) (fun h => h) d_M_init_190 rfl (by decide) (by decide) (by decide) (by omega) (by rw [hR]; simp only [zRm]; omega) (by rw [hR]; simp only [zRm]; omega) ?_
  refine z_putF C 195 q_M_80 rfl d_M_init_192 rfl (by omega) rfl (z_ltb rfl) (rfl) rfl ?_
  refine z_aload_n C 196 d_M_init_195 rfl rfl ?_
  refine z_sipush C 199 d_M_init_196 rfl 160 (by decide) ?_
  refine z_newa C 201 0 160 (a := (160, .inl (fun _ => 0))) rfl rfl aw_int (fun _ => rfl) (fun h => h) d_M_init_199 rfl (by decide) (by decide) (by decide) (by omega) (by rw [hR]; simp only [zRm]; omega) (by rw [hR]; simp only [zRm]; omega) ?_
  refine z_putF C 204 q_M_83 rfl d_M_init_201 rfl (by omega) rfl (z_ltb rfl) (rfl) rfl ?_
  refine z_aload_n C 205 d_M_init_204 rfl rfl ?_
  refine z_sipush C 208 d_M_init_205 rfl 400 (by decide) ?_
  refine z_newa C 210 1 400 (a := (400, .inr (.inl (fun _ => 0)))) rfl rfl aw_long (fun _ => rfl) (fun h => h) d_M_init_208 rfl (by decide) (by decide) (by decide) (by omega) (by rw [hR]; simp only [zRm]; omega) (by rw [hR]; simp only [zRm]; omega) ?_
  refine z_putF C 213 q_M_86 rfl d_M_init_210 rfl (by omega) rfl (z_ltb rfl) (rfl) rfl ?_
  refine z_aload_n C 214 d_M_init_213 rfl rfl ?_
  refine z_sipush C 217 d_M_init_214 rfl 400 (by decide) ?_
  refine z_newa C 219 0 400 (a := (400, .inl (fun _ => 0))) rfl rfl aw_int (fun _ => rfl) (fun h => h) d_M_init_217 rfl (by decide) (by decide) (by decide) (by omega) (by rw [hR]; simp only [zRm]; omega) (by rw [hR]; simp only [zRm]; omega) ?_
  refine z_putF C 222 q_M_89 rfl d_M_init_219 rfl (by omega) rfl (z_ltb rfl) (rfl) rfl ?_
  refine z_aload_n C 223 d_M_init_222 rfl rfl ?_
  refine z_iconst C 224 d_M_init_223 rfl 4 (by decide) ?_
  refine z_newa C 226 1 4 (a := (4, .inr (.inl (fun _ => 0)))) rfl rfl aw_long (fun _ => rfl) (fun h => h) d_M_init_224 rfl (by decide) (by decide) (by decide) (by omega) (by rw [hR]; simp only [zRm]; omega) (by rw [hR]; simp only [zRm]; omega) ?_
  refine z_putF C 229 q_M_92 rfl d_M_init_226 rfl (by omega) rfl (z_ltb rfl) (rfl) rfl ?_
  refine z_aload_n C 230 d_M_init_229 rfl rfl ?_
  refine z_iconst C 231 d_M_init_230 rfl (-1) (by decide) ?_
  refine z_put C 234 p_M_95 d_M_init_231 rfl (by omega) rfl (z_ltb rfl) (rfl) rfl ?_
  refine z_aload_n C 235 d_M_init_234 rfl rfl ?_
  refine z_bipush C 237 d_M_init_235 rfl 40 (by decide) ?_
  refine z_newa C 239 1 40 (a := (40, .inr (.inl (fun _ => 0)))) rfl rfl aw_long (fun _ => rfl) (fun h => h) d_M_init_237 rfl (by decide) (by decide) (by decide) (by omega) (by rw [hR]; simp only [zRm]; omega) (by rw [hR]; simp only [zRm]; omega) ?_
  refine z_putF C 242 q_M_98 rfl d_M_init_239 rfl (by omega) rfl (z_ltb rfl) (rfl) rfl ?_
  exact z_vret C rfl d_M_init_242 (by rw [hpo]; exact ⟨rfl, rfl, fun i hi => by simp only [va_up]; repeat (first | rw [if_neg (by omega)] | rw [if_pos (by omega)]), fun i h6 hi => z_rng2 85 28 (by rfl) h6 hi⟩) (by rw [hmc]; omega) (by rw [hms]; omega)
