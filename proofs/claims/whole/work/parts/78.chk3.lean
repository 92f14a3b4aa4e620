theorem d_C_lookAtCall_0 : decode b_C_lookAtCall 0 = .ok (.aload_n 1, 1) := by decide +kernel
theorem d_C_lookAtCall_1 : decode b_C_lookAtCall 1 = .ok (.getfield 136, 3) := by decide +kernel
theorem d_C_lookAtCall_4 : decode b_C_lookAtCall 4 = .ok (.aload_n 0, 1) := by decide +kernel
theorem d_C_lookAtCall_5 : decode b_C_lookAtCall 5 = .ok (.getfield 19, 3) := by decide +kernel
theorem d_C_lookAtCall_8 : decode b_C_lookAtCall 8 = .ok (.getfield 31, 3) := by decide +kernel
theorem d_C_lookAtCall_11 : decode b_C_lookAtCall 11 = .ok (.if_icmp .ne 10, 3) := by decide +kernel
theorem d_C_lookAtCall_14 : decode b_C_lookAtCall 14 = .ok (.aload_n 0, 1) := by decide +kernel
theorem d_C_lookAtCall_15 : decode b_C_lookAtCall 15 = .ok (.getfield 19, 3) := by decide +kernel
theorem d_C_lookAtCall_18 : decode b_C_lookAtCall 18 = .ok (.goto 12, 3) := by decide +kernel
theorem d_C_lookAtCall_21 : decode b_C_lookAtCall 21 = .ok (.aload_n 0, 1) := by decide +kernel
theorem d_C_lookAtCall_22 : decode b_C_lookAtCall 22 = .ok (.getfield 23, 3) := by decide +kernel
theorem d_C_lookAtCall_25 : decode b_C_lookAtCall 25 = .ok (.aload_n 1, 1) := by decide +kernel
theorem d_C_lookAtCall_26 : decode b_C_lookAtCall 26 = .ok (.getfield 136, 3) := by decide +kernel
theorem d_C_lookAtCall_29 : decode b_C_lookAtCall 29 = .ok (.aaload, 1) := by decide +kernel
theorem d_C_lookAtCall_30 : decode b_C_lookAtCall 30 = .ok (.astore_n 2, 1) := by decide +kernel
theorem d_C_lookAtCall_31 : decode b_C_lookAtCall 31 = .ok (.aload_n 2, 1) := by decide +kernel
theorem d_C_lookAtCall_32 : decode b_C_lookAtCall 32 = .ok (.ifnull 14, 3) := by decide +kernel
theorem d_C_lookAtCall_35 : decode b_C_lookAtCall 35 = .ok (.aload_n 2, 1) := by decide +kernel
theorem d_C_lookAtCall_36 : decode b_C_lookAtCall 36 = .ok (.getfield 48, 3) := by decide +kernel
theorem d_C_lookAtCall_39 : decode b_C_lookAtCall 39 = .ok (.aload_n 1, 1) := by decide +kernel
theorem d_C_lookAtCall_40 : decode b_C_lookAtCall 40 = .ok (.getfield 113, 3) := by decide +kernel
theorem d_C_lookAtCall_43 : decode b_C_lookAtCall 43 = .ok (.if_icmp .eq 16, 3) := by decide +kernel
theorem d_C_lookAtCall_46 : decode b_C_lookAtCall 46 = .ok (.aload_n 0, 1) := by decide +kernel
theorem d_C_lookAtCall_47 : decode b_C_lookAtCall 47 = .ok (.getfield 27, 3) := by decide +kernel
theorem d_C_lookAtCall_50 : decode b_C_lookAtCall 50 = .ok (.aload_n 1, 1) := by decide +kernel
theorem d_C_lookAtCall_51 : decode b_C_lookAtCall 51 = .ok (.getfield 76, 3) := by decide +kernel
theorem d_C_lookAtCall_54 : decode b_C_lookAtCall 54 = .ok (.invokevirtual 36, 3) := by decide +kernel
theorem d_C_lookAtCall_57 : decode b_C_lookAtCall 57 = .ok (.iconst (-1), 1) := by decide +kernel
theorem d_C_lookAtCall_58 : decode b_C_lookAtCall 58 = .ok (.ireturn, 1) := by decide +kernel
theorem d_C_lookAtCall_59 : decode b_C_lookAtCall 59 = .ok (.aload_n 1, 1) := by decide +kernel
theorem d_C_lookAtCall_60 : decode b_C_lookAtCall 60 = .ok (.aload_n 2, 1) := by decide +kernel
theorem d_C_lookAtCall_61 : decode b_C_lookAtCall 61 = .ok (.putfield 139, 3) := by decide +kernel
theorem d_C_lookAtCall_64 : decode b_C_lookAtCall 64 = .ok (.iconst 0, 1) := by decide +kernel
theorem d_C_lookAtCall_65 : decode b_C_lookAtCall 65 = .ok (.istore_n 3, 1) := by decide +kernel
theorem d_C_lookAtCall_66 : decode b_C_lookAtCall 66 = .ok (.iload_n 3, 1) := by decide +kernel
theorem d_C_lookAtCall_67 : decode b_C_lookAtCall 67 = .ok (.aload_n 1, 1) := by decide +kernel
theorem d_C_lookAtCall_68 : decode b_C_lookAtCall 68 = .ok (.getfield 113, 3) := by decide +kernel
theorem d_C_lookAtCall_71 : decode b_C_lookAtCall 71 = .ok (.if_icmp .ge 25, 3) := by decide +kernel
theorem d_C_lookAtCall_74 : decode b_C_lookAtCall 74 = .ok (.aload_n 0, 1) := by decide +kernel
theorem d_C_lookAtCall_75 : decode b_C_lookAtCall 75 = .ok (.aload_n 1, 1) := by decide +kernel
theorem d_C_lookAtCall_76 : decode b_C_lookAtCall 76 = .ok (.getfield 119, 3) := by decide +kernel
theorem d_C_lookAtCall_79 : decode b_C_lookAtCall 79 = .ok (.iload_n 3, 1) := by decide +kernel
theorem d_C_lookAtCall_80 : decode b_C_lookAtCall 80 = .ok (.aaload, 1) := by decide +kernel
theorem d_C_lookAtCall_81 : decode b_C_lookAtCall 81 = .ok (.aload_n 2, 1) := by decide +kernel
theorem d_C_lookAtCall_82 : decode b_C_lookAtCall 82 = .ok (.getfield 61, 3) := by decide +kernel
theorem d_C_lookAtCall_85 : decode b_C_lookAtCall 85 = .ok (.iload_n 3, 1) := by decide +kernel
theorem d_C_lookAtCall_86 : decode b_C_lookAtCall 86 = .ok (.iaload, 1) := by decide +kernel
theorem d_C_lookAtCall_87 : decode b_C_lookAtCall 87 = .ok (.invokevirtual 126, 3) := by decide +kernel
theorem d_C_lookAtCall_90 : decode b_C_lookAtCall 90 = .ok (.iinc 3 1, 3) := by decide +kernel
theorem d_C_lookAtCall_93 : decode b_C_lookAtCall 93 = .ok (.goto (-27), 3) := by decide +kernel
theorem d_C_lookAtCall_96 : decode b_C_lookAtCall 96 = .ok (.aload_n 2, 1) := by decide +kernel
theorem d_C_lookAtCall_97 : decode b_C_lookAtCall 97 = .ok (.getfield 73, 3) := by decide +kernel
theorem d_C_lookAtCall_100 : decode b_C_lookAtCall 100 = .ok (.ireturn, 1) := by decide +kernel
theorem d_C_look_0 : decode b_C_look 0 = .ok (.getstatic 84, 3) := by decide +kernel
theorem d_C_look_3 : decode b_C_look 3 = .ok (.aload_n 1, 1) := by decide +kernel
theorem d_C_look_4 : decode b_C_look 4 = .ok (.getfield 89, 3) := by decide +kernel
theorem d_C_look_7 : decode b_C_look 7 = .ok (.invokevirtual 93, 3) := by decide +kernel
theorem d_C_look_10 : decode b_C_look 10 = .ok (.iaload, 1) := by decide +kernel
theorem d_C_look_11 : decode b_C_look 11 = .ok (.tableswitch 204 1 12 #[61, 69, 75, 81, 88, 95, 124, 151, 161, 171, 179, 198], 61) := by decide +kernel
theorem d_C_look_72 : decode b_C_look 72 = .ok (.aload_n 0, 1) := by decide +kernel
theorem d_C_look_73 : decode b_C_look 73 = .ok (.aload_n 1, 1) := by decide +kernel
theorem d_C_look_74 : decode b_C_look 74 = .ok (.iconst 0, 1) := by decide +kernel
theorem d_C_look_75 : decode b_C_look 75 = .ok (.iconst 2, 1) := by decide +kernel
theorem d_C_look_76 : decode b_C_look 76 = .ok (.invokevirtual 99, 3) := by decide +kernel
theorem d_C_look_79 : decode b_C_look 79 = .ok (.ireturn, 1) := by decide +kernel
theorem d_C_look_80 : decode b_C_look 80 = .ok (.aload_n 0, 1) := by decide +kernel
theorem d_C_look_81 : decode b_C_look 81 = .ok (.aload_n 1, 1) := by decide +kernel
theorem d_C_look_82 : decode b_C_look 82 = .ok (.invokevirtual 103, 3) := by decide +kernel
theorem d_C_look_85 : decode b_C_look 85 = .ok (.ireturn, 1) := by decide +kernel
theorem d_C_look_86 : decode b_C_look 86 = .ok (.aload_n 0, 1) := by decide +kernel
theorem d_C_look_87 : decode b_C_look 87 = .ok (.aload_n 1, 1) := by decide +kernel
theorem d_C_look_88 : decode b_C_look 88 = .ok (.invokevirtual 106, 3) := by decide +kernel
theorem d_C_look_91 : decode b_C_look 91 = .ok (.ireturn, 1) := by decide +kernel
theorem d_C_look_92 : decode b_C_look 92 = .ok (.aload_n 0, 1) := by decide +kernel
theorem d_C_look_93 : decode b_C_look 93 = .ok (.aload_n 1, 1) := by decide +kernel
theorem d_C_look_94 : decode b_C_look 94 = .ok (.invokevirtual 109, 3) := by decide +kernel
theorem d_C_look_97 : decode b_C_look 97 = .ok (.iconst 1, 1) := by decide +kernel
theorem d_C_look_98 : decode b_C_look 98 = .ok (.ireturn, 1) := by decide +kernel
theorem d_C_look_99 : decode b_C_look 99 = .ok (.aload_n 0, 1) := by decide +kernel
theorem d_C_look_100 : decode b_C_look 100 = .ok (.aload_n 1, 1) := by decide +kernel
theorem d_C_look_101 : decode b_C_look 101 = .ok (.invokevirtual 109, 3) := by decide +kernel
theorem d_C_look_104 : decode b_C_look 104 = .ok (.iconst 2, 1) := by decide +kernel
theorem d_C_look_105 : decode b_C_look 105 = .ok (.ireturn, 1) := by decide +kernel
theorem d_C_look_106 : decode b_C_look 106 = .ok (.aload_n 0, 1) := by decide +kernel
theorem d_C_look_107 : decode b_C_look 107 = .ok (.aload_n 1, 1) := by decide +kernel
theorem d_C_look_108 : decode b_C_look 108 = .ok (.invokevirtual 109, 3) := by decide +kernel
theorem d_C_look_111 : decode b_C_look 111 = .ok (.aload_n 1, 1) := by decide +kernel
theorem d_C_look_112 : decode b_C_look 112 = .ok (.getfield 113, 3) := by decide +kernel
theorem d_C_look_115 : decode b_C_look 115 = .ok (.iconst 1, 1) := by decide +kernel
theorem d_C_look_116 : decode b_C_look 116 = .ok (.if_icmp .ne 7, 3) := by decide +kernel
theorem d_C_look_119 : decode b_C_look 119 = .ok (.iconst 1, 1) := by decide +kernel
theorem d_C_look_120 : decode b_C_look 120 = .ok (.goto 4, 3) := by decide +kernel
theorem d_C_look_123 : decode b_C_look 123 = .ok (.iconst 2, 1) := by decide +kernel
theorem d_C_look_124 : decode b_C_look 124 = .ok (.istore_n 2, 1) := by decide +kernel
theorem d_C_look_125 : decode b_C_look 125 = .ok (.aload_n 0, 1) := by decide +kernel
theorem d_C_look_126 : decode b_C_look 126 = .ok (.aload_n 1, 1) := by decide +kernel
theorem d_C_look_127 : decode b_C_look 127 = .ok (.iload_n 2, 1) := by decide +kernel
theorem d_C_look_128 : decode b_C_look 128 = .ok (.iload_n 2, 1) := by decide +kernel
theorem d_C_look_129 : decode b_C_look 129 = .ok (.invokevirtual 116, 3) := by decide +kernel
theorem d_C_look_132 : decode b_C_look 132 = .ok (.pop, 1) := by decide +kernel
theorem d_C_look_133 : decode b_C_look 133 = .ok (.iconst 0, 1) := by decide +kernel
theorem d_C_look_134 : decode b_C_look 134 = .ok (.ireturn, 1) := by decide +kernel
theorem d_C_look_135 : decode b_C_look 135 = .ok (.aload_n 0, 1) := by decide +kernel
theorem d_C_look_136 : decode b_C_look 136 = .ok (.aload_n 1, 1) := by decide +kernel
theorem d_C_look_137 : decode b_C_look 137 = .ok (.invokevirtual 109, 3) := by decide +kernel
theorem d_C_look_140 : decode b_C_look 140 = .ok (.aload_n 1, 1) := by decide +kernel
theorem d_C_look_141 : decode b_C_look 141 = .ok (.getfield 113, 3) := by decide +kernel
theorem d_C_look_144 : decode b_C_look 144 = .ok (.iconst 2, 1) := by decide +kernel
theorem d_C_look_145 : decode b_C_look 145 = .ok (.if_icmp .ne 7, 3) := by decide +kernel
theorem d_C_look_148 : decode b_C_look 148 = .ok (.iconst 1, 1) := by decide +kernel
theorem d_C_look_149 : decode b_C_look 149 = .ok (.goto 4, 3) := by decide +kernel
theorem d_C_look_152 : decode b_C_look 152 = .ok (.iconst 2, 1) := by decide +kernel
theorem d_C_look_153 : decode b_C_look 153 = .ok (.istore_n 3, 1) := by decide +kernel
theorem d_C_look_154 : decode b_C_look 154 = .ok (.aload_n 0, 1) := by decide +kernel
theorem d_C_look_155 : decode b_C_look 155 = .ok (.aload_n 1, 1) := by decide +kernel
theorem d_C_look_156 : decode b_C_look 156 = .ok (.iload_n 3, 1) := by decide +kernel
theorem d_C_look_157 : decode b_C_look 157 = .ok (.iload_n 3, 1) := by decide +kernel
theorem d_C_look_158 : decode b_C_look 158 = .ok (.invokevirtual 99, 3) := by decide +kernel
theorem d_C_look_161 : decode b_C_look 161 = .ok (.ireturn, 1) := by decide +kernel
theorem d_C_look_162 : decode b_C_look 162 = .ok (.aload_n 0, 1) := by decide +kernel
theorem d_C_look_163 : decode b_C_look 163 = .ok (.aload_n 1, 1) := by decide +kernel
theorem d_C_look_164 : decode b_C_look 164 = .ok (.iconst 1, 1) := by decide +kernel
theorem d_C_look_165 : decode b_C_look 165 = .ok (.iconst 2, 1) := by decide +kernel
theorem d_C_look_166 : decode b_C_look 166 = .ok (.invokevirtual 116, 3) := by decide +kernel
theorem d_C_look_169 : decode b_C_look 169 = .ok (.pop, 1) := by decide +kernel
theorem d_C_look_170 : decode b_C_look 170 = .ok (.iconst 0, 1) := by decide +kernel
theorem d_C_look_171 : decode b_C_look 171 = .ok (.ireturn, 1) := by decide +kernel
theorem d_C_look_172 : decode b_C_look 172 = .ok (.aload_n 0, 1) := by decide +kernel
theorem d_C_look_173 : decode b_C_look 173 = .ok (.aload_n 1, 1) := by decide +kernel
theorem d_C_look_174 : decode b_C_look 174 = .ok (.iconst 2, 1) := by decide +kernel
theorem d_C_look_175 : decode b_C_look 175 = .ok (.iconst 2, 1) := by decide +kernel
theorem d_C_look_176 : decode b_C_look 176 = .ok (.invokevirtual 116, 3) := by decide +kernel
theorem d_C_look_179 : decode b_C_look 179 = .ok (.pop, 1) := by decide +kernel
theorem d_C_look_180 : decode b_C_look 180 = .ok (.iconst 0, 1) := by decide +kernel
theorem d_C_look_181 : decode b_C_look 181 = .ok (.ireturn, 1) := by decide +kernel
theorem d_C_look_182 : decode b_C_look 182 = .ok (.aload_n 0, 1) := by decide +kernel
theorem d_C_look_183 : decode b_C_look 183 = .ok (.aload_n 1, 1) := by decide +kernel
theorem d_C_look_184 : decode b_C_look 184 = .ok (.iconst 1, 1) := by decide +kernel
theorem d_C_look_185 : decode b_C_look 185 = .ok (.iconst 2, 1) := by decide +kernel
theorem d_C_look_186 : decode b_C_look 186 = .ok (.invokevirtual 116, 3) := by decide +kernel
theorem d_C_look_189 : decode b_C_look 189 = .ok (.ireturn, 1) := by decide +kernel
theorem d_C_look_190 : decode b_C_look 190 = .ok (.aload_n 0, 1) := by decide +kernel
theorem d_C_look_191 : decode b_C_look 191 = .ok (.aload_n 1, 1) := by decide +kernel
theorem d_C_look_192 : decode b_C_look 192 = .ok (.iconst 1, 1) := by decide +kernel
theorem d_C_look_193 : decode b_C_look 193 = .ok (.iconst 2, 1) := by decide +kernel
theorem d_C_look_194 : decode b_C_look 194 = .ok (.invokevirtual 99, 3) := by decide +kernel
theorem d_C_look_197 : decode b_C_look 197 = .ok (.pop, 1) := by decide +kernel
theorem d_C_look_198 : decode b_C_look 198 = .ok (.aload_n 0, 1) := by decide +kernel
theorem d_C_look_199 : decode b_C_look 199 = .ok (.aload_n 1, 1) := by decide +kernel
theorem d_C_look_200 : decode b_C_look 200 = .ok (.getfield 119, 3) := by decide +kernel
theorem d_C_look_203 : decode b_C_look 203 = .ok (.iconst 0, 1) := by decide +kernel
theorem d_C_look_204 : decode b_C_look 204 = .ok (.aaload, 1) := by decide +kernel
theorem d_C_look_205 : decode b_C_look 205 = .ok (.invokevirtual 69, 3) := by decide +kernel
theorem d_C_look_208 : decode b_C_look 208 = .ok (.ireturn, 1) := by decide +kernel
theorem d_C_look_209 : decode b_C_look 209 = .ok (.aload_n 0, 1) := by decide +kernel
theorem d_C_look_210 : decode b_C_look 210 = .ok (.aload_n 1, 1) := by decide +kernel
theorem d_C_look_211 : decode b_C_look 211 = .ok (.invokevirtual 123, 3) := by decide +kernel
theorem d_C_look_214 : decode b_C_look 214 = .ok (.ireturn, 1) := by decide +kernel
theorem d_C_look_215 : decode b_C_look 215 = .ok (.aload_n 0, 1) := by decide +kernel
theorem d_C_look_216 : decode b_C_look 216 = .ok (.aload_n 1, 1) := by decide +kernel
theorem d_C_look_217 : decode b_C_look 217 = .ok (.invokevirtual 109, 3) := by decide +kernel
theorem d_C_look_220 : decode b_C_look 220 = .ok (.iconst 0, 1) := by decide +kernel
theorem d_C_look_221 : decode b_C_look 221 = .ok (.ireturn, 1) := by decide +kernel
theorem sm_C_84 : Cond.fieldLink "SoleArrays$Checker" 84 "SoleArrays$1" "$SwitchMap$SoleArrays$Form" "[I" ∈ zTb := zt3 120 (by decide +kernel) rfl
theorem lo_C_93 : Cond.methodLink "SoleArrays$Checker" 93 ⟨"SoleArrays$Form", "ordinal", "()I"⟩ ∈ zTb := zt3 122 (by decide +kernel) rfl
theorem ini_Enum : Cond.initialized "java/lang/Enum" ∈ zTb := zt1 13 (by decide +kernel) rfl
theorem nI_inj {a b : Nat} (ha : a < 2 ^ 31) (hb : b < 2 ^ 31) (h : nI a = nI b) : a = b := by
  have h1 : (nI a).toInt = (nI b).toInt := by rw [h]
  rw [nI_toInt ha, nI_toInt hb] at h1
  omega
section KLB
variable {G : zG} {l : Launch} {B N c F f d i : Nat} {σ : zS} {xs : mS} {xr : Int64} {xa : mA} {xl : mL} {xf : xF} {cl : Nat → Option cF} {s : cS}
theorem c_C_lookAtBinding {e : eN} (KX : kHyp G l d) (hp : kPre B N c F σ xf cl f) (hw : eWf N s.2.2) (hi : i < N) (he : s.2.2 i = e) (hk4 : e.1 = 4) (hdp : ∀ j, j < e.2.2.2.1 → eDp s.2.2 d (ePt e j)) {mc ms : Nat} (hm : (∃ q', cBnd (ck cl d) e s = .inl q') → 1 ≤ mc ∧ 6 ≤ ms) :
    MetZ G l y_C_lookAtBinding b_C_lookAtBinding 3 (some .int) [] (8 + 3 * d + 2) mc ms [.ref c, .ref (B + 2 * i)] (c + 2) (kSt B N c F σ xs xr xa xl xf s) (kPost B N c F σ xs xr xa xl xf kvI (cBnd (ck cl d) e s)) := by
  obtain ⟨res, hres⟩ : ∃ x, cBnd (ck cl d) e s = x := ⟨_, rfl⟩
  rw [hres] at hm ⊢
  have hp0 := hp
  obtain ⟨hF, hFB, hc, hc9, hf8, ⟨fcn, fY, fres, hclf⟩, hoth, hcls⟩ := hp
  have hwi := hw i hi
  rw [he] at hwi
  obtain ⟨hk14, hc4, ⟨v0, hv20, ev⟩, ⟨g, hg8, eg⟩, hpt, hct⟩ := hwi
  have hc2 : e.2.2.2.1 = 2 := hct.2.2.2.2.1 hk4
  obtain ⟨hp0j, hp0N⟩ := hpt 0 (by omega)
  obtain ⟨hp1j, hp1N⟩ := hpt 1 (by omega)
  have hix : cIx (eVr e) = v0 := by rw [ev]; exact nI_clamp (by omega)
  unfold cBnd at hres
  rw [hix, ev] at hres
  refine MetZ.of (by decide) (Nat.le_of_ble_eq_true rfl) (fun K hK hR hpo hmc hms C => ?_)
  subst hK
  have hmc' : (kR K).cells ≤ kmc K := by rw [hR, hmc]; exact Nat.le_refl _
  have hms' : (kR K).slots ≤ kms K := by rw [hR, hms]; exact Nat.le_refl _
  have hm' : (∃ q, res = .inl q) → 1 ≤ (kR K).cells ∧ 6 ≤ (kR K).slots := by rw [hR]; exact hm
  refine z_aload_n C 1 d_C_lookAtBinding_0 rfl rfl ?_
  refine z_aload_n C 2 d_C_lookAtBinding_1 rfl rfl ?_
  refine z_get (v := .int (nI v0)) C 5 f_C_130 d_C_lookAtBinding_2 rfl (by omega) (kSt_eq (by omega) hc hi he) (by rw [← ev]; rfl) ?_
  refine z_aload_n C 6 d_C_lookAtBinding_5 rfl rfl ?_
  refine z_get C 9 f_C_133 d_C_lookAtBinding_6 rfl (by omega) (kSt_eq (by omega) hc hi he) rfl ?_
  refine zk_sub C 12 (fun mc ms hm => c_C_refuseIfBound (by omega) hc hc9 hv20 (eVp e) hm) w_C_refuseIfBound ini_C d_C_lookAtBinding_9 rfl (z_goV (As := [.int (nI v0), .int (eVp e)]) C l_C_57 w_C_refuseIfBound d_C_lookAtBinding_9 (by omega) ((kSt_c (by omega))) rfl rfl) (Nat.le_of_ble_eq_true rfl) (by rw [hR]; simp only [zRm]; omega) (by rw [hR]; simp only [zRm]; omega) hmc' hms' hpo hm' (fun q' hq' => by by_cases q1 : s.1 v0 = -1; { rw [if_pos q1] at hq'; cases hq' }; { rw [if_neg q1] at hq' hres; cases hq'; exact hres.symm }) (fun t0 s0 hq0 => ?_)
  have q1 : s.1 v0 = -1 := Decidable.byContradiction fun q1 => by rw [if_neg q1] at hq0; cases hq0
  rw [if_pos q1] at hq0 hres
  cases hq0
  refine z_aload_n C 13 d_C_lookAtBinding_12 rfl rfl ?_
  refine z_aload_n C 14 d_C_lookAtBinding_13 rfl rfl ?_
  refine z_get (v := .int (nI v0)) C 17 f_C_130 d_C_lookAtBinding_14 rfl (by omega) (kSt_eq (by omega) hc hi he) (by rw [← ev]; rfl) ?_
  refine z_aload_n C 18 d_C_lookAtBinding_17 rfl rfl ?_
  refine z_aload_n C 19 d_C_lookAtBinding_18 rfl rfl ?_
  refine z_get C 22 f_C_119 d_C_lookAtBinding_19 rfl (by omega) (kSt_eq (by omega) hc hi he) rfl ?_
  refine z_iconst C 23 d_C_lookAtBinding_22 rfl 0 (by decide) ?_
  refine z_aald C 24 (t := 5) 0 (some (B + 2 * ePt e 0)) d_C_lookAtBinding_23 rfl (by omega) (kSt_pq (by omega) hc hi he) rfl rfl rfl (by omega) (by decide) (by show (e.2.2.1 0).map _ = _; rw [hp0j]; rfl) ?_
  refine zk_sub C 27 (fun mc ms hm => KX B N c F f σ xs xr xa xl xf cl (ePt e 0) s mc ms hp0 hw (hdp 0 (by omega)) hp0N hm) w_C_look ini_C d_C_lookAtBinding_24 rfl (z_goV (As := [.ref (B + 2 * ePt e 0)]) C l_C_69 w_C_look d_C_lookAtBinding_24 (by omega) ((kSt_c (by omega))) rfl rfl) (Nat.le_of_ble_eq_true rfl) (by rw [hR]; simp only [zRm]; omega) (by rw [hR]; simp only [zRm]; omega) hmc' hms' hpo hm' (fun q' hq' => by rw [← hres, hq']; rfl) (fun t1 s1 hq1 => ?_)
  rw [hq1] at hres
  have sm1 := ck_sm hq1
  obtain ⟨k1, hk1⟩ := sm1 i
  rw [he] at hk1
  have hres : cB (ck cl d (ePt e 1) (cBind (nI v0) t1 s1)) _ = res := hres
  refine z_call C 30 (c_C_bind (by omega) hv20 t1) w_C_bind ini_C d_C_lookAtBinding_27 rfl (z_goV (As := [.int (nI v0), .int t1]) C l_C_62 w_C_bind d_C_lookAtBinding_27 (by omega) ((kSt_c (by omega))) rfl rfl) (Nat.le_of_ble_eq_true rfl) (by rw [hR]; simp only [zRm]; omega) (by rw [hR]; simp only [zRm]; omega) (by rw [hR]; simp only [zRm]; omega) (by rw [hR]; simp only [zRm]; omega) (fun v n' σ' hv => ?_) (fun x n' σ' hv => ?_)
  rotate_left
  · cases hv.1
  obtain ⟨e0, rfl, rfl⟩ := hv
  cases e0
  refine z_aload_n C 31 d_C_lookAtBinding_30 rfl rfl ?_
  refine z_aload_n C 32 d_C_lookAtBinding_31 rfl rfl ?_
  refine z_get C 35 f_C_119 d_C_lookAtBinding_32 rfl (by omega) (kSt_eq (s := cBind (nI v0) t1 s1) (by omega) hc hi hk1) rfl ?_
  refine z_iconst C 36 d_C_lookAtBinding_35 rfl 1 (by decide) ?_
  refine z_aald C 37 (t := 5) 1 (some (B + 2 * ePt e 1)) d_C_lookAtBinding_36 rfl (by omega) (kSt_pq (s := cBind (nI v0) t1 s1) (by omega) hc hi hk1) rfl rfl rfl (by omega) (by decide) (by show (e.2.2.1 1).map _ = _; rw [hp1j]; rfl) ?_
  refine zk_sub C 40 (fun mc ms hm => KX B N c F f σ xs xr xa xl xf cl (ePt e 1) (cBind (nI v0) t1 s1) mc ms hp0 (hw.sm sm1) ((hdp 1 (by omega)).sm sm1) hp1N hm) w_C_look ini_C d_C_lookAtBinding_37 rfl (z_goV (As := [.ref (B + 2 * ePt e 1)]) C l_C_69 w_C_look d_C_lookAtBinding_37 (by omega) ((kSt_c (by omega))) rfl rfl) (Nat.le_of_ble_eq_true rfl) (by rw [hR]; simp only [zRm]; omega) (by rw [hR]; simp only [zRm]; omega) hmc' hms' hpo hm' (fun q' hq' => by rw [← hres, hq']; rfl) (fun t2 s2 hq2 => ?_)
  rw [hq2] at hres
  have sm2 := sm1.trans (ck_sm (s := cBind (nI v0) t1 s1) hq2)
  obtain ⟨k2, hk2⟩ := sm2 i
  rw [he] at hk2
  have hres : (if cOwn s2.2.1 (nI v0) then .inl (eVp e) else .inr (t2, upd s2.1 v0 (-1), s2.2)) = res := hres
  refine z_istore_n C 41 d_C_lookAtBinding_40 rfl (by decide) ?_
  refine z_aload_n C 42 d_C_lookAtBinding_41 rfl rfl ?_
  refine z_aload_n C 43 d_C_lookAtBinding_42 rfl rfl ?_
  refine z_get (v := .int (nI v0)) C 46 f_C_130 d_C_lookAtBinding_43 rfl (by omega) (kSt_eq (by omega) hc hi hk2) (by rw [← ev]; rfl) ?_
  refine z_aload_n C 47 d_C_lookAtBinding_46 rfl rfl ?_
  refine z_get (v := .int (eVp e)) C 50 f_C_133 d_C_lookAtBinding_47 rfl (by omega) (kSt_eq (by omega) hc hi hk2) rfl ?_
  refine zk_sub C 53 (fun mc ms hm => c_C_refuseIfOwned (by omega) hc hc9 (nI v0) (eVp e) hm) w_C_refuseIfOwned ini_C d_C_lookAtBinding_50 rfl (z_goV (As := [.int (nI v0), .int (eVp e)]) C l_C_81 w_C_refuseIfOwned d_C_lookAtBinding_50 (by omega) ((kSt_c (by omega))) rfl rfl) (Nat.le_of_ble_eq_true rfl) (by rw [hR]; simp only [zRm]; omega) (by rw [hR]; simp only [zRm]; omega) hmc' hms' hpo hm' (fun q' hq' => by by_cases q1 : cOwn s2.2.1 (nI v0); { rw [if_pos q1] at hq' hres; cases hq'; exact hres.symm }; { rw [if_neg q1] at hq'; cases hq' }) (fun t3 s3 hq3 => ?_)
  have q2 : ¬ cOwn s2.2.1 (nI v0) := fun q1 => by rw [if_pos q1] at hq3; cases hq3
  rw [if_neg q2] at hq3 hres
  cases hq3
  refine z_aload_n C 54 d_C_lookAtBinding_53 rfl rfl ?_
  refine z_get C 57 f_C_9 d_C_lookAtBinding_54 rfl (by omega) (kSt_c (by omega)) rfl ?_
  refine z_aload_n C 58 d_C_lookAtBinding_57 rfl rfl ?_
  refine z_get (v := .int (nI v0)) C 61 f_C_130 d_C_lookAtBinding_58 rfl (by omega) (kSt_eq (by omega) hc hi hk2) (by rw [← ev]; rfl) ?_
  refine z_iconst C 62 d_C_lookAtBinding_61 rfl (-1) (by decide) ?_
  refine z_iast C 63 v0 d_C_lookAtBinding_62 rfl (by omega) (kSt_t (by omega)) rfl hv20 (by decide) ?_
  rw [kSt_typ (by omega)]
  refine z_iload_n C 64 d_C_lookAtBinding_63 rfl rfl ?_
  exact z_iret C rfl d_C_lookAtBinding_64 (by rw [hpo]; exact (by rw [← hres]; exact ⟨rfl, rfl, rfl⟩)) (by rw [hmc]; omega) (by rw [hms]; omega)
theorem c_C_lookAtCall {e : eN} (KX : kHyp G l d) (hp : kPre B N c F σ xf cl f) (hw : eWf N s.2.2) (hi : i < N) (he : s.2.2 i = e) (hdp : ∀ j, j < e.2.2.2.1 → eDp s.2.2 d (ePt e j)) {mc ms : Nat} (hm : (∃ q', cCall cl (ck cl d) i e s = .inl q') → 1 ≤ mc ∧ 6 ≤ ms) :
    MetZ G l y_C_lookAtCall b_C_lookAtCall 4 (some .int) [] (8 + 3 * d + 2) mc ms [.ref c, .ref (B + 2 * i)] (c + 2) (kSt B N c F σ xs xr xa xl xf s) (kPost B N c F σ xs xr xa xl xf kvI (cCall cl (ck cl d) i e s)) := by
  obtain ⟨res, hres⟩ : ∃ x, cCall cl (ck cl d) i e s = x := ⟨_, rfl⟩
  rw [hres] at hm ⊢
  have hp0 := hp
  obtain ⟨hF, hFB, hc, hc9, hf8, ⟨fcn, fY, fres, hclf⟩, hoth, hcls⟩ := hp
  have hwi := hw i hi
  rw [he] at hwi
  obtain ⟨hk14, hc4, ⟨v0, hv20, ev⟩, ⟨g, hg8, eg⟩, hpt, hct⟩ := hwi
  have hix : cIx (eNm e) = g := by rw [eg]; exact nI_clamp (by omega)
  unfold cCall at hres
  rw [hix] at hres
  obtain ⟨-, hFB', -, hfn4, fbd, hFc⟩ := hcls f F fcn fY fres hf8 hclf
  refine MetZ.of (by decide) (Nat.le_of_ble_eq_true rfl) (fun K hK hR hpo hmc hms C => ?_)
  subst hK
  have hmc' : (kR K).cells ≤ kmc K := by rw [hR, hmc]; exact Nat.le_refl _
  have hms' : (kR K).slots ≤ kms K := by rw [hR, hms]; exact Nat.le_refl _
  have hm' : (∃ q, res = .inl q) → 1 ≤ (kR K).cells ∧ 6 ≤ (kR K).slots := by rw [hR]; exact hm
  have bad : ∀ lv, zl lv 0 = some (.ref c) → zl lv 1 = some (.ref (B + 2 * i)) → res = .inl e.2.1 → Z G K (c + 2) (kSt B N c F σ xs xr xa xl xf s) 0 0 46 lv [] := fun lv l0 l1 hr => by
    have hb := hm ⟨_, hr⟩
    refine z_aload_n C 47 d_C_lookAtCall_46 rfl l0 ?_
    refine z_get C 50 f_C_27 d_C_lookAtCall_47 rfl (by omega) (kSt_c (by omega)) rfl ?_
    refine z_aload_n C 51 d_C_lookAtCall_50 rfl l1 ?_
    refine z_get C 54 f_C_76 d_C_lookAtCall_51 rfl (by omega) (kSt_eq (by omega) hc hi he) rfl ?_
    refine z_call C 57 (c_T_wrong (by omega) (by omega) e.2.1) w_T_wrong ini_T d_C_lookAtCall_54 rfl (z_goV (As := [.int e.2.1]) C l_C_36 w_T_wrong d_C_lookAtCall_54 (by omega) (rfl) rfl rfl) (Nat.le_of_ble_eq_true rfl) (by rw [hR]; simp only [zRm]; omega) (by rw [hR]; simp only [zRm]; omega) (by rw [hR]; simp only [zRm]; omega) (by rw [hR]; simp only [zRm]; omega) (fun v n' σ' hv => ?_) (fun x n' σ' hv => ?_)
    · cases hv.1
    · obtain ⟨e0, rfl, rfl⟩ := hv
      cases e0
      exact zx_out C (fun h hh => nomatch hh) (by rw [hpo]; exact (by rw [hr]; exact kIll_mk hc)) (by rw [hmc]; omega) (by rw [hms]; omega)
  have body : ∀ (a cn : Nat) (Y : mS) (rs : Int32), cl g = some (a, cn, Y, rs) → Z G K (c + 2) (kSt B N c F σ xs xr xa xl xf s) 0 0 31 [(2, .ref a), (0, .ref c), (1, .ref (B + 2 * i))] [] := fun a cn Y rs hcl => by
    obtain ⟨ha1, ha2, hY, hcn4, bd, hac⟩ := hcls g a cn Y rs hg8 hcl
    rw [hcl] at hres
    have hres : (if cn = e.2.2.2.1 then cB (cAll (ck cl d) e Y e.2.2.2.1 0 (s.1, s.2.1, va_up s.2.2 i (eCl (s.2.2 i) (some a)))) fun _ s1 => .inr (rs, s1) else .inl e.2.1) = res := hres
    have hac' : ∀ s1, kSt B N c F σ xs xr xa xl xf s1 a = gF a (nI g) cn rs bd := fun s1 => (kSt_lo hc (by omega) (by omega)).trans hac
    refine z_aload_n C 32 d_C_lookAtCall_31 rfl rfl ?_
    refine z_ifnull C 35 d_C_lookAtCall_32 rfl ?_
    refine z_aload_n C 36 d_C_lookAtCall_35 rfl rfl ?_
    refine z_get C 39 f_C_48 d_C_lookAtCall_36 rfl (by omega) (hac' s) rfl ?_
    refine z_aload_n C 40 d_C_lookAtCall_39 rfl rfl ?_
    refine z_get C 43 f_C_113 d_C_lookAtCall_40 rfl (by omega) (kSt_eq (by omega) hc hi he) rfl ?_
    by_cases q1 : cn = e.2.2.2.1
    rotate_left
    · rw [if_neg q1] at hres
      refine z_icmp_eq C 46 59 d_C_lookAtCall_43 rfl (by decide) (fun h9 => absurd h9 (fun w => q1 (nI_inj (by omega) (by omega) w))) (fun _ => ?_)
      exact bad _ rfl rfl hres.symm
    rw [if_pos q1] at hres
    refine z_icmp_eq C 46 59 d_C_lookAtCall_43 rfl (by decide) (fun _ => ?_) (fun h9 => absurd (by rw [q1]) h9)
    refine z_aload_n C 60 d_C_lookAtCall_59 rfl rfl ?_
    refine z_aload_n C 61 d_C_lookAtCall_60 rfl rfl ?_
    refine z_put C 64 p_C_139 d_C_lookAtCall_61 rfl (by omega) (kSt_eq (by omega) hc hi he) (z_ltb rfl) rfl rfl ?_
    show Z G K _ (va_up _ _ (eCell B i (eCl e (some a)))) _ _ _ _ _
    rw [kSt_exp (by omega) hc hi (by rw [he]; rfl)]
    have loop : ∀ (m j : Nat) (s1 : cS), m + j = e.2.2.2.1 → eSm s.2.2 s1.2.2 → (cB (cAll (ck cl d) e Y m j s1) fun _ s2 => .inr (rs, s2)) = res → Z G K (c + 2) (kSt B N c F σ xs xr xa xl xf s1) 0 0 66 [(3, .int (nI j)), (2, .ref a), (0, .ref c), (1, .ref (B + 2 * i))] [] := fun m => by
      induction m with
      | zero =>
        intro j s1 hj hsm hr
        obtain ⟨k, hk⟩ := hsm i
        rw [he] at hk
        refine z_iload_n C 67 d_C_lookAtCall_66 rfl rfl ?_
        refine z_aload_n C 68 d_C_lookAtCall_67 rfl rfl ?_
        refine z_get C 71 f_C_113 d_C_lookAtCall_68 rfl (by omega) (kSt_eq (by omega) hc hi hk) rfl ?_
        refine z_icmp_ge C 74 96 d_C_lookAtCall_71 rfl (by decide) (fun _ => ?_) (fun h9 => absurd ((nI_leI (a := e.2.2.2.1) (b := j) (by omega) (by omega)).mpr (by omega)) h9)
        refine z_aload_n C 97 d_C_lookAtCall_96 rfl rfl ?_
        refine z_get C 100 f_C_73 d_C_lookAtCall_97 rfl (by omega) (hac' _) rfl ?_
        exact z_iret C rfl d_C_lookAtCall_100 (by rw [hpo]; exact (by rw [← hr]; exact ⟨rfl, rfl, rfl⟩)) (by rw [hmc]; omega) (by rw [hms]; omega)
      | succ m ih =>
        intro j s1 hj hsm hr
        obtain ⟨k, hk⟩ := hsm i
        rw [he] at hk
        obtain ⟨hpj, hpN⟩ := hpt j (by omega)
        refine z_iload_n C 67 d_C_lookAtCall_66 rfl rfl ?_
        refine z_aload_n C 68 d_C_lookAtCall_67 rfl rfl ?_
        refine z_get C 71 f_C_113 d_C_lookAtCall_68 rfl (by omega) (kSt_eq (by omega) hc hi hk) rfl ?_
        refine z_icmp_ge C 74 96 d_C_lookAtCall_71 rfl (by decide) (fun h9 => absurd h9 (fun q => absurd ((nI_leI (a := e.2.2.2.1) (b := j) (by omega) (by omega)).mp q) (by omega))) (fun _ => ?_)
        refine z_aload_n C 75 d_C_lookAtCall_74 rfl rfl ?_
        refine z_aload_n C 76 d_C_lookAtCall_75 rfl rfl ?_
        refine z_get C 79 f_C_119 d_C_lookAtCall_76 rfl (by omega) (kSt_eq (by omega) hc hi hk) rfl ?_
        refine z_iload_n C 80 d_C_lookAtCall_79 rfl rfl ?_
        refine z_aald C 81 (t := 5) j (some (B + 2 * ePt e j)) d_C_lookAtCall_80 rfl (by omega) (kSt_pq (by omega) hc hi hk) rfl rfl rfl (by omega) (by decide) (by show (e.2.2.1 j).map _ = _; rw [hpj]; rfl) ?_
        refine z_aload_n C 82 d_C_lookAtCall_81 rfl rfl ?_
        refine z_get C 85 f_C_61 d_C_lookAtCall_82 rfl (by omega) (hac' _) rfl ?_
        refine z_iload_n C 86 d_C_lookAtCall_85 rfl rfl ?_
        refine z_iald C 87 j d_C_lookAtCall_86 rfl (by omega) ((kSt_lo hc (by omega) (by omega)).trans hY) rfl (by omega) (by decide) ?_
        refine zk_sub C 90 (fun mc ms hm => c_C_lookAtPart (s := s1) KX hp0 (hw.sm hsm) ((hdp j (by omega)).sm hsm) hpN (Y j) hm) w_C_lookAtPart ini_C d_C_lookAtCall_87 rfl (z_goV (As := [.ref (B + 2 * ePt e j), .int (Y j)]) C l_C_126 w_C_lookAtPart d_C_lookAtCall_87 (by omega) ((kSt_c (by omega))) rfl rfl) (Nat.le_of_ble_eq_true rfl) (by rw [hR]; simp only [zRm]; omega) (by rw [hR]; simp only [zRm]; omega) hmc' hms' hpo hm' (fun q' hq' => by rw [← hr]; show cB (cB _ _) _ = _; rw [hq']; rfl) (fun t s' hq => ?_)
        have hr : (cB (cB (cPart (ck cl d) (ePt e j) (Y j) s1) fun _ s1 => cAll (ck cl d) e Y m (j + 1) s1) fun _ s2 => .inr (rs, s2)) = res := hr
        rw [hq] at hr
        refine z_iinc C 93 d_C_lookAtCall_90 rfl (nI (j + 1)) rfl (z_inc j) (by decide) ?_
        refine z_goto C 66 d_C_lookAtCall_93 (by decide) ?_
        exact ih (j + 1) s' (by omega) (hsm.trans (cPart_sm hq)) hr
    refine z_iconst C 65 d_C_lookAtCall_64 rfl 0 (by decide) ?_
    refine z_istore_n C 66 d_C_lookAtCall_65 rfl (by decide) ?_
    refine loop e.2.2.2.1 0 _ (by omega) ?_ ?_
    · show eSm s.2.2 (va_up s.2.2 i (eCl e (some a)))
      rw [← he]
      exact eSm.up
    · rw [← hres, he]
  refine z_aload_n C 1 d_C_lookAtCall_0 rfl rfl ?_
  refine z_get (v := .int (nI g)) C 4 f_C_136 d_C_lookAtCall_1 rfl (by omega) (kSt_eq (by omega) hc hi he) (by rw [← eg]; rfl) ?_
  refine z_aload_n C 5 d_C_lookAtCall_4 rfl rfl ?_
  refine z_get C 8 f_C_19 d_C_lookAtCall_5 rfl (by omega) (kSt_c (by omega)) rfl ?_
  refine z_get C 11 f_C_31 d_C_lookAtCall_8 rfl (by omega) ((kSt_lo hc (by omega) (by omega)).trans hFc) rfl ?_
  by_cases q1 : g = f
  · refine z_icmp_ne C 14 21 d_C_lookAtCall_11 rfl (by decide) (fun h9 => absurd (by rw [q1]) h9) (fun _ => ?_)
    refine z_aload_n C 15 d_C_lookAtCall_14 rfl rfl ?_
    refine z_get C 18 f_C_19 d_C_lookAtCall_15 rfl (by omega) (kSt_c (by omega)) rfl ?_
    refine z_goto C 30 d_C_lookAtCall_18 (by decide) ?_
    refine z_astore_n C 31 d_C_lookAtCall_30 rfl (by decide) ?_
    exact body F fcn fY fres (by rw [q1]; exact hclf)
  · refine z_icmp_ne C 14 21 d_C_lookAtCall_11 rfl (by decide) (fun _ => ?_) (fun h9 => absurd h9 (fun w => q1 (nI_inj (by omega) (by omega) w)))
    refine z_aload_n C 22 d_C_lookAtCall_21 rfl rfl ?_
    refine z_get C 25 f_C_23 d_C_lookAtCall_22 rfl (by omega) (kSt_c (by omega)) rfl ?_
    refine z_aload_n C 26 d_C_lookAtCall_25 rfl rfl ?_
    refine z_get (v := .int (nI g)) C 29 f_C_136 d_C_lookAtCall_26 rfl (by omega) (kSt_eq (by omega) hc hi he) (by rw [← eg]; rfl) ?_
    rcases hoth g hg8 q1 with ⟨hx, hcl⟩ | ⟨a, cn, Y, rs, hx, hcl⟩
    · refine z_aald C 30 (t := 4) g none d_C_lookAtCall_29 rfl (by omega) rfl rfl rfl rfl hg8 (by decide) hx ?_
      refine z_astore_nN C 31 d_C_lookAtCall_30 rfl (by decide) ?_
      refine z_aload_nN C 32 d_C_lookAtCall_31 rfl rfl ?_
      refine z_ifnullN C 46 d_C_lookAtCall_32 (by decide) ?_
      rw [hcl] at hres
      exact bad _ rfl rfl hres.symm
    · refine z_aald C 30 (t := 4) g (some a) d_C_lookAtCall_29 rfl (by omega) rfl rfl rfl rfl hg8 (by decide) hx ?_
      refine z_astore_n C 31 d_C_lookAtCall_30 rfl (by decide) ?_
      exact body a cn Y rs hcl

theorem ckS_0 {L : Nat → cS → cR} {e : eN} (h : e.1 = 0) : ckS cl L i e s = (cB (cNum L e s) fun _ s1 => .inr (0, s1)) := by
  unfold ckS
  rw [h]
  rfl
theorem ckS_1 {L : Nat → cS → cR} {e : eN} (h : e.1 = 1) : ckS cl L i e s = (cUse e 0 2 s) := by
  unfold ckS
  rw [h]
  rfl
theorem ckS_2 {L : Nat → cS → cR} {e : eN} (h : e.1 = 2) : ckS cl L i e s = (cB (cNum L e s) fun _ s1 => .inr (0, s1)) := by
  unfold ckS
  rw [h]
  rfl
theorem ckS_3 {L : Nat → cS → cR} {e : eN} (h : e.1 = 3) : ckS cl L i e s = (cCho L e s) := by
  unfold ckS
  rw [h]
  rfl
theorem ckS_4 {L : Nat → cS → cR} {e : eN} (h : e.1 = 4) : ckS cl L i e s = (cBnd L e s) := by
  unfold ckS
  rw [h]
  rfl
theorem ckS_5 {L : Nat → cS → cR} {e : eN} (h : e.1 = 5) : ckS cl L i e s = (cB (cNum L e s) fun _ s1 => .inr (1, s1)) := by
  unfold ckS
  rw [h]
  rfl
theorem ckS_6 {L : Nat → cS → cR} {e : eN} (h : e.1 = 6) : ckS cl L i e s = (cB (cNum L e s) fun _ s1 => .inr (2, s1)) := by
  unfold ckS
  rw [h]
  rfl
theorem ckS_7 {L : Nat → cS → cR} {e : eN} (h : e.1 = 7) : ckS cl L i e s = (cB (cNum L e s) fun _ s1 => cVr0 (cVar e (if e.2.2.2.1 = 1 then 1 else 2) (if e.2.2.2.1 = 1 then 1 else 2) s1) s1) := by
  unfold ckS
  rw [h]
  rfl
theorem ckS_8 {L : Nat → cS → cR} {e : eN} (h : e.1 = 8) : ckS cl L i e s = (cB (cNum L e s) fun _ s1 => cUse e (if e.2.2.2.1 = 2 then 1 else 2) (if e.2.2.2.1 = 2 then 1 else 2) s1) := by
  unfold ckS
  rw [h]
  rfl
theorem ckS_9 {L : Nat → cS → cR} {e : eN} (h : e.1 = 9) : ckS cl L i e s = (cVr0 (cVar e 1 2 s) s) := by
  unfold ckS
  rw [h]
  rfl
theorem ckS_10 {L : Nat → cS → cR} {e : eN} (h : e.1 = 10) : ckS cl L i e s = (cVr0 (cVar e 2 2 s) s) := by
  unfold ckS
  rw [h]
  rfl
theorem ckS_11 {L : Nat → cS → cR} {e : eN} (h : e.1 = 11) : ckS cl L i e s = (cVrT (cVar e 1 2 s) s) := by
  unfold ckS
  rw [h]
  rfl
theorem ckS_12 {L : Nat → cS → cR} {e : eN} (h : e.1 = 12) : ckS cl L i e s = (cB (cUse e 1 2 s) fun _ s1 => L (ePt e 0) s1) := by
  unfold ckS
  rw [h]
  rfl
theorem ckS_13 {L : Nat → cS → cR} {e : eN} (h : e.1 = 13) : ckS cl L i e s = (cCall cl L i e s) := by
  unfold ckS
  rw [h]
  rfl
theorem cVr_0 {x : Int32 ⊕ Int32} {q : Int32} (h : cVrT x s = .inl q) : cVr0 x s = .inl q := by
  cases x with
  | inl a => exact h
  | inr a => cases h
theorem cVr_1 {e : eN} {lo hi' t : Int32} {s' : cS} (h : cVrT (cVar e lo hi' s) s = .inr (t, s')) : cVr0 (cVar e lo hi' s) s = .inr (0, s') := by
  cases hx : cVar e lo hi' s with
  | inl a => rw [hx] at h; cases h
  | inr a => rw [hx] at h; cases h; rfl
theorem kHyp_0 : kHyp G l 0 := fun B N c F f σ xs xr xa xl xf cl i s mc ms _ _ hd => False.elim hd
theorem kHyp_s (KX : kHyp G l d) : kHyp G l (d + 1) := by
  intro B N c F f σ xs xr xa xl xf cl i s mc ms hp hw hdp0 hi
  obtain ⟨res, hres⟩ : ∃ x, ck cl (d + 1) i s = x := ⟨_, rfl⟩
  rw [hres]
  intro hm
  obtain ⟨e, he⟩ : ∃ x, s.2.2 i = x := ⟨_, rfl⟩
  have hres : ckS cl (ck cl d) i (s.2.2 i) s = res := hres
  have hdp : ∀ j, j < e.2.2.2.1 → eDp s.2.2 d (ePt e j) := by rw [← he]; exact hdp0
  rw [he] at hres
  have hp0 := hp
  obtain ⟨hF, hFB, hc, hc9, hf8, ⟨fcn, fY, fres, hclf⟩, hoth, hcls⟩ := hp
  have hwi := hw i hi
  rw [he] at hwi
  obtain ⟨hk14, hc4, ⟨v0, hv20, ev⟩, ⟨g, hg8, eg⟩, hpt, hct⟩ := hwi
  refine MetZ.of (by decide) (Nat.le_of_ble_eq_true rfl) (fun K hK hR hpo hmc hms C => ?_)
  subst hK
  have hmc' : (kR K).cells ≤ kmc K := by rw [hR, hmc]; exact Nat.le_refl _
  have hms' : (kR K).slots ≤ kms K := by rw [hR, hms]; exact Nat.le_refl _
  have hm' : (∃ q, res = .inl q) → 1 ≤ (kR K).cells ∧ 6 ≤ (kR K).slots := by rw [hR]; exact hm
  refine z_getsM C 3 sm_C_84 d_C_look_0 rfl ?_
  refine z_aload_n C 4 d_C_look_3 rfl rfl ?_
  refine z_get C 7 f_C_89 d_C_look_4 rfl (by omega) (kSt_eq (by omega) hc hi he) rfl ?_
  refine z_call C 10 (c_ord hk14) w_ord ini_Enum d_C_look_7 rfl (z_goU C hk14 lo_C_93 d_C_look_7) (Nat.le_of_ble_eq_true rfl) (by rw [hR]; simp only [zRm]; omega) (by rw [hR]; simp only [zRm]; omega) (by rw [hR]; simp only [zRm]; omega) (by rw [hR]; simp only [zRm]; omega) (fun v n' σ' hv => ?_) (fun x n' σ' hv => ?_)
  rotate_left
  · cases hv.1
  obtain ⟨e0, rfl, rfl⟩ := hv
  cases e0
  refine z_ialdM C 11 e.1 hk14 d_C_look_10 rfl ?_

  have hcase : e.1 = 0 ∨ e.1 = 1 ∨ e.1 = 2 ∨ e.1 = 3 ∨ e.1 = 4 ∨ e.1 = 5 ∨ e.1 = 6 ∨ e.1 = 7 ∨ e.1 = 8 ∨ e.1 = 9 ∨ e.1 = 10 ∨ e.1 = 11 ∨ e.1 = 12 ∨ e.1 = 13 := by omega
  rcases hcase with hk | hk | hk | hk | hk | hk | hk | hk | hk | hk | hk | hk | hk | hk
  · rw [ckS_0 hk] at hres
    rw [hk]
    refine z_tableOut C 215 d_C_look_11 (by decide) (by decide) ?_
    refine z_aload_n C 216 d_C_look_215 rfl rfl ?_
    refine z_aload_n C 217 d_C_look_216 rfl rfl ?_
    refine zk_sub C 220 (fun mc ms hm => c_C_lookAtNumbers KX hp0 hw hi he hdp hm) w_C_lookAtNumbers ini_C d_C_look_217 rfl (z_goV (As := [.ref (B + 2 * i)]) C l_C_109 w_C_lookAtNumbers d_C_look_217 (by omega) ((kSt_c (by omega))) rfl rfl) (Nat.le_of_ble_eq_true rfl) (by rw [hR]; simp only [zRm]; omega) (by rw [hR]; simp only [zRm]; omega) hmc' hms' hpo hm' (fun q' hq' => by rw [← hres, hq']; rfl) (fun t1 s1 hq1 => ?_)
    rw [hq1] at hres
    refine z_iconst C 221 d_C_look_220 rfl 0 (by decide) ?_
    exact z_iret C rfl d_C_look_221 (by rw [hpo]; exact (by rw [← hres]; exact ⟨rfl, rfl, rfl⟩)) (by rw [hmc]; omega) (by rw [hms]; omega)
  · rw [ckS_1 hk] at hres
    rw [hk]
    refine z_tableIn C 72 d_C_look_11 (by decide) (by decide) (off := 61) (by decide) (by decide) ?_
    refine z_aload_n C 73 d_C_look_72 rfl rfl ?_
    refine z_aload_n C 74 d_C_look_73 rfl rfl ?_
    refine z_iconst C 75 d_C_look_74 rfl 0 (by decide) ?_
    refine z_iconst C 76 d_C_look_75 rfl 2 (by decide) ?_
    refine zk_sub C 79 (fun mc ms hm => c_C_useUp (by omega) hc hc9 hi (hw i hi) 0 2 hm) w_C_useUp ini_C d_C_look_76 rfl (z_goV (As := [.ref (B + 2 * i), .int 0, .int 2]) C l_C_99 w_C_useUp d_C_look_76 (by omega) ((kSt_c (by omega))) rfl rfl) (Nat.le_of_ble_eq_true rfl) (by rw [hR]; simp only [zRm]; omega) (by rw [hR]; simp only [zRm]; omega) hmc' hms' hpo hm' (fun q' hq' => by rw [he] at hq'; rw [← hres]; exact hq') (fun t1 s1 hq1 => ?_)
    rw [he] at hq1
    rw [hq1] at hres
    exact z_iret C rfl d_C_look_79 (by rw [hpo]; exact (by rw [← hres]; exact ⟨rfl, rfl, rfl⟩)) (by rw [hmc]; omega) (by rw [hms]; omega)
  · rw [ckS_2 hk] at hres
    rw [hk]
    refine z_tableOut C 215 d_C_look_11 (by decide) (by decide) ?_
    refine z_aload_n C 216 d_C_look_215 rfl rfl ?_
    refine z_aload_n C 217 d_C_look_216 rfl rfl ?_
    refine zk_sub C 220 (fun mc ms hm => c_C_lookAtNumbers KX hp0 hw hi he hdp hm) w_C_lookAtNumbers ini_C d_C_look_217 rfl (z_goV (As := [.ref (B + 2 * i)]) C l_C_109 w_C_lookAtNumbers d_C_look_217 (by omega) ((kSt_c (by omega))) rfl rfl) (Nat.le_of_ble_eq_true rfl) (by rw [hR]; simp only [zRm]; omega) (by rw [hR]; simp only [zRm]; omega) hmc' hms' hpo hm' (fun q' hq' => by rw [← hres, hq']; rfl) (fun t1 s1 hq1 => ?_)
    rw [hq1] at hres
    refine z_iconst C 221 d_C_look_220 rfl 0 (by decide) ?_
    exact z_iret C rfl d_C_look_221 (by rw [hpo]; exact (by rw [← hres]; exact ⟨rfl, rfl, rfl⟩)) (by rw [hmc]; omega) (by rw [hms]; omega)
  · rw [ckS_3 hk] at hres
    rw [hk]
    refine z_tableIn C 80 d_C_look_11 (by decide) (by decide) (off := 69) (by decide) (by decide) ?_
    refine z_aload_n C 81 d_C_look_80 rfl rfl ?_
    refine z_aload_n C 82 d_C_look_81 rfl rfl ?_
    refine zk_sub C 85 (fun mc ms hm => c_C_lookAtChoice KX hp0 hw hi he hk hdp hm) w_C_lookAtChoice ini_C d_C_look_82 rfl (z_goV (As := [.ref (B + 2 * i)]) C l_C_103 w_C_lookAtChoice d_C_look_82 (by omega) ((kSt_c (by omega))) rfl rfl) (Nat.le_of_ble_eq_true rfl) (by rw [hR]; simp only [zRm]; omega) (by rw [hR]; simp only [zRm]; omega) hmc' hms' hpo hm' (fun q' hq' => by rw [← hres]; exact hq') (fun t1 s1 hq1 => ?_)
    rw [hq1] at hres
    exact z_iret C rfl d_C_look_85 (by rw [hpo]; exact (by rw [← hres]; exact ⟨rfl, rfl, rfl⟩)) (by rw [hmc]; omega) (by rw [hms]; omega)
  · rw [ckS_4 hk] at hres
    rw [hk]
    refine z_tableIn C 86 d_C_look_11 (by decide) (by decide) (off := 75) (by decide) (by decide) ?_
    refine z_aload_n C 87 d_C_look_86 rfl rfl ?_
    refine z_aload_n C 88 d_C_look_87 rfl rfl ?_
    refine zk_sub C 91 (fun mc ms hm => c_C_lookAtBinding KX hp0 hw hi he hk hdp hm) w_C_lookAtBinding ini_C d_C_look_88 rfl (z_goV (As := [.ref (B + 2 * i)]) C l_C_106 w_C_lookAtBinding d_C_look_88 (by omega) ((kSt_c (by omega))) rfl rfl) (Nat.le_of_ble_eq_true rfl) (by rw [hR]; simp only [zRm]; omega) (by rw [hR]; simp only [zRm]; omega) hmc' hms' hpo hm' (fun q' hq' => by rw [← hres]; exact hq') (fun t1 s1 hq1 => ?_)
    rw [hq1] at hres
    exact z_iret C rfl d_C_look_91 (by rw [hpo]; exact (by rw [← hres]; exact ⟨rfl, rfl, rfl⟩)) (by rw [hmc]; omega) (by rw [hms]; omega)
  · rw [ckS_5 hk] at hres
    rw [hk]
    refine z_tableIn C 92 d_C_look_11 (by decide) (by decide) (off := 81) (by decide) (by decide) ?_
    refine z_aload_n C 93 d_C_look_92 rfl rfl ?_
    refine z_aload_n C 94 d_C_look_93 rfl rfl ?_
    refine zk_sub C 97 (fun mc ms hm => c_C_lookAtNumbers KX hp0 hw hi he hdp hm) w_C_lookAtNumbers ini_C d_C_look_94 rfl (z_goV (As := [.ref (B + 2 * i)]) C l_C_109 w_C_lookAtNumbers d_C_look_94 (by omega) ((kSt_c (by omega))) rfl rfl) (Nat.le_of_ble_eq_true rfl) (by rw [hR]; simp only [zRm]; omega) (by rw [hR]; simp only [zRm]; omega) hmc' hms' hpo hm' (fun q' hq' => by rw [← hres, hq']; rfl) (fun t1 s1 hq1 => ?_)
    rw [hq1] at hres
    refine z_iconst C 98 d_C_look_97 rfl 1 (by decide) ?_
    exact z_iret C rfl d_C_look_98 (by rw [hpo]; exact (by rw [← hres]; exact ⟨rfl, rfl, rfl⟩)) (by rw [hmc]; omega) (by rw [hms]; omega)
  · rw [ckS_6 hk] at hres
    rw [hk]
    refine z_tableIn C 99 d_C_look_11 (by decide) (by decide) (off := 88) (by decide) (by decide) ?_
    refine z_aload_n C 100 d_C_look_99 rfl rfl ?_
    refine z_aload_n C 101 d_C_look_100 rfl rfl ?_
    refine zk_sub C 104 (fun mc ms hm => c_C_lookAtNumbers KX hp0 hw hi he hdp hm) w_C_lookAtNumbers ini_C d_C_look_101 rfl (z_goV (As := [.ref (B + 2 * i)]) C l_C_109 w_C_lookAtNumbers d_C_look_101 (by omega) ((kSt_c (by omega))) rfl rfl) (Nat.le_of_ble_eq_true rfl) (by rw [hR]; simp only [zRm]; omega) (by rw [hR]; simp only [zRm]; omega) hmc' hms' hpo hm' (fun q' hq' => by rw [← hres, hq']; rfl) (fun t1 s1 hq1 => ?_)
    rw [hq1] at hres
    refine z_iconst C 105 d_C_look_104 rfl 2 (by decide) ?_
    exact z_iret C rfl d_C_look_105 (by rw [hpo]; exact (by rw [← hres]; exact ⟨rfl, rfl, rfl⟩)) (by rw [hmc]; omega) (by rw [hms]; omega)
  · rw [ckS_7 hk] at hres
    rw [hk]
    refine z_tableIn C 106 d_C_look_11 (by decide) (by decide) (off := 95) (by decide) (by decide) ?_
    refine z_aload_n C 107 d_C_look_106 rfl rfl ?_
    refine z_aload_n C 108 d_C_look_107 rfl rfl ?_
    refine zk_sub C 111 (fun mc ms hm => c_C_lookAtNumbers KX hp0 hw hi he hdp hm) w_C_lookAtNumbers ini_C d_C_look_108 rfl (z_goV (As := [.ref (B + 2 * i)]) C l_C_109 w_C_lookAtNumbers d_C_look_108 (by omega) ((kSt_c (by omega))) rfl rfl) (Nat.le_of_ble_eq_true rfl) (by rw [hR]; simp only [zRm]; omega) (by rw [hR]; simp only [zRm]; omega) hmc' hms' hpo hm' (fun q' hq' => by rw [← hres, hq']; rfl) (fun t1 s1 hq1 => ?_)
    rw [hq1] at hres
    have sm1 : eSm s.2.2 s1.2.2 := by have kk := cAll_keep (L := ck cl d) (ck_keep (cl := cl) d) (e := e) (W := fun _ => 0) e.2.2.2.1 0 s; rw [show cAll (ck cl d) e (fun _ => 0) e.2.2.2.1 0 s = _ from hq1] at kk; exact kk
    obtain ⟨k1, hk1⟩ := sm1 i
    rw [he] at hk1
    have hwe := hw.sm sm1 i hi
    refine z_aload_n C 112 d_C_look_111 rfl rfl ?_
    refine z_get C 115 f_C_113 d_C_look_112 rfl (by omega) (kSt_eq (by omega) hc hi hk1) rfl ?_
    refine z_iconst C 116 d_C_look_115 rfl 1 (by decide) ?_
    by_cases qc : e.2.2.2.1 = 1
    · simp only [if_pos qc] at hres
      refine z_icmp_ne C 119 123 d_C_look_116 rfl (by decide) (fun h9 => absurd (show nI e.2.2.2.1 = 1 by rw [qc]; rfl) h9) (fun _ => ?_)
      refine z_iconst C 120 d_C_look_119 rfl 1 (by decide) ?_
      refine z_goto C 124 d_C_look_120 (by decide) ?_
      refine z_istore_n C 125 d_C_look_124 rfl (by decide) ?_
      refine z_aload_n C 126 d_C_look_125 rfl rfl ?_
      refine z_aload_n C 127 d_C_look_126 rfl rfl ?_
      refine z_iload_n C 128 d_C_look_127 rfl rfl ?_
      refine z_iload_n C 129 d_C_look_128 rfl rfl ?_
      refine zk_sub C 132 (fun mc ms hm => c_C_lookAtVariable (by omega) hc hc9 hi hwe 1 1 hm) w_C_lookAtVariable ini_C d_C_look_129 rfl (z_goV (As := [.ref (B + 2 * i), .int 1, .int 1]) C l_C_116 w_C_lookAtVariable d_C_look_129 (by omega) ((kSt_c (by omega))) rfl rfl) (Nat.le_of_ble_eq_true rfl) (by rw [hR]; simp only [zRm]; omega) (by rw [hR]; simp only [zRm]; omega) hmc' hms' hpo hm' (fun q' hq' => by rw [hk1] at hq'; have hr2 : cVr0 (cVar e 1 1 s1) s1 = res := hres; rw [← hr2]; exact cVr_0 hq') (fun t2 s2 hq2 => ?_)
      have hr2 : cVr0 (cVar e 1 1 s1) s1 = res := hres
      rw [hk1] at hq2
      have hr3 := cVr_1 (e := e) hq2
      rw [hr2] at hr3
      refine z_pop C 133 d_C_look_132 rfl rfl ?_
      refine z_iconst C 134 d_C_look_133 rfl 0 (by decide) ?_
      exact z_iret C rfl d_C_look_134 (by rw [hpo]; exact (by rw [hr3]; exact ⟨rfl, rfl, rfl⟩)) (by rw [hmc]; omega) (by rw [hms]; omega)
    · simp only [if_neg qc] at hres
      refine z_icmp_ne C 119 123 d_C_look_116 rfl (by decide) (fun _ => ?_) (fun h9 => absurd (show nI e.2.2.2.1 = nI 1 from h9) (fun w9 => qc (nI_inj (by omega) (by omega) w9)))
      refine z_iconst C 124 d_C_look_123 rfl 2 (by decide) ?_
      refine z_istore_n C 125 d_C_look_124 rfl (by decide) ?_
      refine z_aload_n C 126 d_C_look_125 rfl rfl ?_
      refine z_aload_n C 127 d_C_look_126 rfl rfl ?_
      refine z_iload_n C 128 d_C_look_127 rfl rfl ?_
      refine z_iload_n C 129 d_C_look_128 rfl rfl ?_
      refine zk_sub C 132 (fun mc ms hm => c_C_lookAtVariable (by omega) hc hc9 hi hwe 2 2 hm) w_C_lookAtVariable ini_C d_C_look_129 rfl (z_goV (As := [.ref (B + 2 * i), .int 2, .int 2]) C l_C_116 w_C_lookAtVariable d_C_look_129 (by omega) ((kSt_c (by omega))) rfl rfl) (Nat.le_of_ble_eq_true rfl) (by rw [hR]; simp only [zRm]; omega) (by rw [hR]; simp only [zRm]; omega) hmc' hms' hpo hm' (fun q' hq' => by rw [hk1] at hq'; have hr2 : cVr0 (cVar e 2 2 s1) s1 = res := hres; rw [← hr2]; exact cVr_0 hq') (fun t2 s2 hq2 => ?_)
      have hr2 : cVr0 (cVar e 2 2 s1) s1 = res := hres
      rw [hk1] at hq2
      have hr3 := cVr_1 (e := e) hq2
      rw [hr2] at hr3
      refine z_pop C 133 d_C_look_132 rfl rfl ?_
      refine z_iconst C 134 d_C_look_133 rfl 0 (by decide) ?_
      exact z_iret C rfl d_C_look_134 (by rw [hpo]; exact (by rw [hr3]; exact ⟨rfl, rfl, rfl⟩)) (by rw [hmc]; omega) (by rw [hms]; omega)
  · rw [ckS_8 hk] at hres
    rw [hk]
    refine z_tableIn C 135 d_C_look_11 (by decide) (by decide) (off := 124) (by decide) (by decide) ?_
    refine z_aload_n C 136 d_C_look_135 rfl rfl ?_
    refine z_aload_n C 137 d_C_look_136 rfl rfl ?_
    refine zk_sub C 140 (fun mc ms hm => c_C_lookAtNumbers KX hp0 hw hi he hdp hm) w_C_lookAtNumbers ini_C d_C_look_137 rfl (z_goV (As := [.ref (B + 2 * i)]) C l_C_109 w_C_lookAtNumbers d_C_look_137 (by omega) ((kSt_c (by omega))) rfl rfl) (Nat.le_of_ble_eq_true rfl) (by rw [hR]; simp only [zRm]; omega) (by rw [hR]; simp only [zRm]; omega) hmc' hms' hpo hm' (fun q' hq' => by rw [← hres, hq']; rfl) (fun t1 s1 hq1 => ?_)
    rw [hq1] at hres
    have sm1 : eSm s.2.2 s1.2.2 := by have kk := cAll_keep (L := ck cl d) (ck_keep (cl := cl) d) (e := e) (W := fun _ => 0) e.2.2.2.1 0 s; rw [show cAll (ck cl d) e (fun _ => 0) e.2.2.2.1 0 s = _ from hq1] at kk; exact kk
    obtain ⟨k1, hk1⟩ := sm1 i
    rw [he] at hk1
    have hwe := hw.sm sm1 i hi
    refine z_aload_n C 141 d_C_look_140 rfl rfl ?_
    refine z_get C 144 f_C_113 d_C_look_141 rfl (by omega) (kSt_eq (by omega) hc hi hk1) rfl ?_
    refine z_iconst C 145 d_C_look_144 rfl 2 (by decide) ?_
    by_cases qc : e.2.2.2.1 = 2
    · simp only [if_pos qc] at hres
      refine z_icmp_ne C 148 152 d_C_look_145 rfl (by decide) (fun h9 => absurd (show nI e.2.2.2.1 = 2 by rw [qc]; rfl) h9) (fun _ => ?_)
      refine z_iconst C 149 d_C_look_148 rfl 1 (by decide) ?_
      refine z_goto C 153 d_C_look_149 (by decide) ?_
      refine z_istore_n C 154 d_C_look_153 rfl (by decide) ?_
      refine z_aload_n C 155 d_C_look_154 rfl rfl ?_
      refine z_aload_n C 156 d_C_look_155 rfl rfl ?_
      refine z_iload_n C 157 d_C_look_156 rfl rfl ?_
      refine z_iload_n C 158 d_C_look_157 rfl rfl ?_
      refine zk_sub C 161 (fun mc ms hm => c_C_useUp (by omega) hc hc9 hi hwe 1 1 hm) w_C_useUp ini_C d_C_look_158 rfl (z_goV (As := [.ref (B + 2 * i), .int 1, .int 1]) C l_C_99 w_C_useUp d_C_look_158 (by omega) ((kSt_c (by omega))) rfl rfl) (Nat.le_of_ble_eq_true rfl) (by rw [hR]; simp only [zRm]; omega) (by rw [hR]; simp only [zRm]; omega) hmc' hms' hpo hm' (fun q' hq' => by rw [hk1] at hq'; rw [← hres]; exact hq') (fun t2 s2 hq2 => ?_)
      rw [hk1] at hq2
      have hr2 : cUse e 1 1 s1 = res := hres
      rw [show cUse e 1 1 s1 = _ from hq2] at hr2
      exact z_iret C rfl d_C_look_161 (by rw [hpo]; exact (by rw [← hr2]; exact ⟨rfl, rfl, rfl⟩)) (by rw [hmc]; omega) (by rw [hms]; omega)
    · simp only [if_neg qc] at hres
      refine z_icmp_ne C 148 152 d_C_look_145 rfl (by decide) (fun _ => ?_) (fun h9 => absurd (show nI e.2.2.2.1 = nI 2 from h9) (fun w9 => qc (nI_inj (by omega) (by omega) w9)))
      refine z_iconst C 153 d_C_look_152 rfl 2 (by decide) ?_
      refine z_istore_n C 154 d_C_look_153 rfl (by decide) ?_
      refine z_aload_n C 155 d_C_look_154 rfl rfl ?_
      refine z_aload_n C 156 d_C_look_155 rfl rfl ?_
      refine z_iload_n C 157 d_C_look_156 rfl rfl ?_
      refine z_iload_n C 158 d_C_look_157 rfl rfl ?_
      refine zk_sub C 161 (fun mc ms hm => c_C_useUp (by omega) hc hc9 hi hwe 2 2 hm) w_C_useUp ini_C d_C_look_158 rfl (z_goV (As := [.ref (B + 2 * i), .int 2, .int 2]) C l_C_99 w_C_useUp d_C_look_158 (by omega) ((kSt_c (by omega))) rfl rfl) (Nat.le_of_ble_eq_true rfl) (by rw [hR]; simp only [zRm]; omega) (by rw [hR]; simp only [zRm]; omega) hmc' hms' hpo hm' (fun q' hq' => by rw [hk1] at hq'; rw [← hres]; exact hq') (fun t2 s2 hq2 => ?_)
      rw [hk1] at hq2
      have hr2 : cUse e 2 2 s1 = res := hres
      rw [show cUse e 2 2 s1 = _ from hq2] at hr2
      exact z_iret C rfl d_C_look_161 (by rw [hpo]; exact (by rw [← hr2]; exact ⟨rfl, rfl, rfl⟩)) (by rw [hmc]; omega) (by rw [hms]; omega)
  · rw [ckS_9 hk] at hres
    rw [hk]
    refine z_tableIn C 162 d_C_look_11 (by decide) (by decide) (off := 151) (by decide) (by decide) ?_
    refine z_aload_n C 163 d_C_look_162 rfl rfl ?_
    refine z_aload_n C 164 d_C_look_163 rfl rfl ?_
    refine z_iconst C 165 d_C_look_164 rfl 1 (by decide) ?_
    refine z_iconst C 166 d_C_look_165 rfl 2 (by decide) ?_
    refine zk_sub C 169 (fun mc ms hm => c_C_lookAtVariable (by omega) hc hc9 hi (hw i hi) 1 2 hm) w_C_lookAtVariable ini_C d_C_look_166 rfl (z_goV (As := [.ref (B + 2 * i), .int 1, .int 2]) C l_C_116 w_C_lookAtVariable d_C_look_166 (by omega) ((kSt_c (by omega))) rfl rfl) (Nat.le_of_ble_eq_true rfl) (by rw [hR]; simp only [zRm]; omega) (by rw [hR]; simp only [zRm]; omega) hmc' hms' hpo hm' (fun q' hq' => by rw [he] at hq'; rw [← hres]; exact cVr_0 hq') (fun t1 s1 hq1 => ?_)
    rw [he] at hq1
    have hr3 := cVr_1 (e := e) hq1
    rw [hres] at hr3
    refine z_pop C 170 d_C_look_169 rfl rfl ?_
    refine z_iconst C 171 d_C_look_170 rfl 0 (by decide) ?_
    exact z_iret C rfl d_C_look_171 (by rw [hpo]; exact (by rw [hr3]; exact ⟨rfl, rfl, rfl⟩)) (by rw [hmc]; omega) (by rw [hms]; omega)
  · rw [ckS_10 hk] at hres
    rw [hk]
    refine z_tableIn C 172 d_C_look_11 (by decide) (by decide) (off := 161) (by decide) (by decide) ?_
    refine z_aload_n C 173 d_C_look_172 rfl rfl ?_
    refine z_aload_n C 174 d_C_look_173 rfl rfl ?_
    refine z_iconst C 175 d_C_look_174 rfl 2 (by decide) ?_
    refine z_iconst C 176 d_C_look_175 rfl 2 (by decide) ?_
    refine zk_sub C 179 (fun mc ms hm => c_C_lookAtVariable (by omega) hc hc9 hi (hw i hi) 2 2 hm) w_C_lookAtVariable ini_C d_C_look_176 rfl (z_goV (As := [.ref (B + 2 * i), .int 2, .int 2]) C l_C_116 w_C_lookAtVariable d_C_look_176 (by omega) ((kSt_c (by omega))) rfl rfl) (Nat.le_of_ble_eq_true rfl) (by rw [hR]; simp only [zRm]; omega) (by rw [hR]; simp only [zRm]; omega) hmc' hms' hpo hm' (fun q' hq' => by rw [he] at hq'; rw [← hres]; exact cVr_0 hq') (fun t1 s1 hq1 => ?_)
    rw [he] at hq1
    have hr3 := cVr_1 (e := e) hq1
    rw [hres] at hr3
    refine z_pop C 180 d_C_look_179 rfl rfl ?_
    refine z_iconst C 181 d_C_look_180 rfl 0 (by decide) ?_
    exact z_iret C rfl d_C_look_181 (by rw [hpo]; exact (by rw [hr3]; exact ⟨rfl, rfl, rfl⟩)) (by rw [hmc]; omega) (by rw [hms]; omega)
  · rw [ckS_11 hk] at hres
    rw [hk]
    refine z_tableIn C 182 d_C_look_11 (by decide) (by decide) (off := 171) (by decide) (by decide) ?_
    refine z_aload_n C 183 d_C_look_182 rfl rfl ?_
    refine z_aload_n C 184 d_C_look_183 rfl rfl ?_
    refine z_iconst C 185 d_C_look_184 rfl 1 (by decide) ?_
    refine z_iconst C 186 d_C_look_185 rfl 2 (by decide) ?_
    refine zk_sub C 189 (fun mc ms hm => c_C_lookAtVariable (by omega) hc hc9 hi (hw i hi) 1 2 hm) w_C_lookAtVariable ini_C d_C_look_186 rfl (z_goV (As := [.ref (B + 2 * i), .int 1, .int 2]) C l_C_116 w_C_lookAtVariable d_C_look_186 (by omega) ((kSt_c (by omega))) rfl rfl) (Nat.le_of_ble_eq_true rfl) (by rw [hR]; simp only [zRm]; omega) (by rw [hR]; simp only [zRm]; omega) hmc' hms' hpo hm' (fun q' hq' => by rw [he] at hq'; rw [← hres]; exact hq') (fun t1 s1 hq1 => ?_)
    rw [he] at hq1
    rw [hq1] at hres
    exact z_iret C rfl d_C_look_189 (by rw [hpo]; exact (by rw [← hres]; exact ⟨rfl, rfl, rfl⟩)) (by rw [hmc]; omega) (by rw [hms]; omega)
  · rw [ckS_12 hk] at hres
    rw [hk]
    refine z_tableIn C 190 d_C_look_11 (by decide) (by decide) (off := 179) (by decide) (by decide) ?_
    refine z_aload_n C 191 d_C_look_190 rfl rfl ?_
    refine z_aload_n C 192 d_C_look_191 rfl rfl ?_
    refine z_iconst C 193 d_C_look_192 rfl 1 (by decide) ?_
    refine z_iconst C 194 d_C_look_193 rfl 2 (by decide) ?_
    have hc1 : e.2.2.2.1 = 1 := hct.2.2.2.2.2.2.2.2.2.2.2.2 hk
    obtain ⟨hp0j, hp0N⟩ := hpt 0 (by omega)
    refine zk_sub C 197 (fun mc ms hm => c_C_useUp (by omega) hc hc9 hi (hw i hi) 1 2 hm) w_C_useUp ini_C d_C_look_194 rfl (z_goV (As := [.ref (B + 2 * i), .int 1, .int 2]) C l_C_99 w_C_useUp d_C_look_194 (by omega) ((kSt_c (by omega))) rfl rfl) (Nat.le_of_ble_eq_true rfl) (by rw [hR]; simp only [zRm]; omega) (by rw [hR]; simp only [zRm]; omega) hmc' hms' hpo hm' (fun q' hq' => by rw [he] at hq'; rw [← hres, hq']; rfl) (fun t1 s1 hq1 => ?_)
    rw [he] at hq1
    rw [hq1] at hres
    have hres : ck cl d (ePt e 0) s1 = res := hres
    have sm1 : eSm s.2.2 s1.2.2 := by have kk := cUse_keep (e := e) (lo := 1) (hi := 2) (s := s); rw [hq1] at kk; exact kk
    obtain ⟨k1, hk1⟩ := sm1 i
    rw [he] at hk1
    refine z_pop C 198 d_C_look_197 rfl rfl ?_
    refine z_aload_n C 199 d_C_look_198 rfl rfl ?_
    refine z_aload_n C 200 d_C_look_199 rfl rfl ?_
    refine z_get C 203 f_C_119 d_C_look_200 rfl (by omega) (kSt_eq (by omega) hc hi hk1) rfl ?_
    refine z_iconst C 204 d_C_look_203 rfl 0 (by decide) ?_
    refine z_aald C 205 (t := 5) 0 (some (B + 2 * ePt e 0)) d_C_look_204 rfl (by omega) (kSt_pq (by omega) hc hi hk1) rfl rfl rfl (by omega) (by decide) (by show (e.2.2.1 0).map _ = _; rw [hp0j]; rfl) ?_
    refine zk_sub C 208 (fun mc ms hm => KX B N c F f σ xs xr xa xl xf cl (ePt e 0) s1 mc ms hp0 (hw.sm sm1) ((hdp 0 (by omega)).sm sm1) hp0N hm) w_C_look ini_C d_C_look_205 rfl (z_goV (As := [.ref (B + 2 * ePt e 0)]) C l_C_69 w_C_look d_C_look_205 (by omega) ((kSt_c (by omega))) rfl rfl) (Nat.le_of_ble_eq_true rfl) (by rw [hR]; simp only [zRm]; omega) (by rw [hR]; simp only [zRm]; omega) hmc' hms' hpo hm' (fun q' hq' => by rw [← hres]; exact hq') (fun t2 s2 hq2 => ?_)
    rw [hq2] at hres
    exact z_iret C rfl d_C_look_208 (by rw [hpo]; exact (by rw [← hres]; exact ⟨rfl, rfl, rfl⟩)) (by rw [hmc]; omega) (by rw [hms]; omega)
  · rw [ckS_13 hk] at hres
    rw [hk]
    refine z_tableIn C 209 d_C_look_11 (by decide) (by decide) (off := 198) (by decide) (by decide) ?_
    refine z_aload_n C 210 d_C_look_209 rfl rfl ?_
    refine z_aload_n C 211 d_C_look_210 rfl rfl ?_
    refine zk_sub C 214 (fun mc ms hm => c_C_lookAtCall KX hp0 hw hi he hdp hm) w_C_lookAtCall ini_C d_C_look_211 rfl (z_goV (As := [.ref (B + 2 * i)]) C l_C_123 w_C_lookAtCall d_C_look_211 (by omega) ((kSt_c (by omega))) rfl rfl) (Nat.le_of_ble_eq_true rfl) (by rw [hR]; simp only [zRm]; omega) (by rw [hR]; simp only [zRm]; omega) hmc' hms' hpo hm' (fun q' hq' => by rw [← hres]; exact hq') (fun t1 s1 hq1 => ?_)
    rw [hq1] at hres
    exact z_iret C rfl d_C_look_214 (by rw [hpo]; exact (by rw [← hres]; exact ⟨rfl, rfl, rfl⟩)) (by rw [hmc]; omega) (by rw [hms]; omega)
theorem kHyp_all : ∀ d, kHyp G l d
  | 0 => kHyp_0
  | d + 1 => kHyp_s (kHyp_all d)
end KLB
