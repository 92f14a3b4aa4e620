theorem d_M_beginExpression_0 : decode b_M_beginExpression 0 = .ok (.aload_n 0, 1) := by decide +kernel
theorem d_M_beginExpression_1 : decode b_M_beginExpression 1 = .ok (.aload_n 0, 1) := by decide +kernel
theorem d_M_beginExpression_2 : decode b_M_beginExpression 2 = .ok (.getfield 129, 3) := by decide +kernel
theorem d_M_beginExpression_5 : decode b_M_beginExpression 5 = .ok (.bipush 8, 2) := by decide +kernel
theorem d_M_beginExpression_7 : decode b_M_beginExpression 7 = .ok (.if_icmp .ge 18, 3) := by decide +kernel
theorem d_M_beginExpression_10 : decode b_M_beginExpression 10 = .ok (.aload_n 0, 1) := by decide +kernel
theorem d_M_beginExpression_11 : decode b_M_beginExpression 11 = .ok (.getfield 108, 3) := by decide +kernel
theorem d_M_beginExpression_14 : decode b_M_beginExpression 14 = .ok (.aload_n 0, 1) := by decide +kernel
theorem d_M_beginExpression_15 : decode b_M_beginExpression 15 = .ok (.getfield 111, 3) := by decide +kernel
theorem d_M_beginExpression_18 : decode b_M_beginExpression 18 = .ok (.if_icmp .ge 7, 3) := by decide +kernel
theorem d_M_beginExpression_21 : decode b_M_beginExpression 21 = .ok (.iconst 1, 1) := by decide +kernel
theorem d_M_beginExpression_22 : decode b_M_beginExpression 22 = .ok (.goto 4, 3) := by decide +kernel
theorem d_M_beginExpression_25 : decode b_M_beginExpression 25 = .ok (.iconst 0, 1) := by decide +kernel
theorem d_M_beginExpression_26 : decode b_M_beginExpression 26 = .ok (.invokevirtual 122, 3) := by decide +kernel
theorem d_M_beginExpression_29 : decode b_M_beginExpression 29 = .ok (.aload_n 0, 1) := by decide +kernel
theorem d_M_beginExpression_30 : decode b_M_beginExpression 30 = .ok (.getfield 104, 3) := by decide +kernel
theorem d_M_beginExpression_33 : decode b_M_beginExpression 33 = .ok (.ifCond .eq 5, 3) := by decide +kernel
theorem d_M_beginExpression_36 : decode b_M_beginExpression 36 = .ok (.iconst 1, 1) := by decide +kernel
theorem d_M_beginExpression_37 : decode b_M_beginExpression 37 = .ok (.ireturn, 1) := by decide +kernel
theorem d_M_beginExpression_38 : decode b_M_beginExpression 38 = .ok (.aload_n 0, 1) := by decide +kernel
theorem d_M_beginExpression_39 : decode b_M_beginExpression 39 = .ok (.getfield 108, 3) := by decide +kernel
theorem d_M_beginExpression_42 : decode b_M_beginExpression 42 = .ok (.istore_n 1, 1) := by decide +kernel
theorem d_M_beginExpression_43 : decode b_M_beginExpression 43 = .ok (.aload_n 0, 1) := by decide +kernel
theorem d_M_beginExpression_44 : decode b_M_beginExpression 44 = .ok (.invokevirtual 114, 3) := by decide +kernel
theorem d_M_beginExpression_47 : decode b_M_beginExpression 47 = .ok (.istore_n 2, 1) := by decide +kernel
theorem d_M_beginExpression_48 : decode b_M_beginExpression 48 = .ok (.aload_n 0, 1) := by decide +kernel
theorem d_M_beginExpression_49 : decode b_M_beginExpression 49 = .ok (.bipush 48, 2) := by decide +kernel
theorem d_M_beginExpression_51 : decode b_M_beginExpression 51 = .ok (.bipush 57, 2) := by decide +kernel
theorem d_M_beginExpression_53 : decode b_M_beginExpression 53 = .ok (.invokevirtual 118, 3) := by decide +kernel
theorem d_M_beginExpression_56 : decode b_M_beginExpression 56 = .ok (.ifCond .eq 54, 3) := by decide +kernel
theorem d_M_beginExpression_59 : decode b_M_beginExpression 59 = .ok (.iconst 0, 1) := by decide +kernel
theorem d_M_beginExpression_60 : decode b_M_beginExpression 60 = .ok (.istore_n 3, 1) := by decide +kernel
theorem d_M_beginExpression_61 : decode b_M_beginExpression 61 = .ok (.aload_n 0, 1) := by decide +kernel
theorem d_M_beginExpression_62 : decode b_M_beginExpression 62 = .ok (.getfield 108, 3) := by decide +kernel
theorem d_M_beginExpression_65 : decode b_M_beginExpression 65 = .ok (.iload_n 1, 1) := by decide +kernel
theorem d_M_beginExpression_66 : decode b_M_beginExpression 66 = .ok (.iconst 4, 1) := by decide +kernel
theorem d_M_beginExpression_67 : decode b_M_beginExpression 67 = .ok (.iadd, 1) := by decide +kernel
theorem d_M_beginExpression_68 : decode b_M_beginExpression 68 = .ok (.if_icmp .ge 31, 3) := by decide +kernel
theorem d_M_beginExpression_71 : decode b_M_beginExpression 71 = .ok (.aload_n 0, 1) := by decide +kernel
theorem d_M_beginExpression_72 : decode b_M_beginExpression 72 = .ok (.bipush 48, 2) := by decide +kernel
theorem d_M_beginExpression_74 : decode b_M_beginExpression 74 = .ok (.bipush 57, 2) := by decide +kernel
theorem d_M_beginExpression_76 : decode b_M_beginExpression 76 = .ok (.invokevirtual 118, 3) := by decide +kernel
theorem d_M_beginExpression_79 : decode b_M_beginExpression 79 = .ok (.ifCond .eq 20, 3) := by decide +kernel
theorem d_M_beginExpression_82 : decode b_M_beginExpression 82 = .ok (.bipush 10, 2) := by decide +kernel
theorem d_M_beginExpression_84 : decode b_M_beginExpression 84 = .ok (.iload_n 3, 1) := by decide +kernel
theorem d_M_beginExpression_85 : decode b_M_beginExpression 85 = .ok (.imul, 1) := by decide +kernel
theorem d_M_beginExpression_86 : decode b_M_beginExpression 86 = .ok (.aload_n 0, 1) := by decide +kernel
theorem d_M_beginExpression_87 : decode b_M_beginExpression 87 = .ok (.bipush 48, 2) := by decide +kernel
theorem d_M_beginExpression_89 : decode b_M_beginExpression 89 = .ok (.bipush 57, 2) := by decide +kernel
theorem d_M_beginExpression_91 : decode b_M_beginExpression 91 = .ok (.invokevirtual 132, 3) := by decide +kernel
theorem d_M_beginExpression_94 : decode b_M_beginExpression 94 = .ok (.iadd, 1) := by decide +kernel
theorem d_M_beginExpression_95 : decode b_M_beginExpression 95 = .ok (.istore_n 3, 1) := by decide +kernel
theorem d_M_beginExpression_96 : decode b_M_beginExpression 96 = .ok (.goto (-35), 3) := by decide +kernel
theorem d_M_beginExpression_99 : decode b_M_beginExpression 99 = .ok (.aload_n 0, 1) := by decide +kernel
theorem d_M_beginExpression_100 : decode b_M_beginExpression 100 = .ok (.iconst 0, 1) := by decide +kernel
theorem d_M_beginExpression_101 : decode b_M_beginExpression 101 = .ok (.iload_n 3, 1) := by decide +kernel
theorem d_M_beginExpression_102 : decode b_M_beginExpression 102 = .ok (.iload_n 1, 1) := by decide +kernel
theorem d_M_beginExpression_103 : decode b_M_beginExpression 103 = .ok (.invokevirtual 136, 3) := by decide +kernel
theorem d_M_beginExpression_106 : decode b_M_beginExpression 106 = .ok (.istore 4, 2) := by decide +kernel
theorem d_M_beginExpression_108 : decode b_M_beginExpression 108 = .ok (.iconst 1, 1) := by decide +kernel
theorem d_M_beginExpression_109 : decode b_M_beginExpression 109 = .ok (.ireturn, 1) := by decide +kernel
theorem d_M_beginExpression_110 : decode b_M_beginExpression 110 = .ok (.aload_n 0, 1) := by decide +kernel
theorem d_M_beginExpression_111 : decode b_M_beginExpression 111 = .ok (.bipush 97, 2) := by decide +kernel
theorem d_M_beginExpression_113 : decode b_M_beginExpression 113 = .ok (.bipush 116, 2) := by decide +kernel
theorem d_M_beginExpression_115 : decode b_M_beginExpression 115 = .ok (.invokevirtual 118, 3) := by decide +kernel
theorem d_M_beginExpression_118 : decode b_M_beginExpression 118 = .ok (.ifCond .eq 74, 3) := by decide +kernel
theorem d_M_beginExpression_121 : decode b_M_beginExpression 121 = .ok (.aload_n 0, 1) := by decide +kernel
theorem d_M_beginExpression_122 : decode b_M_beginExpression 122 = .ok (.bipush 97, 2) := by decide +kernel
theorem d_M_beginExpression_124 : decode b_M_beginExpression 124 = .ok (.bipush 116, 2) := by decide +kernel
theorem d_M_beginExpression_126 : decode b_M_beginExpression 126 = .ok (.invokevirtual 132, 3) := by decide +kernel
theorem d_M_beginExpression_129 : decode b_M_beginExpression 129 = .ok (.istore_n 3, 1) := by decide +kernel
theorem d_M_beginExpression_130 : decode b_M_beginExpression 130 = .ok (.aload_n 0, 1) := by decide +kernel
theorem d_M_beginExpression_131 : decode b_M_beginExpression 131 = .ok (.bipush 91, 2) := by decide +kernel
theorem d_M_beginExpression_133 : decode b_M_beginExpression 133 = .ok (.invokevirtual 140, 3) := by decide +kernel
theorem d_M_beginExpression_136 : decode b_M_beginExpression 136 = .ok (.istore 4, 2) := by decide +kernel
theorem d_M_beginExpression_138 : decode b_M_beginExpression 138 = .ok (.aload_n 0, 1) := by decide +kernel
theorem d_M_beginExpression_139 : decode b_M_beginExpression 139 = .ok (.iload 4, 2) := by decide +kernel
theorem d_M_beginExpression_141 : decode b_M_beginExpression 141 = .ok (.ifCond .eq 8, 3) := by decide +kernel
theorem d_M_beginExpression_144 : decode b_M_beginExpression 144 = .ok (.bipush 7, 2) := by decide +kernel
theorem d_M_beginExpression_146 : decode b_M_beginExpression 146 = .ok (.goto 18, 3) := by decide +kernel
theorem d_M_beginExpression_149 : decode b_M_beginExpression 149 = .ok (.aload_n 0, 1) := by decide +kernel
theorem d_M_beginExpression_150 : decode b_M_beginExpression 150 = .ok (.bipush 123, 2) := by decide +kernel
theorem d_M_beginExpression_152 : decode b_M_beginExpression 152 = .ok (.invokevirtual 140, 3) := by decide +kernel
theorem d_M_beginExpression_155 : decode b_M_beginExpression 155 = .ok (.ifCond .eq 8, 3) := by decide +kernel
theorem d_M_beginExpression_158 : decode b_M_beginExpression 158 = .ok (.bipush 8, 2) := by decide +kernel
theorem d_M_beginExpression_160 : decode b_M_beginExpression 160 = .ok (.goto 4, 3) := by decide +kernel
theorem d_M_beginExpression_163 : decode b_M_beginExpression 163 = .ok (.iconst 1, 1) := by decide +kernel
theorem d_M_beginExpression_164 : decode b_M_beginExpression 164 = .ok (.iload_n 3, 1) := by decide +kernel
theorem d_M_beginExpression_165 : decode b_M_beginExpression 165 = .ok (.iload_n 1, 1) := by decide +kernel
theorem d_M_beginExpression_166 : decode b_M_beginExpression 166 = .ok (.invokevirtual 136, 3) := by decide +kernel
theorem d_M_beginExpression_169 : decode b_M_beginExpression 169 = .ok (.istore 5, 2) := by decide +kernel
theorem d_M_beginExpression_171 : decode b_M_beginExpression 171 = .ok (.aload_n 0, 1) := by decide +kernel
theorem d_M_beginExpression_172 : decode b_M_beginExpression 172 = .ok (.getfield 17, 3) := by decide +kernel
theorem d_M_beginExpression_175 : decode b_M_beginExpression 175 = .ok (.iload 5, 2) := by decide +kernel
theorem d_M_beginExpression_177 : decode b_M_beginExpression 177 = .ok (.iaload, 1) := by decide +kernel
theorem d_M_beginExpression_178 : decode b_M_beginExpression 178 = .ok (.iconst 1, 1) := by decide +kernel
theorem d_M_beginExpression_179 : decode b_M_beginExpression 179 = .ok (.if_icmp .ne 5, 3) := by decide +kernel
theorem d_M_beginExpression_182 : decode b_M_beginExpression 182 = .ok (.iconst 1, 1) := by decide +kernel
theorem d_M_beginExpression_183 : decode b_M_beginExpression 183 = .ok (.ireturn, 1) := by decide +kernel
theorem d_M_beginExpression_184 : decode b_M_beginExpression 184 = .ok (.aload_n 0, 1) := by decide +kernel
theorem d_M_beginExpression_185 : decode b_M_beginExpression 185 = .ok (.iload 5, 2) := by decide +kernel
theorem d_M_beginExpression_187 : decode b_M_beginExpression 187 = .ok (.invokevirtual 144, 3) := by decide +kernel
theorem d_M_beginExpression_190 : decode b_M_beginExpression 190 = .ok (.iconst 0, 1) := by decide +kernel
theorem d_M_beginExpression_191 : decode b_M_beginExpression 191 = .ok (.ireturn, 1) := by decide +kernel
theorem d_M_beginExpression_192 : decode b_M_beginExpression 192 = .ok (.iload_n 2, 1) := by decide +kernel
theorem d_M_beginExpression_193 : decode b_M_beginExpression 193 = .ok (.bipush 35, 2) := by decide +kernel
theorem d_M_beginExpression_195 : decode b_M_beginExpression 195 = .ok (.if_icmp .eq 15, 3) := by decide +kernel
theorem d_M_beginExpression_198 : decode b_M_beginExpression 198 = .ok (.iload_n 2, 1) := by decide +kernel
theorem d_M_beginExpression_199 : decode b_M_beginExpression 199 = .ok (.bipush 94, 2) := by decide +kernel
theorem d_M_beginExpression_201 : decode b_M_beginExpression 201 = .ok (.if_icmp .eq 9, 3) := by decide +kernel
theorem d_M_beginExpression_204 : decode b_M_beginExpression 204 = .ok (.iload_n 2, 1) := by decide +kernel
theorem d_M_beginExpression_205 : decode b_M_beginExpression 205 = .ok (.bipush 36, 2) := by decide +kernel
theorem d_M_beginExpression_207 : decode b_M_beginExpression 207 = .ok (.if_icmp .ne 56, 3) := by decide +kernel
theorem d_M_beginExpression_210 : decode b_M_beginExpression 210 = .ok (.aload_n 0, 1) := by decide +kernel
theorem d_M_beginExpression_211 : decode b_M_beginExpression 211 = .ok (.dup, 1) := by decide +kernel
theorem d_M_beginExpression_212 : decode b_M_beginExpression 212 = .ok (.getfield 108, 3) := by decide +kernel
theorem d_M_beginExpression_215 : decode b_M_beginExpression 215 = .ok (.iconst 1, 1) := by decide +kernel
theorem d_M_beginExpression_216 : decode b_M_beginExpression 216 = .ok (.iadd, 1) := by decide +kernel
theorem d_M_beginExpression_217 : decode b_M_beginExpression 217 = .ok (.putfield 108, 3) := by decide +kernel
theorem d_M_beginExpression_220 : decode b_M_beginExpression 220 = .ok (.aload_n 0, 1) := by decide +kernel
theorem d_M_beginExpression_221 : decode b_M_beginExpression 221 = .ok (.bipush 97, 2) := by decide +kernel
theorem d_M_beginExpression_223 : decode b_M_beginExpression 223 = .ok (.bipush 116, 2) := by decide +kernel
theorem d_M_beginExpression_225 : decode b_M_beginExpression 225 = .ok (.invokevirtual 132, 3) := by decide +kernel
theorem d_M_beginExpression_228 : decode b_M_beginExpression 228 = .ok (.istore_n 3, 1) := by decide +kernel
theorem d_M_beginExpression_229 : decode b_M_beginExpression 229 = .ok (.aload_n 0, 1) := by decide +kernel
theorem d_M_beginExpression_230 : decode b_M_beginExpression 230 = .ok (.iload_n 2, 1) := by decide +kernel
theorem d_M_beginExpression_231 : decode b_M_beginExpression 231 = .ok (.bipush 35, 2) := by decide +kernel
theorem d_M_beginExpression_233 : decode b_M_beginExpression 233 = .ok (.if_icmp .ne 8, 3) := by decide +kernel
theorem d_M_beginExpression_236 : decode b_M_beginExpression 236 = .ok (.bipush 9, 2) := by decide +kernel
theorem d_M_beginExpression_238 : decode b_M_beginExpression 238 = .ok (.goto 16, 3) := by decide +kernel
theorem d_M_beginExpression_241 : decode b_M_beginExpression 241 = .ok (.iload_n 2, 1) := by decide +kernel
theorem d_M_beginExpression_242 : decode b_M_beginExpression 242 = .ok (.bipush 94, 2) := by decide +kernel
theorem d_M_beginExpression_244 : decode b_M_beginExpression 244 = .ok (.if_icmp .ne 8, 3) := by decide +kernel
theorem d_M_beginExpression_247 : decode b_M_beginExpression 247 = .ok (.bipush 10, 2) := by decide +kernel
theorem d_M_beginExpression_249 : decode b_M_beginExpression 249 = .ok (.goto 5, 3) := by decide +kernel
theorem d_M_beginExpression_252 : decode b_M_beginExpression 252 = .ok (.bipush 11, 2) := by decide +kernel
theorem d_M_beginExpression_254 : decode b_M_beginExpression 254 = .ok (.iload_n 3, 1) := by decide +kernel
theorem d_M_beginExpression_255 : decode b_M_beginExpression 255 = .ok (.iload_n 1, 1) := by decide +kernel
theorem d_M_beginExpression_256 : decode b_M_beginExpression 256 = .ok (.invokevirtual 136, 3) := by decide +kernel
theorem d_M_beginExpression_259 : decode b_M_beginExpression 259 = .ok (.istore 4, 2) := by decide +kernel
theorem d_M_beginExpression_261 : decode b_M_beginExpression 261 = .ok (.iconst 1, 1) := by decide +kernel
theorem d_M_beginExpression_262 : decode b_M_beginExpression 262 = .ok (.ireturn, 1) := by decide +kernel
theorem d_M_beginExpression_263 : decode b_M_beginExpression 263 = .ok (.aload_n 0, 1) := by decide +kernel
theorem d_M_beginExpression_264 : decode b_M_beginExpression 264 = .ok (.iload_n 2, 1) := by decide +kernel
theorem d_M_beginExpression_265 : decode b_M_beginExpression 265 = .ok (.iload_n 1, 1) := by decide +kernel
theorem d_M_beginExpression_266 : decode b_M_beginExpression 266 = .ok (.invokevirtual 148, 3) := by decide +kernel
theorem d_M_beginExpression_269 : decode b_M_beginExpression 269 = .ok (.ireturn, 1) := by decide +kernel
section MBX
variable {G : zG} {l : Launch} {n : Nat} {σ : zS} {S S0 : mS} {A : mA} {L : mL} {rn : Int64} {T : Nat → Int32} {z op : Nat} {s : rS}
theorem rHead_0 (h : rlk T z s.1 = 0) : rHead T z s = .inl s.1 := by
  unfold rHead
  rw [h, if_neg (by decide), if_neg (by decide), if_neg (by decide), if_neg (by decide), if_neg (by decide), if_neg (by decide), if_neg (by decide), if_neg (by decide), if_neg (by decide), if_neg (by decide), if_neg (by decide), if_neg (by decide)]
theorem nI_mul (a b : Nat) : nI a * nI b = nI (a * b) := (Int32.ofNat_mul a b).symm
theorem bPost_ret {hd : rO} {v : Option Value} {n' : Nat} {σ' : zS} (h : bPost S0 s op n A L rn σ hd (.returned v) n' σ') : ∃ x : Int32, narrow .boolean (.int x) = .int x ∧ v = some (.int x) := by
  obtain ⟨e1, S', A', e2, hv⟩ := h
  cases hd with
  | inl q =>
    obtain ⟨⟨x, hx, e0⟩, -⟩ := hv
    cases e0
    exact ⟨x, hx, rfl⟩
  | inr y => cases y with
    | inl b =>
      have e0 := hv.1
      cases e0
      exact ⟨1, rfl, rfl⟩
    | inr b =>
      have e0 := hv.1
      cases e0
      exact ⟨0, rfl, rfl⟩
theorem c_M_beginExpression_8 (hn : 113 ≤ n) (h : mRd S0 s 8 S A) : MetZ G l y_M_beginExpression b_M_beginExpression 6 (some .boolean) [] 4 0 0 [.ref 85] n (mOv S A L rn σ) (bPost S0 s 8 n A L rn σ (.inl s.1)) := by
  have h0 := h
  obtain ⟨h4, h5, h12, h19, hk0, hA0⟩ := h
  refine MetZ.of (by decide) (Nat.le_of_ble_eq_true rfl) (fun K hK hR hpo hmc hms C => ?_)
  refine z_aload_n C 1 d_M_beginExpression_0 rfl rfl ?_
  refine z_aload_n C 2 d_M_beginExpression_1 rfl rfl ?_
  refine zm_get C 5 f_M_129 d_M_beginExpression_2 rfl hn rfl ?_
  rw [h19]
  refine z_bipush C 7 d_M_beginExpression_5 rfl 8 (by decide) ?_
  refine z_icmp_ge C 10 25 d_M_beginExpression_7 rfl (by decide) (fun _ => ?_) (fun h9 => absurd (show (8 : Int32) ≤ nI 8 by decide) h9)
  refine z_iconst C 26 d_M_beginExpression_25 rfl 0 (by decide) ?_
  refine z_call C 29 (c_M_want hn 0) w_M_want ini_M d_M_beginExpression_26 rfl (z_goV (As := [.int 0]) C l_M_122 w_M_want d_M_beginExpression_26 (by omega) rfl rfl rfl) (Nat.le_of_ble_eq_true rfl) (by rw [hR]; simp only [zRm]; omega) (by rw [hR]; simp only [zRm]; omega) (by rw [hR]; simp only [zRm]; omega) (by rw [hR]; simp only [zRm]; omega) (fun v n' σ' hv => ?_) (fun x n' σ' hv => ?_)
  rotate_left
  · cases hv.1
  obtain ⟨e0, e1, rfl⟩ := hv
  cases e0
  obtain rfl : n = n' := e1.symm
  rw [if_pos (show (0 : Int32) = 0 from rfl)]
  refine z_aload_n C 30 d_M_beginExpression_29 rfl rfl ?_
  refine zm_get C 33 f_M_104 d_M_beginExpression_30 rfl hn rfl ?_
  refine z_if_eq C 36 38 d_M_beginExpression_33 rfl (by decide) (fun h9 => absurd h9 (show ¬ (1 : Int32) = 0 by decide)) (fun _ => ?_)
  refine z_iconst C 37 d_M_beginExpression_36 rfl 1 (by decide) ?_
  exact z_zret C rfl (rfl) d_M_beginExpression_37 (by rw [hpo]; exact ⟨rfl, _, _, rfl, ⟨_, rfl, rfl⟩, mIl_mk h0 h4 rfl (fun k a4 a5 a12 a19 => by simp only [upd, if_neg a4, if_neg a5, if_neg a12, if_neg a19]) (fun _ _ _ _ _ => rfl)⟩) (by rw [hmc]; omega) (by rw [hms]; omega)
theorem c_M_beginExpression (hn : 113 ≤ n) (h : mRd S0 s op S A) (ht : mTz T z S0 s) (ho : op < 8) : MetZ G l y_M_beginExpression b_M_beginExpression 6 (some .boolean) [] 4 0 0 [.ref 85] n (mOv S A L rn σ) (bPost S0 s op n A L rn σ (rHead T z s)) := by
  have h0 := h
  have ht0 := ht
  obtain ⟨h4, h5, h12, h19, hk0, hA0⟩ := h
  obtain ⟨t2, hz, hpz, hN, hT, hch⟩ := ht
  have hA86 : A 86 = T := (hA0 86 (by decide) (by decide)).trans hT
  have t2' : S 2 = nI z := (hk0 2 (by decide) (by decide) (by decide) (by decide)).trans t2
  obtain ⟨hd, hhd⟩ : ∃ x, rHead T z s = x := ⟨_, rfl⟩
  rw [hhd]
  refine MetZ.of (by decide) (Nat.le_of_ble_eq_true rfl) (fun K hK hR hpo hmc hms C => ?_)
  refine z_aload_n C 1 d_M_beginExpression_0 rfl rfl ?_
  refine z_aload_n C 2 d_M_beginExpression_1 rfl rfl ?_
  refine zm_get C 5 f_M_129 d_M_beginExpression_2 rfl hn rfl ?_
  rw [h19]
  refine z_bipush C 7 d_M_beginExpression_5 rfl 8 (by decide) ?_
  refine z_icmp_ge C 10 25 d_M_beginExpression_7 rfl (by decide) (fun h9 => absurd h9 (fun q => absurd ((nI_leI (a := 8) (by omega) (by omega)).mp q) (by omega))) (fun _ => ?_)
  refine z_aload_n C 11 d_M_beginExpression_10 rfl rfl ?_
  refine zm_get C 14 f_M_108 d_M_beginExpression_11 rfl hn rfl ?_
  rw [h4]
  refine z_aload_n C 15 d_M_beginExpression_14 rfl rfl ?_
  refine zm_get C 18 f_M_111 d_M_beginExpression_15 rfl hn rfl ?_
  rw [t2']
  by_cases hp : s.1 < z
  rotate_left
  · refine z_icmp_ge C 21 25 d_M_beginExpression_18 rfl (by decide) (fun _ => ?_) (fun h9 => absurd ((nI_leI (by omega) (by omega)).mpr (by omega)) h9)
    refine z_iconst C 26 d_M_beginExpression_25 rfl 0 (by decide) ?_
    refine z_call C 29 (c_M_want hn 0) w_M_want ini_M d_M_beginExpression_26 rfl (z_goV (As := [.int 0]) C l_M_122 w_M_want d_M_beginExpression_26 (by omega) rfl rfl rfl) (Nat.le_of_ble_eq_true rfl) (by rw [hR]; simp only [zRm]; omega) (by rw [hR]; simp only [zRm]; omega) (by rw [hR]; simp only [zRm]; omega) (by rw [hR]; simp only [zRm]; omega) (fun v n' σ' hv => ?_) (fun x n' σ' hv => ?_)
    rotate_left
    · cases hv.1
    obtain ⟨e0, e1, rfl⟩ := hv
    cases e0
    obtain rfl : n = n' := e1.symm
    rw [if_pos (show (0 : Int32) = 0 from rfl)]
    refine z_aload_n C 30 d_M_beginExpression_29 rfl rfl ?_
    refine zm_get C 33 f_M_104 d_M_beginExpression_30 rfl hn rfl ?_
    refine z_if_eq C 36 38 d_M_beginExpression_33 rfl (by decide) (fun h9 => absurd h9 (show ¬ (1 : Int32) = 0 by decide)) (fun _ => ?_)
    refine z_iconst C 37 d_M_beginExpression_36 rfl 1 (by decide) ?_
    exact z_zret C rfl (rfl) d_M_beginExpression_37 (by rw [hpo]; exact (by rw [← hhd, rHead_0 (if_neg hp)]; exact ⟨rfl, _, _, rfl, ⟨_, rfl, rfl⟩, mIl_mk h0 h4 rfl (fun k a4 a5 a12 a19 => by simp only [upd, if_neg a4, if_neg a5, if_neg a12, if_neg a19]) (fun _ _ _ _ _ => rfl)⟩)) (by rw [hmc]; omega) (by rw [hms]; omega)
  refine z_icmp_ge C 21 25 d_M_beginExpression_18 rfl (by decide) (fun h9 => absurd h9 (fun q => absurd ((nI_leI (by omega) (by omega)).mp q) (by omega))) (fun _ => ?_)
  refine z_iconst C 22 d_M_beginExpression_21 rfl 1 (by decide) ?_
  refine z_goto C 26 d_M_beginExpression_22 (by decide) ?_
  refine z_call C 29 (c_M_want hn 1) w_M_want ini_M d_M_beginExpression_26 rfl (z_goV (As := [.int 1]) C l_M_122 w_M_want d_M_beginExpression_26 (by omega) rfl rfl rfl) (Nat.le_of_ble_eq_true rfl) (by rw [hR]; simp only [zRm]; omega) (by rw [hR]; simp only [zRm]; omega) (by rw [hR]; simp only [zRm]; omega) (by rw [hR]; simp only [zRm]; omega) (fun v n' σ' hv => ?_) (fun x n' σ' hv => ?_)
  rotate_left
  · cases hv.1
  obtain ⟨e0, e1, rfl⟩ := hv
  cases e0
  obtain rfl : n = n' := e1.symm
  rw [if_neg (show ¬ (1 : Int32) = 0 by decide)]
  refine z_aload_n C 30 d_M_beginExpression_29 rfl rfl ?_
  refine zm_get C 33 f_M_104 d_M_beginExpression_30 rfl hn rfl ?_
  refine z_if_eq C 36 38 d_M_beginExpression_33 rfl (by decide) (fun _ => ?_) (fun h9 => absurd h5 h9)
  refine z_aload_n C 39 d_M_beginExpression_38 rfl rfl ?_
  refine zm_get C 42 f_M_108 d_M_beginExpression_39 rfl hn rfl ?_
  rw [h4]
  refine z_istore_n C 43 d_M_beginExpression_42 rfl (by decide) ?_
  refine z_aload_n C 44 d_M_beginExpression_43 rfl rfl ?_
  have hTx : mTx S A s.1 z := ⟨h4, t2', hz, by omega, by rw [hA86]; exact hch⟩
  obtain ⟨c, hc⟩ : ∃ x, rlk T z s.1 = x := ⟨_, rfl⟩
  have hml : mlk S A s.1 z = c := (mlk_0 hA86 h5).trans hc
  have LK := c_M_look (G := G) (l := kl K) (L := L) (rn := rn) (σ := σ) hn hTx
  rw [hml] at LK
  refine z_call C 47 (LK) w_M_look ini_M d_M_beginExpression_44 rfl (z_goV (As := []) C l_M_114 w_M_look d_M_beginExpression_44 (by omega) rfl rfl rfl) (Nat.le_of_ble_eq_true rfl) (by rw [hR]; simp only [zRm]; omega) (by rw [hR]; simp only [zRm]; omega) (by rw [hR]; simp only [zRm]; omega) (by rw [hR]; simp only [zRm]; omega) (fun v n' σ' hv => ?_) (fun x n' σ' hv => ?_)
  rotate_left
  · cases hv.1
  obtain ⟨e0, e1, rfl⟩ := hv
  cases e0
  obtain rfl : n = n' := e1.symm
  refine z_istore_n C 48 d_M_beginExpression_47 rfl (by decide) ?_
  refine z_aload_n C 49 d_M_beginExpression_48 rfl rfl ?_
  refine z_bipush C 51 d_M_beginExpression_49 rfl 48 (by decide) ?_
  refine z_bipush C 53 d_M_beginExpression_51 rfl 57 (by decide) ?_
  have AM := fun a b => c_M_among (G := G) (l := kl K) (L := L) (rn := rn) (σ := σ) hn hTx a b
  rw [hml] at AM
  refine z_call C 56 (AM 48 57) w_M_among ini_M d_M_beginExpression_53 rfl (z_goV (As := [.int 48, .int 57]) C l_M_118 w_M_among d_M_beginExpression_53 (by omega) rfl rfl rfl) (Nat.le_of_ble_eq_true rfl) (by rw [hR]; simp only [zRm]; omega) (by rw [hR]; simp only [zRm]; omega) (by rw [hR]; simp only [zRm]; omega) (by rw [hR]; simp only [zRm]; omega) (fun v n' σ' hv => ?_) (fun x n' σ' hv => ?_)
  rotate_left
  · cases hv.1
  obtain ⟨e0, e1, rfl⟩ := hv
  cases e0
  obtain rfl : n = n' := e1.symm
  have hhd0 := hhd
  unfold rHead at hhd
  rw [hc] at hhd
  by_cases q1 : 48 ≤ c ∧ c ≤ 57
  · rw [if_pos q1] at hhd
    rw [if_pos q1]
    refine z_if_eq C 59 110 d_M_beginExpression_56 rfl (by decide) (fun h9 => absurd h9 (show ¬ (1 : Int32) = 0 by decide)) (fun _ => ?_)
    have fin : ∀ (q v : Nat) (S' : mS), S' 4 = nI q → (∀ k, k ≠ 4 → S' k = S k) → (q, v) = rDigs T z 4 s.1 0 → Z G K n (mOv S' A L rn σ) 0 0 99 [(3, .int (nI v)), (2, .int c), (1, .int (nI s.1)), (0, .ref 85)] [] := fun q v S' g4 gk gd => by
      refine z_aload_n C 100 d_M_beginExpression_99 rfl rfl ?_
      refine z_iconst C 101 d_M_beginExpression_100 rfl 0 (by decide) ?_
      refine z_iload_n C 102 d_M_beginExpression_101 rfl rfl ?_
      refine z_iload_n C 103 d_M_beginExpression_102 rfl rfl ?_
      refine z_call C 106 (c_M_node (i := s.2.1) hn (by exact (gk 12 (by decide)).trans h12) (by omega) 0 (nI v) s.1) w_M_node ini_M d_M_beginExpression_103 rfl (z_goV (As := [.int (nI 0), .int (nI v), .int (nI s.1)]) C l_M_136 w_M_node d_M_beginExpression_103 (by omega) rfl rfl rfl) (Nat.le_of_ble_eq_true rfl) (by rw [hR]; simp only [zRm]; omega) (by rw [hR]; simp only [zRm]; omega) (by rw [hR]; simp only [zRm]; omega) (by rw [hR]; simp only [zRm]; omega) (fun v n' σ' hv => ?_) (fun x n' σ' hv => ?_)
      rotate_left
      · cases hv.1
      obtain ⟨e0, e1, rfl⟩ := hv
      cases e0
      obtain rfl : n = n' := e1.symm
      refine z_istore C 108 d_M_beginExpression_106 rfl (by decide) ?_
      refine z_iconst C 109 d_M_beginExpression_108 rfl 1 (by decide) ?_
      exact z_zret C rfl (rfl) d_M_beginExpression_109 (by rw [hpo]; exact (by rw [← hhd, ← gd]; exact ⟨rfl, _, _, rfl, rfl, mRd_node h0 g4 ((gk 5 (by decide)).trans h5) rfl ((gk 19 (by decide)).trans h19) (fun k a4 a5 a12 a19 => (upd_ne a12).trans (gk k a4)) (fun a h1 h2 => rfl), rfl⟩)) (by rw [hmc]; omega) (by rw [hms]; omega)
    have loop : ∀ (m k q v : Nat) (S' : mS), m + k = 4 → q = s.1 + k → q ≤ z → S' 4 = nI q → (∀ k, k ≠ 4 → S' k = S k) → rDigs T z m q v = rDigs T z 4 s.1 0 → Z G K n (mOv S' A L rn σ) 0 0 61 [(3, .int (nI v)), (2, .int c), (1, .int (nI s.1)), (0, .ref 85)] [] := fun m => by
      induction m with
      | zero =>
        intro k q v S' hk hq hqz g4 gk gd
        refine z_aload_n C 62 d_M_beginExpression_61 rfl rfl ?_
        refine zm_get C 65 f_M_108 d_M_beginExpression_62 rfl hn rfl ?_
        rw [g4]
        refine z_iload_n C 66 d_M_beginExpression_65 rfl rfl ?_
        refine z_iconst C 67 d_M_beginExpression_66 rfl 4 (by decide) ?_
        refine z_iadd C 68 d_M_beginExpression_67 rfl ?_
        rw [show nI s.1 + 4 = nI (s.1 + 4) from nI_add _ 4]
        refine z_icmp_ge C 71 99 d_M_beginExpression_68 rfl (by decide) (fun _ => ?_) (fun h9 => absurd ((nI_leI (by omega) (by omega)).mpr (by omega)) h9)
        exact fin q v S' g4 gk (by rw [← gd]; rfl)
      | succ m ih =>
        intro k q v S' hk hq hqz g4 gk gd
        have g5 : S' 5 = 0 := (gk 5 (by decide)).trans h5
        have hTx' : mTx S' A q z := ⟨g4, (gk 2 (by decide)).trans t2', hz, by omega, by rw [hA86]; exact hch⟩
        refine z_aload_n C 62 d_M_beginExpression_61 rfl rfl ?_
        refine zm_get C 65 f_M_108 d_M_beginExpression_62 rfl hn rfl ?_
        rw [g4]
        refine z_iload_n C 66 d_M_beginExpression_65 rfl rfl ?_
        refine z_iconst C 67 d_M_beginExpression_66 rfl 4 (by decide) ?_
        refine z_iadd C 68 d_M_beginExpression_67 rfl ?_
        rw [show nI s.1 + 4 = nI (s.1 + 4) from nI_add _ 4]
        refine z_icmp_ge C 71 99 d_M_beginExpression_68 rfl (by decide) (fun h9 => absurd h9 (fun w9 => absurd ((nI_leI (by omega) (by omega)).mp w9) (by omega))) (fun _ => ?_)
        refine z_aload_n C 72 d_M_beginExpression_71 rfl rfl ?_
        refine z_bipush C 74 d_M_beginExpression_72 rfl 48 (by decide) ?_
        refine z_bipush C 76 d_M_beginExpression_74 rfl 57 (by decide) ?_
        have AM2 := c_M_among (G := G) (l := kl K) (L := L) (rn := rn) (σ := σ) hn hTx' 48 57
        rw [mlk_0 hA86 g5] at AM2
        refine z_call C 79 (AM2) w_M_among ini_M d_M_beginExpression_76 rfl (z_goV (As := [.int 48, .int 57]) C l_M_118 w_M_among d_M_beginExpression_76 (by omega) rfl rfl rfl) (Nat.le_of_ble_eq_true rfl) (by rw [hR]; simp only [zRm]; omega) (by rw [hR]; simp only [zRm]; omega) (by rw [hR]; simp only [zRm]; omega) (by rw [hR]; simp only [zRm]; omega) (fun v n' σ' hv => ?_) (fun x n' σ' hv => ?_)
        rotate_left
        · cases hv.1
        obtain ⟨e0, e1, rfl⟩ := hv
        cases e0
        obtain rfl : n = n' := e1.symm
        rw [rDigs] at gd
        by_cases r1 : 48 ≤ rlk T z q ∧ rlk T z q ≤ 57
        · rw [if_pos r1] at gd
          rw [if_pos r1]
          refine z_if_eq C 82 99 d_M_beginExpression_79 rfl (by decide) (fun h9 => absurd h9 (show ¬ (1 : Int32) = 0 by decide)) (fun _ => ?_)
          refine z_bipush C 84 d_M_beginExpression_82 rfl 10 (by decide) ?_
          refine z_iload_n C 85 d_M_beginExpression_84 rfl rfl ?_
          refine z_imul C 86 d_M_beginExpression_85 rfl ?_
          refine z_aload_n C 87 d_M_beginExpression_86 rfl rfl ?_
          refine z_bipush C 89 d_M_beginExpression_87 rfl 48 (by decide) ?_
          refine z_bipush C 91 d_M_beginExpression_89 rfl 57 (by decide) ?_
          have LT := c_M_letter (G := G) (l := kl K) (L := L) (rn := rn) (σ := σ) hn hTx' 48 57 (by decide)
          rw [mlk_0 hA86 g5] at LT
          refine z_call C 94 (LT) w_M_letter ini_M d_M_beginExpression_91 rfl (z_goV (As := [.int 48, .int 57]) C l_M_132 w_M_letter d_M_beginExpression_91 (by omega) rfl rfl rfl) (Nat.le_of_ble_eq_true rfl) (by rw [hR]; simp only [zRm]; omega) (by rw [hR]; simp only [zRm]; omega) (by rw [hR]; simp only [zRm]; omega) (by rw [hR]; simp only [zRm]; omega) (fun v n' σ' hv => ?_) (fun x n' σ' hv => ?_)
          rotate_left
          · rcases hv with ⟨-, ⟨-, e0, -⟩ | ⟨-, e0, -⟩⟩ <;> cases e0
          obtain ⟨e1, hv⟩ := hv
          obtain rfl : n = n' := e1.symm
          obtain ⟨-, e0, rfl⟩ := hv.resolve_right (fun q => q.1 r1)
          cases e0
          obtain ⟨dg, hdg, -, ed⟩ := let_c (a := 48) (b := 57) (by omega) (by omega) r1.1 r1.2
          have ed : rlk T z q - 48 = nI dg := ed
          rw [ed]
          refine z_iadd C 95 d_M_beginExpression_94 rfl ?_
          rw [show (10 : Int32) * nI v + nI dg = nI (10 * v + dg) from by rw [show (10 : Int32) * nI v = nI (10 * v) from nI_mul 10 v, nI_add]]
          refine z_istore_n C 96 d_M_beginExpression_95 rfl (by decide) ?_
          refine z_goto C 61 d_M_beginExpression_96 (by decide) ?_
          rw [ed, nI_clamp (by omega)] at gd
          exact ih (k + 1) (q + 1) (10 * v + dg) _ (by omega) (by omega) (rlk_pos r1.1 (by decide)) rfl (fun k hk => (upd_ne hk).trans (gk k hk)) gd
        · rw [if_neg r1] at gd
          rw [if_neg r1]
          refine z_if_eq C 82 99 d_M_beginExpression_79 rfl (by decide) (fun _ => ?_) (fun h9 => absurd (show (0 : Int32) = 0 from rfl) h9)
          exact fin q v S' g4 gk gd
    refine z_iconst C 60 d_M_beginExpression_59 rfl 0 (by decide) ?_
    refine z_istore_n C 61 d_M_beginExpression_60 rfl (by decide) ?_
    exact loop 4 0 s.1 0 S (by omega) (by omega) (by omega) h4 (fun _ _ => rfl) rfl
  rw [if_neg q1] at hhd
  rw [if_neg q1]
  refine z_if_eq C 59 110 d_M_beginExpression_56 rfl (by decide) (fun _ => ?_) (fun h9 => absurd (show (0 : Int32) = 0 from rfl) h9)
  refine z_aload_n C 111 d_M_beginExpression_110 rfl rfl ?_
  refine z_bipush C 113 d_M_beginExpression_111 rfl 97 (by decide) ?_
  refine z_bipush C 115 d_M_beginExpression_113 rfl 116 (by decide) ?_
  refine z_call C 118 (AM 97 116) w_M_among ini_M d_M_beginExpression_115 rfl (z_goV (As := [.int 97, .int 116]) C l_M_118 w_M_among d_M_beginExpression_115 (by omega) rfl rfl rfl) (Nat.le_of_ble_eq_true rfl) (by rw [hR]; simp only [zRm]; omega) (by rw [hR]; simp only [zRm]; omega) (by rw [hR]; simp only [zRm]; omega) (by rw [hR]; simp only [zRm]; omega) (fun v n' σ' hv => ?_) (fun x n' σ' hv => ?_)
  rotate_left
  · cases hv.1
  obtain ⟨e0, e1, rfl⟩ := hv
  cases e0
  obtain rfl : n = n' := e1.symm
  by_cases q2 : 97 ≤ c ∧ c ≤ 116
  · rw [if_pos q2] at hhd
    rw [if_pos q2]
    refine z_if_eq C 121 192 d_M_beginExpression_118 rfl (by decide) (fun h9 => absurd h9 (show ¬ (1 : Int32) = 0 by decide)) (fun _ => ?_)
    refine z_aload_n C 122 d_M_beginExpression_121 rfl rfl ?_
    refine z_bipush C 124 d_M_beginExpression_122 rfl 97 (by decide) ?_
    refine z_bipush C 126 d_M_beginExpression_124 rfl 116 (by decide) ?_
    have LT := c_M_letter (G := G) (l := kl K) (L := L) (rn := rn) (σ := σ) hn hTx 97 116 (by decide)
    rw [hml] at LT
    refine z_call C 129 (LT) w_M_letter ini_M d_M_beginExpression_126 rfl (z_goV (As := [.int 97, .int 116]) C l_M_132 w_M_letter d_M_beginExpression_126 (by omega) rfl rfl rfl) (Nat.le_of_ble_eq_true rfl) (by rw [hR]; simp only [zRm]; omega) (by rw [hR]; simp only [zRm]; omega) (by rw [hR]; simp only [zRm]; omega) (by rw [hR]; simp only [zRm]; omega) (fun v n' σ' hv => ?_) (fun x n' σ' hv => ?_)
    rotate_left
    · rcases hv with ⟨-, ⟨-, e0, -⟩ | ⟨-, e0, -⟩⟩ <;> cases e0
    obtain ⟨e1, hv⟩ := hv
    obtain rfl : n = n' := e1.symm
    obtain ⟨-, e0, rfl⟩ := hv.resolve_right (fun q => q.1 q2)
    cases e0
    have hTx1 : mTx (upd S 4 (nI (s.1 + 1))) A (s.1 + 1) z := ⟨rfl, t2', hz, by omega, by rw [hA86]; exact hch⟩
    have TK := fun c => c_M_takes (G := G) (l := kl K) (L := L) (rn := rn) (σ := σ) hn hTx1 c
    rw [mlk_0 hA86 (show (upd S 4 (nI (s.1 + 1))) 5 = 0 from h5)] at TK
    refine z_istore_n C 130 d_M_beginExpression_129 rfl (by decide) ?_
    refine z_aload_n C 131 d_M_beginExpression_130 rfl rfl ?_
    refine z_bipush C 133 d_M_beginExpression_131 rfl 91 (by decide) ?_
    by_cases r1 : rlk T z (s.1 + 1) = 91
    · rw [if_pos r1] at hhd
      have TK1 := TK 91
      rw [if_pos r1, if_pos r1, show (upd S 4 (nI (s.1 + 1))) 4 + 1 = nI (s.1 + 2) from nI_1 _] at TK1
      refine z_call C 136 (TK1) w_M_takes ini_M d_M_beginExpression_133 rfl (z_goV (As := [.int 91]) C l_M_140 w_M_takes d_M_beginExpression_133 (by omega) rfl rfl rfl) (Nat.le_of_ble_eq_true rfl) (by rw [hR]; simp only [zRm]; omega) (by rw [hR]; simp only [zRm]; omega) (by rw [hR]; simp only [zRm]; omega) (by rw [hR]; simp only [zRm]; omega) (fun v n' σ' hv => ?_) (fun x n' σ' hv => ?_)
      rotate_left
      · cases hv.1
      obtain ⟨e0, e1, rfl⟩ := hv
      cases e0
      obtain rfl : n = n' := e1.symm
      refine z_istore C 138 d_M_beginExpression_136 rfl (by decide) ?_
      refine z_aload_n C 139 d_M_beginExpression_138 rfl rfl ?_
      refine z_iload C 141 d_M_beginExpression_139 rfl rfl ?_
      refine z_if_eq C 144 149 d_M_beginExpression_141 rfl (by decide) (fun h9 => absurd h9 (show ¬ (1 : Int32) = 0 by decide)) (fun _ => ?_)
      refine z_bipush C 146 d_M_beginExpression_144 rfl 7 (by decide) ?_
      refine z_goto C 164 d_M_beginExpression_146 (by decide) ?_
      refine z_iload_n C 165 d_M_beginExpression_164 rfl rfl ?_
      refine z_iload_n C 166 d_M_beginExpression_165 rfl rfl ?_
      refine z_call C 169 (c_M_node (i := s.2.1) hn (by exact h12) (by omega) 7 (c - 97) s.1) w_M_node ini_M d_M_beginExpression_166 rfl (z_goV (As := [.int (nI 7), .int (c - 97), .int (nI s.1)]) C l_M_136 w_M_node d_M_beginExpression_166 (by omega) rfl rfl rfl) (Nat.le_of_ble_eq_true rfl) (by rw [hR]; simp only [zRm]; omega) (by rw [hR]; simp only [zRm]; omega) (by rw [hR]; simp only [zRm]; omega) (by rw [hR]; simp only [zRm]; omega) (fun v n' σ' hv => ?_) (fun x n' σ' hv => ?_)
      rotate_left
      · cases hv.1
      obtain ⟨e0, e1, rfl⟩ := hv
      cases e0
      obtain rfl : n = n' := e1.symm
      refine z_istore C 171 d_M_beginExpression_169 rfl (by decide) ?_
      refine z_aload_n C 172 d_M_beginExpression_171 rfl rfl ?_
      refine zm_get C 175 f_M_17 d_M_beginExpression_172 rfl hn rfl ?_
      refine z_iload C 177 d_M_beginExpression_175 rfl rfl ?_
      refine zm_iald C 178 (1200+s.2.1) d_M_beginExpression_177 rfl hn (by decide) (by decide) (by decide) rfl (by show 1200 + s.2.1 < 1350; omega) (by decide) ?_
      rw [rFlat_87]
      refine z_iconst C 179 d_M_beginExpression_178 rfl 1 (by decide) ?_
      refine z_icmp_ne C 182 184 d_M_beginExpression_179 rfl (by decide) (fun _ => ?_) (fun h9 => absurd h9 (show ¬ nI 7 = 1 by decide))
      refine z_aload_n C 185 d_M_beginExpression_184 rfl rfl ?_
      refine z_iload C 187 d_M_beginExpression_185 rfl rfl ?_
      refine z_call C 190 (c_M_push (op := op) hn (by exact h19) (by omega) (nI (1200 + s.2.1))) w_M_push ini_M d_M_beginExpression_187 rfl (z_goV (As := [.int (nI (1200 + s.2.1))]) C l_M_144 w_M_push d_M_beginExpression_187 (by omega) rfl rfl rfl) (Nat.le_of_ble_eq_true rfl) (by rw [hR]; simp only [zRm]; omega) (by rw [hR]; simp only [zRm]; omega) (by rw [hR]; simp only [zRm]; omega) (by rw [hR]; simp only [zRm]; omega) (fun v n' σ' hv => ?_) (fun x n' σ' hv => ?_)
      rotate_left
      · cases hv.1
      obtain ⟨e0, e1, rfl⟩ := hv
      cases e0
      obtain rfl : n = n' := e1.symm
      refine z_iconst C 191 d_M_beginExpression_190 rfl 0 (by decide) ?_
      exact z_zret C rfl (rfl) d_M_beginExpression_191 (by rw [hpo]; exact (by rw [← hhd]; exact ⟨rfl, _, _, rfl, rfl, mRd_node h0 rfl h5 rfl rfl (fun k a4 a5 a12 a19 => by simp only [upd, if_neg a4, if_neg a5, if_neg a12, if_neg a19]) (fun a h1 h2 => mPu_ne h1 h2), rfl⟩)) (by rw [hmc]; omega) (by rw [hms]; omega)
    rw [if_neg r1] at hhd
    have TK1 := TK 91
    rw [if_neg r1, if_neg r1] at TK1
    refine z_call C 136 (TK1) w_M_takes ini_M d_M_beginExpression_133 rfl (z_goV (As := [.int 91]) C l_M_140 w_M_takes d_M_beginExpression_133 (by omega) rfl rfl rfl) (Nat.le_of_ble_eq_true rfl) (by rw [hR]; simp only [zRm]; omega) (by rw [hR]; simp only [zRm]; omega) (by rw [hR]; simp only [zRm]; omega) (by rw [hR]; simp only [zRm]; omega) (fun v n' σ' hv => ?_) (fun x n' σ' hv => ?_)
    rotate_left
    · cases hv.1
    obtain ⟨e0, e1, rfl⟩ := hv
    cases e0
    obtain rfl : n = n' := e1.symm
    refine z_istore C 138 d_M_beginExpression_136 rfl (by decide) ?_
    refine z_aload_n C 139 d_M_beginExpression_138 rfl rfl ?_
    refine z_iload C 141 d_M_beginExpression_139 rfl rfl ?_
    refine z_if_eq C 144 149 d_M_beginExpression_141 rfl (by decide) (fun _ => ?_) (fun h9 => absurd (show (0 : Int32) = 0 from rfl) h9)
    refine z_aload_n C 150 d_M_beginExpression_149 rfl rfl ?_
    refine z_bipush C 152 d_M_beginExpression_150 rfl 123 (by decide) ?_
    by_cases r2 : rlk T z (s.1 + 1) = 123
    · rw [if_pos r2] at hhd
      have TK2 := TK 123
      rw [if_pos r2, if_pos r2, show (upd S 4 (nI (s.1 + 1))) 4 + 1 = nI (s.1 + 2) from nI_1 _] at TK2
      refine z_call C 155 (TK2) w_M_takes ini_M d_M_beginExpression_152 rfl (z_goV (As := [.int 123]) C l_M_140 w_M_takes d_M_beginExpression_152 (by omega) rfl rfl rfl) (Nat.le_of_ble_eq_true rfl) (by rw [hR]; simp only [zRm]; omega) (by rw [hR]; simp only [zRm]; omega) (by rw [hR]; simp only [zRm]; omega) (by rw [hR]; simp only [zRm]; omega) (fun v n' σ' hv => ?_) (fun x n' σ' hv => ?_)
      rotate_left
      · cases hv.1
      obtain ⟨e0, e1, rfl⟩ := hv
      cases e0
      obtain rfl : n = n' := e1.symm
      refine z_if_eq C 158 163 d_M_beginExpression_155 rfl (by decide) (fun h9 => absurd h9 (show ¬ (1 : Int32) = 0 by decide)) (fun _ => ?_)
      refine z_bipush C 160 d_M_beginExpression_158 rfl 8 (by decide) ?_
      refine z_goto C 164 d_M_beginExpression_160 (by decide) ?_
      refine z_iload_n C 165 d_M_beginExpression_164 rfl rfl ?_
      refine z_iload_n C 166 d_M_beginExpression_165 rfl rfl ?_
      refine z_call C 169 (c_M_node (i := s.2.1) hn (by exact h12) (by omega) 8 (c - 97) s.1) w_M_node ini_M d_M_beginExpression_166 rfl (z_goV (As := [.int (nI 8), .int (c - 97), .int (nI s.1)]) C l_M_136 w_M_node d_M_beginExpression_166 (by omega) rfl rfl rfl) (Nat.le_of_ble_eq_true rfl) (by rw [hR]; simp only [zRm]; omega) (by rw [hR]; simp only [zRm]; omega) (by rw [hR]; simp only [zRm]; omega) (by rw [hR]; simp only [zRm]; omega) (fun v n' σ' hv => ?_) (fun x n' σ' hv => ?_)
      rotate_left
      · cases hv.1
      obtain ⟨e0, e1, rfl⟩ := hv
      cases e0
      obtain rfl : n = n' := e1.symm
      refine z_istore C 171 d_M_beginExpression_169 rfl (by decide) ?_
      refine z_aload_n C 172 d_M_beginExpression_171 rfl rfl ?_
      refine zm_get C 175 f_M_17 d_M_beginExpression_172 rfl hn rfl ?_
      refine z_iload C 177 d_M_beginExpression_175 rfl rfl ?_
      refine zm_iald C 178 (1200+s.2.1) d_M_beginExpression_177 rfl hn (by decide) (by decide) (by decide) rfl (by show 1200 + s.2.1 < 1350; omega) (by decide) ?_
      rw [rFlat_87]
      refine z_iconst C 179 d_M_beginExpression_178 rfl 1 (by decide) ?_
      refine z_icmp_ne C 182 184 d_M_beginExpression_179 rfl (by decide) (fun _ => ?_) (fun h9 => absurd h9 (show ¬ nI 8 = 1 by decide))
      refine z_aload_n C 185 d_M_beginExpression_184 rfl rfl ?_
      refine z_iload C 187 d_M_beginExpression_185 rfl rfl ?_
      refine z_call C 190 (c_M_push (op := op) hn (by exact h19) (by omega) (nI (1200 + s.2.1))) w_M_push ini_M d_M_beginExpression_187 rfl (z_goV (As := [.int (nI (1200 + s.2.1))]) C l_M_144 w_M_push d_M_beginExpression_187 (by omega) rfl rfl rfl) (Nat.le_of_ble_eq_true rfl) (by rw [hR]; simp only [zRm]; omega) (by rw [hR]; simp only [zRm]; omega) (by rw [hR]; simp only [zRm]; omega) (by rw [hR]; simp only [zRm]; omega) (fun v n' σ' hv => ?_) (fun x n' σ' hv => ?_)
      rotate_left
      · cases hv.1
      obtain ⟨e0, e1, rfl⟩ := hv
      cases e0
      obtain rfl : n = n' := e1.symm
      refine z_iconst C 191 d_M_beginExpression_190 rfl 0 (by decide) ?_
      exact z_zret C rfl (rfl) d_M_beginExpression_191 (by rw [hpo]; exact (by rw [← hhd]; exact ⟨rfl, _, _, rfl, rfl, mRd_node h0 rfl h5 rfl rfl (fun k a4 a5 a12 a19 => by simp only [upd, if_neg a4, if_neg a5, if_neg a12, if_neg a19]) (fun a h1 h2 => mPu_ne h1 h2), rfl⟩)) (by rw [hmc]; omega) (by rw [hms]; omega)
    rw [if_neg r2] at hhd
    have TK2 := TK 123
    rw [if_neg r2, if_neg r2] at TK2
    refine z_call C 155 (TK2) w_M_takes ini_M d_M_beginExpression_152 rfl (z_goV (As := [.int 123]) C l_M_140 w_M_takes d_M_beginExpression_152 (by omega) rfl rfl rfl) (Nat.le_of_ble_eq_true rfl) (by rw [hR]; simp only [zRm]; omega) (by rw [hR]; simp only [zRm]; omega) (by rw [hR]; simp only [zRm]; omega) (by rw [hR]; simp only [zRm]; omega) (fun v n' σ' hv => ?_) (fun x n' σ' hv => ?_)
    rotate_left
    · cases hv.1
    obtain ⟨e0, e1, rfl⟩ := hv
    cases e0
    obtain rfl : n = n' := e1.symm
    refine z_if_eq C 158 163 d_M_beginExpression_155 rfl (by decide) (fun _ => ?_) (fun h9 => absurd (show (0 : Int32) = 0 from rfl) h9)
    refine z_iconst C 164 d_M_beginExpression_163 rfl 1 (by decide) ?_
    refine z_iload_n C 165 d_M_beginExpression_164 rfl rfl ?_
    refine z_iload_n C 166 d_M_beginExpression_165 rfl rfl ?_
    refine z_call C 169 (c_M_node (i := s.2.1) hn (by exact h12) (by omega) 1 (c - 97) s.1) w_M_node ini_M d_M_beginExpression_166 rfl (z_goV (As := [.int (nI 1), .int (c - 97), .int (nI s.1)]) C l_M_136 w_M_node d_M_beginExpression_166 (by omega) rfl rfl rfl) (Nat.le_of_ble_eq_true rfl) (by rw [hR]; simp only [zRm]; omega) (by rw [hR]; simp only [zRm]; omega) (by rw [hR]; simp only [zRm]; omega) (by rw [hR]; simp only [zRm]; omega) (fun v n' σ' hv => ?_) (fun x n' σ' hv => ?_)
    rotate_left
    · cases hv.1
    obtain ⟨e0, e1, rfl⟩ := hv
    cases e0
    obtain rfl : n = n' := e1.symm
    refine z_istore C 171 d_M_beginExpression_169 rfl (by decide) ?_
    refine z_aload_n C 172 d_M_beginExpression_171 rfl rfl ?_
    refine zm_get C 175 f_M_17 d_M_beginExpression_172 rfl hn rfl ?_
    refine z_iload C 177 d_M_beginExpression_175 rfl rfl ?_
    refine zm_iald C 178 (1200+s.2.1) d_M_beginExpression_177 rfl hn (by decide) (by decide) (by decide) rfl (by show 1200 + s.2.1 < 1350; omega) (by decide) ?_
    rw [rFlat_87]
    refine z_iconst C 179 d_M_beginExpression_178 rfl 1 (by decide) ?_
    refine z_icmp_ne C 182 184 d_M_beginExpression_179 rfl (by decide) (fun h9 => absurd (show nI 1 = 1 from rfl) h9) (fun _ => ?_)
    refine z_iconst C 183 d_M_beginExpression_182 rfl 1 (by decide) ?_
    exact z_zret C rfl (rfl) d_M_beginExpression_183 (by rw [hpo]; exact (by rw [← hhd]; exact ⟨rfl, _, _, rfl, rfl, mRd_node h0 rfl h5 rfl h19 (fun k a4 a5 a12 a19 => by simp only [upd, if_neg a4, if_neg a5, if_neg a12, if_neg a19]) (fun a h1 h2 => rfl), rfl⟩)) (by rw [hmc]; omega) (by rw [hms]; omega)
  rw [if_neg q2] at hhd
  rw [if_neg q2]
  refine z_if_eq C 121 192 d_M_beginExpression_118 rfl (by decide) (fun _ => ?_) (fun h9 => absurd (show (0 : Int32) = 0 from rfl) h9)
  by_cases w35 : c = 35 ∨ c = 94 ∨ c = 36
  rotate_left
  · have n35 : ¬ c = 35 := fun q => w35 (Or.inl q)
    have n94 : ¬ c = 94 := fun q => w35 (Or.inr (Or.inl q))
    have n36 : ¬ c = 36 := fun q => w35 (Or.inr (Or.inr q))
    refine z_iload_n C 193 d_M_beginExpression_192 rfl rfl ?_
    refine z_bipush C 195 d_M_beginExpression_193 rfl 35 (by decide) ?_
    refine z_icmp_eq C 198 210 d_M_beginExpression_195 rfl (by decide) (fun h9 => absurd h9 n35) (fun _ => ?_)
    refine z_iload_n C 199 d_M_beginExpression_198 rfl rfl ?_
    refine z_bipush C 201 d_M_beginExpression_199 rfl 94 (by decide) ?_
    refine z_icmp_eq C 204 210 d_M_beginExpression_201 rfl (by decide) (fun h9 => absurd h9 n94) (fun _ => ?_)
    refine z_iload_n C 205 d_M_beginExpression_204 rfl rfl ?_
    refine z_bipush C 207 d_M_beginExpression_205 rfl 36 (by decide) ?_
    refine z_icmp_ne C 210 263 d_M_beginExpression_207 rfl (by decide) (fun _ => ?_) (fun h9 => absurd h9 n36)
    refine z_aload_n C 264 d_M_beginExpression_263 rfl rfl ?_
    refine z_iload_n C 265 d_M_beginExpression_264 rfl rfl ?_
    refine z_iload_n C 266 d_M_beginExpression_265 rfl rfl ?_
    have BO := c_M_beginOther (G := G) (l := kl K) (L := L) (rn := rn) (σ := σ) hn h0 ht0 hp ho hc q1 q2 n35 n94 n36
    rw [hhd0] at BO
    refine z_call C 269 (BO) w_M_beginOther ini_M d_M_beginExpression_266 rfl (z_goV (As := [.int c, .int (nI s.1)]) C l_M_148 w_M_beginOther d_M_beginExpression_266 (by omega) rfl rfl rfl) (Nat.le_of_ble_eq_true rfl) (by rw [hR]; simp only [zRm]; omega) (by rw [hR]; simp only [zRm]; omega) (by rw [hR]; simp only [zRm]; omega) (by rw [hR]; simp only [zRm]; omega) (fun v n' σ' hv => ?_) (fun x n' σ' hv => ?_)
    rotate_left
    · obtain ⟨e1, S', A', e2, hv⟩ := hv
      cases hd with
      | inl q => obtain ⟨⟨v, -, e0⟩, -⟩ := hv; cases e0
      | inr y => cases y with
        | inl b => cases hv.1
        | inr b => cases hv.1
    obtain ⟨x, hx, rfl⟩ : ∃ x : Int32, narrow .boolean (.int x) = .int x ∧ v = some (.int x) := bPost_ret hv
    exact z_zret C rfl hx d_M_beginExpression_269 (by rw [hpo]; exact hv) (by rw [hmc]; omega) (by rw [hms]; omega)
  rcases w35 with rfl | rfl | rfl
  · rw [if_neg (show ¬ (65 ≤ (35 : Int32) ∧ (35 : Int32) ≤ 72) by decide), if_neg (show ¬ (35 : Int32) = 40 by decide), if_neg (show ¬ (35 : Int32) = 63 by decide), if_neg (show ¬ (35 : Int32) = 64 by decide), if_neg (show ¬ (35 : Int32) = 37 by decide), if_neg (show ¬ (35 : Int32) = 38 by decide), if_neg (show ¬ (35 : Int32) = 126 by decide), if_pos rfl] at hhd
    unfold rHv at hhd
    refine z_iload_n C 193 d_M_beginExpression_192 rfl rfl ?_
    refine z_bipush C 195 d_M_beginExpression_193 rfl 35 (by decide) ?_
    refine z_icmp_eq C 198 210 d_M_beginExpression_195 rfl (by decide) (fun _ => ?_) (fun h9 => absurd (show (35 : Int32) = 35 from rfl) h9)
    refine z_aload_n C 211 d_M_beginExpression_210 rfl rfl ?_
    refine z_dup C 212 d_M_beginExpression_211 rfl rfl ?_
    refine zm_get C 215 f_M_108 d_M_beginExpression_212 rfl hn rfl ?_
    rw [h4]
    refine z_iconst C 216 d_M_beginExpression_215 rfl 1 (by decide) ?_
    refine z_iadd C 217 d_M_beginExpression_216 rfl ?_
    rw [nI_1]
    refine zm_puti C 220 p_M_108 d_M_beginExpression_217 rfl hn (by decide) (rfl) rfl rfl ?_
    refine z_aload_n C 221 d_M_beginExpression_220 rfl rfl ?_
    refine z_bipush C 223 d_M_beginExpression_221 rfl 97 (by decide) ?_
    refine z_bipush C 225 d_M_beginExpression_223 rfl 116 (by decide) ?_
    have hTx1 : mTx (upd S 4 (nI (s.1 + 1))) A (s.1 + 1) z := ⟨rfl, t2', hz, by omega, by rw [hA86]; exact hch⟩
    have LT := c_M_letter (G := G) (l := kl K) (L := L) (rn := rn) (σ := σ) hn hTx1 97 116 (by decide)
    rw [mlk_0 hA86 (show (upd S 4 (nI (s.1 + 1))) 5 = 0 from h5)] at LT
    refine z_call C 228 (LT) w_M_letter ini_M d_M_beginExpression_225 rfl (z_goV (As := [.int 97, .int 116]) C l_M_132 w_M_letter d_M_beginExpression_225 (by omega) rfl rfl rfl) (Nat.le_of_ble_eq_true rfl) (by rw [hR]; simp only [zRm]; omega) (by rw [hR]; simp only [zRm]; omega) (by rw [hR]; simp only [zRm]; omega) (by rw [hR]; simp only [zRm]; omega) (fun v n' σ' hv => ?_) (fun x n' σ' hv => ?_)
    rotate_left
    · rcases hv with ⟨-, ⟨-, e0, -⟩ | ⟨-, e0, -⟩⟩ <;> cases e0
    obtain ⟨e1, hv⟩ := hv
    obtain rfl : n = n' := e1.symm
    by_cases r1 : 97 ≤ rlk T z (s.1 + 1) ∧ rlk T z (s.1 + 1) ≤ 116
    · obtain ⟨-, e0, rfl⟩ := hv.resolve_right (fun q => q.1 r1)
      cases e0
      rw [if_pos r1] at hhd
      have hp1 : s.1 + 1 < z := rlk_pos r1.1 (by decide)
      refine z_istore_n C 229 d_M_beginExpression_228 rfl (by decide) ?_
      refine z_aload_n C 230 d_M_beginExpression_229 rfl rfl ?_
      refine z_iload_n C 231 d_M_beginExpression_230 rfl rfl ?_
      refine z_bipush C 233 d_M_beginExpression_231 rfl 35 (by decide) ?_
      refine z_icmp_ne C 236 241 d_M_beginExpression_233 rfl (by decide) (fun h9 => absurd (show (35 : Int32) = 35 from rfl) h9) (fun _ => ?_)
      refine z_bipush C 238 d_M_beginExpression_236 rfl 9 (by decide) ?_
      refine z_goto C 254 d_M_beginExpression_238 (by decide) ?_
      refine z_iload_n C 255 d_M_beginExpression_254 rfl rfl ?_
      refine z_iload_n C 256 d_M_beginExpression_255 rfl rfl ?_
      refine z_call C 259 (c_M_node (i := s.2.1) hn (by exact h12) (by omega) 9 (rlk T z (s.1 + 1) - 97) s.1) w_M_node ini_M d_M_beginExpression_256 rfl (z_goV (As := [.int (nI 9), .int (rlk T z (s.1 + 1) - 97), .int (nI s.1)]) C l_M_136 w_M_node d_M_beginExpression_256 (by omega) rfl rfl rfl) (Nat.le_of_ble_eq_true rfl) (by rw [hR]; simp only [zRm]; omega) (by rw [hR]; simp only [zRm]; omega) (by rw [hR]; simp only [zRm]; omega) (by rw [hR]; simp only [zRm]; omega) (fun v n' σ' hv => ?_) (fun x n' σ' hv => ?_)
      rotate_left
      · cases hv.1
      obtain ⟨e0, e1, rfl⟩ := hv
      cases e0
      obtain rfl : n = n' := e1.symm
      refine z_istore C 261 d_M_beginExpression_259 rfl (by decide) ?_
      refine z_iconst C 262 d_M_beginExpression_261 rfl 1 (by decide) ?_
      exact z_zret C rfl (rfl) d_M_beginExpression_262 (by rw [hpo]; exact (by rw [← hhd]; exact ⟨rfl, _, _, rfl, rfl, mRd_node (s := s) (K := 9) (w0 := s.1) (x := rlk T z (s.1 + 1) - 97) (e := eVar (rE0 9 s.1) (rlk T z (s.1 + 1) - 97) (nI (s.1 + 1))) (q := s.1 + 2) h0 rfl h5 rfl h19 (fun k a4 a5 a12 a19 => by simp only [upd, if_neg a4, if_neg a5, if_neg a12, if_neg a19]) (fun a h1 h2 => rfl), rfl⟩)) (by rw [hmc]; omega) (by rw [hms]; omega)
    · obtain ⟨-, e0, rfl⟩ := hv.resolve_left (fun q => r1 q.1)
      cases e0
      rw [if_neg r1] at hhd
      refine z_istore_n C 229 d_M_beginExpression_228 rfl (by decide) ?_
      refine z_aload_n C 230 d_M_beginExpression_229 rfl rfl ?_
      refine z_iload_n C 231 d_M_beginExpression_230 rfl rfl ?_
      refine z_bipush C 233 d_M_beginExpression_231 rfl 35 (by decide) ?_
      refine z_icmp_ne C 236 241 d_M_beginExpression_233 rfl (by decide) (fun h9 => absurd (show (35 : Int32) = 35 from rfl) h9) (fun _ => ?_)
      refine z_bipush C 238 d_M_beginExpression_236 rfl 9 (by decide) ?_
      refine z_goto C 254 d_M_beginExpression_238 (by decide) ?_
      refine z_iload_n C 255 d_M_beginExpression_254 rfl rfl ?_
      refine z_iload_n C 256 d_M_beginExpression_255 rfl rfl ?_
      refine z_call C 259 (c_M_node (i := s.2.1) hn (by exact h12) (by omega) 9 0 s.1) w_M_node ini_M d_M_beginExpression_256 rfl (z_goV (As := [.int (nI 9), .int 0, .int (nI s.1)]) C l_M_136 w_M_node d_M_beginExpression_256 (by omega) rfl rfl rfl) (Nat.le_of_ble_eq_true rfl) (by rw [hR]; simp only [zRm]; omega) (by rw [hR]; simp only [zRm]; omega) (by rw [hR]; simp only [zRm]; omega) (by rw [hR]; simp only [zRm]; omega) (fun v n' σ' hv => ?_) (fun x n' σ' hv => ?_)
      rotate_left
      · cases hv.1
      obtain ⟨e0, e1, rfl⟩ := hv
      cases e0
      obtain rfl : n = n' := e1.symm
      refine z_istore C 261 d_M_beginExpression_259 rfl (by decide) ?_
      refine z_iconst C 262 d_M_beginExpression_261 rfl 1 (by decide) ?_
      exact z_zret C rfl (rfl) d_M_beginExpression_262 (by rw [hpo]; exact (by rw [← hhd]; exact ⟨rfl, _, _, rfl, ⟨_, rfl, rfl⟩, mIl_mk h0 rfl rfl (fun k a4 a5 a12 a19 => by simp only [upd, if_neg a4, if_neg a5, if_neg a12, if_neg a19]) (fun a k h1 h2 h3 => rFlat_ne (by omega))⟩)) (by rw [hmc]; omega) (by rw [hms]; omega)
  · rw [if_neg (show ¬ (65 ≤ (94 : Int32) ∧ (94 : Int32) ≤ 72) by decide), if_neg (show ¬ (94 : Int32) = 40 by decide), if_neg (show ¬ (94 : Int32) = 63 by decide), if_neg (show ¬ (94 : Int32) = 64 by decide), if_neg (show ¬ (94 : Int32) = 37 by decide), if_neg (show ¬ (94 : Int32) = 38 by decide), if_neg (show ¬ (94 : Int32) = 126 by decide), if_neg (show ¬ (94 : Int32) = 35 by decide), if_pos rfl] at hhd
    unfold rHv at hhd
    refine z_iload_n C 193 d_M_beginExpression_192 rfl rfl ?_
    refine z_bipush C 195 d_M_beginExpression_193 rfl 35 (by decide) ?_
    refine z_icmp_eq C 198 210 d_M_beginExpression_195 rfl (by decide) (fun h9 => absurd h9 (show ¬ (94 : Int32) = 35 by decide)) (fun _ => ?_)
    refine z_iload_n C 199 d_M_beginExpression_198 rfl rfl ?_
    refine z_bipush C 201 d_M_beginExpression_199 rfl 94 (by decide) ?_
    refine z_icmp_eq C 204 210 d_M_beginExpression_201 rfl (by decide) (fun _ => ?_) (fun h9 => absurd (show (94 : Int32) = 94 from rfl) h9)
    refine z_aload_n C 211 d_M_beginExpression_210 rfl rfl ?_
    refine z_dup C 212 d_M_beginExpression_211 rfl rfl ?_
    refine zm_get C 215 f_M_108 d_M_beginExpression_212 rfl hn rfl ?_
    rw [h4]
    refine z_iconst C 216 d_M_beginExpression_215 rfl 1 (by decide) ?_
    refine z_iadd C 217 d_M_beginExpression_216 rfl ?_
    rw [nI_1]
    refine zm_puti C 220 p_M_108 d_M_beginExpression_217 rfl hn (by decide) (rfl) rfl rfl ?_
    refine z_aload_n C 221 d_M_beginExpression_220 rfl rfl ?_
    refine z_bipush C 223 d_M_beginExpression_221 rfl 97 (by decide) ?_
    refine z_bipush C 225 d_M_beginExpression_223 rfl 116 (by decide) ?_
    have hTx1 : mTx (upd S 4 (nI (s.1 + 1))) A (s.1 + 1) z := ⟨rfl, t2', hz, by omega, by rw [hA86]; exact hch⟩
    have LT := c_M_letter (G := G) (l := kl K) (L := L) (rn := rn) (σ := σ) hn hTx1 97 116 (by decide)
    rw [mlk_0 hA86 (show (upd S 4 (nI (s.1 + 1))) 5 = 0 from h5)] at LT
    refine z_call C 228 (LT) w_M_letter ini_M d_M_beginExpression_225 rfl (z_goV (As := [.int 97, .int 116]) C l_M_132 w_M_letter d_M_beginExpression_225 (by omega) rfl rfl rfl) (Nat.le_of_ble_eq_true rfl) (by rw [hR]; simp only [zRm]; omega) (by rw [hR]; simp only [zRm]; omega) (by rw [hR]; simp only [zRm]; omega) (by rw [hR]; simp only [zRm]; omega) (fun v n' σ' hv => ?_) (fun x n' σ' hv => ?_)
    rotate_left
    · rcases hv with ⟨-, ⟨-, e0, -⟩ | ⟨-, e0, -⟩⟩ <;> cases e0
    obtain ⟨e1, hv⟩ := hv
    obtain rfl : n = n' := e1.symm
    by_cases r1 : 97 ≤ rlk T z (s.1 + 1) ∧ rlk T z (s.1 + 1) ≤ 116
    · obtain ⟨-, e0, rfl⟩ := hv.resolve_right (fun q => q.1 r1)
      cases e0
      rw [if_pos r1] at hhd
      have hp1 : s.1 + 1 < z := rlk_pos r1.1 (by decide)
      refine z_istore_n C 229 d_M_beginExpression_228 rfl (by decide) ?_
      refine z_aload_n C 230 d_M_beginExpression_229 rfl rfl ?_
      refine z_iload_n C 231 d_M_beginExpression_230 rfl rfl ?_
      refine z_bipush C 233 d_M_beginExpression_231 rfl 35 (by decide) ?_
      refine z_icmp_ne C 236 241 d_M_beginExpression_233 rfl (by decide) (fun _ => ?_) (fun h9 => absurd h9 (show ¬ (94 : Int32) = 35 by decide))
      refine z_iload_n C 242 d_M_beginExpression_241 rfl rfl ?_
      refine z_bipush C 244 d_M_beginExpression_242 rfl 94 (by decide) ?_
      refine z_icmp_ne C 247 252 d_M_beginExpression_244 rfl (by decide) (fun h9 => absurd (show (94 : Int32) = 94 from rfl) h9) (fun _ => ?_)
      refine z_bipush C 249 d_M_beginExpression_247 rfl 10 (by decide) ?_
      refine z_goto C 254 d_M_beginExpression_249 (by decide) ?_
      refine z_iload_n C 255 d_M_beginExpression_254 rfl rfl ?_
      refine z_iload_n C 256 d_M_beginExpression_255 rfl rfl ?_
      refine z_call C 259 (c_M_node (i := s.2.1) hn (by exact h12) (by omega) 10 (rlk T z (s.1 + 1) - 97) s.1) w_M_node ini_M d_M_beginExpression_256 rfl (z_goV (As := [.int (nI 10), .int (rlk T z (s.1 + 1) - 97), .int (nI s.1)]) C l_M_136 w_M_node d_M_beginExpression_256 (by omega) rfl rfl rfl) (Nat.le_of_ble_eq_true rfl) (by rw [hR]; simp only [zRm]; omega) (by rw [hR]; simp only [zRm]; omega) (by rw [hR]; simp only [zRm]; omega) (by rw [hR]; simp only [zRm]; omega) (fun v n' σ' hv => ?_) (fun x n' σ' hv => ?_)
      rotate_left
      · cases hv.1
      obtain ⟨e0, e1, rfl⟩ := hv
      cases e0
      obtain rfl : n = n' := e1.symm
      refine z_istore C 261 d_M_beginExpression_259 rfl (by decide) ?_
      refine z_iconst C 262 d_M_beginExpression_261 rfl 1 (by decide) ?_
      exact z_zret C rfl (rfl) d_M_beginExpression_262 (by rw [hpo]; exact (by rw [← hhd]; exact ⟨rfl, _, _, rfl, rfl, mRd_node (s := s) (K := 10) (w0 := s.1) (x := rlk T z (s.1 + 1) - 97) (e := eVar (rE0 10 s.1) (rlk T z (s.1 + 1) - 97) (nI (s.1 + 1))) (q := s.1 + 2) h0 rfl h5 rfl h19 (fun k a4 a5 a12 a19 => by simp only [upd, if_neg a4, if_neg a5, if_neg a12, if_neg a19]) (fun a h1 h2 => rfl), rfl⟩)) (by rw [hmc]; omega) (by rw [hms]; omega)
    · obtain ⟨-, e0, rfl⟩ := hv.resolve_left (fun q => r1 q.1)
      cases e0
      rw [if_neg r1] at hhd
      refine z_istore_n C 229 d_M_beginExpression_228 rfl (by decide) ?_
      refine z_aload_n C 230 d_M_beginExpression_229 rfl rfl ?_
      refine z_iload_n C 231 d_M_beginExpression_230 rfl rfl ?_
      refine z_bipush C 233 d_M_beginExpression_231 rfl 35 (by decide) ?_
      refine z_icmp_ne C 236 241 d_M_beginExpression_233 rfl (by decide) (fun _ => ?_) (fun h9 => absurd h9 (show ¬ (94 : Int32) = 35 by decide))
      refine z_iload_n C 242 d_M_beginExpression_241 rfl rfl ?_
      refine z_bipush C 244 d_M_beginExpression_242 rfl 94 (by decide) ?_
      refine z_icmp_ne C 247 252 d_M_beginExpression_244 rfl (by decide) (fun h9 => absurd (show (94 : Int32) = 94 from rfl) h9) (fun _ => ?_)
      refine z_bipush C 249 d_M_beginExpression_247 rfl 10 (by decide) ?_
      refine z_goto C 254 d_M_beginExpression_249 (by decide) ?_
      refine z_iload_n C 255 d_M_beginExpression_254 rfl rfl ?_
      refine z_iload_n C 256 d_M_beginExpression_255 rfl rfl ?_
      refine z_call C 259 (c_M_node (i := s.2.1) hn (by exact h12) (by omega) 10 0 s.1) w_M_node ini_M d_M_beginExpression_256 rfl (z_goV (As := [.int (nI 10), .int 0, .int (nI s.1)]) C l_M_136 w_M_node d_M_beginExpression_256 (by omega) rfl rfl rfl) (Nat.le_of_ble_eq_true rfl) (by rw [hR]; simp only [zRm]; omega) (by rw [hR]; simp only [zRm]; omega) (by rw [hR]; simp only [zRm]; omega) (by rw [hR]; simp only [zRm]; omega) (fun v n' σ' hv => ?_) (fun x n' σ' hv => ?_)
      rotate_left
      · cases hv.1
      obtain ⟨e0, e1, rfl⟩ := hv
      cases e0
      obtain rfl : n = n' := e1.symm
      refine z_istore C 261 d_M_beginExpression_259 rfl (by decide) ?_
      refine z_iconst C 262 d_M_beginExpression_261 rfl 1 (by decide) ?_
      exact z_zret C rfl (rfl) d_M_beginExpression_262 (by rw [hpo]; exact (by rw [← hhd]; exact ⟨rfl, _, _, rfl, ⟨_, rfl, rfl⟩, mIl_mk h0 rfl rfl (fun k a4 a5 a12 a19 => by simp only [upd, if_neg a4, if_neg a5, if_neg a12, if_neg a19]) (fun a k h1 h2 h3 => rFlat_ne (by omega))⟩)) (by rw [hmc]; omega) (by rw [hms]; omega)
  · rw [if_neg (show ¬ (65 ≤ (36 : Int32) ∧ (36 : Int32) ≤ 72) by decide), if_neg (show ¬ (36 : Int32) = 40 by decide), if_neg (show ¬ (36 : Int32) = 63 by decide), if_neg (show ¬ (36 : Int32) = 64 by decide), if_neg (show ¬ (36 : Int32) = 37 by decide), if_neg (show ¬ (36 : Int32) = 38 by decide), if_neg (show ¬ (36 : Int32) = 126 by decide), if_neg (show ¬ (36 : Int32) = 35 by decide), if_neg (show ¬ (36 : Int32) = 94 by decide), if_pos rfl] at hhd
    unfold rHv at hhd
    refine z_iload_n C 193 d_M_beginExpression_192 rfl rfl ?_
    refine z_bipush C 195 d_M_beginExpression_193 rfl 35 (by decide) ?_
    refine z_icmp_eq C 198 210 d_M_beginExpression_195 rfl (by decide) (fun h9 => absurd h9 (show ¬ (36 : Int32) = 35 by decide)) (fun _ => ?_)
    refine z_iload_n C 199 d_M_beginExpression_198 rfl rfl ?_
    refine z_bipush C 201 d_M_beginExpression_199 rfl 94 (by decide) ?_
    refine z_icmp_eq C 204 210 d_M_beginExpression_201 rfl (by decide) (fun h9 => absurd h9 (show ¬ (36 : Int32) = 94 by decide)) (fun _ => ?_)
    refine z_iload_n C 205 d_M_beginExpression_204 rfl rfl ?_
    refine z_bipush C 207 d_M_beginExpression_205 rfl 36 (by decide) ?_
    refine z_icmp_ne C 210 263 d_M_beginExpression_207 rfl (by decide) (fun h9 => absurd (show (36 : Int32) = 36 from rfl) h9) (fun _ => ?_)
    refine z_aload_n C 211 d_M_beginExpression_210 rfl rfl ?_
    refine z_dup C 212 d_M_beginExpression_211 rfl rfl ?_
    refine zm_get C 215 f_M_108 d_M_beginExpression_212 rfl hn rfl ?_
    rw [h4]
    refine z_iconst C 216 d_M_beginExpression_215 rfl 1 (by decide) ?_
    refine z_iadd C 217 d_M_beginExpression_216 rfl ?_
    rw [nI_1]
    refine zm_puti C 220 p_M_108 d_M_beginExpression_217 rfl hn (by decide) (rfl) rfl rfl ?_
    refine z_aload_n C 221 d_M_beginExpression_220 rfl rfl ?_
    refine z_bipush C 223 d_M_beginExpression_221 rfl 97 (by decide) ?_
    refine z_bipush C 225 d_M_beginExpression_223 rfl 116 (by decide) ?_
    have hTx1 : mTx (upd S 4 (nI (s.1 + 1))) A (s.1 + 1) z := ⟨rfl, t2', hz, by omega, by rw [hA86]; exact hch⟩
    have LT := c_M_letter (G := G) (l := kl K) (L := L) (rn := rn) (σ := σ) hn hTx1 97 116 (by decide)
    rw [mlk_0 hA86 (show (upd S 4 (nI (s.1 + 1))) 5 = 0 from h5)] at LT
    refine z_call C 228 (LT) w_M_letter ini_M d_M_beginExpression_225 rfl (z_goV (As := [.int 97, .int 116]) C l_M_132 w_M_letter d_M_beginExpression_225 (by omega) rfl rfl rfl) (Nat.le_of_ble_eq_true rfl) (by rw [hR]; simp only [zRm]; omega) (by rw [hR]; simp only [zRm]; omega) (by rw [hR]; simp only [zRm]; omega) (by rw [hR]; simp only [zRm]; omega) (fun v n' σ' hv => ?_) (fun x n' σ' hv => ?_)
    rotate_left
    · rcases hv with ⟨-, ⟨-, e0, -⟩ | ⟨-, e0, -⟩⟩ <;> cases e0
    obtain ⟨e1, hv⟩ := hv
    obtain rfl : n = n' := e1.symm
    by_cases r1 : 97 ≤ rlk T z (s.1 + 1) ∧ rlk T z (s.1 + 1) ≤ 116
    · obtain ⟨-, e0, rfl⟩ := hv.resolve_right (fun q => q.1 r1)
      cases e0
      rw [if_pos r1] at hhd
      have hp1 : s.1 + 1 < z := rlk_pos r1.1 (by decide)
      refine z_istore_n C 229 d_M_beginExpression_228 rfl (by decide) ?_
      refine z_aload_n C 230 d_M_beginExpression_229 rfl rfl ?_
      refine z_iload_n C 231 d_M_beginExpression_230 rfl rfl ?_
      refine z_bipush C 233 d_M_beginExpression_231 rfl 35 (by decide) ?_
      refine z_icmp_ne C 236 241 d_M_beginExpression_233 rfl (by decide) (fun _ => ?_) (fun h9 => absurd h9 (show ¬ (36 : Int32) = 35 by decide))
      refine z_iload_n C 242 d_M_beginExpression_241 rfl rfl ?_
      refine z_bipush C 244 d_M_beginExpression_242 rfl 94 (by decide) ?_
      refine z_icmp_ne C 247 252 d_M_beginExpression_244 rfl (by decide) (fun _ => ?_) (fun h9 => absurd h9 (show ¬ (36 : Int32) = 94 by decide))
      refine z_bipush C 254 d_M_beginExpression_252 rfl 11 (by decide) ?_
      refine z_iload_n C 255 d_M_beginExpression_254 rfl rfl ?_
      refine z_iload_n C 256 d_M_beginExpression_255 rfl rfl ?_
      refine z_call C 259 (c_M_node (i := s.2.1) hn (by exact h12) (by omega) 11 (rlk T z (s.1 + 1) - 97) s.1) w_M_node ini_M d_M_beginExpression_256 rfl (z_goV (As := [.int (nI 11), .int (rlk T z (s.1 + 1) - 97), .int (nI s.1)]) C l_M_136 w_M_node d_M_beginExpression_256 (by omega) rfl rfl rfl) (Nat.le_of_ble_eq_true rfl) (by rw [hR]; simp only [zRm]; omega) (by rw [hR]; simp only [zRm]; omega) (by rw [hR]; simp only [zRm]; omega) (by rw [hR]; simp only [zRm]; omega) (fun v n' σ' hv => ?_) (fun x n' σ' hv => ?_)
      rotate_left
      · cases hv.1
      obtain ⟨e0, e1, rfl⟩ := hv
      cases e0
      obtain rfl : n = n' := e1.symm
      refine z_istore C 261 d_M_beginExpression_259 rfl (by decide) ?_
      refine z_iconst C 262 d_M_beginExpression_261 rfl 1 (by decide) ?_
      exact z_zret C rfl (rfl) d_M_beginExpression_262 (by rw [hpo]; exact (by rw [← hhd]; exact ⟨rfl, _, _, rfl, rfl, mRd_node (s := s) (K := 11) (w0 := s.1) (x := rlk T z (s.1 + 1) - 97) (e := eVar (rE0 11 s.1) (rlk T z (s.1 + 1) - 97) (nI (s.1 + 1))) (q := s.1 + 2) h0 rfl h5 rfl h19 (fun k a4 a5 a12 a19 => by simp only [upd, if_neg a4, if_neg a5, if_neg a12, if_neg a19]) (fun a h1 h2 => rfl), rfl⟩)) (by rw [hmc]; omega) (by rw [hms]; omega)
    · obtain ⟨-, e0, rfl⟩ := hv.resolve_left (fun q => r1 q.1)
      cases e0
      rw [if_neg r1] at hhd
      refine z_istore_n C 229 d_M_beginExpression_228 rfl (by decide) ?_
      refine z_aload_n C 230 d_M_beginExpression_229 rfl rfl ?_
      refine z_iload_n C 231 d_M_beginExpression_230 rfl rfl ?_
      refine z_bipush C 233 d_M_beginExpression_231 rfl 35 (by decide) ?_
      refine z_icmp_ne C 236 241 d_M_beginExpression_233 rfl (by decide) (fun _ => ?_) (fun h9 => absurd h9 (show ¬ (36 : Int32) = 35 by decide))
      refine z_iload_n C 242 d_M_beginExpression_241 rfl rfl ?_
      refine z_bipush C 244 d_M_beginExpression_242 rfl 94 (by decide) ?_
      refine z_icmp_ne C 247 252 d_M_beginExpression_244 rfl (by decide) (fun _ => ?_) (fun h9 => absurd h9 (show ¬ (36 : Int32) = 94 by decide))
      refine z_bipush C 254 d_M_beginExpression_252 rfl 11 (by decide) ?_
      refine z_iload_n C 255 d_M_beginExpression_254 rfl rfl ?_
      refine z_iload_n C 256 d_M_beginExpression_255 rfl rfl ?_
      refine z_call C 259 (c_M_node (i := s.2.1) hn (by exact h12) (by omega) 11 0 s.1) w_M_node ini_M d_M_beginExpression_256 rfl (z_goV (As := [.int (nI 11), .int 0, .int (nI s.1)]) C l_M_136 w_M_node d_M_beginExpression_256 (by omega) rfl rfl rfl) (Nat.le_of_ble_eq_true rfl) (by rw [hR]; simp only [zRm]; omega) (by rw [hR]; simp only [zRm]; omega) (by rw [hR]; simp only [zRm]; omega) (by rw [hR]; simp only [zRm]; omega) (fun v n' σ' hv => ?_) (fun x n' σ' hv => ?_)
      rotate_left
      · cases hv.1
      obtain ⟨e0, e1, rfl⟩ := hv
      cases e0
      obtain rfl : n = n' := e1.symm
      refine z_istore C 261 d_M_beginExpression_259 rfl (by decide) ?_
      refine z_iconst C 262 d_M_beginExpression_261 rfl 1 (by decide) ?_
      exact z_zret C rfl (rfl) d_M_beginExpression_262 (by rw [hpo]; exact (by rw [← hhd]; exact ⟨rfl, _, _, rfl, ⟨_, rfl, rfl⟩, mIl_mk h0 rfl rfl (fun k a4 a5 a12 a19 => by simp only [upd, if_neg a4, if_neg a5, if_neg a12, if_neg a19]) (fun a k h1 h2 h3 => rFlat_ne (by omega))⟩)) (by rw [hmc]; omega) (by rw [hms]; omega)
end MBX
