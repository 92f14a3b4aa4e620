section LW2
variable {G : zG} {K : zK} {FR : rFR} {n k1 k2 t Ls : Nat} {f : Nat → Int32} {σ : zS} {xs : mS} {xr : Int64} {xa : mA} {xl : mL} {xf : xF} {S : mS} {A : mA} {L : mL} {rn : Int64}
theorem Rel.cell (h : Rel FR n σ xs xr xa xl xf S A L rn) (i j : Int32) : ∃ a r c : Nat, ((xs 3 = 1 ∨ xs 3 = 2) → xRes xs xr xa a r c) ∧ (¬ S 46 < 1 → S 48 = nI r ∧ S 49 = nI c ∧ r ≤ 40 ∧ c ≤ 40 ∧ r * c ≤ 40) ∧ (xcellP xs r c i j → xl (10 + a) (i.toNatClampNeg * c + (xcol xs j).toNatClampNeg) = mcell S L i j) ∧ (¬ xcellP xs r c i j → 0 = mcell S L i j) := by
  obtain ⟨-, -, -, -, ⟨h1, h2⟩, -⟩ := h
  have no : S 46 < 1 → ¬ (S 46 = 1 ∨ S 46 = 2) → ∃ a r c : Nat, ((xs 3 = 1 ∨ xs 3 = 2) → xRes xs xr xa a r c) ∧ (¬ S 46 < 1 → S 48 = nI r ∧ S 49 = nI c ∧ r ≤ 40 ∧ c ≤ 40 ∧ r * c ≤ 40) ∧ (xcellP xs r c i j → xl (10 + a) (i.toNatClampNeg * c + (xcol xs j).toNatClampNeg) = mcell S L i j) ∧ (¬ xcellP xs r c i j → 0 = mcell S L i j) := fun a b =>
    ⟨0, 0, 0, fun q => absurd (h1 ▸ q) b, fun q => absurd a q, fun q => absurd (h1 ▸ q.1) b, fun _ => by rw [mcell, if_pos (Or.inl a)]⟩
  rcases h2 with h2 | ⟨h2, -⟩ | ⟨h2, a, r, c, hx, h7, h8, h9, h10⟩
  · exact no (by rw [h2]; decide) (by rw [h2]; decide)
  · exact no (by rw [h2]; decide) (by rw [h2]; decide)
  · have hlt : ¬ S 46 < 1 := by rcases h2 with h2 | h2 <;> rw [h2] <;> decide
    have ec : xcol xs j = mcol S j := by unfold xcol mcol; rw [h1]
    have hx0 := hx
    obtain ⟨q1, q2, q3, q4, q5, q6, q7⟩ := hx
    refine ⟨a, r, c, fun _ => hx0, fun _ => ⟨h7, h8, q5, q6, q7⟩, fun w => ?_, fun w => ?_⟩
    · obtain ⟨-, w1, w2, w3, w4⟩ := w
      rw [ec] at w3 w4 ⊢
      obtain ⟨ii, hi, ei⟩ := nI_of w1
      obtain ⟨jj, hj, ej⟩ := nI_of w3
      rw [ei] at w2
      rw [ej] at w4
      have b1 : ii < r := (nI_ltI hi (by omega)).mp w2
      have b2 : jj < c := (nI_ltI hj (by omega)).mp w4
      have hb : ii * c + jj < r * c := by
        have b3 : (ii + 1) * c ≤ r * c := Nat.mul_le_mul_right c b1
        rw [Nat.succ_mul] at b3
        omega
      rw [mcell, if_neg, h8, ej, ei, nI_clamp (by omega), nI_clamp (by omega), nI_clamp (by omega)]
      · exact h10 _ hb
      · rw [h7, h8, ej, ei]
        exact fun q => q.elim hlt (fun q => q.elim (nI_pos hi) (fun q => q.elim (fun q => absurd ((nI_leI (by omega) hi).mp q) (by omega)) (fun q => q.elim (nI_pos hj) (fun q => absurd ((nI_leI (by omega) hj).mp q) (by omega)))))
    · rw [mcell, if_pos]
      rw [h7, h8]
      refine Decidable.byContradiction fun q => w ⟨h1 ▸ h2, ?_, ?_, ?_, ?_⟩
      · exact fun z => q (Or.inr (Or.inl z))
      · exact Int32.not_le.mp fun z => q (Or.inr (Or.inr (Or.inl z)))
      · rw [ec]; exact fun z => q (Or.inr (Or.inr (Or.inr (Or.inl z))))
      · rw [ec]; exact Int32.not_le.mp fun z => q (Or.inr (Or.inr (Or.inr (Or.inr z))))
theorem l_c9 (C : zC G K y_L_law b_L_law 7 (some .boolean) []) (hX : zOld G K Ls f) (hr : lRoom K Ls) (hF : lFin G K FR t) (a : lAt FR Ls t n σ xs xr xa xl xf S A L rn k1 k2) : Z G K n (xOv xs xr xa xl xf (mOv S A L rn σ)) k1 k2 372 (lv0 t) [] := by
  obtain ⟨ht, hn, hn2, ho, hk1, hk2, h⟩ := a
  obtain ⟨r1, r2, r3, r4⟩ := hr
  have hLs := hX.2.2
  obtain ⟨ar, r, c, ha, hb, h1, h0⟩ := h.cell (f (4 * t + 1)) (f (4 * t + 2))
  refine z_aload_n C 373 d_L_law_372 rfl rfl ?_
  refine z_aload_n C 374 d_L_law_373 rfl rfl ?_
  refine z_iload C 376 d_L_law_374 rfl rfl ?_
  refine z_iconst C 377 d_L_law_376 rfl 1 (by decide) ?_
  refine z_iadd C 378 d_L_law_377 rfl ?_
  refine z_iald0 C 379 (4 * t + 1) d_L_law_378 rfl hX (nI_add _ 1) (by omega) ?_
  refine z_aload_n C 380 d_L_law_379 rfl rfl ?_
  refine z_iload C 382 d_L_law_380 rfl rfl ?_
  refine z_iconst C 383 d_L_law_382 rfl 2 (by decide) ?_
  refine z_iadd C 384 d_L_law_383 rfl ?_
  refine z_iald0 C 385 (4 * t + 2) d_L_law_384 rfl hX (nI_add _ 2) (by omega) ?_
  refine z_call C 388 (c_S_cell (by omega) (by omega) _ _ ar r c ha) w_S_cell ini_S d_L_law_385 rfl (z_goV (As := [.int (f (4 * t + 1)), .int (f (4 * t + 2))]) C l_L_78 w_S_cell d_L_law_385 (by omega) rfl rfl rfl) (Nat.le_of_ble_eq_true rfl) (by omega) (by omega) (by omega) (by omega) (fun v n' σ' hv => ?_) (fun x n' σ' hv => ?_)
  · obtain ⟨e0, e1, rfl⟩ := hv
    obtain rfl : n = n' := e1.symm
    obtain ⟨v0, rfl, hv0⟩ : ∃ v0, v = some (.long v0) ∧ v0 = mcell S L (f (4 * t + 1)) (f (4 * t + 2)) := by
      rcases e0 with ⟨q, e0⟩ | ⟨q, e0⟩ <;> cases e0
      · exact ⟨_, rfl, h1 q⟩
      · exact ⟨_, rfl, h0 q⟩
    rw [← mx_comm]
    refine z_aload_n C 389 d_L_law_388 rfl rfl ?_
    refine z_aload_n C 390 d_L_law_389 rfl rfl ?_
    refine z_iload C 392 d_L_law_390 rfl rfl ?_
    refine z_iconst C 393 d_L_law_392 rfl 1 (by decide) ?_
    refine z_iadd C 394 d_L_law_393 rfl ?_
    refine z_iald0 C 395 (4 * t + 1) d_L_law_394 rfl hX (nI_add _ 1) (by omega) ?_
    refine z_aload_n C 396 d_L_law_395 rfl rfl ?_
    refine z_iload C 398 d_L_law_396 rfl rfl ?_
    refine z_iconst C 399 d_L_law_398 rfl 2 (by decide) ?_
    refine z_iadd C 400 d_L_law_399 rfl ?_
    refine z_iald0 C 401 (4 * t + 2) d_L_law_400 rfl hX (nI_add _ 2) (by omega) ?_
    refine z_call C 404 (c_M_cell (by omega) _ _ r c hb) w_M_cell ini_M d_L_law_401 rfl (z_goV (As := [.int (f (4 * t + 1)), .int (f (4 * t + 2))]) C l_L_82 w_M_cell d_L_law_401 (by omega) rfl rfl rfl) (Nat.le_of_ble_eq_true rfl) (by omega) (by omega) (by omega) (by omega) (fun v n' σ' hv => ?_) (fun x n' σ' hv => ?_)
    · obtain ⟨e0, e1, rfl⟩ := hv
      cases e0
      obtain rfl : n = n' := e1.symm
      rw [mx_comm]
      refine z_lcmp C 405 d_L_law_404 rfl ?_
      refine z_if_eq C 408 435 d_L_law_405 rfl (by decide) (fun _ => ?_) (fun h9 => absurd ((lg_cmp_eq _ _).mpr hv0) h9)
      exact hF _ _ _ _ _ _ _ _ _ _ _ _ _ (by omega) (by omega) ho (h.code 0) (by omega) (by omega)
    · cases hv.1
  · rcases hv.1 with ⟨_, e0⟩ | ⟨_, e0⟩ <;> cases e0
theorem l_c4 (C : zC G K y_L_law b_L_law 7 (some .boolean) []) (hX : zOld G K Ls f) (hr : lRoom K Ls) (hF : lFin G K FR t) (a : lAt FR Ls t n σ xs xr xa xl xf S A L rn k1 k2) : Z G K n (xOv xs xr xa xl xf (mOv S A L rn σ)) k1 k2 193 (lv0 t) [] := by
  obtain ⟨ht, hn, hn2, ho, hk1, hk2, h⟩ := a
  obtain ⟨r1, r2, r3, r4⟩ := hr
  have hrel : ∀ v : Int64, Rel FR n σ xs xr xa (if f (4 * t + 1) < 0 ∨ 3 < f (4 * t + 1) then xl else va_up xl 4 (vp_updL (xl 4) (f (4 * t + 1)).toNatClampNeg v)) xf S A (if f (4 * t + 1) < 0 ∨ 3 < f (4 * t + 1) then L else va_up L 111 (vp_updL (L 111) (f (4 * t + 1)).toNatClampNeg v)) rn := fun v => by
    by_cases q : f (4 * t + 1) < 0 ∨ 3 < f (4 * t + 1)
    · rw [if_pos q, if_pos q]; exact h
    · rw [if_neg q, if_neg q]
      refine h.arg ?_
      obtain ⟨jj, hj, ej⟩ := nI_of2 (n := 3) (M := 3) rfl (fun z => q (Or.inl z)) (Int32.not_lt.mp (fun z => q (Or.inr z)))
      rw [ej, nI_clamp (by omega)]
      omega
  refine z_aload_n C 194 d_L_law_193 rfl rfl ?_
  refine z_aload_n C 195 d_L_law_194 rfl rfl ?_
  refine z_iload C 197 d_L_law_195 rfl rfl ?_
  refine z_iconst C 198 d_L_law_197 rfl 1 (by decide) ?_
  refine z_iadd C 199 d_L_law_198 rfl ?_
  refine z_iald0 C 200 (4 * t + 1) d_L_law_199 rfl hX (nI_add _ 1) (by omega) ?_
  refine z_aload_n C 201 d_L_law_200 rfl rfl ?_
  refine z_iload C 203 d_L_law_201 rfl rfl ?_
  refine z_iconst C 204 d_L_law_203 rfl 2 (by decide) ?_
  refine z_iadd C 205 d_L_law_204 rfl ?_
  refine z_iald0 C 206 (4 * t + 2) d_L_law_205 rfl hX (nI_add _ 2) (by omega) ?_
  refine z_i2l C 207 d_L_law_206 rfl ?_
  refine z_bipush C 209 d_L_law_207 rfl 32 (by decide) ?_
  refine z_lshl C 210 d_L_law_209 rfl ?_
  refine z_aload_n C 211 d_L_law_210 rfl rfl ?_
  refine z_iload C 213 d_L_law_211 rfl rfl ?_
  refine z_iconst C 214 d_L_law_213 rfl 3 (by decide) ?_
  refine z_iadd C 215 d_L_law_214 rfl ?_
  refine z_iald0 C 216 (4 * t + 3) d_L_law_215 rfl hX (nI_add _ 3) (by omega) ?_
  refine z_i2l C 217 d_L_law_216 rfl ?_
  refine z_ldc2 C 220 4294967295 d_L_law_217 rfl cl_L_53 ?_
  refine z_land C 221 d_L_law_220 rfl ?_
  refine z_lor C 222 d_L_law_221 rfl ?_
  generalize hvv : ((f (4 * t + 2)).toInt64 <<< ((32 : Int32).toInt64 &&& 63) ||| ((f (4 * t + 3)).toInt64 &&& 4294967295)) = vv
  refine z_call C 225 (c_S_argument (by omega) _ _) w_S_argument ini_S d_L_law_222 rfl (z_goV (As := [.int (f (4 * t + 1)), .long vv]) C l_L_55 w_S_argument d_L_law_222 (by omega) rfl rfl rfl) (Nat.le_of_ble_eq_true rfl) (by omega) (by omega) (by omega) (by omega) (fun v n' σ' hv => ?_) (fun x n' σ' hv => ?_)
  · obtain ⟨e0, e1, rfl⟩ := hv
    cases e0
    obtain rfl : n = n' := e1.symm
    rw [← mx_comm]
    refine z_aload_n C 226 d_L_law_225 rfl rfl ?_
    refine z_aload_n C 227 d_L_law_226 rfl rfl ?_
    refine z_iload C 229 d_L_law_227 rfl rfl ?_
    refine z_iconst C 230 d_L_law_229 rfl 1 (by decide) ?_
    refine z_iadd C 231 d_L_law_230 rfl ?_
    refine z_iald0 C 232 (4 * t + 1) d_L_law_231 rfl hX (nI_add _ 1) (by omega) ?_
    refine z_aload_n C 233 d_L_law_232 rfl rfl ?_
    refine z_iload C 235 d_L_law_233 rfl rfl ?_
    refine z_iconst C 236 d_L_law_235 rfl 2 (by decide) ?_
    refine z_iadd C 237 d_L_law_236 rfl ?_
    refine z_iald0 C 238 (4 * t + 2) d_L_law_237 rfl hX (nI_add _ 2) (by omega) ?_
    refine z_i2l C 239 d_L_law_238 rfl ?_
    refine z_bipush C 241 d_L_law_239 rfl 32 (by decide) ?_
    refine z_lshl C 242 d_L_law_241 rfl ?_
    refine z_aload_n C 243 d_L_law_242 rfl rfl ?_
    refine z_iload C 245 d_L_law_243 rfl rfl ?_
    refine z_iconst C 246 d_L_law_245 rfl 3 (by decide) ?_
    refine z_iadd C 247 d_L_law_246 rfl ?_
    refine z_iald0 C 248 (4 * t + 3) d_L_law_247 rfl hX (nI_add _ 3) (by omega) ?_
    refine z_i2l C 249 d_L_law_248 rfl ?_
    refine z_ldc2 C 252 4294967295 d_L_law_249 rfl cl_L_53 ?_
    refine z_land C 253 d_L_law_252 rfl ?_
    refine z_lor C 254 d_L_law_253 rfl ?_
    rw [hvv]
    refine z_call C 257 (c_M_argument (by omega) _ _) w_M_argument ini_M d_L_law_254 rfl (z_goV (As := [.int (f (4 * t + 1)), .long vv]) C l_L_59 w_M_argument d_L_law_254 (by omega) rfl rfl rfl) (Nat.le_of_ble_eq_true rfl) (by omega) (by omega) (by omega) (by omega) (fun v n' σ' hv => ?_) (fun x n' σ' hv => ?_)
    · obtain ⟨e0, e1, rfl⟩ := hv
      cases e0
      obtain rfl : n = n' := e1.symm
      rw [mx_comm]
      refine z_icmp_eq C 260 435 d_L_law_257 rfl (by decide) (fun _ => ?_) (fun h9 => absurd rfl h9)
      exact hF _ _ _ _ _ _ _ _ _ _ _ _ _ (by omega) (by omega) ho ((hrel vv).code 0) (by omega) (by omega)
    · cases hv.1
  · cases hv.1
theorem l_c0 (C : zC G K y_L_law b_L_law 7 (some .boolean) []) (hX : zOld G K Ls f) (hr : lRoom K Ls) (hO : rFRok FR) (hF : lFin G K FR t) (a : lAt FR Ls t n σ xs xr xa xl xf S A L rn k1 k2) : Z G K n (xOv xs xr xa xl xf (mOv S A L rn σ)) k1 k2 96 (lv0 t) [] := by
  obtain ⟨ht, hn, hn2, ho, hk1, hk2, h⟩ := a
  obtain ⟨r1, r2, r3, r4⟩ := hr
  obtain ⟨⟨u, z, hT⟩, -⟩ := id h
  have hT' : rTx xs xa (upd S 0 0) A u z := hT
  obtain ⟨t1, t2, t3, t4, t5, t6, -⟩ := id hT
  refine z_aload_n C 97 d_L_law_96 rfl rfl ?_
  refine z_aload_n C 98 d_L_law_97 rfl rfl ?_
  refine z_iload C 100 d_L_law_98 rfl rfl ?_
  refine z_iconst C 101 d_L_law_100 rfl 1 (by decide) ?_
  refine z_iadd C 102 d_L_law_101 rfl ?_
  refine z_iald0 C 103 (4 * t + 1) d_L_law_102 rfl hX (nI_add _ 1) (by omega) ?_
  refine z_i2c C 104 d_L_law_103 rfl ?_
  generalize hcc : ((f (4 * t + 1)).toUInt32 % 65536).toInt32 = c
  have hbd : mbad S c ↔ (c < 32 ∨ 126 < c ∨ u = 150) := by
    unfold mbad
    rw [t3]
    have e : nI u = 150 ↔ u = 150 := nI_eq (b := 150) (by omega) (by omega)
    rw [e]
  have hu : ¬ (c < 32 ∨ 126 < c ∨ u = 150) → u < 150 := fun q => Nat.lt_of_le_of_ne t6 (fun e => q (Or.inr (Or.inr e)))
  refine z_call C 107 (c_S_type (by omega) _ u z t1 t2 t5 t6) w_S_type ini_S d_L_law_104 rfl (z_goV (As := [.int c]) C l_L_31 w_S_type d_L_law_104 (by omega) rfl rfl rfl) (Nat.le_of_ble_eq_true rfl) (by omega) (by omega) (by omega) (by omega) (fun v n' σ' hv => ?_) (fun x n' σ' hv => ?_)
  · obtain ⟨e1, hv⟩ := hv
    obtain rfl : n = n' := e1.symm
    rcases hv with ⟨b, e0, rfl⟩ | ⟨b, b2, e0, rfl⟩ | ⟨b, b2, e0, rfl⟩
    · cases e0
      rw [← mx_comm]
      refine z_aload_n C 108 d_L_law_107 rfl rfl ?_
      refine z_aload_n C 109 d_L_law_108 rfl rfl ?_
      refine z_iload C 111 d_L_law_109 rfl rfl ?_
      refine z_iconst C 112 d_L_law_111 rfl 1 (by decide) ?_
      refine z_iadd C 113 d_L_law_112 rfl ?_
      refine z_iald0 C 114 (4 * t + 1) d_L_law_113 rfl hX (nI_add _ 1) (by omega) ?_
      refine z_i2c C 115 d_L_law_114 rfl ?_
      rw [hcc]
      refine z_call C 118 (c_M_type (by omega) _ u z t3 t4 t5 t6) w_M_type ini_M d_L_law_115 rfl (z_goV (As := [.int c]) C l_L_35 w_M_type d_L_law_115 (by omega) rfl rfl rfl) (Nat.le_of_ble_eq_true rfl) (by omega) (by omega) (by omega) (by omega) (fun v n' σ' hv => ?_) (fun x n' σ' hv => ?_)
      · obtain ⟨e1, hv⟩ := hv
        obtain rfl : n = n' := e1.symm
        rcases hv with ⟨d, e0, rfl⟩ | ⟨d, -⟩ | ⟨d, -⟩
        · cases e0
          rw [mx_comm]
          refine z_icmp_eq C 121 435 d_L_law_118 rfl (by decide) (fun _ => ?_) (fun h9 => absurd rfl h9)
          exact hF _ _ _ _ _ _ _ _ _ _ _ _ _ (by omega) (by omega) ho (h.code 0) (by omega) (by omega)
        · exact absurd (hbd.mpr b) d
        · exact absurd (hbd.mpr b) d
      · rcases hv.2 with ⟨_, e0, _⟩ | ⟨_, _, e0, _⟩ | ⟨_, _, e0, _⟩ <;> cases e0
    · cases e0
      rw [← mx_comm]
      refine z_aload_n C 108 d_L_law_107 rfl rfl ?_
      refine z_aload_n C 109 d_L_law_108 rfl rfl ?_
      refine z_iload C 111 d_L_law_109 rfl rfl ?_
      refine z_iconst C 112 d_L_law_111 rfl 1 (by decide) ?_
      refine z_iadd C 113 d_L_law_112 rfl ?_
      refine z_iald0 C 114 (4 * t + 1) d_L_law_113 rfl hX (nI_add _ 1) (by omega) ?_
      refine z_i2c C 115 d_L_law_114 rfl ?_
      rw [hcc]
      refine z_call C 118 (c_M_type (by omega) _ u z t3 t4 t5 t6) w_M_type ini_M d_L_law_115 rfl (z_goV (As := [.int c]) C l_L_35 w_M_type d_L_law_115 (by omega) rfl rfl rfl) (Nat.le_of_ble_eq_true rfl) (by omega) (by omega) (by omega) (by omega) (fun v n' σ' hv => ?_) (fun x n' σ' hv => ?_)
      · obtain ⟨e1, hv⟩ := hv
        obtain rfl : n = n' := e1.symm
        rcases hv with ⟨d, -⟩ | ⟨d, -, e0, rfl⟩ | ⟨d, d2, -⟩
        · exact absurd (hbd.mp d) b
        · cases e0
          rw [mx_comm]
          refine z_icmp_eq C 121 435 d_L_law_118 rfl (by decide) (fun _ => ?_) (fun h9 => absurd rfl h9)
          exact hF _ _ _ _ _ _ _ _ _ _ _ _ _ (by omega) (by omega) ho (Rel.space (h.code 0) hT' (hu b)) (by omega) (by omega)
        · exact absurd b2 d2
      · rcases hv.2 with ⟨_, e0, _⟩ | ⟨_, _, e0, _⟩ | ⟨_, _, e0, _⟩ <;> cases e0
    · cases e0
      rw [← mx_comm]
      refine z_aload_n C 108 d_L_law_107 rfl rfl ?_
      refine z_aload_n C 109 d_L_law_108 rfl rfl ?_
      refine z_iload C 111 d_L_law_109 rfl rfl ?_
      refine z_iconst C 112 d_L_law_111 rfl 1 (by decide) ?_
      refine z_iadd C 113 d_L_law_112 rfl ?_
      refine z_iald0 C 114 (4 * t + 1) d_L_law_113 rfl hX (nI_add _ 1) (by omega) ?_
      refine z_i2c C 115 d_L_law_114 rfl ?_
      rw [hcc]
      refine z_call C 118 (c_M_type (by omega) _ u z t3 t4 t5 t6) w_M_type ini_M d_L_law_115 rfl (z_goV (As := [.int c]) C l_L_35 w_M_type d_L_law_115 (by omega) rfl rfl rfl) (Nat.le_of_ble_eq_true rfl) (by omega) (by omega) (by omega) (by omega) (fun v n' σ' hv => ?_) (fun x n' σ' hv => ?_)
      · obtain ⟨e1, hv⟩ := hv
        obtain rfl : n = n' := e1.symm
        rcases hv with ⟨d, -⟩ | ⟨d, d2, -⟩ | ⟨d, -, e0, rfl⟩
        · exact absurd (hbd.mp d) b
        · exact absurd d2 b2
        · cases e0
          rw [mx_comm]
          refine z_icmp_eq C 121 435 d_L_law_118 rfl (by decide) (fun _ => ?_) (fun h9 => absurd rfl h9)
          exact hF _ _ _ _ _ _ _ _ _ _ _ _ _ (by omega) (by omega) ho (Rel.char hO (h.code 0) hT' (hu b) (fun q => b (Or.inl q)) (fun q => b (Or.inr (Or.inl q))) b2) (by omega) (by omega)
      · rcases hv.2 with ⟨_, e0, _⟩ | ⟨_, _, e0, _⟩ | ⟨_, _, e0, _⟩ <;> cases e0
  · rcases hv.2 with ⟨_, e0, _⟩ | ⟨_, _, e0, _⟩ | ⟨_, _, e0, _⟩ <;> cases e0
end LW2
