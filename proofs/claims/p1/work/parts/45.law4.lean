theorem l_and (x : Int32) : ∃ j, j < 16 ∧ x &&& 15 = nI j := by
  refine ⟨(x &&& 15).toBitVec.toNat, ?_, ?_⟩
  · rw [Int32.toBitVec_and, BitVec.toNat_and]
    exact Nat.lt_succ_of_le Nat.and_le_right
  · refine Int32.toBitVec_inj.mp ?_
    show _ = (Int32.ofNat _).toBitVec
    rw [Int32.toBitVec_ofNat']
    simp
theorem l_gt {a b : Nat} (ha : a ≤ 2048) (hb : b ≤ 2048) (h : b ≤ a) : (nI a - 4 < nI b) ↔ a < b + 4 := by
  by_cases q : 4 ≤ a
  · have e : nI a - 4 = nI (a - 4) := by
      have e1 : nI a = nI (a - 4) + 4 := by
        rw [show nI (a - 4) + 4 = nI (a - 4 + 4) from nI_add _ 4, Nat.sub_add_cancel q]
      rw [e1, Int32.add_sub_cancel]
    rw [e, nI_ltI (by omega) (by omega)]
    omega
  · have hh : (a = 0 ∨ a = 1 ∨ a = 2 ∨ a = 3) ∧ (b = 0 ∨ b = 1 ∨ b = 2 ∨ b = 3) := by omega
    obtain ⟨ha', hb'⟩ := hh
    rcases ha' with rfl | rfl | rfl | rfl <;> rcases hb' with rfl | rfl | rfl | rfl <;> decide
/-- the two objects as they are made -/
def lFr (n : Nat) (xs : mS) (xr : Int64) (xa : mA) (xl : mL) (xf : xF) (S : mS) (A : mA) (L : mL) (rn : Int64) : Prop := n = 114 ∧ xs = xs0 ∧ xr = 0 ∧ xa = (fun _ _ => 0) ∧ xl = (fun _ _ => 0) ∧ xf = (fun _ => none) ∧ S = mS0 ∧ A = (fun _ _ => 0) ∧ L = (fun _ _ => 0) ∧ rn = 0
def lHD (G : zG) (l : Launch) (FR : rFR) (Ls : Nat) : Prop := ∀ (t n : Nat) (σ : zS) (xs : mS) (xr : Int64) (xa : mA) (xl : mL) (xf : xF) (S : mS) (A : mA) (L : mL) (rn : Int64), 4 * t + 4 ≤ Ls → Ls ≤ 2048 → (t = 0 → lFr n xs xr xa xl xf S A L rn) → 114 ≤ n → n ≤ 114 + 1000 * t → Rel FR n σ xs xr xa xl xf S A L rn →
  lCall G l FR 2 y_S_define b_S_define 3 [.ref 0] y_M_define b_M_define 4 [.ref 85] n σ xs xr xa xl xf S A L rn
def lHR (G : zG) (l : Launch) (FR : rFR) (Ls : Nat) : Prop := ∀ (t n : Nat) (σ : zS) (xs : mS) (xr : Int64) (xa : mA) (xl : mL) (xf : xF) (S : mS) (A : mA) (L : mL) (rn : Int64) (x : Int32), 4 * t + 4 ≤ Ls → Ls ≤ 2048 → (t = 0 → lFr n xs xr xa xl xf S A L rn) → 114 ≤ n → n ≤ 114 + 1000 * t → Rel FR n σ xs xr xa xl xf S A L rn →
  lCall G l FR 5 y_S_run b_S_run 3 [.ref 0, .int (x.toUInt32 % 65536).toInt32] y_M_run b_M_run 5 [.ref 85, .int (x.toUInt32 % 65536).toInt32] n σ xs xr xa xl xf S A L rn
section LW4
variable {G : zG} {K : zK} {FR : rFR} {Ls : Nat} {f : Nat → Int32}
theorem l_loop (C : zC G K y_L_law b_L_law 7 (some .boolean) []) (hX : zOld G K Ls f) (hr : lRoom K Ls) (hmc : (kR K).cells ≤ kmc K) (hms : (kR K).slots ≤ kms K) (hpo : ∀ n σ, kpo K (.returned (some (.int 1))) n σ) (hO : rFRok FR) (HD : lHD G (kl K) FR Ls) (HR : lHR G (kl K) FR Ls) :
    ∀ (r t n : Nat) (σ : zS) (xs : mS) (xr : Int64) (xa : mA) (xl : mL) (xf : xF) (S : mS) (A : mA) (L : mL) (rn : Int64) (k1 k2 : Nat), Ls / 4 = t + r → (t = 0 → lFr n xs xr xa xl xf S A L rn) → 114 ≤ n → n ≤ 114 + 1000 * t → lOut σ → k1 ≤ 114 + 1000 * t → k2 ≤ 27457 + 14000 * t → Rel FR n σ xs xr xa xl xf S A L rn → Z G K n (xOv xs xr xa xl xf (mOv S A L rn σ)) k1 k2 23 (lv0 t) []
  | 0, t, n, σ, xs, xr, xa, xl, xf, S, A, L, rn, k1, k2, e, _, _, _, _, b1, b2, _ => by
    have hLs := hX.2.2
    obtain ⟨r1, r2, r3, r4⟩ := hr
    refine z_iload C 25 d_L_law_23 rfl rfl ?_
    refine z_aload_n C 26 d_L_law_25 rfl rfl ?_
    refine z_alen0 C 27 d_L_law_26 rfl hX ?_
    refine z_iconst C 28 d_L_law_27 rfl 4 (by decide) ?_
    refine z_isub C 29 d_L_law_28 rfl ?_
    refine z_icmp_gt C 32 441 d_L_law_29 rfl (by decide) (fun _ => ?_) (fun h9 => absurd ((l_gt hLs (by omega) (by omega)).mpr (by omega)) h9)
    refine z_iconst C 442 d_L_law_441 rfl 1 (by decide) ?_
    exact z_zret C rfl rfl d_L_law_442 (hpo _ _) (by omega) (by omega)
  | r + 1, t, n, σ, xs, xr, xa, xl, xf, S, A, L, rn, k1, k2, e, hz, a1, a2, a3, b1, b2, h => by
    have hLs := hX.2.2
    have ht : 4 * t + 4 ≤ Ls := by omega
    have a : lAt FR Ls t n σ xs xr xa xl xf S A L rn k1 k2 := ⟨ht, a1, a2, a3, b1, b2, h⟩
    have hF : lFin G K FR t := fun n' σ' xs' xr' xa' xl' xf' S' A' L' rn' k1' k2' c1 c2 c3 c4 c5 c6 => by
      refine z_iinc C 438 d_L_law_435 rfl (nI (4 * (t + 1))) rfl (nI_add _ 4) (by decide) ?_
      refine z_goto C 23 d_L_law_438 (by decide) ?_
      refine Z.lvs (lv' := lv0 (t + 1)) (fun q hq => ?_) (l_loop C hX hr hmc hms hpo hO HD HR r (t + 1) n' σ' xs' xr' xa' xl' xf' S' A' L' rn' k1' k2' (by omega) (fun z => absurd z (Nat.succ_ne_zero t)) c1 c2 c3 c5 c6 c4)
      show q ∈ ((4, .int (nI (4 * (t + 1)))) :: [(0, .ref 1000000), (1, .ref 0), (2, .ref 85), (3, .ref 113)] : List (Nat × Value))
      have hq' : q ∈ ([(0, .ref 1000000), (1, .ref 0), (2, .ref 85), (3, .ref 113)] ++ [(4, .int (nI (4 * (t + 1))))] : List (Nat × Value)) := hq
      rcases List.mem_append.mp hq' with w | w
      · exact List.mem_cons_of_mem _ w
      · rw [List.mem_singleton.mp w]
        exact List.mem_cons_self
    refine z_iload C 25 d_L_law_23 rfl rfl ?_
    refine z_aload_n C 26 d_L_law_25 rfl rfl ?_
    refine z_alen0 C 27 d_L_law_26 rfl hX ?_
    refine z_iconst C 28 d_L_law_27 rfl 4 (by decide) ?_
    refine z_isub C 29 d_L_law_28 rfl ?_
    refine z_icmp_gt C 32 441 d_L_law_29 rfl (by decide) (fun h9 => absurd h9 (fun q => absurd ((l_gt hLs (by omega) (by omega)).mp q) (by omega))) (fun _ => ?_)
    refine z_aload_n C 33 d_L_law_32 rfl rfl ?_
    refine z_iload C 35 d_L_law_33 rfl rfl ?_
    refine z_iald0 C 36 (4 * t) d_L_law_35 rfl hX rfl (by omega) ?_
    refine z_bipush C 38 d_L_law_36 rfl 15 (by decide) ?_
    refine z_iand C 39 d_L_law_38 rfl ?_
    obtain ⟨j, hj, ej⟩ := l_and (f (4 * t))
    rw [ej]
    rcases (show j = 0 ∨ j = 1 ∨ j = 2 ∨ j = 3 ∨ j = 4 ∨ j = 5 ∨ j = 6 ∨ j = 7 ∨ j = 8 ∨ j = 9 ∨ j = 10 ∨ 11 ≤ j by omega) with rfl | rfl | rfl | rfl | rfl | rfl | rfl | rfl | rfl | rfl | rfl | hj2
    · exact z_tableIn C 96 d_L_law_39 (by decide) (by decide) (off := 57) (by decide) (by decide) (l_c0 C hX hr hO hF a)
    · exact z_tableIn C 123 d_L_law_39 (by decide) (by decide) (off := 84) (by decide) (by decide) (l_c1 C hr hF a (HD t n σ xs xr xa xl xf S A L rn ht hLs hz a1 a2 h))
    · exact z_tableIn C 167 d_L_law_39 (by decide) (by decide) (off := 128) (by decide) (by decide) (l_c2 C hr hF a)
    · exact z_tableIn C 180 d_L_law_39 (by decide) (by decide) (off := 141) (by decide) (by decide) (l_c3 C hr hO hF a)
    · exact z_tableIn C 193 d_L_law_39 (by decide) (by decide) (off := 154) (by decide) (by decide) (l_c4 C hX hr hF a)
    · exact z_tableIn C 262 d_L_law_39 (by decide) (by decide) (off := 223) (by decide) (by decide) (l_c5 C hX hr hF a (HR t n σ xs xr xa xl xf S A L rn _ ht hLs hz a1 a2 h))
    · exact z_tableIn C 320 d_L_law_39 (by decide) (by decide) (off := 281) (by decide) (by decide) (l_c6 C hr hF a)
    · exact z_tableIn C 333 d_L_law_39 (by decide) (by decide) (off := 294) (by decide) (by decide) (l_c7 C hr hF a)
    · exact z_tableIn C 347 d_L_law_39 (by decide) (by decide) (off := 308) (by decide) (by decide) (l_c8 C hX hr hF a)
    · exact z_tableIn C 372 d_L_law_39 (by decide) (by decide) (off := 333) (by decide) (by decide) (l_c9 C hX hr hF a)
    · exact z_tableIn C 410 d_L_law_39 (by decide) (by decide) (off := 371) (by decide) (by decide) (l_c10 C hX hr hF a)
    · exact z_tableOut C 435 d_L_law_39 (Or.inr (by rw [nI_toInt (by omega)]; omega)) (by decide) (hF n σ xs xr xa xl xf S A L rn k1 k2 a1 (by omega) a3 h (by omega) (by omega))
theorem Rel.fresh (hO : rFRok FR) (n : Nat) (σ : zS) : Rel FR n σ xs0 0 (fun _ _ => 0) (fun _ _ => 0) (fun _ => none) mS0 (fun _ _ => 0) (fun _ _ => 0) 0 := by
  refine ⟨⟨0, 0, rfl, rfl, rfl, rfl, by omega, by omega, fun i hi => absurd hi (by omega), fun i _ => rfl, fun i _ => rfl⟩, rfl, ⟨?_, fun f _ => ⟨fun _ => rfl, fun _ => rfl⟩, hO.2.1 _ _ _⟩, fun k _ => rfl, ⟨rfl, Or.inl rfl⟩, rfl, rfl, rfl, rfl⟩
  rw [mcnt_0 8 (fun j _ => rfl)]
  rfl
theorem l_start (C : zC G K y_L_law b_L_law 7 (some .boolean) []) (hX : zOld G K Ls f) (hr : lRoom K Ls) (hmc : (kR K).cells ≤ kmc K) (hms : (kR K).slots ≤ kms K) (hpo : ∀ n σ, kpo K (.returned (some (.int 1))) n σ) (hO : rFRok FR) (HD : lHD G (kl K) FR Ls) (HR : lHR G (kl K) FR Ls) (σ : zS) : Z G K 0 σ 0 0 0 [(0, .ref 1000000)] [] := by
  have hLs := hX.2.2
  have hr' := hr
  obtain ⟨r1, r2, r3, r4⟩ := hr
  refine z_new C 3 n_L_8 d_L_law_0 rfl (by omega) (by omega) (by omega) ?_
  refine z_dup C 4 d_L_law_3 rfl rfl ?_
  refine z_call C 7 (c_S_init rfl) w_S_init ini_S d_L_law_4 rfl (z_goI (As := []) C l_L_27 w_S_init d_L_law_4 rfl) (Nat.le_of_ble_eq_true rfl) (by omega) (by omega) (by omega) (by omega) (fun v n' σ' hv => ?_) (fun x n' σ' hv => ?_)
  · obtain ⟨hv, rfl, h1⟩ := hv
    cases hv
    refine Z.same h1 ?_
    refine z_astore_n C 8 d_L_law_7 rfl (by decide) ?_
    refine z_new C 11 n_L_28 d_L_law_8 rfl (by omega) (by omega) (by omega) ?_
    refine z_dup C 12 d_L_law_11 rfl rfl ?_
    refine z_call C 15 (c_M_init rfl) w_M_init ini_M d_L_law_12 rfl (z_goI (As := []) C l_L_30 w_M_init d_L_law_12 rfl) (Nat.le_of_ble_eq_true rfl) (by omega) (by omega) (by omega) (by omega) (fun v n' σ' hv => ?_) (fun x n' σ' hv => ?_)
    · obtain ⟨hv, rfl, h2, h3⟩ := hv
      cases hv
      refine Z.same (τ := xOv xs0 0 (fun _ _ => 0) (fun _ _ => 0) (fun _ => none) (mOv mS0 (fun _ _ => 0) (fun _ _ => 0) 0 σ)) (fun i hi => ?_) ?_
      · by_cases q : i < 85
        · rw [h2 i q, va_up_ne _ _ (by omega)]
          unfold xI xOv
          rw [if_neg (show ¬ 85 ≤ i by omega), if_neg (show ¬ 85 ≤ i by omega)]
        · rw [h3 i (by omega) hi]
          unfold mI xOv mOv
          rw [if_neg (show ¬ i = 0 by omega), if_neg (show ¬ i = 2 by omega), if_neg (show ¬ i = 5 by omega), if_neg (show ¬ i = 6 by omega), if_neg (show ¬ i = 3 by omega), if_neg (show ¬ i = 9 by omega), if_neg (show ¬ i = 19 by omega), if_pos (show 85 ≤ i by omega)]
          by_cases q5 : i = 85
          · rw [if_pos q5, if_pos q5]
          · rw [if_neg q5, if_neg q5, if_neg (show ¬ i < 86 by omega), if_neg (show ¬ i < 86 by omega), if_neg (show ¬ 113 ≤ i by omega), if_neg (show ¬ 113 ≤ i by omega)]
      refine z_astore_n C 16 d_L_law_15 rfl (by decide) ?_
      refine z_iconst C 17 d_L_law_16 rfl 1 (by decide) ?_
      refine z_newa C 19 1 1 (a := (1, .inr (.inl (fun _ => 0)))) rfl rfl aw_long (fun _ => rfl) (fun h => h) d_L_law_17 rfl (by decide) (by decide) (by decide) (by omega) (by omega) (by omega) ?_
      refine z_astore_n C 20 d_L_law_19 rfl (by decide) ?_
      refine z_iconst C 21 d_L_law_20 rfl 0 (by decide) ?_
      refine z_istore C 23 d_L_law_21 rfl (by decide) ?_
      rw [l_up]
      refine Z.lvs (lv' := lv0 0) (fun q hq => ?_) (l_loop C hX hr' hmc hms hpo hO HD HR (Ls / 4) 0 114 _ _ _ _ _ _ _ _ _ _ _ _ (by omega) (fun _ => ⟨rfl, rfl, rfl, rfl, rfl, rfl, rfl, rfl, rfl, rfl⟩) (by omega) (by omega) ⟨_, va_up_self _ _ _⟩ (by omega) (by omega) (Rel.fresh hO _ _))
      show q ∈ ([(4, .int 0), (3, .ref 113), (2, .ref 85), (1, .ref 0), (0, .ref 1000000)] : List (Nat × Value))
      have hq' : q ∈ ([(0, .ref 1000000), (1, .ref 0), (2, .ref 85), (3, .ref 113), (4, .int 0)] : List (Nat × Value)) := hq
      rw [show ([(4, .int 0), (3, .ref 113), (2, .ref 85), (1, .ref 0), (0, .ref 1000000)] : List (Nat × Value)) = ([(0, .ref 1000000), (1, .ref 0), (2, .ref 85), (3, .ref 113), (4, .int 0)] : List (Nat × Value)).reverse from rfl]
      exact List.mem_reverse.mpr hq'
    · cases hv.1
  · cases hv.1
end LW4
