/-! the reference's check of a function that has been read -/
def lPar (V P Y : mS) : Nat → Nat → bS → Int32 ⊕ bS
  | 0, _, u => .inr u
  | m + 1, k, u => if u.1 (cIx (V k)) < 0 then lPar V P Y m (k + 1) (lBind (V k) (Y k) u) else .inl (P k)
def lEnd (V P : mS) : Nat → Nat → bS → Int32 ⊕ bS
  | 0, _, u => .inr u
  | m + 1, k, u => if lOwn u.2 (V k) then .inl (P k) else lEnd V P m (k + 1) u
def lChk (cl : Nat → Option cF) (old : Bool) (cn : Nat) (V P Y : mS) (rt : Int32) (E : Nat → eN) (B0 : mS) : Int32 ⊕ bS :=
  if old then .inl 0 else match lPar V P Y cn 0 (fl B0 20 (-1), 0) with
    | .inl q => .inl q
    | .inr u1 => match lk cl E 8 0 u1 with
      | .inl q => .inl q
      | .inr (t, u2) => if t = rt then lEnd V P cn 0 u2 else .inl (E 0).2.1
theorem d_M_check_0 : decode b_M_check 0 = .ok (.aload_n 0, 1) := by decide +kernel
theorem d_M_check_1 : decode b_M_check 1 = .ok (.iload_n 1, 1) := by decide +kernel
theorem d_M_check_2 : decode b_M_check 2 = .ok (.putfield 175, 3) := by decide +kernel
theorem d_M_check_5 : decode b_M_check 5 = .ok (.aload_n 0, 1) := by decide +kernel
theorem d_M_check_6 : decode b_M_check 6 = .ok (.iconst 0, 1) := by decide +kernel
theorem d_M_check_7 : decode b_M_check 7 = .ok (.putfield 165, 3) := by decide +kernel
theorem d_M_check_10 : decode b_M_check 10 = .ok (.aload_n 0, 1) := by decide +kernel
theorem d_M_check_11 : decode b_M_check 11 = .ok (.aload_n 0, 1) := by decide +kernel
theorem d_M_check_12 : decode b_M_check 12 = .ok (.getfield 33, 3) := by decide +kernel
theorem d_M_check_15 : decode b_M_check 15 = .ok (.iload_n 1, 1) := by decide +kernel
theorem d_M_check_16 : decode b_M_check 16 = .ok (.baload, 1) := by decide +kernel
theorem d_M_check_17 : decode b_M_check 17 = .ok (.ifCond .eq 7, 3) := by decide +kernel
theorem d_M_check_20 : decode b_M_check 20 = .ok (.iconst 0, 1) := by decide +kernel
theorem d_M_check_21 : decode b_M_check 21 = .ok (.goto 4, 3) := by decide +kernel
theorem d_M_check_24 : decode b_M_check 24 = .ok (.iconst (-1), 1) := by decide +kernel
theorem d_M_check_25 : decode b_M_check 25 = .ok (.putfield 162, 3) := by decide +kernel
theorem d_M_check_28 : decode b_M_check 28 = .ok (.iconst 0, 1) := by decide +kernel
theorem d_M_check_29 : decode b_M_check 29 = .ok (.istore_n 2, 1) := by decide +kernel
theorem d_M_check_30 : decode b_M_check 30 = .ok (.iload_n 2, 1) := by decide +kernel
theorem d_M_check_31 : decode b_M_check 31 = .ok (.bipush 20, 2) := by decide +kernel
theorem d_M_check_33 : decode b_M_check 33 = .ok (.if_icmp .ge 16, 3) := by decide +kernel
theorem d_M_check_36 : decode b_M_check 36 = .ok (.aload_n 0, 1) := by decide +kernel
theorem d_M_check_37 : decode b_M_check 37 = .ok (.getfield 67, 3) := by decide +kernel
theorem d_M_check_40 : decode b_M_check 40 = .ok (.iload_n 2, 1) := by decide +kernel
theorem d_M_check_41 : decode b_M_check 41 = .ok (.iconst (-1), 1) := by decide +kernel
theorem d_M_check_42 : decode b_M_check 42 = .ok (.iastore, 1) := by decide +kernel
theorem d_M_check_43 : decode b_M_check 43 = .ok (.iinc 2 1, 3) := by decide +kernel
theorem d_M_check_46 : decode b_M_check 46 = .ok (.goto (-16), 3) := by decide +kernel
theorem d_M_check_49 : decode b_M_check 49 = .ok (.bipush 32, 2) := by decide +kernel
theorem d_M_check_51 : decode b_M_check 51 = .ok (.istore_n 2, 1) := by decide +kernel
theorem d_M_check_52 : decode b_M_check 52 = .ok (.iload_n 2, 1) := by decide +kernel
theorem d_M_check_53 : decode b_M_check 53 = .ok (.bipush 32, 2) := by decide +kernel
theorem d_M_check_55 : decode b_M_check 55 = .ok (.aload_n 0, 1) := by decide +kernel
theorem d_M_check_56 : decode b_M_check 56 = .ok (.getfield 37, 3) := by decide +kernel
theorem d_M_check_59 : decode b_M_check 59 = .ok (.bipush 8, 2) := by decide +kernel
theorem d_M_check_61 : decode b_M_check 61 = .ok (.iaload, 1) := by decide +kernel
theorem d_M_check_62 : decode b_M_check 62 = .ok (.iadd, 1) := by decide +kernel
theorem d_M_check_63 : decode b_M_check 63 = .ok (.if_icmp .ge 49, 3) := by decide +kernel
theorem d_M_check_66 : decode b_M_check 66 = .ok (.aload_n 0, 1) := by decide +kernel
theorem d_M_check_67 : decode b_M_check 67 = .ok (.getfield 67, 3) := by decide +kernel
theorem d_M_check_70 : decode b_M_check 70 = .ok (.aload_n 0, 1) := by decide +kernel
theorem d_M_check_71 : decode b_M_check 71 = .ok (.getfield 43, 3) := by decide +kernel
theorem d_M_check_74 : decode b_M_check 74 = .ok (.iload_n 2, 1) := by decide +kernel
theorem d_M_check_75 : decode b_M_check 75 = .ok (.iaload, 1) := by decide +kernel
theorem d_M_check_76 : decode b_M_check 76 = .ok (.iaload, 1) := by decide +kernel
theorem d_M_check_77 : decode b_M_check 77 = .ok (.ifCond .lt 13, 3) := by decide +kernel
theorem d_M_check_80 : decode b_M_check 80 = .ok (.aload_n 0, 1) := by decide +kernel
theorem d_M_check_81 : decode b_M_check 81 = .ok (.aload_n 0, 1) := by decide +kernel
theorem d_M_check_82 : decode b_M_check 82 = .ok (.getfield 49, 3) := by decide +kernel
theorem d_M_check_85 : decode b_M_check 85 = .ok (.iload_n 2, 1) := by decide +kernel
theorem d_M_check_86 : decode b_M_check 86 = .ok (.iaload, 1) := by decide +kernel
theorem d_M_check_87 : decode b_M_check 87 = .ok (.invokevirtual 172, 3) := by decide +kernel
theorem d_M_check_90 : decode b_M_check 90 = .ok (.aload_n 0, 1) := by decide +kernel
theorem d_M_check_91 : decode b_M_check 91 = .ok (.aload_n 0, 1) := by decide +kernel
theorem d_M_check_92 : decode b_M_check 92 = .ok (.getfield 43, 3) := by decide +kernel
theorem d_M_check_95 : decode b_M_check 95 = .ok (.iload_n 2, 1) := by decide +kernel
theorem d_M_check_96 : decode b_M_check 96 = .ok (.iaload, 1) := by decide +kernel
theorem d_M_check_97 : decode b_M_check 97 = .ok (.aload_n 0, 1) := by decide +kernel
theorem d_M_check_98 : decode b_M_check 98 = .ok (.getfield 46, 3) := by decide +kernel
theorem d_M_check_101 : decode b_M_check 101 = .ok (.iload_n 2, 1) := by decide +kernel
theorem d_M_check_102 : decode b_M_check 102 = .ok (.iaload, 1) := by decide +kernel
theorem d_M_check_103 : decode b_M_check 103 = .ok (.invokevirtual 188, 3) := by decide +kernel
theorem d_M_check_106 : decode b_M_check 106 = .ok (.iinc 2 1, 3) := by decide +kernel
theorem d_M_check_109 : decode b_M_check 109 = .ok (.goto (-57), 3) := by decide +kernel
theorem d_M_check_112 : decode b_M_check 112 = .ok (.aload_n 0, 1) := by decide +kernel
theorem d_M_check_113 : decode b_M_check 113 = .ok (.getfield 162, 3) := by decide +kernel
theorem d_M_check_116 : decode b_M_check 116 = .ok (.ifCond .lt 4, 3) := by decide +kernel
theorem d_M_check_119 : decode b_M_check 119 = .ok (.return_, 1) := by decide +kernel
theorem d_M_check_120 : decode b_M_check 120 = .ok (.aload_n 0, 1) := by decide +kernel
theorem d_M_check_121 : decode b_M_check 121 = .ok (.invokevirtual 203, 3) := by decide +kernel
theorem d_M_check_124 : decode b_M_check 124 = .ok (.istore_n 2, 1) := by decide +kernel
theorem d_M_check_125 : decode b_M_check 125 = .ok (.iload_n 2, 1) := by decide +kernel
theorem d_M_check_126 : decode b_M_check 126 = .ok (.aload_n 0, 1) := by decide +kernel
theorem d_M_check_127 : decode b_M_check 127 = .ok (.getfield 40, 3) := by decide +kernel
theorem d_M_check_130 : decode b_M_check 130 = .ok (.bipush 8, 2) := by decide +kernel
theorem d_M_check_132 : decode b_M_check 132 = .ok (.iaload, 1) := by decide +kernel
theorem d_M_check_133 : decode b_M_check 133 = .ok (.if_icmp .eq 15, 3) := by decide +kernel
theorem d_M_check_136 : decode b_M_check 136 = .ok (.aload_n 0, 1) := by decide +kernel
theorem d_M_check_137 : decode b_M_check 137 = .ok (.aload_n 0, 1) := by decide +kernel
theorem d_M_check_138 : decode b_M_check 138 = .ok (.getfield 24, 3) := by decide +kernel
theorem d_M_check_141 : decode b_M_check 141 = .ok (.sipush 1200, 3) := by decide +kernel
theorem d_M_check_144 : decode b_M_check 144 = .ok (.iaload, 1) := by decide +kernel
theorem d_M_check_145 : decode b_M_check 145 = .ok (.invokevirtual 172, 3) := by decide +kernel
theorem d_M_check_148 : decode b_M_check 148 = .ok (.bipush 32, 2) := by decide +kernel
theorem d_M_check_150 : decode b_M_check 150 = .ok (.istore_n 3, 1) := by decide +kernel
theorem d_M_check_151 : decode b_M_check 151 = .ok (.iload_n 3, 1) := by decide +kernel
theorem d_M_check_152 : decode b_M_check 152 = .ok (.bipush 32, 2) := by decide +kernel
theorem d_M_check_154 : decode b_M_check 154 = .ok (.aload_n 0, 1) := by decide +kernel
theorem d_M_check_155 : decode b_M_check 155 = .ok (.getfield 37, 3) := by decide +kernel
theorem d_M_check_158 : decode b_M_check 158 = .ok (.bipush 8, 2) := by decide +kernel
theorem d_M_check_160 : decode b_M_check 160 = .ok (.iaload, 1) := by decide +kernel
theorem d_M_check_161 : decode b_M_check 161 = .ok (.iadd, 1) := by decide +kernel
theorem d_M_check_162 : decode b_M_check 162 = .ok (.if_icmp .ge 32, 3) := by decide +kernel
theorem d_M_check_165 : decode b_M_check 165 = .ok (.aload_n 0, 1) := by decide +kernel
theorem d_M_check_166 : decode b_M_check 166 = .ok (.aload_n 0, 1) := by decide +kernel
theorem d_M_check_167 : decode b_M_check 167 = .ok (.getfield 43, 3) := by decide +kernel
theorem d_M_check_170 : decode b_M_check 170 = .ok (.iload_n 3, 1) := by decide +kernel
theorem d_M_check_171 : decode b_M_check 171 = .ok (.iaload, 1) := by decide +kernel
theorem d_M_check_172 : decode b_M_check 172 = .ok (.invokevirtual 168, 3) := by decide +kernel
theorem d_M_check_175 : decode b_M_check 175 = .ok (.ifCond .eq 13, 3) := by decide +kernel
theorem d_M_check_178 : decode b_M_check 178 = .ok (.aload_n 0, 1) := by decide +kernel
theorem d_M_check_179 : decode b_M_check 179 = .ok (.aload_n 0, 1) := by decide +kernel
theorem d_M_check_180 : decode b_M_check 180 = .ok (.getfield 49, 3) := by decide +kernel
theorem d_M_check_183 : decode b_M_check 183 = .ok (.iload_n 3, 1) := by decide +kernel
theorem d_M_check_184 : decode b_M_check 184 = .ok (.iaload, 1) := by decide +kernel
theorem d_M_check_185 : decode b_M_check 185 = .ok (.invokevirtual 172, 3) := by decide +kernel
theorem d_M_check_188 : decode b_M_check 188 = .ok (.iinc 3 1, 3) := by decide +kernel
theorem d_M_check_191 : decode b_M_check 191 = .ok (.goto (-40), 3) := by decide +kernel
theorem d_M_check_194 : decode b_M_check 194 = .ok (.return_, 1) := by decide +kernel
section MCH
variable {G : zG} {l : Launch} {n : Nat} {σ : zS} {S : mS} {A : mA} {L : mL} {rn : Int64} {cl : Nat → Option cF} {f N cn : Nat} {E : Nat → eN} {V P Y : mS} {rt : Int32}
def lNn (x : Int32 ⊕ bS) : Prop := match x with
  | .inl q => 0 ≤ q
  | .inr _ => True
def mSk (S S' : mS) : Prop := ∀ k, k ≠ 19 → k ≠ 26 → k ≠ 27 → k ≠ 28 → S' k = S k
def mAk (A A' : mA) : Prop := ∀ a, a < 98 ∨ 103 < a → A' a = A a
def lRes (x : Int32 ⊕ bS) (S' : mS) : Prop := match x with
  | .inl q => S' 27 = q
  | .inr _ => S' 27 = -1
theorem c_M_check (hn : 113 ≤ n) (hf8 : f < 8) (henv : mEnv (upd S 28 (nI f)) A cl f) (hpr : fPr A cn V P Y) (hrt : A 94 8 = rt) (hT : tT A E 8 0 N) (hN : N ≤ 150) (hcn : cn ≤ 4) (hpk : rPk cn V P Y) (hq : lNn (lChk cl (A 92 f != 0) cn V P Y rt E (A 103))) : MetZ G l y_M_check b_M_check 4 none [] 5 0 0 [.ref 85, .int (nI f)] n (mOv S A L rn σ) (fun o n' σ' => o = .returned none ∧ n' = n ∧ ∃ S' A', σ' = mOv S' A' L rn σ ∧ mSk S S' ∧ mAk A A' ∧ lRes (lChk cl (A 92 f != 0) cn V P Y rt E (A 103)) S') := by
  obtain ⟨res, hres⟩ : ∃ x, lChk cl (A 92 f != 0) cn V P Y rt E (A 103) = x := ⟨_, rfl⟩
  rw [hres] at hq ⊢
  unfold lChk at hres
  have hpv : ∀ A', mAk A A' → ∀ k, k < cn → A' 95 (32 + k) = V k ∧ A' 97 (32 + k) = P k ∧ A' 96 (32 + k) = Y k := fun A' hA k hk => by
    rw [hA 95 (by omega), hA 97 (by omega), hA 96 (by omega)]
    exact hpr.2 k hk
  have hcnt : ∀ A', mAk A A' → A' 93 8 = nI cn := fun A' hA => by rw [hA 93 (by omega)]; exact hpr.1
  refine MetZ.of (by decide) (Nat.le_of_ble_eq_true rfl) (fun K hK hR hpo hmc hms C => ?_)
  -- the last loop, wrong already
  have endW : ∀ (m k : Nat) (q : Int32) (S' : mS) (A' : mA) (tt : Int32), m + k = cn → 0 ≤ q → res = .inl q → S' 27 = q → mSk S S' → mAk A A' → Z G K n (mOv S' A' L rn σ) 0 0 151 [(3, .int (nI (32 + k))), (2, .int tt), (0, .ref 85), (1, .int (nI f))] [] := fun m => by
    induction m with
    | zero =>
      intro k q S' A' tt hk h0 hr h27 hS hA
      refine z_iload_n C 152 d_M_check_151 rfl rfl ?_
      refine z_bipush C 154 d_M_check_152 rfl 32 (by decide) ?_
      refine z_aload_n C 155 d_M_check_154 rfl rfl ?_
      refine zm_get C 158 f_M_37 d_M_check_155 rfl hn rfl ?_
      refine z_bipush C 160 d_M_check_158 rfl 8 (by decide) ?_
      refine zm_iald C 161 8 d_M_check_160 rfl hn (by decide) (by decide) (by decide) rfl (by decide) (by decide) ?_
      rw [hcnt A' hA]
      refine z_iadd C 162 d_M_check_161 rfl ?_
      rw [show (32 : Int32) + nI cn = nI (32 + cn) from nI_add 32 cn]
      refine z_icmp_ge C 165 194 d_M_check_162 rfl (by decide) (fun _ => ?_) (fun h9 => absurd ((nI_leI (by omega) (by omega)).mpr (by omega)) h9)
      exact z_vret C rfl d_M_check_194 (by rw [hpo]; exact ⟨rfl, rfl, S', A', rfl, hS, hA, by rw [hr]; exact h27⟩) (by rw [hmc]; omega) (by rw [hms]; omega)
    | succ m ih =>
      intro k q S' A' tt hk h0 hr h27 hS hA
      obtain ⟨hv1, hv2, hv3⟩ := hpv A' hA k (by omega)
      refine z_iload_n C 152 d_M_check_151 rfl rfl ?_
      refine z_bipush C 154 d_M_check_152 rfl 32 (by decide) ?_
      refine z_aload_n C 155 d_M_check_154 rfl rfl ?_
      refine zm_get C 158 f_M_37 d_M_check_155 rfl hn rfl ?_
      refine z_bipush C 160 d_M_check_158 rfl 8 (by decide) ?_
      refine zm_iald C 161 8 d_M_check_160 rfl hn (by decide) (by decide) (by decide) rfl (by decide) (by decide) ?_
      rw [hcnt A' hA]
      refine z_iadd C 162 d_M_check_161 rfl ?_
      rw [show (32 : Int32) + nI cn = nI (32 + cn) from nI_add 32 cn]
      refine z_icmp_ge C 165 194 d_M_check_162 rfl (by decide) (fun h9 => absurd h9 (fun w => absurd ((nI_leI (by omega) (by omega)).mp w) (by omega))) (fun _ => ?_)
      refine z_aload_n C 166 d_M_check_165 rfl rfl ?_
      refine z_aload_n C 167 d_M_check_166 rfl rfl ?_
      refine zm_get C 170 f_M_43 d_M_check_167 rfl hn rfl ?_
      refine z_iload_n C 171 d_M_check_170 rfl rfl ?_
      refine zm_iald C 172 (32+k) d_M_check_171 rfl hn (by decide) (by decide) (by decide) rfl (by show 32 + k < 36; omega) (by decide) ?_
      rw [hv1]
      refine z_call C 175 (c_M_isOwned hn (V k)) w_M_isOwned ini_M d_M_check_172 rfl (z_goV (As := [.int (V k)]) C l_M_168 w_M_isOwned d_M_check_172 (by omega) rfl rfl rfl) (Nat.le_of_ble_eq_true rfl) (by rw [hR]; simp only [zRm]; omega) (by rw [hR]; simp only [zRm]; omega) (by rw [hR]; simp only [zRm]; omega) (by rw [hR]; simp only [zRm]; omega) (fun v n' σ' hv => ?_) (fun x n' σ' hv => ?_)
      rotate_left
      · cases hv.1
      obtain ⟨e0, e1, rfl⟩ := hv
      cases e0
      obtain rfl : n = n' := e1.symm
      by_cases qo : lOwn (S' 26) (V k)
      · rw [if_pos qo]
        refine z_if_eq C 178 188 d_M_check_175 rfl (by decide) (fun h9 => absurd h9 (show ¬ (1 : Int32) = 0 by decide)) (fun _ => ?_)
        refine z_aload_n C 179 d_M_check_178 rfl rfl ?_
        refine z_aload_n C 180 d_M_check_179 rfl rfl ?_
        refine zm_get C 183 f_M_49 d_M_check_180 rfl hn rfl ?_
        refine z_iload_n C 184 d_M_check_183 rfl rfl ?_
        refine zm_iald C 185 (32+k) d_M_check_184 rfl hn (by decide) (by decide) (by decide) rfl (by show 32 + k < 36; omega) (by decide) ?_
        rw [hv2]
        refine z_call C 188 (c_M_mistake hn (P k)) w_M_mistake ini_M d_M_check_185 rfl (z_goV (As := [.int (P k)]) C l_M_172 w_M_mistake d_M_check_185 (by omega) rfl rfl rfl) (Nat.le_of_ble_eq_true rfl) (by rw [hR]; simp only [zRm]; omega) (by rw [hR]; simp only [zRm]; omega) (by rw [hR]; simp only [zRm]; omega) (by rw [hR]; simp only [zRm]; omega) (fun v n' σ' hv => ?_) (fun x n' σ' hv => ?_)
        rotate_left
        · cases hv.1
        obtain ⟨e0, e1, rfl⟩ := hv
        cases e0
        obtain rfl : n = n' := e1.symm
        rw [if_neg (by rw [h27]; exact Int32.not_lt.mpr h0)]
        refine z_iinc C 191 d_M_check_188 rfl (nI (32 + (k + 1))) rfl (z_inc (32 + k)) (by decide) ?_
        refine z_goto C 151 d_M_check_191 (by decide) ?_
        exact ih (k + 1) q S' A' tt (by omega) h0 hr h27 hS hA
      · rw [if_neg qo]
        refine z_if_eq C 178 188 d_M_check_175 rfl (by decide) (fun _ => ?_) (fun h9 => absurd (show (0 : Int32) = 0 from rfl) h9)
        refine z_iinc C 191 d_M_check_188 rfl (nI (32 + (k + 1))) rfl (z_inc (32 + k)) (by decide) ?_
        refine z_goto C 151 d_M_check_191 (by decide) ?_
        exact ih (k + 1) q S' A' tt (by omega) h0 hr h27 hS hA
  have endG : ∀ (m k : Nat) (u : bS) (S' : mS) (A' : mA) (tt : Int32), m + k = cn → lEnd V P m k u = res → S' 27 = -1 → S' 26 = u.2 → mSk S S' → mAk A A' → Z G K n (mOv S' A' L rn σ) 0 0 151 [(3, .int (nI (32 + k))), (2, .int tt), (0, .ref 85), (1, .int (nI f))] [] := fun m => by
    induction m with
    | zero =>
      intro k u S' A' tt hk hr h27 h26 hS hA
      refine z_iload_n C 152 d_M_check_151 rfl rfl ?_
      refine z_bipush C 154 d_M_check_152 rfl 32 (by decide) ?_
      refine z_aload_n C 155 d_M_check_154 rfl rfl ?_
      refine zm_get C 158 f_M_37 d_M_check_155 rfl hn rfl ?_
      refine z_bipush C 160 d_M_check_158 rfl 8 (by decide) ?_
      refine zm_iald C 161 8 d_M_check_160 rfl hn (by decide) (by decide) (by decide) rfl (by decide) (by decide) ?_
      rw [hcnt A' hA]
      refine z_iadd C 162 d_M_check_161 rfl ?_
      rw [show (32 : Int32) + nI cn = nI (32 + cn) from nI_add 32 cn]
      refine z_icmp_ge C 165 194 d_M_check_162 rfl (by decide) (fun _ => ?_) (fun h9 => absurd ((nI_leI (by omega) (by omega)).mpr (by omega)) h9)
      exact z_vret C rfl d_M_check_194 (by rw [hpo]; exact ⟨rfl, rfl, S', A', rfl, hS, hA, by rw [← hr]; exact h27⟩) (by rw [hmc]; omega) (by rw [hms]; omega)
    | succ m ih =>
      intro k u S' A' tt hk hr h27 h26 hS hA
      unfold lEnd at hr
      obtain ⟨hv1, hv2, hv3⟩ := hpv A' hA k (by omega)
      refine z_iload_n C 152 d_M_check_151 rfl rfl ?_
      refine z_bipush C 154 d_M_check_152 rfl 32 (by decide) ?_
      refine z_aload_n C 155 d_M_check_154 rfl rfl ?_
      refine zm_get C 158 f_M_37 d_M_check_155 rfl hn rfl ?_
      refine z_bipush C 160 d_M_check_158 rfl 8 (by decide) ?_
      refine zm_iald C 161 8 d_M_check_160 rfl hn (by decide) (by decide) (by decide) rfl (by decide) (by decide) ?_
      rw [hcnt A' hA]
      refine z_iadd C 162 d_M_check_161 rfl ?_
      rw [show (32 : Int32) + nI cn = nI (32 + cn) from nI_add 32 cn]
      refine z_icmp_ge C 165 194 d_M_check_162 rfl (by decide) (fun h9 => absurd h9 (fun w => absurd ((nI_leI (by omega) (by omega)).mp w) (by omega))) (fun _ => ?_)
      refine z_aload_n C 166 d_M_check_165 rfl rfl ?_
      refine z_aload_n C 167 d_M_check_166 rfl rfl ?_
      refine zm_get C 170 f_M_43 d_M_check_167 rfl hn rfl ?_
      refine z_iload_n C 171 d_M_check_170 rfl rfl ?_
      refine zm_iald C 172 (32+k) d_M_check_171 rfl hn (by decide) (by decide) (by decide) rfl (by show 32 + k < 36; omega) (by decide) ?_
      rw [hv1]
      refine z_call C 175 (c_M_isOwned hn (V k)) w_M_isOwned ini_M d_M_check_172 rfl (z_goV (As := [.int (V k)]) C l_M_168 w_M_isOwned d_M_check_172 (by omega) rfl rfl rfl) (Nat.le_of_ble_eq_true rfl) (by rw [hR]; simp only [zRm]; omega) (by rw [hR]; simp only [zRm]; omega) (by rw [hR]; simp only [zRm]; omega) (by rw [hR]; simp only [zRm]; omega) (fun v n' σ' hv => ?_) (fun x n' σ' hv => ?_)
      rotate_left
      · cases hv.1
      obtain ⟨e0, e1, rfl⟩ := hv
      cases e0
      obtain rfl : n = n' := e1.symm
      rw [h26]
      by_cases qo : lOwn u.2 (V k)
      · rw [if_pos qo] at hr ⊢
        refine z_if_eq C 178 188 d_M_check_175 rfl (by decide) (fun h9 => absurd h9 (show ¬ (1 : Int32) = 0 by decide)) (fun _ => ?_)
        refine z_aload_n C 179 d_M_check_178 rfl rfl ?_
        refine z_aload_n C 180 d_M_check_179 rfl rfl ?_
        refine zm_get C 183 f_M_49 d_M_check_180 rfl hn rfl ?_
        refine z_iload_n C 184 d_M_check_183 rfl rfl ?_
        refine zm_iald C 185 (32+k) d_M_check_184 rfl hn (by decide) (by decide) (by decide) rfl (by show 32 + k < 36; omega) (by decide) ?_
        rw [hv2]
        refine z_call C 188 (c_M_mistake hn (P k)) w_M_mistake ini_M d_M_check_185 rfl (z_goV (As := [.int (P k)]) C l_M_172 w_M_mistake d_M_check_185 (by omega) rfl rfl rfl) (Nat.le_of_ble_eq_true rfl) (by rw [hR]; simp only [zRm]; omega) (by rw [hR]; simp only [zRm]; omega) (by rw [hR]; simp only [zRm]; omega) (by rw [hR]; simp only [zRm]; omega) (fun v n' σ' hv => ?_) (fun x n' σ' hv => ?_)
        rotate_left
        · cases hv.1
        obtain ⟨e0, e1, rfl⟩ := hv
        cases e0
        obtain rfl : n = n' := e1.symm
        rw [if_pos (by rw [h27]; decide)]
        refine z_iinc C 191 d_M_check_188 rfl (nI (32 + (k + 1))) rfl (z_inc (32 + k)) (by decide) ?_
        refine z_goto C 151 d_M_check_191 (by decide) ?_
        refine endW m (k + 1) (P k) _ A' tt (by omega) (by rw [← hr] at hq; exact hq) hr.symm rfl (fun j a b c d => (upd_ne c).trans (hS j a b c d)) hA
      · rw [if_neg qo] at hr ⊢
        refine z_if_eq C 178 188 d_M_check_175 rfl (by decide) (fun _ => ?_) (fun h9 => absurd (show (0 : Int32) = 0 from rfl) h9)
        refine z_iinc C 191 d_M_check_188 rfl (nI (32 + (k + 1))) rfl (z_inc (32 + k)) (by decide) ?_
        refine z_goto C 151 d_M_check_191 (by decide) ?_
        exact ih (k + 1) u S' A' tt (by omega) hr h27 h26 hS hA
  have mid : ∀ (u : bS) (S' : mS) (A' : mA) (tt : Int32), (match lk cl E 8 0 u with
      | .inl q => .inl q
      | .inr (t, u2) => if t = rt then lEnd V P cn 0 u2 else .inl (E 0).2.1) = res → S' 27 = -1 → S' 26 = u.2 → A' 103 = u.1 → mSk (upd S 28 (nI f)) S' → S' 28 = nI f → mAk A A' → Z G K n (mOv S' A' L rn σ) 0 0 112 [(2, .int tt), (0, .ref 85), (1, .int (nI f))] [] := fun u S' A' tt hr h27 h26 h103 hS h28 hA => by
    have hS' : mSk S S' := fun j a b c d => (hS j a b c d).trans (upd_ne d)
    have hm : mCk (upd S 28 (nI f)) A u 0 (upd S' 19 0) A' := ⟨h27, h26, rfl, h103, fun k a b c => by
      rw [upd_ne a]
      by_cases d : k = 28
      · subst d
        rw [upd_self]
        exact h28
      · exact hS k a b c d, hA⟩
    have hqq : ∀ q, lk cl E 8 0 u = .inl q → 0 ≤ q := fun q hl => by
      rw [hl] at hr
      rw [← hr] at hq
      exact hq
    have LA := c_M_lookAll (G := G) (l := kl K) (L := L) (rn := rn) (σ := σ) hn henv hm hT hN hqq
    refine z_aload_n C 113 d_M_check_112 rfl rfl ?_
    refine zm_get C 116 f_M_162 d_M_check_113 rfl hn rfl ?_
    rw [h27]
    refine z_if_lt C 119 120 d_M_check_116 rfl (by decide) (fun _ => ?_) (fun h9 => absurd (show (-1 : Int32) < 0 by decide) h9)
    refine z_aload_n C 121 d_M_check_120 rfl rfl ?_
    refine z_call C 124 (LA) w_M_lookAll ini_M d_M_check_121 rfl (z_goV (As := []) C l_M_203 w_M_lookAll d_M_check_121 (by omega) rfl rfl rfl) (Nat.le_of_ble_eq_true rfl) (by rw [hR]; simp only [zRm]; omega) (by rw [hR]; simp only [zRm]; omega) (by rw [hR]; simp only [zRm]; omega) (by rw [hR]; simp only [zRm]; omega) (fun v n' σ' hv => ?_) (fun x n' σ' hv => ?_)
    rotate_left
    · obtain ⟨e1, S3, A3, e2, hv⟩ := hv
      cases hl : lk cl E 8 0 u with
      | inl q => rw [hl] at hv; obtain ⟨⟨v, e0⟩, -⟩ := hv; cases e0
      | inr a => rw [hl] at hv; cases hv.1
    obtain ⟨e1, S3, A3, rfl, hv⟩ := hv
    obtain rfl : n = n' := e1.symm
    have tl : ∀ (S4 : mS) (A4 : mA) (t : Int32) (q : Int32), res = .inl q → 0 ≤ q → S4 27 = q → mSk S S4 → mAk A A4 → Z G K n (mOv S4 A4 L rn σ) 0 0 148 [(2, .int t), (0, .ref 85), (1, .int (nI f))] [] := fun S4 A4 t q hr h0 h27 hS hA => by
      refine z_bipush C 150 d_M_check_148 rfl 32 (by decide) ?_
      refine z_istore_n C 151 d_M_check_150 rfl (by decide) ?_
      exact endW cn 0 q S4 A4 t (by omega) h0 hr h27 hS hA
    cases hl : lk cl E 8 0 u with
    | inl q =>
      rw [hl] at hv hr
      obtain ⟨⟨v, e0⟩, w1, w2, w3⟩ := hv
      cases e0
      have h0 := hqq q hl
      have hS3 : mSk S S3 := fun j a b c d => (w2 j a b c).trans (upd_ne d)
      refine z_istore_n C 125 d_M_check_124 rfl (by decide) ?_
      refine z_iload_n C 126 d_M_check_125 rfl rfl ?_
      refine z_aload_n C 127 d_M_check_126 rfl rfl ?_
      refine zm_get C 130 f_M_40 d_M_check_127 rfl hn rfl ?_
      refine z_bipush C 132 d_M_check_130 rfl 8 (by decide) ?_
      refine zm_iald C 133 8 d_M_check_132 rfl hn (by decide) (by decide) (by decide) rfl (by decide) (by decide) ?_
      refine z_icmp_eq C 136 148 d_M_check_133 rfl (by decide) (fun g1 => ?_) (fun g1 => ?_)
      · exact tl S3 A3 v q hr.symm h0 w1 hS3 w3
      · refine z_aload_n C 137 d_M_check_136 rfl rfl ?_
        refine z_aload_n C 138 d_M_check_137 rfl rfl ?_
        refine zm_get C 141 f_M_24 d_M_check_138 rfl hn rfl ?_
        refine z_sipush C 144 d_M_check_141 rfl 1200 (by decide) ?_
        refine zm_iald C 145 1200 d_M_check_144 rfl hn (by decide) (by decide) (by decide) rfl (by decide) (by decide) ?_
        refine z_call C 148 (c_M_mistake hn (A3 89 1200)) w_M_mistake ini_M d_M_check_145 rfl (z_goV (As := [.int (A3 89 1200)]) C l_M_172 w_M_mistake d_M_check_145 (by omega) rfl rfl rfl) (Nat.le_of_ble_eq_true rfl) (by rw [hR]; simp only [zRm]; omega) (by rw [hR]; simp only [zRm]; omega) (by rw [hR]; simp only [zRm]; omega) (by rw [hR]; simp only [zRm]; omega) (fun v n' σ' hv => ?_) (fun x n' σ' hv => ?_)
        rotate_left
        · cases hv.1
        obtain ⟨e0, e1, rfl⟩ := hv
        cases e0
        obtain rfl : n = n' := e1.symm
        rw [if_neg (by rw [w1]; exact Int32.not_lt.mpr h0)]
        exact tl S3 A3 v q hr.symm h0 w1 hS3 w3
    | inr a =>
      obtain ⟨t, u2⟩ := a
      rw [hl] at hv hr
      obtain ⟨e0, w1, w2, w3, w4, w5, w6⟩ := hv
      cases e0
      have hr : (if t = rt then lEnd V P cn 0 u2 else .inl (E 0).2.1) = res := hr
      have hS3 : mSk S S3 := fun j a b c d => (w5 j a b c).trans (upd_ne d)
      refine z_istore_n C 125 d_M_check_124 rfl (by decide) ?_
      refine z_iload_n C 126 d_M_check_125 rfl rfl ?_
      refine z_aload_n C 127 d_M_check_126 rfl rfl ?_
      refine zm_get C 130 f_M_40 d_M_check_127 rfl hn rfl ?_
      refine z_bipush C 132 d_M_check_130 rfl 8 (by decide) ?_
      refine zm_iald C 133 8 d_M_check_132 rfl hn (by decide) (by decide) (by decide) rfl (by decide) (by decide) ?_
      rw [show A3 94 8 = rt by rw [w6 94 (by omega)]; exact hrt]
      by_cases q1 : t = rt
      · rw [if_pos q1] at hr
        refine z_icmp_eq C 136 148 d_M_check_133 rfl (by decide) (fun _ => ?_) (fun h9 => absurd q1 h9)
        refine z_bipush C 150 d_M_check_148 rfl 32 (by decide) ?_
        refine z_istore_n C 151 d_M_check_150 rfl (by decide) ?_
        exact endG cn 0 u2 S3 A3 t (by omega) hr w1 w2 hS3 w6
      · rw [if_neg q1] at hr
        refine z_icmp_eq C 136 148 d_M_check_133 rfl (by decide) (fun h9 => absurd h9 q1) (fun _ => ?_)
        refine z_aload_n C 137 d_M_check_136 rfl rfl ?_
        refine z_aload_n C 138 d_M_check_137 rfl rfl ?_
        refine zm_get C 141 f_M_24 d_M_check_138 rfl hn rfl ?_
        refine z_sipush C 144 d_M_check_141 rfl 1200 (by decide) ?_
        refine zm_iald C 145 1200 d_M_check_144 rfl hn (by decide) (by decide) (by decide) rfl (by decide) (by decide) ?_
        rw [show A3 89 1200 = (E 0).2.1 by rw [w6 89 (by omega)]; exact hT.1.2.2.2.1]
        refine z_call C 148 (c_M_mistake hn (E 0).2.1) w_M_mistake ini_M d_M_check_145 rfl (z_goV (As := [.int (E 0).2.1]) C l_M_172 w_M_mistake d_M_check_145 (by omega) rfl rfl rfl) (Nat.le_of_ble_eq_true rfl) (by rw [hR]; simp only [zRm]; omega) (by rw [hR]; simp only [zRm]; omega) (by rw [hR]; simp only [zRm]; omega) (by rw [hR]; simp only [zRm]; omega) (fun v n' σ' hv => ?_) (fun x n' σ' hv => ?_)
        rotate_left
        · cases hv.1
        obtain ⟨e0, e1, rfl⟩ := hv
        cases e0
        obtain rfl : n = n' := e1.symm
        rw [if_pos (by rw [w1]; decide)]
        exact tl _ A3 t (E 0).2.1 hr.symm (by rw [← hr] at hq; exact hq) rfl (fun j a b c d => (upd_ne c).trans (hS3 j a b c d)) w6
  have parW : ∀ (m k : Nat) (q : Int32) (S' : mS) (A' : mA), m + k = cn → 0 ≤ q → res = .inl q → S' 27 = q → mSk S S' → mAk A A' → Z G K n (mOv S' A' L rn σ) 0 0 52 [(2, .int (nI (32 + k))), (0, .ref 85), (1, .int (nI f))] [] := fun m => by
    induction m with
    | zero =>
      intro k q S' A' hk h0 hr h27 hS hA
      refine z_iload_n C 53 d_M_check_52 rfl rfl ?_
      refine z_bipush C 55 d_M_check_53 rfl 32 (by decide) ?_
      refine z_aload_n C 56 d_M_check_55 rfl rfl ?_
      refine zm_get C 59 f_M_37 d_M_check_56 rfl hn rfl ?_
      refine z_bipush C 61 d_M_check_59 rfl 8 (by decide) ?_
      refine zm_iald C 62 8 d_M_check_61 rfl hn (by decide) (by decide) (by decide) rfl (by decide) (by decide) ?_
      rw [hcnt A' hA]
      refine z_iadd C 63 d_M_check_62 rfl ?_
      rw [show (32 : Int32) + nI cn = nI (32 + cn) from nI_add 32 cn]
      refine z_icmp_ge C 66 112 d_M_check_63 rfl (by decide) (fun _ => ?_) (fun h9 => absurd ((nI_leI (by omega) (by omega)).mpr (by omega)) h9)
      refine z_aload_n C 113 d_M_check_112 rfl rfl ?_
      refine zm_get C 116 f_M_162 d_M_check_113 rfl hn rfl ?_
      rw [h27]
      refine z_if_lt C 119 120 d_M_check_116 rfl (by decide) (fun h9 => absurd h9 (fun w => absurd h0 (Int32.not_le.mpr w))) (fun _ => ?_)
      exact z_vret C rfl d_M_check_119 (by rw [hpo]; exact ⟨rfl, rfl, S', A', rfl, hS, hA, by rw [hr]; exact h27⟩) (by rw [hmc]; omega) (by rw [hms]; omega)
    | succ m ih =>
      intro k q S' A' hk h0 hr h27 hS hA
      obtain ⟨hv1, hv2, hv3⟩ := hpv A' hA k (by omega)
      obtain ⟨⟨v0, hv20, ev⟩, -, -⟩ := hpk k (by omega)
      refine z_iload_n C 53 d_M_check_52 rfl rfl ?_
      refine z_bipush C 55 d_M_check_53 rfl 32 (by decide) ?_
      refine z_aload_n C 56 d_M_check_55 rfl rfl ?_
      refine zm_get C 59 f_M_37 d_M_check_56 rfl hn rfl ?_
      refine z_bipush C 61 d_M_check_59 rfl 8 (by decide) ?_
      refine zm_iald C 62 8 d_M_check_61 rfl hn (by decide) (by decide) (by decide) rfl (by decide) (by decide) ?_
      rw [hcnt A' hA]
      refine z_iadd C 63 d_M_check_62 rfl ?_
      rw [show (32 : Int32) + nI cn = nI (32 + cn) from nI_add 32 cn]
      refine z_icmp_ge C 66 112 d_M_check_63 rfl (by decide) (fun h9 => absurd h9 (fun w => absurd ((nI_leI (by omega) (by omega)).mp w) (by omega))) (fun _ => ?_)
      refine z_aload_n C 67 d_M_check_66 rfl rfl ?_
      refine zm_get C 70 f_M_67 d_M_check_67 rfl hn rfl ?_
      refine z_aload_n C 71 d_M_check_70 rfl rfl ?_
      refine zm_get C 74 f_M_43 d_M_check_71 rfl hn rfl ?_
      refine z_iload_n C 75 d_M_check_74 rfl rfl ?_
      refine zm_iald C 76 (32+k) d_M_check_75 rfl hn (by decide) (by decide) (by decide) rfl (by show 32 + k < 36; omega) (by decide) ?_
      rw [hv1, ev]
      refine zm_iald C 77 v0 d_M_check_76 rfl hn (by decide) (by decide) (by decide) rfl (by show v0 < 20; omega) (by decide) ?_
      have go : ∀ S'', S'' 27 = q → mSk S S'' → Z G K n (mOv S'' A' L rn σ) 0 0 90 [(2, .int (nI (32 + k))), (0, .ref 85), (1, .int (nI f))] [] := fun S'' g27 gS => by
        refine z_aload_n C 91 d_M_check_90 rfl rfl ?_
        refine z_aload_n C 92 d_M_check_91 rfl rfl ?_
        refine zm_get C 95 f_M_43 d_M_check_92 rfl hn rfl ?_
        refine z_iload_n C 96 d_M_check_95 rfl rfl ?_
        refine zm_iald C 97 (32+k) d_M_check_96 rfl hn (by decide) (by decide) (by decide) rfl (by show 32 + k < 36; omega) (by decide) ?_
        rw [hv1, ev]
        refine z_aload_n C 98 d_M_check_97 rfl rfl ?_
        refine zm_get C 101 f_M_46 d_M_check_98 rfl hn rfl ?_
        refine z_iload_n C 102 d_M_check_101 rfl rfl ?_
        refine zm_iald C 103 (32+k) d_M_check_102 rfl hn (by decide) (by decide) (by decide) rfl (by show 32 + k < 36; omega) (by decide) ?_
        rw [hv3]
        refine z_call C 106 (c_M_bind hn hv20 (Y k)) w_M_bind ini_M d_M_check_103 rfl (z_goV (As := [.int (nI v0), .int (Y k)]) C l_M_188 w_M_bind d_M_check_103 (by omega) rfl rfl rfl) (Nat.le_of_ble_eq_true rfl) (by rw [hR]; simp only [zRm]; omega) (by rw [hR]; simp only [zRm]; omega) (by rw [hR]; simp only [zRm]; omega) (by rw [hR]; simp only [zRm]; omega) (fun v n' σ' hv => ?_) (fun x n' σ' hv => ?_)
        rotate_left
        · cases hv.1
        obtain ⟨e0, e1, rfl⟩ := hv
        cases e0
        obtain rfl : n = n' := e1.symm
        refine z_iinc C 109 d_M_check_106 rfl (nI (32 + (k + 1))) rfl (z_inc (32 + k)) (by decide) ?_
        refine z_goto C 52 d_M_check_109 (by decide) ?_
        refine ih (k + 1) q _ _ (by omega) h0 hr (by split <;> exact g27) (fun j a b c d => by split; { rw [upd_ne b]; exact gS j a b c d }; { exact gS j a b c d }) (fun a ha => (va_up_ne _ _ (by omega)).trans (hA a ha))
      refine z_if_lt C 80 90 d_M_check_77 rfl (by decide) (fun g1 => ?_) (fun g1 => ?_)
      · exact go S' h27 hS
      · refine z_aload_n C 81 d_M_check_80 rfl rfl ?_
        refine z_aload_n C 82 d_M_check_81 rfl rfl ?_
        refine zm_get C 85 f_M_49 d_M_check_82 rfl hn rfl ?_
        refine z_iload_n C 86 d_M_check_85 rfl rfl ?_
        refine zm_iald C 87 (32+k) d_M_check_86 rfl hn (by decide) (by decide) (by decide) rfl (by show 32 + k < 36; omega) (by decide) ?_
        rw [hv2]
        refine z_call C 90 (c_M_mistake hn (P k)) w_M_mistake ini_M d_M_check_87 rfl (z_goV (As := [.int (P k)]) C l_M_172 w_M_mistake d_M_check_87 (by omega) rfl rfl rfl) (Nat.le_of_ble_eq_true rfl) (by rw [hR]; simp only [zRm]; omega) (by rw [hR]; simp only [zRm]; omega) (by rw [hR]; simp only [zRm]; omega) (by rw [hR]; simp only [zRm]; omega) (fun v n' σ' hv => ?_) (fun x n' σ' hv => ?_)
        rotate_left
        · cases hv.1
        obtain ⟨e0, e1, rfl⟩ := hv
        cases e0
        obtain rfl : n = n' := e1.symm
        rw [if_neg (by rw [h27]; exact Int32.not_lt.mpr h0)]
        exact go S' h27 hS
  have parG : ∀ (m k : Nat) (u : bS) (S' : mS) (A' : mA), m + k = cn → (match lPar V P Y m k u with
      | .inl q => .inl q
      | .inr u1 => match lk cl E 8 0 u1 with
        | .inl q => .inl q
        | .inr (t, u2) => if t = rt then lEnd V P cn 0 u2 else .inl (E 0).2.1) = res → S' 27 = -1 → S' 26 = u.2 → A' 103 = u.1 → mSk (upd S 28 (nI f)) S' → S' 28 = nI f → mAk A A' → Z G K n (mOv S' A' L rn σ) 0 0 52 [(2, .int (nI (32 + k))), (0, .ref 85), (1, .int (nI f))] [] := fun m => by
    induction m with
    | zero =>
      intro k u S' A' hk hr h27 h26 h103 hS h28 hA
      refine z_iload_n C 53 d_M_check_52 rfl rfl ?_
      refine z_bipush C 55 d_M_check_53 rfl 32 (by decide) ?_
      refine z_aload_n C 56 d_M_check_55 rfl rfl ?_
      refine zm_get C 59 f_M_37 d_M_check_56 rfl hn rfl ?_
      refine z_bipush C 61 d_M_check_59 rfl 8 (by decide) ?_
      refine zm_iald C 62 8 d_M_check_61 rfl hn (by decide) (by decide) (by decide) rfl (by decide) (by decide) ?_
      rw [hcnt A' hA]
      refine z_iadd C 63 d_M_check_62 rfl ?_
      rw [show (32 : Int32) + nI cn = nI (32 + cn) from nI_add 32 cn]
      refine z_icmp_ge C 66 112 d_M_check_63 rfl (by decide) (fun _ => ?_) (fun h9 => absurd ((nI_leI (by omega) (by omega)).mpr (by omega)) h9)
      exact mid u S' A' _ hr h27 h26 h103 hS h28 hA
    | succ m ih =>
      intro k u S' A' hk hr h27 h26 h103 hS h28 hA
      obtain ⟨hv1, hv2, hv3⟩ := hpv A' hA k (by omega)
      obtain ⟨⟨v0, hv20, ev⟩, -, -⟩ := hpk k (by omega)
      have hix : cIx (V k) = v0 := by rw [ev]; exact nI_clamp (by omega)
      unfold lPar at hr
      rw [hix] at hr
      refine z_iload_n C 53 d_M_check_52 rfl rfl ?_
      refine z_bipush C 55 d_M_check_53 rfl 32 (by decide) ?_
      refine z_aload_n C 56 d_M_check_55 rfl rfl ?_
      refine zm_get C 59 f_M_37 d_M_check_56 rfl hn rfl ?_
      refine z_bipush C 61 d_M_check_59 rfl 8 (by decide) ?_
      refine zm_iald C 62 8 d_M_check_61 rfl hn (by decide) (by decide) (by decide) rfl (by decide) (by decide) ?_
      rw [hcnt A' hA]
      refine z_iadd C 63 d_M_check_62 rfl ?_
      rw [show (32 : Int32) + nI cn = nI (32 + cn) from nI_add 32 cn]
      refine z_icmp_ge C 66 112 d_M_check_63 rfl (by decide) (fun h9 => absurd h9 (fun w => absurd ((nI_leI (by omega) (by omega)).mp w) (by omega))) (fun _ => ?_)
      refine z_aload_n C 67 d_M_check_66 rfl rfl ?_
      refine zm_get C 70 f_M_67 d_M_check_67 rfl hn rfl ?_
      refine z_aload_n C 71 d_M_check_70 rfl rfl ?_
      refine zm_get C 74 f_M_43 d_M_check_71 rfl hn rfl ?_
      refine z_iload_n C 75 d_M_check_74 rfl rfl ?_
      refine zm_iald C 76 (32+k) d_M_check_75 rfl hn (by decide) (by decide) (by decide) rfl (by show 32 + k < 36; omega) (by decide) ?_
      rw [hv1, ev]
      refine zm_iald C 77 v0 d_M_check_76 rfl hn (by decide) (by decide) (by decide) rfl (by show v0 < 20; omega) (by decide) ?_
      rw [h103]
      by_cases q1 : u.1 v0 < 0
      · rw [if_pos q1, ev] at hr
        refine z_if_lt C 80 90 d_M_check_77 rfl (by decide) (fun _ => ?_) (fun h9 => absurd q1 h9)
        refine z_aload_n C 91 d_M_check_90 rfl rfl ?_
        refine z_aload_n C 92 d_M_check_91 rfl rfl ?_
        refine zm_get C 95 f_M_43 d_M_check_92 rfl hn rfl ?_
        refine z_iload_n C 96 d_M_check_95 rfl rfl ?_
        refine zm_iald C 97 (32+k) d_M_check_96 rfl hn (by decide) (by decide) (by decide) rfl (by show 32 + k < 36; omega) (by decide) ?_
        rw [hv1, ev]
        refine z_aload_n C 98 d_M_check_97 rfl rfl ?_
        refine zm_get C 101 f_M_46 d_M_check_98 rfl hn rfl ?_
        refine z_iload_n C 102 d_M_check_101 rfl rfl ?_
        refine zm_iald C 103 (32+k) d_M_check_102 rfl hn (by decide) (by decide) (by decide) rfl (by show 32 + k < 36; omega) (by decide) ?_
        rw [hv3]
        refine z_call C 106 (c_M_bind hn hv20 (Y k)) w_M_bind ini_M d_M_check_103 rfl (z_goV (As := [.int (nI v0), .int (Y k)]) C l_M_188 w_M_bind d_M_check_103 (by omega) rfl rfl rfl) (Nat.le_of_ble_eq_true rfl) (by rw [hR]; simp only [zRm]; omega) (by rw [hR]; simp only [zRm]; omega) (by rw [hR]; simp only [zRm]; omega) (by rw [hR]; simp only [zRm]; omega) (fun v n' σ' hv => ?_) (fun x n' σ' hv => ?_)
        rotate_left
        · cases hv.1
        obtain ⟨e0, e1, rfl⟩ := hv
        cases e0
        obtain rfl : n = n' := e1.symm
        refine z_iinc C 109 d_M_check_106 rfl (nI (32 + (k + 1))) rfl (z_inc (32 + k)) (by decide) ?_
        refine z_goto C 52 d_M_check_109 (by decide) ?_
        refine ih (k + 1) (lBind (nI v0) (Y k) u) _ _ (by omega) hr (by split <;> exact h27) ?_ ?_ (fun j a b c d => by split; { rw [upd_ne b]; exact hS j a b c d }; { exact hS j a b c d }) (by split <;> exact h28) (fun a ha => (va_up_ne _ _ (by omega)).trans (hA a ha))
        · unfold lBind
          dsimp only
          split
          · show S' 26 ||| _ = _
            rw [h26]
          · exact h26
        · unfold lBind
          rw [va_up_self, h103, show cIx (nI v0) = v0 from nI_clamp (by omega)]
      · rw [if_neg q1] at hr
        have h0 : 0 ≤ P k := by rw [← hr] at hq; exact hq
        refine z_if_lt C 80 90 d_M_check_77 rfl (by decide) (fun h9 => absurd h9 q1) (fun _ => ?_)
        refine z_aload_n C 81 d_M_check_80 rfl rfl ?_
        refine z_aload_n C 82 d_M_check_81 rfl rfl ?_
        refine zm_get C 85 f_M_49 d_M_check_82 rfl hn rfl ?_
        refine z_iload_n C 86 d_M_check_85 rfl rfl ?_
        refine zm_iald C 87 (32+k) d_M_check_86 rfl hn (by decide) (by decide) (by decide) rfl (by show 32 + k < 36; omega) (by decide) ?_
        rw [hv2]
        refine z_call C 90 (c_M_mistake hn (P k)) w_M_mistake ini_M d_M_check_87 rfl (z_goV (As := [.int (P k)]) C l_M_172 w_M_mistake d_M_check_87 (by omega) rfl rfl rfl) (Nat.le_of_ble_eq_true rfl) (by rw [hR]; simp only [zRm]; omega) (by rw [hR]; simp only [zRm]; omega) (by rw [hR]; simp only [zRm]; omega) (by rw [hR]; simp only [zRm]; omega) (fun v n' σ' hv => ?_) (fun x n' σ' hv => ?_)
        rotate_left
        · cases hv.1
        obtain ⟨e0, e1, rfl⟩ := hv
        cases e0
        obtain rfl : n = n' := e1.symm
        rw [if_pos (by rw [h27]; decide)]
        refine z_aload_n C 91 d_M_check_90 rfl rfl ?_
        refine z_aload_n C 92 d_M_check_91 rfl rfl ?_
        refine zm_get C 95 f_M_43 d_M_check_92 rfl hn rfl ?_
        refine z_iload_n C 96 d_M_check_95 rfl rfl ?_
        refine zm_iald C 97 (32+k) d_M_check_96 rfl hn (by decide) (by decide) (by decide) rfl (by show 32 + k < 36; omega) (by decide) ?_
        rw [hv1, ev]
        refine z_aload_n C 98 d_M_check_97 rfl rfl ?_
        refine zm_get C 101 f_M_46 d_M_check_98 rfl hn rfl ?_
        refine z_iload_n C 102 d_M_check_101 rfl rfl ?_
        refine zm_iald C 103 (32+k) d_M_check_102 rfl hn (by decide) (by decide) (by decide) rfl (by show 32 + k < 36; omega) (by decide) ?_
        rw [hv3]
        refine z_call C 106 (c_M_bind hn hv20 (Y k)) w_M_bind ini_M d_M_check_103 rfl (z_goV (As := [.int (nI v0), .int (Y k)]) C l_M_188 w_M_bind d_M_check_103 (by omega) rfl rfl rfl) (Nat.le_of_ble_eq_true rfl) (by rw [hR]; simp only [zRm]; omega) (by rw [hR]; simp only [zRm]; omega) (by rw [hR]; simp only [zRm]; omega) (by rw [hR]; simp only [zRm]; omega) (fun v n' σ' hv => ?_) (fun x n' σ' hv => ?_)
        rotate_left
        · cases hv.1
        obtain ⟨e0, e1, rfl⟩ := hv
        cases e0
        obtain rfl : n = n' := e1.symm
        refine z_iinc C 109 d_M_check_106 rfl (nI (32 + (k + 1))) rfl (z_inc (32 + k)) (by decide) ?_
        refine z_goto C 52 d_M_check_109 (by decide) ?_
        refine parW m (k + 1) (P k) _ _ (by omega) h0 hr.symm (by split <;> rfl) (fun j a b c d => by split; { rw [upd_ne b, upd_ne c]; exact (hS j a b c d).trans (upd_ne d) }; { rw [upd_ne c]; exact (hS j a b c d).trans (upd_ne d) }) (fun a ha => (va_up_ne _ _ (by omega)).trans (hA a ha))
  have bnl : ∀ (m k : Nat) (S' : mS), m + k = 20 → (∀ A', A' 103 = fl (A 103) 20 (-1) → mAk A A' → Z G K n (mOv S' A' L rn σ) 0 0 52 [(2, .int (nI 32)), (0, .ref 85), (1, .int (nI f))] []) → ∀ A', A' 103 = fl (A 103) k (-1) → mAk A A' → Z G K n (mOv S' A' L rn σ) 0 0 30 [(2, .int (nI k)), (0, .ref 85), (1, .int (nI f))] [] := fun m => by
    induction m with
    | zero =>
      intro k S' hk hz A' h103 hA
      obtain rfl : k = 20 := by omega
      refine z_iload_n C 31 d_M_check_30 rfl rfl ?_
      refine z_bipush C 33 d_M_check_31 rfl 20 (by decide) ?_
      refine z_icmp_ge C 36 49 d_M_check_33 rfl (by decide) (fun _ => ?_) (fun h9 => absurd (show (20 : Int32) ≤ nI 20 by decide) h9)
      refine z_bipush C 51 d_M_check_49 rfl 32 (by decide) ?_
      refine z_istore_n C 52 d_M_check_51 rfl (by decide) ?_
      exact hz A' h103 hA
    | succ m ih =>
      intro k S' hk hz A' h103 hA
      refine z_iload_n C 31 d_M_check_30 rfl rfl ?_
      refine z_bipush C 33 d_M_check_31 rfl 20 (by decide) ?_
      refine z_icmp_ge C 36 49 d_M_check_33 rfl (by decide) (fun h9 => absurd h9 (fun w => absurd ((nI_leI (a := 20) (by omega) (by omega)).mp w) (by omega))) (fun _ => ?_)
      refine z_aload_n C 37 d_M_check_36 rfl rfl ?_
      refine zm_get C 40 f_M_67 d_M_check_37 rfl hn rfl ?_
      refine z_iload_n C 41 d_M_check_40 rfl rfl ?_
      refine z_iconst C 42 d_M_check_41 rfl (-1) (by decide) ?_
      refine zm_iast C 43 k d_M_check_42 rfl hn (by decide) (by decide) (by decide) rfl (by show k < 20; omega) (by decide) ?_
      refine z_iinc C 46 d_M_check_43 rfl (nI (k + 1)) rfl (z_inc k) (by decide) ?_
      refine z_goto C 30 d_M_check_46 (by decide) ?_
      refine ih (k + 1) S' (by omega) hz _ ?_ (fun a ha => (va_up_ne _ _ (by omega)).trans (hA a ha))
      rw [va_up_self, h103, fl_upd]
  refine z_aload_n C 1 d_M_check_0 rfl rfl ?_
  refine z_iload_n C 2 d_M_check_1 rfl rfl ?_
  refine zm_puti C 5 p_M_175 d_M_check_2 rfl hn (by decide) (rfl) rfl rfl ?_
  refine z_aload_n C 6 d_M_check_5 rfl rfl ?_
  refine z_iconst C 7 d_M_check_6 rfl 0 (by decide) ?_
  refine zm_puti C 10 p_M_165 d_M_check_7 rfl hn (by decide) (rfl) rfl rfl ?_
  refine z_aload_n C 11 d_M_check_10 rfl rfl ?_
  refine z_aload_n C 12 d_M_check_11 rfl rfl ?_
  refine zm_get C 15 f_M_33 d_M_check_12 rfl hn rfl ?_
  refine z_iload_n C 16 d_M_check_15 rfl rfl ?_
  refine zm_zald C 17 f d_M_check_16 rfl hn rfl (by omega) ?_
  by_cases qd : A 92 f = 0
  · rw [show (A 92 f != 0) = false by rw [qd]; rfl] at hres
    refine z_if_eq C 20 24 d_M_check_17 rfl (by decide) (fun _ => ?_) (fun h9 => absurd qd h9)
    refine z_iconst C 25 d_M_check_24 rfl (-1) (by decide) ?_
    refine zm_puti C 28 p_M_162 d_M_check_25 rfl hn (by decide) (rfl) rfl rfl ?_
    refine z_iconst C 29 d_M_check_28 rfl 0 (by decide) ?_
    refine z_istore_n C 30 d_M_check_29 rfl (by decide) ?_
    refine bnl 20 0 _ (by omega) (fun A' h103 hA => ?_) A fl_0.symm (fun _ _ => rfl)
    exact parG cn 0 (fl (A 103) 20 (-1), 0) _ A' (by omega) hres rfl rfl h103 (fun j a b c d => by simp only [upd, if_neg b, if_neg c, if_neg d]) rfl hA
  · rw [show (A 92 f != 0) = true by simp [qd]] at hres
    refine z_if_eq C 20 24 d_M_check_17 rfl (by decide) (fun h9 => absurd h9 qd) (fun _ => ?_)
    refine z_iconst C 21 d_M_check_20 rfl 0 (by decide) ?_
    refine z_goto C 25 d_M_check_21 (by decide) ?_
    refine zm_puti C 28 p_M_162 d_M_check_25 rfl hn (by decide) (rfl) rfl rfl ?_
    refine z_iconst C 29 d_M_check_28 rfl 0 (by decide) ?_
    refine z_istore_n C 30 d_M_check_29 rfl (by decide) ?_
    refine bnl 20 0 _ (by omega) (fun A' h103 hA => ?_) A fl_0.symm (fun _ _ => rfl)
    exact parW cn 0 0 _ A' (by omega) (by decide) hres.symm rfl (fun j a b c d => by simp only [upd, if_neg b, if_neg c, if_neg d]) hA
end MCH
