section MLH
variable {G : zG} {l : Launch} {n : Nat} {σ : zS} {S S0 : mS} {A A0 : mA} {L : mL} {rn : Int64} {cl : Nat → Option cF} {f o i j k : Nat} {s : bS} {E : Nat → eN} {e : eN} {sv : bV}
def mSv (A : mA) (o : Nat) (sv : bV) : Prop := A 100 o = sv.1 ∧ A 102 o = sv.2.1 ∧ A 101 o = sv.2.2
def mPo (S0 : mS) (A0 : mA) (o : Nat) (A : mA) (x : Int32 ⊕ (bV × bS)) (S' : mS) (A' : mA) : Prop := match x with
  | .inl q => mWr S0 A0 q S' A' ∧ S' 19 = nI (o + 1)
  | .inr (sv, s) => mCk S0 A0 s (o + 1) S' A' ∧ mSv A' o sv ∧ (∀ a q, a = 100 ∨ a = 101 ∨ a = 102 → q ≠ o → A' a q = A a q) ∧ A' 98 = A 98 ∧ A' 99 = A 99
theorem c_M_lookBehind (hn : 113 ≤ n) (henv : mEnv S0 A0 cl f) (hm : mCk S0 A0 s (o + 1) S A) (hN : mNd A0 i e) (hok : lCok cl e) (ho : o < 79) (hj : j < 150) (hk : k < e.2.2.2.1) (hsv : mSv A o sv) (pl t : Int32) (hpl : A0 89 (1200 + j) = pl) : MetZ G l y_M_lookBehind b_M_lookBehind 7 none [] 1 0 0 [.ref 85, .int (nI (1200 + i)), .int (nI k), .int (nI (1200 + j)), .int t] n (mOv S A L rn σ) (fun o' n' σ' => o' = .returned none ∧ n' = n ∧ ∃ S' A', σ' = mOv S' A' L rn σ ∧ mPo S0 A0 o A (lkP cl e k pl t sv s) S' A') := by
  have hm0 := hm
  obtain ⟨h27, h26, h19, h103, hk0, hA0⟩ := hm
  obtain ⟨hi, hK14, a87, a90, a89, ⟨⟨v0, hv20, ev⟩, ⟨g, hg8, eg⟩, t0, t2, t13, tv, tp, tq⟩, hcn, hc4⟩ := hN
  obtain ⟨v1, v2, v3⟩ := hsv
  have b87 : A 87 (1200 + i) = nI e.1 := by rw [hA0 87 (by omega)]; exact a87
  have b88 : A 88 (1200 + i) = A0 88 (1200 + i) := by rw [hA0 88 (by omega)]
  have b89 : A 89 (1200 + i) = e.2.1 := by rw [hA0 89 (by omega)]; exact a89
  have bpl : A 89 (1200 + j) = pl := by rw [hA0 89 (by omega)]; exact hpl
  have hix : cIx (eVr e) = v0 := by rw [ev]; exact nI_clamp (by omega)
  have hig : cIx (eNm e) = g := by rw [eg]; exact nI_clamp (by omega)
  obtain ⟨res, hres⟩ : ∃ x, lkP cl e k pl t sv s = x := ⟨_, rfl⟩
  rw [hres]
  unfold lkP at hres
  refine MetZ.of (by decide) (Nat.le_of_ble_eq_true rfl) (fun K hK hR hpo hmc hms C => ?_)
  have same : res = .inr (sv, s) → mPo S0 A0 o A res S A := fun hr => by rw [hr]; exact ⟨hm0, ⟨v1, v2, v3⟩, fun _ _ _ _ => rfl, rfl, rfl⟩
  have wrong : ∀ q A', res = .inl q → (∀ a, a < 98 ∨ 103 < a → A' a = A a) → mPo S0 A0 o A res (upd S 27 q) A' := fun q A' hr hA' => by rw [hr]; exact ⟨⟨rfl, (fun k a b c => by simp only [upd, if_neg a, if_neg b, if_neg c]; exact hk0 k a b c), fun a ha => (hA' a ha).trans (hA0 a ha)⟩, h19⟩
  have mist : S 27 < 0 := by rw [h27]; decide
  refine z_aload_n C 1 d_M_lookBehind_0 rfl rfl ?_
  refine zm_get C 4 f_M_24 d_M_lookBehind_1 rfl hn rfl ?_
  refine z_iload_n C 5 d_M_lookBehind_4 rfl rfl ?_
  refine zm_iald C 6 (1200+j) d_M_lookBehind_5 rfl hn (by decide) (by decide) (by decide) rfl (by show 1200 + j < 1350; omega) (by decide) ?_
  rw [bpl]
  refine z_istore C 8 d_M_lookBehind_6 rfl (by decide) ?_
  refine z_aload_n C 9 d_M_lookBehind_8 rfl rfl ?_
  refine zm_get C 12 f_M_129 d_M_lookBehind_9 rfl hn rfl ?_
  rw [h19]
  refine z_iconst C 13 d_M_lookBehind_12 rfl 1 (by decide) ?_
  refine z_isub C 14 d_M_lookBehind_13 rfl ?_
  rw [nI_p1]
  refine z_istore C 16 d_M_lookBehind_14 rfl (by decide) ?_
  refine z_aload_n C 17 d_M_lookBehind_16 rfl rfl ?_
  refine zm_get C 20 f_M_17 d_M_lookBehind_17 rfl hn rfl ?_
  refine z_iload_n C 21 d_M_lookBehind_20 rfl rfl ?_
  refine zm_iald C 22 (1200+i) d_M_lookBehind_21 rfl hn (by decide) (by decide) (by decide) rfl (by show 1200 + i < 1350; omega) (by decide) ?_
  rw [b87]
  have dflt : e.1 ≠ 3 → e.1 ≠ 4 → e.1 ≠ 12 → e.1 ≠ 13 → Z G K n (mOv S A L rn σ) 0 0 264 [(6, .int (nI o)), (5, .int pl), (0, .ref 85), (1, .int (nI (1200 + i))), (2, .int (nI k)), (3, .int (nI (1200 + j))), (4, .int t)] [] := fun n3 n4 n12 n13 => by
    rw [if_neg n3, if_neg n4, if_neg n12, if_neg n13] at hres
    refine z_iload C 266 d_M_lookBehind_264 rfl rfl ?_
    by_cases q : t = 0
    · rw [if_pos q] at hres
      refine z_if_eq C 269 275 d_M_lookBehind_266 rfl (by decide) (fun _ => ?_) (fun h9 => absurd q h9)
      exact z_vret C rfl d_M_lookBehind_275 (by rw [hpo]; exact ⟨rfl, rfl, S, A, rfl, same hres.symm⟩) (by rw [hmc]; omega) (by rw [hms]; omega)
    · rw [if_neg q] at hres
      refine z_if_eq C 269 275 d_M_lookBehind_266 rfl (by decide) (fun h9 => absurd h9 q) (fun _ => ?_)
      refine z_aload_n C 270 d_M_lookBehind_269 rfl rfl ?_
      refine z_iload C 272 d_M_lookBehind_270 rfl rfl ?_
      refine z_call C 275 (c_M_mistake hn pl) w_M_mistake ini_M d_M_lookBehind_272 rfl (z_goV (As := [.int pl]) C l_M_172 w_M_mistake d_M_lookBehind_272 (by omega) rfl rfl rfl) (Nat.le_of_ble_eq_true rfl) (by rw [hR]; simp only [zRm]; omega) (by rw [hR]; simp only [zRm]; omega) (by rw [hR]; simp only [zRm]; omega) (by rw [hR]; simp only [zRm]; omega) (fun v n' σ' hv => ?_) (fun x n' σ' hv => ?_)
      rotate_left
      · cases hv.1
      obtain ⟨e0, e1, rfl⟩ := hv
      cases e0
      obtain rfl : n = n' := e1.symm
      rw [if_pos mist]
      exact z_vret C rfl d_M_lookBehind_275 (by rw [hpo]; exact ⟨rfl, rfl, _, A, rfl, wrong pl A hres.symm (fun _ _ => rfl)⟩) (by rw [hmc]; omega) (by rw [hms]; omega)
  have hcase : e.1 = 0 ∨ e.1 = 1 ∨ e.1 = 2 ∨ e.1 = 3 ∨ e.1 = 4 ∨ e.1 = 5 ∨ e.1 = 6 ∨ e.1 = 7 ∨ e.1 = 8 ∨ e.1 = 9 ∨ e.1 = 10 ∨ e.1 = 11 ∨ e.1 = 12 ∨ e.1 = 13 := by omega
  rcases hcase with hK | hK | hK | hK | hK | hK | hK | hK | hK | hK | hK | hK | hK | hK
  · rw [hK]
    refine z_lookup C 264 d_M_lookBehind_22 (by decide) (off := 242) (by decide) (by decide) ?_
    exact dflt (by omega) (by omega) (by omega) (by omega)
  · rw [hK]
    refine z_lookup C 264 d_M_lookBehind_22 (by decide) (off := 242) (by decide) (by decide) ?_
    exact dflt (by omega) (by omega) (by omega) (by omega)
  · rw [hK]
    refine z_lookup C 264 d_M_lookBehind_22 (by decide) (off := 242) (by decide) (by decide) ?_
    exact dflt (by omega) (by omega) (by omega) (by omega)
  · rw [hK]
    refine z_lookup C 64 d_M_lookBehind_22 (by decide) (off := 42) (by decide) (by decide) ?_
    rw [if_pos hK] at hres
    have hk3 : k = 0 ∨ k = 1 ∨ k = 2 := by have := hcn.2.2.2.1 hK; omega
    rcases hk3 with rfl | rfl | rfl
    · rw [if_pos rfl] at hres
      refine z_iload_n C 65 d_M_lookBehind_64 rfl rfl ?_
      refine z_if_ne C 68 79 d_M_lookBehind_65 rfl (by decide) (fun h9 => absurd (show nI 0 = 0 from rfl) h9) (fun _ => ?_)
      refine z_iload C 70 d_M_lookBehind_68 rfl rfl ?_
      by_cases q : t = 0
      · rw [if_pos q] at hres
        refine z_if_eq C 73 79 d_M_lookBehind_70 rfl (by decide) (fun _ => ?_) (fun h9 => absurd q h9)
        refine z_iload_n C 80 d_M_lookBehind_79 rfl rfl ?_
        refine z_if_ne C 83 94 d_M_lookBehind_80 rfl (by decide) (fun h9 => absurd (show nI 0 = 0 from rfl) h9) (fun _ => ?_)
        refine z_aload_n C 84 d_M_lookBehind_83 rfl rfl ?_
        refine zm_get C 87 f_M_58 d_M_lookBehind_84 rfl hn rfl ?_
        refine z_iload C 89 d_M_lookBehind_87 rfl rfl ?_
        refine z_aload_n C 90 d_M_lookBehind_89 rfl rfl ?_
        refine zm_get C 93 f_M_165 d_M_lookBehind_90 rfl hn rfl ?_
        refine zm_iast C 94 o d_M_lookBehind_93 rfl hn (by decide) (by decide) (by decide) rfl (by show o < 80; omega) (by decide) ?_
        refine z_iload_n C 95 d_M_lookBehind_94 rfl rfl ?_
        refine z_iconst C 96 d_M_lookBehind_95 rfl 1 (by decide) ?_
        refine z_icmp_ne C 99 130 d_M_lookBehind_96 rfl (by decide) (fun _ => ?_) (fun h9 => absurd h9 (show ¬ nI 0 = 1 by decide))
        refine z_iload_n C 131 d_M_lookBehind_130 rfl rfl ?_
        refine z_iconst C 132 d_M_lookBehind_131 rfl 2 (by decide) ?_
        refine z_icmp_ne C 135 275 d_M_lookBehind_132 rfl (by decide) (fun _ => ?_) (fun h9 => absurd h9 (show ¬ nI 0 = 2 by decide))
        exact z_vret C rfl d_M_lookBehind_275 (by rw [hpo]; exact ⟨rfl, rfl, S, _, rfl, by rw [← hres]; exact ⟨⟨h27, h26, h19, h103, hk0, fun a ha => (va_up_ne _ _ (by omega)).trans (hA0 a ha)⟩, ⟨by rw [va_up_self, upd_self]; exact h26, v2, v3⟩, fun a q ha hq => (vu_ne (Or.inr hq)), rfl, rfl⟩⟩) (by rw [hmc]; omega) (by rw [hms]; omega)
      · rw [if_neg q] at hres
        refine z_if_eq C 73 79 d_M_lookBehind_70 rfl (by decide) (fun h9 => absurd h9 q) (fun _ => ?_)
        refine z_aload_n C 74 d_M_lookBehind_73 rfl rfl ?_
        refine z_iload C 76 d_M_lookBehind_74 rfl rfl ?_
        refine z_call C 79 (c_M_mistake hn pl) w_M_mistake ini_M d_M_lookBehind_76 rfl (z_goV (As := [.int pl]) C l_M_172 w_M_mistake d_M_lookBehind_76 (by omega) rfl rfl rfl) (Nat.le_of_ble_eq_true rfl) (by rw [hR]; simp only [zRm]; omega) (by rw [hR]; simp only [zRm]; omega) (by rw [hR]; simp only [zRm]; omega) (by rw [hR]; simp only [zRm]; omega) (fun v n' σ' hv => ?_) (fun x n' σ' hv => ?_)
        rotate_left
        · cases hv.1
        obtain ⟨e0, e1, rfl⟩ := hv
        cases e0
        obtain rfl : n = n' := e1.symm
        rw [if_pos mist]
        refine z_iload_n C 80 d_M_lookBehind_79 rfl rfl ?_
        refine z_if_ne C 83 94 d_M_lookBehind_80 rfl (by decide) (fun h9 => absurd (show nI 0 = 0 from rfl) h9) (fun _ => ?_)
        refine z_aload_n C 84 d_M_lookBehind_83 rfl rfl ?_
        refine zm_get C 87 f_M_58 d_M_lookBehind_84 rfl hn rfl ?_
        refine z_iload C 89 d_M_lookBehind_87 rfl rfl ?_
        refine z_aload_n C 90 d_M_lookBehind_89 rfl rfl ?_
        refine zm_get C 93 f_M_165 d_M_lookBehind_90 rfl hn rfl ?_
        refine zm_iast C 94 o d_M_lookBehind_93 rfl hn (by decide) (by decide) (by decide) rfl (by show o < 80; omega) (by decide) ?_
        refine z_iload_n C 95 d_M_lookBehind_94 rfl rfl ?_
        refine z_iconst C 96 d_M_lookBehind_95 rfl 1 (by decide) ?_
        refine z_icmp_ne C 99 130 d_M_lookBehind_96 rfl (by decide) (fun _ => ?_) (fun h9 => absurd h9 (show ¬ nI 0 = 1 by decide))
        refine z_iload_n C 131 d_M_lookBehind_130 rfl rfl ?_
        refine z_iconst C 132 d_M_lookBehind_131 rfl 2 (by decide) ?_
        refine z_icmp_ne C 135 275 d_M_lookBehind_132 rfl (by decide) (fun _ => ?_) (fun h9 => absurd h9 (show ¬ nI 0 = 2 by decide))
        exact z_vret C rfl d_M_lookBehind_275 (by rw [hpo]; exact ⟨rfl, rfl, _, _, rfl, wrong pl _ hres.symm (fun a ha => va_up_ne _ _ (by omega))⟩) (by rw [hmc]; omega) (by rw [hms]; omega)
    · rw [if_neg (show ¬ (1 : Nat) = 0 by decide), if_pos rfl] at hres
      refine z_iload_n C 65 d_M_lookBehind_64 rfl rfl ?_
      refine z_if_ne C 68 79 d_M_lookBehind_65 rfl (by decide) (fun _ => ?_) (fun h9 => absurd h9 (show ¬ nI 1 = 0 by decide))
      refine z_iload_n C 80 d_M_lookBehind_79 rfl rfl ?_
      refine z_if_ne C 83 94 d_M_lookBehind_80 rfl (by decide) (fun _ => ?_) (fun h9 => absurd h9 (show ¬ nI 1 = 0 by decide))
      refine z_iload_n C 95 d_M_lookBehind_94 rfl rfl ?_
      refine z_iconst C 96 d_M_lookBehind_95 rfl 1 (by decide) ?_
      refine z_icmp_ne C 99 130 d_M_lookBehind_96 rfl (by decide) (fun h9 => absurd (show nI 1 = 1 from rfl) h9) (fun _ => ?_)
      refine z_aload_n C 100 d_M_lookBehind_99 rfl rfl ?_
      refine zm_get C 103 f_M_64 d_M_lookBehind_100 rfl hn rfl ?_
      refine z_iload C 105 d_M_lookBehind_103 rfl rfl ?_
      refine z_iload C 107 d_M_lookBehind_105 rfl rfl ?_
      refine zm_iast C 108 o d_M_lookBehind_107 rfl hn (by decide) (by decide) (by decide) rfl (by show o < 80; omega) (by decide) ?_
      refine z_aload_n C 109 d_M_lookBehind_108 rfl rfl ?_
      refine zm_get C 112 f_M_61 d_M_lookBehind_109 rfl hn rfl ?_
      refine z_iload C 114 d_M_lookBehind_112 rfl rfl ?_
      refine z_aload_n C 115 d_M_lookBehind_114 rfl rfl ?_
      refine zm_get C 118 f_M_165 d_M_lookBehind_115 rfl hn rfl ?_
      refine zm_iast C 119 o d_M_lookBehind_118 rfl hn (by decide) (by decide) (by decide) rfl (by show o < 80; omega) (by decide) ?_
      refine z_aload_n C 120 d_M_lookBehind_119 rfl rfl ?_
      refine z_aload_n C 121 d_M_lookBehind_120 rfl rfl ?_
      refine zm_get C 124 f_M_58 d_M_lookBehind_121 rfl hn rfl ?_
      refine z_iload C 126 d_M_lookBehind_124 rfl rfl ?_
      refine zm_iald C 127 o d_M_lookBehind_126 rfl hn (by decide) (by decide) (by decide) rfl (by show o < 80; omega) (by decide) ?_
      rw [show ∀ x y, (va_up (va_up A 102 x) 101 y) 100 o = sv.1 from fun _ _ => v1]
      refine zm_puti C 130 p_M_165 d_M_lookBehind_127 rfl hn (by decide) (rfl) rfl rfl ?_
      refine z_iload_n C 131 d_M_lookBehind_130 rfl rfl ?_
      refine z_iconst C 132 d_M_lookBehind_131 rfl 2 (by decide) ?_
      refine z_icmp_ne C 135 275 d_M_lookBehind_132 rfl (by decide) (fun _ => ?_) (fun h9 => absurd h9 (show ¬ nI 1 = 2 by decide))
      exact z_vret C rfl d_M_lookBehind_275 (by rw [hpo]; exact ⟨rfl, rfl, _, _, rfl, by rw [← hres]; exact ⟨⟨h27, rfl, h19, h103, (fun k a b c => by simp only [upd, if_neg a, if_neg b, if_neg c]; exact hk0 k a b c), fun a ha => (va_up_ne _ _ (by omega)).trans ((va_up_ne _ _ (by omega)).trans (hA0 a ha))⟩, ⟨v1, by show upd (A 102) o t o = _; rw [upd_self], by show upd (A 101) o (S 26) o = _; rw [upd_self]; exact h26⟩, fun a q ha hq => (vu_ne (A := va_up A 102 (upd (A 102) o t)) (Or.inr hq)).trans (vu_ne (Or.inr hq)), rfl, rfl⟩⟩) (by rw [hmc]; omega) (by rw [hms]; omega)
    · rw [if_neg (show ¬ (2 : Nat) = 0 by decide), if_neg (show ¬ (2 : Nat) = 1 by decide)] at hres
      have bad : ¬ (t = sv.2.1 ∧ s.2 = sv.2.2) → Z G K n (mOv S A L rn σ) 0 0 161 [(6, .int (nI o)), (5, .int pl), (0, .ref 85), (1, .int (nI (1200 + i))), (2, .int (nI 2)), (3, .int (nI (1200 + j))), (4, .int t)] [] := fun hq => by
        rw [if_neg hq] at hres
        refine z_aload_n C 162 d_M_lookBehind_161 rfl rfl ?_
        refine z_aload_n C 163 d_M_lookBehind_162 rfl rfl ?_
        refine zm_get C 166 f_M_24 d_M_lookBehind_163 rfl hn rfl ?_
        refine z_iload_n C 167 d_M_lookBehind_166 rfl rfl ?_
        refine zm_iald C 168 (1200+i) d_M_lookBehind_167 rfl hn (by decide) (by decide) (by decide) rfl (by show 1200 + i < 1350; omega) (by decide) ?_
        rw [b89]
        refine z_call C 171 (c_M_mistake hn e.2.1) w_M_mistake ini_M d_M_lookBehind_168 rfl (z_goV (As := [.int e.2.1]) C l_M_172 w_M_mistake d_M_lookBehind_168 (by omega) rfl rfl rfl) (Nat.le_of_ble_eq_true rfl) (by rw [hR]; simp only [zRm]; omega) (by rw [hR]; simp only [zRm]; omega) (by rw [hR]; simp only [zRm]; omega) (by rw [hR]; simp only [zRm]; omega) (fun v n' σ' hv => ?_) (fun x n' σ' hv => ?_)
        rotate_left
        · cases hv.1
        obtain ⟨e0, e1, rfl⟩ := hv
        cases e0
        obtain rfl : n = n' := e1.symm
        rw [if_pos mist]
        refine z_goto C 275 d_M_lookBehind_171 (by decide) ?_
        exact z_vret C rfl d_M_lookBehind_275 (by rw [hpo]; exact ⟨rfl, rfl, _, A, rfl, wrong e.2.1 A hres.symm (fun _ _ => rfl)⟩) (by rw [hmc]; omega) (by rw [hms]; omega)
      refine z_iload_n C 65 d_M_lookBehind_64 rfl rfl ?_
      refine z_if_ne C 68 79 d_M_lookBehind_65 rfl (by decide) (fun _ => ?_) (fun h9 => absurd h9 (show ¬ nI 2 = 0 by decide))
      refine z_iload_n C 80 d_M_lookBehind_79 rfl rfl ?_
      refine z_if_ne C 83 94 d_M_lookBehind_80 rfl (by decide) (fun _ => ?_) (fun h9 => absurd h9 (show ¬ nI 2 = 0 by decide))
      refine z_iload_n C 95 d_M_lookBehind_94 rfl rfl ?_
      refine z_iconst C 96 d_M_lookBehind_95 rfl 1 (by decide) ?_
      refine z_icmp_ne C 99 130 d_M_lookBehind_96 rfl (by decide) (fun _ => ?_) (fun h9 => absurd h9 (show ¬ nI 2 = 1 by decide))
      refine z_iload_n C 131 d_M_lookBehind_130 rfl rfl ?_
      refine z_iconst C 132 d_M_lookBehind_131 rfl 2 (by decide) ?_
      refine z_icmp_ne C 135 275 d_M_lookBehind_132 rfl (by decide) (fun h9 => absurd (show nI 2 = 2 from rfl) h9) (fun _ => ?_)
      refine z_iload C 137 d_M_lookBehind_135 rfl rfl ?_
      refine z_aload_n C 138 d_M_lookBehind_137 rfl rfl ?_
      refine zm_get C 141 f_M_64 d_M_lookBehind_138 rfl hn rfl ?_
      refine z_iload C 143 d_M_lookBehind_141 rfl rfl ?_
      refine zm_iald C 144 o d_M_lookBehind_143 rfl hn (by decide) (by decide) (by decide) rfl (by show o < 80; omega) (by decide) ?_
      rw [v2]
      refine z_icmp_ne C 147 161 d_M_lookBehind_144 rfl (by decide) (fun q => ?_) (fun q => ?_)
      · exact bad (fun w => q w.1)
      refine z_aload_n C 148 d_M_lookBehind_147 rfl rfl ?_
      refine zm_get C 151 f_M_165 d_M_lookBehind_148 rfl hn rfl ?_
      refine z_aload_n C 152 d_M_lookBehind_151 rfl rfl ?_
      refine zm_get C 155 f_M_61 d_M_lookBehind_152 rfl hn rfl ?_
      refine z_iload C 157 d_M_lookBehind_155 rfl rfl ?_
      refine zm_iald C 158 o d_M_lookBehind_157 rfl hn (by decide) (by decide) (by decide) rfl (by show o < 80; omega) (by decide) ?_
      rw [v3, h26]
      refine z_icmp_eq C 161 275 d_M_lookBehind_158 rfl (by decide) (fun q2 => ?_) (fun q2 => ?_)
      · rw [if_pos ⟨q, q2⟩] at hres
        exact z_vret C rfl d_M_lookBehind_275 (by rw [hpo]; exact ⟨rfl, rfl, S, A, rfl, same hres.symm⟩) (by rw [hmc]; omega) (by rw [hms]; omega)
      · exact bad (fun w => q2 w.2)
  · rw [hK]
    refine z_lookup C 174 d_M_lookBehind_22 (by decide) (off := 152) (by decide) (by decide) ?_
    rw [if_neg (show ¬ e.1 = 3 by omega), if_pos hK, hix] at hres
    have ex : A0 88 (1200 + i) = nI v0 := (tv (by omega) (by omega) (by omega) (by omega) (by omega) (by omega)).trans ev
    have evp : eVp e = e.2.1 + 1 := tq (by omega) (by omega)
    have hk2 : k = 0 ∨ k = 1 := by have := hcn.2.2.2.2.1 hK; omega
    rcases hk2 with rfl | rfl
    · rw [if_pos rfl] at hres
      refine z_iload_n C 175 d_M_lookBehind_174 rfl rfl ?_
      refine z_if_ne C 178 193 d_M_lookBehind_175 rfl (by decide) (fun h9 => absurd (show nI 0 = 0 from rfl) h9) (fun _ => ?_)
      refine z_aload_n C 179 d_M_lookBehind_178 rfl rfl ?_
      refine z_aload_n C 180 d_M_lookBehind_179 rfl rfl ?_
      refine zm_get C 183 f_M_21 d_M_lookBehind_180 rfl hn rfl ?_
      refine z_iload_n C 184 d_M_lookBehind_183 rfl rfl ?_
      refine zm_iald C 185 (1200+i) d_M_lookBehind_184 rfl hn (by decide) (by decide) (by decide) rfl (by show 1200 + i < 1350; omega) (by decide) ?_
      rw [b88, ex]
      refine z_iload C 187 d_M_lookBehind_185 rfl rfl ?_
      refine z_call C 190 (c_M_bind hn hv20 t) w_M_bind ini_M d_M_lookBehind_187 rfl (z_goV (As := [.int (nI v0), .int t]) C l_M_188 w_M_bind d_M_lookBehind_187 (by omega) rfl rfl rfl) (Nat.le_of_ble_eq_true rfl) (by rw [hR]; simp only [zRm]; omega) (by rw [hR]; simp only [zRm]; omega) (by rw [hR]; simp only [zRm]; omega) (by rw [hR]; simp only [zRm]; omega) (fun v n' σ' hv => ?_) (fun x n' σ' hv => ?_)
      rotate_left
      · cases hv.1
      obtain ⟨e0, e1, rfl⟩ := hv
      cases e0
      obtain rfl : n = n' := e1.symm
      refine z_goto C 275 d_M_lookBehind_190 (by decide) ?_
      exact z_vret C rfl d_M_lookBehind_275 (by rw [hpo]; exact ⟨rfl, rfl, _, _, rfl, by rw [← hres]; exact ⟨⟨by split <;> exact h27, by unfold lBind; rw [ev]; split; { show S 26 ||| _ = _; rw [h26] }; { exact h26 }, by split <;> exact h19, by unfold lBind; rw [va_up_self, h103, hix], fun k a b c => by split; { rw [upd_ne b]; exact hk0 k a b c }; { exact hk0 k a b c }, fun a ha => (va_up_ne _ _ (by omega)).trans (hA0 a ha)⟩, ⟨v1, v2, v3⟩, fun a q ha hq => by rw [va_up_ne _ _ (by omega)], rfl, rfl⟩⟩) (by rw [hmc]; omega) (by rw [hms]; omega)
    · rw [if_neg (show ¬ (1 : Nat) = 0 by decide), ev] at hres
      refine z_iload_n C 175 d_M_lookBehind_174 rfl rfl ?_
      refine z_if_ne C 178 193 d_M_lookBehind_175 rfl (by decide) (fun _ => ?_) (fun h9 => absurd h9 (show ¬ nI 1 = 0 by decide))
      refine z_aload_n C 194 d_M_lookBehind_193 rfl rfl ?_
      refine z_aload_n C 195 d_M_lookBehind_194 rfl rfl ?_
      refine zm_get C 198 f_M_21 d_M_lookBehind_195 rfl hn rfl ?_
      refine z_iload_n C 199 d_M_lookBehind_198 rfl rfl ?_
      refine zm_iald C 200 (1200+i) d_M_lookBehind_199 rfl hn (by decide) (by decide) (by decide) rfl (by show 1200 + i < 1350; omega) (by decide) ?_
      rw [b88, ex]
      refine z_call C 203 (c_M_isOwned hn (nI v0)) w_M_isOwned ini_M d_M_lookBehind_200 rfl (z_goV (As := [.int (nI v0)]) C l_M_168 w_M_isOwned d_M_lookBehind_200 (by omega) rfl rfl rfl) (Nat.le_of_ble_eq_true rfl) (by rw [hR]; simp only [zRm]; omega) (by rw [hR]; simp only [zRm]; omega) (by rw [hR]; simp only [zRm]; omega) (by rw [hR]; simp only [zRm]; omega) (fun v n' σ' hv => ?_) (fun x n' σ' hv => ?_)
      rotate_left
      · cases hv.1
      obtain ⟨e0, e1, rfl⟩ := hv
      cases e0
      obtain rfl : n = n' := e1.symm
      rw [h26]
      by_cases q : lOwn s.2 (nI v0)
      · rw [if_pos q] at hres ⊢
        refine z_if_eq C 206 218 d_M_lookBehind_203 rfl (by decide) (fun h9 => absurd h9 (show ¬ (1 : Int32) = 0 by decide)) (fun _ => ?_)
        refine z_aload_n C 207 d_M_lookBehind_206 rfl rfl ?_
        refine z_aload_n C 208 d_M_lookBehind_207 rfl rfl ?_
        refine zm_get C 211 f_M_24 d_M_lookBehind_208 rfl hn rfl ?_
        refine z_iload_n C 212 d_M_lookBehind_211 rfl rfl ?_
        refine zm_iald C 213 (1200+i) d_M_lookBehind_212 rfl hn (by decide) (by decide) (by decide) rfl (by show 1200 + i < 1350; omega) (by decide) ?_
        rw [b89]
        refine z_iconst C 214 d_M_lookBehind_213 rfl 1 (by decide) ?_
        refine z_iadd C 215 d_M_lookBehind_214 rfl ?_
        refine z_call C 218 (c_M_mistake hn (e.2.1 + 1)) w_M_mistake ini_M d_M_lookBehind_215 rfl (z_goV (As := [.int (e.2.1 + 1)]) C l_M_172 w_M_mistake d_M_lookBehind_215 (by omega) rfl rfl rfl) (Nat.le_of_ble_eq_true rfl) (by rw [hR]; simp only [zRm]; omega) (by rw [hR]; simp only [zRm]; omega) (by rw [hR]; simp only [zRm]; omega) (by rw [hR]; simp only [zRm]; omega) (fun v n' σ' hv => ?_) (fun x n' σ' hv => ?_)
        rotate_left
        · cases hv.1
        obtain ⟨e0, e1, rfl⟩ := hv
        cases e0
        obtain rfl : n = n' := e1.symm
        rw [if_pos mist]
        refine z_aload_n C 219 d_M_lookBehind_218 rfl rfl ?_
        refine zm_get C 222 f_M_67 d_M_lookBehind_219 rfl hn rfl ?_
        refine z_aload_n C 223 d_M_lookBehind_222 rfl rfl ?_
        refine zm_get C 226 f_M_21 d_M_lookBehind_223 rfl hn rfl ?_
        refine z_iload_n C 227 d_M_lookBehind_226 rfl rfl ?_
        refine zm_iald C 228 (1200+i) d_M_lookBehind_227 rfl hn (by decide) (by decide) (by decide) rfl (by show 1200 + i < 1350; omega) (by decide) ?_
        rw [b88, ex]
        refine z_iconst C 229 d_M_lookBehind_228 rfl (-1) (by decide) ?_
        refine zm_iast C 230 v0 d_M_lookBehind_229 rfl hn (by decide) (by decide) (by decide) rfl (by show v0 < 20; omega) (by decide) ?_
        refine z_goto C 275 d_M_lookBehind_230 (by decide) ?_
        exact z_vret C rfl d_M_lookBehind_275 (by rw [hpo]; exact ⟨rfl, rfl, _, _, rfl, by rw [← evp]; exact wrong (eVp e) _ hres.symm (fun a ha => va_up_ne _ _ (by omega))⟩) (by rw [hmc]; omega) (by rw [hms]; omega)
      · rw [if_neg q] at hres ⊢
        refine z_if_eq C 206 218 d_M_lookBehind_203 rfl (by decide) (fun _ => ?_) (fun h9 => absurd (show (0 : Int32) = 0 from rfl) h9)
        refine z_aload_n C 219 d_M_lookBehind_218 rfl rfl ?_
        refine zm_get C 222 f_M_67 d_M_lookBehind_219 rfl hn rfl ?_
        refine z_aload_n C 223 d_M_lookBehind_222 rfl rfl ?_
        refine zm_get C 226 f_M_21 d_M_lookBehind_223 rfl hn rfl ?_
        refine z_iload_n C 227 d_M_lookBehind_226 rfl rfl ?_
        refine zm_iald C 228 (1200+i) d_M_lookBehind_227 rfl hn (by decide) (by decide) (by decide) rfl (by show 1200 + i < 1350; omega) (by decide) ?_
        rw [b88, ex]
        refine z_iconst C 229 d_M_lookBehind_228 rfl (-1) (by decide) ?_
        refine zm_iast C 230 v0 d_M_lookBehind_229 rfl hn (by decide) (by decide) (by decide) rfl (by show v0 < 20; omega) (by decide) ?_
        refine z_goto C 275 d_M_lookBehind_230 (by decide) ?_
        exact z_vret C rfl d_M_lookBehind_275 (by rw [hpo]; exact ⟨rfl, rfl, S, _, rfl, by rw [← hres]; exact ⟨⟨h27, h26, h19, by rw [va_up_self, h103], hk0, fun a ha => (va_up_ne _ _ (by omega)).trans (hA0 a ha)⟩, ⟨v1, v2, v3⟩, fun a q ha hq => by rw [va_up_ne _ _ (by omega)], rfl, rfl⟩⟩) (by rw [hmc]; omega) (by rw [hms]; omega)
  · rw [hK]
    refine z_lookup C 264 d_M_lookBehind_22 (by decide) (off := 242) (by decide) (by decide) ?_
    exact dflt (by omega) (by omega) (by omega) (by omega)
  · rw [hK]
    refine z_lookup C 264 d_M_lookBehind_22 (by decide) (off := 242) (by decide) (by decide) ?_
    exact dflt (by omega) (by omega) (by omega) (by omega)
  · rw [hK]
    refine z_lookup C 264 d_M_lookBehind_22 (by decide) (off := 242) (by decide) (by decide) ?_
    exact dflt (by omega) (by omega) (by omega) (by omega)
  · rw [hK]
    refine z_lookup C 264 d_M_lookBehind_22 (by decide) (off := 242) (by decide) (by decide) ?_
    exact dflt (by omega) (by omega) (by omega) (by omega)
  · rw [hK]
    refine z_lookup C 264 d_M_lookBehind_22 (by decide) (off := 242) (by decide) (by decide) ?_
    exact dflt (by omega) (by omega) (by omega) (by omega)
  · rw [hK]
    refine z_lookup C 264 d_M_lookBehind_22 (by decide) (off := 242) (by decide) (by decide) ?_
    exact dflt (by omega) (by omega) (by omega) (by omega)
  · rw [hK]
    refine z_lookup C 264 d_M_lookBehind_22 (by decide) (off := 242) (by decide) (by decide) ?_
    exact dflt (by omega) (by omega) (by omega) (by omega)
  · rw [hK]
    refine z_lookup C 233 d_M_lookBehind_22 (by decide) (off := 211) (by decide) (by decide) ?_
    rw [if_neg (show ¬ e.1 = 3 by omega), if_neg (show ¬ e.1 = 4 by omega), if_pos hK] at hres
    refine z_goto C 275 d_M_lookBehind_233 (by decide) ?_
    exact z_vret C rfl d_M_lookBehind_275 (by rw [hpo]; exact ⟨rfl, rfl, S, A, rfl, same hres.symm⟩) (by rw [hmc]; omega) (by rw [hms]; omega)
  · rw [hK]
    refine z_lookup C 236 d_M_lookBehind_22 (by decide) (off := 214) (by decide) (by decide) ?_
    rw [if_neg (show ¬ e.1 = 3 by omega), if_neg (show ¬ e.1 = 4 by omega), if_neg (show ¬ e.1 = 12 by omega), if_pos hK, hig] at hres
    obtain ⟨a, Y, rt, hcl⟩ := hok hK
    rw [hig] at hcl
    rw [hcl] at hres
    have ex : A0 88 (1200 + i) = nI g := (t13 hK).trans eg
    have henv' := henv
    obtain ⟨-, hf8, hcls⟩ := henv
    have hx9 : mIx f g < 9 := by unfold mIx; split <;> omega
    have hty : A 96 (4 * mIx f g + k) = Y k := by
      rcases hcls g hg8 with ⟨-, h1, -⟩ | ⟨-, a', cn', Y', rt', h1, h2, h3, h4, h5⟩
      · rw [hcl] at h1; cases h1
      · rw [hcl] at h1; cases h1; rw [hA0 96 (by omega)]; exact h5 k hk
    have CD := c_M_called (G := G) (l := kl K) (L := L) (rn := rn) (σ := σ) (S := S) (A := A) hn henv' (hk0 28 (by decide) (by decide) (by decide)) (fun a ha => hA0 a (Or.inl ha)) hi hg8 ex a90 hc4
    rw [show lCd cl f g e.2.2.2.1 = nI (mIx f g) by unfold lCd; rw [hcl]; exact if_pos rfl] at CD
    refine z_iload C 238 d_M_lookBehind_236 rfl rfl ?_
    refine z_aload_n C 239 d_M_lookBehind_238 rfl rfl ?_
    refine zm_get C 242 f_M_46 d_M_lookBehind_239 rfl hn rfl ?_
    refine z_iconst C 243 d_M_lookBehind_242 rfl 4 (by decide) ?_
    refine z_aload_n C 244 d_M_lookBehind_243 rfl rfl ?_
    refine z_iload_n C 245 d_M_lookBehind_244 rfl rfl ?_
    refine z_call C 248 (CD) w_M_called ini_M d_M_lookBehind_245 rfl (z_goV (As := [.int (nI (1200 + i))]) C l_M_184 w_M_called d_M_lookBehind_245 (by omega) rfl rfl rfl) (Nat.le_of_ble_eq_true rfl) (by rw [hR]; simp only [zRm]; omega) (by rw [hR]; simp only [zRm]; omega) (by rw [hR]; simp only [zRm]; omega) (by rw [hR]; simp only [zRm]; omega) (fun v n' σ' hv => ?_) (fun x n' σ' hv => ?_)
    rotate_left
    · cases hv.1
    obtain ⟨e0, e1, rfl⟩ := hv
    cases e0
    obtain rfl : n = n' := e1.symm
    refine z_imul C 249 d_M_lookBehind_248 rfl ?_
    refine z_iload_n C 250 d_M_lookBehind_249 rfl rfl ?_
    refine z_iadd C 251 d_M_lookBehind_250 rfl ?_
    rw [show (4 : Int32) * nI (mIx f g) + nI k = nI (4 * mIx f g + k) by rw [show (4 : Int32) * nI (mIx f g) = nI (4 * mIx f g) from nI_mul 4 _, nI_add]]
    refine zm_iald C 252 (4 * mIx f g + k) d_M_lookBehind_251 rfl hn (by decide) (by decide) (by decide) rfl (by show 4 * mIx f g + k < 36; omega) (by decide) ?_
    rw [hty]
    have hres : (if t = Y k then .inr (sv, s) else .inl pl) = res := hres
    by_cases q : t = Y k
    · rw [if_pos q] at hres
      refine z_icmp_eq C 255 275 d_M_lookBehind_252 rfl (by decide) (fun _ => ?_) (fun h9 => absurd q h9)
      exact z_vret C rfl d_M_lookBehind_275 (by rw [hpo]; exact ⟨rfl, rfl, S, A, rfl, same hres.symm⟩) (by rw [hmc]; omega) (by rw [hms]; omega)
    · rw [if_neg q] at hres
      refine z_icmp_eq C 255 275 d_M_lookBehind_252 rfl (by decide) (fun h9 => absurd h9 q) (fun _ => ?_)
      refine z_aload_n C 256 d_M_lookBehind_255 rfl rfl ?_
      refine z_iload C 258 d_M_lookBehind_256 rfl rfl ?_
      refine z_call C 261 (c_M_mistake hn pl) w_M_mistake ini_M d_M_lookBehind_258 rfl (z_goV (As := [.int pl]) C l_M_172 w_M_mistake d_M_lookBehind_258 (by omega) rfl rfl rfl) (Nat.le_of_ble_eq_true rfl) (by rw [hR]; simp only [zRm]; omega) (by rw [hR]; simp only [zRm]; omega) (by rw [hR]; simp only [zRm]; omega) (by rw [hR]; simp only [zRm]; omega) (fun v n' σ' hv => ?_) (fun x n' σ' hv => ?_)
      rotate_left
      · cases hv.1
      obtain ⟨e0, e1, rfl⟩ := hv
      cases e0
      obtain rfl : n = n' := e1.symm
      rw [if_pos mist]
      refine z_goto C 275 d_M_lookBehind_261 (by decide) ?_
      exact z_vret C rfl d_M_lookBehind_275 (by rw [hpo]; exact ⟨rfl, rfl, _, A, rfl, wrong pl A hres.symm (fun _ _ => rfl)⟩) (by rw [hmc]; omega) (by rw [hms]; omega)
end MLH
