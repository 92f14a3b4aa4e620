section MRG
variable {G : zG} {K : zK} {n : Nat} {σ : zS} {S0 S : mS} {A0 A : mA} {L : mL} {rn : Int64} {z : Nat} {f : Int32} {lv : List (Nat × Value)} {Ax : mA} {E : Nat → eN} {res : Nat ⊕ rF}
theorem mf_close (C : zC G K y_M_readFunction b_M_readFunction 4 (some .int) []) (hn : 113 ≤ n) (hfr : 7 ≤ (kR K).frames) (hlo : 8 + (6 + 11) + 60 * 6 ≤ (kR K).locals) (ht : fTz z S0 A0) {k p : Nat} {V P Y : mS} (hp : p ≤ z) (l0 : zl lv 0 = some (.ref 85)) (l1 : zl lv 1 = some (.int f)) (h4 : S 4 = nI p) (h5 : S 5 = 0) (h12 : S 12 = 0) (hs : fSk S0 S) (hk : fKp A0 A) (hpr : fPr A k V P Y) (hr : rdB (A0 86) z f Ax E (p, k, V, P, Y) = res)
    (kI : ∀ q, res = .inl q → ∀ S' A' v, fIl S0 A0 q S' A' → kpo K (.returned (some (.int v))) n (mOv S' A' L rn σ)) (kG : ∀ a, res = .inr a → ∀ S' A', fGd S0 A0 a S' A' → kpo K (.returned (some (.int f))) n (mOv S' A' L rn σ)) : Z G K n (mOv S A L rn σ) 0 0 154 lv [] := by
  have hz := ht.2.1
  have hA86 : A 86 = A0 86 := funext fun i => hk 86 i (Or.inl rfl)
  rw [rdB_2] at hr
  have TK := c_M_takes (G := G) (l := kl K) (L := L) (rn := rn) (σ := σ) hn (fTx ht h4 hs hk (by omega)) 41
  rw [mlk_0 hA86 h5, h4, nI_1] at TK
  refine z_aload_n C 155 d_M_readFunction_154 rfl l0 ?_
  refine z_aload_n C 156 d_M_readFunction_155 rfl l0 ?_
  refine z_bipush C 158 d_M_readFunction_156 rfl 41 (by decide) ?_
  refine z_call C 161 TK w_M_takes ini_M d_M_readFunction_158 rfl (z_goV (As := [.int 41]) C l_M_140 w_M_takes d_M_readFunction_158 (by omega) rfl rfl rfl) (Nat.le_of_ble_eq_true rfl) (by omega) (by omega) (by omega) (by omega) (fun v n' σ' hv => ?_) (fun x n' σ' hv => ?_)
  rotate_left
  · cases hv.1
  obtain ⟨e0, e1, rfl⟩ := hv
  obtain rfl : n = n' := e1.symm
  by_cases q1 : rlk (A0 86) z p = 41
  · rw [if_pos q1] at hr e0 ⊢
    cases e0
    refine z_call C 164 (c_M_want hn 1) w_M_want ini_M d_M_readFunction_161 rfl (z_goV (As := [.int 1]) C l_M_122 w_M_want d_M_readFunction_161 (by omega) rfl rfl rfl) (Nat.le_of_ble_eq_true rfl) (by omega) (by omega) (by omega) (by omega) (fun v n' σ' hv => ?_) (fun x n' σ' hv => ?_)
    rotate_left
    · cases hv.1
    obtain ⟨e0, e1, rfl⟩ := hv
    cases e0
    obtain rfl : n = n' := e1.symm
    rw [if_neg (show ¬ (1 : Int32) = 0 by decide)]
    exact mf_body C hn hfr hlo ht (rlk_lt q1 (by decide)) l0 l1 rfl h5 h12 (hs.up (by omega)) hk hpr hr kI kG
  · rw [if_neg q1] at hr e0 ⊢
    cases e0
    refine z_call C 164 (c_M_want hn 0) w_M_want ini_M d_M_readFunction_161 rfl (z_goV (As := [.int 0]) C l_M_122 w_M_want d_M_readFunction_161 (by omega) rfl rfl rfl) (Nat.le_of_ble_eq_true rfl) (by omega) (by omega) (by omega) (by omega) (fun v n' σ' hv => ?_) (fun x n' σ' hv => ?_)
    rotate_left
    · cases hv.1
    obtain ⟨e0, e1, rfl⟩ := hv
    cases e0
    obtain rfl : n = n' := e1.symm
    rw [if_pos (show (0 : Int32) = 0 from rfl)]
    exact mf_164 C hn hfr hlo ht (show p ≤ 150 by omega) l0 l1 ⟨h4, rfl, hs.up (by omega), hk⟩ (kI p hr.symm)
theorem lv_drop3 {τ : zS} {k1 k2 pc : Nat} {st : List Value} {a b c d : Value} (h : Z G K n τ k1 k2 pc [(2, a), (1, c), (0, d)] st) : Z G K n τ k1 k2 pc [(2, a), (3, b), (1, c), (0, d)] st := by
  refine Z.lvs (fun q hq => ?_) h
  simp only [List.mem_cons, List.not_mem_nil, or_false] at hq ⊢
  rcases hq with h | h | h
  · exact Or.inl h
  · exact Or.inr (Or.inr (Or.inl h))
  · exact Or.inr (Or.inr (Or.inr h))
/-- behind a parameter's letters: its count, the comma -/
theorem mf_par (C : zC G K y_M_readFunction b_M_readFunction 4 (some .int) []) (hn : 113 ≤ n) (hfr : 7 ≤ (kR K).frames) (hlo : 8 + (6 + 11) + 60 * 6 ≤ (kR K).locals) (ht : fTz z S0 A0)
    (kI : ∀ q, res = .inl q → ∀ S' A' v, fIl S0 A0 q S' A' → kpo K (.returned (some (.int v))) n (mOv S' A' L rn σ)) (kG : ∀ a, res = .inr a → ∀ S' A', fGd S0 A0 a S' A' → kpo K (.returned (some (.int f))) n (mOv S' A' L rn σ)) :
    ∀ (m k p : Nat) (V P Y : mS) (S : mS) (A : mA), m + k = 3 → p ≤ z → S 4 = nI p → S 5 = 0 → S 12 = 0 → fSk S0 S → fKp A0 A → fPr A k V P Y → rdQ (A0 86) z f Ax E (m + 1) k p V P Y = res → Z G K n (mOv S A L rn σ) 0 0 58 [(2, .int 1), (1, .int f), (0, .ref 85)] [] := fun m => by
  have hz := ht.2.1
  have hA86 : ∀ A', fKp A0 A' → A' 86 = A0 86 := fun A' h => funext fun i => h 86 i (Or.inl rfl)
  induction m using Nat.strongRecOn with
  | _ m ih =>
    intro k p V P Y S A hmk hp h4 h5 h12 hs hk hpr hr
    rw [rdQ_s] at hr
    have hk1 : fKp A0 (va_up A 97 (upd (A 97) (32 + k) (nI p))) := hk.up ⟨by decide, by unfold mKept; omega⟩
    have ill : ∀ (q : Nat) (S' : mS) (A' : mA) (a b : Int32), q ≤ 150 → (res = .inl q) → fIl S0 A0 q S' A' → Z G K n (mOv S' A' L rn σ) 0 0 107 [(3, .int (nI (32 + k))), (2, .int 1), (1, .int f), (0, .ref 85)] [] := fun q S' A' a b hq hrq hil => by
      refine z_aload_n C 108 d_M_readFunction_107 rfl rfl ?_
      refine zm_get C 111 f_M_37 d_M_readFunction_108 rfl hn rfl ?_
      refine z_bipush C 113 d_M_readFunction_111 rfl 8 (by decide) ?_
      refine z_dup2_11 C 114 d_M_readFunction_113 rfl rfl rfl ?_
      refine zm_iald C 115 8 d_M_readFunction_114 rfl hn (by decide) (by decide) (by decide) rfl (by decide) (by decide) ?_
      refine z_iconst C 116 d_M_readFunction_115 rfl 1 (by decide) ?_
      refine z_iadd C 117 d_M_readFunction_116 rfl ?_
      refine zm_iast C 118 8 d_M_readFunction_117 rfl hn (by decide) (by decide) (by decide) rfl (by decide) (by decide) ?_
      refine z_aload_n C 119 d_M_readFunction_118 rfl rfl ?_
      refine zm_get C 122 f_M_104 d_M_readFunction_119 rfl hn rfl ?_
      rw [hil.2.1]
      refine z_if_ne C 125 149 d_M_readFunction_122 rfl (by decide) (fun _ => ?_) (fun h9 => absurd h9 (show ¬ (1 : Int32) = 0 by decide))
      refine z_iconst C 150 d_M_readFunction_149 rfl 0 (by decide) ?_
      refine z_istore_n C 151 d_M_readFunction_150 rfl (by decide) ?_
      refine z_goto C 54 d_M_readFunction_151 (by decide) ?_
      refine z_iload_n C 55 d_M_readFunction_54 rfl rfl ?_
      refine z_if_eq C 58 154 d_M_readFunction_55 rfl (by decide) (fun _ => ?_) (fun h9 => absurd (show (0 : Int32) = 0 from rfl) h9)
      exact mf_154 C hn hfr hlo ht hq rfl rfl ⟨hil.1, hil.2.1, hil.2.2.1, hil.2.2.2.up ⟨by decide, by unfold mKept; omega⟩⟩ (kI q hrq)
    refine z_bipush C 60 d_M_readFunction_58 rfl 32 (by decide) ?_
    refine z_aload_n C 61 d_M_readFunction_60 rfl rfl ?_
    refine zm_get C 64 f_M_37 d_M_readFunction_61 rfl hn rfl ?_
    refine z_bipush C 66 d_M_readFunction_64 rfl 8 (by decide) ?_
    refine zm_iald C 67 8 d_M_readFunction_66 rfl hn (by decide) (by decide) (by decide) rfl (by decide) (by decide) ?_
    rw [hpr.1]
    refine z_iadd C 68 d_M_readFunction_67 rfl ?_
    rw [show (32 : Int32) + nI k = nI (32 + k) from nI_add 32 k]
    refine z_istore_n C 69 d_M_readFunction_68 rfl (by decide) ?_
    refine z_aload_n C 70 d_M_readFunction_69 rfl rfl ?_
    refine zm_get C 73 f_M_49 d_M_readFunction_70 rfl hn rfl ?_
    refine z_iload_n C 74 d_M_readFunction_73 rfl rfl ?_
    refine z_aload_n C 75 d_M_readFunction_74 rfl rfl ?_
    refine zm_get C 78 f_M_108 d_M_readFunction_75 rfl hn rfl ?_
    rw [h4]
    refine zm_iast C 79 (32+k) d_M_readFunction_78 rfl hn (by decide) (by decide) (by decide) rfl (by show 32 + k < 36; omega) (by decide) ?_
    refine z_aload_n C 80 d_M_readFunction_79 rfl rfl ?_
    refine zm_get C 83 f_M_43 d_M_readFunction_80 rfl hn rfl ?_
    refine z_iload_n C 84 d_M_readFunction_83 rfl rfl ?_
    refine z_aload_n C 85 d_M_readFunction_84 rfl rfl ?_
    refine z_bipush C 87 d_M_readFunction_85 rfl 97 (by decide) ?_
    refine z_bipush C 89 d_M_readFunction_87 rfl 116 (by decide) ?_
    have LT := c_M_letter (G := G) (l := kl K) (L := L) (rn := rn) (σ := σ) hn (fTx ht h4 hs hk1 (by omega)) 97 116 (by decide)
    rw [mlk_0 (hA86 _ hk1) h5] at LT
    refine z_call C 92 LT w_M_letter ini_M d_M_readFunction_89 rfl (z_goV (As := [.int 97, .int 116]) C l_M_132 w_M_letter d_M_readFunction_89 (by omega) rfl rfl rfl) (Nat.le_of_ble_eq_true rfl) (by omega) (by omega) (by omega) (by omega) (fun v n' σ' hv => ?_) (fun x n' σ' hv => ?_)
    rotate_left
    · rcases hv with ⟨-, ⟨-, e0, -⟩ | ⟨-, e0, -⟩⟩ <;> cases e0
    obtain ⟨e1, hv⟩ := hv
    obtain rfl : n = n' := e1.symm
    by_cases q1 : 97 ≤ rlk (A0 86) z p ∧ rlk (A0 86) z p ≤ 116
    rotate_left
    · rw [if_neg q1] at hr
      obtain ⟨-, e0, rfl⟩ := hv.resolve_left (fun w => q1 w.1)
      cases e0
      refine zm_iast C 93 (32+k) d_M_readFunction_92 rfl hn (by decide) (by decide) (by decide) rfl (by show 32 + k < 36; omega) (by decide) ?_
      refine z_aload_n C 94 d_M_readFunction_93 rfl rfl ?_
      refine zm_get C 97 f_M_46 d_M_readFunction_94 rfl hn rfl ?_
      refine z_iload_n C 98 d_M_readFunction_97 rfl rfl ?_
      refine z_aload_n C 99 d_M_readFunction_98 rfl rfl ?_
      refine z_bipush C 101 d_M_readFunction_99 rfl 48 (by decide) ?_
      refine z_bipush C 103 d_M_readFunction_101 rfl 50 (by decide) ?_
      have hk2 : fKp A0 (va_up (va_up A 97 (upd (A 97) (32 + k) (nI p))) 95 (upd (va_up A 97 (upd (A 97) (32 + k) (nI p)) 95) (32 + k) 0)) := hk1.up ⟨by decide, by unfold mKept; omega⟩
      have LT2 := c_M_letter (G := G) (l := kl K) (L := L) (rn := rn) (σ := σ) (S := upd S 5 1) hn (fTx (p := p) ht h4 (hs.up (by omega)) hk2 (by omega)) 48 50 (by decide)
      rw [mlk_1 (show (upd S 5 1) 5 = 1 from rfl)] at LT2
      refine z_call C 106 LT2 w_M_letter ini_M d_M_readFunction_103 rfl (z_goV (As := [.int 48, .int 50]) C l_M_132 w_M_letter d_M_readFunction_103 (by omega) rfl rfl rfl) (Nat.le_of_ble_eq_true rfl) (by omega) (by omega) (by omega) (by omega) (fun v n' σ' hv => ?_) (fun x n' σ' hv => ?_)
      rotate_left
      · rcases hv with ⟨-, ⟨-, e0, -⟩ | ⟨-, e0, -⟩⟩ <;> cases e0
      obtain ⟨e1, hv⟩ := hv
      obtain rfl : n = n' := e1.symm
      obtain ⟨-, e0, rfl⟩ := hv.resolve_left (fun w => absurd w.1 (by decide))
      cases e0
      refine zm_iast C 107 (32+k) d_M_readFunction_106 rfl hn (by decide) (by decide) (by decide) rfl (by show 32 + k < 36; omega) (by decide) ?_
      exact ill p _ _ 0 0 (by omega) hr.symm ⟨h4, rfl, (hs.up (by omega)).up (by omega), hk2.up ⟨by decide, by unfold mKept; omega⟩⟩
    rw [if_pos q1] at hr
    have hp1 : p < z := rlk_pos q1.1 (by decide)
    obtain ⟨-, e0, rfl⟩ := hv.resolve_right (fun w => w.1 q1)
    cases e0
    refine zm_iast C 93 (32+k) d_M_readFunction_92 rfl hn (by decide) (by decide) (by decide) rfl (by show 32 + k < 36; omega) (by decide) ?_
    refine z_aload_n C 94 d_M_readFunction_93 rfl rfl ?_
    refine zm_get C 97 f_M_46 d_M_readFunction_94 rfl hn rfl ?_
    refine z_iload_n C 98 d_M_readFunction_97 rfl rfl ?_
    refine z_aload_n C 99 d_M_readFunction_98 rfl rfl ?_
    refine z_bipush C 101 d_M_readFunction_99 rfl 48 (by decide) ?_
    refine z_bipush C 103 d_M_readFunction_101 rfl 50 (by decide) ?_
    have hk2 : fKp A0 (va_up (va_up A 97 (upd (A 97) (32 + k) (nI p))) 95 (upd (va_up A 97 (upd (A 97) (32 + k) (nI p)) 95) (32 + k) (rlk (A0 86) z p - 97))) := hk1.up ⟨by decide, by unfold mKept; omega⟩
    have LT2 := c_M_letter (G := G) (l := kl K) (L := L) (rn := rn) (σ := σ) (S := upd S 4 (nI (p + 1))) hn (fTx (p := p + 1) ht rfl (hs.up (by omega)) hk2 (by omega)) 48 50 (by decide)
    rw [mlk_0 (hA86 _ hk2) (show (upd S 4 (nI (p + 1))) 5 = 0 from h5)] at LT2
    refine z_call C 106 LT2 w_M_letter ini_M d_M_readFunction_103 rfl (z_goV (As := [.int 48, .int 50]) C l_M_132 w_M_letter d_M_readFunction_103 (by omega) rfl rfl rfl) (Nat.le_of_ble_eq_true rfl) (by omega) (by omega) (by omega) (by omega) (fun v n' σ' hv => ?_) (fun x n' σ' hv => ?_)
    rotate_left
    · rcases hv with ⟨-, ⟨-, e0, -⟩ | ⟨-, e0, -⟩⟩ <;> cases e0
    obtain ⟨e1, hv⟩ := hv
    obtain rfl : n = n' := e1.symm
    by_cases q2 : 48 ≤ rlk (A0 86) z (p + 1) ∧ rlk (A0 86) z (p + 1) ≤ 50
    rotate_left
    · rw [if_neg q2] at hr
      obtain ⟨-, e0, rfl⟩ := hv.resolve_left (fun w => q2 w.1)
      cases e0
      refine zm_iast C 107 (32+k) d_M_readFunction_106 rfl hn (by decide) (by decide) (by decide) rfl (by show 32 + k < 36; omega) (by decide) ?_
      exact ill (p + 1) _ _ 0 0 (by omega) hr.symm ⟨rfl, rfl, (hs.up (by omega)).up (by omega), hk2.up ⟨by decide, by unfold mKept; omega⟩⟩
    rw [if_pos q2] at hr
    have hp2 : p + 1 < z := rlk_pos q2.1 (by decide)
    obtain ⟨-, e0, rfl⟩ := hv.resolve_right (fun w => w.1 q2)
    cases e0
    refine zm_iast C 107 (32+k) d_M_readFunction_106 rfl hn (by decide) (by decide) (by decide) rfl (by show 32 + k < 36; omega) (by decide) ?_
    refine z_aload_n C 108 d_M_readFunction_107 rfl rfl ?_
    refine zm_get C 111 f_M_37 d_M_readFunction_108 rfl hn rfl ?_
    refine z_bipush C 113 d_M_readFunction_111 rfl 8 (by decide) ?_
    refine z_dup2_11 C 114 d_M_readFunction_113 rfl rfl rfl ?_
    refine zm_iald C 115 8 d_M_readFunction_114 rfl hn (by decide) (by decide) (by decide) rfl (by decide) (by decide) ?_
    rw [show ∀ x y w, (va_up (va_up (va_up A 97 x) 95 y) 96 w) 93 8 = nI k from fun _ _ _ => hpr.1]
    refine z_iconst C 116 d_M_readFunction_115 rfl 1 (by decide) ?_
    refine z_iadd C 117 d_M_readFunction_116 rfl ?_
    rw [nI_1]
    refine zm_iast C 118 8 d_M_readFunction_117 rfl hn (by decide) (by decide) (by decide) rfl (by decide) (by decide) ?_
    generalize hA4 : va_up (va_up (va_up (va_up A 97 (upd (A 97) (32 + k) (nI p))) 95 (upd (va_up A 97 (upd (A 97) (32 + k) (nI p)) 95) (32 + k) (rlk (A0 86) z p - 97))) 96 (upd (va_up (va_up A 97 (upd (A 97) (32 + k) (nI p))) 95 (upd (va_up A 97 (upd (A 97) (32 + k) (nI p)) 95) (32 + k) (rlk (A0 86) z p - 97)) 96) (32 + k) (rlk (A0 86) z (p + 1) - 48))) 93 (upd (va_up (va_up (va_up A 97 (upd (A 97) (32 + k) (nI p))) 95 (upd (va_up A 97 (upd (A 97) (32 + k) (nI p)) 95) (32 + k) (rlk (A0 86) z p - 97))) 96 (upd (va_up (va_up A 97 (upd (A 97) (32 + k) (nI p))) 95 (upd (va_up A 97 (upd (A 97) (32 + k) (nI p)) 95) (32 + k) (rlk (A0 86) z p - 97)) 96) (32 + k) (rlk (A0 86) z (p + 1) - 48)) 93) 8 (nI (k + 1))) = A4
    have hk4 : fKp A0 A4 := by rw [← hA4]; exact (hk2.up ⟨by decide, by unfold mKept; omega⟩).up ⟨by decide, by unfold mKept; omega⟩
    have hpr4 : fPr A4 (k + 1) (upd V k (rlk (A0 86) z p - 97)) (upd P k (nI p)) (upd Y k (rlk (A0 86) z (p + 1) - 48)) := by
      rw [← hA4]
      refine ⟨rfl, fun j hj => ?_⟩
      show upd (A 95) (32 + k) _ (32 + j) = _ ∧ upd (A 97) (32 + k) _ (32 + j) = _ ∧ upd (A 96) (32 + k) _ (32 + j) = _
      by_cases q3 : j = k
      · subst q3
        rw [upd_self, upd_self, upd_self, upd_self, upd_self, upd_self]
        exact ⟨rfl, rfl, rfl⟩
      · have hj2 := hpr.2 j (by omega)
        exact ⟨(upd_ne (by omega)).trans (hj2.1.trans (upd_ne q3).symm), (upd_ne (by omega)).trans (hj2.2.1.trans (upd_ne q3).symm), (upd_ne (by omega)).trans (hj2.2.2.trans (upd_ne q3).symm)⟩
    have hs4 : fSk S0 (upd (upd S 4 (nI (p + 1))) 4 (nI (p + 1 + 1))) := (hs.up (by omega)).up (by omega)
    have no : rdB (A0 86) z f Ax E (p + 2, k + 1, upd V k (rlk (A0 86) z p - 97), upd P k (nI p), upd Y k (rlk (A0 86) z (p + 1) - 48)) = res → Z G K n (mOv (upd (upd S 4 (nI (p + 1))) 4 (nI (p + 1 + 1))) A4 L rn σ) 0 0 149 [(3, .int (nI (32 + k))), (2, .int 1), (1, .int f), (0, .ref 85)] [] := fun hB => by
      refine z_iconst C 150 d_M_readFunction_149 rfl 0 (by decide) ?_
      refine z_istore_n C 151 d_M_readFunction_150 rfl (by decide) ?_
      refine z_goto C 54 d_M_readFunction_151 (by decide) ?_
      refine z_iload_n C 55 d_M_readFunction_54 rfl rfl ?_
      refine z_if_eq C 58 154 d_M_readFunction_55 rfl (by decide) (fun _ => ?_) (fun h9 => absurd (show (0 : Int32) = 0 from rfl) h9)
      exact mf_close (p := p + 2) C hn hfr hlo ht hp2 rfl rfl rfl h5 h12 hs4 hk4 hpr4 hB kI kG
    refine z_aload_n C 119 d_M_readFunction_118 rfl rfl ?_
    refine zm_get C 122 f_M_104 d_M_readFunction_119 rfl hn rfl ?_
    refine z_if_ne C 125 149 d_M_readFunction_122 rfl (by decide) (fun h9 => absurd (show S 5 = 0 from h5) h9) (fun _ => ?_)
    refine z_aload_n C 126 d_M_readFunction_125 rfl rfl ?_
    refine zm_get C 129 f_M_37 d_M_readFunction_126 rfl hn rfl ?_
    refine z_bipush C 131 d_M_readFunction_129 rfl 8 (by decide) ?_
    refine zm_iald C 132 8 d_M_readFunction_131 rfl hn (by decide) (by decide) (by decide) rfl (by decide) (by decide) ?_
    rw [hpr4.1]
    refine z_iconst C 133 d_M_readFunction_132 rfl 4 (by decide) ?_
    by_cases hk3 : k = 3
    · rw [if_neg (fun w => absurd w.1 (by omega))] at hr
      refine z_icmp_ge C 136 149 d_M_readFunction_133 rfl (by decide) (fun _ => ?_) (fun h9 => absurd ((nI_leI (a := 4) (by omega) (by omega)).mpr (by omega)) h9)
      exact no hr
    · refine z_icmp_ge C 136 149 d_M_readFunction_133 rfl (by decide) (fun h9 => absurd h9 (fun w => absurd ((nI_leI (a := 4) (by omega) (by omega)).mp w) (by omega))) (fun _ => ?_)
      refine z_aload_n C 137 d_M_readFunction_136 rfl rfl ?_
      refine z_bipush C 139 d_M_readFunction_137 rfl 44 (by decide) ?_
      have TK := c_M_takes (G := G) (l := kl K) (L := L) (rn := rn) (σ := σ) hn (fTx (p := p + 2) ht (S := upd (upd S 4 (nI (p + 1))) 4 (nI (p + 1 + 1))) rfl hs4 hk4 (by omega)) 44
      rw [mlk_0 (hA86 _ hk4) (show (upd (upd S 4 (nI (p + 1))) 4 (nI (p + 1 + 1))) 5 = 0 from h5), show (upd (upd S 4 (nI (p + 1))) 4 (nI (p + 1 + 1))) 4 + 1 = nI (p + 3) from nI_1 _] at TK
      refine z_call C 142 TK w_M_takes ini_M d_M_readFunction_139 rfl (z_goV (As := [.int 44]) C l_M_140 w_M_takes d_M_readFunction_139 (by omega) rfl rfl rfl) (Nat.le_of_ble_eq_true rfl) (by omega) (by omega) (by omega) (by omega) (fun v n' σ' hv => ?_) (fun x n' σ' hv => ?_)
      rotate_left
      · cases hv.1
      obtain ⟨e0, e1, rfl⟩ := hv
      obtain rfl : n = n' := e1.symm
      by_cases q3 : rlk (A0 86) z (p + 2) = 44
      · rw [if_pos ⟨by omega, q3⟩] at hr
        rw [if_pos q3] at e0 ⊢
        cases e0
        obtain ⟨m', rfl⟩ : ∃ m', m = m' + 1 := ⟨m - 1, by omega⟩
        refine z_if_eq C 145 149 d_M_readFunction_142 rfl (by decide) (fun h9 => absurd h9 (show ¬ (1 : Int32) = 0 by decide)) (fun _ => ?_)
        refine z_iconst C 146 d_M_readFunction_145 rfl 1 (by decide) ?_
        refine z_goto C 150 d_M_readFunction_146 (by decide) ?_
        refine z_istore_n C 151 d_M_readFunction_150 rfl (by decide) ?_
        refine z_goto C 54 d_M_readFunction_151 (by decide) ?_
        refine z_iload_n C 55 d_M_readFunction_54 rfl rfl ?_
        refine z_if_eq C 58 154 d_M_readFunction_55 rfl (by decide) (fun h9 => absurd h9 (show ¬ (1 : Int32) = 0 by decide)) (fun _ => ?_)
        refine lv_drop3 ?_
        exact ih m' (by omega) (k + 1) (p + 3) _ _ _ _ A4 (by omega) (rlk_lt q3 (by decide)) rfl h5 h12 (hs4.up (by omega)) hk4 hpr4 hr
      · rw [if_neg (fun w => q3 w.2)] at hr
        rw [if_neg q3] at e0 ⊢
        cases e0
        refine z_if_eq C 145 149 d_M_readFunction_142 rfl (by decide) (fun _ => ?_) (fun h9 => absurd (show (0 : Int32) = 0 from rfl) h9)
        exact no hr
theorem rdB_1 {T : Nat → Int32} {A : mA} {a : rF} {q : Nat × Nat × mS × mS × mS} (h : rdB T z f A E q = .inr a) : a.1 = f := by
  unfold rdB at h
  by_cases h1 : rlk T z q.1 = 41
  · rw [if_pos h1] at h
    by_cases h2 : 48 ≤ rlk T z (q.1 + 1) ∧ rlk T z (q.1 + 1) ≤ 50
    · rw [if_pos h2] at h
      by_cases h3 : rlk T z (q.1 + 2) = 61
      · rw [if_pos h3] at h
        cases hr : rdE T z 8 (q.1 + 3, 0, A, E) with
        | inl x => rw [hr] at h; cases h
        | inr s =>
          rw [hr] at h
          dsimp only at h
          by_cases h4 : s.1 = z
          · rw [if_pos h4] at h
            cases h
            rfl
          · rw [if_neg h4] at h
            cases h
      · rw [if_neg h3] at h
        cases h
    · rw [if_neg h2] at h
      cases h
  · rw [if_neg h1] at h
    cases h
theorem rdF_1 {T : Nat → Int32} {A : mA} {V P Y : mS} {a : rF} (h : rdF T z A E V P Y = .inr a) : a.1 = rlk T z 0 - 65 := by
  unfold rdF at h
  by_cases h1 : 65 ≤ rlk T z 0 ∧ rlk T z 0 ≤ 72
  · rw [if_pos h1] at h
    by_cases h2 : rlk T z 1 = 40
    · rw [if_pos h2] at h
      by_cases h3 : rlk T z 2 = 41
      · rw [if_pos h3] at h
        exact rdB_1 h
      · rw [if_neg h3] at h
        cases hr : rdP T z 4 0 2 V P Y with
        | inl x => rw [hr] at h; cases h
        | inr q => rw [hr] at h; exact rdB_1 h
    · rw [if_neg h2] at h
      cases h
  · rw [if_neg h1] at h
    cases h
theorem c_M_readFunction {l : Launch} (hn : 113 ≤ n) (h4 : S 4 = 0) (h5 : S 5 = 0) (ht : fTz z S A) : MetZ G l y_M_readFunction b_M_readFunction 4 (some .int) [] 7 0 0 [.ref 85] n (mOv S A L rn σ) (fun o n' σ' => n' = n ∧ ∃ S' A', σ' = mOv S' A' L rn σ ∧ match rdF (A 86) z Ax E (fun _ => 0) (fun _ => 0) (fun _ => 0) with
    | .inl q => (∃ v, o = .returned (some (.int v))) ∧ fIl S A q S' A'
    | .inr a => o = .returned (some (.int a.1)) ∧ fGd S A a S' A') := by
  obtain ⟨res, hres⟩ : ∃ x, rdF (A 86) z Ax E (fun _ => 0) (fun _ => 0) (fun _ => 0) = x := ⟨_, rfl⟩
  rw [hres]
  have hz := ht.2.1
  have hs : fSk S S := fun _ _ _ _ _ => rfl
  have hk0 : fKp A A := fun _ _ _ => rfl
  have hf1 : ∀ a, res = .inr a → a.1 = rlk (A 86) z 0 - 65 := fun a ha => rdF_1 (hres.trans ha)
  have hk : fKp A (va_up A 93 (upd (A 93) 8 0)) := hk0.up ⟨by decide, by unfold mKept; omega⟩
  have hs1 : fSk S (upd S 12 0) := hs.up (by omega)
  have hA86 : (va_up A 93 (upd (A 93) 8 0)) 86 = A 86 := rfl
  refine MetZ.of (by decide) (Nat.le_of_ble_eq_true rfl) (fun K hK hR hpo hmc hms C => ?_)
  have hfr : 7 ≤ (kR K).frames := by rw [hR]; exact Nat.le_refl _
  have hlo : 8 + (6 + 11) + 60 * 6 ≤ (kR K).locals := by rw [hR]; decide
  have kI : ∀ q, res = .inl q → ∀ S' A' v, fIl S A q S' A' → kpo K (.returned (some (.int v))) n (mOv S' A' L rn σ) := fun q hq S' A' v hil => by
    rw [hpo, hq]
    exact ⟨rfl, S', A', rfl, ⟨v, rfl⟩, hil⟩
  have kG : ∀ a, res = .inr a → ∀ S' A', fGd S A a S' A' → kpo K (.returned (some (.int (rlk (A 86) z 0 - 65)))) n (mOv S' A' L rn σ) := fun a ha S' A' hg => by
    rw [hpo, ha]
    exact ⟨rfl, S', A', rfl, by rw [hf1 a ha], hg⟩
  unfold rdF at hres
  refine z_aload_n C 1 d_M_readFunction_0 rfl rfl ?_
  refine z_iconst C 2 d_M_readFunction_1 rfl 0 (by decide) ?_
  refine zm_puti C 5 p_M_126 d_M_readFunction_2 rfl hn (by decide) (rfl) rfl rfl ?_
  refine z_aload_n C 6 d_M_readFunction_5 rfl rfl ?_
  refine zm_get C 9 f_M_37 d_M_readFunction_6 rfl hn rfl ?_
  refine z_bipush C 11 d_M_readFunction_9 rfl 8 (by decide) ?_
  refine z_iconst C 12 d_M_readFunction_11 rfl 0 (by decide) ?_
  refine zm_iast C 13 8 d_M_readFunction_12 rfl hn (by decide) (by decide) (by decide) rfl (by decide) (by decide) ?_
  refine z_aload_n C 14 d_M_readFunction_13 rfl rfl ?_
  refine z_bipush C 16 d_M_readFunction_14 rfl 65 (by decide) ?_
  refine z_bipush C 18 d_M_readFunction_16 rfl 72 (by decide) ?_
  have LT := c_M_letter (G := G) (l := kl K) (L := L) (rn := rn) (σ := σ) (S := upd S 12 0) hn (fTx (p := 0) ht h4 hs1 hk (by omega)) 65 72 (by decide)
  rw [mlk_0 hA86 (show (upd S 12 0) 5 = 0 from h5)] at LT
  refine z_call C 21 LT w_M_letter ini_M d_M_readFunction_18 rfl (z_goV (As := [.int 65, .int 72]) C l_M_132 w_M_letter d_M_readFunction_18 (by omega) rfl rfl rfl) (Nat.le_of_ble_eq_true rfl) (by omega) (by omega) (by omega) (by omega) (fun v n' σ' hv => ?_) (fun x n' σ' hv => ?_)
  rotate_left
  · rcases hv with ⟨-, ⟨-, e0, -⟩ | ⟨-, e0, -⟩⟩ <;> cases e0
  obtain ⟨e1, hv⟩ := hv
  obtain rfl : n = n' := e1.symm
  have ill : ∀ (q : Nat) (S' : mS) (v : Int32), q ≤ 150 → res = .inl q → fIl S A q S' (va_up A 93 (upd (A 93) 8 0)) → Z G K n (mOv S' (va_up A 93 (upd (A 93) 8 0)) L rn σ) 0 0 32 [(1, .int v), (0, .ref 85)] [] := fun q S' v hq hrq hil => by
    have TK := c_M_takes (G := G) (l := kl K) (L := L) (rn := rn) (σ := σ) hn (fTx ht hil.1 hil.2.2.1 hil.2.2.2 hq) 41
    rw [mlk_1 hil.2.1, if_neg (show ¬ (0 : Int32) = 41 by decide), if_neg (show ¬ (0 : Int32) = 41 by decide)] at TK
    refine z_aload_n C 33 d_M_readFunction_32 rfl rfl ?_
    refine z_bipush C 35 d_M_readFunction_33 rfl 41 (by decide) ?_
    refine z_call C 38 TK w_M_takes ini_M d_M_readFunction_35 rfl (z_goV (As := [.int 41]) C l_M_140 w_M_takes d_M_readFunction_35 (by omega) rfl rfl rfl) (Nat.le_of_ble_eq_true rfl) (by omega) (by omega) (by omega) (by omega) (fun v n' σ' hv => ?_) (fun x n' σ' hv => ?_)
    rotate_left
    · cases hv.1
    obtain ⟨e0, e1, rfl⟩ := hv
    cases e0
    obtain rfl : n = n' := e1.symm
    refine z_if_ne C 41 164 d_M_readFunction_38 rfl (by decide) (fun h9 => absurd (show (0 : Int32) = 0 from rfl) h9) (fun _ => ?_)
    refine z_aload_n C 42 d_M_readFunction_41 rfl rfl ?_
    refine zm_get C 45 f_M_104 d_M_readFunction_42 rfl hn rfl ?_
    rw [hil.2.1]
    refine z_if_ne C 48 52 d_M_readFunction_45 rfl (by decide) (fun _ => ?_) (fun h9 => absurd h9 (show ¬ (1 : Int32) = 0 by decide))
    refine z_iconst C 53 d_M_readFunction_52 rfl 0 (by decide) ?_
    refine z_istore_n C 54 d_M_readFunction_53 rfl (by decide) ?_
    refine z_iload_n C 55 d_M_readFunction_54 rfl rfl ?_
    refine z_if_eq C 58 154 d_M_readFunction_55 rfl (by decide) (fun _ => ?_) (fun h9 => absurd (show (0 : Int32) = 0 from rfl) h9)
    exact mf_154 C hn hfr hlo ht hq rfl rfl hil (kI q hrq)
  by_cases q1 : 65 ≤ rlk (A 86) z 0 ∧ rlk (A 86) z 0 ≤ 72
  rotate_left
  · rw [if_neg q1] at hres
    obtain ⟨-, e0, rfl⟩ := hv.resolve_left (fun w => q1 w.1)
    cases e0
    refine z_istore_n C 22 d_M_readFunction_21 rfl (by decide) ?_
    refine z_aload_n C 23 d_M_readFunction_22 rfl rfl ?_
    refine z_aload_n C 24 d_M_readFunction_23 rfl rfl ?_
    refine z_bipush C 26 d_M_readFunction_24 rfl 40 (by decide) ?_
    have TK := c_M_takes (G := G) (l := kl K) (L := L) (rn := rn) (σ := σ) (S := upd (upd S 12 0) 5 1) hn (fTx (p := 0) ht h4 (hs1.up (by omega)) hk (by omega)) 40
    rw [mlk_1 (show (upd (upd S 12 0) 5 1) 5 = 1 from rfl), if_neg (show ¬ (0 : Int32) = 40 by decide), if_neg (show ¬ (0 : Int32) = 40 by decide)] at TK
    refine z_call C 29 TK w_M_takes ini_M d_M_readFunction_26 rfl (z_goV (As := [.int 40]) C l_M_140 w_M_takes d_M_readFunction_26 (by omega) rfl rfl rfl) (Nat.le_of_ble_eq_true rfl) (by omega) (by omega) (by omega) (by omega) (fun v n' σ' hv => ?_) (fun x n' σ' hv => ?_)
    rotate_left
    · cases hv.1
    obtain ⟨e0, e1, rfl⟩ := hv
    cases e0
    obtain rfl : n = n' := e1.symm
    refine z_call C 32 (c_M_want hn 0) w_M_want ini_M d_M_readFunction_29 rfl (z_goV (As := [.int 0]) C l_M_122 w_M_want d_M_readFunction_29 (by omega) rfl rfl rfl) (Nat.le_of_ble_eq_true rfl) (by omega) (by omega) (by omega) (by omega) (fun v n' σ' hv => ?_) (fun x n' σ' hv => ?_)
    rotate_left
    · cases hv.1
    obtain ⟨e0, e1, rfl⟩ := hv
    cases e0
    obtain rfl : n = n' := e1.symm
    rw [if_pos (show (0 : Int32) = 0 from rfl)]
    exact ill 0 _ 0 (by omega) hres.symm ⟨h4, rfl, (hs1.up (by omega)).up (by omega), hk⟩
  rw [if_pos q1] at hres
  have hz0 : 0 < z := rlk_pos q1.1 (by decide)
  obtain ⟨-, e0, rfl⟩ := hv.resolve_right (fun w => w.1 q1)
  cases e0
  refine z_istore_n C 22 d_M_readFunction_21 rfl (by decide) ?_
  refine z_aload_n C 23 d_M_readFunction_22 rfl rfl ?_
  refine z_aload_n C 24 d_M_readFunction_23 rfl rfl ?_
  refine z_bipush C 26 d_M_readFunction_24 rfl 40 (by decide) ?_
  have TK := c_M_takes (G := G) (l := kl K) (L := L) (rn := rn) (σ := σ) (S := upd (upd S 12 0) 4 (nI (0 + 1))) hn (fTx (p := 1) ht rfl (hs1.up (by omega)) hk (by omega)) 40
  rw [mlk_0 hA86 (show (upd (upd S 12 0) 4 (nI (0 + 1))) 5 = 0 from h5)] at TK
  refine z_call C 29 TK w_M_takes ini_M d_M_readFunction_26 rfl (z_goV (As := [.int 40]) C l_M_140 w_M_takes d_M_readFunction_26 (by omega) rfl rfl rfl) (Nat.le_of_ble_eq_true rfl) (by omega) (by omega) (by omega) (by omega) (fun v n' σ' hv => ?_) (fun x n' σ' hv => ?_)
  rotate_left
  · cases hv.1
  obtain ⟨e0, e1, rfl⟩ := hv
  obtain rfl : n = n' := e1.symm
  by_cases q2 : rlk (A 86) z 1 = 40
  rotate_left
  · rw [if_neg q2] at hres e0 ⊢
    cases e0
    refine z_call C 32 (c_M_want hn 0) w_M_want ini_M d_M_readFunction_29 rfl (z_goV (As := [.int 0]) C l_M_122 w_M_want d_M_readFunction_29 (by omega) rfl rfl rfl) (Nat.le_of_ble_eq_true rfl) (by omega) (by omega) (by omega) (by omega) (fun v n' σ' hv => ?_) (fun x n' σ' hv => ?_)
    rotate_left
    · cases hv.1
    obtain ⟨e0, e1, rfl⟩ := hv
    cases e0
    obtain rfl : n = n' := e1.symm
    rw [if_pos (show (0 : Int32) = 0 from rfl)]
    exact ill 1 _ _ (by omega) hres.symm ⟨rfl, rfl, (hs1.up (by omega)).up (by omega), hk⟩
  rw [if_pos q2] at hres e0 ⊢
  cases e0
  have hz1 : 1 < z := rlk_lt q2 (by decide)
  have hs2 : fSk S (upd (upd (upd S 12 0) 4 (nI (0 + 1))) 4 (nI 2)) := (hs1.up (by omega)).up (by omega)
  rw [show (upd (upd S 12 0) 4 (nI (0 + 1))) 4 + 1 = nI 2 from nI_1 _]
  refine z_call C 32 (c_M_want hn 1) w_M_want ini_M d_M_readFunction_29 rfl (z_goV (As := [.int 1]) C l_M_122 w_M_want d_M_readFunction_29 (by omega) rfl rfl rfl) (Nat.le_of_ble_eq_true rfl) (by omega) (by omega) (by omega) (by omega) (fun v n' σ' hv => ?_) (fun x n' σ' hv => ?_)
  rotate_left
  · cases hv.1
  obtain ⟨e0, e1, rfl⟩ := hv
  cases e0
  obtain rfl : n = n' := e1.symm
  rw [if_neg (show ¬ (1 : Int32) = 0 by decide)]
  refine z_aload_n C 33 d_M_readFunction_32 rfl rfl ?_
  refine z_bipush C 35 d_M_readFunction_33 rfl 41 (by decide) ?_
  have TK2 := c_M_takes (G := G) (l := kl K) (L := L) (rn := rn) (σ := σ) (S := upd (upd (upd S 12 0) 4 (nI (0 + 1))) 4 (nI 2)) hn (fTx (p := 2) ht rfl hs2 hk (by omega)) 41
  rw [mlk_0 hA86 (show (upd (upd (upd S 12 0) 4 (nI (0 + 1))) 4 (nI 2)) 5 = 0 from h5)] at TK2
  refine z_call C 38 TK2 w_M_takes ini_M d_M_readFunction_35 rfl (z_goV (As := [.int 41]) C l_M_140 w_M_takes d_M_readFunction_35 (by omega) rfl rfl rfl) (Nat.le_of_ble_eq_true rfl) (by omega) (by omega) (by omega) (by omega) (fun v n' σ' hv => ?_) (fun x n' σ' hv => ?_)
  rotate_left
  · cases hv.1
  obtain ⟨e0, e1, rfl⟩ := hv
  obtain rfl : n = n' := e1.symm
  have hpr0 : ∀ V P Y : mS, fPr (va_up A 93 (upd (A 93) 8 0)) 0 V P Y := fun V P Y => ⟨rfl, fun j hj => absurd hj (by omega)⟩
  by_cases q3 : rlk (A 86) z 2 = 41
  · rw [if_pos q3] at hres e0 ⊢
    cases e0
    rw [rdB_2, if_pos q3] at hres
    rw [show (upd (upd (upd S 12 0) 4 (nI (0 + 1))) 4 (nI 2)) 4 + 1 = nI 3 from nI_1 _]
    refine z_if_ne C 41 164 d_M_readFunction_38 rfl (by decide) (fun _ => ?_) (fun h9 => absurd h9 (show ¬ (1 : Int32) = 0 by decide))
    exact mf_body C hn hfr hlo ht (p := 3) (rlk_lt q3 (by decide)) rfl rfl rfl h5 rfl (hs2.up (by omega)) hk (hpr0 _ _ _) hres kI kG
  · rw [if_neg q3] at hres e0 ⊢
    cases e0
    refine z_if_ne C 41 164 d_M_readFunction_38 rfl (by decide) (fun h9 => absurd (show (0 : Int32) = 0 from rfl) h9) (fun _ => ?_)
    refine z_aload_n C 42 d_M_readFunction_41 rfl rfl ?_
    refine zm_get C 45 f_M_104 d_M_readFunction_42 rfl hn rfl ?_
    refine z_if_ne C 48 52 d_M_readFunction_45 rfl (by decide) (fun h9 => absurd (show S 5 = 0 from h5) h9) (fun _ => ?_)
    refine z_iconst C 49 d_M_readFunction_48 rfl 1 (by decide) ?_
    refine z_goto C 53 d_M_readFunction_49 (by decide) ?_
    refine z_istore_n C 54 d_M_readFunction_53 rfl (by decide) ?_
    refine z_iload_n C 55 d_M_readFunction_54 rfl rfl ?_
    refine z_if_eq C 58 154 d_M_readFunction_55 rfl (by decide) (fun h9 => absurd h9 (show ¬ (1 : Int32) = 0 by decide)) (fun _ => ?_)
    exact mf_par C hn hfr hlo ht kI kG 3 0 2 _ _ _ _ _ (by omega) (by omega) rfl h5 rfl hs2 hk (hpr0 _ _ _) hres
end MRG
