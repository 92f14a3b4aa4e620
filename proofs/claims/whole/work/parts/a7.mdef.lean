/-! the reference's define -/
def dCp1 (f : Nat) (A A' : mA) (k : Nat) : Prop := (∀ a q, (a ≠ 95 ∧ a ≠ 96) ∨ q < 4 * f ∨ 4 * f + 4 ≤ q → A' a q = A a q) ∧ ∀ j, j < k → A' 95 (4 * f + j) = A 95 (32 + j) ∧ A' 96 (4 * f + j) = A 96 (32 + j)
def dCp2 (f : Nat) (A A' : mA) (k : Nat) : Prop := (∀ a q, (a < 87 ∨ a = 89 ∨ 91 < a) ∨ q < 150 * f ∨ 150 * f + 150 ≤ q → A' a q = A a q) ∧ ∀ j, j < k → A' 87 (150 * f + j) = A 87 (1200 + j) ∧ A' 88 (150 * f + j) = A 88 (1200 + j) ∧ A' 90 (150 * f + j) = A 90 (1200 + j) ∧ A' 91 (150 * f + j) = A 91 (1200 + j) - 1200 + nI (150 * f)
/-- what stands of a new function, from A (behind the reading) -/
def dNew (f N : Nat) (A A' : mA) : Prop := ∃ A1 A2, (A1 = va_up (va_up (va_up A 92 (upd (A 92) f 1)) 93 (upd (A 93) f (A 93 8))) 94 (upd (A 94) f (A 94 8))) ∧ dCp1 f A1 A2 4 ∧ dCp2 f A2 A' N
def dSk (S S' : mS) : Prop := S' 1 = 0 ∧ S' 2 = 0 ∧ ∀ k, 29 ≤ k → S' k = S k
section MDF
variable {G : zG} {l : Launch} {n : Nat} {σ : zS} {S : mS} {A : mA} {L : mL} {rn : Int64} {z f N cn : Nat} {E : Nat → eN} {Ax : mA}
theorem c_M_define_ill {q : Nat} (hn : 113 ≤ n) (ht : fTz z S A) (hr : rdF (A 86) z Ax E (fun _ => 0) (fun _ => 0) (fun _ => 0) = .inl q) : MetZ G l y_M_define b_M_define 4 (some .int) [] 8 0 0 [.ref 85] n (mOv S A L rn σ) (fun o n' σ' => o = .returned (some (.int 0)) ∧ n' = n ∧ ∃ S' A', σ' = mOv S' A' L rn σ ∧ dSk S S' ∧ S' 0 = 1 ∧ S' 6 = nI q ∧ fKp A A') := by
  refine MetZ.of (by decide) (Nat.le_of_ble_eq_true rfl) (fun K hK hR hpo hmc hms C => ?_)
  refine z_aload_n C 1 d_M_define_0 rfl rfl ?_
  refine z_iconst C 2 d_M_define_1 rfl 0 (by decide) ?_
  refine zm_puti C 5 p_M_108 d_M_define_2 rfl hn (by decide) (rfl) rfl rfl ?_
  refine z_aload_n C 6 d_M_define_5 rfl rfl ?_
  refine z_iconst C 7 d_M_define_6 rfl 0 (by decide) ?_
  refine zm_puti C 10 p_M_104 d_M_define_7 rfl hn (by decide) (rfl) rfl rfl ?_
  refine z_aload_n C 11 d_M_define_10 rfl rfl ?_
  have RF := c_M_readFunction (G := G) (l := kl K) (L := L) (rn := rn) (σ := σ) (S := upd (upd S 4 0) 5 0) (A := A) (E := E) (Ax := Ax) (z := z) hn rfl rfl ⟨ht.1, ht.2.1, ht.2.2⟩
  rw [hr] at RF
  refine z_call C 14 (RF) w_M_readFunction ini_M d_M_define_11 rfl (z_goV (As := []) C l_M_210 w_M_readFunction d_M_define_11 (by omega) rfl rfl rfl) (Nat.le_of_ble_eq_true rfl) (by rw [hR]; simp only [zRm]; omega) (by rw [hR]; simp only [zRm]; omega) (by rw [hR]; simp only [zRm]; omega) (by rw [hR]; simp only [zRm]; omega) (fun v n' σ' hv => ?_) (fun x n' σ' hv => ?_)
  rotate_left
  · obtain ⟨e1, S3, A3, e2, ⟨v, e0⟩, -⟩ := hv; cases e0
  obtain ⟨e1, S3, A3, rfl, ⟨v, e0⟩, i4, i5, i3, iA⟩ := hv
  obtain rfl : n = n' := e1.symm
  cases e0
  refine z_istore_n C 15 d_M_define_14 rfl (by decide) ?_
  refine z_aload_n C 16 d_M_define_15 rfl rfl ?_
  refine z_aload_n C 17 d_M_define_16 rfl rfl ?_
  refine zm_get C 20 f_M_104 d_M_define_17 rfl hn rfl ?_
  rw [i5]
  refine z_if_eq C 23 30 d_M_define_20 rfl (by decide) (fun h9 => absurd h9 (show ¬ (1 : Int32) = 0 by decide)) (fun _ => ?_)
  refine z_aload_n C 24 d_M_define_23 rfl rfl ?_
  refine zm_get C 27 f_M_108 d_M_define_24 rfl hn rfl ?_
  rw [i4]
  refine z_goto C 31 d_M_define_27 (by decide) ?_
  refine zm_puti C 34 p_M_13 d_M_define_31 rfl hn (by decide) (rfl) rfl rfl ?_
  refine z_aload_n C 35 d_M_define_34 rfl rfl ?_
  refine z_iconst C 36 d_M_define_35 rfl 0 (by decide) ?_
  refine zm_puti C 39 p_M_111 d_M_define_36 rfl hn (by decide) (rfl) rfl rfl ?_
  refine z_aload_n C 40 d_M_define_39 rfl rfl ?_
  refine z_iconst C 41 d_M_define_40 rfl 0 (by decide) ?_
  refine zm_puti C 44 p_M_207 d_M_define_41 rfl hn (by decide) (rfl) rfl rfl ?_
  refine z_aload_n C 45 d_M_define_44 rfl rfl ?_
  refine z_aload_n C 46 d_M_define_45 rfl rfl ?_
  refine zm_get C 49 f_M_104 d_M_define_46 rfl hn rfl ?_
  rw [show (upd (upd (upd S3 6 (nI q)) 2 0) 1 0) 5 = 1 from i5]
  refine z_if_eq C 52 56 d_M_define_49 rfl (by decide) (fun h9 => absurd h9 (show ¬ (1 : Int32) = 0 by decide)) (fun _ => ?_)
  refine z_iconst C 53 d_M_define_52 rfl 1 (by decide) ?_
  refine z_goto C 57 d_M_define_53 (by decide) ?_
  refine zm_puti C 60 p_M_101 d_M_define_57 rfl hn (by decide) (rfl) rfl rfl ?_
  refine z_aload_n C 61 d_M_define_60 rfl rfl ?_
  refine zm_get C 64 f_M_104 d_M_define_61 rfl hn rfl ?_
  rw [show (upd (upd (upd (upd S3 6 (nI q)) 2 0) 1 0) 0 1) 5 = 1 from i5]
  refine z_if_eq C 67 69 d_M_define_64 rfl (by decide) (fun h9 => absurd h9 (show ¬ (1 : Int32) = 0 by decide)) (fun _ => ?_)
  refine z_iconst C 68 d_M_define_67 rfl 0 (by decide) ?_
  exact z_iret C rfl d_M_define_68 (by rw [hpo]; exact ⟨rfl, rfl, _, A3, rfl, ⟨rfl, rfl, fun k hk => by simp only [upd, if_neg (show ¬ k = 0 by omega), if_neg (show ¬ k = 1 by omega), if_neg (show ¬ k = 2 by omega), if_neg (show ¬ k = 6 by omega)]; exact (i3 k (by omega) (by omega) (by omega) (by omega)).trans (by simp only [upd, if_neg (show ¬ k = 4 by omega), if_neg (show ¬ k = 5 by omega)])⟩, rfl, rfl, iA⟩) (by rw [hmc]; omega) (by rw [hms]; omega)
theorem c_M_define_ok {a : rF} {cl : Nat → Option cF} {w : Option Int32} (hn : 113 ≤ n) (ht : fTz z S A) (hr : rdF (A 86) z Ax E (fun _ => 0) (fun _ => 0) (fun _ => 0) = .inr a) (hf8 : f < 8) (haf : a.1 = nI f) (hcn : a.2.1 ≤ 4) (hpk : rPk a.2.1 a.2.2.1 a.2.2.2.1 a.2.2.2.2.1) (hN : a.2.2.2.2.2.2.2.1 ≤ 150)
    (henv : ∀ S' A', S' 28 = nI f → fKp A A' → fPr A' a.2.1 a.2.2.1 a.2.2.2.1 a.2.2.2.2.1 → A' 94 8 = a.2.2.2.2.2.1 → mEnv S' A' cl f)
    (hw : ∀ B0, match w with
      | some q => lChk cl (A 92 f != 0) a.2.1 a.2.2.1 a.2.2.2.1 a.2.2.2.2.1 a.2.2.2.2.2.1 a.2.2.2.2.2.2.2.2.2 B0 = .inl q ∧ 0 ≤ q
      | none => ∃ u, lChk cl (A 92 f != 0) a.2.1 a.2.2.1 a.2.2.2.1 a.2.2.2.2.1 a.2.2.2.2.2.1 a.2.2.2.2.2.2.2.2.2 B0 = .inr u) :
    MetZ G l y_M_define b_M_define 4 (some .int) [] 8 0 0 [.ref 85] n (mOv S A L rn σ) (fun o n' σ' => n' = n ∧ ∃ S' A', σ' = mOv S' A' L rn σ ∧ dSk S S' ∧ match w with
      | some q => o = .returned (some (.int 0)) ∧ S' 0 = 2 ∧ S' 6 = q ∧ fKp A A'
      | none => o = .returned (some (.int (nI (mcnt (A' 92) 8)))) ∧ S' 0 = 0 ∧ S' 6 = -1 ∧ ∃ S3 A3, fGd S A a S3 A3 ∧ (∀ b, b < 98 → b = b) ∧ ∃ A4, (∀ b, b < 98 ∨ 103 < b → A4 b = A3 b) ∧ dNew f a.2.2.2.2.2.2.2.1 A4 A') := by
  refine MetZ.of (by decide) (Nat.le_of_ble_eq_true rfl) (fun K hK hR hpo hmc hms C => ?_)
  refine z_aload_n C 1 d_M_define_0 rfl rfl ?_
  refine z_iconst C 2 d_M_define_1 rfl 0 (by decide) ?_
  refine zm_puti C 5 p_M_108 d_M_define_2 rfl hn (by decide) (rfl) rfl rfl ?_
  refine z_aload_n C 6 d_M_define_5 rfl rfl ?_
  refine z_iconst C 7 d_M_define_6 rfl 0 (by decide) ?_
  refine zm_puti C 10 p_M_104 d_M_define_7 rfl hn (by decide) (rfl) rfl rfl ?_
  refine z_aload_n C 11 d_M_define_10 rfl rfl ?_
  have RF := c_M_readFunction (G := G) (l := kl K) (L := L) (rn := rn) (σ := σ) (S := upd (upd S 4 0) 5 0) (A := A) (E := E) (Ax := Ax) (z := z) hn rfl rfl ⟨ht.1, ht.2.1, ht.2.2⟩
  rw [hr] at RF
  refine z_call C 14 (RF) w_M_readFunction ini_M d_M_define_11 rfl (z_goV (As := []) C l_M_210 w_M_readFunction d_M_define_11 (by omega) rfl rfl rfl) (Nat.le_of_ble_eq_true rfl) (by rw [hR]; simp only [zRm]; omega) (by rw [hR]; simp only [zRm]; omega) (by rw [hR]; simp only [zRm]; omega) (by rw [hR]; simp only [zRm]; omega) (fun v n' σ' hv => ?_) (fun x n' σ' hv => ?_)
  rotate_left
  · obtain ⟨e1, S3, A3, e2, e0, -⟩ := hv; cases e0
  obtain ⟨e1, S3, A3, rfl, e0, hg0⟩ := hv
  obtain rfl : n = n' := e1.symm
  cases e0
  obtain ⟨i5, i12, i3, iA, ipr, irt, iT⟩ := id hg0
  have hg : fGd S A a S3 A3 := ⟨i5, i12, fun k a b c d => (i3 k a b c d).trans (by simp only [upd, if_neg a, if_neg b]), iA, ipr, irt, iT⟩
  rw [haf]
  refine z_istore_n C 15 d_M_define_14 rfl (by decide) ?_
  refine z_aload_n C 16 d_M_define_15 rfl rfl ?_
  refine z_aload_n C 17 d_M_define_16 rfl rfl ?_
  refine zm_get C 20 f_M_104 d_M_define_17 rfl hn rfl ?_
  rw [i5]
  refine z_if_eq C 23 30 d_M_define_20 rfl (by decide) (fun _ => ?_) (fun h9 => absurd (show (0 : Int32) = 0 from rfl) h9)
  refine z_iconst C 31 d_M_define_30 rfl (-1) (by decide) ?_
  refine zm_puti C 34 p_M_13 d_M_define_31 rfl hn (by decide) (rfl) rfl rfl ?_
  refine z_aload_n C 35 d_M_define_34 rfl rfl ?_
  refine z_iconst C 36 d_M_define_35 rfl 0 (by decide) ?_
  refine zm_puti C 39 p_M_111 d_M_define_36 rfl hn (by decide) (rfl) rfl rfl ?_
  refine z_aload_n C 40 d_M_define_39 rfl rfl ?_
  refine z_iconst C 41 d_M_define_40 rfl 0 (by decide) ?_
  refine zm_puti C 44 p_M_207 d_M_define_41 rfl hn (by decide) (rfl) rfl rfl ?_
  refine z_aload_n C 45 d_M_define_44 rfl rfl ?_
  refine z_aload_n C 46 d_M_define_45 rfl rfl ?_
  refine zm_get C 49 f_M_104 d_M_define_46 rfl hn rfl ?_
  rw [show (upd (upd (upd S3 6 (-1)) 2 0) 1 0) 5 = 0 from i5]
  refine z_if_eq C 52 56 d_M_define_49 rfl (by decide) (fun _ => ?_) (fun h9 => absurd (show (0 : Int32) = 0 from rfl) h9)
  refine z_iconst C 57 d_M_define_56 rfl 0 (by decide) ?_
  refine zm_puti C 60 p_M_101 d_M_define_57 rfl hn (by decide) (rfl) rfl rfl ?_
  refine z_aload_n C 61 d_M_define_60 rfl rfl ?_
  refine zm_get C 64 f_M_104 d_M_define_61 rfl hn rfl ?_
  rw [show (upd (upd (upd (upd S3 6 (-1)) 2 0) 1 0) 0 0) 5 = 0 from i5]
  refine z_if_eq C 67 69 d_M_define_64 rfl (by decide) (fun _ => ?_) (fun h9 => absurd (show (0 : Int32) = 0 from rfl) h9)
  refine z_aload_n C 70 d_M_define_69 rfl rfl ?_
  refine z_iload_n C 71 d_M_define_70 rfl rfl ?_
  have h92 : A3 92 f = A 92 f := iA 92 f (Or.inr (Or.inl ⟨by omega, by omega, hf8⟩))
  have hwB := hw (A3 103)
  have hnn : lNn (lChk cl (A3 92 f != 0) a.2.1 a.2.2.1 a.2.2.2.1 a.2.2.2.2.1 a.2.2.2.2.2.1 a.2.2.2.2.2.2.2.2.2 (A3 103)) := by
    rw [h92]
    cases w with
    | some q => rw [hwB.1]; exact hwB.2
    | none => obtain ⟨u, hu⟩ := hwB; rw [hu]; trivial
  have CK := c_M_check (G := G) (l := kl K) (L := L) (rn := rn) (σ := σ) (S := upd (upd (upd (upd S3 6 (-1)) 2 0) 1 0) 0 0) (A := A3) hn hf8 (henv _ A3 rfl iA ipr irt) ipr irt iT hN hcn hpk hnn
  refine z_call C 74 (CK) w_M_check ini_M d_M_define_71 rfl (z_goV (As := [.int (nI f)]) C l_M_213 w_M_check d_M_define_71 (by omega) rfl rfl rfl) (Nat.le_of_ble_eq_true rfl) (by rw [hR]; simp only [zRm]; omega) (by rw [hR]; simp only [zRm]; omega) (by rw [hR]; simp only [zRm]; omega) (by rw [hR]; simp only [zRm]; omega) (fun v n' σ' hv => ?_) (fun x n' σ' hv => ?_)
  rotate_left
  · cases hv.1
  obtain ⟨e0, e1, S4, A4, rfl, k1, k2, k3⟩ := hv
  obtain rfl : n = n' := e1.symm
  cases e0
  rw [h92] at k3
  have hS4 : ∀ k, 29 ≤ k → S4 k = S k := fun k hk => (k1 k (by omega) (by omega) (by omega) (by omega)).trans (by
    simp only [upd, if_neg (show ¬ k = 0 by omega), if_neg (show ¬ k = 1 by omega), if_neg (show ¬ k = 2 by omega), if_neg (show ¬ k = 6 by omega)]
    exact (i3 k (by omega) (by omega) (by omega) (by omega)).trans (by simp only [upd, if_neg (show ¬ k = 4 by omega), if_neg (show ¬ k = 5 by omega)]))
  have hS41 : S4 1 = 0 := k1 1 (by decide) (by decide) (by decide) (by decide)
  have hS42 : S4 2 = 0 := k1 2 (by decide) (by decide) (by decide) (by decide)
  have hS412 : S4 12 = nI a.2.2.2.2.2.2.2.1 := (k1 12 (by decide) (by decide) (by decide) (by decide)).trans i12
  have hkp4 : fKp A A4 := fun b k hb => by
    rw [k2 b (by unfold mKept at hb; omega)]
    exact iA b k hb
  refine z_aload_n C 75 d_M_define_74 rfl rfl ?_
  refine z_aload_n C 76 d_M_define_75 rfl rfl ?_
  refine zm_get C 79 f_M_162 d_M_define_76 rfl hn rfl ?_
  refine zm_puti C 82 p_M_13 d_M_define_79 rfl hn (by decide) (rfl) rfl rfl ?_
  refine z_aload_n C 83 d_M_define_82 rfl rfl ?_
  refine z_aload_n C 84 d_M_define_83 rfl rfl ?_
  refine zm_get C 87 f_M_162 d_M_define_84 rfl hn rfl ?_
  cases w with
  | some q =>
    obtain ⟨hl, h0⟩ := hwB
    rw [hl] at k3
    have k3 : S4 27 = q := k3
    rw [show (upd S4 6 (S4 27)) 27 = q from k3, k3]
    refine z_if_lt C 90 94 d_M_define_87 rfl (by decide) (fun h9 => absurd h9 (fun w => absurd h0 (Int32.not_le.mpr w))) (fun _ => ?_)
    refine z_iconst C 91 d_M_define_90 rfl 2 (by decide) ?_
    refine z_goto C 95 d_M_define_91 (by decide) ?_
    refine zm_puti C 98 p_M_101 d_M_define_95 rfl hn (by decide) (rfl) rfl rfl ?_
    refine z_aload_n C 99 d_M_define_98 rfl rfl ?_
    refine zm_get C 102 f_M_162 d_M_define_99 rfl hn rfl ?_
    rw [show (upd (upd S4 6 q) 0 2) 27 = q from k3]
    refine z_if_lt C 105 107 d_M_define_102 rfl (by decide) (fun h9 => absurd h9 (fun w => absurd h0 (Int32.not_le.mpr w))) (fun _ => ?_)
    refine z_iconst C 106 d_M_define_105 rfl 0 (by decide) ?_
    exact z_iret C rfl d_M_define_106 (by rw [hpo]; exact ⟨rfl, _, A4, rfl, ⟨hS41, hS42, fun k hk => by simp only [upd, if_neg (show ¬ k = 0 by omega), if_neg (show ¬ k = 6 by omega)]; exact hS4 k hk⟩, rfl, rfl, rfl, hkp4⟩) (by rw [hmc]; omega) (by rw [hms]; omega)
  | none =>
    obtain ⟨u, hl⟩ := hwB
    rw [hl] at k3
    have k3 : S4 27 = -1 := k3
    rw [show (upd S4 6 (S4 27)) 27 = -1 from k3, k3]
    refine z_if_lt C 90 94 d_M_define_87 rfl (by decide) (fun _ => ?_) (fun h9 => absurd (show (-1 : Int32) < 0 by decide) h9)
    refine z_iconst C 95 d_M_define_94 rfl 0 (by decide) ?_
    refine zm_puti C 98 p_M_101 d_M_define_95 rfl hn (by decide) (rfl) rfl rfl ?_
    refine z_aload_n C 99 d_M_define_98 rfl rfl ?_
    refine zm_get C 102 f_M_162 d_M_define_99 rfl hn rfl ?_
    rw [show (upd (upd S4 6 (-1)) 0 0) 27 = -1 from k3]
    refine z_if_lt C 105 107 d_M_define_102 rfl (by decide) (fun _ => ?_) (fun h9 => absurd (show (-1 : Int32) < 0 by decide) h9)
    refine z_aload_n C 108 d_M_define_107 rfl rfl ?_
    refine zm_get C 111 f_M_33 d_M_define_108 rfl hn rfl ?_
    refine z_iload_n C 112 d_M_define_111 rfl rfl ?_
    refine z_iconst C 113 d_M_define_112 rfl 1 (by decide) ?_
    refine zm_zast C 114 f 1 d_M_define_113 rfl hn rfl (by omega) rfl ?_
    refine z_aload_n C 115 d_M_define_114 rfl rfl ?_
    refine zm_get C 118 f_M_37 d_M_define_115 rfl hn rfl ?_
    refine z_iload_n C 119 d_M_define_118 rfl rfl ?_
    refine z_aload_n C 120 d_M_define_119 rfl rfl ?_
    refine zm_get C 123 f_M_37 d_M_define_120 rfl hn rfl ?_
    refine z_bipush C 125 d_M_define_123 rfl 8 (by decide) ?_
    refine zm_iald C 126 8 d_M_define_125 rfl hn (by decide) (by decide) (by decide) rfl (by decide) (by decide) ?_
    refine zm_iast C 127 f d_M_define_126 rfl hn (by decide) (by decide) (by decide) rfl (by show f < 9; omega) (by decide) ?_
    refine z_aload_n C 128 d_M_define_127 rfl rfl ?_
    refine zm_get C 131 f_M_40 d_M_define_128 rfl hn rfl ?_
    refine z_iload_n C 132 d_M_define_131 rfl rfl ?_
    refine z_aload_n C 133 d_M_define_132 rfl rfl ?_
    refine zm_get C 136 f_M_40 d_M_define_133 rfl hn rfl ?_
    refine z_bipush C 138 d_M_define_136 rfl 8 (by decide) ?_
    refine zm_iald C 139 8 d_M_define_138 rfl hn (by decide) (by decide) (by decide) rfl (by decide) (by decide) ?_
    refine zm_iast C 140 f d_M_define_139 rfl hn (by decide) (by decide) (by decide) rfl (by show f < 9; omega) (by decide) ?_
    have fin : ∀ A' tt, dNew f a.2.2.2.2.2.2.2.1 A4 A' → Z G K n (mOv (upd (upd S4 6 (-1)) 0 0) A' L rn σ) 0 0 289 [(2, .int tt), (1, .int (nI f)), (0, .ref 85)] [] := fun A' tt hd => by
      refine z_aload_n C 290 d_M_define_289 rfl rfl ?_
      refine z_call C 293 (c_M_count hn) w_M_count ini_M d_M_define_290 rfl (z_goV (As := []) C l_M_216 w_M_count d_M_define_290 (by omega) rfl rfl rfl) (Nat.le_of_ble_eq_true rfl) (by rw [hR]; simp only [zRm]; omega) (by rw [hR]; simp only [zRm]; omega) (by rw [hR]; simp only [zRm]; omega) (by rw [hR]; simp only [zRm]; omega) (fun v n' σ' hv => ?_) (fun x n' σ' hv => ?_)
      rotate_left
      · cases hv.1
      obtain ⟨e0, e1, rfl⟩ := hv
      cases e0
      obtain rfl : n = n' := e1.symm
      exact z_iret C rfl d_M_define_293 (by rw [hpo]; exact ⟨rfl, _, A', rfl, ⟨hS41, hS42, fun k hk => by simp only [upd, if_neg (show ¬ k = 0 by omega), if_neg (show ¬ k = 6 by omega)]; exact hS4 k hk⟩, rfl, rfl, rfl, S3, A3, hg, fun _ _ => rfl, A4, k2, hd⟩) (by rw [hmc]; omega) (by rw [hms]; omega)
    obtain ⟨A1, hA1⟩ : ∃ x, va_up (va_up (va_up A4 92 (upd (A4 92) f 1)) 93 (upd (A4 93) f (A4 93 8))) 94 (upd (A4 94) f (A4 94 8)) = x := ⟨_, rfl⟩
    have loop2 : ∀ (m k : Nat) (A2 A' : mA), m + k = a.2.2.2.2.2.2.2.1 → dCp1 f A1 A2 4 → dCp2 f A2 A' k → Z G K n (mOv (upd (upd S4 6 (-1)) 0 0) A' L rn σ) 0 0 193 [(2, .int (nI k)), (1, .int (nI f)), (0, .ref 85)] [] := fun m => by
      induction m with
      | zero =>
        intro k A2 A' hk h1 h2
        obtain rfl : k = a.2.2.2.2.2.2.2.1 := by omega
        refine z_iload_n C 194 d_M_define_193 rfl rfl ?_
        refine z_aload_n C 195 d_M_define_194 rfl rfl ?_
        refine zm_get C 198 f_M_126 d_M_define_195 rfl hn rfl ?_
        rw [show (upd (upd S4 6 (-1)) 0 0) 12 = nI a.2.2.2.2.2.2.2.1 from hS412]
        refine z_icmp_ge C 201 289 d_M_define_198 rfl (by decide) (fun _ => ?_) (fun h9 => absurd (Int32.le_refl _) h9)
        exact fin A' _ ⟨A1, A2, hA1.symm, h1, h2⟩
      | succ m ih =>
        intro k A2 A' hk h1 h2
        have n1200 : ∀ b, 87 ≤ b → b ≤ 91 → A' b (1200 + k) = A2 b (1200 + k) := fun b _ _ => h2.1 b _ (Or.inr (Or.inr (by omega)))
        refine z_iload_n C 194 d_M_define_193 rfl rfl ?_
        refine z_aload_n C 195 d_M_define_194 rfl rfl ?_
        refine zm_get C 198 f_M_126 d_M_define_195 rfl hn rfl ?_
        rw [show (upd (upd S4 6 (-1)) 0 0) 12 = nI a.2.2.2.2.2.2.2.1 from hS412]
        refine z_icmp_ge C 201 289 d_M_define_198 rfl (by decide) (fun h9 => absurd h9 (fun w => absurd ((nI_leI (by omega) (by omega)).mp w) (by omega))) (fun _ => ?_)
        refine z_sipush C 204 d_M_define_201 rfl 150 (by decide) ?_
        refine z_iload_n C 205 d_M_define_204 rfl rfl ?_
        refine z_imul C 206 d_M_define_205 rfl ?_
        refine z_iload_n C 207 d_M_define_206 rfl rfl ?_
        refine z_iadd C 208 d_M_define_207 rfl ?_
        rw [show (150 : Int32) * nI f + nI k = nI (150 * f + k) by rw [show (150 : Int32) * nI f = nI (150 * f) from nI_mul 150 f, nI_add]]
        refine z_istore_n C 209 d_M_define_208 rfl (by decide) ?_
        refine z_aload_n C 210 d_M_define_209 rfl rfl ?_
        refine zm_get C 213 f_M_17 d_M_define_210 rfl hn rfl ?_
        refine z_iload_n C 214 d_M_define_213 rfl rfl ?_
        refine z_aload_n C 215 d_M_define_214 rfl rfl ?_
        refine zm_get C 218 f_M_17 d_M_define_215 rfl hn rfl ?_
        refine z_sipush C 221 d_M_define_218 rfl 1200 (by decide) ?_
        refine z_iload_n C 222 d_M_define_221 rfl rfl ?_
        refine z_iadd C 223 d_M_define_222 rfl ?_
        rw [show (1200 : Int32) + nI k = nI (1200 + k) from nI_add 1200 k]
        refine zm_iald C 224 (1200+k) d_M_define_223 rfl hn (by decide) (by decide) (by decide) rfl (by show 1200 + k < 1350; omega) (by decide) ?_
        refine zm_iast C 225 (150*f+k) d_M_define_224 rfl hn (by decide) (by decide) (by decide) rfl (by show 150 * f + k < 1350; omega) (by decide) ?_
        refine z_aload_n C 226 d_M_define_225 rfl rfl ?_
        refine zm_get C 229 f_M_21 d_M_define_226 rfl hn rfl ?_
        refine z_iload_n C 230 d_M_define_229 rfl rfl ?_
        refine z_aload_n C 231 d_M_define_230 rfl rfl ?_
        refine zm_get C 234 f_M_21 d_M_define_231 rfl hn rfl ?_
        refine z_sipush C 237 d_M_define_234 rfl 1200 (by decide) ?_
        refine z_iload_n C 238 d_M_define_237 rfl rfl ?_
        refine z_iadd C 239 d_M_define_238 rfl ?_
        rw [show (1200 : Int32) + nI k = nI (1200 + k) from nI_add 1200 k]
        refine zm_iald C 240 (1200+k) d_M_define_239 rfl hn (by decide) (by decide) (by decide) rfl (by show 1200 + k < 1350; omega) (by decide) ?_
        refine zm_iast C 241 (150*f+k) d_M_define_240 rfl hn (by decide) (by decide) (by decide) rfl (by show 150 * f + k < 1350; omega) (by decide) ?_
        refine z_aload_n C 242 d_M_define_241 rfl rfl ?_
        refine zm_get C 245 f_M_27 d_M_define_242 rfl hn rfl ?_
        refine z_iload_n C 246 d_M_define_245 rfl rfl ?_
        refine z_aload_n C 247 d_M_define_246 rfl rfl ?_
        refine zm_get C 250 f_M_27 d_M_define_247 rfl hn rfl ?_
        refine z_sipush C 253 d_M_define_250 rfl 1200 (by decide) ?_
        refine z_iload_n C 254 d_M_define_253 rfl rfl ?_
        refine z_iadd C 255 d_M_define_254 rfl ?_
        rw [show (1200 : Int32) + nI k = nI (1200 + k) from nI_add 1200 k]
        refine zm_iald C 256 (1200+k) d_M_define_255 rfl hn (by decide) (by decide) (by decide) rfl (by show 1200 + k < 1350; omega) (by decide) ?_
        refine zm_iast C 257 (150*f+k) d_M_define_256 rfl hn (by decide) (by decide) (by decide) rfl (by show 150 * f + k < 1350; omega) (by decide) ?_
        refine z_aload_n C 258 d_M_define_257 rfl rfl ?_
        refine zm_get C 261 f_M_30 d_M_define_258 rfl hn rfl ?_
        refine z_iload_n C 262 d_M_define_261 rfl rfl ?_
        refine z_aload_n C 263 d_M_define_262 rfl rfl ?_
        refine zm_get C 266 f_M_30 d_M_define_263 rfl hn rfl ?_
        refine z_sipush C 269 d_M_define_266 rfl 1200 (by decide) ?_
        refine z_iload_n C 270 d_M_define_269 rfl rfl ?_
        refine z_iadd C 271 d_M_define_270 rfl ?_
        rw [show (1200 : Int32) + nI k = nI (1200 + k) from nI_add 1200 k]
        refine zm_iald C 272 (1200+k) d_M_define_271 rfl hn (by decide) (by decide) (by decide) rfl (by show 1200 + k < 1350; omega) (by decide) ?_
        refine z_sipush C 275 d_M_define_272 rfl 1200 (by decide) ?_
        refine z_isub C 276 d_M_define_275 rfl ?_
        refine z_sipush C 279 d_M_define_276 rfl 150 (by decide) ?_
        refine z_iload_n C 280 d_M_define_279 rfl rfl ?_
        refine z_imul C 281 d_M_define_280 rfl ?_
        rw [show (150 : Int32) * nI f = nI (150 * f) from nI_mul 150 f]
        refine z_iadd C 282 d_M_define_281 rfl ?_
        refine zm_iast C 283 (150*f+k) d_M_define_282 rfl hn (by decide) (by decide) (by decide) rfl (by show 150 * f + k < 1350; omega) (by decide) ?_
        refine z_iinc C 286 d_M_define_283 rfl (nI (k + 1)) rfl (z_inc k) (by decide) ?_
        refine z_goto C 193 d_M_define_286 (by decide) ?_
        refine lv_drop3 ?_
        refine ih (k + 1) A2 _ (by omega) h1 ⟨fun b q hb => ?_, fun j hj => ?_⟩
        · refine Eq.trans ?_ (h2.1 b q hb)
          refine (vu_ne (A := va_up (va_up (va_up A' 87 (upd (A' 87) (150 * f + k) (A' 87 (1200 + k)))) 88 (upd (A' 88) (150 * f + k) (A' 88 (1200 + k)))) 90 (upd (A' 90) (150 * f + k) (A' 90 (1200 + k)))) (by omega)).trans ?_
          refine (vu_ne (A := va_up (va_up A' 87 (upd (A' 87) (150 * f + k) (A' 87 (1200 + k)))) 88 (upd (A' 88) (150 * f + k) (A' 88 (1200 + k)))) (by omega)).trans ?_
          exact (vu_ne (A := va_up A' 87 (upd (A' 87) (150 * f + k) (A' 87 (1200 + k)))) (by omega)).trans (vu_ne (by omega))
        · show upd (A' 87) (150 * f + k) (A' 87 (1200 + k)) (150 * f + j) = _ ∧ upd (A' 88) (150 * f + k) (A' 88 (1200 + k)) (150 * f + j) = _ ∧ upd (A' 90) (150 * f + k) (A' 90 (1200 + k)) (150 * f + j) = _ ∧ upd (A' 91) (150 * f + k) (A' 91 (1200 + k) - 1200 + nI (150 * f)) (150 * f + j) = _
          by_cases qj : j = k
          · subst qj
            rw [upd_self, upd_self, upd_self, upd_self, n1200 87 (by omega) (by omega), n1200 88 (by omega) (by omega), n1200 90 (by omega) (by omega), n1200 91 (by omega) (by omega)]
            exact ⟨rfl, rfl, rfl, rfl⟩
          · have h4 := h2.2 j (by omega)
            exact ⟨(upd_ne (by omega)).trans h4.1, (upd_ne (by omega)).trans h4.2.1, (upd_ne (by omega)).trans h4.2.2.1, (upd_ne (by omega)).trans h4.2.2.2⟩
    have loop1 : ∀ (m k : Nat) (A' : mA), m + k = 4 → dCp1 f A1 A' k → Z G K n (mOv (upd (upd S4 6 (-1)) 0 0) A' L rn σ) 0 0 142 [(2, .int (nI k)), (1, .int (nI f)), (0, .ref 85)] [] := fun m => by
      induction m with
      | zero =>
        intro k A' hk h1
        obtain rfl : k = 4 := by omega
        refine z_iload_n C 143 d_M_define_142 rfl rfl ?_
        refine z_iconst C 144 d_M_define_143 rfl 4 (by decide) ?_
        refine z_icmp_ge C 147 191 d_M_define_144 rfl (by decide) (fun _ => ?_) (fun h9 => absurd (show (4 : Int32) ≤ nI 4 by decide) h9)
        refine z_iconst C 192 d_M_define_191 rfl 0 (by decide) ?_
        refine z_istore_n C 193 d_M_define_192 rfl (by decide) ?_
        exact loop2 a.2.2.2.2.2.2.2.1 0 A' A' (by omega) h1 ⟨fun _ _ _ => rfl, fun j hj => absurd hj (by omega)⟩
      | succ m ih =>
        intro k A' hk h1
        have n32 : ∀ b, A' b (32 + k) = A1 b (32 + k) := fun b => h1.1 b _ (Or.inr (Or.inr (by omega)))
        refine z_iload_n C 143 d_M_define_142 rfl rfl ?_
        refine z_iconst C 144 d_M_define_143 rfl 4 (by decide) ?_
        refine z_icmp_ge C 147 191 d_M_define_144 rfl (by decide) (fun h9 => absurd h9 (fun w => absurd ((nI_leI (a := 4) (by omega) (by omega)).mp w) (by omega))) (fun _ => ?_)
        refine z_aload_n C 148 d_M_define_147 rfl rfl ?_
        refine zm_get C 151 f_M_43 d_M_define_148 rfl hn rfl ?_
        refine z_iconst C 152 d_M_define_151 rfl 4 (by decide) ?_
        refine z_iload_n C 153 d_M_define_152 rfl rfl ?_
        refine z_imul C 154 d_M_define_153 rfl ?_
        refine z_iload_n C 155 d_M_define_154 rfl rfl ?_
        refine z_iadd C 156 d_M_define_155 rfl ?_
        rw [show (4 : Int32) * nI f + nI k = nI (4 * f + k) by rw [show (4 : Int32) * nI f = nI (4 * f) from nI_mul 4 f, nI_add]]
        refine z_aload_n C 157 d_M_define_156 rfl rfl ?_
        refine zm_get C 160 f_M_43 d_M_define_157 rfl hn rfl ?_
        refine z_bipush C 162 d_M_define_160 rfl 32 (by decide) ?_
        refine z_iload_n C 163 d_M_define_162 rfl rfl ?_
        refine z_iadd C 164 d_M_define_163 rfl ?_
        rw [show (32 : Int32) + nI k = nI (32 + k) from nI_add 32 k]
        refine zm_iald C 165 (32+k) d_M_define_164 rfl hn (by decide) (by decide) (by decide) rfl (by show 32 + k < 36; omega) (by decide) ?_
        refine zm_iast C 166 (4*f+k) d_M_define_165 rfl hn (by decide) (by decide) (by decide) rfl (by show 4 * f + k < 36; omega) (by decide) ?_
        refine z_aload_n C 167 d_M_define_166 rfl rfl ?_
        refine zm_get C 170 f_M_46 d_M_define_167 rfl hn rfl ?_
        refine z_iconst C 171 d_M_define_170 rfl 4 (by decide) ?_
        refine z_iload_n C 172 d_M_define_171 rfl rfl ?_
        refine z_imul C 173 d_M_define_172 rfl ?_
        refine z_iload_n C 174 d_M_define_173 rfl rfl ?_
        refine z_iadd C 175 d_M_define_174 rfl ?_
        rw [show (4 : Int32) * nI f + nI k = nI (4 * f + k) by rw [show (4 : Int32) * nI f = nI (4 * f) from nI_mul 4 f, nI_add]]
        refine z_aload_n C 176 d_M_define_175 rfl rfl ?_
        refine zm_get C 179 f_M_46 d_M_define_176 rfl hn rfl ?_
        refine z_bipush C 181 d_M_define_179 rfl 32 (by decide) ?_
        refine z_iload_n C 182 d_M_define_181 rfl rfl ?_
        refine z_iadd C 183 d_M_define_182 rfl ?_
        rw [show (32 : Int32) + nI k = nI (32 + k) from nI_add 32 k]
        refine zm_iald C 184 (32+k) d_M_define_183 rfl hn (by decide) (by decide) (by decide) rfl (by show 32 + k < 36; omega) (by decide) ?_
        refine zm_iast C 185 (4*f+k) d_M_define_184 rfl hn (by decide) (by decide) (by decide) rfl (by show 4 * f + k < 36; omega) (by decide) ?_
        refine z_iinc C 188 d_M_define_185 rfl (nI (k + 1)) rfl (z_inc k) (by decide) ?_
        refine z_goto C 142 d_M_define_188 (by decide) ?_
        refine ih (k + 1) _ (by omega) ⟨fun b q hb => ?_, fun j hj => ?_⟩
        · refine Eq.trans ?_ (h1.1 b q hb)
          exact (vu_ne (A := va_up A' 95 (upd (A' 95) (4 * f + k) (A' 95 (32 + k)))) (by omega)).trans (vu_ne (by omega))
        · show upd (A' 95) (4 * f + k) (A' 95 (32 + k)) (4 * f + j) = _ ∧ upd (A' 96) (4 * f + k) (A' 96 (32 + k)) (4 * f + j) = _
          by_cases qj : j = k
          · subst qj
            rw [upd_self, upd_self, n32, n32]
            exact ⟨rfl, rfl⟩
          · have h4 := h1.2 j (by omega)
            exact ⟨(upd_ne (by omega)).trans h4.1, (upd_ne (by omega)).trans h4.2⟩
    refine z_iconst C 141 d_M_define_140 rfl 0 (by decide) ?_
    refine z_istore_n C 142 d_M_define_141 rfl (by decide) ?_
    refine loop1 4 0 _ (by omega) ?_
    rw [← hA1]
    exact ⟨fun _ _ _ => rfl, fun j hj => absurd hj (by omega)⟩
end MDF
