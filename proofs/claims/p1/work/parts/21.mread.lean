theorem d_M_look_0 : decode b_M_look 0 = .ok (.aload_n 0, 1) := by decide +kernel
theorem d_M_look_1 : decode b_M_look 1 = .ok (.getfield 104, 3) := by decide +kernel
theorem d_M_look_4 : decode b_M_look 4 = .ok (.ifCond .ne 26, 3) := by decide +kernel
theorem d_M_look_7 : decode b_M_look 7 = .ok (.aload_n 0, 1) := by decide +kernel
theorem d_M_look_8 : decode b_M_look 8 = .ok (.getfield 108, 3) := by decide +kernel
theorem d_M_look_11 : decode b_M_look 11 = .ok (.aload_n 0, 1) := by decide +kernel
theorem d_M_look_12 : decode b_M_look 12 = .ok (.getfield 111, 3) := by decide +kernel
theorem d_M_look_15 : decode b_M_look 15 = .ok (.if_icmp .ge 15, 3) := by decide +kernel
theorem d_M_look_18 : decode b_M_look 18 = .ok (.aload_n 0, 1) := by decide +kernel
theorem d_M_look_19 : decode b_M_look 19 = .ok (.getfield 7, 3) := by decide +kernel
theorem d_M_look_22 : decode b_M_look 22 = .ok (.aload_n 0, 1) := by decide +kernel
theorem d_M_look_23 : decode b_M_look 23 = .ok (.getfield 108, 3) := by decide +kernel
theorem d_M_look_26 : decode b_M_look 26 = .ok (.caload, 1) := by decide +kernel
theorem d_M_look_27 : decode b_M_look 27 = .ok (.goto 4, 3) := by decide +kernel
theorem d_M_look_30 : decode b_M_look 30 = .ok (.iconst 0, 1) := by decide +kernel
theorem d_M_look_31 : decode b_M_look 31 = .ok (.ireturn, 1) := by decide +kernel
theorem d_M_takes_0 : decode b_M_takes 0 = .ok (.aload_n 0, 1) := by decide +kernel
theorem d_M_takes_1 : decode b_M_takes 1 = .ok (.invokevirtual 114, 3) := by decide +kernel
theorem d_M_takes_4 : decode b_M_takes 4 = .ok (.iload_n 1, 1) := by decide +kernel
theorem d_M_takes_5 : decode b_M_takes 5 = .ok (.if_icmp .eq 5, 3) := by decide +kernel
theorem d_M_takes_8 : decode b_M_takes 8 = .ok (.iconst 0, 1) := by decide +kernel
theorem d_M_takes_9 : decode b_M_takes 9 = .ok (.ireturn, 1) := by decide +kernel
theorem d_M_takes_10 : decode b_M_takes 10 = .ok (.aload_n 0, 1) := by decide +kernel
theorem d_M_takes_11 : decode b_M_takes 11 = .ok (.dup, 1) := by decide +kernel
theorem d_M_takes_12 : decode b_M_takes 12 = .ok (.getfield 108, 3) := by decide +kernel
theorem d_M_takes_15 : decode b_M_takes 15 = .ok (.iconst 1, 1) := by decide +kernel
theorem d_M_takes_16 : decode b_M_takes 16 = .ok (.iadd, 1) := by decide +kernel
theorem d_M_takes_17 : decode b_M_takes 17 = .ok (.putfield 108, 3) := by decide +kernel
theorem d_M_takes_20 : decode b_M_takes 20 = .ok (.iconst 1, 1) := by decide +kernel
theorem d_M_takes_21 : decode b_M_takes 21 = .ok (.ireturn, 1) := by decide +kernel
theorem d_M_want_0 : decode b_M_want 0 = .ok (.iload_n 1, 1) := by decide +kernel
theorem d_M_want_1 : decode b_M_want 1 = .ok (.ifCond .ne 8, 3) := by decide +kernel
theorem d_M_want_4 : decode b_M_want 4 = .ok (.aload_n 0, 1) := by decide +kernel
theorem d_M_want_5 : decode b_M_want 5 = .ok (.iconst 1, 1) := by decide +kernel
theorem d_M_want_6 : decode b_M_want 6 = .ok (.putfield 104, 3) := by decide +kernel
theorem d_M_want_9 : decode b_M_want 9 = .ok (.return_, 1) := by decide +kernel
theorem d_M_among_0 : decode b_M_among 0 = .ok (.aload_n 0, 1) := by decide +kernel
theorem d_M_among_1 : decode b_M_among 1 = .ok (.invokevirtual 114, 3) := by decide +kernel
theorem d_M_among_4 : decode b_M_among 4 = .ok (.iload_n 1, 1) := by decide +kernel
theorem d_M_among_5 : decode b_M_among 5 = .ok (.if_icmp .lt 15, 3) := by decide +kernel
theorem d_M_among_8 : decode b_M_among 8 = .ok (.aload_n 0, 1) := by decide +kernel
theorem d_M_among_9 : decode b_M_among 9 = .ok (.invokevirtual 114, 3) := by decide +kernel
theorem d_M_among_12 : decode b_M_among 12 = .ok (.iload_n 2, 1) := by decide +kernel
theorem d_M_among_13 : decode b_M_among 13 = .ok (.if_icmp .gt 7, 3) := by decide +kernel
theorem d_M_among_16 : decode b_M_among 16 = .ok (.iconst 1, 1) := by decide +kernel
theorem d_M_among_17 : decode b_M_among 17 = .ok (.goto 4, 3) := by decide +kernel
theorem d_M_among_20 : decode b_M_among 20 = .ok (.iconst 0, 1) := by decide +kernel
theorem d_M_among_21 : decode b_M_among 21 = .ok (.ireturn, 1) := by decide +kernel
theorem d_M_letter_0 : decode b_M_letter 0 = .ok (.aload_n 0, 1) := by decide +kernel
theorem d_M_letter_1 : decode b_M_letter 1 = .ok (.aload_n 0, 1) := by decide +kernel
theorem d_M_letter_2 : decode b_M_letter 2 = .ok (.iload_n 1, 1) := by decide +kernel
theorem d_M_letter_3 : decode b_M_letter 3 = .ok (.iload_n 2, 1) := by decide +kernel
theorem d_M_letter_4 : decode b_M_letter 4 = .ok (.invokevirtual 118, 3) := by decide +kernel
theorem d_M_letter_7 : decode b_M_letter 7 = .ok (.invokevirtual 122, 3) := by decide +kernel
theorem d_M_letter_10 : decode b_M_letter 10 = .ok (.aload_n 0, 1) := by decide +kernel
theorem d_M_letter_11 : decode b_M_letter 11 = .ok (.getfield 104, 3) := by decide +kernel
theorem d_M_letter_14 : decode b_M_letter 14 = .ok (.ifCond .eq 5, 3) := by decide +kernel
theorem d_M_letter_17 : decode b_M_letter 17 = .ok (.iconst 0, 1) := by decide +kernel
theorem d_M_letter_18 : decode b_M_letter 18 = .ok (.ireturn, 1) := by decide +kernel
theorem d_M_letter_19 : decode b_M_letter 19 = .ok (.aload_n 0, 1) := by decide +kernel
theorem d_M_letter_20 : decode b_M_letter 20 = .ok (.dup, 1) := by decide +kernel
theorem d_M_letter_21 : decode b_M_letter 21 = .ok (.getfield 108, 3) := by decide +kernel
theorem d_M_letter_24 : decode b_M_letter 24 = .ok (.iconst 1, 1) := by decide +kernel
theorem d_M_letter_25 : decode b_M_letter 25 = .ok (.iadd, 1) := by decide +kernel
theorem d_M_letter_26 : decode b_M_letter 26 = .ok (.putfield 108, 3) := by decide +kernel
theorem d_M_letter_29 : decode b_M_letter 29 = .ok (.aload_n 0, 1) := by decide +kernel
theorem d_M_letter_30 : decode b_M_letter 30 = .ok (.getfield 7, 3) := by decide +kernel
theorem d_M_letter_33 : decode b_M_letter 33 = .ok (.aload_n 0, 1) := by decide +kernel
theorem d_M_letter_34 : decode b_M_letter 34 = .ok (.getfield 108, 3) := by decide +kernel
theorem d_M_letter_37 : decode b_M_letter 37 = .ok (.iconst 1, 1) := by decide +kernel
theorem d_M_letter_38 : decode b_M_letter 38 = .ok (.isub, 1) := by decide +kernel
theorem d_M_letter_39 : decode b_M_letter 39 = .ok (.caload, 1) := by decide +kernel
theorem d_M_letter_40 : decode b_M_letter 40 = .ok (.iload_n 1, 1) := by decide +kernel
theorem d_M_letter_41 : decode b_M_letter 41 = .ok (.isub, 1) := by decide +kernel
theorem d_M_letter_42 : decode b_M_letter 42 = .ok (.ireturn, 1) := by decide +kernel
theorem d_M_thrown_0 : decode b_M_thrown 0 = .ok (.aload_n 0, 1) := by decide +kernel
theorem d_M_thrown_1 : decode b_M_thrown 1 = .ok (.getfield 101, 3) := by decide +kernel
theorem d_M_thrown_4 : decode b_M_thrown 4 = .ok (.ireturn, 1) := by decide +kernel
/-- look(): the character that stands at 'at', 0 if there is none -/
def mlk (S : mS) (A : mA) (p z : Nat) : Int32 := if S 5 = 0 ∧ p < z then A 86 p else 0
/-- what the text's cells hold: at, size, and characters -/
def mTx (S : mS) (A : mA) (p z : Nat) : Prop := S 4 = nI p ∧ S 2 = nI z ∧ z ≤ 150 ∧ p ≤ 150 ∧ ∀ i, i < 150 → narrow .char (.int (A 86 i)) = .int (A 86 i)
theorem mlk_char {S : mS} {A : mA} {p z : Nat} (h : mTx S A p z) : narrow .char (.int (mlk S A p z)) = .int (mlk S A p z) := by
  obtain ⟨-, -, h3, -, h5⟩ := h
  unfold mlk
  split
  · rename_i hc
    exact h5 p (by omega)
  · rfl
section MRD
variable {G : zG} {l : Launch} {n : Nat} {S : mS} {A : mA} {L : mL} {rn : Int64} {σ : zS} {p z : Nat}
theorem c_M_thrown (hn : 113 ≤ n) : MetZ G l y_M_thrown b_M_thrown 1 (some .int) [] 0 0 0 [.ref 85] n (mOv S A L rn σ) (fun o n' σ' => o = .returned (some (.int (S 0))) ∧ n' = n ∧ σ' = mOv S A L rn σ) := by
  refine MetZ.of (by decide) (Nat.le_of_ble_eq_true rfl) (fun K hK hR hpo hmc hms C => ?_)
  refine z_aload_n C 1 d_M_thrown_0 rfl rfl ?_
  refine zm_get C 4 f_M_101 d_M_thrown_1 rfl hn rfl ?_
  exact z_iret C rfl d_M_thrown_4 (by rw [hpo]; exact ⟨rfl, rfl, rfl⟩) (by rw [hmc]; omega) (by rw [hms]; omega)
theorem c_M_look (hn : 113 ≤ n) (hT : mTx S A p z) : MetZ G l y_M_look b_M_look 1 (some .char) [] 0 0 0 [.ref 85] n (mOv S A L rn σ) (fun o n' σ' => o = .returned (some (.int (mlk S A p z))) ∧ n' = n ∧ σ' = mOv S A L rn σ) := by
  refine MetZ.of (by decide) (Nat.le_of_ble_eq_true rfl) (fun K hK hR hpo hmc hms C => ?_)
  have hT' := hT
  obtain ⟨h4, h2, hz, hp, hch⟩ := hT'
  refine z_aload_n C 1 d_M_look_0 rfl rfl ?_
  refine zm_get C 4 f_M_104 d_M_look_1 rfl hn rfl ?_
  refine z_if_ne C 7 30 d_M_look_4 rfl (by decide) (fun hi => ?_) (fun hi => ?_)
  · refine z_iconst C 31 d_M_look_30 rfl 0 (by decide) ?_
    exact z_zret C rfl (rfl) d_M_look_31 (by rw [hpo]; exact ⟨by rw [mlk, if_neg (fun q => hi q.1)], rfl, rfl⟩) (by rw [hmc]; omega) (by rw [hms]; omega)
  refine z_aload_n C 8 d_M_look_7 rfl rfl ?_
  refine zm_get C 11 f_M_108 d_M_look_8 rfl hn rfl ?_
  refine z_aload_n C 12 d_M_look_11 rfl rfl ?_
  refine zm_get C 15 f_M_111 d_M_look_12 rfl hn rfl ?_
  refine Z.same (fun i _ => rfl) ?_
  refine z_icmp_ge C 18 30 d_M_look_15 rfl (by decide) (fun hc => ?_) (fun hc => ?_)
  · rw [h4, h2] at hc
    refine z_iconst C 31 d_M_look_30 rfl 0 (by decide) ?_
    exact z_zret C rfl (rfl) d_M_look_31 (by rw [hpo]; exact ⟨by rw [mlk, if_neg (fun q => absurd ((nI_leI (by omega) (by omega)).mp hc) (by omega))], rfl, rfl⟩) (by rw [hmc]; omega) (by rw [hms]; omega)
  · have hc' : p < z := by
      rw [h4, h2] at hc
      exact Nat.lt_of_not_le (fun q => hc ((nI_leI (by omega) (by omega)).mpr q))
    refine z_aload_n C 19 d_M_look_18 rfl rfl ?_
    refine zm_get C 22 f_M_7 d_M_look_19 rfl hn rfl ?_
    refine z_aload_n C 23 d_M_look_22 rfl rfl ?_
    refine zm_get C 26 f_M_108 d_M_look_23 rfl hn rfl ?_
    refine zm_cald C 27 p d_M_look_26 rfl hn h4 (by omega) ?_
    refine z_goto C 31 d_M_look_27 (by decide) ?_
    exact z_zret C rfl ((hch p (by omega))) d_M_look_31 (by rw [hpo]; exact ⟨by rw [mlk, if_pos ⟨hi, hc'⟩], rfl, rfl⟩) (by rw [hmc]; omega) (by rw [hms]; omega)
theorem c_M_want (hn : 113 ≤ n) (b : Int32) : MetZ G l y_M_want b_M_want 2 none [] 0 0 0 [.ref 85, .int b] n (mOv S A L rn σ) (fun o n' σ' => o = .returned none ∧ n' = n ∧ σ' = mOv (if b = 0 then upd S 5 1 else S) A L rn σ) := by
  refine MetZ.of (by decide) (Nat.le_of_ble_eq_true rfl) (fun K hK hR hpo hmc hms C => ?_)
  refine z_iload_n C 1 d_M_want_0 rfl rfl ?_
  refine z_if_ne C 4 9 d_M_want_1 rfl (by decide) (fun hb => ?_) (fun hb => ?_)
  · exact z_vret C rfl d_M_want_9 (by rw [hpo]; exact ⟨rfl, rfl, by rw [if_neg hb]⟩) (by rw [hmc]; omega) (by rw [hms]; omega)
  · refine z_aload_n C 5 d_M_want_4 rfl rfl ?_
    refine z_iconst C 6 d_M_want_5 rfl 1 (by decide) ?_
    refine zm_puti C 9 p_M_104 d_M_want_6 rfl hn (by decide) (rfl) rfl rfl ?_
    exact z_vret C rfl d_M_want_9 (by rw [hpo]; exact ⟨rfl, rfl, by rw [if_pos hb]⟩) (by rw [hmc]; omega) (by rw [hms]; omega)
theorem c_M_takes (hn : 113 ≤ n) (hT : mTx S A p z) (c : Int32) : MetZ G l y_M_takes b_M_takes 2 (some .boolean) [] 1 0 0 [.ref 85, .int c] n (mOv S A L rn σ) (fun o n' σ' => o = .returned (some (.int (if mlk S A p z = c then 1 else 0))) ∧ n' = n ∧ σ' = mOv (if mlk S A p z = c then upd S 4 (S 4 + 1) else S) A L rn σ) := by
  refine MetZ.of (by decide) (Nat.le_of_ble_eq_true rfl) (fun K hK hR hpo hmc hms C => ?_)
  refine z_aload_n C 1 d_M_takes_0 rfl rfl ?_
  refine z_call C 4 (c_M_look hn hT) w_M_look ini_M d_M_takes_1 rfl (z_goV (As := []) C l_M_114 w_M_look d_M_takes_1 (by omega) rfl rfl rfl) (Nat.le_of_ble_eq_true rfl) (by rw [hR]; simp only [zRm]; omega) (by rw [hR]; simp only [zRm]; omega) (by rw [hR]; simp only [zRm]; omega) (by rw [hR]; simp only [zRm]; omega) (fun v n' σ' hv => ?_) (fun x n' σ' hv => ?_)
  · obtain ⟨hv, rfl, rfl⟩ := hv
    cases hv
    refine z_iload_n C 5 d_M_takes_4 rfl rfl ?_
    refine z_icmp_eq C 8 10 d_M_takes_5 rfl (by decide) (fun hc => ?_) (fun hc => ?_)
    · refine z_aload_n C 11 d_M_takes_10 rfl rfl ?_
      refine z_dup C 12 d_M_takes_11 rfl rfl ?_
      refine zm_get C 15 f_M_108 d_M_takes_12 rfl hn rfl ?_
      refine z_iconst C 16 d_M_takes_15 rfl 1 (by decide) ?_
      refine z_iadd C 17 d_M_takes_16 rfl ?_
      refine zm_puti C 20 p_M_108 d_M_takes_17 rfl hn (by decide) (rfl) rfl rfl ?_
      refine z_iconst C 21 d_M_takes_20 rfl 1 (by decide) ?_
      exact z_zret C rfl (rfl) d_M_takes_21 (by rw [hpo]; exact ⟨by rw [if_pos hc], rfl, by rw [if_pos hc]⟩) (by rw [hmc]; omega) (by rw [hms]; omega)
    · refine z_iconst C 9 d_M_takes_8 rfl 0 (by decide) ?_
      exact z_zret C rfl (rfl) d_M_takes_9 (by rw [hpo]; exact ⟨by rw [if_neg hc], rfl, by rw [if_neg hc]⟩) (by rw [hmc]; omega) (by rw [hms]; omega)
  · exact absurd hv.1 (by simp)
theorem c_M_among (hn : 113 ≤ n) (hT : mTx S A p z) (a b : Int32) : MetZ G l y_M_among b_M_among 3 (some .boolean) [] 1 0 0 [.ref 85, .int a, .int b] n (mOv S A L rn σ) (fun o n' σ' => o = .returned (some (.int (if a ≤ mlk S A p z ∧ mlk S A p z ≤ b then 1 else 0))) ∧ n' = n ∧ σ' = mOv S A L rn σ) := by
  refine MetZ.of (by decide) (Nat.le_of_ble_eq_true rfl) (fun K hK hR hpo hmc hms C => ?_)
  refine z_aload_n C 1 d_M_among_0 rfl rfl ?_
  refine z_call C 4 (c_M_look hn hT) w_M_look ini_M d_M_among_1 rfl (z_goV (As := []) C l_M_114 w_M_look d_M_among_1 (by omega) rfl rfl rfl) (Nat.le_of_ble_eq_true rfl) (by rw [hR]; simp only [zRm]; omega) (by rw [hR]; simp only [zRm]; omega) (by rw [hR]; simp only [zRm]; omega) (by rw [hR]; simp only [zRm]; omega) (fun v n' σ' hv => ?_) (fun x n' σ' hv => ?_)
  · obtain ⟨hv, rfl, rfl⟩ := hv
    cases hv
    refine z_iload_n C 5 d_M_among_4 rfl rfl ?_
    refine z_icmp_lt C 8 20 d_M_among_5 rfl (by decide) (fun hc => ?_) (fun hc => ?_)
    · refine z_iconst C 21 d_M_among_20 rfl 0 (by decide) ?_
      exact z_zret C rfl (rfl) d_M_among_21 (by rw [hpo]; exact ⟨by rw [if_neg (fun q => Int32.not_le.mpr hc q.1)], rfl, rfl⟩) (by rw [hmc]; omega) (by rw [hms]; omega)
    · refine z_aload_n C 9 d_M_among_8 rfl rfl ?_
      refine z_call C 12 (c_M_look hn hT) w_M_look ini_M d_M_among_9 rfl (z_goV (As := []) C l_M_114 w_M_look d_M_among_9 (by omega) rfl rfl rfl) (Nat.le_of_ble_eq_true rfl) (by rw [hR]; simp only [zRm]; omega) (by rw [hR]; simp only [zRm]; omega) (by rw [hR]; simp only [zRm]; omega) (by rw [hR]; simp only [zRm]; omega) (fun v n' σ' hv => ?_) (fun x n' σ' hv => ?_)
      · obtain ⟨hv, rfl, rfl⟩ := hv
        cases hv
        refine z_iload_n C 13 d_M_among_12 rfl rfl ?_
        refine z_icmp_gt C 16 20 d_M_among_13 rfl (by decide) (fun hd => ?_) (fun hd => ?_)
        · refine z_iconst C 21 d_M_among_20 rfl 0 (by decide) ?_
          exact z_zret C rfl (rfl) d_M_among_21 (by rw [hpo]; exact ⟨by rw [if_neg (fun q => Int32.not_le.mpr hd q.2)], rfl, rfl⟩) (by rw [hmc]; omega) (by rw [hms]; omega)
        · refine z_iconst C 17 d_M_among_16 rfl 1 (by decide) ?_
          refine z_goto C 21 d_M_among_17 (by decide) ?_
          exact z_zret C rfl (rfl) d_M_among_21 (by rw [hpo]; exact ⟨by rw [if_pos ⟨Int32.not_lt.mp hc, Int32.not_lt.mp hd⟩], rfl, rfl⟩) (by rw [hmc]; omega) (by rw [hms]; omega)
      · exact absurd hv.1 (by simp)
  · exact absurd hv.1 (by simp)
end MRD
