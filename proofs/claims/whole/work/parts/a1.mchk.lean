/-! the reference's check: its state (s: types, owned; op: how many are open), what it knows of the functions -/
def mCk (S0 : mS) (A0 : mA) (s : bS) (op : Nat) (S : mS) (A : mA) : Prop := S 27 = -1 ∧ S 26 = s.2 ∧ S 19 = nI op ∧ A 103 = s.1 ∧ (∀ k, k ≠ 19 → k ≠ 26 → k ≠ 27 → S k = S0 k) ∧ ∀ a, a < 98 ∨ 103 < a → A a = A0 a
def mWr (S0 : mS) (A0 : mA) (w : Int32) (S : mS) (A : mA) : Prop := S 27 = w ∧ (∀ k, k ≠ 19 → k ≠ 26 → k ≠ 27 → S k = S0 k) ∧ ∀ a, a < 98 ∨ 103 < a → A a = A0 a
def mIx (f g : Nat) : Nat := if g = f then 8 else g
def mEnv (S0 : mS) (A0 : mA) (cl : Nat → Option cF) (f : Nat) : Prop := S0 28 = nI f ∧ f < 8 ∧ ∀ g, g < 8 → (g ≠ f ∧ cl g = none ∧ A0 92 g = 0) ∨ ((g = f ∨ A0 92 g ≠ 0) ∧ ∃ a cn Y rt, cl g = some (a, cn, Y, rt) ∧ A0 93 (mIx f g) = nI cn ∧ A0 94 (mIx f g) = rt ∧ cn ≤ 4 ∧ ∀ k, k < cn → A0 96 (4 * mIx f g + k) = Y k)
theorem d_M_mistake_0 : decode b_M_mistake 0 = .ok (.aload_n 0, 1) := by decide +kernel
theorem d_M_mistake_1 : decode b_M_mistake 1 = .ok (.getfield 162, 3) := by decide +kernel
theorem d_M_mistake_4 : decode b_M_mistake 4 = .ok (.ifCond .ge 8, 3) := by decide +kernel
theorem d_M_mistake_7 : decode b_M_mistake 7 = .ok (.aload_n 0, 1) := by decide +kernel
theorem d_M_mistake_8 : decode b_M_mistake 8 = .ok (.iload_n 1, 1) := by decide +kernel
theorem d_M_mistake_9 : decode b_M_mistake 9 = .ok (.putfield 162, 3) := by decide +kernel
theorem d_M_mistake_12 : decode b_M_mistake 12 = .ok (.return_, 1) := by decide +kernel
theorem d_M_isOwned_0 : decode b_M_isOwned 0 = .ok (.aload_n 0, 1) := by decide +kernel
theorem d_M_isOwned_1 : decode b_M_isOwned 1 = .ok (.getfield 165, 3) := by decide +kernel
theorem d_M_isOwned_4 : decode b_M_isOwned 4 = .ok (.iload_n 1, 1) := by decide +kernel
theorem d_M_isOwned_5 : decode b_M_isOwned 5 = .ok (.ishr, 1) := by decide +kernel
theorem d_M_isOwned_6 : decode b_M_isOwned 6 = .ok (.iconst 1, 1) := by decide +kernel
theorem d_M_isOwned_7 : decode b_M_isOwned 7 = .ok (.iand, 1) := by decide +kernel
theorem d_M_isOwned_8 : decode b_M_isOwned 8 = .ok (.iconst 1, 1) := by decide +kernel
theorem d_M_isOwned_9 : decode b_M_isOwned 9 = .ok (.if_icmp .ne 7, 3) := by decide +kernel
theorem d_M_isOwned_12 : decode b_M_isOwned 12 = .ok (.iconst 1, 1) := by decide +kernel
theorem d_M_isOwned_13 : decode b_M_isOwned 13 = .ok (.goto 4, 3) := by decide +kernel
theorem d_M_isOwned_16 : decode b_M_isOwned 16 = .ok (.iconst 0, 1) := by decide +kernel
theorem d_M_isOwned_17 : decode b_M_isOwned 17 = .ok (.ireturn, 1) := by decide +kernel
theorem d_M_bind_0 : decode b_M_bind 0 = .ok (.aload_n 0, 1) := by decide +kernel
theorem d_M_bind_1 : decode b_M_bind 1 = .ok (.getfield 67, 3) := by decide +kernel
theorem d_M_bind_4 : decode b_M_bind 4 = .ok (.iload_n 1, 1) := by decide +kernel
theorem d_M_bind_5 : decode b_M_bind 5 = .ok (.iload_n 2, 1) := by decide +kernel
theorem d_M_bind_6 : decode b_M_bind 6 = .ok (.iastore, 1) := by decide +kernel
theorem d_M_bind_7 : decode b_M_bind 7 = .ok (.iload_n 2, 1) := by decide +kernel
theorem d_M_bind_8 : decode b_M_bind 8 = .ok (.ifCond .le 15, 3) := by decide +kernel
theorem d_M_bind_11 : decode b_M_bind 11 = .ok (.aload_n 0, 1) := by decide +kernel
theorem d_M_bind_12 : decode b_M_bind 12 = .ok (.dup, 1) := by decide +kernel
theorem d_M_bind_13 : decode b_M_bind 13 = .ok (.getfield 165, 3) := by decide +kernel
theorem d_M_bind_16 : decode b_M_bind 16 = .ok (.iconst 1, 1) := by decide +kernel
theorem d_M_bind_17 : decode b_M_bind 17 = .ok (.iload_n 1, 1) := by decide +kernel
theorem d_M_bind_18 : decode b_M_bind 18 = .ok (.ishl, 1) := by decide +kernel
theorem d_M_bind_19 : decode b_M_bind 19 = .ok (.ior, 1) := by decide +kernel
theorem d_M_bind_20 : decode b_M_bind 20 = .ok (.putfield 165, 3) := by decide +kernel
theorem d_M_bind_23 : decode b_M_bind 23 = .ok (.return_, 1) := by decide +kernel
theorem d_M_use_0 : decode b_M_use 0 = .ok (.aload_n 0, 1) := by decide +kernel
theorem d_M_use_1 : decode b_M_use 1 = .ok (.getfield 67, 3) := by decide +kernel
theorem d_M_use_4 : decode b_M_use 4 = .ok (.iload_n 1, 1) := by decide +kernel
theorem d_M_use_5 : decode b_M_use 5 = .ok (.iaload, 1) := by decide +kernel
theorem d_M_use_6 : decode b_M_use 6 = .ok (.ifCond .lt 33, 3) := by decide +kernel
theorem d_M_use_9 : decode b_M_use 9 = .ok (.aload_n 0, 1) := by decide +kernel
theorem d_M_use_10 : decode b_M_use 10 = .ok (.getfield 67, 3) := by decide +kernel
theorem d_M_use_13 : decode b_M_use 13 = .ok (.iload_n 1, 1) := by decide +kernel
theorem d_M_use_14 : decode b_M_use 14 = .ok (.iaload, 1) := by decide +kernel
theorem d_M_use_15 : decode b_M_use 15 = .ok (.ifCond .le 11, 3) := by decide +kernel
theorem d_M_use_18 : decode b_M_use 18 = .ok (.aload_n 0, 1) := by decide +kernel
theorem d_M_use_19 : decode b_M_use 19 = .ok (.iload_n 1, 1) := by decide +kernel
theorem d_M_use_20 : decode b_M_use 20 = .ok (.invokevirtual 168, 3) := by decide +kernel
theorem d_M_use_23 : decode b_M_use 23 = .ok (.ifCond .eq 16, 3) := by decide +kernel
theorem d_M_use_26 : decode b_M_use 26 = .ok (.iload_n 3, 1) := by decide +kernel
theorem d_M_use_27 : decode b_M_use 27 = .ok (.aload_n 0, 1) := by decide +kernel
theorem d_M_use_28 : decode b_M_use 28 = .ok (.getfield 67, 3) := by decide +kernel
theorem d_M_use_31 : decode b_M_use 31 = .ok (.iload_n 1, 1) := by decide +kernel
theorem d_M_use_32 : decode b_M_use 32 = .ok (.iaload, 1) := by decide +kernel
theorem d_M_use_33 : decode b_M_use 33 = .ok (.ishr, 1) := by decide +kernel
theorem d_M_use_34 : decode b_M_use 34 = .ok (.iconst 1, 1) := by decide +kernel
theorem d_M_use_35 : decode b_M_use 35 = .ok (.iand, 1) := by decide +kernel
theorem d_M_use_36 : decode b_M_use 36 = .ok (.ifCond .ne 8, 3) := by decide +kernel
theorem d_M_use_39 : decode b_M_use 39 = .ok (.aload_n 0, 1) := by decide +kernel
theorem d_M_use_40 : decode b_M_use 40 = .ok (.iload_n 2, 1) := by decide +kernel
theorem d_M_use_41 : decode b_M_use 41 = .ok (.invokevirtual 172, 3) := by decide +kernel
theorem d_M_use_44 : decode b_M_use 44 = .ok (.aload_n 0, 1) := by decide +kernel
theorem d_M_use_45 : decode b_M_use 45 = .ok (.getfield 67, 3) := by decide +kernel
theorem d_M_use_48 : decode b_M_use 48 = .ok (.iload_n 1, 1) := by decide +kernel
theorem d_M_use_49 : decode b_M_use 49 = .ok (.iaload, 1) := by decide +kernel
theorem d_M_use_50 : decode b_M_use 50 = .ok (.ireturn, 1) := by decide +kernel
theorem d_M_useUp_0 : decode b_M_useUp 0 = .ok (.aload_n 0, 1) := by decide +kernel
theorem d_M_useUp_1 : decode b_M_useUp 1 = .ok (.dup, 1) := by decide +kernel
theorem d_M_useUp_2 : decode b_M_useUp 2 = .ok (.getfield 165, 3) := by decide +kernel
theorem d_M_useUp_5 : decode b_M_useUp 5 = .ok (.iconst 1, 1) := by decide +kernel
theorem d_M_useUp_6 : decode b_M_useUp 6 = .ok (.iload_n 1, 1) := by decide +kernel
theorem d_M_useUp_7 : decode b_M_useUp 7 = .ok (.ishl, 1) := by decide +kernel
theorem d_M_useUp_8 : decode b_M_useUp 8 = .ok (.iconst (-1), 1) := by decide +kernel
theorem d_M_useUp_9 : decode b_M_useUp 9 = .ok (.ixor, 1) := by decide +kernel
theorem d_M_useUp_10 : decode b_M_useUp 10 = .ok (.iand, 1) := by decide +kernel
theorem d_M_useUp_11 : decode b_M_useUp 11 = .ok (.putfield 165, 3) := by decide +kernel
theorem d_M_useUp_14 : decode b_M_useUp 14 = .ok (.return_, 1) := by decide +kernel
theorem d_M_called_0 : decode b_M_called 0 = .ok (.aload_n 0, 1) := by decide +kernel
theorem d_M_called_1 : decode b_M_called 1 = .ok (.getfield 21, 3) := by decide +kernel
theorem d_M_called_4 : decode b_M_called 4 = .ok (.iload_n 1, 1) := by decide +kernel
theorem d_M_called_5 : decode b_M_called 5 = .ok (.iaload, 1) := by decide +kernel
theorem d_M_called_6 : decode b_M_called 6 = .ok (.aload_n 0, 1) := by decide +kernel
theorem d_M_called_7 : decode b_M_called 7 = .ok (.getfield 175, 3) := by decide +kernel
theorem d_M_called_10 : decode b_M_called 10 = .ok (.if_icmp .ne 8, 3) := by decide +kernel
theorem d_M_called_13 : decode b_M_called 13 = .ok (.bipush 8, 2) := by decide +kernel
theorem d_M_called_15 : decode b_M_called 15 = .ok (.goto 27, 3) := by decide +kernel
theorem d_M_called_18 : decode b_M_called 18 = .ok (.aload_n 0, 1) := by decide +kernel
theorem d_M_called_19 : decode b_M_called 19 = .ok (.getfield 33, 3) := by decide +kernel
theorem d_M_called_22 : decode b_M_called 22 = .ok (.aload_n 0, 1) := by decide +kernel
theorem d_M_called_23 : decode b_M_called 23 = .ok (.getfield 21, 3) := by decide +kernel
theorem d_M_called_26 : decode b_M_called 26 = .ok (.iload_n 1, 1) := by decide +kernel
theorem d_M_called_27 : decode b_M_called 27 = .ok (.iaload, 1) := by decide +kernel
theorem d_M_called_28 : decode b_M_called 28 = .ok (.baload, 1) := by decide +kernel
theorem d_M_called_29 : decode b_M_called 29 = .ok (.ifCond .eq 12, 3) := by decide +kernel
theorem d_M_called_32 : decode b_M_called 32 = .ok (.aload_n 0, 1) := by decide +kernel
theorem d_M_called_33 : decode b_M_called 33 = .ok (.getfield 21, 3) := by decide +kernel
theorem d_M_called_36 : decode b_M_called 36 = .ok (.iload_n 1, 1) := by decide +kernel
theorem d_M_called_37 : decode b_M_called 37 = .ok (.iaload, 1) := by decide +kernel
theorem d_M_called_38 : decode b_M_called 38 = .ok (.goto 4, 3) := by decide +kernel
theorem d_M_called_41 : decode b_M_called 41 = .ok (.iconst (-1), 1) := by decide +kernel
theorem d_M_called_42 : decode b_M_called 42 = .ok (.istore_n 2, 1) := by decide +kernel
theorem d_M_called_43 : decode b_M_called 43 = .ok (.iload_n 2, 1) := by decide +kernel
theorem d_M_called_44 : decode b_M_called 44 = .ok (.ifCond .lt 22, 3) := by decide +kernel
theorem d_M_called_47 : decode b_M_called 47 = .ok (.aload_n 0, 1) := by decide +kernel
theorem d_M_called_48 : decode b_M_called 48 = .ok (.getfield 37, 3) := by decide +kernel
theorem d_M_called_51 : decode b_M_called 51 = .ok (.iload_n 2, 1) := by decide +kernel
theorem d_M_called_52 : decode b_M_called 52 = .ok (.iaload, 1) := by decide +kernel
theorem d_M_called_53 : decode b_M_called 53 = .ok (.aload_n 0, 1) := by decide +kernel
theorem d_M_called_54 : decode b_M_called 54 = .ok (.getfield 27, 3) := by decide +kernel
theorem d_M_called_57 : decode b_M_called 57 = .ok (.iload_n 1, 1) := by decide +kernel
theorem d_M_called_58 : decode b_M_called 58 = .ok (.iaload, 1) := by decide +kernel
theorem d_M_called_59 : decode b_M_called 59 = .ok (.if_icmp .ne 7, 3) := by decide +kernel
theorem d_M_called_62 : decode b_M_called 62 = .ok (.iload_n 2, 1) := by decide +kernel
theorem d_M_called_63 : decode b_M_called 63 = .ok (.goto 4, 3) := by decide +kernel
theorem d_M_called_66 : decode b_M_called 66 = .ok (.iconst (-1), 1) := by decide +kernel
theorem d_M_called_67 : decode b_M_called 67 = .ok (.ireturn, 1) := by decide +kernel
theorem d_M_lookBefore_0 : decode b_M_lookBefore 0 = .ok (.aload_n 0, 1) := by decide +kernel
theorem d_M_lookBefore_1 : decode b_M_lookBefore 1 = .ok (.getfield 21, 3) := by decide +kernel
theorem d_M_lookBefore_4 : decode b_M_lookBefore 4 = .ok (.iload_n 1, 1) := by decide +kernel
theorem d_M_lookBefore_5 : decode b_M_lookBefore 5 = .ok (.iaload, 1) := by decide +kernel
theorem d_M_lookBefore_6 : decode b_M_lookBefore 6 = .ok (.istore_n 2, 1) := by decide +kernel
theorem d_M_lookBefore_7 : decode b_M_lookBefore 7 = .ok (.aload_n 0, 1) := by decide +kernel
theorem d_M_lookBefore_8 : decode b_M_lookBefore 8 = .ok (.getfield 17, 3) := by decide +kernel
theorem d_M_lookBefore_11 : decode b_M_lookBefore 11 = .ok (.iload_n 1, 1) := by decide +kernel
theorem d_M_lookBefore_12 : decode b_M_lookBefore 12 = .ok (.iaload, 1) := by decide +kernel
theorem d_M_lookBefore_13 : decode b_M_lookBefore 13 = .ok (.iconst 4, 1) := by decide +kernel
theorem d_M_lookBefore_14 : decode b_M_lookBefore 14 = .ok (.if_icmp .ne 24, 3) := by decide +kernel
theorem d_M_lookBefore_17 : decode b_M_lookBefore 17 = .ok (.aload_n 0, 1) := by decide +kernel
theorem d_M_lookBefore_18 : decode b_M_lookBefore 18 = .ok (.getfield 67, 3) := by decide +kernel
theorem d_M_lookBefore_21 : decode b_M_lookBefore 21 = .ok (.iload_n 2, 1) := by decide +kernel
theorem d_M_lookBefore_22 : decode b_M_lookBefore 22 = .ok (.iaload, 1) := by decide +kernel
theorem d_M_lookBefore_23 : decode b_M_lookBefore 23 = .ok (.ifCond .lt 15, 3) := by decide +kernel
theorem d_M_lookBefore_26 : decode b_M_lookBefore 26 = .ok (.aload_n 0, 1) := by decide +kernel
theorem d_M_lookBefore_27 : decode b_M_lookBefore 27 = .ok (.aload_n 0, 1) := by decide +kernel
theorem d_M_lookBefore_28 : decode b_M_lookBefore 28 = .ok (.getfield 24, 3) := by decide +kernel
theorem d_M_lookBefore_31 : decode b_M_lookBefore 31 = .ok (.iload_n 1, 1) := by decide +kernel
theorem d_M_lookBefore_32 : decode b_M_lookBefore 32 = .ok (.iaload, 1) := by decide +kernel
theorem d_M_lookBefore_33 : decode b_M_lookBefore 33 = .ok (.iconst 1, 1) := by decide +kernel
theorem d_M_lookBefore_34 : decode b_M_lookBefore 34 = .ok (.iadd, 1) := by decide +kernel
theorem d_M_lookBefore_35 : decode b_M_lookBefore 35 = .ok (.invokevirtual 172, 3) := by decide +kernel
theorem d_M_lookBefore_38 : decode b_M_lookBefore 38 = .ok (.aload_n 0, 1) := by decide +kernel
theorem d_M_lookBefore_39 : decode b_M_lookBefore 39 = .ok (.getfield 17, 3) := by decide +kernel
theorem d_M_lookBefore_42 : decode b_M_lookBefore 42 = .ok (.iload_n 1, 1) := by decide +kernel
theorem d_M_lookBefore_43 : decode b_M_lookBefore 43 = .ok (.iaload, 1) := by decide +kernel
theorem d_M_lookBefore_44 : decode b_M_lookBefore 44 = .ok (.bipush 12, 2) := by decide +kernel
theorem d_M_lookBefore_46 : decode b_M_lookBefore 46 = .ok (.if_icmp .ne 24, 3) := by decide +kernel
theorem d_M_lookBefore_49 : decode b_M_lookBefore 49 = .ok (.aload_n 0, 1) := by decide +kernel
theorem d_M_lookBefore_50 : decode b_M_lookBefore 50 = .ok (.iload_n 2, 1) := by decide +kernel
theorem d_M_lookBefore_51 : decode b_M_lookBefore 51 = .ok (.aload_n 0, 1) := by decide +kernel
theorem d_M_lookBefore_52 : decode b_M_lookBefore 52 = .ok (.getfield 24, 3) := by decide +kernel
theorem d_M_lookBefore_55 : decode b_M_lookBefore 55 = .ok (.iload_n 1, 1) := by decide +kernel
theorem d_M_lookBefore_56 : decode b_M_lookBefore 56 = .ok (.iaload, 1) := by decide +kernel
theorem d_M_lookBefore_57 : decode b_M_lookBefore 57 = .ok (.iconst 1, 1) := by decide +kernel
theorem d_M_lookBefore_58 : decode b_M_lookBefore 58 = .ok (.iadd, 1) := by decide +kernel
theorem d_M_lookBefore_59 : decode b_M_lookBefore 59 = .ok (.bipush 6, 2) := by decide +kernel
theorem d_M_lookBefore_61 : decode b_M_lookBefore 61 = .ok (.invokevirtual 178, 3) := by decide +kernel
theorem d_M_lookBefore_64 : decode b_M_lookBefore 64 = .ok (.istore_n 3, 1) := by decide +kernel
theorem d_M_lookBefore_65 : decode b_M_lookBefore 65 = .ok (.aload_n 0, 1) := by decide +kernel
theorem d_M_lookBefore_66 : decode b_M_lookBefore 66 = .ok (.iload_n 2, 1) := by decide +kernel
theorem d_M_lookBefore_67 : decode b_M_lookBefore 67 = .ok (.invokevirtual 181, 3) := by decide +kernel
theorem d_M_lookBefore_70 : decode b_M_lookBefore 70 = .ok (.aload_n 0, 1) := by decide +kernel
theorem d_M_lookBefore_71 : decode b_M_lookBefore 71 = .ok (.getfield 17, 3) := by decide +kernel
theorem d_M_lookBefore_74 : decode b_M_lookBefore 74 = .ok (.iload_n 1, 1) := by decide +kernel
theorem d_M_lookBefore_75 : decode b_M_lookBefore 75 = .ok (.iaload, 1) := by decide +kernel
theorem d_M_lookBefore_76 : decode b_M_lookBefore 76 = .ok (.bipush 13, 2) := by decide +kernel
theorem d_M_lookBefore_78 : decode b_M_lookBefore 78 = .ok (.if_icmp .ne 21, 3) := by decide +kernel
theorem d_M_lookBefore_81 : decode b_M_lookBefore 81 = .ok (.aload_n 0, 1) := by decide +kernel
theorem d_M_lookBefore_82 : decode b_M_lookBefore 82 = .ok (.iload_n 1, 1) := by decide +kernel
theorem d_M_lookBefore_83 : decode b_M_lookBefore 83 = .ok (.invokevirtual 184, 3) := by decide +kernel
theorem d_M_lookBefore_86 : decode b_M_lookBefore 86 = .ok (.ifCond .ge 13, 3) := by decide +kernel
theorem d_M_lookBefore_89 : decode b_M_lookBefore 89 = .ok (.aload_n 0, 1) := by decide +kernel
theorem d_M_lookBefore_90 : decode b_M_lookBefore 90 = .ok (.aload_n 0, 1) := by decide +kernel
theorem d_M_lookBefore_91 : decode b_M_lookBefore 91 = .ok (.getfield 24, 3) := by decide +kernel
theorem d_M_lookBefore_94 : decode b_M_lookBefore 94 = .ok (.iload_n 1, 1) := by decide +kernel
theorem d_M_lookBefore_95 : decode b_M_lookBefore 95 = .ok (.iaload, 1) := by decide +kernel
theorem d_M_lookBefore_96 : decode b_M_lookBefore 96 = .ok (.invokevirtual 172, 3) := by decide +kernel
theorem d_M_lookBefore_99 : decode b_M_lookBefore 99 = .ok (.return_, 1) := by decide +kernel
section MCK
variable {G : zG} {l : Launch} {n : Nat} {σ : zS} {S S0 : mS} {A A0 : mA} {L : mL} {rn : Int64} {cl : Nat → Option cF} {f op i : Nat} {s : bS} {E : Nat → eN}
theorem c_M_mistake (hn : 113 ≤ n) (w : Int32) : MetZ G l y_M_mistake b_M_mistake 2 none [] 0 0 0 [.ref 85, .int w] n (mOv S A L rn σ) (fun o n' σ' => o = .returned none ∧ n' = n ∧ σ' = mOv (if S 27 < 0 then upd S 27 w else S) A L rn σ) := by
  refine MetZ.of (by decide) (Nat.le_of_ble_eq_true rfl) (fun K hK hR hpo hmc hms C => ?_)
  refine z_aload_n C 1 d_M_mistake_0 rfl rfl ?_
  refine zm_get C 4 f_M_162 d_M_mistake_1 rfl hn rfl ?_
  refine z_if_ge C 7 12 d_M_mistake_4 rfl (by decide) (fun h1 => ?_) (fun h1 => ?_)
  · exact z_vret C rfl d_M_mistake_12 (by rw [hpo]; exact ⟨rfl, rfl, by rw [if_neg (Int32.not_lt.mpr h1)]⟩) (by rw [hmc]; omega) (by rw [hms]; omega)
  · refine z_aload_n C 8 d_M_mistake_7 rfl rfl ?_
    refine z_iload_n C 9 d_M_mistake_8 rfl rfl ?_
    refine zm_puti C 12 p_M_162 d_M_mistake_9 rfl hn (by decide) (rfl) rfl rfl ?_
    exact z_vret C rfl d_M_mistake_12 (by rw [hpo]; exact ⟨rfl, rfl, by rw [if_pos (Int32.not_le.mp h1)]⟩) (by rw [hmc]; omega) (by rw [hms]; omega)
theorem c_M_isOwned (hn : 113 ≤ n) (v : Int32) : MetZ G l y_M_isOwned b_M_isOwned 2 (some .boolean) [] 0 0 0 [.ref 85, .int v] n (mOv S A L rn σ) (fun o n' σ' => o = .returned (some (.int (if lOwn (S 26) v then 1 else 0))) ∧ n' = n ∧ σ' = mOv S A L rn σ) := by
  refine MetZ.of (by decide) (Nat.le_of_ble_eq_true rfl) (fun K hK hR hpo hmc hms C => ?_)
  refine z_aload_n C 1 d_M_isOwned_0 rfl rfl ?_
  refine zm_get C 4 f_M_165 d_M_isOwned_1 rfl hn rfl ?_
  refine z_iload_n C 5 d_M_isOwned_4 rfl rfl ?_
  refine z_ishr C 6 d_M_isOwned_5 rfl ?_
  refine z_iconst C 7 d_M_isOwned_6 rfl 1 (by decide) ?_
  refine z_iand C 8 d_M_isOwned_7 rfl ?_
  refine z_iconst C 9 d_M_isOwned_8 rfl 1 (by decide) ?_
  refine z_icmp_ne C 12 16 d_M_isOwned_9 rfl (by decide) (fun h1 => ?_) (fun h1 => ?_)
  · refine z_iconst C 17 d_M_isOwned_16 rfl 0 (by decide) ?_
    exact z_zret C rfl (rfl) d_M_isOwned_17 (by rw [hpo]; exact ⟨by rw [if_neg (show ¬ lOwn (S 26) v from h1)], rfl, rfl⟩) (by rw [hmc]; omega) (by rw [hms]; omega)
  · refine z_iconst C 13 d_M_isOwned_12 rfl 1 (by decide) ?_
    refine z_goto C 17 d_M_isOwned_13 (by decide) ?_
    exact z_zret C rfl (rfl) d_M_isOwned_17 (by rw [hpo]; exact ⟨by rw [if_pos (show lOwn (S 26) v from h1)], rfl, rfl⟩) (by rw [hmc]; omega) (by rw [hms]; omega)
theorem c_M_bind (hn : 113 ≤ n) {v : Nat} (hv20 : v < 20) (t : Int32) : MetZ G l y_M_bind b_M_bind 3 none [] 0 0 0 [.ref 85, .int (nI v), .int t] n (mOv S A L rn σ) (fun o n' σ' => o = .returned none ∧ n' = n ∧ σ' = mOv (if 0 < t then upd S 26 (S 26 ||| cBit (nI v)) else S) (va_up A 103 (upd (A 103) v t)) L rn σ) := by
  refine MetZ.of (by decide) (Nat.le_of_ble_eq_true rfl) (fun K hK hR hpo hmc hms C => ?_)
  refine z_aload_n C 1 d_M_bind_0 rfl rfl ?_
  refine zm_get C 4 f_M_67 d_M_bind_1 rfl hn rfl ?_
  refine z_iload_n C 5 d_M_bind_4 rfl rfl ?_
  refine z_iload_n C 6 d_M_bind_5 rfl rfl ?_
  refine zm_iast C 7 v d_M_bind_6 rfl hn (by decide) (by decide) (by decide) rfl (by show v < 20; omega) (by decide) ?_
  refine z_iload_n C 8 d_M_bind_7 rfl rfl ?_
  refine z_if_le C 11 23 d_M_bind_8 rfl (by decide) (fun h1 => ?_) (fun h1 => ?_)
  · exact z_vret C rfl d_M_bind_23 (by rw [hpo]; exact ⟨rfl, rfl, by rw [if_neg (Int32.not_lt.mpr h1)]⟩) (by rw [hmc]; omega) (by rw [hms]; omega)
  · refine z_aload_n C 12 d_M_bind_11 rfl rfl ?_
    refine z_dup C 13 d_M_bind_12 rfl rfl ?_
    refine zm_get C 16 f_M_165 d_M_bind_13 rfl hn rfl ?_
    refine z_iconst C 17 d_M_bind_16 rfl 1 (by decide) ?_
    refine z_iload_n C 18 d_M_bind_17 rfl rfl ?_
    refine z_ishl C 19 d_M_bind_18 rfl ?_
    refine z_ior C 20 d_M_bind_19 rfl ?_
    refine zm_puti C 23 p_M_165 d_M_bind_20 rfl hn (by decide) (rfl) rfl rfl ?_
    exact z_vret C rfl d_M_bind_23 (by rw [hpo]; exact ⟨rfl, rfl, by rw [if_pos (Int32.not_le.mp h1)]; rfl⟩) (by rw [hmc]; omega) (by rw [hms]; omega)
theorem c_M_useUp (hn : 113 ≤ n) (v : Int32) : MetZ G l y_M_useUp b_M_useUp 2 none [] 0 0 0 [.ref 85, .int v] n (mOv S A L rn σ) (fun o n' σ' => o = .returned none ∧ n' = n ∧ σ' = mOv (upd S 26 (S 26 &&& (cBit v ^^^ (-1)))) A L rn σ) := by
  refine MetZ.of (by decide) (Nat.le_of_ble_eq_true rfl) (fun K hK hR hpo hmc hms C => ?_)
  refine z_aload_n C 1 d_M_useUp_0 rfl rfl ?_
  refine z_dup C 2 d_M_useUp_1 rfl rfl ?_
  refine zm_get C 5 f_M_165 d_M_useUp_2 rfl hn rfl ?_
  refine z_iconst C 6 d_M_useUp_5 rfl 1 (by decide) ?_
  refine z_iload_n C 7 d_M_useUp_6 rfl rfl ?_
  refine z_ishl C 8 d_M_useUp_7 rfl ?_
  refine z_iconst C 9 d_M_useUp_8 rfl (-1) (by decide) ?_
  refine z_ixor C 10 d_M_useUp_9 rfl ?_
  refine z_iand C 11 d_M_useUp_10 rfl ?_
  refine zm_puti C 14 p_M_165 d_M_useUp_11 rfl hn (by decide) (rfl) rfl rfl ?_
  exact z_vret C rfl d_M_useUp_14 (by rw [hpo]; exact ⟨rfl, rfl, rfl⟩) (by rw [hmc]; omega) (by rw [hms]; omega)
abbrev lBad (o b v wt : Int32) : Prop := b < 0 ∨ (0 < b ∧ ¬ lOwn o v) ∨ (wt >>> (b &&& 31)) &&& 1 = 0
theorem c_M_use (hn : 113 ≤ n) {v : Nat} (hv20 : v < 20) (pl wt : Int32) : MetZ G l y_M_use b_M_use 4 (some .int) [] 1 0 0 [.ref 85, .int (nI v), .int pl, .int wt] n (mOv S A L rn σ) (fun o n' σ' => o = .returned (some (.int (A 103 v))) ∧ n' = n ∧ σ' = mOv (if lBad (S 26) (A 103 v) (nI v) wt then (if S 27 < 0 then upd S 27 pl else S) else S) A L rn σ) := by
  refine MetZ.of (by decide) (Nat.le_of_ble_eq_true rfl) (fun K hK hR hpo hmc hms C => ?_)
  have fin : ∀ S', S' = (if lBad (S 26) (A 103 v) (nI v) wt then (if S 27 < 0 then upd S 27 pl else S) else S) → Z G K n (mOv S' A L rn σ) 0 0 44 [(0, .ref 85), (1, .int (nI v)), (2, .int pl), (3, .int wt)] [] := fun S' hS => by
    refine z_aload_n C 45 d_M_use_44 rfl rfl ?_
    refine zm_get C 48 f_M_67 d_M_use_45 rfl hn rfl ?_
    refine z_iload_n C 49 d_M_use_48 rfl rfl ?_
    refine zm_iald C 50 v d_M_use_49 rfl hn (by decide) (by decide) (by decide) rfl (by show v < 20; omega) (by decide) ?_
    exact z_iret C rfl d_M_use_50 (by rw [hpo]; exact ⟨rfl, rfl, by rw [hS]⟩) (by rw [hmc]; omega) (by rw [hms]; omega)
  have bad : lBad (S 26) (A 103 v) (nI v) wt → Z G K n (mOv S A L rn σ) 0 0 39 [(0, .ref 85), (1, .int (nI v)), (2, .int pl), (3, .int wt)] [] := fun hb => by
    refine z_aload_n C 40 d_M_use_39 rfl rfl ?_
    refine z_iload_n C 41 d_M_use_40 rfl rfl ?_
    refine z_call C 44 (c_M_mistake hn pl) w_M_mistake ini_M d_M_use_41 rfl (z_goV (As := [.int pl]) C l_M_172 w_M_mistake d_M_use_41 (by omega) rfl rfl rfl) (Nat.le_of_ble_eq_true rfl) (by rw [hR]; simp only [zRm]; omega) (by rw [hR]; simp only [zRm]; omega) (by rw [hR]; simp only [zRm]; omega) (by rw [hR]; simp only [zRm]; omega) (fun v n' σ' hv => ?_) (fun x n' σ' hv => ?_)
    rotate_left
    · cases hv.1
    obtain ⟨e0, e1, rfl⟩ := hv
    cases e0
    obtain rfl : n = n' := e1.symm
    exact fin _ (by rw [if_pos hb])
  have mid : ¬ A 103 v < 0 → ¬ (0 < A 103 v ∧ ¬ lOwn (S 26) (nI v)) → Z G K n (mOv S A L rn σ) 0 0 26 [(0, .ref 85), (1, .int (nI v)), (2, .int pl), (3, .int wt)] [] := fun h1 h2 => by
    refine z_iload_n C 27 d_M_use_26 rfl rfl ?_
    refine z_aload_n C 28 d_M_use_27 rfl rfl ?_
    refine zm_get C 31 f_M_67 d_M_use_28 rfl hn rfl ?_
    refine z_iload_n C 32 d_M_use_31 rfl rfl ?_
    refine zm_iald C 33 v d_M_use_32 rfl hn (by decide) (by decide) (by decide) rfl (by show v < 20; omega) (by decide) ?_
    refine z_ishr C 34 d_M_use_33 rfl ?_
    refine z_iconst C 35 d_M_use_34 rfl 1 (by decide) ?_
    refine z_iand C 36 d_M_use_35 rfl ?_
    refine z_if_ne C 39 44 d_M_use_36 rfl (by decide) (fun h3 => ?_) (fun h3 => ?_)
    · exact fin S (by rw [if_neg (fun q => by rcases q with q | q | q; { exact h1 q }; { exact h2 q }; { exact h3 q })])
    · exact bad (Or.inr (Or.inr h3))
  refine z_aload_n C 1 d_M_use_0 rfl rfl ?_
  refine zm_get C 4 f_M_67 d_M_use_1 rfl hn rfl ?_
  refine z_iload_n C 5 d_M_use_4 rfl rfl ?_
  refine zm_iald C 6 v d_M_use_5 rfl hn (by decide) (by decide) (by decide) rfl (by show v < 20; omega) (by decide) ?_
  refine z_if_lt C 9 39 d_M_use_6 rfl (by decide) (fun h1 => ?_) (fun h1 => ?_)
  · exact bad (Or.inl h1)
  refine z_aload_n C 10 d_M_use_9 rfl rfl ?_
  refine zm_get C 13 f_M_67 d_M_use_10 rfl hn rfl ?_
  refine z_iload_n C 14 d_M_use_13 rfl rfl ?_
  refine zm_iald C 15 v d_M_use_14 rfl hn (by decide) (by decide) (by decide) rfl (by show v < 20; omega) (by decide) ?_
  refine z_if_le C 18 26 d_M_use_15 rfl (by decide) (fun h2 => ?_) (fun h2 => ?_)
  · exact mid h1 (fun q => absurd q.1 (Int32.not_lt.mpr h2))
  refine z_aload_n C 19 d_M_use_18 rfl rfl ?_
  refine z_iload_n C 20 d_M_use_19 rfl rfl ?_
  refine z_call C 23 (c_M_isOwned hn (nI v)) w_M_isOwned ini_M d_M_use_20 rfl (z_goV (As := [.int (nI v)]) C l_M_168 w_M_isOwned d_M_use_20 (by omega) rfl rfl rfl) (Nat.le_of_ble_eq_true rfl) (by rw [hR]; simp only [zRm]; omega) (by rw [hR]; simp only [zRm]; omega) (by rw [hR]; simp only [zRm]; omega) (by rw [hR]; simp only [zRm]; omega) (fun v n' σ' hv => ?_) (fun x n' σ' hv => ?_)
  rotate_left
  · cases hv.1
  obtain ⟨e0, e1, rfl⟩ := hv
  cases e0
  obtain rfl : n = n' := e1.symm
  by_cases q : lOwn (S 26) (nI v)
  · rw [if_pos q]
    refine z_if_eq C 26 39 d_M_use_23 rfl (by decide) (fun h9 => absurd h9 (show ¬ (1 : Int32) = 0 by decide)) (fun _ => ?_)
    exact mid h1 (fun w => w.2 q)
  · rw [if_neg q]
    refine z_if_eq C 26 39 d_M_use_23 rfl (by decide) (fun _ => ?_) (fun h9 => absurd (show (0 : Int32) = 0 from rfl) h9)
    exact bad (Or.inr (Or.inl ⟨Int32.not_le.mp h2, q⟩))
/-- what called answers -/
def lCd (cl : Nat → Option cF) (f g cnt : Nat) : Int32 := match cl g with
  | none => -1
  | some (_, c, _, _) => if c = cnt then nI (mIx f g) else -1
theorem c_M_called {g cnt : Nat} (hn : 113 ≤ n) (he : mEnv S0 A0 cl f) (hS : S 28 = S0 28) (hA : ∀ a, a < 98 → A a = A0 a) (hi : i < 150) (hg8 : g < 8) (hg : A0 88 (1200 + i) = nI g) (hc : A0 90 (1200 + i) = nI cnt) (hc4 : cnt ≤ 4) : MetZ G l y_M_called b_M_called 3 (some .int) [] 0 0 0 [.ref 85, .int (nI (1200 + i))] n (mOv S A L rn σ) (fun o n' σ' => o = .returned (some (.int (lCd cl f g cnt))) ∧ n' = n ∧ σ' = mOv S A L rn σ) := by
  obtain ⟨h28, hf8, hcl⟩ := he
  have a88 : A 88 (1200 + i) = nI g := by rw [hA 88 (by decide)]; exact hg
  have a90 : A 90 (1200 + i) = nI cnt := by rw [hA 90 (by decide)]; exact hc
  refine MetZ.of (by decide) (Nat.le_of_ble_eq_true rfl) (fun K hK hR hpo hmc hms C => ?_)
  have bad : ∀ lv, lCd cl f g cnt = -1 → Z G K n (mOv S A L rn σ) 0 0 66 lv [] := fun lv hb => by
    refine z_iconst C 67 d_M_called_66 rfl (-1) (by decide) ?_
    exact z_iret C rfl d_M_called_67 (by rw [hpo]; exact ⟨by rw [hb], rfl, rfl⟩) (by rw [hmc]; omega) (by rw [hms]; omega)
  have good : ∀ (x a cn : Nat) (Y : mS) (rt : Int32), cl g = some (a, cn, Y, rt) → mIx f g = x → x < 9 → A 93 x = nI cn → cn ≤ 4 → Z G K n (mOv S A L rn σ) 0 0 42 [(0, .ref 85), (1, .int (nI (1200 + i)))] [.int (nI x)] := fun x a cn Y rt h1 h2 h3 h4 h5 => by
    refine z_istore_n C 43 d_M_called_42 rfl (by decide) ?_
    refine z_iload_n C 44 d_M_called_43 rfl rfl ?_
    refine z_if_lt C 47 66 d_M_called_44 rfl (by decide) (fun h9 => absurd h9 (nI_pos (by omega))) (fun _ => ?_)
    refine z_aload_n C 48 d_M_called_47 rfl rfl ?_
    refine zm_get C 51 f_M_37 d_M_called_48 rfl hn rfl ?_
    refine z_iload_n C 52 d_M_called_51 rfl rfl ?_
    refine zm_iald C 53 x d_M_called_52 rfl hn (by decide) (by decide) (by decide) rfl (by show x < 9; omega) (by decide) ?_
    rw [h4]
    refine z_aload_n C 54 d_M_called_53 rfl rfl ?_
    refine zm_get C 57 f_M_27 d_M_called_54 rfl hn rfl ?_
    refine z_iload_n C 58 d_M_called_57 rfl rfl ?_
    refine zm_iald C 59 (1200+i) d_M_called_58 rfl hn (by decide) (by decide) (by decide) rfl (by show 1200 + i < 1350; omega) (by decide) ?_
    rw [a90]
    by_cases q : cn = cnt
    · refine z_icmp_ne C 62 66 d_M_called_59 rfl (by decide) (fun h9 => absurd (by rw [q]) h9) (fun _ => ?_)
      refine z_iload_n C 63 d_M_called_62 rfl rfl ?_
      refine z_goto C 67 d_M_called_63 (by decide) ?_
      exact z_iret C rfl d_M_called_67 (by rw [hpo]; exact ⟨by unfold lCd; rw [h1]; dsimp only; rw [if_pos q, h2], rfl, rfl⟩) (by rw [hmc]; omega) (by rw [hms]; omega)
    · refine z_icmp_ne C 62 66 d_M_called_59 rfl (by decide) (fun _ => ?_) (fun h9 => absurd (nI_inj (by omega) (by omega) h9) q)
      exact bad _ (by unfold lCd; rw [h1]; dsimp only; rw [if_neg q])
  refine z_aload_n C 1 d_M_called_0 rfl rfl ?_
  refine zm_get C 4 f_M_21 d_M_called_1 rfl hn rfl ?_
  refine z_iload_n C 5 d_M_called_4 rfl rfl ?_
  refine zm_iald C 6 (1200+i) d_M_called_5 rfl hn (by decide) (by decide) (by decide) rfl (by show 1200 + i < 1350; omega) (by decide) ?_
  rw [a88]
  refine z_aload_n C 7 d_M_called_6 rfl rfl ?_
  refine zm_get C 10 f_M_175 d_M_called_7 rfl hn rfl ?_
  rw [hS, h28]
  by_cases q : g = f
  · refine z_icmp_ne C 13 18 d_M_called_10 rfl (by decide) (fun h9 => absurd (by rw [q]) h9) (fun _ => ?_)
    refine z_bipush C 15 d_M_called_13 rfl 8 (by decide) ?_
    refine z_goto C 42 d_M_called_15 (by decide) ?_
    rcases hcl g hg8 with ⟨h1, -⟩ | ⟨-, a, cn, Y, rt, h1, h2, h3, h4, h5⟩
    · exact absurd q h1
    · have hx : mIx f g = 8 := if_pos q
      rw [hx] at h2
      exact good 8 a cn Y rt h1 hx (by omega) (by rw [hA 93 (by decide)]; exact h2) h4
  · refine z_icmp_ne C 13 18 d_M_called_10 rfl (by decide) (fun _ => ?_) (fun h9 => absurd (nI_inj (by omega) (by omega) h9) q)
    have hx : mIx f g = g := if_neg q
    refine z_aload_n C 19 d_M_called_18 rfl rfl ?_
    refine zm_get C 22 f_M_33 d_M_called_19 rfl hn rfl ?_
    refine z_aload_n C 23 d_M_called_22 rfl rfl ?_
    refine zm_get C 26 f_M_21 d_M_called_23 rfl hn rfl ?_
    refine z_iload_n C 27 d_M_called_26 rfl rfl ?_
    refine zm_iald C 28 (1200+i) d_M_called_27 rfl hn (by decide) (by decide) (by decide) rfl (by show 1200 + i < 1350; omega) (by decide) ?_
    rw [a88]
    refine zm_zald C 29 g d_M_called_28 rfl hn rfl (by omega) ?_
    rw [hA 92 (by decide)]
    rcases hcl g hg8 with ⟨-, h1, h2⟩ | ⟨hd, a, cn, Y, rt, h1, h2, h3, h4, h5⟩
    · refine z_if_eq C 32 41 d_M_called_29 rfl (by decide) (fun _ => ?_) (fun h9 => absurd h2 h9)
      refine z_iconst C 42 d_M_called_41 rfl (-1) (by decide) ?_
      refine z_istore_n C 43 d_M_called_42 rfl (by decide) ?_
      refine z_iload_n C 44 d_M_called_43 rfl rfl ?_
      refine z_if_lt C 47 66 d_M_called_44 rfl (by decide) (fun _ => ?_) (fun h9 => absurd (show (-1 : Int32) < 0 by decide) h9)
      exact bad _ (by unfold lCd; rw [h1])
    · have hd2 : A0 92 g ≠ 0 := hd.resolve_left q
      refine z_if_eq C 32 41 d_M_called_29 rfl (by decide) (fun h9 => absurd h9 hd2) (fun _ => ?_)
      refine z_aload_n C 33 d_M_called_32 rfl rfl ?_
      refine zm_get C 36 f_M_21 d_M_called_33 rfl hn rfl ?_
      refine z_iload_n C 37 d_M_called_36 rfl rfl ?_
      refine zm_iald C 38 (1200+i) d_M_called_37 rfl hn (by decide) (by decide) (by decide) rfl (by show 1200 + i < 1350; omega) (by decide) ?_
      rw [a88]
      refine z_goto C 42 d_M_called_38 (by decide) ?_
      rw [hx] at h2
      exact good g a cn Y rt h1 hx (by omega) (by rw [hA 93 (by decide)]; exact h2) h4
end MCK
