theorem d_M_readExpression_0 : decode b_M_readExpression 0 = .ok (.aload_n 0, 1) := by decide +kernel
theorem d_M_readExpression_1 : decode b_M_readExpression 1 = .ok (.iconst 0, 1) := by decide +kernel
theorem d_M_readExpression_2 : decode b_M_readExpression 2 = .ok (.putfield 129, 3) := by decide +kernel
theorem d_M_readExpression_5 : decode b_M_readExpression 5 = .ok (.iconst 0, 1) := by decide +kernel
theorem d_M_readExpression_6 : decode b_M_readExpression 6 = .ok (.istore_n 1, 1) := by decide +kernel
theorem d_M_readExpression_7 : decode b_M_readExpression 7 = .ok (.iconst 1, 1) := by decide +kernel
theorem d_M_readExpression_8 : decode b_M_readExpression 8 = .ok (.istore_n 2, 1) := by decide +kernel
theorem d_M_readExpression_9 : decode b_M_readExpression 9 = .ok (.iload_n 2, 1) := by decide +kernel
theorem d_M_readExpression_10 : decode b_M_readExpression 10 = .ok (.ifCond .eq 112, 3) := by decide +kernel
theorem d_M_readExpression_13 : decode b_M_readExpression 13 = .ok (.aload_n 0, 1) := by decide +kernel
theorem d_M_readExpression_14 : decode b_M_readExpression 14 = .ok (.getfield 104, 3) := by decide +kernel
theorem d_M_readExpression_17 : decode b_M_readExpression 17 = .ok (.ifCond .ne 105, 3) := by decide +kernel
theorem d_M_readExpression_20 : decode b_M_readExpression 20 = .ok (.iload_n 1, 1) := by decide +kernel
theorem d_M_readExpression_21 : decode b_M_readExpression 21 = .ok (.ifCond .ne 8, 3) := by decide +kernel
theorem d_M_readExpression_24 : decode b_M_readExpression 24 = .ok (.aload_n 0, 1) := by decide +kernel
theorem d_M_readExpression_25 : decode b_M_readExpression 25 = .ok (.invokevirtual 152, 3) := by decide +kernel
theorem d_M_readExpression_28 : decode b_M_readExpression 28 = .ok (.istore_n 1, 1) := by decide +kernel
theorem d_M_readExpression_29 : decode b_M_readExpression 29 = .ok (.iload_n 1, 1) := by decide +kernel
theorem d_M_readExpression_30 : decode b_M_readExpression 30 = .ok (.ifCond .eq 79, 3) := by decide +kernel
theorem d_M_readExpression_33 : decode b_M_readExpression 33 = .ok (.aload_n 0, 1) := by decide +kernel
theorem d_M_readExpression_34 : decode b_M_readExpression 34 = .ok (.getfield 104, 3) := by decide +kernel
theorem d_M_readExpression_37 : decode b_M_readExpression 37 = .ok (.ifCond .ne 72, 3) := by decide +kernel
theorem d_M_readExpression_40 : decode b_M_readExpression 40 = .ok (.aload_n 0, 1) := by decide +kernel
theorem d_M_readExpression_41 : decode b_M_readExpression 41 = .ok (.getfield 129, 3) := by decide +kernel
theorem d_M_readExpression_44 : decode b_M_readExpression 44 = .ok (.ifCond .le 65, 3) := by decide +kernel
theorem d_M_readExpression_47 : decode b_M_readExpression 47 = .ok (.aload_n 0, 1) := by decide +kernel
theorem d_M_readExpression_48 : decode b_M_readExpression 48 = .ok (.invokevirtual 156, 3) := by decide +kernel
theorem d_M_readExpression_51 : decode b_M_readExpression 51 = .ok (.ifCond .ne 7, 3) := by decide +kernel
theorem d_M_readExpression_54 : decode b_M_readExpression 54 = .ok (.iconst 1, 1) := by decide +kernel
theorem d_M_readExpression_55 : decode b_M_readExpression 55 = .ok (.goto 4, 3) := by decide +kernel
theorem d_M_readExpression_58 : decode b_M_readExpression 58 = .ok (.iconst 0, 1) := by decide +kernel
theorem d_M_readExpression_59 : decode b_M_readExpression 59 = .ok (.istore_n 1, 1) := by decide +kernel
theorem d_M_readExpression_60 : decode b_M_readExpression 60 = .ok (.iload_n 1, 1) := by decide +kernel
theorem d_M_readExpression_61 : decode b_M_readExpression 61 = .ok (.ifCond .eq (-32), 3) := by decide +kernel
theorem d_M_readExpression_64 : decode b_M_readExpression 64 = .ok (.aload_n 0, 1) := by decide +kernel
theorem d_M_readExpression_65 : decode b_M_readExpression 65 = .ok (.getfield 104, 3) := by decide +kernel
theorem d_M_readExpression_68 : decode b_M_readExpression 68 = .ok (.ifCond .eq 6, 3) := by decide +kernel
theorem d_M_readExpression_71 : decode b_M_readExpression 71 = .ok (.goto (-42), 3) := by decide +kernel
theorem d_M_readExpression_74 : decode b_M_readExpression 74 = .ok (.aload_n 0, 1) := by decide +kernel
theorem d_M_readExpression_75 : decode b_M_readExpression 75 = .ok (.dup, 1) := by decide +kernel
theorem d_M_readExpression_76 : decode b_M_readExpression 76 = .ok (.getfield 129, 3) := by decide +kernel
theorem d_M_readExpression_79 : decode b_M_readExpression 79 = .ok (.iconst 1, 1) := by decide +kernel
theorem d_M_readExpression_80 : decode b_M_readExpression 80 = .ok (.isub, 1) := by decide +kernel
theorem d_M_readExpression_81 : decode b_M_readExpression 81 = .ok (.putfield 129, 3) := by decide +kernel
theorem d_M_readExpression_84 : decode b_M_readExpression 84 = .ok (.aload_n 0, 1) := by decide +kernel
theorem d_M_readExpression_85 : decode b_M_readExpression 85 = .ok (.getfield 30, 3) := by decide +kernel
theorem d_M_readExpression_88 : decode b_M_readExpression 88 = .ok (.aload_n 0, 1) := by decide +kernel
theorem d_M_readExpression_89 : decode b_M_readExpression 89 = .ok (.getfield 52, 3) := by decide +kernel
theorem d_M_readExpression_92 : decode b_M_readExpression 92 = .ok (.aload_n 0, 1) := by decide +kernel
theorem d_M_readExpression_93 : decode b_M_readExpression 93 = .ok (.getfield 129, 3) := by decide +kernel
theorem d_M_readExpression_96 : decode b_M_readExpression 96 = .ok (.iaload, 1) := by decide +kernel
theorem d_M_readExpression_97 : decode b_M_readExpression 97 = .ok (.sipush 1200, 3) := by decide +kernel
theorem d_M_readExpression_100 : decode b_M_readExpression 100 = .ok (.aload_n 0, 1) := by decide +kernel
theorem d_M_readExpression_101 : decode b_M_readExpression 101 = .ok (.getfield 126, 3) := by decide +kernel
theorem d_M_readExpression_104 : decode b_M_readExpression 104 = .ok (.iadd, 1) := by decide +kernel
theorem d_M_readExpression_105 : decode b_M_readExpression 105 = .ok (.iastore, 1) := by decide +kernel
theorem d_M_readExpression_106 : decode b_M_readExpression 106 = .ok (.goto (-77), 3) := by decide +kernel
theorem d_M_readExpression_109 : decode b_M_readExpression 109 = .ok (.iload_n 1, 1) := by decide +kernel
theorem d_M_readExpression_110 : decode b_M_readExpression 110 = .ok (.ifCond .ne 7, 3) := by decide +kernel
theorem d_M_readExpression_113 : decode b_M_readExpression 113 = .ok (.iconst 1, 1) := by decide +kernel
theorem d_M_readExpression_114 : decode b_M_readExpression 114 = .ok (.goto 4, 3) := by decide +kernel
theorem d_M_readExpression_117 : decode b_M_readExpression 117 = .ok (.iconst 0, 1) := by decide +kernel
theorem d_M_readExpression_118 : decode b_M_readExpression 118 = .ok (.istore_n 2, 1) := by decide +kernel
theorem d_M_readExpression_119 : decode b_M_readExpression 119 = .ok (.goto (-110), 3) := by decide +kernel
theorem d_M_readExpression_122 : decode b_M_readExpression 122 = .ok (.return_, 1) := by decide +kernel
section MRX
variable {G : zG} {K : zK} {n : Nat} {σ : zS} {S0 : mS} {L : mL} {rn : Int64} {T : Nat → Int32} {z : Nat}
abbrev lvR (a b : Int32) : List (Nat × Value) := [(1, .int a), (2, .int b), (0, .ref 85)]
theorem lv21 {y : MethodName} {cc : ByteArray} {nL : Nat} {ret : Option FieldType} {hs : List (Nat × Nat × Nat × Nat)} {k1 k2 pc : Nat} {τ : zS} {st : List Value} {a b : Int32} (C : zC G K y cc nL ret hs) (h : Z G K n τ k1 k2 pc (lvR a b) st) : Z G K n τ k1 k2 pc [(2, .int b), (1, .int a), (0, .ref 85)] st := by
  refine Z.lvs (fun q hq => ?_) h
  simp only [lvR, List.mem_cons, List.not_mem_nil, or_false] at hq ⊢
  rcases hq with h | h | h
  · exact Or.inr (Or.inl h)
  · exact Or.inl h
  · exact Or.inr (Or.inr h)
/-- a text that is ill: the loops end -/
theorem mx_ill (C : zC G K y_M_readExpression b_M_readExpression 3 none []) (hn : 113 ≤ n) {S : mS} {A : mA} {v m : Int32} (h5 : S 5 = 1) (hq : kpo K (.returned none) n (mOv S A L rn σ)) : Z G K n (mOv S A L rn σ) 0 0 29 (lvR v m) [] := by
  have e9 : ∀ m', Z G K n (mOv S A L rn σ) 0 0 9 (lvR v m') [] := fun m' => by
    have e122 : Z G K n (mOv S A L rn σ) 0 0 122 (lvR v m') [] := z_vret C rfl d_M_readExpression_122 hq (by omega) (by omega)
    refine z_iload_n C 10 d_M_readExpression_9 rfl rfl ?_
    refine z_if_eq C 13 122 d_M_readExpression_10 rfl (by decide) (fun g1 => ?_) (fun g1 => ?_)
    · exact e122
    refine z_aload_n C 14 d_M_readExpression_13 rfl rfl ?_
    refine zm_get C 17 f_M_104 d_M_readExpression_14 rfl hn rfl ?_
    rw [h5]
    refine z_if_ne C 20 122 d_M_readExpression_17 rfl (by decide) (fun _ => ?_) (fun h9 => absurd h9 (show ¬ (1 : Int32) = 0 by decide))
    exact e122
  have e109 : Z G K n (mOv S A L rn σ) 0 0 109 (lvR v m) [] := by
    refine z_iload_n C 110 d_M_readExpression_109 rfl rfl ?_
    refine z_if_ne C 113 117 d_M_readExpression_110 rfl (by decide) (fun g1 => ?_) (fun g1 => ?_)
    · refine z_iconst C 118 d_M_readExpression_117 rfl 0 (by decide) ?_
      refine z_istore_n C 119 d_M_readExpression_118 rfl (by decide) ?_
      refine z_goto C 9 d_M_readExpression_119 (by decide) ?_
      exact lv21 C (e9 0)
    · refine z_iconst C 114 d_M_readExpression_113 rfl 1 (by decide) ?_
      refine z_goto C 118 d_M_readExpression_114 (by decide) ?_
      refine z_istore_n C 119 d_M_readExpression_118 rfl (by decide) ?_
      refine z_goto C 9 d_M_readExpression_119 (by decide) ?_
      exact lv21 C (e9 1)
  refine z_iload_n C 30 d_M_readExpression_29 rfl rfl ?_
  refine z_if_eq C 33 109 d_M_readExpression_30 rfl (by decide) (fun g1 => ?_) (fun g1 => ?_)
  · exact e109
  refine z_aload_n C 34 d_M_readExpression_33 rfl rfl ?_
  refine zm_get C 37 f_M_104 d_M_readExpression_34 rfl hn rfl ?_
  rw [h5]
  refine z_if_ne C 40 109 d_M_readExpression_37 rfl (by decide) (fun _ => ?_) (fun h9 => absurd h9 (show ¬ (1 : Int32) = 0 by decide))
  exact e109
/-- a node that opens, or another part: on to the next expression -/
theorem mx_more (C : zC G K y_M_readExpression b_M_readExpression 3 none []) {S : mS} {A : mA} {m : Int32} (h : Z G K n (mOv S A L rn σ) 0 0 9 (lvR 0 1) []) : Z G K n (mOv S A L rn σ) 0 0 29 (lvR 0 m) [] := by
  refine z_iload_n C 30 d_M_readExpression_29 rfl rfl ?_
  refine z_if_eq C 33 109 d_M_readExpression_30 rfl (by decide) (fun _ => ?_) (fun h9 => absurd (show (0 : Int32) = 0 from rfl) h9)
  refine z_iload_n C 110 d_M_readExpression_109 rfl rfl ?_
  refine z_if_ne C 113 117 d_M_readExpression_110 rfl (by decide) (fun h9 => absurd (show (0 : Int32) = 0 from rfl) h9) (fun _ => ?_)
  refine z_iconst C 114 d_M_readExpression_113 rfl 1 (by decide) ?_
  refine z_goto C 118 d_M_readExpression_114 (by decide) ?_
  refine z_istore_n C 119 d_M_readExpression_118 rfl (by decide) ?_
  refine z_goto C 9 d_M_readExpression_119 (by decide) ?_
  exact lv21 C h
theorem mIl_ka {s s2 : rS} {S : mS} {A : mA} {q : Nat} (ka : rKA s s2) (h : mIl S0 s2.2.2.1 q S A) : mIl S0 s.2.2.1 q S A := by
  obtain ⟨h1, h2, h3, h4⟩ := h
  exact ⟨h1, h2, h3, fun a k p1 p2 p3 => (h4 a k p1 p2 p3).trans (ka a k (by omega))⟩
theorem rBehO_z {K0 k i : Nat} {s b : rS} (hk : kOK K0 k) (hs : s.1 ≤ z) (h : rBehO T z K0 k i s = .inr (.inl b)) : b.1 = s.1 + 1 ∧ b.1 ≤ z ∧ b.2.1 = s.2.1 := by
  have r := rBeh_res (T := T) (z := z) (K := K0) (k := k) (i := i) (s := s) (g := fun s => .inr s) (f := fun s => .inr s) hs (fun b hb => rGood.refl hb.2.1) (fun b hb => rGood.refl hb.2.1)
  rw [rBeh_O, h] at r
  rcases (rBehO_more hk h).2 with ⟨-, rfl⟩ | ⟨-, -, rfl⟩
  · exact ⟨rfl, r.2.1, rfl⟩
  · exact ⟨rfl, r.2.1, rfl⟩
theorem mRd_close {s : rS} {op i : Nat} {vw : Option (Int32 × Nat)} {S S' : mS} {A : mA} (h : mRd S0 s (op + 1) S A) (h19 : S' 19 = nI op) (hk : ∀ k, k ≠ 19 → S' k = S k) : mRd S0 (rClose i vw s) op S' (va_up A 91 (upd (A 91) (1200 + i) (nI (1200 + s.2.1)))) := by
  obtain ⟨g1, g2, g3, g4, g5, g6⟩ := h
  refine ⟨(hk 4 (by decide)).trans g1, (hk 5 (by decide)).trans g2, (hk 12 (by decide)).trans g3, h19, fun k a b c d => (hk k d).trans (g5 k a b c d), fun a h1 h2 => ?_⟩
  show va_up A 91 _ a = va_up s.2.2.1 91 _ a
  by_cases q : a = 91
  · subst q
    rw [va_up_self, va_up_self, g6 91 h1 h2]
  · rw [va_up_ne _ _ q, va_up_ne _ _ q, g6 a h1 h2]
theorem rdE_hb {s c : rS} {K0 : Nat} {vw : Option (Int32 × Nat)} (hs : s.1 ≤ z) (h : rHead T z s = .inr (.inr (K0, vw, c))) : c.2.1 = s.2.1 + 1 ∧ s.1 + 1 ≤ c.1 := by
  unfold rHead at h
  by_cases q1 : 48 ≤ rlk T z s.1 ∧ rlk T z s.1 ≤ 57
  · rw [if_pos q1] at h; cases h
  rw [if_neg q1] at h
  by_cases q2 : 97 ≤ rlk T z s.1 ∧ rlk T z s.1 ≤ 116
  · rw [if_pos q2] at h
    by_cases r1 : rlk T z (s.1 + 1) = 91
    · rw [if_pos r1] at h; cases h; exact ⟨rfl, by show s.1 + 1 ≤ s.1 + 2; omega⟩
    rw [if_neg r1] at h
    by_cases r2 : rlk T z (s.1 + 1) = 123
    · rw [if_pos r2] at h; cases h; exact ⟨rfl, by show s.1 + 1 ≤ s.1 + 2; omega⟩
    rw [if_neg r2] at h; cases h
  rw [if_neg q2] at h
  by_cases q3 : 65 ≤ rlk T z s.1 ∧ rlk T z s.1 ≤ 72
  · rw [if_pos q3] at h
    by_cases r1 : rlk T z (s.1 + 1) = 40
    · rw [if_pos r1] at h
      by_cases r2 : rlk T z (s.1 + 2) = 41
      · rw [if_pos r2] at h; cases h
      · rw [if_neg r2] at h; cases h; exact ⟨rfl, by show s.1 + 1 ≤ s.1 + 2; omega⟩
    · rw [if_neg r1] at h; cases h
  rw [if_neg q3] at h
  by_cases w40 : rlk T z s.1 = 40
  · rw [if_pos w40] at h; cases h; exact ⟨rfl, Nat.le_refl _⟩
  rw [if_neg w40] at h
  by_cases w63 : rlk T z s.1 = 63
  · rw [if_pos w63] at h; cases h; exact ⟨rfl, Nat.le_refl _⟩
  rw [if_neg w63] at h
  by_cases w64 : rlk T z s.1 = 64
  · rw [if_pos w64] at h; cases h; exact ⟨rfl, Nat.le_refl _⟩
  rw [if_neg w64] at h
  by_cases w37 : rlk T z s.1 = 37
  · rw [if_pos w37] at h; cases h; exact ⟨rfl, Nat.le_refl _⟩
  rw [if_neg w37] at h
  by_cases w38 : rlk T z s.1 = 38
  · rw [if_pos w38] at h
    unfold rHw at h
    by_cases r1 : 97 ≤ rlk T z (s.1 + 1) ∧ rlk T z (s.1 + 1) ≤ 116
    · rw [if_pos r1] at h
      by_cases r2 : rlk T z (s.1 + 2) = 61
      · rw [if_pos r2] at h; cases h; exact ⟨rfl, by show s.1 + 1 ≤ s.1 + 3; omega⟩
      · rw [if_neg r2] at h; cases h
    · rw [if_neg r1] at h; cases h
  rw [if_neg w38] at h
  by_cases w126 : rlk T z s.1 = 126
  · rw [if_pos w126] at h
    unfold rHw at h
    by_cases r1 : 97 ≤ rlk T z (s.1 + 1) ∧ rlk T z (s.1 + 1) ≤ 116
    · rw [if_pos r1] at h
      by_cases r2 : rlk T z (s.1 + 2) = 59
      · rw [if_pos r2] at h; cases h; exact ⟨rfl, by show s.1 + 1 ≤ s.1 + 3; omega⟩
      · rw [if_neg r2] at h; cases h
    · rw [if_neg r1] at h; cases h
  rw [if_neg w126] at h
  by_cases w35 : rlk T z s.1 = 35
  · rw [if_pos w35] at h
    unfold rHv at h
    by_cases r1 : 97 ≤ rlk T z (s.1 + 1) ∧ rlk T z (s.1 + 1) ≤ 116
    · rw [if_pos r1] at h; cases h
    · rw [if_neg r1] at h; cases h
  rw [if_neg w35] at h
  by_cases w94 : rlk T z s.1 = 94
  · rw [if_pos w94] at h
    unfold rHv at h
    by_cases r1 : 97 ≤ rlk T z (s.1 + 1) ∧ rlk T z (s.1 + 1) ≤ 116
    · rw [if_pos r1] at h; cases h
    · rw [if_neg r1] at h; cases h
  rw [if_neg w94] at h
  by_cases w36 : rlk T z s.1 = 36
  · rw [if_pos w36] at h
    unfold rHv at h
    by_cases r1 : 97 ≤ rlk T z (s.1 + 1) ∧ rlk T z (s.1 + 1) ≤ 116
    · rw [if_pos r1] at h; cases h
    · rw [if_neg r1] at h; cases h
  rw [if_neg w36] at h
  cases h
/-- an expression: from the loop's head to where its last part, or it, has been read -/
def mEX (G : zG) (K : zK) (n : Nat) (σ : zS) (S0 : mS) (L : mL) (rn : Int64) (T : Nat → Int32) (z d : Nat) : Prop := ∀ (op : Nat) (s : rS) (S : mS) (A : mA), op + d = 8 → mRd S0 s op S A → mTz T z S0 s →
  (∀ q, rdE T z d s = .inl q → ∀ S' A', mIl S0 s.2.2.1 q S' A' → kpo K (.returned none) n (mOv S' A' L rn σ)) →
  (∀ b S' A', rdE T z d s = .inr b → mRd S0 b op S' A' → (∀ j, j < op → A' 98 j = A 98 j) → Z G K n (mOv S' A' L rn σ) 0 0 29 (lvR 1 1) []) → Z G K n (mOv S A L rn σ) 0 0 9 (lvR 0 1) []
theorem mx_parts (C : zC G K y_M_readExpression b_M_readExpression 3 none []) (hn : 113 ≤ n) (hfr : 5 ≤ (kR K).frames) (hlo : 8 + (6 + 11) + 60 * 4 ≤ (kR K).locals) {d : Nat} (EX : mEX G K n σ S0 L rn T z d) {op i K0 : Nat} {vw : Option (Int32 × Nat)} (hop : op + 1 + d = 8) : ∀ (m k : Nat) (s : rS) (S : mS) (A : mA), m + k = 4 → mRd S0 s (op + 1) S A → mTz T z S0 s → i < s.2.1 → A 98 op = nI (1200 + i) → s.2.2.1 87 (1200 + i) = nI K0 → s.2.2.1 90 (1200 + i) = nI k → kOK K0 k →
    (∀ q, rParts T z (rdE T z d) K0 i vw m k s = .inl q → ∀ S' A', mIl S0 s.2.2.1 q S' A' → kpo K (.returned none) n (mOv S' A' L rn σ)) →
    (∀ b S' A', rParts T z (rdE T z d) K0 i vw m k s = .inr b → mRd S0 b op S' A' → (∀ j, j < op → A' 98 j = A 98 j) → Z G K n (mOv S' A' L rn σ) 0 0 29 (lvR 1 1) []) → Z G K n (mOv S A L rn σ) 0 0 9 (lvR 0 1) [] := fun m => by
  induction m with
  | zero =>
    intro k s S A hk4 _ _ _ _ _ _ hk
    unfold kOK at hk
    omega
  | succ m ih =>
    intro k s S A hk4 h ht hi h98 h87 h90 hk kI kO
    obtain ⟨t2, hz, hpz, hN, hT, hch⟩ := ht
    refine EX (op + 1) s S A hop h ⟨t2, hz, hpz, hN, hT, hch⟩ (fun q hq => kI q (rParts_ill hq)) (fun s2 S2 A2 hs2 h2 hp2 => ?_)
    obtain ⟨-, ka⟩ := rdE_tT hz d s s2 hpz hs2
    have ks := rdE_ks (T := T) (z := z) d s
    have kres := rdE_res (T := T) (z := z) d s hpz
    rw [hs2] at ks kres
    obtain ⟨ks1, ks2⟩ := ks
    obtain ⟨r1, r2, r3, r4⟩ := kres
    have hT2 : s2.2.2.1 86 = T := by rw [← hT]; funext k; exact ka 86 k (Or.inl (by decide))
    have ht2 : mTz T z S0 s2 := ⟨t2, hz, r2, by omega, hT2, hch⟩
    have g98 : A2 98 op = nI (1200 + i) := (hp2 op (by omega)).trans h98
    have g87 : s2.2.2.1 87 (1200 + i) = nI K0 := (ka 87 _ (by omega)).trans h87
    have g90 : s2.2.2.1 90 (1200 + i) = nI k := (ka 90 _ (by omega)).trans h90
    have hpt : ∀ res, rParts T z (rdE T z d) K0 i vw (m + 1) k s = res ↔ rBG (rBehO T z K0 k i (rAdd i s.2.1 s2)) (fun s3 => rParts T z (rdE T z d) K0 i vw m (k + 1) s3) (fun s3 => .inr (rClose i vw s3)) = res := fun res => by rw [rParts_ok hs2, rBeh_O]
    have h2' := h2
    obtain ⟨a4, a5, a12, a19, ak, aA⟩ := h2
    have BP := c_M_behindPart (G := G) (l := kl K) (L := L) (rn := rn) (σ := σ) (j := s.2.1) hn h2' ht2 (by omega) (by omega) g98 g87 g90 hk
    refine z_iload_n C 30 d_M_readExpression_29 rfl rfl ?_
    refine z_if_eq C 33 109 d_M_readExpression_30 rfl (by decide) (fun h9 => absurd h9 (show ¬ (1 : Int32) = 0 by decide)) (fun _ => ?_)
    refine z_aload_n C 34 d_M_readExpression_33 rfl rfl ?_
    refine zm_get C 37 f_M_104 d_M_readExpression_34 rfl hn rfl ?_
    rw [a5]
    refine z_if_ne C 40 109 d_M_readExpression_37 rfl (by decide) (fun h9 => absurd (show (0 : Int32) = 0 from rfl) h9) (fun _ => ?_)
    refine z_aload_n C 41 d_M_readExpression_40 rfl rfl ?_
    refine zm_get C 44 f_M_129 d_M_readExpression_41 rfl hn rfl ?_
    rw [a19]
    refine z_if_le C 47 109 d_M_readExpression_44 rfl (by decide) (fun h9 => absurd h9 (fun w => absurd ((nI_leI (b := 0) (by omega) (by omega)).mp w) (by omega))) (fun _ => ?_)
    refine z_aload_n C 48 d_M_readExpression_47 rfl rfl ?_
    refine z_call C 51 BP w_M_behindPart ini_M d_M_readExpression_48 rfl (z_goV (As := []) C l_M_156 w_M_behindPart d_M_readExpression_48 (by omega) rfl rfl rfl) (Nat.le_of_ble_eq_true rfl) (by omega) (by omega) (by omega) (by omega) (fun v n' σ' hv => ?_) (fun x n' σ' hv => ?_)
    rotate_left
    · obtain ⟨e1, S', A', e2, hv⟩ := hv
      cases hb : rBehO T z K0 k i (rAdd i s.2.1 s2) with
      | inl q => rw [hb] at hv; obtain ⟨⟨v, -, e0⟩, -⟩ := hv; cases e0
      | inr y => cases y with
        | inl b => rw [hb] at hv; cases hv.1
        | inr b => rw [hb] at hv; cases hv.1
    obtain ⟨e1, S3, A3, rfl, hv⟩ := hv
    obtain rfl : n = n' := e1.symm
    cases hb : rBehO T z K0 k i (rAdd i s.2.1 s2) with
    | inl q =>
      rw [hb] at hv hpt
      obtain ⟨⟨v, -, e0⟩, hil⟩ := hv
      cases e0
      have hkpo := kI q ((hpt _).mpr rfl) S3 A3 (mIl_ka ka hil)
      have h35 : S3 5 = 1 := hil.2.1
      refine z_if_ne C 54 58 d_M_readExpression_51 rfl (by decide) (fun g1 => ?_) (fun g1 => ?_)
      · refine z_iconst C 59 d_M_readExpression_58 rfl 0 (by decide) ?_
        refine z_istore_n C 60 d_M_readExpression_59 rfl (by decide) ?_
        refine z_iload_n C 61 d_M_readExpression_60 rfl rfl ?_
        refine z_if_eq C 64 29 d_M_readExpression_61 rfl (by decide) (fun _ => ?_) (fun h9 => absurd (show (0 : Int32) = 0 from rfl) h9)
        exact mx_ill C hn h35 hkpo
      · refine z_iconst C 55 d_M_readExpression_54 rfl 1 (by decide) ?_
        refine z_goto C 59 d_M_readExpression_55 (by decide) ?_
        refine z_istore_n C 60 d_M_readExpression_59 rfl (by decide) ?_
        refine z_iload_n C 61 d_M_readExpression_60 rfl rfl ?_
        refine z_if_eq C 64 29 d_M_readExpression_61 rfl (by decide) (fun h9 => absurd h9 (show ¬ (1 : Int32) = 0 by decide)) (fun _ => ?_)
        refine z_aload_n C 65 d_M_readExpression_64 rfl rfl ?_
        refine zm_get C 68 f_M_104 d_M_readExpression_65 rfl hn rfl ?_
        rw [h35]
        refine z_if_eq C 71 74 d_M_readExpression_68 rfl (by decide) (fun h9 => absurd h9 (show ¬ (1 : Int32) = 0 by decide)) (fun _ => ?_)
        refine z_goto C 29 d_M_readExpression_71 (by decide) ?_
        exact mx_ill C hn h35 hkpo
    | inr y => cases y with
      | inl b =>
        rw [hb] at hv hpt
        obtain ⟨e0, h3, h398⟩ := hv
        cases e0
        obtain ⟨b1, b2, b3⟩ := rBehO_z (s := rAdd i s.2.1 s2) hk r2 hb
        obtain ⟨hk1, hmr⟩ := rBehO_more hk hb
        have hbA : ∀ a q, a ≠ 88 → (a ≠ 90 ∨ q ≠ 1200 + i) → b.2.2.1 a q = s2.2.2.1 a q := fun a q h88 hq => by
          rcases hmr with ⟨-, rfl⟩ | ⟨-, -, rfl⟩
          · exact vu_ne hq
          · exact (vu_ne (Or.inl h88)).trans (vu_ne hq)
        have hb90 : b.2.2.1 90 (1200 + i) = nI (k + 1) := by
          have e : (rAdd i s.2.1 s2).2.2.1 90 (1200 + i) = nI (k + 1) := by
            show va_up s2.2.2.1 90 (upd (s2.2.2.1 90) (1200 + i) (s2.2.2.1 90 (1200 + i) + 1)) 90 (1200 + i) = _
            rw [va_up_self, upd_self, g90, nI_1]
          rcases hmr with ⟨-, rfl⟩ | ⟨-, -, rfl⟩
          · exact e
          · exact e
        have b3 : b.2.1 = s2.2.1 := b3
        have b1 : b.1 = s2.1 + 1 := b1
        have hT3 : b.2.2.1 86 = T := by rw [← hT2]; funext q; exact hbA 86 q (by decide) (Or.inl (by decide))
        refine z_if_ne C 54 58 d_M_readExpression_51 rfl (by decide) (fun _ => ?_) (fun h9 => absurd h9 (show ¬ (1 : Int32) = 0 by decide))
        refine z_iconst C 59 d_M_readExpression_58 rfl 0 (by decide) ?_
        refine z_istore_n C 60 d_M_readExpression_59 rfl (by decide) ?_
        refine z_iload_n C 61 d_M_readExpression_60 rfl rfl ?_
        refine z_if_eq C 64 29 d_M_readExpression_61 rfl (by decide) (fun _ => ?_) (fun h9 => absurd (show (0 : Int32) = 0 from rfl) h9)
        refine mx_more C (ih (k + 1) b S3 A3 (by omega) h3 ⟨t2, hz, b2, by omega, hT3, hch⟩ (by omega) (by rw [h398]; exact g98) ((hbA 87 _ (by decide) (Or.inl (by decide))).trans g87) hb90 hk1 (fun q hq S' A' hil => ?_) (fun c S' A' hc h' hp' => ?_))
        · refine kI q ((hpt _).mpr hq) S' A' ?_
          obtain ⟨i1, i2, i3, i4⟩ := hil
          refine ⟨i1, i2, i3, fun a q p1 p2 p3 => (i4 a q p1 p2 p3).trans ?_⟩
          have e : b.2.2.1 a q = s2.2.2.1 a q := by
            rcases hmr with ⟨-, rfl⟩ | ⟨-, -, rfl⟩
            · exact vu_ne (by omega)
            · exact (vu_ne (by omega)).trans (vu_ne (by omega))
          exact e.trans (ka a q (by omega))
        · exact kO c S' A' ((hpt _).mpr hc) h' (fun j hj => by rw [hp' j hj, h398, hp2 j (by omega)])
      | inr b =>
        rw [hb] at hv hpt
        obtain ⟨e0, h3, h398⟩ := hv
        cases e0
        obtain ⟨c1, c2, c3, c4⟩ := rBehO_done hk hb
        have h3' := h3
        obtain ⟨d4, d5, d12, d19, dk, dA⟩ := h3
        have bN : b.2.1 = s2.2.1 := by rw [c3]; rfl
        refine z_if_ne C 54 58 d_M_readExpression_51 rfl (by decide) (fun h9 => absurd (show (0 : Int32) = 0 from rfl) h9) (fun _ => ?_)
        refine z_iconst C 55 d_M_readExpression_54 rfl 1 (by decide) ?_
        refine z_goto C 59 d_M_readExpression_55 (by decide) ?_
        refine z_istore_n C 60 d_M_readExpression_59 rfl (by decide) ?_
        refine z_iload_n C 61 d_M_readExpression_60 rfl rfl ?_
        refine z_if_eq C 64 29 d_M_readExpression_61 rfl (by decide) (fun h9 => absurd h9 (show ¬ (1 : Int32) = 0 by decide)) (fun _ => ?_)
        refine z_aload_n C 65 d_M_readExpression_64 rfl rfl ?_
        refine zm_get C 68 f_M_104 d_M_readExpression_65 rfl hn rfl ?_
        rw [d5]
        refine z_if_eq C 71 74 d_M_readExpression_68 rfl (by decide) (fun _ => ?_) (fun h9 => absurd (show (0 : Int32) = 0 from rfl) h9)
        refine z_aload_n C 75 d_M_readExpression_74 rfl rfl ?_
        refine z_dup C 76 d_M_readExpression_75 rfl rfl ?_
        refine zm_get C 79 f_M_129 d_M_readExpression_76 rfl hn rfl ?_
        rw [d19]
        refine z_iconst C 80 d_M_readExpression_79 rfl 1 (by decide) ?_
        refine z_isub C 81 d_M_readExpression_80 rfl ?_
        rw [nI_p1]
        refine zm_puti C 84 p_M_129 d_M_readExpression_81 rfl hn (by decide) (rfl) rfl rfl ?_
        refine z_aload_n C 85 d_M_readExpression_84 rfl rfl ?_
        refine zm_get C 88 f_M_30 d_M_readExpression_85 rfl hn rfl ?_
        refine z_aload_n C 89 d_M_readExpression_88 rfl rfl ?_
        refine zm_get C 92 f_M_52 d_M_readExpression_89 rfl hn rfl ?_
        refine z_aload_n C 93 d_M_readExpression_92 rfl rfl ?_
        refine zm_get C 96 f_M_129 d_M_readExpression_93 rfl hn rfl ?_
        refine zm_iald C 97 op d_M_readExpression_96 rfl hn (by decide) (by decide) (by decide) rfl (by show op < 80; omega) (by decide) ?_
        rw [show A3 98 op = nI (1200 + i) by rw [h398]; exact g98]
        refine z_sipush C 100 d_M_readExpression_97 rfl 1200 (by decide) ?_
        refine z_aload_n C 101 d_M_readExpression_100 rfl rfl ?_
        refine zm_get C 104 f_M_126 d_M_readExpression_101 rfl hn rfl ?_
        rw [show (upd S3 19 (nI op)) 12 = nI b.2.1 from d12]
        refine z_iadd C 105 d_M_readExpression_104 rfl ?_
        rw [show (1200 : Int32) + nI b.2.1 = nI (1200 + b.2.1) from nI_add 1200 _]
        refine zm_iast C 106 (1200+i) d_M_readExpression_105 rfl hn (by decide) (by decide) (by decide) rfl (by show 1200 + i < 1350; omega) (by decide) ?_
        refine z_goto C 29 d_M_readExpression_106 (by decide) ?_
        exact kO (rClose i vw b) _ _ ((hpt _).mpr rfl) (mRd_close h3' rfl (fun k hk => upd_ne hk)) (fun j hj => by show A3 98 j = _; rw [h398, hp2 j (by omega)])
theorem mx_all (C : zC G K y_M_readExpression b_M_readExpression 3 none []) (hn : 113 ≤ n) (hfr : 5 ≤ (kR K).frames) (hlo : 8 + (6 + 11) + 60 * 4 ≤ (kR K).locals) : ∀ d, mEX G K n σ S0 L rn T z d
  | 0 => by
    intro op s S A hop h ht kI kO
    obtain rfl : op = 8 := by omega
    have h' := h
    obtain ⟨a4, a5, a12, a19, ak, aA⟩ := h
    refine z_iload_n C 10 d_M_readExpression_9 rfl rfl ?_
    refine z_if_eq C 13 122 d_M_readExpression_10 rfl (by decide) (fun h9 => absurd h9 (show ¬ (1 : Int32) = 0 by decide)) (fun _ => ?_)
    refine z_aload_n C 14 d_M_readExpression_13 rfl rfl ?_
    refine zm_get C 17 f_M_104 d_M_readExpression_14 rfl hn rfl ?_
    rw [a5]
    refine z_if_ne C 20 122 d_M_readExpression_17 rfl (by decide) (fun h9 => absurd (show (0 : Int32) = 0 from rfl) h9) (fun _ => ?_)
    refine z_iload_n C 21 d_M_readExpression_20 rfl rfl ?_
    refine z_if_ne C 24 29 d_M_readExpression_21 rfl (by decide) (fun h9 => absurd (show (0 : Int32) = 0 from rfl) h9) (fun _ => ?_)
    refine z_aload_n C 25 d_M_readExpression_24 rfl rfl ?_
    refine z_call C 28 (c_M_beginExpression_8 hn h') w_M_beginExpression ini_M d_M_readExpression_25 rfl (z_goV (As := []) C l_M_152 w_M_beginExpression d_M_readExpression_25 (by omega) rfl rfl rfl) (Nat.le_of_ble_eq_true rfl) (by omega) (by omega) (by omega) (by omega) (fun v n' σ' hv => ?_) (fun x n' σ' hv => ?_)
    rotate_left
    · obtain ⟨e1, S', A', e2, ⟨v, -, e0⟩, -⟩ := hv; cases e0
    obtain ⟨e1, S3, A3, rfl, ⟨v, -, e0⟩, hil⟩ := hv
    obtain rfl : n = n' := e1.symm
    cases e0
    refine z_istore_n C 29 d_M_readExpression_28 rfl (by decide) ?_
    exact mx_ill C hn hil.2.1 (kI s.1 rfl S3 A3 hil)
  | d + 1 => by
    intro op s S A hop h ht kI kO
    have h' := h
    have ht' := ht
    obtain ⟨a4, a5, a12, a19, ak, aA⟩ := h
    obtain ⟨t2, hz, hpz, hN, hT, hch⟩ := ht
    have BX := c_M_beginExpression (G := G) (l := kl K) (L := L) (rn := rn) (σ := σ) hn h' ht' (by omega)
    have H := rHead_tT (T := T) (d := d) (s := s) hz
    have hhd : ∀ res, rdE T z (d + 1) s = res ↔ rOG T z (rdE T z d) s.2.1 (rHead T z s) = res := fun res => by rw [rdE_head]
    refine z_iload_n C 10 d_M_readExpression_9 rfl rfl ?_
    refine z_if_eq C 13 122 d_M_readExpression_10 rfl (by decide) (fun h9 => absurd h9 (show ¬ (1 : Int32) = 0 by decide)) (fun _ => ?_)
    refine z_aload_n C 14 d_M_readExpression_13 rfl rfl ?_
    refine zm_get C 17 f_M_104 d_M_readExpression_14 rfl hn rfl ?_
    rw [a5]
    refine z_if_ne C 20 122 d_M_readExpression_17 rfl (by decide) (fun h9 => absurd (show (0 : Int32) = 0 from rfl) h9) (fun _ => ?_)
    refine z_iload_n C 21 d_M_readExpression_20 rfl rfl ?_
    refine z_if_ne C 24 29 d_M_readExpression_21 rfl (by decide) (fun h9 => absurd (show (0 : Int32) = 0 from rfl) h9) (fun _ => ?_)
    refine z_aload_n C 25 d_M_readExpression_24 rfl rfl ?_
    refine z_call C 28 BX w_M_beginExpression ini_M d_M_readExpression_25 rfl (z_goV (As := []) C l_M_152 w_M_beginExpression d_M_readExpression_25 (by omega) rfl rfl rfl) (Nat.le_of_ble_eq_true rfl) (by omega) (by omega) (by omega) (by omega) (fun v n' σ' hv => ?_) (fun x n' σ' hv => ?_)
    rotate_left
    · obtain ⟨e1, S', A', e2, hv⟩ := hv
      cases hh : rHead T z s with
      | inl q => rw [hh] at hv; obtain ⟨⟨v, -, e0⟩, -⟩ := hv; cases e0
      | inr y => cases y with
        | inl b => rw [hh] at hv; cases hv.1
        | inr b => rw [hh] at hv; cases hv.1
    obtain ⟨e1, S3, A3, rfl, hv⟩ := hv
    obtain rfl : n = n' := e1.symm
    cases hh : rHead T z s with
    | inl q =>
      rw [hh] at hv hhd
      obtain ⟨⟨v, -, e0⟩, hil⟩ := hv
      cases e0
      refine z_istore_n C 29 d_M_readExpression_28 rfl (by decide) ?_
      exact mx_ill C hn hil.2.1 (kI q ((hhd _).mpr rfl) S3 A3 hil)
    | inr y => cases y with
      | inl b =>
        rw [hh] at hv hhd
        obtain ⟨e0, h3, h398⟩ := hv
        cases e0
        refine z_istore_n C 29 d_M_readExpression_28 rfl (by decide) ?_
        exact kO b S3 A3 ((hhd _).mpr rfl) h3 (fun j hj => by rw [h398])
      | inr b =>
        obtain ⟨K0, vw, b⟩ := b
        rw [hh] at hv hhd H
        obtain ⟨e0, h3, h398⟩ := hv
        cases e0
        obtain ⟨hk, ho, hka, hbN⟩ := H
        have hb1 := rHead_le hpz hh
        have hb2 : b.2.1 ≤ b.1 := by
          have r := rdE_hb hpz hh
          omega
        refine z_istore_n C 29 d_M_readExpression_28 rfl (by decide) ?_
        refine mx_more C (mx_parts C hn hfr hlo (mx_all C hn hfr hlo d) (vw := vw) (i := s.2.1) (K0 := K0) (by omega) 4 0 b S3 A3 (by omega) h3 ⟨t2, hz, hb1, hb2, by rw [← hT]; funext q; exact hka 86 q (Or.inl (by decide)), hch⟩ (by omega) (by rw [h398, upd_self]) ho.2.1 ho.2.2.1 hk (fun q hq S' A' hil => ?_) (fun c S' A' hc h' hp' => ?_))
        · exact kI q ((hhd _).mpr hq) S' A' (mIl_ka hka hil)
        · exact kO c S' A' ((hhd _).mpr hc) h' (fun j hj => by rw [hp' j hj, h398, upd_ne (by omega)])
theorem c_M_readExpression {l : Launch} {s : rS} {S : mS} {A : mA} (hn : 113 ≤ n) (h0 : mRd S0 s 0 (upd S 19 0) A) (ht : mTz T z S0 s) : MetZ G l y_M_readExpression b_M_readExpression 3 none [] 5 0 0 [.ref 85] n (mOv S A L rn σ) (fun o n' σ' => o = .returned none ∧ n' = n ∧ ∃ S' A', σ' = mOv S' A' L rn σ ∧ match rdE T z 8 s with
    | .inl q => mIl S0 s.2.2.1 q S' A'
    | .inr b => mRd S0 b 0 S' A') := by
  refine MetZ.of (by decide) (Nat.le_of_ble_eq_true rfl) (fun K hK hR hpo hmc hms C => ?_)
  refine z_aload_n C 1 d_M_readExpression_0 rfl rfl ?_
  refine z_iconst C 2 d_M_readExpression_1 rfl 0 (by decide) ?_
  refine zm_puti C 5 p_M_129 d_M_readExpression_2 rfl hn (by decide) (rfl) rfl rfl ?_
  refine z_iconst C 6 d_M_readExpression_5 rfl 0 (by decide) ?_
  refine z_istore_n C 7 d_M_readExpression_6 rfl (by decide) ?_
  refine z_iconst C 8 d_M_readExpression_7 rfl 1 (by decide) ?_
  refine z_istore_n C 9 d_M_readExpression_8 rfl (by decide) ?_
  refine lv21 C (mx_all C hn (by rw [hR]; exact Nat.le_refl _) (by rw [hR]; decide) 8 0 s _ A rfl h0 ht (fun q hq S' A' hil => ?_) (fun b S' A' hb h' _ => ?_))
  · rw [hpo, hq]
    exact ⟨rfl, rfl, S', A', rfl, hil⟩
  · have h'' := h'
    obtain ⟨a4, a5, a12, a19, ak, aA⟩ := h''
    have e122 : ∀ m, Z G K n (mOv S' A' L rn σ) 0 0 122 (lvR 1 m) [] := fun m => z_vret C rfl d_M_readExpression_122 (by rw [hpo, hb]; exact ⟨rfl, rfl, S', A', rfl, h'⟩) (by omega) (by omega)
    refine z_iload_n C 30 d_M_readExpression_29 rfl rfl ?_
    refine z_if_eq C 33 109 d_M_readExpression_30 rfl (by decide) (fun h9 => absurd h9 (show ¬ (1 : Int32) = 0 by decide)) (fun _ => ?_)
    refine z_aload_n C 34 d_M_readExpression_33 rfl rfl ?_
    refine zm_get C 37 f_M_104 d_M_readExpression_34 rfl hn rfl ?_
    rw [a5]
    refine z_if_ne C 40 109 d_M_readExpression_37 rfl (by decide) (fun h9 => absurd (show (0 : Int32) = 0 from rfl) h9) (fun _ => ?_)
    refine z_aload_n C 41 d_M_readExpression_40 rfl rfl ?_
    refine zm_get C 44 f_M_129 d_M_readExpression_41 rfl hn rfl ?_
    rw [a19]
    refine z_if_le C 47 109 d_M_readExpression_44 rfl (by decide) (fun _ => ?_) (fun h9 => absurd (show nI 0 ≤ 0 by decide) h9)
    refine z_iload_n C 110 d_M_readExpression_109 rfl rfl ?_
    refine z_if_ne C 113 117 d_M_readExpression_110 rfl (by decide) (fun _ => ?_) (fun h9 => absurd h9 (show ¬ (1 : Int32) = 0 by decide))
    refine z_iconst C 118 d_M_readExpression_117 rfl 0 (by decide) ?_
    refine z_istore_n C 119 d_M_readExpression_118 rfl (by decide) ?_
    refine z_goto C 9 d_M_readExpression_119 (by decide) ?_
    refine lv21 C ?_
    refine z_iload_n C 10 d_M_readExpression_9 rfl rfl ?_
    refine z_if_eq C 13 122 d_M_readExpression_10 rfl (by decide) (fun _ => ?_) (fun h9 => absurd (show (0 : Int32) = 0 from rfl) h9)
    exact e122 0
end MRX
