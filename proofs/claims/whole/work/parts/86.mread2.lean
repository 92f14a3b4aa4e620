/-! the reference's reading: what holds while it reads (s: place, nodes, arrays; op: how many are open), and once the text is ill -/
def mRd (S0 : mS) (s : rS) (op : Nat) (S : mS) (A : mA) : Prop := S 4 = nI s.1 ∧ S 5 = 0 ∧ S 12 = nI s.2.1 ∧ S 19 = nI op ∧ (∀ k, k ≠ 4 → k ≠ 5 → k ≠ 12 → k ≠ 19 → S k = S0 k) ∧ ∀ a, a ≠ 98 → a ≠ 99 → A a = s.2.2.1 a
def mIl (S0 : mS) (A0 : mA) (q : Nat) (S : mS) (A : mA) : Prop := S 4 = nI q ∧ S 5 = 1 ∧ (∀ k, k ≠ 4 → k ≠ 5 → k ≠ 12 → k ≠ 19 → S k = S0 k) ∧ ∀ a k, a ≠ 98 → a ≠ 99 → (a < 87 ∨ 91 < a ∨ k < 1200) → A a k = A0 a k
/-- the text T of z characters -/
def mTz (T : Nat → Int32) (z : Nat) (S0 : mS) (s : rS) : Prop := S0 2 = nI z ∧ z ≤ 150 ∧ s.1 ≤ z ∧ s.2.1 ≤ s.1 ∧ s.2.2.1 86 = T ∧ ∀ i, i < 150 → narrow .char (.int (T i)) = .int (T i)
def mPu (A : mA) (k : Nat) (x : Int32) : mA := va_up (va_up A 98 (upd (A 98) k x)) 99 (upd (A 99) k 0)
theorem d_M_node_0 : decode b_M_node 0 = .ok (.sipush 1200, 3) := by decide +kernel
theorem d_M_node_3 : decode b_M_node 3 = .ok (.aload_n 0, 1) := by decide +kernel
theorem d_M_node_4 : decode b_M_node 4 = .ok (.getfield 126, 3) := by decide +kernel
theorem d_M_node_7 : decode b_M_node 7 = .ok (.iadd, 1) := by decide +kernel
theorem d_M_node_8 : decode b_M_node 8 = .ok (.istore 4, 2) := by decide +kernel
theorem d_M_node_10 : decode b_M_node 10 = .ok (.aload_n 0, 1) := by decide +kernel
theorem d_M_node_11 : decode b_M_node 11 = .ok (.getfield 17, 3) := by decide +kernel
theorem d_M_node_14 : decode b_M_node 14 = .ok (.iload 4, 2) := by decide +kernel
theorem d_M_node_16 : decode b_M_node 16 = .ok (.iload_n 1, 1) := by decide +kernel
theorem d_M_node_17 : decode b_M_node 17 = .ok (.iastore, 1) := by decide +kernel
theorem d_M_node_18 : decode b_M_node 18 = .ok (.aload_n 0, 1) := by decide +kernel
theorem d_M_node_19 : decode b_M_node 19 = .ok (.getfield 21, 3) := by decide +kernel
theorem d_M_node_22 : decode b_M_node 22 = .ok (.iload 4, 2) := by decide +kernel
theorem d_M_node_24 : decode b_M_node 24 = .ok (.iload_n 2, 1) := by decide +kernel
theorem d_M_node_25 : decode b_M_node 25 = .ok (.iastore, 1) := by decide +kernel
theorem d_M_node_26 : decode b_M_node 26 = .ok (.aload_n 0, 1) := by decide +kernel
theorem d_M_node_27 : decode b_M_node 27 = .ok (.getfield 24, 3) := by decide +kernel
theorem d_M_node_30 : decode b_M_node 30 = .ok (.iload 4, 2) := by decide +kernel
theorem d_M_node_32 : decode b_M_node 32 = .ok (.iload_n 3, 1) := by decide +kernel
theorem d_M_node_33 : decode b_M_node 33 = .ok (.iastore, 1) := by decide +kernel
theorem d_M_node_34 : decode b_M_node 34 = .ok (.aload_n 0, 1) := by decide +kernel
theorem d_M_node_35 : decode b_M_node 35 = .ok (.getfield 27, 3) := by decide +kernel
theorem d_M_node_38 : decode b_M_node 38 = .ok (.iload 4, 2) := by decide +kernel
theorem d_M_node_40 : decode b_M_node 40 = .ok (.iconst 0, 1) := by decide +kernel
theorem d_M_node_41 : decode b_M_node 41 = .ok (.iastore, 1) := by decide +kernel
theorem d_M_node_42 : decode b_M_node 42 = .ok (.aload_n 0, 1) := by decide +kernel
theorem d_M_node_43 : decode b_M_node 43 = .ok (.getfield 30, 3) := by decide +kernel
theorem d_M_node_46 : decode b_M_node 46 = .ok (.iload 4, 2) := by decide +kernel
theorem d_M_node_48 : decode b_M_node 48 = .ok (.iload 4, 2) := by decide +kernel
theorem d_M_node_50 : decode b_M_node 50 = .ok (.iconst 1, 1) := by decide +kernel
theorem d_M_node_51 : decode b_M_node 51 = .ok (.iadd, 1) := by decide +kernel
theorem d_M_node_52 : decode b_M_node 52 = .ok (.iastore, 1) := by decide +kernel
theorem d_M_node_53 : decode b_M_node 53 = .ok (.aload_n 0, 1) := by decide +kernel
theorem d_M_node_54 : decode b_M_node 54 = .ok (.dup, 1) := by decide +kernel
theorem d_M_node_55 : decode b_M_node 55 = .ok (.getfield 126, 3) := by decide +kernel
theorem d_M_node_58 : decode b_M_node 58 = .ok (.iconst 1, 1) := by decide +kernel
theorem d_M_node_59 : decode b_M_node 59 = .ok (.iadd, 1) := by decide +kernel
theorem d_M_node_60 : decode b_M_node 60 = .ok (.putfield 126, 3) := by decide +kernel
theorem d_M_node_63 : decode b_M_node 63 = .ok (.iload 4, 2) := by decide +kernel
theorem d_M_node_65 : decode b_M_node 65 = .ok (.ireturn, 1) := by decide +kernel
theorem d_M_push_0 : decode b_M_push 0 = .ok (.aload_n 0, 1) := by decide +kernel
theorem d_M_push_1 : decode b_M_push 1 = .ok (.getfield 52, 3) := by decide +kernel
theorem d_M_push_4 : decode b_M_push 4 = .ok (.aload_n 0, 1) := by decide +kernel
theorem d_M_push_5 : decode b_M_push 5 = .ok (.getfield 129, 3) := by decide +kernel
theorem d_M_push_8 : decode b_M_push 8 = .ok (.iload_n 1, 1) := by decide +kernel
theorem d_M_push_9 : decode b_M_push 9 = .ok (.iastore, 1) := by decide +kernel
theorem d_M_push_10 : decode b_M_push 10 = .ok (.aload_n 0, 1) := by decide +kernel
theorem d_M_push_11 : decode b_M_push 11 = .ok (.getfield 55, 3) := by decide +kernel
theorem d_M_push_14 : decode b_M_push 14 = .ok (.aload_n 0, 1) := by decide +kernel
theorem d_M_push_15 : decode b_M_push 15 = .ok (.getfield 129, 3) := by decide +kernel
theorem d_M_push_18 : decode b_M_push 18 = .ok (.iconst 0, 1) := by decide +kernel
theorem d_M_push_19 : decode b_M_push 19 = .ok (.iastore, 1) := by decide +kernel
theorem d_M_push_20 : decode b_M_push 20 = .ok (.aload_n 0, 1) := by decide +kernel
theorem d_M_push_21 : decode b_M_push 21 = .ok (.dup, 1) := by decide +kernel
theorem d_M_push_22 : decode b_M_push 22 = .ok (.getfield 129, 3) := by decide +kernel
theorem d_M_push_25 : decode b_M_push 25 = .ok (.iconst 1, 1) := by decide +kernel
theorem d_M_push_26 : decode b_M_push 26 = .ok (.iadd, 1) := by decide +kernel
theorem d_M_push_27 : decode b_M_push 27 = .ok (.putfield 129, 3) := by decide +kernel
theorem d_M_push_30 : decode b_M_push 30 = .ok (.return_, 1) := by decide +kernel
theorem d_M_beginOther_0 : decode b_M_beginOther 0 = .ok (.iload_n 1, 1) := by decide +kernel
theorem d_M_beginOther_1 : decode b_M_beginOther 1 = .ok (.bipush 40, 2) := by decide +kernel
theorem d_M_beginOther_3 : decode b_M_beginOther 3 = .ok (.if_icmp .eq 21, 3) := by decide +kernel
theorem d_M_beginOther_6 : decode b_M_beginOther 6 = .ok (.iload_n 1, 1) := by decide +kernel
theorem d_M_beginOther_7 : decode b_M_beginOther 7 = .ok (.bipush 63, 2) := by decide +kernel
theorem d_M_beginOther_9 : decode b_M_beginOther 9 = .ok (.if_icmp .eq 15, 3) := by decide +kernel
theorem d_M_beginOther_12 : decode b_M_beginOther 12 = .ok (.iload_n 1, 1) := by decide +kernel
theorem d_M_beginOther_13 : decode b_M_beginOther 13 = .ok (.bipush 64, 2) := by decide +kernel
theorem d_M_beginOther_15 : decode b_M_beginOther 15 = .ok (.if_icmp .eq 9, 3) := by decide +kernel
theorem d_M_beginOther_18 : decode b_M_beginOther 18 = .ok (.iload_n 1, 1) := by decide +kernel
theorem d_M_beginOther_19 : decode b_M_beginOther 19 = .ok (.bipush 37, 2) := by decide +kernel
theorem d_M_beginOther_21 : decode b_M_beginOther 21 = .ok (.if_icmp .ne 57, 3) := by decide +kernel
theorem d_M_beginOther_24 : decode b_M_beginOther 24 = .ok (.aload_n 0, 1) := by decide +kernel
theorem d_M_beginOther_25 : decode b_M_beginOther 25 = .ok (.dup, 1) := by decide +kernel
theorem d_M_beginOther_26 : decode b_M_beginOther 26 = .ok (.getfield 108, 3) := by decide +kernel
theorem d_M_beginOther_29 : decode b_M_beginOther 29 = .ok (.iconst 1, 1) := by decide +kernel
theorem d_M_beginOther_30 : decode b_M_beginOther 30 = .ok (.iadd, 1) := by decide +kernel
theorem d_M_beginOther_31 : decode b_M_beginOther 31 = .ok (.putfield 108, 3) := by decide +kernel
theorem d_M_beginOther_34 : decode b_M_beginOther 34 = .ok (.aload_n 0, 1) := by decide +kernel
theorem d_M_beginOther_35 : decode b_M_beginOther 35 = .ok (.aload_n 0, 1) := by decide +kernel
theorem d_M_beginOther_36 : decode b_M_beginOther 36 = .ok (.iload_n 1, 1) := by decide +kernel
theorem d_M_beginOther_37 : decode b_M_beginOther 37 = .ok (.bipush 40, 2) := by decide +kernel
theorem d_M_beginOther_39 : decode b_M_beginOther 39 = .ok (.if_icmp .ne 7, 3) := by decide +kernel
theorem d_M_beginOther_42 : decode b_M_beginOther 42 = .ok (.iconst 2, 1) := by decide +kernel
theorem d_M_beginOther_43 : decode b_M_beginOther 43 = .ok (.goto 25, 3) := by decide +kernel
theorem d_M_beginOther_46 : decode b_M_beginOther 46 = .ok (.iload_n 1, 1) := by decide +kernel
theorem d_M_beginOther_47 : decode b_M_beginOther 47 = .ok (.bipush 63, 2) := by decide +kernel
theorem d_M_beginOther_49 : decode b_M_beginOther 49 = .ok (.if_icmp .ne 7, 3) := by decide +kernel
theorem d_M_beginOther_52 : decode b_M_beginOther 52 = .ok (.iconst 3, 1) := by decide +kernel
theorem d_M_beginOther_53 : decode b_M_beginOther 53 = .ok (.goto 15, 3) := by decide +kernel
theorem d_M_beginOther_56 : decode b_M_beginOther 56 = .ok (.iload_n 1, 1) := by decide +kernel
theorem d_M_beginOther_57 : decode b_M_beginOther 57 = .ok (.bipush 64, 2) := by decide +kernel
theorem d_M_beginOther_59 : decode b_M_beginOther 59 = .ok (.if_icmp .ne 7, 3) := by decide +kernel
theorem d_M_beginOther_62 : decode b_M_beginOther 62 = .ok (.iconst 5, 1) := by decide +kernel
theorem d_M_beginOther_63 : decode b_M_beginOther 63 = .ok (.goto 5, 3) := by decide +kernel
theorem d_M_beginOther_66 : decode b_M_beginOther 66 = .ok (.bipush 6, 2) := by decide +kernel
theorem d_M_beginOther_68 : decode b_M_beginOther 68 = .ok (.iconst 0, 1) := by decide +kernel
theorem d_M_beginOther_69 : decode b_M_beginOther 69 = .ok (.iload_n 2, 1) := by decide +kernel
theorem d_M_beginOther_70 : decode b_M_beginOther 70 = .ok (.invokevirtual 136, 3) := by decide +kernel
theorem d_M_beginOther_73 : decode b_M_beginOther 73 = .ok (.invokevirtual 144, 3) := by decide +kernel
theorem d_M_beginOther_76 : decode b_M_beginOther 76 = .ok (.iconst 0, 1) := by decide +kernel
theorem d_M_beginOther_77 : decode b_M_beginOther 77 = .ok (.ireturn, 1) := by decide +kernel
theorem d_M_beginOther_78 : decode b_M_beginOther 78 = .ok (.iload_n 1, 1) := by decide +kernel
theorem d_M_beginOther_79 : decode b_M_beginOther 79 = .ok (.bipush 38, 2) := by decide +kernel
theorem d_M_beginOther_81 : decode b_M_beginOther 81 = .ok (.if_icmp .eq 9, 3) := by decide +kernel
theorem d_M_beginOther_84 : decode b_M_beginOther 84 = .ok (.iload_n 1, 1) := by decide +kernel
theorem d_M_beginOther_85 : decode b_M_beginOther 85 = .ok (.bipush 126, 2) := by decide +kernel
theorem d_M_beginOther_87 : decode b_M_beginOther 87 = .ok (.if_icmp .ne 70, 3) := by decide +kernel
theorem d_M_beginOther_90 : decode b_M_beginOther 90 = .ok (.aload_n 0, 1) := by decide +kernel
theorem d_M_beginOther_91 : decode b_M_beginOther 91 = .ok (.dup, 1) := by decide +kernel
theorem d_M_beginOther_92 : decode b_M_beginOther 92 = .ok (.getfield 108, 3) := by decide +kernel
theorem d_M_beginOther_95 : decode b_M_beginOther 95 = .ok (.iconst 1, 1) := by decide +kernel
theorem d_M_beginOther_96 : decode b_M_beginOther 96 = .ok (.iadd, 1) := by decide +kernel
theorem d_M_beginOther_97 : decode b_M_beginOther 97 = .ok (.putfield 108, 3) := by decide +kernel
theorem d_M_beginOther_100 : decode b_M_beginOther 100 = .ok (.aload_n 0, 1) := by decide +kernel
theorem d_M_beginOther_101 : decode b_M_beginOther 101 = .ok (.bipush 97, 2) := by decide +kernel
theorem d_M_beginOther_103 : decode b_M_beginOther 103 = .ok (.bipush 116, 2) := by decide +kernel
theorem d_M_beginOther_105 : decode b_M_beginOther 105 = .ok (.invokevirtual 132, 3) := by decide +kernel
theorem d_M_beginOther_108 : decode b_M_beginOther 108 = .ok (.istore_n 3, 1) := by decide +kernel
theorem d_M_beginOther_109 : decode b_M_beginOther 109 = .ok (.aload_n 0, 1) := by decide +kernel
theorem d_M_beginOther_110 : decode b_M_beginOther 110 = .ok (.aload_n 0, 1) := by decide +kernel
theorem d_M_beginOther_111 : decode b_M_beginOther 111 = .ok (.iload_n 1, 1) := by decide +kernel
theorem d_M_beginOther_112 : decode b_M_beginOther 112 = .ok (.bipush 38, 2) := by decide +kernel
theorem d_M_beginOther_114 : decode b_M_beginOther 114 = .ok (.if_icmp .ne 8, 3) := by decide +kernel
theorem d_M_beginOther_117 : decode b_M_beginOther 117 = .ok (.bipush 61, 2) := by decide +kernel
theorem d_M_beginOther_119 : decode b_M_beginOther 119 = .ok (.goto 5, 3) := by decide +kernel
theorem d_M_beginOther_122 : decode b_M_beginOther 122 = .ok (.bipush 59, 2) := by decide +kernel
theorem d_M_beginOther_124 : decode b_M_beginOther 124 = .ok (.invokevirtual 140, 3) := by decide +kernel
theorem d_M_beginOther_127 : decode b_M_beginOther 127 = .ok (.invokevirtual 122, 3) := by decide +kernel
theorem d_M_beginOther_130 : decode b_M_beginOther 130 = .ok (.aload_n 0, 1) := by decide +kernel
theorem d_M_beginOther_131 : decode b_M_beginOther 131 = .ok (.aload_n 0, 1) := by decide +kernel
theorem d_M_beginOther_132 : decode b_M_beginOther 132 = .ok (.iload_n 1, 1) := by decide +kernel
theorem d_M_beginOther_133 : decode b_M_beginOther 133 = .ok (.bipush 38, 2) := by decide +kernel
theorem d_M_beginOther_135 : decode b_M_beginOther 135 = .ok (.if_icmp .ne 7, 3) := by decide +kernel
theorem d_M_beginOther_138 : decode b_M_beginOther 138 = .ok (.iconst 4, 1) := by decide +kernel
theorem d_M_beginOther_139 : decode b_M_beginOther 139 = .ok (.goto 5, 3) := by decide +kernel
theorem d_M_beginOther_142 : decode b_M_beginOther 142 = .ok (.bipush 12, 2) := by decide +kernel
theorem d_M_beginOther_144 : decode b_M_beginOther 144 = .ok (.iload_n 3, 1) := by decide +kernel
theorem d_M_beginOther_145 : decode b_M_beginOther 145 = .ok (.iload_n 2, 1) := by decide +kernel
theorem d_M_beginOther_146 : decode b_M_beginOther 146 = .ok (.invokevirtual 136, 3) := by decide +kernel
theorem d_M_beginOther_149 : decode b_M_beginOther 149 = .ok (.invokevirtual 144, 3) := by decide +kernel
theorem d_M_beginOther_152 : decode b_M_beginOther 152 = .ok (.aload_n 0, 1) := by decide +kernel
theorem d_M_beginOther_153 : decode b_M_beginOther 153 = .ok (.getfield 104, 3) := by decide +kernel
theorem d_M_beginOther_156 : decode b_M_beginOther 156 = .ok (.ireturn, 1) := by decide +kernel
theorem d_M_beginOther_157 : decode b_M_beginOther 157 = .ok (.aload_n 0, 1) := by decide +kernel
theorem d_M_beginOther_158 : decode b_M_beginOther 158 = .ok (.bipush 65, 2) := by decide +kernel
theorem d_M_beginOther_160 : decode b_M_beginOther 160 = .ok (.bipush 72, 2) := by decide +kernel
theorem d_M_beginOther_162 : decode b_M_beginOther 162 = .ok (.invokevirtual 132, 3) := by decide +kernel
theorem d_M_beginOther_165 : decode b_M_beginOther 165 = .ok (.istore_n 3, 1) := by decide +kernel
theorem d_M_beginOther_166 : decode b_M_beginOther 166 = .ok (.aload_n 0, 1) := by decide +kernel
theorem d_M_beginOther_167 : decode b_M_beginOther 167 = .ok (.aload_n 0, 1) := by decide +kernel
theorem d_M_beginOther_168 : decode b_M_beginOther 168 = .ok (.bipush 40, 2) := by decide +kernel
theorem d_M_beginOther_170 : decode b_M_beginOther 170 = .ok (.invokevirtual 140, 3) := by decide +kernel
theorem d_M_beginOther_173 : decode b_M_beginOther 173 = .ok (.invokevirtual 122, 3) := by decide +kernel
theorem d_M_beginOther_176 : decode b_M_beginOther 176 = .ok (.aload_n 0, 1) := by decide +kernel
theorem d_M_beginOther_177 : decode b_M_beginOther 177 = .ok (.getfield 104, 3) := by decide +kernel
theorem d_M_beginOther_180 : decode b_M_beginOther 180 = .ok (.ifCond .eq 5, 3) := by decide +kernel
theorem d_M_beginOther_183 : decode b_M_beginOther 183 = .ok (.iconst 1, 1) := by decide +kernel
theorem d_M_beginOther_184 : decode b_M_beginOther 184 = .ok (.ireturn, 1) := by decide +kernel
theorem d_M_beginOther_185 : decode b_M_beginOther 185 = .ok (.aload_n 0, 1) := by decide +kernel
theorem d_M_beginOther_186 : decode b_M_beginOther 186 = .ok (.bipush 13, 2) := by decide +kernel
theorem d_M_beginOther_188 : decode b_M_beginOther 188 = .ok (.iload_n 3, 1) := by decide +kernel
theorem d_M_beginOther_189 : decode b_M_beginOther 189 = .ok (.iload_n 2, 1) := by decide +kernel
theorem d_M_beginOther_190 : decode b_M_beginOther 190 = .ok (.invokevirtual 136, 3) := by decide +kernel
theorem d_M_beginOther_193 : decode b_M_beginOther 193 = .ok (.istore 4, 2) := by decide +kernel
theorem d_M_beginOther_195 : decode b_M_beginOther 195 = .ok (.aload_n 0, 1) := by decide +kernel
theorem d_M_beginOther_196 : decode b_M_beginOther 196 = .ok (.bipush 41, 2) := by decide +kernel
theorem d_M_beginOther_198 : decode b_M_beginOther 198 = .ok (.invokevirtual 140, 3) := by decide +kernel
theorem d_M_beginOther_201 : decode b_M_beginOther 201 = .ok (.ifCond .eq 5, 3) := by decide +kernel
theorem d_M_beginOther_204 : decode b_M_beginOther 204 = .ok (.iconst 1, 1) := by decide +kernel
theorem d_M_beginOther_205 : decode b_M_beginOther 205 = .ok (.ireturn, 1) := by decide +kernel
theorem d_M_beginOther_206 : decode b_M_beginOther 206 = .ok (.aload_n 0, 1) := by decide +kernel
theorem d_M_beginOther_207 : decode b_M_beginOther 207 = .ok (.iload 4, 2) := by decide +kernel
theorem d_M_beginOther_209 : decode b_M_beginOther 209 = .ok (.invokevirtual 144, 3) := by decide +kernel
theorem d_M_beginOther_212 : decode b_M_beginOther 212 = .ok (.iconst 0, 1) := by decide +kernel
theorem d_M_beginOther_213 : decode b_M_beginOther 213 = .ok (.ireturn, 1) := by decide +kernel
section MRD
variable {G : zG} {l : Launch} {n : Nat} {σ : zS} {S S0 : mS} {A : mA} {L : mL} {rn : Int64} {T : Nat → Int32} {z op : Nat} {s : rS}
theorem mPu_ne {k a : Nat} {x : Int32} (h1 : a ≠ 98) (h2 : a ≠ 99) : mPu A k x a = A a := by
  unfold mPu
  rw [va_up_ne _ _ h2, va_up_ne _ _ h1]
theorem mPu_98 {k : Nat} {x : Int32} : mPu A k x 98 = upd (A 98) k x := rfl
theorem rFlat_cg {A' : mA} {i K w0 a : Nat} {x : Int32} (h : ∀ a, a ≠ 98 → a ≠ 99 → A a = A' a) (h1 : a ≠ 98) (h2 : a ≠ 99) : rFlat A i K x w0 a = rFlat A' i K x w0 a := by
  funext k
  by_cases q : a < 87 ∨ 91 < a ∨ k ≠ 1200 + i
  · rw [rFlat_ne q, rFlat_ne q, h a h1 h2]
  · obtain rfl : k = 1200 + i := by omega
    have hc : a = 87 ∨ a = 88 ∨ a = 89 ∨ a = 90 ∨ a = 91 := by omega
    rcases hc with rfl | rfl | rfl | rfl | rfl
    · rw [rFlat_87, rFlat_87]
    · rw [rFlat_88, rFlat_88]
    · rw [rFlat_89, rFlat_89]
    · rw [rFlat_90, rFlat_90]
    · rw [rFlat_91, rFlat_91]
theorem mRd_node {S' : mS} {A' : mA} {K w0 q op' : Nat} {x : Int32} {e : eN} (h : mRd S0 s op S A) (h4 : S' 4 = nI q) (h5 : S' 5 = 0) (h12 : S' 12 = nI (s.2.1 + 1)) (h19 : S' 19 = nI op') (hk : ∀ k, k ≠ 4 → k ≠ 5 → k ≠ 12 → k ≠ 19 → S' k = S k) (hA : ∀ a, a ≠ 98 → a ≠ 99 → A' a = rFlat A s.2.1 K x w0 a) : mRd S0 (rGo (rNode K x w0 e s) q) op' S' A' := by
  obtain ⟨g1, g2, g3, g4, g5, g6⟩ := h
  exact ⟨h4, h5, h12, h19, fun k a b c d => (hk k a b c d).trans (g5 k a b c d), fun a h1 h2 => (hA a h1 h2).trans (rFlat_cg g6 h1 h2)⟩
theorem mIl_mk {S' : mS} {A' : mA} {q : Nat} (h : mRd S0 s op S A) (h4 : S' 4 = nI q) (h5 : S' 5 = 1) (hk : ∀ k, k ≠ 4 → k ≠ 5 → k ≠ 12 → k ≠ 19 → S' k = S k) (hA : ∀ a k, a ≠ 98 → a ≠ 99 → (a < 87 ∨ 91 < a ∨ k < 1200) → A' a k = A a k) : mIl S0 s.2.2.1 q S' A' := by
  obtain ⟨g1, g2, g3, g4, g5, g6⟩ := h
  exact ⟨h4, h5, fun k a b c d => (hk k a b c d).trans (g5 k a b c d), fun a k h1 h2 h3 => (hA a k h1 h2 h3).trans (by rw [g6 a h1 h2])⟩
theorem mlk_0 {S' : mS} {A' : mA} {q : Nat} (hA : A' 86 = T) (h5 : S' 5 = 0) : mlk S' A' q z = rlk T z q := by
  unfold mlk rlk
  by_cases h : q < z
  · rw [if_pos ⟨h5, h⟩, if_pos h, hA]
  · rw [if_neg (fun w => h w.2), if_neg h]
theorem mlk_1 {S' : mS} {A' : mA} {q : Nat} (h5 : S' 5 = 1) : mlk S' A' q z = 0 := by
  unfold mlk
  rw [if_neg (fun w => by rw [h5] at w; exact absurd w.1 (by decide))]
theorem c_M_node {i : Nat} (hn : 113 ≤ n) (h12 : S 12 = nI i) (hi : i < 150) (k : Nat) (x : Int32) (w0 : Nat) : MetZ G l y_M_node b_M_node 5 (some .int) [] 0 0 0 [.ref 85, .int (nI k), .int x, .int (nI w0)] n (mOv S A L rn σ) (fun o n' σ' => o = .returned (some (.int (nI (1200 + i)))) ∧ n' = n ∧ σ' = mOv (upd S 12 (nI (i + 1))) (rFlat A i k x w0) L rn σ) := by
  refine MetZ.of (by decide) (Nat.le_of_ble_eq_true rfl) (fun K hK hR hpo hmc hms C => ?_)
  refine z_sipush C 3 d_M_node_0 rfl 1200 (by decide) ?_
  refine z_aload_n C 4 d_M_node_3 rfl rfl ?_
  refine zm_get C 7 f_M_126 d_M_node_4 rfl hn rfl ?_
  rw [h12]
  refine z_iadd C 8 d_M_node_7 rfl ?_
  rw [show (1200 : Int32) + nI i = nI (1200 + i) from nI_add 1200 i]
  refine z_istore C 10 d_M_node_8 rfl (by decide) ?_
  refine z_aload_n C 11 d_M_node_10 rfl rfl ?_
  refine zm_get C 14 f_M_17 d_M_node_11 rfl hn rfl ?_
  refine z_iload C 16 d_M_node_14 rfl rfl ?_
  refine z_iload_n C 17 d_M_node_16 rfl rfl ?_
  refine zm_iast C 18 (1200+i) d_M_node_17 rfl hn (by decide) (by decide) (by decide) rfl (by show 1200 + i < 1350; omega) (by decide) ?_
  refine z_aload_n C 19 d_M_node_18 rfl rfl ?_
  refine zm_get C 22 f_M_21 d_M_node_19 rfl hn rfl ?_
  refine z_iload C 24 d_M_node_22 rfl rfl ?_
  refine z_iload_n C 25 d_M_node_24 rfl rfl ?_
  refine zm_iast C 26 (1200+i) d_M_node_25 rfl hn (by decide) (by decide) (by decide) rfl (by show 1200 + i < 1350; omega) (by decide) ?_
  refine z_aload_n C 27 d_M_node_26 rfl rfl ?_
  refine zm_get C 30 f_M_24 d_M_node_27 rfl hn rfl ?_
  refine z_iload C 32 d_M_node_30 rfl rfl ?_
  refine z_iload_n C 33 d_M_node_32 rfl rfl ?_
  refine zm_iast C 34 (1200+i) d_M_node_33 rfl hn (by decide) (by decide) (by decide) rfl (by show 1200 + i < 1350; omega) (by decide) ?_
  refine z_aload_n C 35 d_M_node_34 rfl rfl ?_
  refine zm_get C 38 f_M_27 d_M_node_35 rfl hn rfl ?_
  refine z_iload C 40 d_M_node_38 rfl rfl ?_
  refine z_iconst C 41 d_M_node_40 rfl 0 (by decide) ?_
  refine zm_iast C 42 (1200+i) d_M_node_41 rfl hn (by decide) (by decide) (by decide) rfl (by show 1200 + i < 1350; omega) (by decide) ?_
  refine z_aload_n C 43 d_M_node_42 rfl rfl ?_
  refine zm_get C 46 f_M_30 d_M_node_43 rfl hn rfl ?_
  refine z_iload C 48 d_M_node_46 rfl rfl ?_
  refine z_iload C 50 d_M_node_48 rfl rfl ?_
  refine z_iconst C 51 d_M_node_50 rfl 1 (by decide) ?_
  refine z_iadd C 52 d_M_node_51 rfl ?_
  rw [nI_1]
  refine zm_iast C 53 (1200+i) d_M_node_52 rfl hn (by decide) (by decide) (by decide) rfl (by show 1200 + i < 1350; omega) (by decide) ?_
  refine z_aload_n C 54 d_M_node_53 rfl rfl ?_
  refine z_dup C 55 d_M_node_54 rfl rfl ?_
  refine zm_get C 58 f_M_126 d_M_node_55 rfl hn rfl ?_
  rw [h12]
  refine z_iconst C 59 d_M_node_58 rfl 1 (by decide) ?_
  refine z_iadd C 60 d_M_node_59 rfl ?_
  rw [nI_1]
  refine zm_puti C 63 p_M_126 d_M_node_60 rfl hn (by decide) (rfl) rfl rfl ?_
  refine z_iload C 65 d_M_node_63 rfl rfl ?_
  exact z_iret C rfl d_M_node_65 (by rw [hpo]; exact ⟨rfl, rfl, rfl⟩) (by rw [hmc]; omega) (by rw [hms]; omega)
theorem c_M_push (hn : 113 ≤ n) (h19 : S 19 = nI op) (ho : op < 80) (x : Int32) : MetZ G l y_M_push b_M_push 2 none [] 0 0 0 [.ref 85, .int x] n (mOv S A L rn σ) (fun o n' σ' => o = .returned none ∧ n' = n ∧ σ' = mOv (upd S 19 (nI (op + 1))) (mPu A op x) L rn σ) := by
  refine MetZ.of (by decide) (Nat.le_of_ble_eq_true rfl) (fun K hK hR hpo hmc hms C => ?_)
  refine z_aload_n C 1 d_M_push_0 rfl rfl ?_
  refine zm_get C 4 f_M_52 d_M_push_1 rfl hn rfl ?_
  refine z_aload_n C 5 d_M_push_4 rfl rfl ?_
  refine zm_get C 8 f_M_129 d_M_push_5 rfl hn rfl ?_
  rw [h19]
  refine z_iload_n C 9 d_M_push_8 rfl rfl ?_
  refine zm_iast C 10 op d_M_push_9 rfl hn (by decide) (by decide) (by decide) rfl (by show op < 80; omega) (by decide) ?_
  refine z_aload_n C 11 d_M_push_10 rfl rfl ?_
  refine zm_get C 14 f_M_55 d_M_push_11 rfl hn rfl ?_
  refine z_aload_n C 15 d_M_push_14 rfl rfl ?_
  refine zm_get C 18 f_M_129 d_M_push_15 rfl hn rfl ?_
  rw [h19]
  refine z_iconst C 19 d_M_push_18 rfl 0 (by decide) ?_
  refine zm_iast C 20 op d_M_push_19 rfl hn (by decide) (by decide) (by decide) rfl (by show op < 80; omega) (by decide) ?_
  refine z_aload_n C 21 d_M_push_20 rfl rfl ?_
  refine z_dup C 22 d_M_push_21 rfl rfl ?_
  refine zm_get C 25 f_M_129 d_M_push_22 rfl hn rfl ?_
  rw [h19]
  refine z_iconst C 26 d_M_push_25 rfl 1 (by decide) ?_
  refine z_iadd C 27 d_M_push_26 rfl ?_
  rw [nI_1]
  refine zm_puti C 30 p_M_129 d_M_push_27 rfl hn (by decide) (rfl) rfl rfl ?_
  exact z_vret C rfl d_M_push_30 (by rw [hpo]; exact ⟨rfl, rfl, rfl⟩) (by rw [hmc]; omega) (by rw [hms]; omega)
/-- what an expression's beginning leaves -/
def bPost (S0 : mS) (s : rS) (op n : Nat) (A : mA) (L : mL) (rn : Int64) (σ : zS) (h : rO) : zPost := fun o n' σ' => n' = n ∧ ∃ S' A', σ' = mOv S' A' L rn σ ∧ match h with
  | .inl q => (∃ v, narrow .boolean (.int v) = .int v ∧ o = .returned (some (.int v))) ∧ mIl S0 s.2.2.1 q S' A'
  | .inr (.inl b) => o = .returned (some (.int 1)) ∧ mRd S0 b op S' A' ∧ A' 98 = A 98
  | .inr (.inr (_, _, b)) => o = .returned (some (.int 0)) ∧ mRd S0 b (op + 1) S' A' ∧ A' 98 = upd (A 98) op (nI (1200 + s.2.1))

theorem c_M_beginOther {c : Int32} (hn : 113 ≤ n) (h : mRd S0 s op S A) (ht : mTz T z S0 s) (hp : s.1 < z) (ho : op < 8) (hc : rlk T z s.1 = c) (q1 : ¬ (48 ≤ c ∧ c ≤ 57)) (q2 : ¬ (97 ≤ c ∧ c ≤ 116)) (w35 : ¬ c = 35) (w94 : ¬ c = 94) (w36 : ¬ c = 36) : MetZ G l y_M_beginOther b_M_beginOther 5 (some .boolean) [] 3 0 0 [.ref 85, .int c, .int (nI s.1)] n (mOv S A L rn σ) (bPost S0 s op n A L rn σ (rHead T z s)) := by
  have h0 := h
  obtain ⟨h4, h5, h12, h19, hk0, hA0⟩ := h
  obtain ⟨t2, hz, -, hN, hT, hch⟩ := ht
  have hA86 : A 86 = T := (hA0 86 (by decide) (by decide)).trans hT
  have t2' : S 2 = nI z := (hk0 2 (by decide) (by decide) (by decide) (by decide)).trans t2
  obtain ⟨hd, hhd⟩ : ∃ x, rHead T z s = x := ⟨_, rfl⟩
  rw [hhd]
  unfold rHead at hhd
  rw [hc, if_neg q1, if_neg q2] at hhd
  refine MetZ.of (by decide) (Nat.le_of_ble_eq_true rfl) (fun K hK hR hpo hmc hms C => ?_)

  by_cases w40 : c = 40 ∨ c = 63 ∨ c = 64 ∨ c = 37
  · rcases w40 with rfl | rfl | rfl | rfl
    · rw [if_neg (show ¬ (65 ≤ (40 : Int32) ∧ (40 : Int32) ≤ 72) by decide), if_pos rfl] at hhd
      refine z_iload_n C 1 d_M_beginOther_0 rfl rfl ?_
      refine z_bipush C 3 d_M_beginOther_1 rfl 40 (by decide) ?_
      refine z_icmp_eq C 6 24 d_M_beginOther_3 rfl (by decide) (fun _ => ?_) (fun h9 => absurd (show (40 : Int32) = 40 from rfl) h9)
      refine z_aload_n C 25 d_M_beginOther_24 rfl rfl ?_
      refine z_dup C 26 d_M_beginOther_25 rfl rfl ?_
      refine zm_get C 29 f_M_108 d_M_beginOther_26 rfl hn rfl ?_
      rw [h4]
      refine z_iconst C 30 d_M_beginOther_29 rfl 1 (by decide) ?_
      refine z_iadd C 31 d_M_beginOther_30 rfl ?_
      rw [nI_1]
      refine zm_puti C 34 p_M_108 d_M_beginOther_31 rfl hn (by decide) (rfl) rfl rfl ?_
      refine z_aload_n C 35 d_M_beginOther_34 rfl rfl ?_
      refine z_aload_n C 36 d_M_beginOther_35 rfl rfl ?_
      refine z_iload_n C 37 d_M_beginOther_36 rfl rfl ?_
      refine z_bipush C 39 d_M_beginOther_37 rfl 40 (by decide) ?_
      refine z_icmp_ne C 42 46 d_M_beginOther_39 rfl (by decide) (fun h9 => absurd (show (40 : Int32) = 40 from rfl) h9) (fun _ => ?_)
      refine z_iconst C 43 d_M_beginOther_42 rfl 2 (by decide) ?_
      refine z_goto C 68 d_M_beginOther_43 (by decide) ?_
      refine z_iconst C 69 d_M_beginOther_68 rfl 0 (by decide) ?_
      refine z_iload_n C 70 d_M_beginOther_69 rfl rfl ?_
      refine z_call C 73 (c_M_node (i := s.2.1) hn (by exact h12) (by omega) 2 0 s.1) w_M_node ini_M d_M_beginOther_70 rfl (z_goV (As := [.int (nI 2), .int 0, .int (nI s.1)]) C l_M_136 w_M_node d_M_beginOther_70 (by omega) rfl rfl rfl) (Nat.le_of_ble_eq_true rfl) (by rw [hR]; simp only [zRm]; omega) (by rw [hR]; simp only [zRm]; omega) (by rw [hR]; simp only [zRm]; omega) (by rw [hR]; simp only [zRm]; omega) (fun v n' σ' hv => ?_) (fun x n' σ' hv => ?_)
      rotate_left
      · cases hv.1
      obtain ⟨e0, e1, rfl⟩ := hv
      cases e0
      obtain rfl : n = n' := e1.symm
      refine z_call C 76 (c_M_push (op := op) hn (by exact h19) (by omega) (nI (1200 + s.2.1))) w_M_push ini_M d_M_beginOther_73 rfl (z_goV (As := [.int (nI (1200 + s.2.1))]) C l_M_144 w_M_push d_M_beginOther_73 (by omega) rfl rfl rfl) (Nat.le_of_ble_eq_true rfl) (by rw [hR]; simp only [zRm]; omega) (by rw [hR]; simp only [zRm]; omega) (by rw [hR]; simp only [zRm]; omega) (by rw [hR]; simp only [zRm]; omega) (fun v n' σ' hv => ?_) (fun x n' σ' hv => ?_)
      rotate_left
      · cases hv.1
      obtain ⟨e0, e1, rfl⟩ := hv
      cases e0
      obtain rfl : n = n' := e1.symm
      refine z_iconst C 77 d_M_beginOther_76 rfl 0 (by decide) ?_
      exact z_zret C rfl (rfl) d_M_beginOther_77 (by rw [hpo]; exact (by rw [← hhd]; exact ⟨rfl, _, _, rfl, rfl, mRd_node h0 rfl h5 rfl rfl (fun k a4 a5 a12 a19 => by simp only [upd, if_neg a4, if_neg a5, if_neg a12, if_neg a19]) (fun a h1 h2 => mPu_ne h1 h2), rfl⟩)) (by rw [hmc]; omega) (by rw [hms]; omega)
    · rw [if_neg (show ¬ (65 ≤ (63 : Int32) ∧ (63 : Int32) ≤ 72) by decide), if_neg (show ¬ (63 : Int32) = 40 by decide), if_pos rfl] at hhd
      refine z_iload_n C 1 d_M_beginOther_0 rfl rfl ?_
      refine z_bipush C 3 d_M_beginOther_1 rfl 40 (by decide) ?_
      refine z_icmp_eq C 6 24 d_M_beginOther_3 rfl (by decide) (fun h9 => absurd h9 (show ¬ (63 : Int32) = 40 by decide)) (fun _ => ?_)
      refine z_iload_n C 7 d_M_beginOther_6 rfl rfl ?_
      refine z_bipush C 9 d_M_beginOther_7 rfl 63 (by decide) ?_
      refine z_icmp_eq C 12 24 d_M_beginOther_9 rfl (by decide) (fun _ => ?_) (fun h9 => absurd (show (63 : Int32) = 63 from rfl) h9)
      refine z_aload_n C 25 d_M_beginOther_24 rfl rfl ?_
      refine z_dup C 26 d_M_beginOther_25 rfl rfl ?_
      refine zm_get C 29 f_M_108 d_M_beginOther_26 rfl hn rfl ?_
      rw [h4]
      refine z_iconst C 30 d_M_beginOther_29 rfl 1 (by decide) ?_
      refine z_iadd C 31 d_M_beginOther_30 rfl ?_
      rw [nI_1]
      refine zm_puti C 34 p_M_108 d_M_beginOther_31 rfl hn (by decide) (rfl) rfl rfl ?_
      refine z_aload_n C 35 d_M_beginOther_34 rfl rfl ?_
      refine z_aload_n C 36 d_M_beginOther_35 rfl rfl ?_
      refine z_iload_n C 37 d_M_beginOther_36 rfl rfl ?_
      refine z_bipush C 39 d_M_beginOther_37 rfl 40 (by decide) ?_
      refine z_icmp_ne C 42 46 d_M_beginOther_39 rfl (by decide) (fun _ => ?_) (fun h9 => absurd h9 (show ¬ (63 : Int32) = 40 by decide))
      refine z_iload_n C 47 d_M_beginOther_46 rfl rfl ?_
      refine z_bipush C 49 d_M_beginOther_47 rfl 63 (by decide) ?_
      refine z_icmp_ne C 52 56 d_M_beginOther_49 rfl (by decide) (fun h9 => absurd (show (63 : Int32) = 63 from rfl) h9) (fun _ => ?_)
      refine z_iconst C 53 d_M_beginOther_52 rfl 3 (by decide) ?_
      refine z_goto C 68 d_M_beginOther_53 (by decide) ?_
      refine z_iconst C 69 d_M_beginOther_68 rfl 0 (by decide) ?_
      refine z_iload_n C 70 d_M_beginOther_69 rfl rfl ?_
      refine z_call C 73 (c_M_node (i := s.2.1) hn (by exact h12) (by omega) 3 0 s.1) w_M_node ini_M d_M_beginOther_70 rfl (z_goV (As := [.int (nI 3), .int 0, .int (nI s.1)]) C l_M_136 w_M_node d_M_beginOther_70 (by omega) rfl rfl rfl) (Nat.le_of_ble_eq_true rfl) (by rw [hR]; simp only [zRm]; omega) (by rw [hR]; simp only [zRm]; omega) (by rw [hR]; simp only [zRm]; omega) (by rw [hR]; simp only [zRm]; omega) (fun v n' σ' hv => ?_) (fun x n' σ' hv => ?_)
      rotate_left
      · cases hv.1
      obtain ⟨e0, e1, rfl⟩ := hv
      cases e0
      obtain rfl : n = n' := e1.symm
      refine z_call C 76 (c_M_push (op := op) hn (by exact h19) (by omega) (nI (1200 + s.2.1))) w_M_push ini_M d_M_beginOther_73 rfl (z_goV (As := [.int (nI (1200 + s.2.1))]) C l_M_144 w_M_push d_M_beginOther_73 (by omega) rfl rfl rfl) (Nat.le_of_ble_eq_true rfl) (by rw [hR]; simp only [zRm]; omega) (by rw [hR]; simp only [zRm]; omega) (by rw [hR]; simp only [zRm]; omega) (by rw [hR]; simp only [zRm]; omega) (fun v n' σ' hv => ?_) (fun x n' σ' hv => ?_)
      rotate_left
      · cases hv.1
      obtain ⟨e0, e1, rfl⟩ := hv
      cases e0
      obtain rfl : n = n' := e1.symm
      refine z_iconst C 77 d_M_beginOther_76 rfl 0 (by decide) ?_
      exact z_zret C rfl (rfl) d_M_beginOther_77 (by rw [hpo]; exact (by rw [← hhd]; exact ⟨rfl, _, _, rfl, rfl, mRd_node h0 rfl h5 rfl rfl (fun k a4 a5 a12 a19 => by simp only [upd, if_neg a4, if_neg a5, if_neg a12, if_neg a19]) (fun a h1 h2 => mPu_ne h1 h2), rfl⟩)) (by rw [hmc]; omega) (by rw [hms]; omega)
    · rw [if_neg (show ¬ (65 ≤ (64 : Int32) ∧ (64 : Int32) ≤ 72) by decide), if_neg (show ¬ (64 : Int32) = 40 by decide), if_neg (show ¬ (64 : Int32) = 63 by decide), if_pos rfl] at hhd
      refine z_iload_n C 1 d_M_beginOther_0 rfl rfl ?_
      refine z_bipush C 3 d_M_beginOther_1 rfl 40 (by decide) ?_
      refine z_icmp_eq C 6 24 d_M_beginOther_3 rfl (by decide) (fun h9 => absurd h9 (show ¬ (64 : Int32) = 40 by decide)) (fun _ => ?_)
      refine z_iload_n C 7 d_M_beginOther_6 rfl rfl ?_
      refine z_bipush C 9 d_M_beginOther_7 rfl 63 (by decide) ?_
      refine z_icmp_eq C 12 24 d_M_beginOther_9 rfl (by decide) (fun h9 => absurd h9 (show ¬ (64 : Int32) = 63 by decide)) (fun _ => ?_)
      refine z_iload_n C 13 d_M_beginOther_12 rfl rfl ?_
      refine z_bipush C 15 d_M_beginOther_13 rfl 64 (by decide) ?_
      refine z_icmp_eq C 18 24 d_M_beginOther_15 rfl (by decide) (fun _ => ?_) (fun h9 => absurd (show (64 : Int32) = 64 from rfl) h9)
      refine z_aload_n C 25 d_M_beginOther_24 rfl rfl ?_
      refine z_dup C 26 d_M_beginOther_25 rfl rfl ?_
      refine zm_get C 29 f_M_108 d_M_beginOther_26 rfl hn rfl ?_
      rw [h4]
      refine z_iconst C 30 d_M_beginOther_29 rfl 1 (by decide) ?_
      refine z_iadd C 31 d_M_beginOther_30 rfl ?_
      rw [nI_1]
      refine zm_puti C 34 p_M_108 d_M_beginOther_31 rfl hn (by decide) (rfl) rfl rfl ?_
      refine z_aload_n C 35 d_M_beginOther_34 rfl rfl ?_
      refine z_aload_n C 36 d_M_beginOther_35 rfl rfl ?_
      refine z_iload_n C 37 d_M_beginOther_36 rfl rfl ?_
      refine z_bipush C 39 d_M_beginOther_37 rfl 40 (by decide) ?_
      refine z_icmp_ne C 42 46 d_M_beginOther_39 rfl (by decide) (fun _ => ?_) (fun h9 => absurd h9 (show ¬ (64 : Int32) = 40 by decide))
      refine z_iload_n C 47 d_M_beginOther_46 rfl rfl ?_
      refine z_bipush C 49 d_M_beginOther_47 rfl 63 (by decide) ?_
      refine z_icmp_ne C 52 56 d_M_beginOther_49 rfl (by decide) (fun _ => ?_) (fun h9 => absurd h9 (show ¬ (64 : Int32) = 63 by decide))
      refine z_iload_n C 57 d_M_beginOther_56 rfl rfl ?_
      refine z_bipush C 59 d_M_beginOther_57 rfl 64 (by decide) ?_
      refine z_icmp_ne C 62 66 d_M_beginOther_59 rfl (by decide) (fun h9 => absurd (show (64 : Int32) = 64 from rfl) h9) (fun _ => ?_)
      refine z_iconst C 63 d_M_beginOther_62 rfl 5 (by decide) ?_
      refine z_goto C 68 d_M_beginOther_63 (by decide) ?_
      refine z_iconst C 69 d_M_beginOther_68 rfl 0 (by decide) ?_
      refine z_iload_n C 70 d_M_beginOther_69 rfl rfl ?_
      refine z_call C 73 (c_M_node (i := s.2.1) hn (by exact h12) (by omega) 5 0 s.1) w_M_node ini_M d_M_beginOther_70 rfl (z_goV (As := [.int (nI 5), .int 0, .int (nI s.1)]) C l_M_136 w_M_node d_M_beginOther_70 (by omega) rfl rfl rfl) (Nat.le_of_ble_eq_true rfl) (by rw [hR]; simp only [zRm]; omega) (by rw [hR]; simp only [zRm]; omega) (by rw [hR]; simp only [zRm]; omega) (by rw [hR]; simp only [zRm]; omega) (fun v n' σ' hv => ?_) (fun x n' σ' hv => ?_)
      rotate_left
      · cases hv.1
      obtain ⟨e0, e1, rfl⟩ := hv
      cases e0
      obtain rfl : n = n' := e1.symm
      refine z_call C 76 (c_M_push (op := op) hn (by exact h19) (by omega) (nI (1200 + s.2.1))) w_M_push ini_M d_M_beginOther_73 rfl (z_goV (As := [.int (nI (1200 + s.2.1))]) C l_M_144 w_M_push d_M_beginOther_73 (by omega) rfl rfl rfl) (Nat.le_of_ble_eq_true rfl) (by rw [hR]; simp only [zRm]; omega) (by rw [hR]; simp only [zRm]; omega) (by rw [hR]; simp only [zRm]; omega) (by rw [hR]; simp only [zRm]; omega) (fun v n' σ' hv => ?_) (fun x n' σ' hv => ?_)
      rotate_left
      · cases hv.1
      obtain ⟨e0, e1, rfl⟩ := hv
      cases e0
      obtain rfl : n = n' := e1.symm
      refine z_iconst C 77 d_M_beginOther_76 rfl 0 (by decide) ?_
      exact z_zret C rfl (rfl) d_M_beginOther_77 (by rw [hpo]; exact (by rw [← hhd]; exact ⟨rfl, _, _, rfl, rfl, mRd_node h0 rfl h5 rfl rfl (fun k a4 a5 a12 a19 => by simp only [upd, if_neg a4, if_neg a5, if_neg a12, if_neg a19]) (fun a h1 h2 => mPu_ne h1 h2), rfl⟩)) (by rw [hmc]; omega) (by rw [hms]; omega)
    · rw [if_neg (show ¬ (65 ≤ (37 : Int32) ∧ (37 : Int32) ≤ 72) by decide), if_neg (show ¬ (37 : Int32) = 40 by decide), if_neg (show ¬ (37 : Int32) = 63 by decide), if_neg (show ¬ (37 : Int32) = 64 by decide), if_pos rfl] at hhd
      refine z_iload_n C 1 d_M_beginOther_0 rfl rfl ?_
      refine z_bipush C 3 d_M_beginOther_1 rfl 40 (by decide) ?_
      refine z_icmp_eq C 6 24 d_M_beginOther_3 rfl (by decide) (fun h9 => absurd h9 (show ¬ (37 : Int32) = 40 by decide)) (fun _ => ?_)
      refine z_iload_n C 7 d_M_beginOther_6 rfl rfl ?_
      refine z_bipush C 9 d_M_beginOther_7 rfl 63 (by decide) ?_
      refine z_icmp_eq C 12 24 d_M_beginOther_9 rfl (by decide) (fun h9 => absurd h9 (show ¬ (37 : Int32) = 63 by decide)) (fun _ => ?_)
      refine z_iload_n C 13 d_M_beginOther_12 rfl rfl ?_
      refine z_bipush C 15 d_M_beginOther_13 rfl 64 (by decide) ?_
      refine z_icmp_eq C 18 24 d_M_beginOther_15 rfl (by decide) (fun h9 => absurd h9 (show ¬ (37 : Int32) = 64 by decide)) (fun _ => ?_)
      refine z_iload_n C 19 d_M_beginOther_18 rfl rfl ?_
      refine z_bipush C 21 d_M_beginOther_19 rfl 37 (by decide) ?_
      refine z_icmp_ne C 24 78 d_M_beginOther_21 rfl (by decide) (fun h9 => absurd (show (37 : Int32) = 37 from rfl) h9) (fun _ => ?_)
      refine z_aload_n C 25 d_M_beginOther_24 rfl rfl ?_
      refine z_dup C 26 d_M_beginOther_25 rfl rfl ?_
      refine zm_get C 29 f_M_108 d_M_beginOther_26 rfl hn rfl ?_
      rw [h4]
      refine z_iconst C 30 d_M_beginOther_29 rfl 1 (by decide) ?_
      refine z_iadd C 31 d_M_beginOther_30 rfl ?_
      rw [nI_1]
      refine zm_puti C 34 p_M_108 d_M_beginOther_31 rfl hn (by decide) (rfl) rfl rfl ?_
      refine z_aload_n C 35 d_M_beginOther_34 rfl rfl ?_
      refine z_aload_n C 36 d_M_beginOther_35 rfl rfl ?_
      refine z_iload_n C 37 d_M_beginOther_36 rfl rfl ?_
      refine z_bipush C 39 d_M_beginOther_37 rfl 40 (by decide) ?_
      refine z_icmp_ne C 42 46 d_M_beginOther_39 rfl (by decide) (fun _ => ?_) (fun h9 => absurd h9 (show ¬ (37 : Int32) = 40 by decide))
      refine z_iload_n C 47 d_M_beginOther_46 rfl rfl ?_
      refine z_bipush C 49 d_M_beginOther_47 rfl 63 (by decide) ?_
      refine z_icmp_ne C 52 56 d_M_beginOther_49 rfl (by decide) (fun _ => ?_) (fun h9 => absurd h9 (show ¬ (37 : Int32) = 63 by decide))
      refine z_iload_n C 57 d_M_beginOther_56 rfl rfl ?_
      refine z_bipush C 59 d_M_beginOther_57 rfl 64 (by decide) ?_
      refine z_icmp_ne C 62 66 d_M_beginOther_59 rfl (by decide) (fun _ => ?_) (fun h9 => absurd h9 (show ¬ (37 : Int32) = 64 by decide))
      refine z_bipush C 68 d_M_beginOther_66 rfl 6 (by decide) ?_
      refine z_iconst C 69 d_M_beginOther_68 rfl 0 (by decide) ?_
      refine z_iload_n C 70 d_M_beginOther_69 rfl rfl ?_
      refine z_call C 73 (c_M_node (i := s.2.1) hn (by exact h12) (by omega) 6 0 s.1) w_M_node ini_M d_M_beginOther_70 rfl (z_goV (As := [.int (nI 6), .int 0, .int (nI s.1)]) C l_M_136 w_M_node d_M_beginOther_70 (by omega) rfl rfl rfl) (Nat.le_of_ble_eq_true rfl) (by rw [hR]; simp only [zRm]; omega) (by rw [hR]; simp only [zRm]; omega) (by rw [hR]; simp only [zRm]; omega) (by rw [hR]; simp only [zRm]; omega) (fun v n' σ' hv => ?_) (fun x n' σ' hv => ?_)
      rotate_left
      · cases hv.1
      obtain ⟨e0, e1, rfl⟩ := hv
      cases e0
      obtain rfl : n = n' := e1.symm
      refine z_call C 76 (c_M_push (op := op) hn (by exact h19) (by omega) (nI (1200 + s.2.1))) w_M_push ini_M d_M_beginOther_73 rfl (z_goV (As := [.int (nI (1200 + s.2.1))]) C l_M_144 w_M_push d_M_beginOther_73 (by omega) rfl rfl rfl) (Nat.le_of_ble_eq_true rfl) (by rw [hR]; simp only [zRm]; omega) (by rw [hR]; simp only [zRm]; omega) (by rw [hR]; simp only [zRm]; omega) (by rw [hR]; simp only [zRm]; omega) (fun v n' σ' hv => ?_) (fun x n' σ' hv => ?_)
      rotate_left
      · cases hv.1
      obtain ⟨e0, e1, rfl⟩ := hv
      cases e0
      obtain rfl : n = n' := e1.symm
      refine z_iconst C 77 d_M_beginOther_76 rfl 0 (by decide) ?_
      exact z_zret C rfl (rfl) d_M_beginOther_77 (by rw [hpo]; exact (by rw [← hhd]; exact ⟨rfl, _, _, rfl, rfl, mRd_node h0 rfl h5 rfl rfl (fun k a4 a5 a12 a19 => by simp only [upd, if_neg a4, if_neg a5, if_neg a12, if_neg a19]) (fun a h1 h2 => mPu_ne h1 h2), rfl⟩)) (by rw [hmc]; omega) (by rw [hms]; omega)
  have n40 : ¬ c = 40 := fun q => w40 (Or.inl q)
  have n63 : ¬ c = 63 := fun q => w40 (Or.inr (Or.inl q))
  have n64 : ¬ c = 64 := fun q => w40 (Or.inr (Or.inr (Or.inl q)))
  have n37 : ¬ c = 37 := fun q => w40 (Or.inr (Or.inr (Or.inr q)))
  refine z_iload_n C 1 d_M_beginOther_0 rfl rfl ?_
  refine z_bipush C 3 d_M_beginOther_1 rfl 40 (by decide) ?_
  refine z_icmp_eq C 6 24 d_M_beginOther_3 rfl (by decide) (fun h9 => absurd h9 n40) (fun _ => ?_)
  refine z_iload_n C 7 d_M_beginOther_6 rfl rfl ?_
  refine z_bipush C 9 d_M_beginOther_7 rfl 63 (by decide) ?_
  refine z_icmp_eq C 12 24 d_M_beginOther_9 rfl (by decide) (fun h9 => absurd h9 n63) (fun _ => ?_)
  refine z_iload_n C 13 d_M_beginOther_12 rfl rfl ?_
  refine z_bipush C 15 d_M_beginOther_13 rfl 64 (by decide) ?_
  refine z_icmp_eq C 18 24 d_M_beginOther_15 rfl (by decide) (fun h9 => absurd h9 n64) (fun _ => ?_)
  refine z_iload_n C 19 d_M_beginOther_18 rfl rfl ?_
  refine z_bipush C 21 d_M_beginOther_19 rfl 37 (by decide) ?_
  refine z_icmp_ne C 24 78 d_M_beginOther_21 rfl (by decide) (fun _ => ?_) (fun h9 => absurd h9 n37)
  by_cases w38 : c = 38 ∨ c = 126
  · rcases w38 with rfl | rfl
    · rw [if_neg (show ¬ (65 ≤ (38 : Int32) ∧ (38 : Int32) ≤ 72) by decide), if_neg n40, if_neg n63, if_neg n64, if_neg n37, if_pos rfl] at hhd
      unfold rHw at hhd
      refine z_iload_n C 79 d_M_beginOther_78 rfl rfl ?_
      refine z_bipush C 81 d_M_beginOther_79 rfl 38 (by decide) ?_
      refine z_icmp_eq C 84 90 d_M_beginOther_81 rfl (by decide) (fun _ => ?_) (fun h9 => absurd (show (38 : Int32) = 38 from rfl) h9)
      refine z_aload_n C 91 d_M_beginOther_90 rfl rfl ?_
      refine z_dup C 92 d_M_beginOther_91 rfl rfl ?_
      refine zm_get C 95 f_M_108 d_M_beginOther_92 rfl hn rfl ?_
      rw [h4]
      refine z_iconst C 96 d_M_beginOther_95 rfl 1 (by decide) ?_
      refine z_iadd C 97 d_M_beginOther_96 rfl ?_
      rw [nI_1]
      refine zm_puti C 100 p_M_108 d_M_beginOther_97 rfl hn (by decide) (rfl) rfl rfl ?_
      refine z_aload_n C 101 d_M_beginOther_100 rfl rfl ?_
      refine z_bipush C 103 d_M_beginOther_101 rfl 97 (by decide) ?_
      refine z_bipush C 105 d_M_beginOther_103 rfl 116 (by decide) ?_
      have hm1 : mlk (upd S 4 (nI (s.1 + 1))) A (s.1 + 1) z = rlk T z (s.1 + 1) := mlk_0 hA86 h5
      have LT := c_M_letter (G := G) (l := kl K) (L := L) (rn := rn) (σ := σ) (n := n) (S := upd S 4 (nI (s.1 + 1))) (A := A) (p := s.1 + 1) (z := z) hn ⟨rfl, t2', hz, by omega, by rw [hA86]; exact hch⟩ 97 116 (by decide)
      rw [hm1] at LT
      refine z_call C 108 (LT) w_M_letter ini_M d_M_beginOther_105 rfl (z_goV (As := [.int 97, .int 116]) C l_M_132 w_M_letter d_M_beginOther_105 (by omega) rfl rfl rfl) (Nat.le_of_ble_eq_true rfl) (by rw [hR]; simp only [zRm]; omega) (by rw [hR]; simp only [zRm]; omega) (by rw [hR]; simp only [zRm]; omega) (by rw [hR]; simp only [zRm]; omega) (fun v n' σ' hv => ?_) (fun x n' σ' hv => ?_)
      rotate_left
      · rcases hv with ⟨-, ⟨-, e0, -⟩ | ⟨-, e0, -⟩⟩ <;> cases e0
      obtain ⟨e1, hv⟩ := hv; obtain rfl : n = n' := e1.symm
      by_cases r1 : 97 ≤ rlk T z (s.1 + 1) ∧ rlk T z (s.1 + 1) ≤ 116
      rotate_left
      · obtain ⟨-, e0, rfl⟩ := hv.resolve_left (fun q => r1 q.1)
        cases e0
        rw [if_neg r1] at hhd
        refine z_istore_n C 109 d_M_beginOther_108 rfl (by decide) ?_
        refine z_aload_n C 110 d_M_beginOther_109 rfl rfl ?_
        refine z_aload_n C 111 d_M_beginOther_110 rfl rfl ?_
        refine z_iload_n C 112 d_M_beginOther_111 rfl rfl ?_
        refine z_bipush C 114 d_M_beginOther_112 rfl 38 (by decide) ?_
        refine z_icmp_ne C 117 122 d_M_beginOther_114 rfl (by decide) (fun h9 => absurd (show (38 : Int32) = 38 from rfl) h9) (fun _ => ?_)
        refine z_bipush C 119 d_M_beginOther_117 rfl 61 (by decide) ?_
        refine z_goto C 124 d_M_beginOther_119 (by decide) ?_
        have TK := c_M_takes (G := G) (l := kl K) (L := L) (rn := rn) (σ := σ) (n := n) (S := upd (upd S 4 (nI (s.1 + 1))) 5 1) (A := A) (p := s.1 + 1) (z := z) hn ⟨rfl, t2', hz, by omega, by rw [hA86]; exact hch⟩ 61
        rw [mlk_1 (show (upd (upd S 4 (nI (s.1 + 1))) 5 1) 5 = 1 from rfl), if_neg (show ¬ (0 : Int32) = 61 by decide), if_neg (show ¬ (0 : Int32) = 61 by decide)] at TK
        refine z_call C 127 (TK) w_M_takes ini_M d_M_beginOther_124 rfl (z_goV (As := [.int 61]) C l_M_140 w_M_takes d_M_beginOther_124 (by omega) rfl rfl rfl) (Nat.le_of_ble_eq_true rfl) (by rw [hR]; simp only [zRm]; omega) (by rw [hR]; simp only [zRm]; omega) (by rw [hR]; simp only [zRm]; omega) (by rw [hR]; simp only [zRm]; omega) (fun v n' σ' hv => ?_) (fun x n' σ' hv => ?_)
        rotate_left
        · cases hv.1
        obtain ⟨e0, e1, rfl⟩ := hv
        cases e0
        obtain rfl : n = n' := e1.symm
        refine z_call C 130 (c_M_want hn 0) w_M_want ini_M d_M_beginOther_127 rfl (z_goV (As := [.int 0]) C l_M_122 w_M_want d_M_beginOther_127 (by omega) rfl rfl rfl) (Nat.le_of_ble_eq_true rfl) (by rw [hR]; simp only [zRm]; omega) (by rw [hR]; simp only [zRm]; omega) (by rw [hR]; simp only [zRm]; omega) (by rw [hR]; simp only [zRm]; omega) (fun v n' σ' hv => ?_) (fun x n' σ' hv => ?_)
        rotate_left
        · cases hv.1
        obtain ⟨e0, e1, rfl⟩ := hv
        cases e0
        obtain rfl : n = n' := e1.symm
        rw [if_pos (show (0 : Int32) = 0 from rfl)]
        refine z_aload_n C 131 d_M_beginOther_130 rfl rfl ?_
        refine z_aload_n C 132 d_M_beginOther_131 rfl rfl ?_
        refine z_iload_n C 133 d_M_beginOther_132 rfl rfl ?_
        refine z_bipush C 135 d_M_beginOther_133 rfl 38 (by decide) ?_
        refine z_icmp_ne C 138 142 d_M_beginOther_135 rfl (by decide) (fun h9 => absurd (show (38 : Int32) = 38 from rfl) h9) (fun _ => ?_)
        refine z_iconst C 139 d_M_beginOther_138 rfl 4 (by decide) ?_
        refine z_goto C 144 d_M_beginOther_139 (by decide) ?_
        refine z_iload_n C 145 d_M_beginOther_144 rfl rfl ?_
        refine z_iload_n C 146 d_M_beginOther_145 rfl rfl ?_
        refine z_call C 149 (c_M_node (i := s.2.1) hn (by exact h12) (by omega) 4 0 s.1) w_M_node ini_M d_M_beginOther_146 rfl (z_goV (As := [.int (nI 4), .int 0, .int (nI s.1)]) C l_M_136 w_M_node d_M_beginOther_146 (by omega) rfl rfl rfl) (Nat.le_of_ble_eq_true rfl) (by rw [hR]; simp only [zRm]; omega) (by rw [hR]; simp only [zRm]; omega) (by rw [hR]; simp only [zRm]; omega) (by rw [hR]; simp only [zRm]; omega) (fun v n' σ' hv => ?_) (fun x n' σ' hv => ?_)
        rotate_left
        · cases hv.1
        obtain ⟨e0, e1, rfl⟩ := hv
        cases e0
        obtain rfl : n = n' := e1.symm
        refine z_call C 152 (c_M_push (op := op) hn (by exact h19) (by omega) (nI (1200 + s.2.1))) w_M_push ini_M d_M_beginOther_149 rfl (z_goV (As := [.int (nI (1200 + s.2.1))]) C l_M_144 w_M_push d_M_beginOther_149 (by omega) rfl rfl rfl) (Nat.le_of_ble_eq_true rfl) (by rw [hR]; simp only [zRm]; omega) (by rw [hR]; simp only [zRm]; omega) (by rw [hR]; simp only [zRm]; omega) (by rw [hR]; simp only [zRm]; omega) (fun v n' σ' hv => ?_) (fun x n' σ' hv => ?_)
        rotate_left
        · cases hv.1
        obtain ⟨e0, e1, rfl⟩ := hv
        cases e0
        obtain rfl : n = n' := e1.symm
        refine z_aload_n C 153 d_M_beginOther_152 rfl rfl ?_
        refine zm_get C 156 f_M_104 d_M_beginOther_153 rfl hn rfl ?_
        exact z_zret (x := 1) C rfl (rfl) d_M_beginOther_156 (by rw [hpo, ← hhd]; exact ⟨rfl, _, _, rfl, ⟨_, rfl, rfl⟩, mIl_mk h0 rfl rfl (fun k a4 a5 a12 a19 => by simp only [upd, if_neg a4, if_neg a5, if_neg a12, if_neg a19]) (fun a k h1 h2 h3 => by rw [mPu_ne h1 h2, rFlat_ne (by omega)])⟩) (by rw [hmc]; omega) (by rw [hms]; omega)
      obtain ⟨-, e0, rfl⟩ := hv.resolve_right (fun q => q.1 r1)
      cases e0
      rw [if_pos r1] at hhd
      have hp1 : s.1 + 1 < z := rlk_pos r1.1 (by decide)
      refine z_istore_n C 109 d_M_beginOther_108 rfl (by decide) ?_
      refine z_aload_n C 110 d_M_beginOther_109 rfl rfl ?_
      refine z_aload_n C 111 d_M_beginOther_110 rfl rfl ?_
      refine z_iload_n C 112 d_M_beginOther_111 rfl rfl ?_
      refine z_bipush C 114 d_M_beginOther_112 rfl 38 (by decide) ?_
      refine z_icmp_ne C 117 122 d_M_beginOther_114 rfl (by decide) (fun h9 => absurd (show (38 : Int32) = 38 from rfl) h9) (fun _ => ?_)
      refine z_bipush C 119 d_M_beginOther_117 rfl 61 (by decide) ?_
      refine z_goto C 124 d_M_beginOther_119 (by decide) ?_
      by_cases r2 : rlk T z (s.1 + 1 + 1) = 61
      · rw [if_pos r2] at hhd
        have TK := c_M_takes (G := G) (l := kl K) (L := L) (rn := rn) (σ := σ) (n := n) (S := upd (upd S 4 (nI (s.1 + 1))) 4 (nI (s.1 + 1 + 1))) (A := A) (p := s.1 + 1 + 1) (z := z) hn ⟨rfl, t2', hz, by omega, by rw [hA86]; exact hch⟩ 61
        rw [mlk_0 hA86 (show (upd (upd S 4 (nI (s.1 + 1))) 4 (nI (s.1 + 1 + 1))) 5 = 0 from h5), if_pos r2, if_pos r2] at TK
        refine z_call C 127 (TK) w_M_takes ini_M d_M_beginOther_124 rfl (z_goV (As := [.int 61]) C l_M_140 w_M_takes d_M_beginOther_124 (by omega) rfl rfl rfl) (Nat.le_of_ble_eq_true rfl) (by rw [hR]; simp only [zRm]; omega) (by rw [hR]; simp only [zRm]; omega) (by rw [hR]; simp only [zRm]; omega) (by rw [hR]; simp only [zRm]; omega) (fun v n' σ' hv => ?_) (fun x n' σ' hv => ?_)
        rotate_left
        · cases hv.1
        obtain ⟨e0, e1, rfl⟩ := hv
        cases e0
        obtain rfl : n = n' := e1.symm
        refine z_call C 130 (c_M_want hn 1) w_M_want ini_M d_M_beginOther_127 rfl (z_goV (As := [.int 1]) C l_M_122 w_M_want d_M_beginOther_127 (by omega) rfl rfl rfl) (Nat.le_of_ble_eq_true rfl) (by rw [hR]; simp only [zRm]; omega) (by rw [hR]; simp only [zRm]; omega) (by rw [hR]; simp only [zRm]; omega) (by rw [hR]; simp only [zRm]; omega) (fun v n' σ' hv => ?_) (fun x n' σ' hv => ?_)
        rotate_left
        · cases hv.1
        obtain ⟨e0, e1, rfl⟩ := hv
        cases e0
        obtain rfl : n = n' := e1.symm
        rw [if_neg (show ¬ (1 : Int32) = 0 by decide)]
        rw [show (upd (upd S 4 (nI (s.1 + 1))) 4 (nI (s.1 + 1 + 1))) 4 + 1 = nI (s.1 + 3) from nI_1 _]
        refine z_aload_n C 131 d_M_beginOther_130 rfl rfl ?_
        refine z_aload_n C 132 d_M_beginOther_131 rfl rfl ?_
        refine z_iload_n C 133 d_M_beginOther_132 rfl rfl ?_
        refine z_bipush C 135 d_M_beginOther_133 rfl 38 (by decide) ?_
        refine z_icmp_ne C 138 142 d_M_beginOther_135 rfl (by decide) (fun h9 => absurd (show (38 : Int32) = 38 from rfl) h9) (fun _ => ?_)
        refine z_iconst C 139 d_M_beginOther_138 rfl 4 (by decide) ?_
        refine z_goto C 144 d_M_beginOther_139 (by decide) ?_
        refine z_iload_n C 145 d_M_beginOther_144 rfl rfl ?_
        refine z_iload_n C 146 d_M_beginOther_145 rfl rfl ?_
        refine z_call C 149 (c_M_node (i := s.2.1) hn (by exact h12) (by omega) 4 (rlk T z (s.1 + 1) - 97) s.1) w_M_node ini_M d_M_beginOther_146 rfl (z_goV (As := [.int (nI 4), .int (rlk T z (s.1 + 1) - 97), .int (nI s.1)]) C l_M_136 w_M_node d_M_beginOther_146 (by omega) rfl rfl rfl) (Nat.le_of_ble_eq_true rfl) (by rw [hR]; simp only [zRm]; omega) (by rw [hR]; simp only [zRm]; omega) (by rw [hR]; simp only [zRm]; omega) (by rw [hR]; simp only [zRm]; omega) (fun v n' σ' hv => ?_) (fun x n' σ' hv => ?_)
        rotate_left
        · cases hv.1
        obtain ⟨e0, e1, rfl⟩ := hv
        cases e0
        obtain rfl : n = n' := e1.symm
        refine z_call C 152 (c_M_push (op := op) hn (by exact h19) (by omega) (nI (1200 + s.2.1))) w_M_push ini_M d_M_beginOther_149 rfl (z_goV (As := [.int (nI (1200 + s.2.1))]) C l_M_144 w_M_push d_M_beginOther_149 (by omega) rfl rfl rfl) (Nat.le_of_ble_eq_true rfl) (by rw [hR]; simp only [zRm]; omega) (by rw [hR]; simp only [zRm]; omega) (by rw [hR]; simp only [zRm]; omega) (by rw [hR]; simp only [zRm]; omega) (fun v n' σ' hv => ?_) (fun x n' σ' hv => ?_)
        rotate_left
        · cases hv.1
        obtain ⟨e0, e1, rfl⟩ := hv
        cases e0
        obtain rfl : n = n' := e1.symm
        refine z_aload_n C 153 d_M_beginOther_152 rfl rfl ?_
        refine zm_get C 156 f_M_104 d_M_beginOther_153 rfl hn rfl ?_
        rw [show (upd (upd (upd (upd (upd S 4 (nI (s.1 + 1))) 4 (nI (s.1 + 1 + 1))) 4 (nI (s.1 + 3))) 12 (nI (s.2.1 + 1))) 19 (nI (op + 1))) 5 = 0 from h5]
        exact z_zret C rfl (rfl) d_M_beginOther_156 (by rw [hpo, ← hhd]; exact ⟨rfl, _, _, rfl, rfl, mRd_node (s := s) (K := 4) (w0 := s.1) (x := rlk T z (s.1 + 1) - 97) (e := eVar (rE0 4 s.1) (rlk T z (s.1 + 1) - 97) (nI (s.1 + 1))) (q := s.1 + 3) h0 rfl h5 rfl rfl (fun k a4 a5 a12 a19 => by simp only [upd, if_neg a4, if_neg a5, if_neg a12, if_neg a19]) (fun a h1 h2 => mPu_ne h1 h2), rfl⟩) (by rw [hmc]; omega) (by rw [hms]; omega)
      · rw [if_neg r2] at hhd
        have TK := c_M_takes (G := G) (l := kl K) (L := L) (rn := rn) (σ := σ) (n := n) (S := upd (upd S 4 (nI (s.1 + 1))) 4 (nI (s.1 + 1 + 1))) (A := A) (p := s.1 + 1 + 1) (z := z) hn ⟨rfl, t2', hz, by omega, by rw [hA86]; exact hch⟩ 61
        rw [mlk_0 hA86 (show (upd (upd S 4 (nI (s.1 + 1))) 4 (nI (s.1 + 1 + 1))) 5 = 0 from h5), if_neg r2, if_neg r2] at TK
        refine z_call C 127 (TK) w_M_takes ini_M d_M_beginOther_124 rfl (z_goV (As := [.int 61]) C l_M_140 w_M_takes d_M_beginOther_124 (by omega) rfl rfl rfl) (Nat.le_of_ble_eq_true rfl) (by rw [hR]; simp only [zRm]; omega) (by rw [hR]; simp only [zRm]; omega) (by rw [hR]; simp only [zRm]; omega) (by rw [hR]; simp only [zRm]; omega) (fun v n' σ' hv => ?_) (fun x n' σ' hv => ?_)
        rotate_left
        · cases hv.1
        obtain ⟨e0, e1, rfl⟩ := hv
        cases e0
        obtain rfl : n = n' := e1.symm
        refine z_call C 130 (c_M_want hn 0) w_M_want ini_M d_M_beginOther_127 rfl (z_goV (As := [.int 0]) C l_M_122 w_M_want d_M_beginOther_127 (by omega) rfl rfl rfl) (Nat.le_of_ble_eq_true rfl) (by rw [hR]; simp only [zRm]; omega) (by rw [hR]; simp only [zRm]; omega) (by rw [hR]; simp only [zRm]; omega) (by rw [hR]; simp only [zRm]; omega) (fun v n' σ' hv => ?_) (fun x n' σ' hv => ?_)
        rotate_left
        · cases hv.1
        obtain ⟨e0, e1, rfl⟩ := hv
        cases e0
        obtain rfl : n = n' := e1.symm
        rw [if_pos (show (0 : Int32) = 0 from rfl)]
        refine z_aload_n C 131 d_M_beginOther_130 rfl rfl ?_
        refine z_aload_n C 132 d_M_beginOther_131 rfl rfl ?_
        refine z_iload_n C 133 d_M_beginOther_132 rfl rfl ?_
        refine z_bipush C 135 d_M_beginOther_133 rfl 38 (by decide) ?_
        refine z_icmp_ne C 138 142 d_M_beginOther_135 rfl (by decide) (fun h9 => absurd (show (38 : Int32) = 38 from rfl) h9) (fun _ => ?_)
        refine z_iconst C 139 d_M_beginOther_138 rfl 4 (by decide) ?_
        refine z_goto C 144 d_M_beginOther_139 (by decide) ?_
        refine z_iload_n C 145 d_M_beginOther_144 rfl rfl ?_
        refine z_iload_n C 146 d_M_beginOther_145 rfl rfl ?_
        refine z_call C 149 (c_M_node (i := s.2.1) hn (by exact h12) (by omega) 4 (rlk T z (s.1 + 1) - 97) s.1) w_M_node ini_M d_M_beginOther_146 rfl (z_goV (As := [.int (nI 4), .int (rlk T z (s.1 + 1) - 97), .int (nI s.1)]) C l_M_136 w_M_node d_M_beginOther_146 (by omega) rfl rfl rfl) (Nat.le_of_ble_eq_true rfl) (by rw [hR]; simp only [zRm]; omega) (by rw [hR]; simp only [zRm]; omega) (by rw [hR]; simp only [zRm]; omega) (by rw [hR]; simp only [zRm]; omega) (fun v n' σ' hv => ?_) (fun x n' σ' hv => ?_)
        rotate_left
        · cases hv.1
        obtain ⟨e0, e1, rfl⟩ := hv
        cases e0
        obtain rfl : n = n' := e1.symm
        refine z_call C 152 (c_M_push (op := op) hn (by exact h19) (by omega) (nI (1200 + s.2.1))) w_M_push ini_M d_M_beginOther_149 rfl (z_goV (As := [.int (nI (1200 + s.2.1))]) C l_M_144 w_M_push d_M_beginOther_149 (by omega) rfl rfl rfl) (Nat.le_of_ble_eq_true rfl) (by rw [hR]; simp only [zRm]; omega) (by rw [hR]; simp only [zRm]; omega) (by rw [hR]; simp only [zRm]; omega) (by rw [hR]; simp only [zRm]; omega) (fun v n' σ' hv => ?_) (fun x n' σ' hv => ?_)
        rotate_left
        · cases hv.1
        obtain ⟨e0, e1, rfl⟩ := hv
        cases e0
        obtain rfl : n = n' := e1.symm
        refine z_aload_n C 153 d_M_beginOther_152 rfl rfl ?_
        refine zm_get C 156 f_M_104 d_M_beginOther_153 rfl hn rfl ?_
        exact z_zret (x := 1) C rfl (rfl) d_M_beginOther_156 (by rw [hpo, ← hhd]; exact ⟨rfl, _, _, rfl, ⟨_, rfl, rfl⟩, mIl_mk h0 rfl rfl (fun k a4 a5 a12 a19 => by simp only [upd, if_neg a4, if_neg a5, if_neg a12, if_neg a19]) (fun a k h1 h2 h3 => by rw [mPu_ne h1 h2, rFlat_ne (by omega)])⟩) (by rw [hmc]; omega) (by rw [hms]; omega)
    · rw [if_neg (show ¬ (65 ≤ (126 : Int32) ∧ (126 : Int32) ≤ 72) by decide), if_neg n40, if_neg n63, if_neg n64, if_neg n37, if_neg (show ¬ (126 : Int32) = 38 by decide), if_pos rfl] at hhd
      unfold rHw at hhd
      refine z_iload_n C 79 d_M_beginOther_78 rfl rfl ?_
      refine z_bipush C 81 d_M_beginOther_79 rfl 38 (by decide) ?_
      refine z_icmp_eq C 84 90 d_M_beginOther_81 rfl (by decide) (fun h9 => absurd h9 (show ¬ (126 : Int32) = 38 by decide)) (fun _ => ?_)
      refine z_iload_n C 85 d_M_beginOther_84 rfl rfl ?_
      refine z_bipush C 87 d_M_beginOther_85 rfl 126 (by decide) ?_
      refine z_icmp_ne C 90 157 d_M_beginOther_87 rfl (by decide) (fun h9 => absurd (show (126 : Int32) = 126 from rfl) h9) (fun _ => ?_)
      refine z_aload_n C 91 d_M_beginOther_90 rfl rfl ?_
      refine z_dup C 92 d_M_beginOther_91 rfl rfl ?_
      refine zm_get C 95 f_M_108 d_M_beginOther_92 rfl hn rfl ?_
      rw [h4]
      refine z_iconst C 96 d_M_beginOther_95 rfl 1 (by decide) ?_
      refine z_iadd C 97 d_M_beginOther_96 rfl ?_
      rw [nI_1]
      refine zm_puti C 100 p_M_108 d_M_beginOther_97 rfl hn (by decide) (rfl) rfl rfl ?_
      refine z_aload_n C 101 d_M_beginOther_100 rfl rfl ?_
      refine z_bipush C 103 d_M_beginOther_101 rfl 97 (by decide) ?_
      refine z_bipush C 105 d_M_beginOther_103 rfl 116 (by decide) ?_
      have hm1 : mlk (upd S 4 (nI (s.1 + 1))) A (s.1 + 1) z = rlk T z (s.1 + 1) := mlk_0 hA86 h5
      have LT := c_M_letter (G := G) (l := kl K) (L := L) (rn := rn) (σ := σ) (n := n) (S := upd S 4 (nI (s.1 + 1))) (A := A) (p := s.1 + 1) (z := z) hn ⟨rfl, t2', hz, by omega, by rw [hA86]; exact hch⟩ 97 116 (by decide)
      rw [hm1] at LT
      refine z_call C 108 (LT) w_M_letter ini_M d_M_beginOther_105 rfl (z_goV (As := [.int 97, .int 116]) C l_M_132 w_M_letter d_M_beginOther_105 (by omega) rfl rfl rfl) (Nat.le_of_ble_eq_true rfl) (by rw [hR]; simp only [zRm]; omega) (by rw [hR]; simp only [zRm]; omega) (by rw [hR]; simp only [zRm]; omega) (by rw [hR]; simp only [zRm]; omega) (fun v n' σ' hv => ?_) (fun x n' σ' hv => ?_)
      rotate_left
      · rcases hv with ⟨-, ⟨-, e0, -⟩ | ⟨-, e0, -⟩⟩ <;> cases e0
      obtain ⟨e1, hv⟩ := hv; obtain rfl : n = n' := e1.symm
      by_cases r1 : 97 ≤ rlk T z (s.1 + 1) ∧ rlk T z (s.1 + 1) ≤ 116
      rotate_left
      · obtain ⟨-, e0, rfl⟩ := hv.resolve_left (fun q => r1 q.1)
        cases e0
        rw [if_neg r1] at hhd
        refine z_istore_n C 109 d_M_beginOther_108 rfl (by decide) ?_
        refine z_aload_n C 110 d_M_beginOther_109 rfl rfl ?_
        refine z_aload_n C 111 d_M_beginOther_110 rfl rfl ?_
        refine z_iload_n C 112 d_M_beginOther_111 rfl rfl ?_
        refine z_bipush C 114 d_M_beginOther_112 rfl 38 (by decide) ?_
        refine z_icmp_ne C 117 122 d_M_beginOther_114 rfl (by decide) (fun _ => ?_) (fun h9 => absurd h9 (show ¬ (126 : Int32) = 38 by decide))
        refine z_bipush C 124 d_M_beginOther_122 rfl 59 (by decide) ?_
        have TK := c_M_takes (G := G) (l := kl K) (L := L) (rn := rn) (σ := σ) (n := n) (S := upd (upd S 4 (nI (s.1 + 1))) 5 1) (A := A) (p := s.1 + 1) (z := z) hn ⟨rfl, t2', hz, by omega, by rw [hA86]; exact hch⟩ 59
        rw [mlk_1 (show (upd (upd S 4 (nI (s.1 + 1))) 5 1) 5 = 1 from rfl), if_neg (show ¬ (0 : Int32) = 59 by decide), if_neg (show ¬ (0 : Int32) = 59 by decide)] at TK
        refine z_call C 127 (TK) w_M_takes ini_M d_M_beginOther_124 rfl (z_goV (As := [.int 59]) C l_M_140 w_M_takes d_M_beginOther_124 (by omega) rfl rfl rfl) (Nat.le_of_ble_eq_true rfl) (by rw [hR]; simp only [zRm]; omega) (by rw [hR]; simp only [zRm]; omega) (by rw [hR]; simp only [zRm]; omega) (by rw [hR]; simp only [zRm]; omega) (fun v n' σ' hv => ?_) (fun x n' σ' hv => ?_)
        rotate_left
        · cases hv.1
        obtain ⟨e0, e1, rfl⟩ := hv
        cases e0
        obtain rfl : n = n' := e1.symm
        refine z_call C 130 (c_M_want hn 0) w_M_want ini_M d_M_beginOther_127 rfl (z_goV (As := [.int 0]) C l_M_122 w_M_want d_M_beginOther_127 (by omega) rfl rfl rfl) (Nat.le_of_ble_eq_true rfl) (by rw [hR]; simp only [zRm]; omega) (by rw [hR]; simp only [zRm]; omega) (by rw [hR]; simp only [zRm]; omega) (by rw [hR]; simp only [zRm]; omega) (fun v n' σ' hv => ?_) (fun x n' σ' hv => ?_)
        rotate_left
        · cases hv.1
        obtain ⟨e0, e1, rfl⟩ := hv
        cases e0
        obtain rfl : n = n' := e1.symm
        rw [if_pos (show (0 : Int32) = 0 from rfl)]
        refine z_aload_n C 131 d_M_beginOther_130 rfl rfl ?_
        refine z_aload_n C 132 d_M_beginOther_131 rfl rfl ?_
        refine z_iload_n C 133 d_M_beginOther_132 rfl rfl ?_
        refine z_bipush C 135 d_M_beginOther_133 rfl 38 (by decide) ?_
        refine z_icmp_ne C 138 142 d_M_beginOther_135 rfl (by decide) (fun _ => ?_) (fun h9 => absurd h9 (show ¬ (126 : Int32) = 38 by decide))
        refine z_bipush C 144 d_M_beginOther_142 rfl 12 (by decide) ?_
        refine z_iload_n C 145 d_M_beginOther_144 rfl rfl ?_
        refine z_iload_n C 146 d_M_beginOther_145 rfl rfl ?_
        refine z_call C 149 (c_M_node (i := s.2.1) hn (by exact h12) (by omega) 12 0 s.1) w_M_node ini_M d_M_beginOther_146 rfl (z_goV (As := [.int (nI 12), .int 0, .int (nI s.1)]) C l_M_136 w_M_node d_M_beginOther_146 (by omega) rfl rfl rfl) (Nat.le_of_ble_eq_true rfl) (by rw [hR]; simp only [zRm]; omega) (by rw [hR]; simp only [zRm]; omega) (by rw [hR]; simp only [zRm]; omega) (by rw [hR]; simp only [zRm]; omega) (fun v n' σ' hv => ?_) (fun x n' σ' hv => ?_)
        rotate_left
        · cases hv.1
        obtain ⟨e0, e1, rfl⟩ := hv
        cases e0
        obtain rfl : n = n' := e1.symm
        refine z_call C 152 (c_M_push (op := op) hn (by exact h19) (by omega) (nI (1200 + s.2.1))) w_M_push ini_M d_M_beginOther_149 rfl (z_goV (As := [.int (nI (1200 + s.2.1))]) C l_M_144 w_M_push d_M_beginOther_149 (by omega) rfl rfl rfl) (Nat.le_of_ble_eq_true rfl) (by rw [hR]; simp only [zRm]; omega) (by rw [hR]; simp only [zRm]; omega) (by rw [hR]; simp only [zRm]; omega) (by rw [hR]; simp only [zRm]; omega) (fun v n' σ' hv => ?_) (fun x n' σ' hv => ?_)
        rotate_left
        · cases hv.1
        obtain ⟨e0, e1, rfl⟩ := hv
        cases e0
        obtain rfl : n = n' := e1.symm
        refine z_aload_n C 153 d_M_beginOther_152 rfl rfl ?_
        refine zm_get C 156 f_M_104 d_M_beginOther_153 rfl hn rfl ?_
        exact z_zret (x := 1) C rfl (rfl) d_M_beginOther_156 (by rw [hpo, ← hhd]; exact ⟨rfl, _, _, rfl, ⟨_, rfl, rfl⟩, mIl_mk h0 rfl rfl (fun k a4 a5 a12 a19 => by simp only [upd, if_neg a4, if_neg a5, if_neg a12, if_neg a19]) (fun a k h1 h2 h3 => by rw [mPu_ne h1 h2, rFlat_ne (by omega)])⟩) (by rw [hmc]; omega) (by rw [hms]; omega)
      obtain ⟨-, e0, rfl⟩ := hv.resolve_right (fun q => q.1 r1)
      cases e0
      rw [if_pos r1] at hhd
      have hp1 : s.1 + 1 < z := rlk_pos r1.1 (by decide)
      refine z_istore_n C 109 d_M_beginOther_108 rfl (by decide) ?_
      refine z_aload_n C 110 d_M_beginOther_109 rfl rfl ?_
      refine z_aload_n C 111 d_M_beginOther_110 rfl rfl ?_
      refine z_iload_n C 112 d_M_beginOther_111 rfl rfl ?_
      refine z_bipush C 114 d_M_beginOther_112 rfl 38 (by decide) ?_
      refine z_icmp_ne C 117 122 d_M_beginOther_114 rfl (by decide) (fun _ => ?_) (fun h9 => absurd h9 (show ¬ (126 : Int32) = 38 by decide))
      refine z_bipush C 124 d_M_beginOther_122 rfl 59 (by decide) ?_
      by_cases r2 : rlk T z (s.1 + 1 + 1) = 59
      · rw [if_pos r2] at hhd
        have TK := c_M_takes (G := G) (l := kl K) (L := L) (rn := rn) (σ := σ) (n := n) (S := upd (upd S 4 (nI (s.1 + 1))) 4 (nI (s.1 + 1 + 1))) (A := A) (p := s.1 + 1 + 1) (z := z) hn ⟨rfl, t2', hz, by omega, by rw [hA86]; exact hch⟩ 59
        rw [mlk_0 hA86 (show (upd (upd S 4 (nI (s.1 + 1))) 4 (nI (s.1 + 1 + 1))) 5 = 0 from h5), if_pos r2, if_pos r2] at TK
        refine z_call C 127 (TK) w_M_takes ini_M d_M_beginOther_124 rfl (z_goV (As := [.int 59]) C l_M_140 w_M_takes d_M_beginOther_124 (by omega) rfl rfl rfl) (Nat.le_of_ble_eq_true rfl) (by rw [hR]; simp only [zRm]; omega) (by rw [hR]; simp only [zRm]; omega) (by rw [hR]; simp only [zRm]; omega) (by rw [hR]; simp only [zRm]; omega) (fun v n' σ' hv => ?_) (fun x n' σ' hv => ?_)
        rotate_left
        · cases hv.1
        obtain ⟨e0, e1, rfl⟩ := hv
        cases e0
        obtain rfl : n = n' := e1.symm
        refine z_call C 130 (c_M_want hn 1) w_M_want ini_M d_M_beginOther_127 rfl (z_goV (As := [.int 1]) C l_M_122 w_M_want d_M_beginOther_127 (by omega) rfl rfl rfl) (Nat.le_of_ble_eq_true rfl) (by rw [hR]; simp only [zRm]; omega) (by rw [hR]; simp only [zRm]; omega) (by rw [hR]; simp only [zRm]; omega) (by rw [hR]; simp only [zRm]; omega) (fun v n' σ' hv => ?_) (fun x n' σ' hv => ?_)
        rotate_left
        · cases hv.1
        obtain ⟨e0, e1, rfl⟩ := hv
        cases e0
        obtain rfl : n = n' := e1.symm
        rw [if_neg (show ¬ (1 : Int32) = 0 by decide)]
        rw [show (upd (upd S 4 (nI (s.1 + 1))) 4 (nI (s.1 + 1 + 1))) 4 + 1 = nI (s.1 + 3) from nI_1 _]
        refine z_aload_n C 131 d_M_beginOther_130 rfl rfl ?_
        refine z_aload_n C 132 d_M_beginOther_131 rfl rfl ?_
        refine z_iload_n C 133 d_M_beginOther_132 rfl rfl ?_
        refine z_bipush C 135 d_M_beginOther_133 rfl 38 (by decide) ?_
        refine z_icmp_ne C 138 142 d_M_beginOther_135 rfl (by decide) (fun _ => ?_) (fun h9 => absurd h9 (show ¬ (126 : Int32) = 38 by decide))
        refine z_bipush C 144 d_M_beginOther_142 rfl 12 (by decide) ?_
        refine z_iload_n C 145 d_M_beginOther_144 rfl rfl ?_
        refine z_iload_n C 146 d_M_beginOther_145 rfl rfl ?_
        refine z_call C 149 (c_M_node (i := s.2.1) hn (by exact h12) (by omega) 12 (rlk T z (s.1 + 1) - 97) s.1) w_M_node ini_M d_M_beginOther_146 rfl (z_goV (As := [.int (nI 12), .int (rlk T z (s.1 + 1) - 97), .int (nI s.1)]) C l_M_136 w_M_node d_M_beginOther_146 (by omega) rfl rfl rfl) (Nat.le_of_ble_eq_true rfl) (by rw [hR]; simp only [zRm]; omega) (by rw [hR]; simp only [zRm]; omega) (by rw [hR]; simp only [zRm]; omega) (by rw [hR]; simp only [zRm]; omega) (fun v n' σ' hv => ?_) (fun x n' σ' hv => ?_)
        rotate_left
        · cases hv.1
        obtain ⟨e0, e1, rfl⟩ := hv
        cases e0
        obtain rfl : n = n' := e1.symm
        refine z_call C 152 (c_M_push (op := op) hn (by exact h19) (by omega) (nI (1200 + s.2.1))) w_M_push ini_M d_M_beginOther_149 rfl (z_goV (As := [.int (nI (1200 + s.2.1))]) C l_M_144 w_M_push d_M_beginOther_149 (by omega) rfl rfl rfl) (Nat.le_of_ble_eq_true rfl) (by rw [hR]; simp only [zRm]; omega) (by rw [hR]; simp only [zRm]; omega) (by rw [hR]; simp only [zRm]; omega) (by rw [hR]; simp only [zRm]; omega) (fun v n' σ' hv => ?_) (fun x n' σ' hv => ?_)
        rotate_left
        · cases hv.1
        obtain ⟨e0, e1, rfl⟩ := hv
        cases e0
        obtain rfl : n = n' := e1.symm
        refine z_aload_n C 153 d_M_beginOther_152 rfl rfl ?_
        refine zm_get C 156 f_M_104 d_M_beginOther_153 rfl hn rfl ?_
        rw [show (upd (upd (upd (upd (upd S 4 (nI (s.1 + 1))) 4 (nI (s.1 + 1 + 1))) 4 (nI (s.1 + 3))) 12 (nI (s.2.1 + 1))) 19 (nI (op + 1))) 5 = 0 from h5]
        exact z_zret C rfl (rfl) d_M_beginOther_156 (by rw [hpo, ← hhd]; exact ⟨rfl, _, _, rfl, rfl, mRd_node (s := s) (K := 12) (w0 := s.1) (x := rlk T z (s.1 + 1) - 97) (e := eVar (rE0 12 s.1) (rlk T z (s.1 + 1) - 97) (nI (s.1 + 1))) (q := s.1 + 3) h0 rfl h5 rfl rfl (fun k a4 a5 a12 a19 => by simp only [upd, if_neg a4, if_neg a5, if_neg a12, if_neg a19]) (fun a h1 h2 => mPu_ne h1 h2), rfl⟩) (by rw [hmc]; omega) (by rw [hms]; omega)
      · rw [if_neg r2] at hhd
        have TK := c_M_takes (G := G) (l := kl K) (L := L) (rn := rn) (σ := σ) (n := n) (S := upd (upd S 4 (nI (s.1 + 1))) 4 (nI (s.1 + 1 + 1))) (A := A) (p := s.1 + 1 + 1) (z := z) hn ⟨rfl, t2', hz, by omega, by rw [hA86]; exact hch⟩ 59
        rw [mlk_0 hA86 (show (upd (upd S 4 (nI (s.1 + 1))) 4 (nI (s.1 + 1 + 1))) 5 = 0 from h5), if_neg r2, if_neg r2] at TK
        refine z_call C 127 (TK) w_M_takes ini_M d_M_beginOther_124 rfl (z_goV (As := [.int 59]) C l_M_140 w_M_takes d_M_beginOther_124 (by omega) rfl rfl rfl) (Nat.le_of_ble_eq_true rfl) (by rw [hR]; simp only [zRm]; omega) (by rw [hR]; simp only [zRm]; omega) (by rw [hR]; simp only [zRm]; omega) (by rw [hR]; simp only [zRm]; omega) (fun v n' σ' hv => ?_) (fun x n' σ' hv => ?_)
        rotate_left
        · cases hv.1
        obtain ⟨e0, e1, rfl⟩ := hv
        cases e0
        obtain rfl : n = n' := e1.symm
        refine z_call C 130 (c_M_want hn 0) w_M_want ini_M d_M_beginOther_127 rfl (z_goV (As := [.int 0]) C l_M_122 w_M_want d_M_beginOther_127 (by omega) rfl rfl rfl) (Nat.le_of_ble_eq_true rfl) (by rw [hR]; simp only [zRm]; omega) (by rw [hR]; simp only [zRm]; omega) (by rw [hR]; simp only [zRm]; omega) (by rw [hR]; simp only [zRm]; omega) (fun v n' σ' hv => ?_) (fun x n' σ' hv => ?_)
        rotate_left
        · cases hv.1
        obtain ⟨e0, e1, rfl⟩ := hv
        cases e0
        obtain rfl : n = n' := e1.symm
        rw [if_pos (show (0 : Int32) = 0 from rfl)]
        refine z_aload_n C 131 d_M_beginOther_130 rfl rfl ?_
        refine z_aload_n C 132 d_M_beginOther_131 rfl rfl ?_
        refine z_iload_n C 133 d_M_beginOther_132 rfl rfl ?_
        refine z_bipush C 135 d_M_beginOther_133 rfl 38 (by decide) ?_
        refine z_icmp_ne C 138 142 d_M_beginOther_135 rfl (by decide) (fun _ => ?_) (fun h9 => absurd h9 (show ¬ (126 : Int32) = 38 by decide))
        refine z_bipush C 144 d_M_beginOther_142 rfl 12 (by decide) ?_
        refine z_iload_n C 145 d_M_beginOther_144 rfl rfl ?_
        refine z_iload_n C 146 d_M_beginOther_145 rfl rfl ?_
        refine z_call C 149 (c_M_node (i := s.2.1) hn (by exact h12) (by omega) 12 (rlk T z (s.1 + 1) - 97) s.1) w_M_node ini_M d_M_beginOther_146 rfl (z_goV (As := [.int (nI 12), .int (rlk T z (s.1 + 1) - 97), .int (nI s.1)]) C l_M_136 w_M_node d_M_beginOther_146 (by omega) rfl rfl rfl) (Nat.le_of_ble_eq_true rfl) (by rw [hR]; simp only [zRm]; omega) (by rw [hR]; simp only [zRm]; omega) (by rw [hR]; simp only [zRm]; omega) (by rw [hR]; simp only [zRm]; omega) (fun v n' σ' hv => ?_) (fun x n' σ' hv => ?_)
        rotate_left
        · cases hv.1
        obtain ⟨e0, e1, rfl⟩ := hv
        cases e0
        obtain rfl : n = n' := e1.symm
        refine z_call C 152 (c_M_push (op := op) hn (by exact h19) (by omega) (nI (1200 + s.2.1))) w_M_push ini_M d_M_beginOther_149 rfl (z_goV (As := [.int (nI (1200 + s.2.1))]) C l_M_144 w_M_push d_M_beginOther_149 (by omega) rfl rfl rfl) (Nat.le_of_ble_eq_true rfl) (by rw [hR]; simp only [zRm]; omega) (by rw [hR]; simp only [zRm]; omega) (by rw [hR]; simp only [zRm]; omega) (by rw [hR]; simp only [zRm]; omega) (fun v n' σ' hv => ?_) (fun x n' σ' hv => ?_)
        rotate_left
        · cases hv.1
        obtain ⟨e0, e1, rfl⟩ := hv
        cases e0
        obtain rfl : n = n' := e1.symm
        refine z_aload_n C 153 d_M_beginOther_152 rfl rfl ?_
        refine zm_get C 156 f_M_104 d_M_beginOther_153 rfl hn rfl ?_
        exact z_zret (x := 1) C rfl (rfl) d_M_beginOther_156 (by rw [hpo, ← hhd]; exact ⟨rfl, _, _, rfl, ⟨_, rfl, rfl⟩, mIl_mk h0 rfl rfl (fun k a4 a5 a12 a19 => by simp only [upd, if_neg a4, if_neg a5, if_neg a12, if_neg a19]) (fun a k h1 h2 h3 => by rw [mPu_ne h1 h2, rFlat_ne (by omega)])⟩) (by rw [hmc]; omega) (by rw [hms]; omega)
  have n38 : ¬ c = 38 := fun q => w38 (Or.inl q)
  have n126 : ¬ c = 126 := fun q => w38 (Or.inr q)
  rw [if_neg n40, if_neg n63, if_neg n64, if_neg n37, if_neg n38, if_neg n126, if_neg w35, if_neg w94, if_neg w36] at hhd
  refine z_iload_n C 79 d_M_beginOther_78 rfl rfl ?_
  refine z_bipush C 81 d_M_beginOther_79 rfl 38 (by decide) ?_
  refine z_icmp_eq C 84 90 d_M_beginOther_81 rfl (by decide) (fun h9 => absurd h9 n38) (fun _ => ?_)
  refine z_iload_n C 85 d_M_beginOther_84 rfl rfl ?_
  refine z_bipush C 87 d_M_beginOther_85 rfl 126 (by decide) ?_
  refine z_icmp_ne C 90 157 d_M_beginOther_87 rfl (by decide) (fun _ => ?_) (fun h9 => absurd h9 n126)
  refine z_aload_n C 158 d_M_beginOther_157 rfl rfl ?_
  refine z_bipush C 160 d_M_beginOther_158 rfl 65 (by decide) ?_
  refine z_bipush C 162 d_M_beginOther_160 rfl 72 (by decide) ?_
  have LT := c_M_letter (G := G) (l := kl K) (L := L) (rn := rn) (σ := σ) (n := n) (S := S) (A := A) (p := s.1) (z := z) hn ⟨h4, t2', hz, by omega, by rw [hA86]; exact hch⟩ 65 72 (by decide)
  rw [mlk_0 hA86 h5, hc] at LT
  refine z_call C 165 (LT) w_M_letter ini_M d_M_beginOther_162 rfl (z_goV (As := [.int 65, .int 72]) C l_M_132 w_M_letter d_M_beginOther_162 (by omega) rfl rfl rfl) (Nat.le_of_ble_eq_true rfl) (by rw [hR]; simp only [zRm]; omega) (by rw [hR]; simp only [zRm]; omega) (by rw [hR]; simp only [zRm]; omega) (by rw [hR]; simp only [zRm]; omega) (fun v n' σ' hv => ?_) (fun x n' σ' hv => ?_)
  rotate_left
  · rcases hv with ⟨-, ⟨-, e0, -⟩ | ⟨-, e0, -⟩⟩ <;> cases e0
  obtain ⟨e1, hv⟩ := hv; obtain rfl : n = n' := e1.symm
  by_cases r1 : 65 ≤ c ∧ c ≤ 72
  rotate_left
  · obtain ⟨-, e0, rfl⟩ := hv.resolve_left (fun q => r1 q.1)
    cases e0
    rw [if_neg r1] at hhd
    refine z_istore_n C 166 d_M_beginOther_165 rfl (by decide) ?_
    refine z_aload_n C 167 d_M_beginOther_166 rfl rfl ?_
    refine z_aload_n C 168 d_M_beginOther_167 rfl rfl ?_
    refine z_bipush C 170 d_M_beginOther_168 rfl 40 (by decide) ?_
    have TK := c_M_takes (G := G) (l := kl K) (L := L) (rn := rn) (σ := σ) (n := n) (S := upd S 5 1) (A := A) (p := s.1) (z := z) hn ⟨h4, t2', hz, by omega, by rw [hA86]; exact hch⟩ 40
    rw [mlk_1 (show (upd S 5 1) 5 = 1 from rfl), if_neg (show ¬ (0 : Int32) = 40 by decide), if_neg (show ¬ (0 : Int32) = 40 by decide)] at TK
    refine z_call C 173 (TK) w_M_takes ini_M d_M_beginOther_170 rfl (z_goV (As := [.int 40]) C l_M_140 w_M_takes d_M_beginOther_170 (by omega) rfl rfl rfl) (Nat.le_of_ble_eq_true rfl) (by rw [hR]; simp only [zRm]; omega) (by rw [hR]; simp only [zRm]; omega) (by rw [hR]; simp only [zRm]; omega) (by rw [hR]; simp only [zRm]; omega) (fun v n' σ' hv => ?_) (fun x n' σ' hv => ?_)
    rotate_left
    · cases hv.1
    obtain ⟨e0, e1, rfl⟩ := hv
    cases e0
    obtain rfl : n = n' := e1.symm
    refine z_call C 176 (c_M_want hn 0) w_M_want ini_M d_M_beginOther_173 rfl (z_goV (As := [.int 0]) C l_M_122 w_M_want d_M_beginOther_173 (by omega) rfl rfl rfl) (Nat.le_of_ble_eq_true rfl) (by rw [hR]; simp only [zRm]; omega) (by rw [hR]; simp only [zRm]; omega) (by rw [hR]; simp only [zRm]; omega) (by rw [hR]; simp only [zRm]; omega) (fun v n' σ' hv => ?_) (fun x n' σ' hv => ?_)
    rotate_left
    · cases hv.1
    obtain ⟨e0, e1, rfl⟩ := hv
    cases e0
    obtain rfl : n = n' := e1.symm
    rw [if_pos (show (0 : Int32) = 0 from rfl)]
    refine z_aload_n C 177 d_M_beginOther_176 rfl rfl ?_
    refine zm_get C 180 f_M_104 d_M_beginOther_177 rfl hn rfl ?_
    refine z_if_eq C 183 185 d_M_beginOther_180 rfl (by decide) (fun h9 => absurd h9 (show ¬ (1 : Int32) = 0 by decide)) (fun _ => ?_)
    refine z_iconst C 184 d_M_beginOther_183 rfl 1 (by decide) ?_
    exact z_zret C rfl (rfl) d_M_beginOther_184 (by rw [hpo]; exact (by rw [← hhd]; exact ⟨rfl, _, _, rfl, ⟨_, rfl, rfl⟩, mIl_mk h0 h4 rfl (fun k a4 a5 a12 a19 => by simp only [upd, if_neg a4, if_neg a5, if_neg a12, if_neg a19]) (fun _ _ _ _ _ => rfl)⟩)) (by rw [hmc]; omega) (by rw [hms]; omega)
  obtain ⟨-, e0, rfl⟩ := hv.resolve_right (fun q => q.1 r1)
  cases e0
  rw [if_pos r1] at hhd
  refine z_istore_n C 166 d_M_beginOther_165 rfl (by decide) ?_
  refine z_aload_n C 167 d_M_beginOther_166 rfl rfl ?_
  refine z_aload_n C 168 d_M_beginOther_167 rfl rfl ?_
  refine z_bipush C 170 d_M_beginOther_168 rfl 40 (by decide) ?_
  have TK := c_M_takes (G := G) (l := kl K) (L := L) (rn := rn) (σ := σ) (n := n) (S := upd S 4 (nI (s.1 + 1))) (A := A) (p := s.1 + 1) (z := z) hn ⟨rfl, t2', hz, by omega, by rw [hA86]; exact hch⟩ 40
  rw [mlk_0 hA86 (show (upd S 4 (nI (s.1 + 1))) 5 = 0 from h5)] at TK
  by_cases r2 : rlk T z (s.1 + 1) = 40
  rotate_left
  · rw [if_neg r2] at hhd
    rw [if_neg r2, if_neg r2] at TK
    refine z_call C 173 (TK) w_M_takes ini_M d_M_beginOther_170 rfl (z_goV (As := [.int 40]) C l_M_140 w_M_takes d_M_beginOther_170 (by omega) rfl rfl rfl) (Nat.le_of_ble_eq_true rfl) (by rw [hR]; simp only [zRm]; omega) (by rw [hR]; simp only [zRm]; omega) (by rw [hR]; simp only [zRm]; omega) (by rw [hR]; simp only [zRm]; omega) (fun v n' σ' hv => ?_) (fun x n' σ' hv => ?_)
    rotate_left
    · cases hv.1
    obtain ⟨e0, e1, rfl⟩ := hv
    cases e0
    obtain rfl : n = n' := e1.symm
    refine z_call C 176 (c_M_want hn 0) w_M_want ini_M d_M_beginOther_173 rfl (z_goV (As := [.int 0]) C l_M_122 w_M_want d_M_beginOther_173 (by omega) rfl rfl rfl) (Nat.le_of_ble_eq_true rfl) (by rw [hR]; simp only [zRm]; omega) (by rw [hR]; simp only [zRm]; omega) (by rw [hR]; simp only [zRm]; omega) (by rw [hR]; simp only [zRm]; omega) (fun v n' σ' hv => ?_) (fun x n' σ' hv => ?_)
    rotate_left
    · cases hv.1
    obtain ⟨e0, e1, rfl⟩ := hv
    cases e0
    obtain rfl : n = n' := e1.symm
    rw [if_pos (show (0 : Int32) = 0 from rfl)]
    refine z_aload_n C 177 d_M_beginOther_176 rfl rfl ?_
    refine zm_get C 180 f_M_104 d_M_beginOther_177 rfl hn rfl ?_
    refine z_if_eq C 183 185 d_M_beginOther_180 rfl (by decide) (fun h9 => absurd h9 (show ¬ (1 : Int32) = 0 by decide)) (fun _ => ?_)
    refine z_iconst C 184 d_M_beginOther_183 rfl 1 (by decide) ?_
    exact z_zret C rfl (rfl) d_M_beginOther_184 (by rw [hpo]; exact (by rw [← hhd]; exact ⟨rfl, _, _, rfl, ⟨_, rfl, rfl⟩, mIl_mk h0 rfl rfl (fun k a4 a5 a12 a19 => by simp only [upd, if_neg a4, if_neg a5, if_neg a12, if_neg a19]) (fun _ _ _ _ _ => rfl)⟩)) (by rw [hmc]; omega) (by rw [hms]; omega)
  rw [if_pos r2] at hhd
  rw [if_pos r2, if_pos r2, show (upd S 4 (nI (s.1 + 1))) 4 + 1 = nI (s.1 + 2) from nI_1 _] at TK
  have hp1 : s.1 + 1 < z := rlk_lt r2 (by decide)
  refine z_call C 173 (TK) w_M_takes ini_M d_M_beginOther_170 rfl (z_goV (As := [.int 40]) C l_M_140 w_M_takes d_M_beginOther_170 (by omega) rfl rfl rfl) (Nat.le_of_ble_eq_true rfl) (by rw [hR]; simp only [zRm]; omega) (by rw [hR]; simp only [zRm]; omega) (by rw [hR]; simp only [zRm]; omega) (by rw [hR]; simp only [zRm]; omega) (fun v n' σ' hv => ?_) (fun x n' σ' hv => ?_)
  rotate_left
  · cases hv.1
  obtain ⟨e0, e1, rfl⟩ := hv
  cases e0
  obtain rfl : n = n' := e1.symm
  refine z_call C 176 (c_M_want hn 1) w_M_want ini_M d_M_beginOther_173 rfl (z_goV (As := [.int 1]) C l_M_122 w_M_want d_M_beginOther_173 (by omega) rfl rfl rfl) (Nat.le_of_ble_eq_true rfl) (by rw [hR]; simp only [zRm]; omega) (by rw [hR]; simp only [zRm]; omega) (by rw [hR]; simp only [zRm]; omega) (by rw [hR]; simp only [zRm]; omega) (fun v n' σ' hv => ?_) (fun x n' σ' hv => ?_)
  rotate_left
  · cases hv.1
  obtain ⟨e0, e1, rfl⟩ := hv
  cases e0
  obtain rfl : n = n' := e1.symm
  rw [if_neg (show ¬ (1 : Int32) = 0 by decide)]
  refine z_aload_n C 177 d_M_beginOther_176 rfl rfl ?_
  refine zm_get C 180 f_M_104 d_M_beginOther_177 rfl hn rfl ?_
  refine z_if_eq C 183 185 d_M_beginOther_180 rfl (by decide) (fun _ => ?_) (fun h9 => absurd (show S 5 = 0 from h5) h9)
  refine z_aload_n C 186 d_M_beginOther_185 rfl rfl ?_
  refine z_bipush C 188 d_M_beginOther_186 rfl 13 (by decide) ?_
  refine z_iload_n C 189 d_M_beginOther_188 rfl rfl ?_
  refine z_iload_n C 190 d_M_beginOther_189 rfl rfl ?_
  refine z_call C 193 (c_M_node (i := s.2.1) hn (by exact h12) (by omega) 13 (c - 65) s.1) w_M_node ini_M d_M_beginOther_190 rfl (z_goV (As := [.int (nI 13), .int (c - 65), .int (nI s.1)]) C l_M_136 w_M_node d_M_beginOther_190 (by omega) rfl rfl rfl) (Nat.le_of_ble_eq_true rfl) (by rw [hR]; simp only [zRm]; omega) (by rw [hR]; simp only [zRm]; omega) (by rw [hR]; simp only [zRm]; omega) (by rw [hR]; simp only [zRm]; omega) (fun v n' σ' hv => ?_) (fun x n' σ' hv => ?_)
  rotate_left
  · cases hv.1
  obtain ⟨e0, e1, rfl⟩ := hv
  cases e0
  obtain rfl : n = n' := e1.symm
  refine z_istore C 195 d_M_beginOther_193 rfl (by decide) ?_
  refine z_aload_n C 196 d_M_beginOther_195 rfl rfl ?_
  refine z_bipush C 198 d_M_beginOther_196 rfl 41 (by decide) ?_
  have TK2 := c_M_takes (G := G) (l := kl K) (L := L) (rn := rn) (σ := σ) (n := n) (S := upd (upd (upd S 4 (nI (s.1 + 1))) 4 (nI (s.1 + 2))) 12 (nI (s.2.1 + 1))) (A := rFlat A s.2.1 13 (c - 65) s.1) (p := s.1 + 2) (z := z) hn ⟨rfl, t2', hz, by omega, by show ∀ i, i < 150 → narrow .char (.int (A 86 i)) = .int (A 86 i); rw [hA86]; exact hch⟩ 41
  rw [mlk_0 (show (rFlat A s.2.1 13 (c - 65) s.1) 86 = T from hA86) (show (upd (upd (upd S 4 (nI (s.1 + 1))) 4 (nI (s.1 + 2))) 12 (nI (s.2.1 + 1))) 5 = 0 from h5)] at TK2
  by_cases r3 : rlk T z (s.1 + 2) = 41
  · rw [if_pos r3] at hhd
    rw [if_pos r3, if_pos r3, show (upd (upd (upd S 4 (nI (s.1 + 1))) 4 (nI (s.1 + 2))) 12 (nI (s.2.1 + 1))) 4 + 1 = nI (s.1 + 3) from nI_1 _] at TK2
    refine z_call C 201 (TK2) w_M_takes ini_M d_M_beginOther_198 rfl (z_goV (As := [.int 41]) C l_M_140 w_M_takes d_M_beginOther_198 (by omega) rfl rfl rfl) (Nat.le_of_ble_eq_true rfl) (by rw [hR]; simp only [zRm]; omega) (by rw [hR]; simp only [zRm]; omega) (by rw [hR]; simp only [zRm]; omega) (by rw [hR]; simp only [zRm]; omega) (fun v n' σ' hv => ?_) (fun x n' σ' hv => ?_)
    rotate_left
    · cases hv.1
    obtain ⟨e0, e1, rfl⟩ := hv
    cases e0
    obtain rfl : n = n' := e1.symm
    refine z_if_eq C 204 206 d_M_beginOther_201 rfl (by decide) (fun h9 => absurd h9 (show ¬ (1 : Int32) = 0 by decide)) (fun _ => ?_)
    refine z_iconst C 205 d_M_beginOther_204 rfl 1 (by decide) ?_
    exact z_zret C rfl (rfl) d_M_beginOther_205 (by rw [hpo]; exact (by rw [← hhd]; exact ⟨rfl, _, _, rfl, rfl, mRd_node h0 rfl h5 rfl h19 (fun k a4 a5 a12 a19 => by simp only [upd, if_neg a4, if_neg a5, if_neg a12, if_neg a19]) (fun a h1 h2 => rfl), rfl⟩)) (by rw [hmc]; omega) (by rw [hms]; omega)
  · rw [if_neg r3] at hhd
    rw [if_neg r3, if_neg r3] at TK2
    refine z_call C 201 (TK2) w_M_takes ini_M d_M_beginOther_198 rfl (z_goV (As := [.int 41]) C l_M_140 w_M_takes d_M_beginOther_198 (by omega) rfl rfl rfl) (Nat.le_of_ble_eq_true rfl) (by rw [hR]; simp only [zRm]; omega) (by rw [hR]; simp only [zRm]; omega) (by rw [hR]; simp only [zRm]; omega) (by rw [hR]; simp only [zRm]; omega) (fun v n' σ' hv => ?_) (fun x n' σ' hv => ?_)
    rotate_left
    · cases hv.1
    obtain ⟨e0, e1, rfl⟩ := hv
    cases e0
    obtain rfl : n = n' := e1.symm
    refine z_if_eq C 204 206 d_M_beginOther_201 rfl (by decide) (fun _ => ?_) (fun h9 => absurd (show (0 : Int32) = 0 from rfl) h9)
    refine z_aload_n C 207 d_M_beginOther_206 rfl rfl ?_
    refine z_iload C 209 d_M_beginOther_207 rfl rfl ?_
    refine z_call C 212 (c_M_push (op := op) hn (by exact h19) (by omega) (nI (1200 + s.2.1))) w_M_push ini_M d_M_beginOther_209 rfl (z_goV (As := [.int (nI (1200 + s.2.1))]) C l_M_144 w_M_push d_M_beginOther_209 (by omega) rfl rfl rfl) (Nat.le_of_ble_eq_true rfl) (by rw [hR]; simp only [zRm]; omega) (by rw [hR]; simp only [zRm]; omega) (by rw [hR]; simp only [zRm]; omega) (by rw [hR]; simp only [zRm]; omega) (fun v n' σ' hv => ?_) (fun x n' σ' hv => ?_)
    rotate_left
    · cases hv.1
    obtain ⟨e0, e1, rfl⟩ := hv
    cases e0
    obtain rfl : n = n' := e1.symm
    refine z_iconst C 213 d_M_beginOther_212 rfl 0 (by decide) ?_
    exact z_zret C rfl (rfl) d_M_beginOther_213 (by rw [hpo]; exact (by rw [← hhd]; exact ⟨rfl, _, _, rfl, rfl, mRd_node h0 rfl h5 rfl rfl (fun k a4 a5 a12 a19 => by simp only [upd, if_neg a4, if_neg a5, if_neg a12, if_neg a19]) (fun a h1 h2 => mPu_ne h1 h2), rfl⟩)) (by rw [hmc]; omega) (by rw [hms]; omega)
end MRD
