theorem d_M_lookAll_0 : decode b_M_lookAll 0 = .ok (.aload_n 0, 1) := by decide +kernel
theorem d_M_lookAll_1 : decode b_M_lookAll 1 = .ok (.iconst 0, 1) := by decide +kernel
theorem d_M_lookAll_2 : decode b_M_lookAll 2 = .ok (.putfield 129, 3) := by decide +kernel
theorem d_M_lookAll_5 : decode b_M_lookAll 5 = .ok (.sipush 1200, 3) := by decide +kernel
theorem d_M_lookAll_8 : decode b_M_lookAll 8 = .ok (.istore_n 1, 1) := by decide +kernel
theorem d_M_lookAll_9 : decode b_M_lookAll 9 = .ok (.iconst 0, 1) := by decide +kernel
theorem d_M_lookAll_10 : decode b_M_lookAll 10 = .ok (.istore_n 2, 1) := by decide +kernel
theorem d_M_lookAll_11 : decode b_M_lookAll 11 = .ok (.iconst 1, 1) := by decide +kernel
theorem d_M_lookAll_12 : decode b_M_lookAll 12 = .ok (.istore_n 3, 1) := by decide +kernel
theorem d_M_lookAll_13 : decode b_M_lookAll 13 = .ok (.aload_n 0, 1) := by decide +kernel
theorem d_M_lookAll_14 : decode b_M_lookAll 14 = .ok (.iload_n 1, 1) := by decide +kernel
theorem d_M_lookAll_15 : decode b_M_lookAll 15 = .ok (.invokevirtual 192, 3) := by decide +kernel
theorem d_M_lookAll_18 : decode b_M_lookAll 18 = .ok (.aload_n 0, 1) := by decide +kernel
theorem d_M_lookAll_19 : decode b_M_lookAll 19 = .ok (.getfield 162, 3) := by decide +kernel
theorem d_M_lookAll_22 : decode b_M_lookAll 22 = .ok (.ifCond .ge 192, 3) := by decide +kernel
theorem d_M_lookAll_25 : decode b_M_lookAll 25 = .ok (.iload_n 3, 1) := by decide +kernel
theorem d_M_lookAll_26 : decode b_M_lookAll 26 = .ok (.ifCond .ne 10, 3) := by decide +kernel
theorem d_M_lookAll_29 : decode b_M_lookAll 29 = .ok (.aload_n 0, 1) := by decide +kernel
theorem d_M_lookAll_30 : decode b_M_lookAll 30 = .ok (.getfield 129, 3) := by decide +kernel
theorem d_M_lookAll_33 : decode b_M_lookAll 33 = .ok (.ifCond .le 181, 3) := by decide +kernel
theorem d_M_lookAll_36 : decode b_M_lookAll 36 = .ok (.iload_n 3, 1) := by decide +kernel
theorem d_M_lookAll_37 : decode b_M_lookAll 37 = .ok (.ifCond .eq 29, 3) := by decide +kernel
theorem d_M_lookAll_40 : decode b_M_lookAll 40 = .ok (.aload_n 0, 1) := by decide +kernel
theorem d_M_lookAll_41 : decode b_M_lookAll 41 = .ok (.getfield 27, 3) := by decide +kernel
theorem d_M_lookAll_44 : decode b_M_lookAll 44 = .ok (.iload_n 1, 1) := by decide +kernel
theorem d_M_lookAll_45 : decode b_M_lookAll 45 = .ok (.iaload, 1) := by decide +kernel
theorem d_M_lookAll_46 : decode b_M_lookAll 46 = .ok (.ifCond .le 20, 3) := by decide +kernel
theorem d_M_lookAll_49 : decode b_M_lookAll 49 = .ok (.aload_n 0, 1) := by decide +kernel
theorem d_M_lookAll_50 : decode b_M_lookAll 50 = .ok (.iload_n 1, 1) := by decide +kernel
theorem d_M_lookAll_51 : decode b_M_lookAll 51 = .ok (.invokevirtual 144, 3) := by decide +kernel
theorem d_M_lookAll_54 : decode b_M_lookAll 54 = .ok (.iload_n 1, 1) := by decide +kernel
theorem d_M_lookAll_55 : decode b_M_lookAll 55 = .ok (.iconst 1, 1) := by decide +kernel
theorem d_M_lookAll_56 : decode b_M_lookAll 56 = .ok (.iadd, 1) := by decide +kernel
theorem d_M_lookAll_57 : decode b_M_lookAll 57 = .ok (.istore_n 1, 1) := by decide +kernel
theorem d_M_lookAll_58 : decode b_M_lookAll 58 = .ok (.aload_n 0, 1) := by decide +kernel
theorem d_M_lookAll_59 : decode b_M_lookAll 59 = .ok (.iload_n 1, 1) := by decide +kernel
theorem d_M_lookAll_60 : decode b_M_lookAll 60 = .ok (.invokevirtual 192, 3) := by decide +kernel
theorem d_M_lookAll_63 : decode b_M_lookAll 63 = .ok (.goto (-45), 3) := by decide +kernel
theorem d_M_lookAll_66 : decode b_M_lookAll 66 = .ok (.iload_n 3, 1) := by decide +kernel
theorem d_M_lookAll_67 : decode b_M_lookAll 67 = .ok (.ifCond .eq 10, 3) := by decide +kernel
theorem d_M_lookAll_70 : decode b_M_lookAll 70 = .ok (.aload_n 0, 1) := by decide +kernel
theorem d_M_lookAll_71 : decode b_M_lookAll 71 = .ok (.iload_n 1, 1) := by decide +kernel
theorem d_M_lookAll_72 : decode b_M_lookAll 72 = .ok (.iconst 0, 1) := by decide +kernel
theorem d_M_lookAll_73 : decode b_M_lookAll 73 = .ok (.invokevirtual 195, 3) := by decide +kernel
theorem d_M_lookAll_76 : decode b_M_lookAll 76 = .ok (.istore_n 2, 1) := by decide +kernel
theorem d_M_lookAll_77 : decode b_M_lookAll 77 = .ok (.iconst 0, 1) := by decide +kernel
theorem d_M_lookAll_78 : decode b_M_lookAll 78 = .ok (.istore_n 3, 1) := by decide +kernel
theorem d_M_lookAll_79 : decode b_M_lookAll 79 = .ok (.aload_n 0, 1) := by decide +kernel
theorem d_M_lookAll_80 : decode b_M_lookAll 80 = .ok (.getfield 162, 3) := by decide +kernel
theorem d_M_lookAll_83 : decode b_M_lookAll 83 = .ok (.ifCond .ge (-65), 3) := by decide +kernel
theorem d_M_lookAll_86 : decode b_M_lookAll 86 = .ok (.aload_n 0, 1) := by decide +kernel
theorem d_M_lookAll_87 : decode b_M_lookAll 87 = .ok (.getfield 129, 3) := by decide +kernel
theorem d_M_lookAll_90 : decode b_M_lookAll 90 = .ok (.ifCond .ne 6, 3) := by decide +kernel
theorem d_M_lookAll_93 : decode b_M_lookAll 93 = .ok (.goto (-75), 3) := by decide +kernel
theorem d_M_lookAll_96 : decode b_M_lookAll 96 = .ok (.aload_n 0, 1) := by decide +kernel
theorem d_M_lookAll_97 : decode b_M_lookAll 97 = .ok (.getfield 52, 3) := by decide +kernel
theorem d_M_lookAll_100 : decode b_M_lookAll 100 = .ok (.aload_n 0, 1) := by decide +kernel
theorem d_M_lookAll_101 : decode b_M_lookAll 101 = .ok (.getfield 129, 3) := by decide +kernel
theorem d_M_lookAll_104 : decode b_M_lookAll 104 = .ok (.iconst 1, 1) := by decide +kernel
theorem d_M_lookAll_105 : decode b_M_lookAll 105 = .ok (.isub, 1) := by decide +kernel
theorem d_M_lookAll_106 : decode b_M_lookAll 106 = .ok (.iaload, 1) := by decide +kernel
theorem d_M_lookAll_107 : decode b_M_lookAll 107 = .ok (.istore 4, 2) := by decide +kernel
theorem d_M_lookAll_109 : decode b_M_lookAll 109 = .ok (.aload_n 0, 1) := by decide +kernel
theorem d_M_lookAll_110 : decode b_M_lookAll 110 = .ok (.iload 4, 2) := by decide +kernel
theorem d_M_lookAll_112 : decode b_M_lookAll 112 = .ok (.aload_n 0, 1) := by decide +kernel
theorem d_M_lookAll_113 : decode b_M_lookAll 113 = .ok (.getfield 55, 3) := by decide +kernel
theorem d_M_lookAll_116 : decode b_M_lookAll 116 = .ok (.aload_n 0, 1) := by decide +kernel
theorem d_M_lookAll_117 : decode b_M_lookAll 117 = .ok (.getfield 129, 3) := by decide +kernel
theorem d_M_lookAll_120 : decode b_M_lookAll 120 = .ok (.iconst 1, 1) := by decide +kernel
theorem d_M_lookAll_121 : decode b_M_lookAll 121 = .ok (.isub, 1) := by decide +kernel
theorem d_M_lookAll_122 : decode b_M_lookAll 122 = .ok (.iaload, 1) := by decide +kernel
theorem d_M_lookAll_123 : decode b_M_lookAll 123 = .ok (.iload_n 1, 1) := by decide +kernel
theorem d_M_lookAll_124 : decode b_M_lookAll 124 = .ok (.iload_n 2, 1) := by decide +kernel
theorem d_M_lookAll_125 : decode b_M_lookAll 125 = .ok (.invokevirtual 199, 3) := by decide +kernel
theorem d_M_lookAll_128 : decode b_M_lookAll 128 = .ok (.aload_n 0, 1) := by decide +kernel
theorem d_M_lookAll_129 : decode b_M_lookAll 129 = .ok (.getfield 55, 3) := by decide +kernel
theorem d_M_lookAll_132 : decode b_M_lookAll 132 = .ok (.aload_n 0, 1) := by decide +kernel
theorem d_M_lookAll_133 : decode b_M_lookAll 133 = .ok (.getfield 129, 3) := by decide +kernel
theorem d_M_lookAll_136 : decode b_M_lookAll 136 = .ok (.iconst 1, 1) := by decide +kernel
theorem d_M_lookAll_137 : decode b_M_lookAll 137 = .ok (.isub, 1) := by decide +kernel
theorem d_M_lookAll_138 : decode b_M_lookAll 138 = .ok (.dup2, 1) := by decide +kernel
theorem d_M_lookAll_139 : decode b_M_lookAll 139 = .ok (.iaload, 1) := by decide +kernel
theorem d_M_lookAll_140 : decode b_M_lookAll 140 = .ok (.iconst 1, 1) := by decide +kernel
theorem d_M_lookAll_141 : decode b_M_lookAll 141 = .ok (.iadd, 1) := by decide +kernel
theorem d_M_lookAll_142 : decode b_M_lookAll 142 = .ok (.iastore, 1) := by decide +kernel
theorem d_M_lookAll_143 : decode b_M_lookAll 143 = .ok (.aload_n 0, 1) := by decide +kernel
theorem d_M_lookAll_144 : decode b_M_lookAll 144 = .ok (.getfield 162, 3) := by decide +kernel
theorem d_M_lookAll_147 : decode b_M_lookAll 147 = .ok (.ifCond .lt 6, 3) := by decide +kernel
theorem d_M_lookAll_150 : decode b_M_lookAll 150 = .ok (.goto (-132), 3) := by decide +kernel
theorem d_M_lookAll_153 : decode b_M_lookAll 153 = .ok (.aload_n 0, 1) := by decide +kernel
theorem d_M_lookAll_154 : decode b_M_lookAll 154 = .ok (.getfield 55, 3) := by decide +kernel
theorem d_M_lookAll_157 : decode b_M_lookAll 157 = .ok (.aload_n 0, 1) := by decide +kernel
theorem d_M_lookAll_158 : decode b_M_lookAll 158 = .ok (.getfield 129, 3) := by decide +kernel
theorem d_M_lookAll_161 : decode b_M_lookAll 161 = .ok (.iconst 1, 1) := by decide +kernel
theorem d_M_lookAll_162 : decode b_M_lookAll 162 = .ok (.isub, 1) := by decide +kernel
theorem d_M_lookAll_163 : decode b_M_lookAll 163 = .ok (.iaload, 1) := by decide +kernel
theorem d_M_lookAll_164 : decode b_M_lookAll 164 = .ok (.aload_n 0, 1) := by decide +kernel
theorem d_M_lookAll_165 : decode b_M_lookAll 165 = .ok (.getfield 27, 3) := by decide +kernel
theorem d_M_lookAll_168 : decode b_M_lookAll 168 = .ok (.iload 4, 2) := by decide +kernel
theorem d_M_lookAll_170 : decode b_M_lookAll 170 = .ok (.iaload, 1) := by decide +kernel
theorem d_M_lookAll_171 : decode b_M_lookAll 171 = .ok (.if_icmp .ge 20, 3) := by decide +kernel
theorem d_M_lookAll_174 : decode b_M_lookAll 174 = .ok (.aload_n 0, 1) := by decide +kernel
theorem d_M_lookAll_175 : decode b_M_lookAll 175 = .ok (.getfield 30, 3) := by decide +kernel
theorem d_M_lookAll_178 : decode b_M_lookAll 178 = .ok (.iload_n 1, 1) := by decide +kernel
theorem d_M_lookAll_179 : decode b_M_lookAll 179 = .ok (.iaload, 1) := by decide +kernel
theorem d_M_lookAll_180 : decode b_M_lookAll 180 = .ok (.istore_n 1, 1) := by decide +kernel
theorem d_M_lookAll_181 : decode b_M_lookAll 181 = .ok (.iconst 1, 1) := by decide +kernel
theorem d_M_lookAll_182 : decode b_M_lookAll 182 = .ok (.istore_n 3, 1) := by decide +kernel
theorem d_M_lookAll_183 : decode b_M_lookAll 183 = .ok (.aload_n 0, 1) := by decide +kernel
theorem d_M_lookAll_184 : decode b_M_lookAll 184 = .ok (.iload_n 1, 1) := by decide +kernel
theorem d_M_lookAll_185 : decode b_M_lookAll 185 = .ok (.invokevirtual 192, 3) := by decide +kernel
theorem d_M_lookAll_188 : decode b_M_lookAll 188 = .ok (.goto 23, 3) := by decide +kernel
theorem d_M_lookAll_191 : decode b_M_lookAll 191 = .ok (.aload_n 0, 1) := by decide +kernel
theorem d_M_lookAll_192 : decode b_M_lookAll 192 = .ok (.dup, 1) := by decide +kernel
theorem d_M_lookAll_193 : decode b_M_lookAll 193 = .ok (.getfield 129, 3) := by decide +kernel
theorem d_M_lookAll_196 : decode b_M_lookAll 196 = .ok (.iconst 1, 1) := by decide +kernel
theorem d_M_lookAll_197 : decode b_M_lookAll 197 = .ok (.isub, 1) := by decide +kernel
theorem d_M_lookAll_198 : decode b_M_lookAll 198 = .ok (.putfield 129, 3) := by decide +kernel
theorem d_M_lookAll_201 : decode b_M_lookAll 201 = .ok (.iload 4, 2) := by decide +kernel
theorem d_M_lookAll_203 : decode b_M_lookAll 203 = .ok (.istore_n 1, 1) := by decide +kernel
theorem d_M_lookAll_204 : decode b_M_lookAll 204 = .ok (.aload_n 0, 1) := by decide +kernel
theorem d_M_lookAll_205 : decode b_M_lookAll 205 = .ok (.iload_n 1, 1) := by decide +kernel
theorem d_M_lookAll_206 : decode b_M_lookAll 206 = .ok (.iload_n 2, 1) := by decide +kernel
theorem d_M_lookAll_207 : decode b_M_lookAll 207 = .ok (.invokevirtual 195, 3) := by decide +kernel
theorem d_M_lookAll_210 : decode b_M_lookAll 210 = .ok (.istore_n 2, 1) := by decide +kernel
theorem d_M_lookAll_211 : decode b_M_lookAll 211 = .ok (.goto (-193), 3) := by decide +kernel
theorem d_M_lookAll_214 : decode b_M_lookAll 214 = .ok (.iload_n 2, 1) := by decide +kernel
theorem d_M_lookAll_215 : decode b_M_lookAll 215 = .ok (.ireturn, 1) := by decide +kernel
section MLA
variable {G : zG} {K : zK} {n : Nat} {σ : zS} {S0 : mS} {A0 : mA} {L : mL} {rn : Int64} {cl : Nat → Option cF} {f : Nat} {E : Nat → eN}
theorem lq_2 {τ : zS} {k1 k2 pc : Nat} {st : List Value} {d a b c : Value} (h : Z G K n τ k1 k2 pc [(1, a), (2, b), (3, c), (0, d)] st) : Z G K n τ k1 k2 pc [(2, b), (1, a), (3, c), (0, d)] st := by
  refine Z.lvs (fun q hq => ?_) h
  simp only [List.mem_cons, List.not_mem_nil, or_false] at hq ⊢
  rcases hq with h | h | h | h
  · exact Or.inr (Or.inl h)
  · exact Or.inl h
  · exact Or.inr (Or.inr (Or.inl h))
  · exact Or.inr (Or.inr (Or.inr (h)))
theorem lq_32 {τ : zS} {k1 k2 pc : Nat} {st : List Value} {d a b c : Value} (h : Z G K n τ k1 k2 pc [(1, a), (2, b), (3, c), (0, d)] st) : Z G K n τ k1 k2 pc [(3, c), (2, b), (1, a), (0, d)] st := by
  refine Z.lvs (fun q hq => ?_) h
  simp only [List.mem_cons, List.not_mem_nil, or_false] at hq ⊢
  rcases hq with h | h | h | h
  · exact Or.inr (Or.inr (Or.inl h))
  · exact Or.inr (Or.inl h)
  · exact Or.inl h
  · exact Or.inr (Or.inr (Or.inr (h)))
theorem lq_3 {τ : zS} {k1 k2 pc : Nat} {st : List Value} {d a b c : Value} (h : Z G K n τ k1 k2 pc [(1, a), (2, b), (3, c), (0, d)] st) : Z G K n τ k1 k2 pc [(3, c), (1, a), (2, b), (0, d)] st := by
  refine Z.lvs (fun q hq => ?_) h
  simp only [List.mem_cons, List.not_mem_nil, or_false] at hq ⊢
  rcases hq with h | h | h | h
  · exact Or.inr (Or.inl h)
  · exact Or.inr (Or.inr (Or.inl h))
  · exact Or.inl h
  · exact Or.inr (Or.inr (Or.inr (h)))
theorem lq_4 {τ : zS} {k1 k2 pc : Nat} {st : List Value} {d a b c e : Value} (h : Z G K n τ k1 k2 pc [(1, a), (2, b), (3, c), (0, d)] st) : Z G K n τ k1 k2 pc [(4, e), (1, a), (2, b), (3, c), (0, d)] st := by
  refine Z.lvs (fun q hq => ?_) h
  simp only [List.mem_cons, List.not_mem_nil, or_false] at hq ⊢
  rcases hq with h | h | h | h
  · exact Or.inr (Or.inl h)
  · exact Or.inr (Or.inr (Or.inl h))
  · exact Or.inr (Or.inr (Or.inr (Or.inl h)))
  · exact Or.inr (Or.inr (Or.inr (Or.inr (h))))
theorem lq_314 {τ : zS} {k1 k2 pc : Nat} {st : List Value} {d a b c e : Value} (h : Z G K n τ k1 k2 pc [(1, a), (2, b), (3, c), (0, d)] st) : Z G K n τ k1 k2 pc [(3, c), (1, a), (4, e), (2, b), (0, d)] st := by
  refine Z.lvs (fun q hq => ?_) h
  simp only [List.mem_cons, List.not_mem_nil, or_false] at hq ⊢
  rcases hq with h | h | h | h
  · exact Or.inr (Or.inl h)
  · exact Or.inr (Or.inr (Or.inr (Or.inl h)))
  · exact Or.inl h
  · exact Or.inr (Or.inr (Or.inr (Or.inr (h))))
theorem lq_214 {τ : zS} {k1 k2 pc : Nat} {st : List Value} {d a b c e : Value} (h : Z G K n τ k1 k2 pc [(1, a), (2, b), (3, c), (0, d)] st) : Z G K n τ k1 k2 pc [(2, b), (1, a), (4, e), (3, c), (0, d)] st := by
  refine Z.lvs (fun q hq => ?_) h
  simp only [List.mem_cons, List.not_mem_nil, or_false] at hq ⊢
  rcases hq with h | h | h | h
  · exact Or.inr (Or.inl h)
  · exact Or.inl h
  · exact Or.inr (Or.inr (Or.inr (Or.inl h)))
  · exact Or.inr (Or.inr (Or.inr (Or.inr (h))))
abbrev lvK (a : Nat) (t dn : Int32) : List (Nat × Value) := [(1, .int (nI a)), (2, .int t), (3, .int dn), (0, .ref 85)]
def mPl (A A' : mA) (op : Nat) : Prop := ∀ a j, 98 ≤ a → a ≤ 102 → j < op → A' a j = A a j
theorem mPl.trans {A A' A'' : mA} {op : Nat} (h : mPl A A' op) (g : mPl A' A'' op) : mPl A A'' op := fun a j h1 h2 h3 => (g a j h1 h2 h3).trans (h a j h1 h2 h3)
theorem lkQ_sv3 {Lk : Nat → bS → bR} {e : eN} {s : bS} {t t' : Int32} {sv sv' : bV} (h3 : e.1 = 3) : lkQ cl E Lk e 3 0 t sv s = lkQ cl E Lk e 3 0 t' sv' s := by
  unfold lkQ
  cases Lk (ePt e 0) s with
  | inl q => rfl
  | inr a =>
    obtain ⟨t1, s1⟩ := a
    dsimp only
    unfold lkP
    rw [if_pos h3, if_pos rfl, if_pos h3, if_pos rfl]
    by_cases q : t1 = 0
    · rw [if_pos q, if_pos q]
      dsimp only
      unfold lkQ
      cases Lk (ePt e 1) s1 with
      | inl q => rfl
      | inr a =>
        obtain ⟨t2, s2⟩ := a
        dsimp only
        unfold lkP
        rw [if_pos h3, if_neg (by decide), if_pos rfl, if_pos h3, if_neg (by decide), if_pos rfl]
    · rw [if_neg q, if_neg q]
theorem lkP_sv {e : eN} {k : Nat} {pl t : Int32} {s : bS} {sv sv' : bV} (h3 : e.1 ≠ 3) : (match lkP cl e k pl t sv s with
    | .inl q => lkP cl e k pl t sv' s = .inl q
    | .inr (sv2, s2) => sv2 = sv ∧ lkP cl e k pl t sv' s = .inr (sv', s2)) := by
  unfold lkP
  rw [if_neg h3, if_neg h3]
  by_cases h4 : e.1 = 4
  · rw [if_pos h4, if_pos h4]
    by_cases hk : k = 0
    · rw [if_pos hk, if_pos hk]
      exact ⟨rfl, rfl⟩
    · rw [if_neg hk, if_neg hk]
      by_cases ho : lOwn s.2 (eVr e)
      · rw [if_pos ho, if_pos ho]
      · rw [if_neg ho, if_neg ho]
        exact ⟨rfl, rfl⟩
  rw [if_neg h4, if_neg h4]
  by_cases h12 : e.1 = 12
  · rw [if_pos h12, if_pos h12]
    exact ⟨rfl, rfl⟩
  rw [if_neg h12, if_neg h12]
  by_cases h13 : e.1 = 13
  · rw [if_pos h13, if_pos h13]
    cases cl (cIx (eNm e)) with
    | none => rfl
    | some a =>
      obtain ⟨a, c, Y, rt⟩ := a
      dsimp only
      by_cases q : t = Y k
      · rw [if_pos q, if_pos q]
        exact ⟨rfl, rfl⟩
      · rw [if_neg q, if_neg q]
  rw [if_neg h13, if_neg h13]
  by_cases q : t = 0
  · rw [if_pos q, if_pos q]
    exact ⟨rfl, rfl⟩
  · rw [if_neg q, if_neg q]
theorem lkQ_sv {Lk : Nat → bS → bR} {e : eN} (h3 : e.1 ≠ 3) : ∀ (m k : Nat) (t : Int32) (sv sv' : bV) (s : bS), lkQ cl E Lk e m k t sv s = lkQ cl E Lk e m k t sv' s
  | 0, k, t, sv, sv', s => rfl
  | m + 1, k, t, sv, sv', s => by
    unfold lkQ
    cases Lk (ePt e k) s with
    | inl q => rfl
    | inr a =>
      obtain ⟨t1, s1⟩ := a
      dsimp only
      have hp := lkP_sv (cl := cl) (k := k) (pl := (E (ePt e k)).2.1) (t := t1) (s := s1) (sv := sv) (sv' := sv') h3
      cases hx : lkP cl e k (E (ePt e k)).2.1 t1 sv s1 with
      | inl q =>
        rw [hx] at hp
        have hp : lkP cl e k (E (ePt e k)).2.1 t1 sv' s1 = .inl q := hp
        rw [hp]
      | inr a =>
        obtain ⟨sv2, s2⟩ := a
        rw [hx] at hp
        obtain ⟨hp1, hp2⟩ := hp
        rw [hp2, hp1]
        exact lkQ_sv h3 m (k + 1) t1 sv sv' s2
theorem lkQ_any {Lk : Nat → bS → bR} {e : eN} {s : bS} {t : Int32} {sv sv' : bV} (hc : eCnt e.1 e.2.2.2.1) : lkQ cl E Lk e e.2.2.2.1 0 t sv s = lkQ cl E Lk e e.2.2.2.1 0 t sv' s := by
  by_cases h3 : e.1 = 3
  · rw [hc.2.2.2.1 h3]
    exact lkQ_sv3 h3
  · exact lkQ_sv h3 _ _ _ _ _ _
theorem ml_wr (C : zC G K y_M_lookAll b_M_lookAll 5 (some .int) []) (hn : 113 ≤ n) {q : Int32} {S : mS} {A : mA} {lv : List (Nat × Value)} {t : Int32} (l0 : zl lv 0 = some (.ref 85)) (l2 : zl lv 2 = some (.int t)) (h : mWr S0 A0 q S A) (hq : 0 ≤ q) (kI : ∀ S' A' v, mWr S0 A0 q S' A' → kpo K (.returned (some (.int v))) n (mOv S' A' L rn σ)) : Z G K n (mOv S A L rn σ) 0 0 18 lv [] := by
  refine z_aload_n C 19 d_M_lookAll_18 rfl l0 ?_
  refine zm_get C 22 f_M_162 d_M_lookAll_19 rfl hn rfl ?_
  rw [h.1]
  refine z_if_ge C 25 214 d_M_lookAll_22 rfl (by decide) (fun _ => ?_) (fun h9 => absurd hq h9)
  refine z_iload_n C 215 d_M_lookAll_214 rfl l2 ?_
  exact z_iret C rfl d_M_lookAll_215 (kI S A t h) (by omega) (by omega)
/-- node i has been looked at, its beginning too: on to where its type is known -/
def mLX (G : zG) (K : zK) (n : Nat) (σ : zS) (S0 : mS) (A0 : mA) (L : mL) (rn : Int64) (cl : Nat → Option cF) (E : Nat → eN) (d : Nat) : Prop := ∀ (op i b : Nat) (s : bS) (S : mS) (A : mA) (t0 : Int32), op + d + 1 ≤ 8 → tT A0 E (d + 1) i b → b ≤ 150 → lCok cl (E i) → mCk S0 A0 s op S A → ∀ r, lkQ cl E (lk cl E d) (E i) (E i).2.2.2.1 0 0 (0, 0, 0) s = r → (∀ q, r = .inl q → 0 ≤ q) →
  (∀ q, r = .inl q → ∀ S' A' v, mWr S0 A0 q S' A' → kpo K (.returned (some (.int v))) n (mOv S' A' L rn σ)) →
  (∀ t s' S' A', r = .inr (t, s') → mCk S0 A0 s' op S' A' → mPl A A' op → Z G K n (mOv S' A' L rn σ) 0 0 79 (lvK (1200 + i) t 0) [] ∧ (op = 0 → Z G K n (mOv S' A' L rn σ) 0 0 214 (lvK (1200 + i) t 0) [])) → Z G K n (mOv S A L rn σ) 0 0 18 (lvK (1200 + i) t0 1) []
theorem mNd_of {d i b : Nat} (h : tT A0 E (d + 1) i b) (hb : b ≤ 150) : mNd A0 i (E i) := by
  have hl := tT_lt h
  obtain ⟨⟨t1, t2, t3, t4, t5, t6, t7, t8⟩, -⟩ := h
  exact ⟨by omega, t1, t2, t3, t4, t6, t7, t8⟩
theorem lCok_of {e : eN} {s s' : bS} (h : lkB cl e s = .inr s') : lCok cl e := fun h13 => by
  unfold lkB at h
  rw [if_neg (by omega), if_neg (by omega), if_pos h13] at h
  cases hc : cl (cIx (eNm e)) with
  | none => rw [hc] at h; cases h
  | some a =>
    obtain ⟨a, c, Y, rt⟩ := a
    rw [hc] at h
    dsimp only at h
    by_cases q : c = e.2.2.2.1
    · subst q
      exact ⟨a, Y, rt, rfl⟩
    · rw [if_neg q] at h
      cases h
/-- a node's type is known at the loop's head: its parent goes on -/
theorem ml_up (C : zC G K y_M_lookAll b_M_lookAll 5 (some .int) []) (hn : 113 ≤ n) {i op : Nat} {t : Int32} {s : bS} {S : mS} {A : mA} (hm : mCk S0 A0 s op S A) (ho : op < 80) (h79 : Z G K n (mOv S A L rn σ) 0 0 79 (lvK (1200 + i) t 0) []) (h214 : op = 0 → Z G K n (mOv S A L rn σ) 0 0 214 (lvK (1200 + i) t 0) []) : Z G K n (mOv S A L rn σ) 0 0 18 (lvK (1200 + i) t 0) [] := by
  obtain ⟨h27, h26, h19, h103, hk0, hA0⟩ := hm
  refine z_aload_n C 19 d_M_lookAll_18 rfl rfl ?_
  refine zm_get C 22 f_M_162 d_M_lookAll_19 rfl hn rfl ?_
  rw [h27]
  refine z_if_ge C 25 214 d_M_lookAll_22 rfl (by decide) (fun h9 => absurd h9 (show ¬ (0 : Int32) ≤ -1 by decide)) (fun _ => ?_)
  refine z_iload_n C 26 d_M_lookAll_25 rfl rfl ?_
  refine z_if_ne C 29 36 d_M_lookAll_26 rfl (by decide) (fun h9 => absurd (show (0 : Int32) = 0 from rfl) h9) (fun _ => ?_)
  refine z_aload_n C 30 d_M_lookAll_29 rfl rfl ?_
  refine zm_get C 33 f_M_129 d_M_lookAll_30 rfl hn rfl ?_
  rw [h19]
  by_cases q : op = 0
  · refine z_if_le C 36 214 d_M_lookAll_33 rfl (by decide) (fun _ => ?_) (fun h9 => absurd (show nI op ≤ 0 by rw [q]; decide) h9)
    exact h214 q
  · refine z_if_le C 36 214 d_M_lookAll_33 rfl (by decide) (fun h9 => absurd h9 (fun w => absurd ((nI_leI (b := 0) (by omega) (by omega)).mp w) (by omega))) (fun _ => ?_)
    refine z_iload_n C 37 d_M_lookAll_36 rfl rfl ?_
    refine z_if_eq C 40 66 d_M_lookAll_37 rfl (by decide) (fun _ => ?_) (fun h9 => absurd (show (0 : Int32) = 0 from rfl) h9)
    refine z_iload_n C 67 d_M_lookAll_66 rfl rfl ?_
    refine z_if_eq C 70 77 d_M_lookAll_67 rfl (by decide) (fun _ => ?_) (fun h9 => absurd (show (0 : Int32) = 0 from rfl) h9)
    refine z_iconst C 78 d_M_lookAll_77 rfl 0 (by decide) ?_
    refine z_istore_n C 79 d_M_lookAll_78 rfl (by decide) ?_
    exact lq_3 h79
theorem ml_parts (C : zC G K y_M_lookAll b_M_lookAll 5 (some .int) []) (hn : 113 ≤ n) (hfr : 4 ≤ (kR K).frames) (hlo : 8 + (7 + 11) + 60 * 3 ≤ (kR K).locals) (henv : mEnv S0 A0 cl f) {d : Nat} (LX : mLX G K n σ S0 A0 L rn cl E d) {op i b : Nat} (hop : op + (d + 1) + 1 ≤ 8) (hNd : mNd A0 i (E i)) (hb : b ≤ 150) (hok : lCok cl (E i)) (Ab : mA) : ∀ (m k p : Nat) (sv : bV) (t : Int32) (s : bS) (A : mA), m + 1 + k = (E i).2.2.2.1 → tC (tT A0 E (d + 1)) (E i).2.2.1 (m + 1) k p b → A 98 op = nI (1200 + i) → A 99 op = nI k → mSv A op sv → mPl Ab A op → ∀ r, lkQ cl E (lk cl E (d + 1)) (E i) (m + 1) k t sv s = r → (∀ q, r = .inl q → 0 ≤ q) →
    (∀ q, r = .inl q → ∀ S' A' v, mWr S0 A0 q S' A' → kpo K (.returned (some (.int v))) n (mOv S' A' L rn σ)) →
    (∀ t s' S' A', r = .inr (t, s') → mCk S0 A0 s' op S' A' → mPl Ab A' op → Z G K n (mOv S' A' L rn σ) 0 0 79 (lvK (1200 + i) t 0) [] ∧ (op = 0 → Z G K n (mOv S' A' L rn σ) 0 0 214 (lvK (1200 + i) t 0) [])) →
    ∀ S1 tt, mBo S0 A0 (op + 1) (lkB cl (E p) s) S1 A → Z G K n (mOv S1 A L rn σ) 0 0 18 (lvK (1200 + p) tt 1) [] := fun m => by
  induction m using Nat.strongRecOn with
  | _ m ih =>
    intro k p sv t s A hmk hch h98 h99 hsv hpl r hr hq kI kO S1 tt hB
    obtain ⟨hpt, p', hT, hch⟩ := hch
    have hpe : ePt (E i) k = p := by unfold ePt; rw [hpt]; rfl
    have hTl := tT_lt hT
    have hle := tC_le (fun x y h => tT_lt h) hch
    have hNp := mNd_of hT (by omega)
    have hrq : lkQ cl E (lk cl E (d + 1)) (E i) (m + 1) k t sv s = (match lk cl E (d + 1) (ePt (E i) k) s with
      | .inl q => .inl q
      | .inr (t, s1) => match lkP cl (E i) k (E (ePt (E i) k)).2.1 t sv s1 with
        | .inl q => .inl q
        | .inr (sv2, s2) => lkQ cl E (lk cl E (d + 1)) (E i) m (k + 1) t sv2 s2) := rfl
    rw [hrq, hpe] at hr
    have hlk : lk cl E (d + 1) p s = (match lkB cl (E p) s with
      | .inl q => .inl q
      | .inr s1 => lkQ cl E (lk cl E d) (E p) (E p).2.2.2.1 0 0 (0, 0, 0) s1) := rfl
    cases hBc : lkB cl (E p) s with
    | inl q =>
      rw [hBc] at hB hlk
      rw [hlk] at hr
      exact ml_wr C hn rfl rfl hB (hq q hr.symm) (kI q hr.symm)
    | inr s1 =>
      rw [hBc] at hB hlk
      dsimp only at hlk
      have hB : mCk S0 A0 s1 (op + 1) S1 A := hB
      rw [hlk] at hr
      cases hR : lkQ cl E (lk cl E d) (E p) (E p).2.2.2.1 0 0 (0, 0, 0) s1 with
      | inl q =>
        rw [hR] at hr
        exact LX (op + 1) p p' s1 S1 A tt (by omega) hT (by omega) (lCok_of hBc) hB (.inl q) hR (fun q' h => by cases h; exact hq q hr.symm) (fun q' h => by cases h; exact kI q hr.symm) (fun t s' S' A' h => by cases h)
      | inr a =>
        obtain ⟨t2, s2⟩ := a
        rw [hR] at hr
        dsimp only at hr
        refine LX (op + 1) p p' s1 S1 A tt (by omega) hT (by omega) (lCok_of hBc) hB (.inr (t2, s2)) hR (fun q' h => by cases h) (fun q' h => by cases h) (fun t' s' S' A' h hm' hpl' => ?_)
        cases h
        refine ⟨?_, fun h => absurd h (by omega)⟩
        have hm0 := hm'
        obtain ⟨h27, h26, h19, h103, hk0, hA0⟩ := hm'
        have g98 : A' 98 op = nI (1200 + i) := (hpl' 98 op (by omega) (by omega) (by omega)).trans h98
        have g99 : A' 99 op = nI k := (hpl' 99 op (by omega) (by omega) (by omega)).trans h99
        have gsv : mSv A' op sv := ⟨(hpl' 100 op (by omega) (by omega) (by omega)).trans hsv.1, (hpl' 102 op (by omega) (by omega) (by omega)).trans hsv.2.1, (hpl' 101 op (by omega) (by omega) (by omega)).trans hsv.2.2⟩
        have gpl : mPl Ab A' op := hpl.trans (fun a j x1 x2 x3 => hpl' a j x1 x2 (by omega))
        have LB := c_M_lookBehind (G := G) (l := kl K) (L := L) (rn := rn) (σ := σ) (j := p) hn henv hm0 hNd hok (by omega) hNp.1 (show k < (E i).2.2.2.1 by omega) gsv (E p).2.1 t2 hNp.2.2.2.2.1
        refine z_aload_n C 80 d_M_lookAll_79 rfl rfl ?_
        refine zm_get C 83 f_M_162 d_M_lookAll_80 rfl hn rfl ?_
        rw [h27]
        refine z_if_ge C 86 18 d_M_lookAll_83 rfl (by decide) (fun h9 => absurd h9 (show ¬ (0 : Int32) ≤ -1 by decide)) (fun _ => ?_)
        refine z_aload_n C 87 d_M_lookAll_86 rfl rfl ?_
        refine zm_get C 90 f_M_129 d_M_lookAll_87 rfl hn rfl ?_
        rw [h19]
        refine z_if_ne C 93 96 d_M_lookAll_90 rfl (by decide) (fun _ => ?_) (fun h9 => absurd h9 (nI_ne0 (by omega) (by omega)))
        refine z_aload_n C 97 d_M_lookAll_96 rfl rfl ?_
        refine zm_get C 100 f_M_52 d_M_lookAll_97 rfl hn rfl ?_
        refine z_aload_n C 101 d_M_lookAll_100 rfl rfl ?_
        refine zm_get C 104 f_M_129 d_M_lookAll_101 rfl hn rfl ?_
        rw [h19]
        refine z_iconst C 105 d_M_lookAll_104 rfl 1 (by decide) ?_
        refine z_isub C 106 d_M_lookAll_105 rfl ?_
        rw [nI_p1]
        refine zm_iald C 107 op d_M_lookAll_106 rfl hn (by decide) (by decide) (by decide) rfl (by show op < 80; omega) (by decide) ?_
        rw [g98]
        refine z_istore C 109 d_M_lookAll_107 rfl (by decide) ?_
        refine z_aload_n C 110 d_M_lookAll_109 rfl rfl ?_
        refine z_iload C 112 d_M_lookAll_110 rfl rfl ?_
        refine z_aload_n C 113 d_M_lookAll_112 rfl rfl ?_
        refine zm_get C 116 f_M_55 d_M_lookAll_113 rfl hn rfl ?_
        refine z_aload_n C 117 d_M_lookAll_116 rfl rfl ?_
        refine zm_get C 120 f_M_129 d_M_lookAll_117 rfl hn rfl ?_
        rw [h19]
        refine z_iconst C 121 d_M_lookAll_120 rfl 1 (by decide) ?_
        refine z_isub C 122 d_M_lookAll_121 rfl ?_
        rw [nI_p1]
        refine zm_iald C 123 op d_M_lookAll_122 rfl hn (by decide) (by decide) (by decide) rfl (by show op < 80; omega) (by decide) ?_
        rw [g99]
        refine z_iload_n C 124 d_M_lookAll_123 rfl rfl ?_
        refine z_iload_n C 125 d_M_lookAll_124 rfl rfl ?_
        refine z_call C 128 LB w_M_lookBehind ini_M d_M_lookAll_125 rfl (z_goV (As := [.int (nI (1200 + i)), .int (nI k), .int (nI (1200 + p)), .int t2]) C l_M_199 w_M_lookBehind d_M_lookAll_125 (by omega) rfl rfl rfl) (Nat.le_of_ble_eq_true rfl) (by omega) (by omega) (by omega) (by omega) (fun v n' σ' hv => ?_) (fun x n' σ' hv => ?_)
        rotate_left
        · cases hv.1
        obtain ⟨e0, e1, S3, A3, rfl, hv⟩ := hv
        obtain rfl : n = n' := e1.symm
        cases e0
        cases hP : lkP cl (E i) k (E p).2.1 t2 sv s2 with
        | inl q =>
          rw [hP] at hv hr
          have hv : mWr S0 A0 q S3 A3 ∧ S3 19 = nI (op + 1) := hv
          refine z_aload_n C 129 d_M_lookAll_128 rfl rfl ?_
          refine zm_get C 132 f_M_55 d_M_lookAll_129 rfl hn rfl ?_
          refine z_aload_n C 133 d_M_lookAll_132 rfl rfl ?_
          refine zm_get C 136 f_M_129 d_M_lookAll_133 rfl hn rfl ?_
          rw [hv.2]
          refine z_iconst C 137 d_M_lookAll_136 rfl 1 (by decide) ?_
          refine z_isub C 138 d_M_lookAll_137 rfl ?_
          rw [nI_p1]
          refine z_dup2_11 C 139 d_M_lookAll_138 rfl rfl rfl ?_
          refine zm_iald C 140 op d_M_lookAll_139 rfl hn (by decide) (by decide) (by decide) rfl (by show op < 80; omega) (by decide) ?_
          refine z_iconst C 141 d_M_lookAll_140 rfl 1 (by decide) ?_
          refine z_iadd C 142 d_M_lookAll_141 rfl ?_
          refine zm_iast C 143 op d_M_lookAll_142 rfl hn (by decide) (by decide) (by decide) rfl (by show op < 80; omega) (by decide) ?_
          refine z_aload_n C 144 d_M_lookAll_143 rfl rfl ?_
          refine zm_get C 147 f_M_162 d_M_lookAll_144 rfl hn rfl ?_
          rw [hv.1.1]
          refine z_if_lt C 150 153 d_M_lookAll_147 rfl (by decide) (fun h9 => absurd h9 (fun w => absurd (hq q hr.symm) (Int32.not_le.mpr w))) (fun _ => ?_)
          refine z_goto C 18 d_M_lookAll_150 (by decide) ?_
          exact ml_wr C hn rfl rfl ⟨hv.1.1, hv.1.2.1, fun a ha => (va_up_ne _ _ (by omega)).trans (hv.1.2.2 a ha)⟩ (hq q hr.symm) (kI q hr.symm)
        | inr a =>
          obtain ⟨sv2, s3⟩ := a
          rw [hP] at hv hr
          obtain ⟨hm3, hsv3, hk3, h398, h399⟩ := hv
          have hm30 := hm3
          obtain ⟨j27, j26, j19, j103, jk0, jA0⟩ := hm3
          refine z_aload_n C 129 d_M_lookAll_128 rfl rfl ?_
          refine zm_get C 132 f_M_55 d_M_lookAll_129 rfl hn rfl ?_
          refine z_aload_n C 133 d_M_lookAll_132 rfl rfl ?_
          refine zm_get C 136 f_M_129 d_M_lookAll_133 rfl hn rfl ?_
          rw [j19]
          refine z_iconst C 137 d_M_lookAll_136 rfl 1 (by decide) ?_
          refine z_isub C 138 d_M_lookAll_137 rfl ?_
          rw [nI_p1]
          refine z_dup2_11 C 139 d_M_lookAll_138 rfl rfl rfl ?_
          refine zm_iald C 140 op d_M_lookAll_139 rfl hn (by decide) (by decide) (by decide) rfl (by show op < 80; omega) (by decide) ?_
          rw [show A3 99 op = nI k by rw [h399]; exact g99]
          refine z_iconst C 141 d_M_lookAll_140 rfl 1 (by decide) ?_
          refine z_iadd C 142 d_M_lookAll_141 rfl ?_
          rw [nI_1]
          refine zm_iast C 143 op d_M_lookAll_142 rfl hn (by decide) (by decide) (by decide) rfl (by show op < 80; omega) (by decide) ?_
          have hA4 : ∀ a, a ≠ 99 → (va_up A3 99 (upd (A3 99) op (nI (k + 1)))) a = A3 a := fun a ha => va_up_ne _ _ ha
          have hm4 : mCk S0 A0 s3 (op + 1) S3 (va_up A3 99 (upd (A3 99) op (nI (k + 1)))) := ⟨j27, j26, j19, j103, jk0, fun a ha => (hA4 a (by omega)).trans (jA0 a ha)⟩
          have hpl4 : mPl Ab (va_up A3 99 (upd (A3 99) op (nI (k + 1)))) op := fun a j x1 x2 x3 => by
            refine Eq.trans ?_ (gpl a j x1 x2 x3)
            by_cases y99 : a = 99
            · subst y99
              rw [va_up_self, upd_ne (by omega), h399]
            · rw [hA4 a y99]
              by_cases y98 : a = 98
              · rw [y98, h398]
              · exact hk3 a j (by omega) (by omega)
          refine z_aload_n C 144 d_M_lookAll_143 rfl rfl ?_
          refine zm_get C 147 f_M_162 d_M_lookAll_144 rfl hn rfl ?_
          rw [j27]
          refine z_if_lt C 150 153 d_M_lookAll_147 rfl (by decide) (fun _ => ?_) (fun h9 => absurd (show (-1 : Int32) < 0 by decide) h9)
          refine z_aload_n C 154 d_M_lookAll_153 rfl rfl ?_
          refine zm_get C 157 f_M_55 d_M_lookAll_154 rfl hn rfl ?_
          refine z_aload_n C 158 d_M_lookAll_157 rfl rfl ?_
          refine zm_get C 161 f_M_129 d_M_lookAll_158 rfl hn rfl ?_
          rw [j19]
          refine z_iconst C 162 d_M_lookAll_161 rfl 1 (by decide) ?_
          refine z_isub C 163 d_M_lookAll_162 rfl ?_
          rw [nI_p1]
          refine zm_iald C 164 op d_M_lookAll_163 rfl hn (by decide) (by decide) (by decide) rfl (by show op < 80; omega) (by decide) ?_
          rw [show (va_up A3 99 (upd (A3 99) op (nI (k + 1)))) 99 op = nI (k + 1) by rw [va_up_self, upd_self]]
          refine z_aload_n C 165 d_M_lookAll_164 rfl rfl ?_
          refine zm_get C 168 f_M_27 d_M_lookAll_165 rfl hn rfl ?_
          refine z_iload C 170 d_M_lookAll_168 rfl rfl ?_
          refine zm_iald C 171 (1200+i) d_M_lookAll_170 rfl hn (by decide) (by decide) (by decide) rfl (by have := hNd.1; show 1200 + i < 1350; omega) (by decide) ?_
          rw [show (va_up A3 99 (upd (A3 99) op (nI (k + 1)))) 90 (1200 + i) = nI (E i).2.2.2.1 by rw [hA4 90 (by decide), jA0 90 (by omega)]; exact hNd.2.2.2.1]
          have hc4 := hNd.2.2.2.2.2.2.2
          cases m with
          | zero =>
            have hpb : p' = b := hch
            have hr : lkT cl (E i) t2 s3 = r := hr
            refine z_icmp_ge C 174 191 d_M_lookAll_171 rfl (by decide) (fun _ => ?_) (fun h9 => absurd ((nI_leI (by omega) (by omega)).mpr (by omega)) h9)
            refine z_aload_n C 192 d_M_lookAll_191 rfl rfl ?_
            refine z_dup C 193 d_M_lookAll_192 rfl rfl ?_
            refine zm_get C 196 f_M_129 d_M_lookAll_193 rfl hn rfl ?_
            rw [j19]
            refine z_iconst C 197 d_M_lookAll_196 rfl 1 (by decide) ?_
            refine z_isub C 198 d_M_lookAll_197 rfl ?_
            rw [nI_p1]
            refine zm_puti C 201 p_M_129 d_M_lookAll_198 rfl hn (by decide) (rfl) rfl rfl ?_
            refine z_iload C 203 d_M_lookAll_201 rfl rfl ?_
            refine z_istore_n C 204 d_M_lookAll_203 rfl (by decide) ?_
            refine z_aload_n C 205 d_M_lookAll_204 rfl rfl ?_
            refine z_iload_n C 206 d_M_lookAll_205 rfl rfl ?_
            refine z_iload_n C 207 d_M_lookAll_206 rfl rfl ?_
            have hm5 : mCk S0 A0 s3 op (upd S3 19 (nI op)) (va_up A3 99 (upd (A3 99) op (nI (k + 1)))) := ⟨j27, j26, rfl, j103, fun k a b c => (upd_ne a).trans (jk0 k a b c), hm4.2.2.2.2.2⟩
            have TO := c_M_typeOf (G := G) (l := kl K) (L := L) (rn := rn) (σ := σ) hn henv hm5 hNd hok t2
            rw [hr] at TO
            refine z_call C 210 TO w_M_typeOf ini_M d_M_lookAll_207 rfl (z_goV (As := [.int (nI (1200 + i)), .int t2]) C l_M_195 w_M_typeOf d_M_lookAll_207 (by omega) rfl rfl rfl) (Nat.le_of_ble_eq_true rfl) (by omega) (by omega) (by omega) (by omega) (fun v n' σ' hv => ?_) (fun x n' σ' hv => ?_)
            rotate_left
            · obtain ⟨e1, S', e2, hv⟩ := hv
              cases r with
              | inl q => obtain ⟨⟨v, e0⟩, -⟩ := hv; cases e0
              | inr a => cases hv.1
            obtain ⟨e1, S6, rfl, hv⟩ := hv
            obtain rfl : n = n' := e1.symm
            cases r with
            | inl q =>
              obtain ⟨⟨v, e0⟩, hw⟩ := hv
              cases e0
              refine z_istore_n C 211 d_M_lookAll_210 rfl (by decide) ?_
              refine z_goto C 18 d_M_lookAll_211 (by decide) ?_
              exact ml_wr C hn rfl rfl hw (hq q rfl) (kI q rfl)
            | inr a =>
              obtain ⟨t6, s6⟩ := a
              obtain ⟨e0, hm6⟩ := hv
              cases e0
              refine z_istore_n C 211 d_M_lookAll_210 rfl (by decide) ?_
              refine z_goto C 18 d_M_lookAll_211 (by decide) ?_
              refine lq_214 ?_
              obtain ⟨z1, z2⟩ := kO t6 s6 S6 _ rfl hm6 hpl4
              exact ml_up C hn hm6 (by omega) z1 z2
          | succ m =>
            refine z_icmp_ge C 174 191 d_M_lookAll_171 rfl (by decide) (fun h9 => absurd h9 (fun w => absurd ((nI_leI (by omega) (by omega)).mp w) (by omega))) (fun _ => ?_)
            refine z_aload_n C 175 d_M_lookAll_174 rfl rfl ?_
            refine zm_get C 178 f_M_30 d_M_lookAll_175 rfl hn rfl ?_
            refine z_iload_n C 179 d_M_lookAll_178 rfl rfl ?_
            refine zm_iald C 180 (1200+p) d_M_lookAll_179 rfl hn (by decide) (by decide) (by decide) rfl (by have := hNp.1; show 1200 + p < 1350; omega) (by decide) ?_
            rw [show (va_up A3 99 (upd (A3 99) op (nI (k + 1)))) 91 (1200 + p) = nI (1200 + p') by rw [hA4 91 (by decide), jA0 91 (by omega)]; exact hT.2.1]
            refine z_istore_n C 181 d_M_lookAll_180 rfl (by decide) ?_
            refine z_iconst C 182 d_M_lookAll_181 rfl 1 (by decide) ?_
            refine z_istore_n C 183 d_M_lookAll_182 rfl (by decide) ?_
            refine z_aload_n C 184 d_M_lookAll_183 rfl rfl ?_
            refine z_iload_n C 185 d_M_lookAll_184 rfl rfl ?_
            have hNp' : mNd A0 p' (E p') := by
              obtain ⟨-, p2, hT2, hch2⟩ := hch
              have hle2 := tC_le (fun x y h => tT_lt h) hch2
              exact mNd_of hT2 (by omega)
            have LB2 := c_M_lookBefore (G := G) (l := kl K) (L := L) (rn := rn) (σ := σ) hn henv hm4 hNp'
            refine z_call C 188 LB2 w_M_lookBefore ini_M d_M_lookAll_185 rfl (z_goV (As := [.int (nI (1200 + p'))]) C l_M_192 w_M_lookBefore d_M_lookAll_185 (by omega) rfl rfl rfl) (Nat.le_of_ble_eq_true rfl) (by omega) (by omega) (by omega) (by omega) (fun v n' σ' hv => ?_) (fun x n' σ' hv => ?_)
            rotate_left
            · cases hv.1
            obtain ⟨e0, e1, S6, rfl, hv⟩ := hv
            obtain rfl : n = n' := e1.symm
            cases e0
            refine z_goto C 211 d_M_lookAll_188 (by decide) ?_
            refine z_goto C 18 d_M_lookAll_211 (by decide) ?_
            refine lq_314 ?_
            exact ih m (by omega) (k + 1) p' sv2 t2 s3 (va_up A3 99 (upd (A3 99) op (nI (k + 1)))) (by omega) hch (by rw [hA4 98 (by decide), h398]; exact g98) (by rw [va_up_self, upd_self]) ⟨hsv3.1, hsv3.2.1, hsv3.2.2⟩ hpl4 r hr hq kI kO S6 _ hv
theorem ml_all (C : zC G K y_M_lookAll b_M_lookAll 5 (some .int) []) (hn : 113 ≤ n) (hfr : 4 ≤ (kR K).frames) (hlo : 8 + (7 + 11) + 60 * 3 ≤ (kR K).locals) (henv : mEnv S0 A0 cl f) : ∀ d, mLX G K n σ S0 A0 L rn cl E d := fun d => by
  have step : ∀ d, (∀ e, d = e + 1 → mLX G K n σ S0 A0 L rn cl E e) → mLX G K n σ S0 A0 L rn cl E d := fun d IH op i b s S A t0 hop hT hb hok hm r hr hq kI kO => by
    have hNd := mNd_of hT hb
    have hm0 := hm
    obtain ⟨h27, h26, h19, h103, hk0, hA0⟩ := hm
    have hi := hNd.1
    have hc4 := hNd.2.2.2.2.2.2.2
    obtain ⟨-, -, hch⟩ := hT
    refine z_aload_n C 19 d_M_lookAll_18 rfl rfl ?_
    refine zm_get C 22 f_M_162 d_M_lookAll_19 rfl hn rfl ?_
    rw [h27]
    refine z_if_ge C 25 214 d_M_lookAll_22 rfl (by decide) (fun h9 => absurd h9 (show ¬ (0 : Int32) ≤ -1 by decide)) (fun _ => ?_)
    refine z_iload_n C 26 d_M_lookAll_25 rfl rfl ?_
    refine z_if_ne C 29 36 d_M_lookAll_26 rfl (by decide) (fun _ => ?_) (fun h9 => absurd h9 (show ¬ (1 : Int32) = 0 by decide))
    refine z_iload_n C 37 d_M_lookAll_36 rfl rfl ?_
    refine z_if_eq C 40 66 d_M_lookAll_37 rfl (by decide) (fun h9 => absurd h9 (show ¬ (1 : Int32) = 0 by decide)) (fun _ => ?_)
    refine z_aload_n C 41 d_M_lookAll_40 rfl rfl ?_
    refine zm_get C 44 f_M_27 d_M_lookAll_41 rfl hn rfl ?_
    refine z_iload_n C 45 d_M_lookAll_44 rfl rfl ?_
    refine zm_iald C 46 (1200+i) d_M_lookAll_45 rfl hn (by decide) (by decide) (by decide) rfl (by show 1200 + i < 1350; omega) (by decide) ?_
    rw [show A 90 (1200 + i) = nI (E i).2.2.2.1 by rw [hA0 90 (by omega)]; exact hNd.2.2.2.1]
    by_cases hc0 : (E i).2.2.2.1 = 0
    · refine z_if_le C 49 66 d_M_lookAll_46 rfl (by decide) (fun _ => ?_) (fun h9 => absurd (show nI (E i).2.2.2.1 ≤ 0 by rw [hc0]; decide) h9)
      rw [hc0] at hr
      have hr : lkT cl (E i) 0 s = r := hr
      refine z_iload_n C 67 d_M_lookAll_66 rfl rfl ?_
      refine z_if_eq C 70 77 d_M_lookAll_67 rfl (by decide) (fun h9 => absurd h9 (show ¬ (1 : Int32) = 0 by decide)) (fun _ => ?_)
      refine z_aload_n C 71 d_M_lookAll_70 rfl rfl ?_
      refine z_iload_n C 72 d_M_lookAll_71 rfl rfl ?_
      refine z_iconst C 73 d_M_lookAll_72 rfl 0 (by decide) ?_
      have TO := c_M_typeOf (G := G) (l := kl K) (L := L) (rn := rn) (σ := σ) hn henv hm0 hNd hok 0
      rw [hr] at TO
      refine z_call C 76 TO w_M_typeOf ini_M d_M_lookAll_73 rfl (z_goV (As := [.int (nI (1200 + i)), .int 0]) C l_M_195 w_M_typeOf d_M_lookAll_73 (by omega) rfl rfl rfl) (Nat.le_of_ble_eq_true rfl) (by omega) (by omega) (by omega) (by omega) (fun v n' σ' hv => ?_) (fun x n' σ' hv => ?_)
      rotate_left
      · obtain ⟨e1, S', e2, hv⟩ := hv
        cases r with
        | inl q => obtain ⟨⟨v, e0⟩, -⟩ := hv; cases e0
        | inr a => cases hv.1
      obtain ⟨e1, S6, rfl, hv⟩ := hv
      obtain rfl : n = n' := e1.symm
      cases r with
      | inl q =>
        obtain ⟨⟨v, e0⟩, hw⟩ := hv
        cases e0
        refine z_istore_n C 77 d_M_lookAll_76 rfl (by decide) ?_
        refine z_iconst C 78 d_M_lookAll_77 rfl 0 (by decide) ?_
        refine z_istore_n C 79 d_M_lookAll_78 rfl (by decide) ?_
        refine z_aload_n C 80 d_M_lookAll_79 rfl rfl ?_
        refine zm_get C 83 f_M_162 d_M_lookAll_80 rfl hn rfl ?_
        rw [hw.1]
        refine z_if_ge C 86 18 d_M_lookAll_83 rfl (by decide) (fun _ => ?_) (fun h9 => absurd (hq q rfl) h9)
        exact ml_wr C hn rfl rfl hw (hq q rfl) (kI q rfl)
      | inr a =>
        obtain ⟨t6, s6⟩ := a
        obtain ⟨e0, hm6⟩ := hv
        cases e0
        refine z_istore_n C 77 d_M_lookAll_76 rfl (by decide) ?_
        refine z_iconst C 78 d_M_lookAll_77 rfl 0 (by decide) ?_
        refine z_istore_n C 79 d_M_lookAll_78 rfl (by decide) ?_
        refine lq_32 ?_
        exact (kO t6 s6 S6 A rfl hm6 (fun _ _ _ _ _ => rfl)).1
    · obtain ⟨c, hc⟩ : ∃ c, (E i).2.2.2.1 = c + 1 := ⟨(E i).2.2.2.1 - 1, by omega⟩
      cases d with
      | zero =>
        rw [hc] at hch
        obtain ⟨-, p', hT0, -⟩ := hch
        exact False.elim hT0
      | succ d =>
        have LX := IH d rfl
        refine z_if_le C 49 66 d_M_lookAll_46 rfl (by decide) (fun h9 => absurd h9 (fun w => absurd ((nI_leI (b := 0) (by omega) (by omega)).mp w) (by omega))) (fun _ => ?_)
        refine z_aload_n C 50 d_M_lookAll_49 rfl rfl ?_
        refine z_iload_n C 51 d_M_lookAll_50 rfl rfl ?_
        refine z_call C 54 (c_M_push (op := op) hn h19 (by omega) (nI (1200 + i))) w_M_push ini_M d_M_lookAll_51 rfl (z_goV (As := [.int (nI (1200 + i))]) C l_M_144 w_M_push d_M_lookAll_51 (by omega) rfl rfl rfl) (Nat.le_of_ble_eq_true rfl) (by omega) (by omega) (by omega) (by omega) (fun v n' σ' hv => ?_) (fun x n' σ' hv => ?_)
        rotate_left
        · cases hv.1
        obtain ⟨e0, e1, rfl⟩ := hv
        cases e0
        obtain rfl : n = n' := e1.symm
        refine z_iload_n C 55 d_M_lookAll_54 rfl rfl ?_
        refine z_iconst C 56 d_M_lookAll_55 rfl 1 (by decide) ?_
        refine z_iadd C 57 d_M_lookAll_56 rfl ?_
        rw [nI_1]
        refine z_istore_n C 58 d_M_lookAll_57 rfl (by decide) ?_
        refine z_aload_n C 59 d_M_lookAll_58 rfl rfl ?_
        refine z_iload_n C 60 d_M_lookAll_59 rfl rfl ?_
        have hmP : mCk S0 A0 s (op + 1) (upd S 19 (nI (op + 1))) (mPu A op (nI (1200 + i))) := ⟨h27, h26, rfl, h103, fun k a b c => (upd_ne a).trans (hk0 k a b c), fun a ha => (mPu_ne (by omega) (by omega)).trans (hA0 a ha)⟩
        have hcc := hch
        rw [hc] at hcc
        have hNp : mNd A0 (i + 1) (E (i + 1)) := by
          obtain ⟨-, p2, hT2, hch2⟩ := hcc
          have hle2 := tC_le (fun x y h => tT_lt h) hch2
          exact mNd_of hT2 (by omega)
        have LB2 := c_M_lookBefore (G := G) (l := kl K) (L := L) (rn := rn) (σ := σ) hn henv hmP hNp
        refine z_call C 63 LB2 w_M_lookBefore ini_M d_M_lookAll_60 rfl (z_goV (As := [.int (nI (1200 + (i + 1)))]) C l_M_192 w_M_lookBefore d_M_lookAll_60 (by omega) rfl rfl rfl) (Nat.le_of_ble_eq_true rfl) (by omega) (by omega) (by omega) (by omega) (fun v n' σ' hv => ?_) (fun x n' σ' hv => ?_)
        rotate_left
        · cases hv.1
        obtain ⟨e0, e1, S6, rfl, hv⟩ := hv
        obtain rfl : n = n' := e1.symm
        cases e0
        refine z_goto C 18 d_M_lookAll_63 (by decide) ?_
        rw [lkQ_any (sv' := (mPu A op (nI (1200 + i)) 100 op, mPu A op (nI (1200 + i)) 102 op, mPu A op (nI (1200 + i)) 101 op)) hNd.2.2.2.2.2.2.1, hc] at hr
        refine ml_parts C hn hfr hlo henv LX (by omega) hNd hb hok A c 0 (i + 1) (mPu A op (nI (1200 + i)) 100 op, mPu A op (nI (1200 + i)) 102 op, mPu A op (nI (1200 + i)) 101 op) 0 s (mPu A op (nI (1200 + i))) (by omega) hcc (by show upd (A 98) op (nI (1200 + i)) op = _; rw [upd_self]) (by show upd (A 99) op 0 op = _; rw [upd_self]; rfl) ⟨rfl, rfl, rfl⟩ (fun a j x1 x2 x3 => ?_) r hr hq kI kO S6 _ hv
        unfold mPu
        by_cases y99 : a = 99
        · subst y99
          rw [va_up_self, upd_ne (by omega)]
        · rw [va_up_ne _ _ y99]
          by_cases y98 : a = 98
          · subst y98
            rw [va_up_self, upd_ne (by omega)]
          · rw [va_up_ne _ _ y98]
  induction d with
  | zero => exact step 0 (fun e h => absurd h (by omega))
  | succ d ih => exact step (d + 1) (fun e h => by obtain rfl : d = e := by omega
                                                   exact ih)
theorem c_M_lookAll {l : Launch} {S : mS} {A : mA} {s : bS} {b : Nat} (hn : 113 ≤ n) (henv : mEnv S0 A0 cl f) (hm : mCk S0 A0 s 0 (upd S 19 0) A) (hT : tT A0 E 8 0 b) (hb : b ≤ 150) (hq : ∀ q, lk cl E 8 0 s = .inl q → 0 ≤ q) : MetZ G l y_M_lookAll b_M_lookAll 5 (some .int) [] 4 0 0 [.ref 85] n (mOv S A L rn σ) (fun o n' σ' => n' = n ∧ ∃ S' A', σ' = mOv S' A' L rn σ ∧ match lk cl E 8 0 s with
    | .inl q => (∃ v, o = .returned (some (.int v))) ∧ mWr S0 A0 q S' A'
    | .inr (t, s') => o = .returned (some (.int t)) ∧ mCk S0 A0 s' 0 S' A') := by
  obtain ⟨r, hr⟩ : ∃ x, lk cl E 8 0 s = x := ⟨_, rfl⟩
  rw [hr] at hq ⊢
  have hlk : lk cl E 8 0 s = (match lkB cl (E 0) s with
      | .inl q => .inl q
      | .inr s1 => lkQ cl E (lk cl E 7) (E 0) (E 0).2.2.2.1 0 0 (0, 0, 0) s1) := rfl
  refine MetZ.of (by decide) (Nat.le_of_ble_eq_true rfl) (fun K hK hR hpo hmc hms C => ?_)
  have kI : ∀ q, r = .inl q → ∀ S' A' v, mWr S0 A0 q S' A' → kpo K (.returned (some (.int v))) n (mOv S' A' L rn σ) := fun q hq S' A' v hw => by
    rw [hpo, hq]
    exact ⟨rfl, S', A', rfl, ⟨v, rfl⟩, hw⟩
  have hfr : 4 ≤ (kR K).frames := by rw [hR]; exact Nat.le_refl _
  have hlo : 8 + (7 + 11) + 60 * 3 ≤ (kR K).locals := by rw [hR]; decide
  have hNd := mNd_of hT hb
  refine z_aload_n C 1 d_M_lookAll_0 rfl rfl ?_
  refine z_iconst C 2 d_M_lookAll_1 rfl 0 (by decide) ?_
  refine zm_puti C 5 p_M_129 d_M_lookAll_2 rfl hn (by decide) (rfl) rfl rfl ?_
  refine z_sipush C 8 d_M_lookAll_5 rfl 1200 (by decide) ?_
  refine z_istore_n C 9 d_M_lookAll_8 rfl (by decide) ?_
  refine z_iconst C 10 d_M_lookAll_9 rfl 0 (by decide) ?_
  refine z_istore_n C 11 d_M_lookAll_10 rfl (by decide) ?_
  refine z_iconst C 12 d_M_lookAll_11 rfl 1 (by decide) ?_
  refine z_istore_n C 13 d_M_lookAll_12 rfl (by decide) ?_
  refine z_aload_n C 14 d_M_lookAll_13 rfl rfl ?_
  refine z_iload_n C 15 d_M_lookAll_14 rfl rfl ?_
  have LB2 := c_M_lookBefore (G := G) (l := kl K) (L := L) (rn := rn) (σ := σ) hn henv hm hNd
  refine z_call C 18 LB2 w_M_lookBefore ini_M d_M_lookAll_15 rfl (z_goV (As := [.int (nI (1200 + 0))]) C l_M_192 w_M_lookBefore d_M_lookAll_15 (by omega) rfl rfl rfl) (Nat.le_of_ble_eq_true rfl) (by omega) (by omega) (by omega) (by omega) (fun v n' σ' hv => ?_) (fun x n' σ' hv => ?_)
  rotate_left
  · cases hv.1
  obtain ⟨e0, e1, S6, rfl, hv⟩ := hv
  obtain rfl : n = n' := e1.symm
  cases e0
  refine lq_32 ?_
  cases hB : lkB cl (E 0) s with
  | inl q =>
    rw [hB] at hv hlk
    have hrq : r = .inl q := hr.symm.trans hlk
    exact ml_wr C hn rfl rfl hv (hq q hrq) (kI q hrq)
  | inr s1 =>
    rw [hB] at hv hlk
    have hrq : lkQ cl E (lk cl E 7) (E 0) (E 0).2.2.2.1 0 0 (0, 0, 0) s1 = r := hlk.symm.trans hr
    refine ml_all C hn hfr hlo henv 7 0 0 b s1 S6 A 0 (by omega) hT hb (lCok_of hB) hv r hrq hq kI (fun t s' S' A' hrt hm' _ => ?_)
    have h214 : Z G K n (mOv S' A' L rn σ) 0 0 214 (lvK (1200 + 0) t 0) [] := by
      refine z_iload_n C 215 d_M_lookAll_214 rfl rfl ?_
      exact z_iret C rfl d_M_lookAll_215 (by rw [hpo, hrt]; exact ⟨rfl, S', A', rfl, rfl, hm'⟩) (by omega) (by omega)
    refine ⟨?_, fun _ => h214⟩
    have hm0 := hm'
    obtain ⟨h27, h26, h19, h103, hk0, hA0⟩ := hm'
    refine z_aload_n C 80 d_M_lookAll_79 rfl rfl ?_
    refine zm_get C 83 f_M_162 d_M_lookAll_80 rfl hn rfl ?_
    rw [h27]
    refine z_if_ge C 86 18 d_M_lookAll_83 rfl (by decide) (fun h9 => absurd h9 (show ¬ (0 : Int32) ≤ -1 by decide)) (fun _ => ?_)
    refine z_aload_n C 87 d_M_lookAll_86 rfl rfl ?_
    refine zm_get C 90 f_M_129 d_M_lookAll_87 rfl hn rfl ?_
    rw [h19]
    refine z_if_ne C 93 96 d_M_lookAll_90 rfl (by decide) (fun h9 => absurd (show nI 0 = 0 from rfl) h9) (fun _ => ?_)
    refine z_goto C 18 d_M_lookAll_93 (by decide) ?_
    refine z_aload_n C 19 d_M_lookAll_18 rfl rfl ?_
    refine zm_get C 22 f_M_162 d_M_lookAll_19 rfl hn rfl ?_
    rw [h27]
    refine z_if_ge C 25 214 d_M_lookAll_22 rfl (by decide) (fun h9 => absurd h9 (show ¬ (0 : Int32) ≤ -1 by decide)) (fun _ => ?_)
    refine z_iload_n C 26 d_M_lookAll_25 rfl rfl ?_
    refine z_if_ne C 29 36 d_M_lookAll_26 rfl (by decide) (fun h9 => absurd (show (0 : Int32) = 0 from rfl) h9) (fun _ => ?_)
    refine z_aload_n C 30 d_M_lookAll_29 rfl rfl ?_
    refine zm_get C 33 f_M_129 d_M_lookAll_30 rfl hn rfl ?_
    rw [h19]
    refine z_if_le C 36 214 d_M_lookAll_33 rfl (by decide) (fun _ => ?_) (fun h9 => absurd (show nI 0 ≤ 0 by decide) h9)
    exact h214
end MLA
