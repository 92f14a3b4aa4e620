/-! Arrays.fill(int[], int), by its code -/
abbrev y_fillI : MethodName := ⟨"java/util/Arrays", "fill", "([II)V"⟩
abbrev b_fillI : ByteArray := prog_25_method_103_code
theorem d_fillI_0 : decode b_fillI 0 = .ok (.iconst 0, 1) := by decide +kernel
theorem d_fillI_1 : decode b_fillI 1 = .ok (.istore_n 2, 1) := by decide +kernel
theorem d_fillI_2 : decode b_fillI 2 = .ok (.aload_n 0, 1) := by decide +kernel
theorem d_fillI_3 : decode b_fillI 3 = .ok (.arraylength, 1) := by decide +kernel
theorem d_fillI_4 : decode b_fillI 4 = .ok (.istore_n 3, 1) := by decide +kernel
theorem d_fillI_5 : decode b_fillI 5 = .ok (.iload_n 2, 1) := by decide +kernel
theorem d_fillI_6 : decode b_fillI 6 = .ok (.iload_n 3, 1) := by decide +kernel
theorem d_fillI_7 : decode b_fillI 7 = .ok (.if_icmp .ge 13, 3) := by decide +kernel
theorem d_fillI_10 : decode b_fillI 10 = .ok (.aload_n 0, 1) := by decide +kernel
theorem d_fillI_11 : decode b_fillI 11 = .ok (.iload_n 2, 1) := by decide +kernel
theorem d_fillI_12 : decode b_fillI 12 = .ok (.iload_n 1, 1) := by decide +kernel
theorem d_fillI_13 : decode b_fillI 13 = .ok (.iastore, 1) := by decide +kernel
theorem d_fillI_14 : decode b_fillI 14 = .ok (.iinc 2 1, 3) := by decide +kernel
theorem d_fillI_17 : decode b_fillI 17 = .ok (.goto (-12), 3) := by decide +kernel
theorem d_fillI_20 : decode b_fillI 20 = .ok (.return_, 1) := by decide +kernel
theorem w_fillI : zWd y_fillI b_fillI 4 none [] ∈ zTb := zt3 106 (by decide +kernel) rfl
theorem ini_Arr : Cond.initialized "java/util/Arrays" ∈ zTb := zt1 17 (by decide +kernel) rfl
theorem lw_C_42 : Cond.methodLink "SoleArrays$Checker" 42 ⟨"java/util/Arrays", "fill", "([II)V"⟩ ∈ zTb := zt3 104 (by decide +kernel) rfl
theorem ls_fillI : Cond.static ⟨"java/util/Arrays", "fill", "([II)V"⟩ ∈ zTb := zt3 105 (by decide +kernel) rfl
theorem l_C_42 : zLS "SoleArrays$Checker" 42 y_fillI 2 := ⟨lw_C_42, ls_fillI, ini_Arr, ⟨by decide, by decide⟩, by decide +kernel⟩
def fl {α : Type} (f : Nat → α) (k : Nat) (x : α) : Nat → α := fun j => if j < k then x else f j
theorem fl_0 {α : Type} {f : Nat → α} {x : α} : fl f 0 x = f := by
  funext j
  exact if_neg (by omega)
theorem fl_upd {f : Nat → Int32} {k : Nat} {x : Int32} : upd (fl f k x) k x = fl f (k + 1) x := by
  funext j
  unfold upd fl
  by_cases h : j = k
  · rw [if_pos h, if_pos (by omega)]
  · rw [if_neg h]
    by_cases g : j < k
    · rw [if_pos g, if_pos (by omega)]
    · rw [if_neg g, if_neg (by omega)]
section FLI
variable {G : zG} {l : Launch} {n i len : Nat} {σ : zS} {f : Nat → Int32}
theorem c_fillI (hi : i < n) (hσ : σ i = .inl (0, len, .inl f)) (hl : len < 100000) (x : Int32) : MetZ G l y_fillI b_fillI 4 none [] 0 0 0 [.ref i, .int x] n σ (fun o n' σ' => o = .returned none ∧ n' = n ∧ σ' = va_up σ i (.inl (0, len, .inl (fl f len x)))) := by
  refine MetZ.of (by decide) (Nat.le_of_ble_eq_true rfl) (fun K hK hR hpo hmc hms C => ?_)
  have loop : ∀ m k, m + k = len → Z G K n (va_up σ i (.inl (0, len, .inl (fl f k x)))) 0 0 5 [(2, .int (nI k)), (3, .int (nI len)), (0, .ref i), (1, .int x)] [] := fun m => by
    induction m with
    | zero =>
      intro k hk
      obtain rfl : k = len := by omega
      refine z_iload_n C 6 d_fillI_5 rfl rfl ?_
      refine z_iload_n C 7 d_fillI_6 rfl rfl ?_
      refine z_icmp_ge C 10 20 d_fillI_7 rfl (by decide) (fun _ => ?_) (fun h9 => absurd (Int32.le_refl _) h9)
      exact z_vret C rfl d_fillI_20 (by rw [hpo]; exact ⟨rfl, rfl, rfl⟩) (by rw [hmc]; omega) (by rw [hms]; omega)
    | succ m ih =>
      intro k hk
      refine z_iload_n C 6 d_fillI_5 rfl rfl ?_
      refine z_iload_n C 7 d_fillI_6 rfl rfl ?_
      refine z_icmp_ge C 10 20 d_fillI_7 rfl (by decide) (fun h9 => absurd ((nI_leI (by omega) (by omega)).mp h9) (by omega)) (fun _ => ?_)
      refine z_aload_n C 11 d_fillI_10 rfl rfl ?_
      refine z_iload_n C 12 d_fillI_11 rfl rfl ?_
      refine z_iload_n C 13 d_fillI_12 rfl rfl ?_
      refine z_iast C 14 k d_fillI_13 rfl hi (va_up_self _ _ _) rfl (by omega) (by omega) ?_
      rw [va_up2, fl_upd]
      refine z_iinc C 17 d_fillI_14 rfl (nI (k + 1)) rfl (z_inc k) (by decide) ?_
      refine z_goto C 5 d_fillI_17 (by decide) ?_
      exact ih (k + 1) (by omega)
  refine z_iconst C 1 d_fillI_0 rfl 0 (by decide) ?_
  refine z_istore_n C 2 d_fillI_1 rfl (by decide) ?_
  refine z_aload_n C 3 d_fillI_2 rfl rfl ?_
  refine z_arrlen C 4 (t := 0) rfl d_fillI_3 rfl hi hσ rfl ?_
  refine z_istore_n C 5 d_fillI_4 rfl (by decide) ?_
  have k := loop len 0 (by omega)
  rw [fl_0, va_same hσ] at k
  refine Z.lvs (fun q hq => ?_) k
  have hq : q ∈ [((3 : Nat), Value.int (nI len)), (2, .int (nI 0)), (0, .ref i), (1, .int x)] := by
    simp only [List.mem_cons, List.not_mem_nil, or_false] at hq ⊢
    rcases hq with h | h | h | h
    · exact Or.inr (Or.inl h)
    · exact Or.inl h
    · exact Or.inr (Or.inr (Or.inl h))
    · exact Or.inr (Or.inr (Or.inr h))
  exact hq
end FLI
/-! a function being checked -/
def cPar (V P Y : mS) : Nat → Nat → cS → cR
  | 0, _, s => .inr (0, s)
  | m + 1, k, s => if s.1 (cIx (V k)) = -1 then cPar V P Y m (k + 1) (cBind (V k) (Y k) s) else .inl (P k)
def cEnd (V P : mS) : Nat → Nat → cS → cR
  | 0, _, s => .inr (0, s)
  | m + 1, k, s => if cOwn s.2.1 (V k) then .inl (P k) else cEnd V P m (k + 1) s
def cT0 : mS := fl (fun _ => 0) 20 (-1)
def chk (cl : Nat → Option cF) (old : Option Nat) (cn : Nat) (V P Y : mS) (rt : Int32) (E : Nat → eN) : cR :=
  if old = none then (cB (cPar V P Y cn 0 (cT0, 0, E)) fun _ s1 => cB (ck cl 8 0 s1) fun t s2 => if t = rt then cEnd V P cn 0 s2 else .inl (s2.2.2 0).2.1) else .inl 0
theorem cPar_E {V P Y : mS} : ∀ (m k : Nat) (s : cS) {t : Int32} {s' : cS}, cPar V P Y m k s = .inr (t, s') → s'.2.2 = s.2.2
  | 0, _, s, t, s', h => by cases h; rfl
  | m + 1, k, s, t, s', h => by
    unfold cPar at h
    by_cases q : s.1 (cIx (V k)) = -1
    · rw [if_pos q] at h
      exact (cPar_E m (k + 1) _ h).trans rfl
    · rw [if_neg q] at h
      cases h
theorem d_C_init_0 : decode b_C_init 0 = .ok (.aload_n 0, 1) := by decide +kernel
theorem d_C_init_1 : decode b_C_init 1 = .ok (.invokespecial 3, 3) := by decide +kernel
theorem d_C_init_4 : decode b_C_init 4 = .ok (.aload_n 0, 1) := by decide +kernel
theorem d_C_init_5 : decode b_C_init 5 = .ok (.bipush 20, 2) := by decide +kernel
theorem d_C_init_7 : decode b_C_init 7 = .ok (.newarray .int, 2) := by decide +kernel
theorem d_C_init_9 : decode b_C_init 9 = .ok (.putfield 9, 3) := by decide +kernel
theorem d_C_init_12 : decode b_C_init 12 = .ok (.aload_n 0, 1) := by decide +kernel
theorem d_C_init_13 : decode b_C_init 13 = .ok (.iconst 0, 1) := by decide +kernel
theorem d_C_init_14 : decode b_C_init 14 = .ok (.putfield 15, 3) := by decide +kernel
theorem d_C_init_17 : decode b_C_init 17 = .ok (.aload_n 0, 1) := by decide +kernel
theorem d_C_init_18 : decode b_C_init 18 = .ok (.aload_n 1, 1) := by decide +kernel
theorem d_C_init_19 : decode b_C_init 19 = .ok (.putfield 19, 3) := by decide +kernel
theorem d_C_init_22 : decode b_C_init 22 = .ok (.aload_n 0, 1) := by decide +kernel
theorem d_C_init_23 : decode b_C_init 23 = .ok (.aload_n 2, 1) := by decide +kernel
theorem d_C_init_24 : decode b_C_init 24 = .ok (.putfield 23, 3) := by decide +kernel
theorem d_C_init_27 : decode b_C_init 27 = .ok (.aload_n 0, 1) := by decide +kernel
theorem d_C_init_28 : decode b_C_init 28 = .ok (.aload_n 3, 1) := by decide +kernel
theorem d_C_init_29 : decode b_C_init 29 = .ok (.putfield 27, 3) := by decide +kernel
theorem d_C_init_32 : decode b_C_init 32 = .ok (.return_, 1) := by decide +kernel
theorem d_C_check_0 : decode b_C_check 0 = .ok (.aload_n 0, 1) := by decide +kernel
theorem d_C_check_1 : decode b_C_check 1 = .ok (.getfield 23, 3) := by decide +kernel
theorem d_C_check_4 : decode b_C_check 4 = .ok (.aload_n 0, 1) := by decide +kernel
theorem d_C_check_5 : decode b_C_check 5 = .ok (.getfield 19, 3) := by decide +kernel
theorem d_C_check_8 : decode b_C_check 8 = .ok (.getfield 31, 3) := by decide +kernel
theorem d_C_check_11 : decode b_C_check 11 = .ok (.aaload, 1) := by decide +kernel
theorem d_C_check_12 : decode b_C_check 12 = .ok (.ifnull 11, 3) := by decide +kernel
theorem d_C_check_15 : decode b_C_check 15 = .ok (.aload_n 0, 1) := by decide +kernel
theorem d_C_check_16 : decode b_C_check 16 = .ok (.getfield 27, 3) := by decide +kernel
theorem d_C_check_19 : decode b_C_check 19 = .ok (.iconst 0, 1) := by decide +kernel
theorem d_C_check_20 : decode b_C_check 20 = .ok (.invokevirtual 36, 3) := by decide +kernel
theorem d_C_check_23 : decode b_C_check 23 = .ok (.aload_n 0, 1) := by decide +kernel
theorem d_C_check_24 : decode b_C_check 24 = .ok (.getfield 9, 3) := by decide +kernel
theorem d_C_check_27 : decode b_C_check 27 = .ok (.iconst (-1), 1) := by decide +kernel
theorem d_C_check_28 : decode b_C_check 28 = .ok (.invokestatic 42, 3) := by decide +kernel
theorem d_C_check_31 : decode b_C_check 31 = .ok (.iconst 0, 1) := by decide +kernel
theorem d_C_check_32 : decode b_C_check 32 = .ok (.istore_n 1, 1) := by decide +kernel
theorem d_C_check_33 : decode b_C_check 33 = .ok (.iload_n 1, 1) := by decide +kernel
theorem d_C_check_34 : decode b_C_check 34 = .ok (.aload_n 0, 1) := by decide +kernel
theorem d_C_check_35 : decode b_C_check 35 = .ok (.getfield 19, 3) := by decide +kernel
theorem d_C_check_38 : decode b_C_check 38 = .ok (.getfield 48, 3) := by decide +kernel
theorem d_C_check_41 : decode b_C_check 41 = .ok (.if_icmp .ge 53, 3) := by decide +kernel
theorem d_C_check_44 : decode b_C_check 44 = .ok (.aload_n 0, 1) := by decide +kernel
theorem d_C_check_45 : decode b_C_check 45 = .ok (.aload_n 0, 1) := by decide +kernel
theorem d_C_check_46 : decode b_C_check 46 = .ok (.getfield 19, 3) := by decide +kernel
theorem d_C_check_49 : decode b_C_check 49 = .ok (.getfield 51, 3) := by decide +kernel
theorem d_C_check_52 : decode b_C_check 52 = .ok (.iload_n 1, 1) := by decide +kernel
theorem d_C_check_53 : decode b_C_check 53 = .ok (.iaload, 1) := by decide +kernel
theorem d_C_check_54 : decode b_C_check 54 = .ok (.aload_n 0, 1) := by decide +kernel
theorem d_C_check_55 : decode b_C_check 55 = .ok (.getfield 19, 3) := by decide +kernel
theorem d_C_check_58 : decode b_C_check 58 = .ok (.getfield 54, 3) := by decide +kernel
theorem d_C_check_61 : decode b_C_check 61 = .ok (.iload_n 1, 1) := by decide +kernel
theorem d_C_check_62 : decode b_C_check 62 = .ok (.iaload, 1) := by decide +kernel
theorem d_C_check_63 : decode b_C_check 63 = .ok (.invokevirtual 57, 3) := by decide +kernel
theorem d_C_check_66 : decode b_C_check 66 = .ok (.aload_n 0, 1) := by decide +kernel
theorem d_C_check_67 : decode b_C_check 67 = .ok (.aload_n 0, 1) := by decide +kernel
theorem d_C_check_68 : decode b_C_check 68 = .ok (.getfield 19, 3) := by decide +kernel
theorem d_C_check_71 : decode b_C_check 71 = .ok (.getfield 51, 3) := by decide +kernel
theorem d_C_check_74 : decode b_C_check 74 = .ok (.iload_n 1, 1) := by decide +kernel
theorem d_C_check_75 : decode b_C_check 75 = .ok (.iaload, 1) := by decide +kernel
theorem d_C_check_76 : decode b_C_check 76 = .ok (.aload_n 0, 1) := by decide +kernel
theorem d_C_check_77 : decode b_C_check 77 = .ok (.getfield 19, 3) := by decide +kernel
theorem d_C_check_80 : decode b_C_check 80 = .ok (.getfield 61, 3) := by decide +kernel
theorem d_C_check_83 : decode b_C_check 83 = .ok (.iload_n 1, 1) := by decide +kernel
theorem d_C_check_84 : decode b_C_check 84 = .ok (.iaload, 1) := by decide +kernel
theorem d_C_check_85 : decode b_C_check 85 = .ok (.invokevirtual 62, 3) := by decide +kernel
theorem d_C_check_88 : decode b_C_check 88 = .ok (.iinc 1 1, 3) := by decide +kernel
theorem d_C_check_91 : decode b_C_check 91 = .ok (.goto (-58), 3) := by decide +kernel
theorem d_C_check_94 : decode b_C_check 94 = .ok (.aload_n 0, 1) := by decide +kernel
theorem d_C_check_95 : decode b_C_check 95 = .ok (.aload_n 0, 1) := by decide +kernel
theorem d_C_check_96 : decode b_C_check 96 = .ok (.getfield 19, 3) := by decide +kernel
theorem d_C_check_99 : decode b_C_check 99 = .ok (.getfield 65, 3) := by decide +kernel
theorem d_C_check_102 : decode b_C_check 102 = .ok (.invokevirtual 69, 3) := by decide +kernel
theorem d_C_check_105 : decode b_C_check 105 = .ok (.aload_n 0, 1) := by decide +kernel
theorem d_C_check_106 : decode b_C_check 106 = .ok (.getfield 19, 3) := by decide +kernel
theorem d_C_check_109 : decode b_C_check 109 = .ok (.getfield 73, 3) := by decide +kernel
theorem d_C_check_112 : decode b_C_check 112 = .ok (.if_icmp .eq 20, 3) := by decide +kernel
theorem d_C_check_115 : decode b_C_check 115 = .ok (.aload_n 0, 1) := by decide +kernel
theorem d_C_check_116 : decode b_C_check 116 = .ok (.getfield 27, 3) := by decide +kernel
theorem d_C_check_119 : decode b_C_check 119 = .ok (.aload_n 0, 1) := by decide +kernel
theorem d_C_check_120 : decode b_C_check 120 = .ok (.getfield 19, 3) := by decide +kernel
theorem d_C_check_123 : decode b_C_check 123 = .ok (.getfield 65, 3) := by decide +kernel
theorem d_C_check_126 : decode b_C_check 126 = .ok (.getfield 76, 3) := by decide +kernel
theorem d_C_check_129 : decode b_C_check 129 = .ok (.invokevirtual 36, 3) := by decide +kernel
theorem d_C_check_132 : decode b_C_check 132 = .ok (.iconst 0, 1) := by decide +kernel
theorem d_C_check_133 : decode b_C_check 133 = .ok (.istore_n 1, 1) := by decide +kernel
theorem d_C_check_134 : decode b_C_check 134 = .ok (.iload_n 1, 1) := by decide +kernel
theorem d_C_check_135 : decode b_C_check 135 = .ok (.aload_n 0, 1) := by decide +kernel
theorem d_C_check_136 : decode b_C_check 136 = .ok (.getfield 19, 3) := by decide +kernel
theorem d_C_check_139 : decode b_C_check 139 = .ok (.getfield 48, 3) := by decide +kernel
theorem d_C_check_142 : decode b_C_check 142 = .ok (.if_icmp .ge 31, 3) := by decide +kernel
theorem d_C_check_145 : decode b_C_check 145 = .ok (.aload_n 0, 1) := by decide +kernel
theorem d_C_check_146 : decode b_C_check 146 = .ok (.aload_n 0, 1) := by decide +kernel
theorem d_C_check_147 : decode b_C_check 147 = .ok (.getfield 19, 3) := by decide +kernel
theorem d_C_check_150 : decode b_C_check 150 = .ok (.getfield 51, 3) := by decide +kernel
theorem d_C_check_153 : decode b_C_check 153 = .ok (.iload_n 1, 1) := by decide +kernel
theorem d_C_check_154 : decode b_C_check 154 = .ok (.iaload, 1) := by decide +kernel
theorem d_C_check_155 : decode b_C_check 155 = .ok (.aload_n 0, 1) := by decide +kernel
theorem d_C_check_156 : decode b_C_check 156 = .ok (.getfield 19, 3) := by decide +kernel
theorem d_C_check_159 : decode b_C_check 159 = .ok (.getfield 54, 3) := by decide +kernel
theorem d_C_check_162 : decode b_C_check 162 = .ok (.iload_n 1, 1) := by decide +kernel
theorem d_C_check_163 : decode b_C_check 163 = .ok (.iaload, 1) := by decide +kernel
theorem d_C_check_164 : decode b_C_check 164 = .ok (.invokevirtual 81, 3) := by decide +kernel
theorem d_C_check_167 : decode b_C_check 167 = .ok (.iinc 1 1, 3) := by decide +kernel
theorem d_C_check_170 : decode b_C_check 170 = .ok (.goto (-36), 3) := by decide +kernel
theorem d_C_check_173 : decode b_C_check 173 = .ok (.return_, 1) := by decide +kernel
section CHK
variable {G : zG} {l : Launch} {B N c F f : Nat} {σ : zS} {xs : mS} {xr : Int64} {xa : mA} {xl : mL} {xf : xF} {cl : Nat → Option cF}
theorem c_C_init (hc2 : c + 1 < 1000000) : MetZ G l y_C_init b_C_init 4 none [] 1 1 20 [.ref c, .ref F, .ref 3, .ref 2] (c + 1) (va_up σ c (.inr (5, [.null, .null, .null, .null, .int 0]))) (fun o n' σ' => o = .returned none ∧ n' = c + 2 ∧ σ' = va_up (va_up σ c (kC c F 0)) (c + 1) (.inl (0, 20, .inl (fun _ => 0)))) := by
  refine MetZ.of (by decide) (Nat.le_of_ble_eq_true rfl) (fun K hK hR hpo hmc hms C => ?_)
  refine z_aload_n C 1 d_C_init_0 rfl rfl ?_
  refine z_objinit C 4 d_C_init_1 rfl o_C_3 i_obj w_obj (by rw [hR]; decide) (by rw [hR]; decide) ?_
  refine z_aload_n C 5 d_C_init_4 rfl rfl ?_
  refine z_bipush C 7 d_C_init_5 rfl 20 (by decide) ?_
  refine z_newa C 9 0 20 (a := (20, .inl (fun _ => 0))) rfl rfl aw_int (fun _ => rfl) (fun h => h) d_C_init_7 rfl (by decide) (by decide) (by decide) (by omega) (by rw [hR]; simp only [zRm]; omega) (by rw [hR]; simp only [zRm]; omega) ?_
  rw [va_comm _ _ _ (by omega)]
  refine z_putFS C 12 q_C_9 rfl d_C_init_9 rfl (by omega) (z_ltb rfl) rfl rfl ?_
  refine z_aload_n C 13 d_C_init_12 rfl rfl ?_
  refine z_iconst C 14 d_C_init_13 rfl 0 (by decide) ?_
  refine z_putS C 17 p_C_15 d_C_init_14 rfl (by omega) (z_ltb rfl) rfl rfl ?_
  refine z_aload_n C 18 d_C_init_17 rfl rfl ?_
  refine z_aload_n C 19 d_C_init_18 rfl rfl ?_
  refine z_putFS C 22 q_C_19 rfl d_C_init_19 rfl (by omega) (z_ltb rfl) rfl rfl ?_
  refine z_aload_n C 23 d_C_init_22 rfl rfl ?_
  refine z_aload_n C 24 d_C_init_23 rfl rfl ?_
  refine z_putFS C 27 q_C_23 rfl d_C_init_24 rfl (by omega) (z_ltb rfl) rfl rfl ?_
  refine z_aload_n C 28 d_C_init_27 rfl rfl ?_
  refine z_aload_n C 29 d_C_init_28 rfl rfl ?_
  refine z_putFS C 32 q_C_27 rfl d_C_init_29 rfl (by omega) (z_ltb rfl) rfl rfl ?_
  exact z_vret C rfl d_C_init_32 (by rw [hpo]; exact ⟨rfl, rfl, by rw [va_comm _ _ _ (by omega)]; rfl⟩) (by rw [hmc]; omega) (by rw [hms]; omega)
theorem c_C_check {cn : Nat} {V P Y : mS} {rt : Int32} {E : Nat → eN} (hp : kPre B N c F σ xf cl f) (h0 : σ F = gF F (nI f) cn rt (some B)) (hV : σ (F + 1) = .inl (0, 4, .inl V)) (hP : σ (F + 2) = .inl (0, 4, .inl P)) (hY : σ (F + 3) = .inl (0, 4, .inl Y)) (hcn : cn ≤ 4) (hvs : ∀ k, k < cn → ∃ v, v < 20 ∧ V k = nI v) (hN : 0 < N) (hw : eWf N E) (hdp : eDp E 8 0) {mc ms : Nat} (hm : (∃ q, chk cl (xf f) cn V P Y rt E = .inl q) → 1 ≤ mc ∧ 6 ≤ ms) :
    MetZ G l y_C_check b_C_check 2 none [] 33 mc ms [.ref c] (c + 2) (kSt B N c F σ xs xr xa xl xf (fun _ => 0, 0, E)) (kPost B N c F σ xs xr xa xl xf kvN (chk cl (xf f) cn V P Y rt E)) := by
  obtain ⟨res, hres⟩ : ∃ x, chk cl (xf f) cn V P Y rt E = x := ⟨_, rfl⟩
  rw [hres] at hm ⊢
  have hp0 := hp
  obtain ⟨hF, hFB, hc, hc9, hf8, ⟨fcn, fY, fres, hclf⟩, hoth, hcls⟩ := hp
  have sF : ∀ s, kSt B N c F σ xs xr xa xl xf s F = gF F (nI f) cn rt (some B) := fun s => (kSt_lo hc (by omega) (by omega)).trans h0
  have sV : ∀ s, kSt B N c F σ xs xr xa xl xf s (F + 1) = .inl (0, 4, .inl V) := fun s => (kSt_lo hc (by omega) (by omega)).trans hV
  have sP : ∀ s, kSt B N c F σ xs xr xa xl xf s (F + 2) = .inl (0, 4, .inl P) := fun s => (kSt_lo hc (by omega) (by omega)).trans hP
  have sY : ∀ s, kSt B N c F σ xs xr xa xl xf s (F + 3) = .inl (0, 4, .inl Y) := fun s => (kSt_lo hc (by omega) (by omega)).trans hY
  refine MetZ.of (by decide) (Nat.le_of_ble_eq_true rfl) (fun K hK hR hpo hmc hms C => ?_)
  subst hK
  have hmc' : (kR K).cells ≤ kmc K := by rw [hR, hmc]; exact Nat.le_refl _
  have hms' : (kR K).slots ≤ kms K := by rw [hR, hms]; exact Nat.le_refl _
  have hm' : (∃ q, res = .inl q) → 1 ≤ (kR K).cells ∧ 6 ≤ (kR K).slots := by rw [hR]; exact hm
  have lend : ∀ (m k : Nat) (s : cS), m + k = cn → cEnd V P m k s = res → Z G K (c + 2) (kSt B N c F σ xs xr xa xl xf s) 0 0 134 [(1, .int (nI k)), (0, .ref c)] [] := fun m => by
    induction m with
    | zero =>
      intro k s hk hr
      refine z_iload_n C 135 d_C_check_134 rfl rfl ?_
      refine z_aload_n C 136 d_C_check_135 rfl rfl ?_
      refine z_get C 139 f_C_19 d_C_check_136 rfl (by omega) (kSt_c (by omega)) rfl ?_
      refine z_get C 142 f_C_48 d_C_check_139 rfl (by omega) (sF _) rfl ?_
      refine z_icmp_ge C 145 173 d_C_check_142 rfl (by decide) (fun _ => ?_) (fun h9 => absurd ((nI_leI (a := cn) (b := k) (by omega) (by omega)).mpr (by omega)) h9)
      exact z_vret C rfl d_C_check_173 (by rw [hpo]; exact (by rw [← hr]; exact ⟨rfl, rfl, rfl⟩)) (by rw [hmc]; omega) (by rw [hms]; omega)
    | succ m ih =>
      intro k s hk hr
      unfold cEnd at hr
      refine z_iload_n C 135 d_C_check_134 rfl rfl ?_
      refine z_aload_n C 136 d_C_check_135 rfl rfl ?_
      refine z_get C 139 f_C_19 d_C_check_136 rfl (by omega) (kSt_c (by omega)) rfl ?_
      refine z_get C 142 f_C_48 d_C_check_139 rfl (by omega) (sF _) rfl ?_
      refine z_icmp_ge C 145 173 d_C_check_142 rfl (by decide) (fun h9 => absurd h9 (fun q => absurd ((nI_leI (a := cn) (b := k) (by omega) (by omega)).mp q) (by omega))) (fun _ => ?_)
      refine z_aload_n C 146 d_C_check_145 rfl rfl ?_
      refine z_aload_n C 147 d_C_check_146 rfl rfl ?_
      refine z_get C 150 f_C_19 d_C_check_147 rfl (by omega) (kSt_c (by omega)) rfl ?_
      refine z_get C 153 f_C_51 d_C_check_150 rfl (by omega) (sF _) rfl ?_
      refine z_iload_n C 154 d_C_check_153 rfl rfl ?_
      refine z_iald C 155 k d_C_check_154 rfl (by omega) (sV _) rfl (by omega) (by decide) ?_
      refine z_aload_n C 156 d_C_check_155 rfl rfl ?_
      refine z_get C 159 f_C_19 d_C_check_156 rfl (by omega) (kSt_c (by omega)) rfl ?_
      refine z_get C 162 f_C_54 d_C_check_159 rfl (by omega) (sF _) rfl ?_
      refine z_iload_n C 163 d_C_check_162 rfl rfl ?_
      refine z_iald C 164 k d_C_check_163 rfl (by omega) (sP _) rfl (by omega) (by decide) ?_
      refine zk_sub C 167 (fun mc ms hm => c_C_refuseIfOwned (by omega) hc hc9 (V k) (P k) hm) w_C_refuseIfOwned ini_C d_C_check_164 rfl (z_goV (As := [.int (V k), .int (P k)]) C l_C_81 w_C_refuseIfOwned d_C_check_164 (by omega) ((kSt_c (by omega))) rfl rfl) (Nat.le_of_ble_eq_true rfl) (by rw [hR]; simp only [zRm]; omega) (by rw [hR]; simp only [zRm]; omega) hmc' hms' hpo hm' (fun q' hq' => by by_cases q1 : cOwn s.2.1 (V k); { rw [if_pos q1] at hq' hr; cases hq'; exact hr.symm }; { rw [if_neg q1] at hq'; cases hq' }) (fun t3 s3 hq3 => ?_)
      have q2 : ¬ cOwn s.2.1 (V k) := fun q1 => by rw [if_pos q1] at hq3; cases hq3
      rw [if_neg q2] at hq3 hr
      cases hq3
      refine z_iinc C 170 d_C_check_167 rfl (nI (k + 1)) rfl (z_inc k) (by decide) ?_
      refine z_goto C 134 d_C_check_170 (by decide) ?_
      exact ih (k + 1) _ (by omega) hr
  have mid : ∀ (s : cS) (k : Nat), s.2.2 = E → (cB (ck cl 8 0 s) fun t s2 => if t = rt then cEnd V P cn 0 s2 else .inl (s2.2.2 0).2.1) = res → Z G K (c + 2) (kSt B N c F σ xs xr xa xl xf s) 0 0 94 [(1, .int (nI k)), (0, .ref c)] [] := fun s k hE hr => by
    refine z_aload_n C 95 d_C_check_94 rfl rfl ?_
    refine z_aload_n C 96 d_C_check_95 rfl rfl ?_
    refine z_get C 99 f_C_19 d_C_check_96 rfl (by omega) (kSt_c (by omega)) rfl ?_
    refine z_get (v := .ref (B + 2 * 0)) C 102 f_C_65 d_C_check_99 rfl (by omega) (sF _) rfl ?_
    refine zk_sub C 105 (fun mc ms hm => kHyp_all 8 B N c F f σ xs xr xa xl xf cl 0 s mc ms hp0 (by rw [hE]; exact hw) (by rw [hE]; exact hdp) hN hm) w_C_look ini_C d_C_check_102 rfl (z_goV (As := [.ref (B + 2 * 0)]) C l_C_69 w_C_look d_C_check_102 (by omega) ((kSt_c (by omega))) rfl rfl) (Nat.le_of_ble_eq_true rfl) (by rw [hR]; simp only [zRm]; omega) (by rw [hR]; simp only [zRm]; omega) hmc' hms' hpo hm' (fun q' hq' => by rw [← hr, hq']; rfl) (fun t1 s1 hq1 => ?_)
    rw [hq1] at hr
    have hr : (if t1 = rt then cEnd V P cn 0 s1 else .inl (s1.2.2 0).2.1) = res := hr
    refine z_aload_n C 106 d_C_check_105 rfl rfl ?_
    refine z_get C 109 f_C_19 d_C_check_106 rfl (by omega) (kSt_c (by omega)) rfl ?_
    refine z_get C 112 f_C_73 d_C_check_109 rfl (by omega) (sF _) rfl ?_
    by_cases q1 : t1 = rt
    · rw [if_pos q1] at hr
      refine z_icmp_eq C 115 132 d_C_check_112 rfl (by decide) (fun _ => ?_) (fun h9 => absurd q1 h9)
      refine z_iconst C 133 d_C_check_132 rfl 0 (by decide) ?_
      refine z_istore_n C 134 d_C_check_133 rfl (by decide) ?_
      exact lend cn 0 s1 (by omega) hr
    · rw [if_neg q1] at hr
      have hb := hm ⟨_, hr.symm⟩
      refine z_icmp_eq C 115 132 d_C_check_112 rfl (by decide) (fun h9 => absurd h9 q1) (fun _ => ?_)
      refine z_aload_n C 116 d_C_check_115 rfl rfl ?_
      refine z_get C 119 f_C_27 d_C_check_116 rfl (by omega) (kSt_c (by omega)) rfl ?_
      refine z_aload_n C 120 d_C_check_119 rfl rfl ?_
      refine z_get C 123 f_C_19 d_C_check_120 rfl (by omega) (kSt_c (by omega)) rfl ?_
      refine z_get (v := .ref (B + 2 * 0)) C 126 f_C_65 d_C_check_123 rfl (by omega) (sF _) rfl ?_
      refine z_get C 129 f_C_76 d_C_check_126 rfl (by omega) (kSt_e (by omega) hc hN) rfl ?_
      refine z_call C 132 (c_T_wrong (by omega) (by omega) (s1.2.2 0).2.1) w_T_wrong ini_T d_C_check_129 rfl (z_goV (As := [.int (s1.2.2 0).2.1]) C l_C_36 w_T_wrong d_C_check_129 (by omega) (rfl) rfl rfl) (Nat.le_of_ble_eq_true rfl) (by rw [hR]; simp only [zRm]; omega) (by rw [hR]; simp only [zRm]; omega) (by rw [hR]; simp only [zRm]; omega) (by rw [hR]; simp only [zRm]; omega) (fun v n' σ' hv => ?_) (fun x n' σ' hv => ?_)
      · cases hv.1
      · obtain ⟨e0, rfl, rfl⟩ := hv
        cases e0
        exact zx_out C (fun h hh => nomatch hh) (by rw [hpo]; exact (by rw [← hr]; exact kIll_mk hc)) (by rw [hmc]; omega) (by rw [hms]; omega)
  have lpar : ∀ (m k : Nat) (s : cS), m + k = cn → s.2.2 = E → (cB (cPar V P Y m k s) fun _ s1 => cB (ck cl 8 0 s1) fun t s2 => if t = rt then cEnd V P cn 0 s2 else .inl (s2.2.2 0).2.1) = res → Z G K (c + 2) (kSt B N c F σ xs xr xa xl xf s) 0 0 33 [(1, .int (nI k)), (0, .ref c)] [] := fun m => by
    induction m with
    | zero =>
      intro k s hk hE hr
      refine z_iload_n C 34 d_C_check_33 rfl rfl ?_
      refine z_aload_n C 35 d_C_check_34 rfl rfl ?_
      refine z_get C 38 f_C_19 d_C_check_35 rfl (by omega) (kSt_c (by omega)) rfl ?_
      refine z_get C 41 f_C_48 d_C_check_38 rfl (by omega) (sF _) rfl ?_
      refine z_icmp_ge C 44 94 d_C_check_41 rfl (by decide) (fun _ => ?_) (fun h9 => absurd ((nI_leI (a := cn) (b := k) (by omega) (by omega)).mpr (by omega)) h9)
      exact mid s k hE hr
    | succ m ih =>
      intro k s hk hE hr
      obtain ⟨v0, hv20, ev⟩ := hvs k (by omega)
      have hix : cIx (V k) = v0 := by rw [ev]; exact nI_clamp (by omega)
      unfold cPar at hr
      rw [hix] at hr
      refine z_iload_n C 34 d_C_check_33 rfl rfl ?_
      refine z_aload_n C 35 d_C_check_34 rfl rfl ?_
      refine z_get C 38 f_C_19 d_C_check_35 rfl (by omega) (kSt_c (by omega)) rfl ?_
      refine z_get C 41 f_C_48 d_C_check_38 rfl (by omega) (sF _) rfl ?_
      refine z_icmp_ge C 44 94 d_C_check_41 rfl (by decide) (fun h9 => absurd h9 (fun q => absurd ((nI_leI (a := cn) (b := k) (by omega) (by omega)).mp q) (by omega))) (fun _ => ?_)
      refine z_aload_n C 45 d_C_check_44 rfl rfl ?_
      refine z_aload_n C 46 d_C_check_45 rfl rfl ?_
      refine z_get C 49 f_C_19 d_C_check_46 rfl (by omega) (kSt_c (by omega)) rfl ?_
      refine z_get C 52 f_C_51 d_C_check_49 rfl (by omega) (sF _) rfl ?_
      refine z_iload_n C 53 d_C_check_52 rfl rfl ?_
      refine z_iald C 54 k d_C_check_53 rfl (by omega) (sV _) rfl (by omega) (by decide) ?_
      refine z_aload_n C 55 d_C_check_54 rfl rfl ?_
      refine z_get C 58 f_C_19 d_C_check_55 rfl (by omega) (kSt_c (by omega)) rfl ?_
      refine z_get C 61 f_C_54 d_C_check_58 rfl (by omega) (sF _) rfl ?_
      refine z_iload_n C 62 d_C_check_61 rfl rfl ?_
      refine z_iald C 63 k d_C_check_62 rfl (by omega) (sP _) rfl (by omega) (by decide) ?_
      rw [ev]
      refine zk_sub C 66 (fun mc ms hm => c_C_refuseIfBound (by omega) hc hc9 hv20 (P k) hm) w_C_refuseIfBound ini_C d_C_check_63 rfl (z_goV (As := [.int (nI v0), .int (P k)]) C l_C_57 w_C_refuseIfBound d_C_check_63 (by omega) ((kSt_c (by omega))) rfl rfl) (Nat.le_of_ble_eq_true rfl) (by rw [hR]; simp only [zRm]; omega) (by rw [hR]; simp only [zRm]; omega) hmc' hms' hpo hm' (fun q' hq' => by by_cases q1 : s.1 v0 = -1; { rw [if_pos q1] at hq'; cases hq' }; { rw [if_neg q1] at hq' hr; cases hq'; exact hr.symm }) (fun t0 s0 hq0 => ?_)
      have q1 : s.1 v0 = -1 := Decidable.byContradiction fun q1 => by rw [if_neg q1] at hq0; cases hq0
      rw [if_pos q1] at hq0 hr
      cases hq0
      refine z_aload_n C 67 d_C_check_66 rfl rfl ?_
      refine z_aload_n C 68 d_C_check_67 rfl rfl ?_
      refine z_get C 71 f_C_19 d_C_check_68 rfl (by omega) (kSt_c (by omega)) rfl ?_
      refine z_get C 74 f_C_51 d_C_check_71 rfl (by omega) (sF _) rfl ?_
      refine z_iload_n C 75 d_C_check_74 rfl rfl ?_
      refine z_iald C 76 k d_C_check_75 rfl (by omega) (sV _) rfl (by omega) (by decide) ?_
      refine z_aload_n C 77 d_C_check_76 rfl rfl ?_
      refine z_get C 80 f_C_19 d_C_check_77 rfl (by omega) (kSt_c (by omega)) rfl ?_
      refine z_get C 83 f_C_61 d_C_check_80 rfl (by omega) (sF _) rfl ?_
      refine z_iload_n C 84 d_C_check_83 rfl rfl ?_
      refine z_iald C 85 k d_C_check_84 rfl (by omega) (sY _) rfl (by omega) (by decide) ?_
      rw [ev]
      refine z_call C 88 (c_C_bind (by omega) hv20 (Y k)) w_C_bind ini_C d_C_check_85 rfl (z_goV (As := [.int (nI v0), .int (Y k)]) C l_C_62 w_C_bind d_C_check_85 (by omega) ((kSt_c (by omega))) rfl rfl) (Nat.le_of_ble_eq_true rfl) (by rw [hR]; simp only [zRm]; omega) (by rw [hR]; simp only [zRm]; omega) (by rw [hR]; simp only [zRm]; omega) (by rw [hR]; simp only [zRm]; omega) (fun v n' σ' hv => ?_) (fun x n' σ' hv => ?_)
      rotate_left
      · cases hv.1
      obtain ⟨e0, rfl, rfl⟩ := hv
      cases e0
      refine z_iinc C 91 d_C_check_88 rfl (nI (k + 1)) rfl (z_inc k) (by decide) ?_
      refine z_goto C 33 d_C_check_91 (by decide) ?_
      exact ih (k + 1) (cBind (nI v0) (Y k) s) (by omega) hE (by rw [← ev]; exact hr)
  unfold chk at hres
  refine z_aload_n C 1 d_C_check_0 rfl rfl ?_
  refine z_get C 4 f_C_23 d_C_check_1 rfl (by omega) (kSt_c (by omega)) rfl ?_
  refine z_aload_n C 5 d_C_check_4 rfl rfl ?_
  refine z_get C 8 f_C_19 d_C_check_5 rfl (by omega) (kSt_c (by omega)) rfl ?_
  refine z_get C 11 f_C_31 d_C_check_8 rfl (by omega) (sF _) rfl ?_
  cases hxf : xf f with
  | some a =>
    rw [if_neg (by rw [hxf]; exact fun w => nomatch w)] at hres
    have hb := hm ⟨_, hres.symm⟩
    refine z_aald C 12 (t := 4) f (some a) d_C_check_11 rfl (by omega) rfl rfl rfl rfl hf8 (by decide) hxf ?_
    refine z_ifnull C 15 d_C_check_12 rfl ?_
    refine z_aload_n C 16 d_C_check_15 rfl rfl ?_
    refine z_get C 19 f_C_27 d_C_check_16 rfl (by omega) (kSt_c (by omega)) rfl ?_
    refine z_iconst C 20 d_C_check_19 rfl 0 (by decide) ?_
    refine z_call C 23 (c_T_wrong (by omega) (by omega) 0) w_T_wrong ini_T d_C_check_20 rfl (z_goV (As := [.int 0]) C l_C_36 w_T_wrong d_C_check_20 (by omega) (rfl) rfl rfl) (Nat.le_of_ble_eq_true rfl) (by rw [hR]; simp only [zRm]; omega) (by rw [hR]; simp only [zRm]; omega) (by rw [hR]; simp only [zRm]; omega) (by rw [hR]; simp only [zRm]; omega) (fun v n' σ' hv => ?_) (fun x n' σ' hv => ?_)
    · cases hv.1
    · obtain ⟨e0, rfl, rfl⟩ := hv
      cases e0
      exact zx_out C (fun h hh => nomatch hh) (by rw [hpo]; exact (by rw [← hres]; exact kIll_mk hc)) (by rw [hmc]; omega) (by rw [hms]; omega)
  | none =>
    rw [if_pos hxf] at hres
    refine z_aald C 12 (t := 4) f none d_C_check_11 rfl (by omega) rfl rfl rfl rfl hf8 (by decide) hxf ?_
    refine z_ifnullN C 23 d_C_check_12 (by decide) ?_
    refine z_aload_n C 24 d_C_check_23 rfl rfl ?_
    refine z_get C 27 f_C_9 d_C_check_24 rfl (by omega) (kSt_c (by omega)) rfl ?_
    refine z_iconst C 28 d_C_check_27 rfl (-1) (by decide) ?_
    refine z_call C 31 (c_fillI (by omega) (kSt_t (by omega)) (by decide) (-1)) w_fillI ini_Arr d_C_check_28 rfl (z_goS (As := [.ref (c + 1), .int (-1)]) C l_C_42 w_fillI nm_of d_C_check_28 rfl) (Nat.le_of_ble_eq_true rfl) (by rw [hR]; simp only [zRm]; omega) (by rw [hR]; simp only [zRm]; omega) (by rw [hR]; simp only [zRm]; omega) (by rw [hR]; simp only [zRm]; omega) (fun v n' σ' hv => ?_) (fun x n' σ' hv => ?_)
    rotate_left
    · cases hv.1
    obtain ⟨e0, rfl, rfl⟩ := hv
    cases e0
    rw [kSt_typ (by omega)]
    refine z_iconst C 32 d_C_check_31 rfl 0 (by decide) ?_
    refine z_istore_n C 33 d_C_check_32 rfl (by decide) ?_
    exact lpar cn 0 (cT0, 0, E) (by omega) rfl hres
end CHK
