def mK (W : gQ → Prop) (F : aC × Nat → Prop) (x : gX) : Prop := match x with
  | .inl f => F f
  | .inr q => W q
def mStep (A0 : mA) (PV : Nat → mS) (q : gQ) (x : gX) : Prop := ∃ (bs i : Nat) (e : eN) (kk : Nat) (pl : gP), q.1 = (bs + i, kk) :: pl ∧ pl.length + 1 < 80 ∧ gN A0 bs i e ∧ (e.1 = 13 → A0 93 (cIx (eNm e)) = nI e.2.2.2.1 ∧ ∀ j, j < e.2.2.2.1 → A0 95 (4 * cIx (eNm e) + j) = PV (cIx (eNm e)) j ∧ ∃ v, v < 20 ∧ PV (cIx (eNm e)) j = nI v) ∧ kk ≤ 5 ∧ gSt (PV (cIx (eNm e))) bs i e kk pl q.2.1 q.2.2.1 q.2.2.2.1 q.2.2.2.2.1 q.2.2.2.2.2.1 q.2.2.2.2.2.2 = some x
def mTo (A0 : mA) (PV : Nat → mS) (x y : gX) : Prop := ∀ (W : gQ → Prop) (F : aC × Nat → Prop), (∀ q z, mStep A0 PV q z → mK W F z → W q) → mK W F y → mK W F x
theorem mTo.refl {A0 : mA} {PV : Nat → mS} {x : gX} : mTo A0 PV x x := fun _ _ _ h => h
theorem mTo.trans {A0 : mA} {PV : Nat → mS} {x y z : gX} (h : mTo A0 PV x y) (g : mTo A0 PV y z) : mTo A0 PV x z := fun W F st hz => h W F st (g W F st hz)
theorem mTo.step {A0 : mA} {PV : Nat → mS} {q : gQ} {z : gX} (h : mStep A0 PV q z) : mTo A0 PV (.inr q) z := fun W F st hz => st q z h hz
def rS0 (S : mS) : mS := upd (upd (upd (upd (upd (upd (upd (upd (upd (upd (upd (upd S 0 0) 46 (-1)) 32 0) 33 0) 36 0) 19 0) 39 0) 40 0) 41 0) 42 0) 43 0) 44 0
def gPar (V : mS) (g : Nat → Int64) : Nat → Nat → gE → gE
  | 0, _, EV => EV
  | m + 1, k, EV => gPar V g m (k + 1) (gHold EV 0 (cIx (V k)) (g k, (EV 0 (cIx (V k))).2))
def gE0 (A : mA) (L : mL) : gE := fun e v => (L 107 (20 * e + v), A 108 (20 * e + v))
/-- how a run ends -/
def rEnd (S : mS) (A : mA) (L : mL) (rn : Int64) (σ : zS) (n : Nat) (rt : Int32) (x : gX) : zPost := fun o n' σ' => n' = n ∧ ∃ S' A' L' rn', σ' = mOv S' A' L' rn' σ ∧ (∀ j, j ≠ 0 → j ≠ 19 → ¬ (32 ≤ j ∧ j ≤ 44) → j ≠ 46 → j ≠ 48 → j ≠ 49 → S' j = S j) ∧ (∀ a, a < 98 → A' a = A a) ∧ L' 111 = L 111 ∧ match x with
  | .inl f => o = .returned (some (.int 0)) ∧ S' 0 = nI f.2 ∧ S' 46 = -1 ∧ mCt f.1 S'
  | .inr q => o = .returned (some (.int rt)) ∧ S' 0 = 0 ∧ S' 46 = rt ∧ mCt q.2.2.2.2.2.2 S' ∧ rn' = (q.2.1.getD 0 (0, 0)).1 ∧ (rt ≠ 0 → ∃ a, (q.2.1.getD 0 (0, 0)).2 = nI a ∧ a < q.2.2.2.2.1 ∧ S' 48 = nI (q.2.2.2.2.2.1 a).1 ∧ S' 49 = nI (q.2.2.2.2.2.1 a).2.1 ∧ ∀ j, j < (q.2.2.2.2.2.1 a).1 * (q.2.2.2.2.2.1 a).2.1 → L' 112 j = (q.2.2.2.2.2.1 a).2.2 j)
section MRW
variable {G : zG} {l : Launch} {n : Nat} {σ : zS} {S : mS} {A : mA} {L : mL} {rn : Int64} {f cn : Nat} {V Y : mS}
theorem c_M_isRun (hn : 113 ≤ n) (hf : f < 8) (h92 : ¬ A 92 f = 0) (h93 : A 93 f = nI cn) (hcn : cn ≤ 4) (h96 : ∀ k, k < cn → A 96 (4 * f + k) = Y k) : MetZ G l y_M_isRun b_M_isRun 4 (some .boolean) [] 0 0 0 [.ref 85, .int (nI f)] n (mOv S A L rn σ) (fun o n' σ' => (((∀ k, k < cn → Y k = 0) ∧ o = .returned (some (.int 1))) ∨ (¬ (∀ k, k < cn → Y k = 0) ∧ o = .returned (some (.int 0)))) ∧ n' = n ∧ σ' = mOv S A L rn σ) := by
  refine MetZ.of (by decide) (Nat.le_of_ble_eq_true rfl) (fun K hK hR hpo hmc hms C => ?_)
  have loop : ∀ q k (b : Int32), q + k = cn → ((b = 1 ∧ ∀ j, j < k → Y j = 0) ∨ (b = 0 ∧ ¬ ∀ j, j < cn → Y j = 0)) → Z G K n (mOv S A L rn σ) 0 0 25 [(3, .int (nI k)), (2, .int b), (0, .ref 85), (1, .int (nI f))] [] := fun q => by
    induction q with
    | zero =>
      intro k b hk hb
      obtain rfl : k = cn := by omega
      refine z_iload_n C 26 d_M_isRun_25 rfl rfl ?_
      refine z_aload_n C 27 d_M_isRun_26 rfl rfl ?_
      refine zm_get C 30 f_M_37 d_M_isRun_27 rfl hn rfl ?_
      refine z_iload_n C 31 d_M_isRun_30 rfl rfl ?_
      refine zm_iald C 32 f d_M_isRun_31 rfl hn (by decide) (by decide) (by decide) rfl (by show f < 9; omega) (by decide) ?_
      rw [h93]
      refine z_icmp_ge C 35 64 d_M_isRun_32 rfl (by decide) (fun _ => ?_) (fun h9 => absurd ((nI_leI (a := k) (b := k) (by omega) (by omega)).mpr (Nat.le_refl _)) h9)
      refine z_iload_n C 65 d_M_isRun_64 rfl rfl ?_
      rcases hb with ⟨rfl, hb⟩ | ⟨rfl, hb⟩
      · exact z_zret C rfl (rfl) d_M_isRun_65 (by rw [hpo]; exact ⟨Or.inl ⟨hb, rfl⟩, rfl, rfl⟩) (by rw [hmc]; omega) (by rw [hms]; omega)
      · exact z_zret C rfl (rfl) d_M_isRun_65 (by rw [hpo]; exact ⟨Or.inr ⟨hb, rfl⟩, rfl, rfl⟩) (by rw [hmc]; omega) (by rw [hms]; omega)
    | succ q ih =>
      intro k b hk hb
      refine z_iload_n C 26 d_M_isRun_25 rfl rfl ?_
      refine z_aload_n C 27 d_M_isRun_26 rfl rfl ?_
      refine zm_get C 30 f_M_37 d_M_isRun_27 rfl hn rfl ?_
      refine z_iload_n C 31 d_M_isRun_30 rfl rfl ?_
      refine zm_iald C 32 f d_M_isRun_31 rfl hn (by decide) (by decide) (by decide) rfl (by show f < 9; omega) (by decide) ?_
      rw [h93]
      refine z_icmp_ge C 35 64 d_M_isRun_32 rfl (by decide) (fun h9 => absurd h9 (fun w => absurd ((nI_leI (a := cn) (b := k) (by omega) (by omega)).mp w) (by omega))) (fun _ => ?_)
      refine z_iload_n C 36 d_M_isRun_35 rfl rfl ?_
      rcases hb with ⟨rfl, hb⟩ | ⟨rfl, hb⟩
      · refine z_if_eq C 39 56 d_M_isRun_36 rfl (by decide) (fun h9 => absurd h9 (show ¬ (1 : Int32) = 0 by decide)) (fun _ => ?_)
        refine z_aload_n C 40 d_M_isRun_39 rfl rfl ?_
        refine zm_get C 43 f_M_46 d_M_isRun_40 rfl hn rfl ?_
        refine z_iconst C 44 d_M_isRun_43 rfl 4 (by decide) ?_
        refine z_iload_n C 45 d_M_isRun_44 rfl rfl ?_
        refine z_imul C 46 d_M_isRun_45 rfl ?_
        refine z_iload_n C 47 d_M_isRun_46 rfl rfl ?_
        refine z_iadd C 48 d_M_isRun_47 rfl ?_
        refine zm_iald C 49 (4*f+k) d_M_isRun_48 rfl hn (by decide) (by decide) (by decide) (nI_4 f k) (by show 4 * f + k < 36; omega) (by decide) ?_
        rw [h96 k (by omega)]
        refine z_if_ne C 52 56 d_M_isRun_49 rfl (by decide) (fun w => ?_) (fun w => ?_)
        · refine z_iconst C 57 d_M_isRun_56 rfl 0 (by decide) ?_
          refine z_istore_n C 58 d_M_isRun_57 rfl (by decide) ?_
          refine z_iinc C 61 d_M_isRun_58 rfl (nI (k + 1)) rfl (z_inc k) (by decide) ?_
          refine z_goto C 25 d_M_isRun_61 (by decide) ?_
          exact ih (k + 1) 0 (by omega) (Or.inr ⟨rfl, fun h => w (h k (by omega))⟩)
        · refine z_iconst C 53 d_M_isRun_52 rfl 1 (by decide) ?_
          refine z_goto C 57 d_M_isRun_53 (by decide) ?_
          refine z_istore_n C 58 d_M_isRun_57 rfl (by decide) ?_
          refine z_iinc C 61 d_M_isRun_58 rfl (nI (k + 1)) rfl (z_inc k) (by decide) ?_
          refine z_goto C 25 d_M_isRun_61 (by decide) ?_
          refine ih (k + 1) 1 (by omega) (Or.inl ⟨rfl, fun j hj => ?_⟩)
          by_cases e : j = k
          · rw [e]; exact w
          · exact hb j (by omega)
      · refine z_if_eq C 39 56 d_M_isRun_36 rfl (by decide) (fun _ => ?_) (fun h9 => absurd (show (0 : Int32) = 0 from rfl) h9)
        refine z_iconst C 57 d_M_isRun_56 rfl 0 (by decide) ?_
        refine z_istore_n C 58 d_M_isRun_57 rfl (by decide) ?_
        refine z_iinc C 61 d_M_isRun_58 rfl (nI (k + 1)) rfl (z_inc k) (by decide) ?_
        refine z_goto C 25 d_M_isRun_61 (by decide) ?_
        exact ih (k + 1) 0 (by omega) (Or.inr ⟨rfl, hb⟩)
  refine z_iload_n C 1 d_M_isRun_0 rfl rfl ?_
  refine z_if_lt C 4 19 d_M_isRun_1 rfl (by decide) (fun h9 => absurd h9 (nI_pos (by omega))) (fun _ => ?_)
  refine z_iload_n C 5 d_M_isRun_4 rfl rfl ?_
  refine z_bipush C 7 d_M_isRun_5 rfl 7 (by decide) ?_
  refine z_icmp_gt C 10 19 d_M_isRun_7 rfl (by decide) (fun h9 => absurd h9 (fun w => absurd ((nI_ltI (a := 7) (b := f) (by omega) (by omega)).mp w) (by omega))) (fun _ => ?_)
  refine z_aload_n C 11 d_M_isRun_10 rfl rfl ?_
  refine zm_get C 14 f_M_33 d_M_isRun_11 rfl hn rfl ?_
  refine z_iload_n C 15 d_M_isRun_14 rfl rfl ?_
  refine zm_zald C 16 f d_M_isRun_15 rfl hn rfl (by show f < 9; omega) ?_
  refine z_if_ne C 19 21 d_M_isRun_16 rfl (by decide) (fun _ => ?_) (fun h9 => absurd h9 h92)
  refine z_iconst C 22 d_M_isRun_21 rfl 1 (by decide) ?_
  refine z_istore_n C 23 d_M_isRun_22 rfl (by decide) ?_
  refine z_iconst C 24 d_M_isRun_23 rfl 0 (by decide) ?_
  refine z_istore_n C 25 d_M_isRun_24 rfl (by decide) ?_
  exact loop cn 0 1 (by omega) (Or.inl ⟨rfl, fun j hj => absurd hj (by omega)⟩)
theorem c_M_run_arr {c : Int32} (hn : 113 ≤ n) (hf : f < 8) (hc : c - 65 = nI f) (h92 : ¬ A 92 f = 0) (h93 : A 93 f = nI cn) (hcn : cn ≤ 4) (h96 : ∀ k, k < cn → A 96 (4 * f + k) = Y k) (hY : ¬ ∀ k, k < cn → Y k = 0) : MetZ G l y_M_run b_M_run 5 (some .int) [] 1 0 0 [.ref 85, .int c] n (mOv S A L rn σ) (fun o n' σ' => o = .returned (some (.int 0)) ∧ n' = n ∧ σ' = mOv (upd S 0 1) A L rn σ) := by
  refine MetZ.of (by decide) (Nat.le_of_ble_eq_true rfl) (fun K hK hR hpo hmc hms C => ?_)
  refine z_iload_n C 1 d_M_run_0 rfl rfl ?_
  refine z_bipush C 3 d_M_run_1 rfl 65 (by decide) ?_
  refine z_isub C 4 d_M_run_3 rfl ?_
  refine z_istore_n C 5 d_M_run_4 rfl (by decide) ?_
  refine z_aload_n C 6 d_M_run_5 rfl rfl ?_
  refine z_aload_n C 7 d_M_run_6 rfl rfl ?_
  refine z_iload_n C 8 d_M_run_7 rfl rfl ?_
  rw [hc]
  refine z_call C 11 (c_M_isRun hn hf h92 h93 hcn h96) w_M_isRun ini_M d_M_run_8 rfl (z_goV (As := [.int (nI f)]) C l_M_281 w_M_isRun d_M_run_8 (by omega) rfl rfl rfl) (Nat.le_of_ble_eq_true rfl) (by rw [hR]; simp only [zRm]; omega) (by rw [hR]; simp only [zRm]; omega) (by rw [hR]; simp only [zRm]; omega) (by rw [hR]; simp only [zRm]; omega) (fun v n' σ' hv => ?_) (fun x n' σ' hv => ?_)
  rotate_left
  · rcases hv.1 with ⟨-, w⟩ | ⟨-, w⟩ <;> cases w
  obtain ⟨e0, e1, rfl⟩ := hv
  obtain rfl : n = n' := e1.symm
  obtain ⟨-, e0⟩ := e0.resolve_left (fun w => hY w.1)
  cases e0
  refine z_if_eq C 14 18 d_M_run_11 rfl (by decide) (fun _ => ?_) (fun h9 => absurd (show (0 : Int32) = 0 from rfl) h9)
  refine z_iconst C 19 d_M_run_18 rfl 1 (by decide) ?_
  refine zm_puti C 22 p_M_101 d_M_run_19 rfl hn (by decide) (rfl) rfl rfl ?_
  refine z_aload_n C 23 d_M_run_22 rfl rfl ?_
  refine zm_get C 26 f_M_101 d_M_run_23 rfl hn rfl ?_
  refine z_if_eq C 29 31 d_M_run_26 rfl (by decide) (fun h9 => absurd h9 (show ¬ upd S 0 1 0 = 0 by rw [upd_self]; decide)) (fun _ => ?_)
  refine z_iconst C 30 d_M_run_29 rfl 0 (by decide) ?_
  exact z_iret C rfl d_M_run_30 (by rw [hpo]; exact ⟨rfl, rfl, rfl⟩) (by rw [hmc]; omega) (by rw [hms]; omega)
theorem c_M_run {c rt : Int32} {PV : Nat → mS} {X : gX} {AR : Nat → aA} (hn : 113 ≤ n) (hf : f < 8) (hc : c - 65 = nI f) (h92 : ¬ A 92 f = 0) (h93 : A 93 f = nI cn) (hcn : cn ≤ 4) (h94 : A 94 f = rt) (h95 : ∀ k, k < cn → A 95 (4 * f + k) = V k ∧ ∃ v, v < 20 ∧ V k = nI v) (h96 : ∀ k, k < cn → A 96 (4 * f + k) = Y k) (hY : ∀ k, k < cn → Y k = 0)
    (hto : mTo A PV (.inr ([(150 * f, 0)], [], 0, gPar V (L 111) cn 0 (gE0 A L), 0, AR, (1, 0, 0, 0, 0))) X) (hX : ∀ y, X = .inl y → y.2 ≠ 0 ∧ y.2 < 2 ^ 31) (hX2 : ∀ q, X = .inr q → q.1 = [] ∧ q.2.1.length = 1 ∧ (rt ≠ 0 → ∃ a, (q.2.1.getD 0 (0, 0)).2 = nI a ∧ a < q.2.2.2.2.1)) : MetZ G l y_M_run b_M_run 5 (some .int) [] 4 0 0 [.ref 85, .int c] n (mOv S A L rn σ) (rEnd S A L rn σ n rt X) := by
  refine MetZ.of (by decide) (Nat.le_of_ble_eq_true rfl) (fun K hK hR hpo hmc hms C => ?_)
  subst hK
  have hout : ∀ S' : mS, mBs (rS0 S) A L S' A L → ∀ j, j ≠ 0 → j ≠ 19 → ¬ (32 ≤ j ∧ j ≤ 44) → j ≠ 46 → j ≠ 48 → j ≠ 49 → S' j = S j := fun S' hb j a1 a2 a3 a4 a5 a6 => by
    rw [hb.1 j a2 a3]
    unfold rS0
    rw [upd_ne (by omega), upd_ne (by omega), upd_ne (by omega), upd_ne (by omega), upd_ne (by omega), upd_ne (by omega), upd_ne (by omega), upd_ne (by omega), upd_ne (by omega), upd_ne (by omega), upd_ne a4, upd_ne a1]
  have F : ∀ y, X = .inl y → ∀ (S' : mS) (A' : mA) (L' : mL) (z : Int32), mFa (rS0 S) A L y S' A' L' → Z G K n (mOv S' A' L' rn σ) 0 0 134 [(3, .int z), (2, .int (nI f)), (0, .ref 85), (1, .int c)] [] := fun y hy S' A' L' z hm => by
    obtain ⟨m1, m2, m3⟩ := hm
    obtain ⟨y1, y2⟩ := hX y hy
    have hne : ¬ S' 44 = 0 := by rw [m2]; exact nI_ne0 (by omega) y2
    have rest : Z G K n (mOv S' A' L' rn σ) 0 0 155 [(3, .int z), (2, .int (nI f)), (0, .ref 85), (1, .int c)] [] := by
      refine z_aload_n C 156 d_M_run_155 rfl rfl ?_
      refine z_aload_n C 157 d_M_run_156 rfl rfl ?_
      refine zm_get C 160 f_M_222 d_M_run_157 rfl hn rfl ?_
      refine zm_puti C 163 p_M_101 d_M_run_160 rfl hn (by decide) (rfl) rfl rfl ?_
      refine z_aload_n C 164 d_M_run_163 rfl rfl ?_
      refine zm_get C 167 f_M_222 d_M_run_164 rfl hn rfl ?_
      refine z_if_eq C 170 172 d_M_run_167 rfl (by decide) (fun h9 => absurd h9 (show ¬ upd S' 0 (S' 44) 44 = 0 from hne)) (fun _ => ?_)
      refine z_iconst C 171 d_M_run_170 rfl 0 (by decide) ?_
      exact z_iret C rfl d_M_run_171 (by rw [hpo]; exact ⟨rfl, upd S' 0 (S' 44), A', L', rn, rfl, fun j a1 a2 a3 a4 a5 a6 => (upd_ne a1).trans (hout S' ⟨m3.1, fun _ _ => rfl, rfl⟩ j a1 a2 a3 a4 a5 a6), m3.2.1, m3.2.2, by rw [hy]; exact ⟨rfl, m2, (m3.1 46 (by decide) (by decide)), m1⟩⟩) (by rw [hmc]; omega) (by rw [hms]; omega)
    refine z_aload_n C 135 d_M_run_134 rfl rfl ?_
    refine zm_get C 138 f_M_129 d_M_run_135 rfl hn rfl ?_
    refine z_if_le C 141 155 d_M_run_138 rfl (by decide) (fun w => ?_) (fun w => ?_)
    · exact rest
    · refine z_aload_n C 142 d_M_run_141 rfl rfl ?_
      refine zm_get C 145 f_M_222 d_M_run_142 rfl hn rfl ?_
      refine z_if_ne C 148 155 d_M_run_145 rfl (by decide) (fun _ => ?_) (fun h9 => absurd h9 hne)
      exact rest
  have fin : ∀ q, X = .inr q → ∀ (S' : mS) (A' : mA) (L' : mL) (z : Int32), mQ (rS0 S) A L q S' A' L' → Z G K n (mOv S' A' L' rn σ) 0 0 134 [(3, .int z), (2, .int (nI f)), (0, .ref 85), (1, .int c)] [] := fun q hq S' A' L' z hm => by
    obtain ⟨q1, q2, q3⟩ := hX2 q hq
    obtain ⟨⟨s1, s2, s3, s4, s5⟩, ⟨k1, k2, k3, k4⟩, hct, hp, hv, he, ha, hb⟩ := hm
    rw [q1] at s1
    have b94 : A' 94 f = rt := by rw [hb.2.1 94 (by decide)]; exact h94
    obtain ⟨x, hx⟩ : ∃ x, q.2.1 = [x] := by
      match hv2 : q.2.1, q2 with
      | [x], _ => exact ⟨x, rfl⟩
    rw [hx] at hv q3
    have v1 : L' 109 0 = x.1 := hv.1
    have v2 : A' 110 0 = x.2 := hv.2.1
    refine z_aload_n C 135 d_M_run_134 rfl rfl ?_
    refine zm_get C 138 f_M_129 d_M_run_135 rfl hn rfl ?_
    rw [s1]
    refine z_if_le C 141 155 d_M_run_138 rfl (by decide) (fun _ => ?_) (fun h9 => absurd (show nI 0 ≤ 0 by decide) h9)
    refine z_aload_n C 156 d_M_run_155 rfl rfl ?_
    refine z_aload_n C 157 d_M_run_156 rfl rfl ?_
    refine zm_get C 160 f_M_222 d_M_run_157 rfl hn rfl ?_
    refine zm_puti C 163 p_M_101 d_M_run_160 rfl hn (by decide) (rfl) rfl rfl ?_
    refine z_aload_n C 164 d_M_run_163 rfl rfl ?_
    refine zm_get C 167 f_M_222 d_M_run_164 rfl hn rfl ?_
    refine z_if_eq C 170 172 d_M_run_167 rfl (by decide) (fun _ => ?_) (fun h9 => absurd (show upd S' 0 (S' 44) 44 = 0 from s5) h9)
    refine z_aload_n C 173 d_M_run_172 rfl rfl ?_
    refine z_aload_n C 174 d_M_run_173 rfl rfl ?_
    refine zm_get C 177 f_M_40 d_M_run_174 rfl hn rfl ?_
    refine z_iload_n C 178 d_M_run_177 rfl rfl ?_
    refine zm_iald C 179 f d_M_run_178 rfl hn (by decide) (by decide) (by decide) rfl (by show f < 9; omega) (by decide) ?_
    rw [b94]
    refine zm_puti C 182 p_M_95 d_M_run_179 rfl hn (by decide) (rfl) rfl rfl ?_
    refine z_aload_n C 183 d_M_run_182 rfl rfl ?_
    refine z_aload_n C 184 d_M_run_183 rfl rfl ?_
    refine zm_get C 187 f_M_86 d_M_run_184 rfl hn rfl ?_
    refine z_iconst C 188 d_M_run_187 rfl 0 (by decide) ?_
    refine zm_lald C 189 0 d_M_run_188 rfl hn (by decide) (by decide) (by decide) rfl (by show (0 : Nat) < 400; omega) (by decide) ?_
    rw [v1]
    refine zm_putl C 192 p_M_287 d_M_run_189 rfl hn ?_
    refine z_aload_n C 193 d_M_run_192 rfl rfl ?_
    refine zm_get C 196 f_M_95 d_M_run_193 rfl hn rfl ?_
    have base : ∀ (S2 : mS), (∀ j, j ≠ 0 → j ≠ 46 → j ≠ 48 → j ≠ 49 → S2 j = S' j) → (∀ j, j ≠ 0 → j ≠ 19 → ¬ (32 ≤ j ∧ j ≤ 44) → j ≠ 46 → j ≠ 48 → j ≠ 49 → S2 j = S j) := fun S2 h2 j a1 a2 a3 a4 a5 a6 => (h2 j a1 a4 a5 a6).trans (hout S' ⟨hb.1, fun _ _ => rfl, rfl⟩ j a1 a2 a3 a4 a5 a6)
    by_cases qr : rt = 0
    · refine z_if_ne C 199 201 d_M_run_196 rfl (by decide) (fun h9 => absurd (show upd (upd S' 0 (S' 44)) 46 rt 46 = 0 by rw [upd_self]; exact qr) h9) (fun _ => ?_)
      refine z_iconst C 200 d_M_run_199 rfl 0 (by decide) ?_
      exact z_iret C rfl d_M_run_200 (by rw [hpo]; exact ⟨rfl, upd (upd S' 0 (S' 44)) 46 rt, A', L', x.1, rfl, base _ (fun j a1 a4 a5 a6 => (upd_ne a4).trans (upd_ne a1)), hb.2.1, hb.2.2, by rw [hq]; exact ⟨by rw [qr], s5, rfl, hct, by rw [hx]; rfl, fun w => absurd qr w⟩⟩) (by rw [hmc]; omega) (by rw [hms]; omega)
    · obtain ⟨a, ea, ham⟩ := q3 qr
      have ea : x.2 = nI a := ea
      obtain ⟨g1, g2, g3, g4, g5, g6⟩ := ha a ham
      have ham2 : a < 402 := by omega
      obtain ⟨r, hr⟩ : ∃ r, (q.2.2.2.2.2.1 a).1 = r := ⟨_, rfl⟩
      obtain ⟨cc, hcc⟩ : ∃ r, (q.2.2.2.2.2.1 a).2.1 = r := ⟨_, rfl⟩
      rw [hr] at g1 g3 g5 g6
      rw [hcc] at g2 g4 g5 g6
      refine z_if_ne C 199 201 d_M_run_196 rfl (by decide) (fun _ => ?_) (fun h9 => absurd h9 (show ¬ upd (upd S' 0 (S' 44)) 46 rt 46 = 0 by rw [upd_self]; exact qr))
      refine z_aload_n C 202 d_M_run_201 rfl rfl ?_
      refine zm_get C 205 f_M_89 d_M_run_202 rfl hn rfl ?_
      refine z_iconst C 206 d_M_run_205 rfl 0 (by decide) ?_
      refine zm_iald C 207 0 d_M_run_206 rfl hn (by decide) (by decide) (by decide) rfl (by show (0 : Nat) < 400; omega) (by decide) ?_
      rw [v2, ea]
      refine z_istore_n C 208 d_M_run_207 rfl (by decide) ?_
      refine z_aload_n C 209 d_M_run_208 rfl rfl ?_
      refine z_aload_n C 210 d_M_run_209 rfl rfl ?_
      refine zm_get C 213 f_M_74 d_M_run_210 rfl hn rfl ?_
      refine z_iload_n C 214 d_M_run_213 rfl rfl ?_
      refine zm_iald C 215 a d_M_run_214 rfl hn (by decide) (by decide) (by decide) rfl (by show a < 402; omega) (by decide) ?_
      rw [g1]
      refine zm_puti C 218 p_M_291 d_M_run_215 rfl hn (by decide) (rfl) rfl rfl ?_
      refine z_aload_n C 219 d_M_run_218 rfl rfl ?_
      refine z_aload_n C 220 d_M_run_219 rfl rfl ?_
      refine zm_get C 223 f_M_77 d_M_run_220 rfl hn rfl ?_
      refine z_iload_n C 224 d_M_run_223 rfl rfl ?_
      refine zm_iald C 225 a d_M_run_224 rfl hn (by decide) (by decide) (by decide) rfl (by show a < 402; omega) (by decide) ?_
      rw [g2]
      refine zm_puti C 228 p_M_294 d_M_run_225 rfl hn (by decide) (rfl) rfl rfl ?_
      refine z_iconst C 229 d_M_run_228 rfl 0 (by decide) ?_
      refine z_istore C 231 d_M_run_229 rfl (by decide) ?_
      have loop : ∀ p j, p + j = r * cc → ∀ L2 : mL, (∀ a, a ≠ 112 → L2 a = L' a) → (∀ i, i < j → L2 112 i = (q.2.2.2.2.2.1 a).2.2 i) → Z G K n (mOv (upd (upd (upd (upd S' 0 (S' 44)) 46 rt) 48 (nI r)) 49 (nI cc)) A' L2 x.1 σ) 0 0 231 [(4, .int (nI j)), (3, .int (nI a)), (2, .int (nI f)), (0, .ref 85), (1, .int c)] [] := fun p => by
        induction p with
        | zero =>
          intro j hj L2 hL2 hd
          obtain rfl : j = r * cc := by omega
          refine z_iload C 233 d_M_run_231 rfl rfl ?_
          refine z_aload_n C 234 d_M_run_233 rfl rfl ?_
          refine zm_get C 237 f_M_74 d_M_run_234 rfl hn rfl ?_
          refine z_iload_n C 238 d_M_run_237 rfl rfl ?_
          refine zm_iald C 239 a d_M_run_238 rfl hn (by decide) (by decide) (by decide) rfl (by show a < 402; omega) (by decide) ?_
          rw [g1]
          refine z_aload_n C 240 d_M_run_239 rfl rfl ?_
          refine zm_get C 243 f_M_77 d_M_run_240 rfl hn rfl ?_
          refine z_iload_n C 244 d_M_run_243 rfl rfl ?_
          refine zm_iald C 245 a d_M_run_244 rfl hn (by decide) (by decide) (by decide) rfl (by show a < 402; omega) (by decide) ?_
          rw [g2]
          refine z_imul C 246 d_M_run_245 rfl ?_
          rw [nI_mul]
          refine z_icmp_ge C 249 274 d_M_run_246 rfl (by decide) (fun _ => ?_) (fun h9 => absurd ((nI_leI (a := r * cc) (b := r * cc) (by omega) (by omega)).mpr (Nat.le_refl _)) h9)
          refine z_aload_n C 275 d_M_run_274 rfl rfl ?_
          refine zm_get C 278 f_M_95 d_M_run_275 rfl hn rfl ?_
          exact z_iret C rfl d_M_run_278 (by rw [hpo]; exact ⟨rfl, upd (upd (upd (upd S' 0 (S' 44)) 46 rt) 48 (nI r)) 49 (nI cc), A', L2, x.1, rfl, base _ (fun j a1 a4 a5 a6 => (upd_ne a6).trans ((upd_ne a5).trans ((upd_ne a4).trans (upd_ne a1)))), hb.2.1, (hL2 111 (by decide)).trans hb.2.2, by rw [hq]; exact ⟨rfl, s5, rfl, hct, by rw [hx]; rfl, fun _ => ⟨a, by rw [hx]; exact ea, ham, by rw [hr]; rfl, by rw [hcc]; rfl, fun i hi => hd i (by rw [hr, hcc] at hi; exact hi)⟩⟩⟩) (by rw [hmc]; omega) (by rw [hms]; omega)
        | succ p ih =>
          intro j hj L2 hL2 hd
          refine z_iload C 233 d_M_run_231 rfl rfl ?_
          refine z_aload_n C 234 d_M_run_233 rfl rfl ?_
          refine zm_get C 237 f_M_74 d_M_run_234 rfl hn rfl ?_
          refine z_iload_n C 238 d_M_run_237 rfl rfl ?_
          refine zm_iald C 239 a d_M_run_238 rfl hn (by decide) (by decide) (by decide) rfl (by show a < 402; omega) (by decide) ?_
          rw [g1]
          refine z_aload_n C 240 d_M_run_239 rfl rfl ?_
          refine zm_get C 243 f_M_77 d_M_run_240 rfl hn rfl ?_
          refine z_iload_n C 244 d_M_run_243 rfl rfl ?_
          refine zm_iald C 245 a d_M_run_244 rfl hn (by decide) (by decide) (by decide) rfl (by show a < 402; omega) (by decide) ?_
          rw [g2]
          refine z_imul C 246 d_M_run_245 rfl ?_
          rw [nI_mul]
          refine z_icmp_ge C 249 274 d_M_run_246 rfl (by decide) (fun h9 => absurd h9 (fun w => absurd ((nI_leI (a := r * cc) (b := j) (by omega) (by omega)).mp w) (by omega))) (fun _ => ?_)
          refine z_aload_n C 250 d_M_run_249 rfl rfl ?_
          refine zm_get C 253 f_M_98 d_M_run_250 rfl hn rfl ?_
          refine z_iload C 255 d_M_run_253 rfl rfl ?_
          refine z_aload_n C 256 d_M_run_255 rfl rfl ?_
          refine zm_get C 259 f_M_70 d_M_run_256 rfl hn rfl ?_
          refine z_bipush C 261 d_M_run_259 rfl 40 (by decide) ?_
          refine z_iload_n C 262 d_M_run_261 rfl rfl ?_
          refine z_imul C 263 d_M_run_262 rfl ?_
          refine z_iload C 265 d_M_run_263 rfl rfl ?_
          refine z_iadd C 266 d_M_run_265 rfl ?_
          refine zm_lald C 267 (40 * a + j) d_M_run_266 rfl hn (by decide) (by decide) (by decide) (nI_40 a j) (by show 40 * a + j < 16080; omega) (by decide) ?_
          rw [show L2 104 (40 * a + j) = (q.2.2.2.2.2.1 a).2.2 j by rw [hL2 104 (by decide)]; exact g6 j (by omega)]
          refine zm_last C 268 j d_M_run_267 rfl hn (by decide) (by decide) (by decide) rfl (by show j < 40; omega) (by decide) ?_
          refine z_iinc C 271 d_M_run_268 rfl (nI (j + 1)) rfl (z_inc j) (by decide) ?_
          refine z_goto C 231 d_M_run_271 (by decide) ?_
          refine ih (j + 1) (by omega) _ (fun b hb2 => (va_up_ne _ _ hb2).trans (hL2 b hb2)) (fun i hi => ?_)
          rw [va_up_self]
          show (if _ then _ else _) = _
          by_cases w : i = j
          · rw [if_pos w, w]
          · rw [if_neg w]
            exact hd i (by omega)
      exact loop (r * cc) 0 (by omega) L' (fun _ _ => rfl) (fun i hi => absurd hi (by omega))
  have W := hto (fun q => ∀ (S' : mS) (A' : mA) (L' : mL) (z : Int32), mQ (rS0 S) A L q S' A' L' → Z G K n (mOv S' A' L' rn σ) 0 0 134 [(3, .int z), (2, .int (nI f)), (0, .ref 85), (1, .int c)] []) (fun y => ∀ (S' : mS) (A' : mA) (L' : mL) (z : Int32), mFa (rS0 S) A L y S' A' L' → Z G K n (mOv S' A' L' rn σ) 0 0 134 [(3, .int z), (2, .int (nI f)), (0, .ref 85), (1, .int c)] []) (fun q z hst hk S' A' L' zz hm => by
      obtain ⟨bs, i, e, kk, pl, e1, hpl, hN, hcal, hkk, hres⟩ := hst
      obtain ⟨pl0, vs, dp, EV, m, AR', k⟩ := q
      have e1 : pl0 = (bs + i, kk) :: pl := e1
      subst e1
      have hm0 := hm
      obtain ⟨s1, s2, s3, s4, s5⟩ := hm.1
      have s1 : S' 19 = nI (pl.length + 1) := s1
      refine z_aload_n C 135 d_M_run_134 rfl rfl ?_
      refine zm_get C 138 f_M_129 d_M_run_135 rfl hn rfl ?_
      rw [s1]
      refine z_if_le C 141 155 d_M_run_138 rfl (by decide) (fun h9 => absurd h9 (nI_nle (by omega) (by omega))) (fun _ => ?_)
      refine z_aload_n C 142 d_M_run_141 rfl rfl ?_
      refine zm_get C 145 f_M_222 d_M_run_142 rfl hn rfl ?_
      refine z_if_ne C 148 155 d_M_run_145 rfl (by decide) (fun h9 => absurd s5 h9) (fun _ => ?_)
      refine z_aload_n C 149 d_M_run_148 rfl rfl ?_
      refine z_call C 152 (c_M_goOn hn hm0 hpl hN hcal hkk hres) w_M_goOn ini_M d_M_run_149 rfl (z_goV (As := []) C l_M_284 w_M_goOn d_M_run_149 (by omega) rfl rfl rfl) (Nat.le_of_ble_eq_true rfl) (by rw [hR]; simp only [zRm]; omega) (by rw [hR]; simp only [zRm]; omega) (by rw [hR]; simp only [zRm]; omega) (by rw [hR]; simp only [zRm]; omega) (fun v n' σ' hv => ?_) (fun x n' σ' hv => ?_)
      rotate_left
      · cases hv.1
      obtain ⟨e0, e1, S2, A2, L2, rfl, hx⟩ := hv
      cases e0
      obtain rfl : n = n' := e1.symm
      refine z_goto C 134 d_M_run_152 (by decide) ?_
      match z, hk, hx with
      | .inl y, hk, hx => exact hk S2 A2 L2 zz hx
      | .inr y, hk, hx => exact hk S2 A2 L2 zz hx) (by
      match X, F, fin with
      | .inl y, F, fin => exact F y rfl
      | .inr q, F, fin => exact fin q rfl)
  have W : ∀ (S' : mS) (A' : mA) (L' : mL) (z : Int32), mQ (rS0 S) A L _ S' A' L' → Z G K n (mOv S' A' L' rn σ) 0 0 134 [(3, .int z), (2, .int (nI f)), (0, .ref 85), (1, .int c)] [] := W
  have par : ∀ p j, p + j = cn → ∀ (EV : gE) (L2 : mL), mQ (rS0 S) A L ([], [], 0, EV, 0, AR, (0, 0, 0, 0, 0)) (rS0 S) A L2 → gPar V (L 111) p j EV = gPar V (L 111) cn 0 (gE0 A L) → Z G K n (mOv (rS0 S) A L2 rn σ) 0 0 88 [(3, .int (nI j)), (2, .int (nI f)), (0, .ref 85), (1, .int c)] [] := fun p => by
    induction p with
    | zero =>
      intro j hj EV L2 hm hg
      obtain rfl : j = cn := by omega
      refine z_iload_n C 89 d_M_run_88 rfl rfl ?_
      refine z_aload_n C 90 d_M_run_89 rfl rfl ?_
      refine zm_get C 93 f_M_37 d_M_run_90 rfl hn rfl ?_
      refine z_iload_n C 94 d_M_run_93 rfl rfl ?_
      refine zm_iald C 95 f d_M_run_94 rfl hn (by decide) (by decide) (by decide) rfl (by show f < 9; omega) (by decide) ?_
      rw [h93]
      refine z_icmp_ge C 98 125 d_M_run_95 rfl (by decide) (fun _ => ?_) (fun h9 => absurd ((nI_leI (a := j) (b := j) (by omega) (by omega)).mpr (Nat.le_refl _)) h9)
      refine z_aload_n C 126 d_M_run_125 rfl rfl ?_
      refine z_sipush C 129 d_M_run_126 rfl 150 (by decide) ?_
      refine z_iload_n C 130 d_M_run_129 rfl rfl ?_
      refine z_imul C 131 d_M_run_130 rfl ?_
      rw [show (150 : Int32) * nI f = nI (150 * f) from nI_mul 150 f]
      refine z_call C 134 (c_M_startQ hn hm (show 0 < 80 by decide)) w_M_start ini_M d_M_run_131 rfl (z_goV (As := [.int (nI (150 * f))]) C l_M_259 w_M_start d_M_run_131 (by omega) rfl rfl rfl) (Nat.le_of_ble_eq_true rfl) (by rw [hR]; simp only [zRm]; omega) (by rw [hR]; simp only [zRm]; omega) (by rw [hR]; simp only [zRm]; omega) (by rw [hR]; simp only [zRm]; omega) (fun v n' σ' hv => ?_) (fun x n' σ' hv => ?_)
      rotate_left
      · cases hv.1
      obtain ⟨e0, e1, S2, A2, L3, rfl, hx⟩ := hv
      cases e0
      obtain rfl : n = n' := e1.symm
      refine W S2 A2 L3 _ ?_
      rw [← hg]
      exact hx
    | succ p ih =>
      intro j hj EV L2 hm hg
      obtain ⟨h5, v, hv20, ev⟩ := h95 j (by omega)
      have hxj : cIx (V j) = v := by rw [ev]; exact nI_clamp (by omega)
      refine z_iload_n C 89 d_M_run_88 rfl rfl ?_
      refine z_aload_n C 90 d_M_run_89 rfl rfl ?_
      refine zm_get C 93 f_M_37 d_M_run_90 rfl hn rfl ?_
      refine z_iload_n C 94 d_M_run_93 rfl rfl ?_
      refine zm_iald C 95 f d_M_run_94 rfl hn (by decide) (by decide) (by decide) rfl (by show f < 9; omega) (by decide) ?_
      rw [h93]
      refine z_icmp_ge C 98 125 d_M_run_95 rfl (by decide) (fun h9 => absurd h9 (fun w => absurd ((nI_leI (a := cn) (b := j) (by omega) (by omega)).mp w) (by omega))) (fun _ => ?_)
      refine z_aload_n C 99 d_M_run_98 rfl rfl ?_
      refine zm_get C 102 f_M_80 d_M_run_99 rfl hn rfl ?_
      refine z_aload_n C 103 d_M_run_102 rfl rfl ?_
      refine zm_get C 106 f_M_43 d_M_run_103 rfl hn rfl ?_
      refine z_iconst C 107 d_M_run_106 rfl 4 (by decide) ?_
      refine z_iload_n C 108 d_M_run_107 rfl rfl ?_
      refine z_imul C 109 d_M_run_108 rfl ?_
      refine z_iload_n C 110 d_M_run_109 rfl rfl ?_
      refine z_iadd C 111 d_M_run_110 rfl ?_
      refine zm_iald C 112 (4*f+j) d_M_run_111 rfl hn (by decide) (by decide) (by decide) (nI_4 f j) (by show 4 * f + j < 36; omega) (by decide) ?_
      rw [h5, ev]
      refine z_aload_n C 113 d_M_run_112 rfl rfl ?_
      refine zm_get C 116 f_M_92 d_M_run_113 rfl hn rfl ?_
      refine z_iload_n C 117 d_M_run_116 rfl rfl ?_
      refine zm_lald C 118 j d_M_run_117 rfl hn (by decide) (by decide) (by decide) rfl (by show j < 4; omega) (by decide) ?_
      rw [show L2 111 j = L 111 j by rw [hm.2.2.2.2.2.2.2.2.2]]
      refine zm_last C 119 v d_M_run_118 rfl hn (by decide) (by decide) (by decide) rfl (by show v < 160; omega) (by decide) ?_
      refine z_iinc C 122 d_M_run_119 rfl (nI (j + 1)) rfl (z_inc j) (by decide) ?_
      refine z_goto C 88 d_M_run_122 (by decide) ?_
      refine ih (j + 1) (by omega) (gHold EV 0 v (L 111 j, (EV 0 v).2)) _ ?_ ?_
      · obtain ⟨m1, m2, m3, m4, m5, m6, m7, m8⟩ := hm
        refine ⟨m1, m2, m3, m4, m5, fun e he w hw => ?_, m7.uL (by decide), m8.uL (by decide)⟩
        rw [va_up_self]
        have q := m6 e he w hw
        have q : L2 107 (20 * e + w) = (EV e w).1 ∧ A 108 (20 * e + w) = (EV e w).2 := q
        show (if _ then _ else _) = (gHold EV 0 v (L 111 j, (EV 0 v).2) e w).1 ∧ A 108 (20 * e + w) = (gHold EV 0 v (L 111 j, (EV 0 v).2) e w).2
        unfold gHold
        by_cases w2 : e = 0 ∧ w = v
        · obtain ⟨rfl, rfl⟩ := w2
          rw [if_pos (by omega), if_pos ⟨rfl, rfl⟩]
          exact ⟨rfl, q.2⟩
        · rw [if_neg (by omega), if_neg w2]
          exact q
      · rw [← hg]
        show _ = gPar V (L 111) p (j + 1) (gHold EV 0 (cIx (V j)) _)
        rw [hxj]
  refine z_iload_n C 1 d_M_run_0 rfl rfl ?_
  refine z_bipush C 3 d_M_run_1 rfl 65 (by decide) ?_
  refine z_isub C 4 d_M_run_3 rfl ?_
  refine z_istore_n C 5 d_M_run_4 rfl (by decide) ?_
  refine z_aload_n C 6 d_M_run_5 rfl rfl ?_
  refine z_aload_n C 7 d_M_run_6 rfl rfl ?_
  refine z_iload_n C 8 d_M_run_7 rfl rfl ?_
  rw [hc]
  refine z_call C 11 (c_M_isRun hn hf h92 h93 hcn h96) w_M_isRun ini_M d_M_run_8 rfl (z_goV (As := [.int (nI f)]) C l_M_281 w_M_isRun d_M_run_8 (by omega) rfl rfl rfl) (Nat.le_of_ble_eq_true rfl) (by rw [hR]; simp only [zRm]; omega) (by rw [hR]; simp only [zRm]; omega) (by rw [hR]; simp only [zRm]; omega) (by rw [hR]; simp only [zRm]; omega) (fun v n' σ' hv => ?_) (fun x n' σ' hv => ?_)
  rotate_left
  · rcases hv.1 with ⟨-, w⟩ | ⟨-, w⟩ <;> cases w
  obtain ⟨e0, e1, rfl⟩ := hv
  obtain rfl : n = n' := e1.symm
  obtain ⟨-, e0⟩ := e0.resolve_right (fun w => w.1 hY)
  cases e0
  refine z_if_eq C 14 18 d_M_run_11 rfl (by decide) (fun h9 => absurd h9 (show ¬ (1 : Int32) = 0 by decide)) (fun _ => ?_)
  refine z_iconst C 15 d_M_run_14 rfl 0 (by decide) ?_
  refine z_goto C 19 d_M_run_15 (by decide) ?_
  refine zm_puti C 22 p_M_101 d_M_run_19 rfl hn (by decide) (rfl) rfl rfl ?_
  refine z_aload_n C 23 d_M_run_22 rfl rfl ?_
  refine zm_get C 26 f_M_101 d_M_run_23 rfl hn rfl ?_
  refine z_if_eq C 29 31 d_M_run_26 rfl (by decide) (fun _ => ?_) (fun h9 => absurd (show upd S 0 0 0 = 0 from upd_self) h9)
  refine z_aload_n C 32 d_M_run_31 rfl rfl ?_
  refine z_iconst C 33 d_M_run_32 rfl (-1) (by decide) ?_
  refine zm_puti C 36 p_M_95 d_M_run_33 rfl hn (by decide) (rfl) rfl rfl ?_
  refine z_aload_n C 37 d_M_run_36 rfl rfl ?_
  refine z_iconst C 38 d_M_run_37 rfl 0 (by decide) ?_
  refine zm_puti C 41 p_M_228 d_M_run_38 rfl hn (by decide) (rfl) rfl rfl ?_
  refine z_aload_n C 42 d_M_run_41 rfl rfl ?_
  refine z_iconst C 43 d_M_run_42 rfl 0 (by decide) ?_
  refine zm_puti C 46 p_M_250 d_M_run_43 rfl hn (by decide) (rfl) rfl rfl ?_
  refine z_aload_n C 47 d_M_run_46 rfl rfl ?_
  refine z_iconst C 48 d_M_run_47 rfl 0 (by decide) ?_
  refine zm_puti C 51 p_M_225 d_M_run_48 rfl hn (by decide) (rfl) rfl rfl ?_
  refine z_aload_n C 52 d_M_run_51 rfl rfl ?_
  refine z_iconst C 53 d_M_run_52 rfl 0 (by decide) ?_
  refine zm_puti C 56 p_M_129 d_M_run_53 rfl hn (by decide) (rfl) rfl rfl ?_
  refine z_aload_n C 57 d_M_run_56 rfl rfl ?_
  refine z_iconst C 58 d_M_run_57 rfl 0 (by decide) ?_
  refine zm_puti C 61 p_M_219 d_M_run_58 rfl hn (by decide) (rfl) rfl rfl ?_
  refine z_aload_n C 62 d_M_run_61 rfl rfl ?_
  refine z_iconst C 63 d_M_run_62 rfl 0 (by decide) ?_
  refine zm_puti C 66 p_M_236 d_M_run_63 rfl hn (by decide) (rfl) rfl rfl ?_
  refine z_aload_n C 67 d_M_run_66 rfl rfl ?_
  refine z_iconst C 68 d_M_run_67 rfl 0 (by decide) ?_
  refine zm_puti C 71 p_M_233 d_M_run_68 rfl hn (by decide) (rfl) rfl rfl ?_
  refine z_aload_n C 72 d_M_run_71 rfl rfl ?_
  refine z_iconst C 73 d_M_run_72 rfl 0 (by decide) ?_
  refine zm_puti C 76 p_M_239 d_M_run_73 rfl hn (by decide) (rfl) rfl rfl ?_
  refine z_aload_n C 77 d_M_run_76 rfl rfl ?_
  refine z_iconst C 78 d_M_run_77 rfl 0 (by decide) ?_
  refine zm_puti C 81 p_M_253 d_M_run_78 rfl hn (by decide) (rfl) rfl rfl ?_
  refine z_aload_n C 82 d_M_run_81 rfl rfl ?_
  refine z_iconst C 83 d_M_run_82 rfl 0 (by decide) ?_
  refine zm_puti C 86 p_M_222 d_M_run_83 rfl hn (by decide) (rfl) rfl rfl ?_
  refine z_iconst C 87 d_M_run_86 rfl 0 (by decide) ?_
  refine z_istore_n C 88 d_M_run_87 rfl (by decide) ?_
  refine par cn 0 (by omega) (gE0 A L) L ⟨⟨rfl, rfl, rfl, rfl, rfl⟩, ⟨Nat.zero_le 7, Nat.le_refl 0, Nat.le_refl 0, Nat.zero_le 400⟩, ⟨rfl, rfl, rfl, rfl, rfl⟩, trivial, trivial, fun e _ v _ => ⟨rfl, rfl⟩, fun a ha => absurd ha (Nat.not_lt_zero a), ⟨fun _ _ _ => rfl, fun _ _ => rfl, rfl⟩⟩ rfl
end MRW
