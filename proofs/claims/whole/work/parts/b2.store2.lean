theorem d_O_copy_0 : decode b_O_copy 0 = .ok (.aload_n 0, 1) := by decide +kernel
theorem d_O_copy_1 : decode b_O_copy 1 = .ok (.aload_n 0, 1) := by decide +kernel
theorem d_O_copy_2 : decode b_O_copy 2 = .ok (.getfield 9, 3) := by decide +kernel
theorem d_O_copy_5 : decode b_O_copy 5 = .ok (.iload_n 1, 1) := by decide +kernel
theorem d_O_copy_6 : decode b_O_copy 6 = .ok (.iaload, 1) := by decide +kernel
theorem d_O_copy_7 : decode b_O_copy 7 = .ok (.i2l, 1) := by decide +kernel
theorem d_O_copy_8 : decode b_O_copy 8 = .ok (.aload_n 0, 1) := by decide +kernel
theorem d_O_copy_9 : decode b_O_copy 9 = .ok (.getfield 15, 3) := by decide +kernel
theorem d_O_copy_12 : decode b_O_copy 12 = .ok (.iload_n 1, 1) := by decide +kernel
theorem d_O_copy_13 : decode b_O_copy 13 = .ok (.iaload, 1) := by decide +kernel
theorem d_O_copy_14 : decode b_O_copy 14 = .ok (.i2l, 1) := by decide +kernel
theorem d_O_copy_15 : decode b_O_copy 15 = .ok (.invokevirtual 69, 3) := by decide +kernel
theorem d_O_copy_18 : decode b_O_copy 18 = .ok (.istore_n 2, 1) := by decide +kernel
theorem d_O_copy_19 : decode b_O_copy 19 = .ok (.aload_n 0, 1) := by decide +kernel
theorem d_O_copy_20 : decode b_O_copy 20 = .ok (.getfield 27, 3) := by decide +kernel
theorem d_O_copy_23 : decode b_O_copy 23 = .ok (.iload_n 1, 1) := by decide +kernel
theorem d_O_copy_24 : decode b_O_copy 24 = .ok (.aaload, 1) := by decide +kernel
theorem d_O_copy_25 : decode b_O_copy 25 = .ok (.iconst 0, 1) := by decide +kernel
theorem d_O_copy_26 : decode b_O_copy 26 = .ok (.aload_n 0, 1) := by decide +kernel
theorem d_O_copy_27 : decode b_O_copy 27 = .ok (.getfield 27, 3) := by decide +kernel
theorem d_O_copy_30 : decode b_O_copy 30 = .ok (.iload_n 2, 1) := by decide +kernel
theorem d_O_copy_31 : decode b_O_copy 31 = .ok (.aaload, 1) := by decide +kernel
theorem d_O_copy_32 : decode b_O_copy 32 = .ok (.iconst 0, 1) := by decide +kernel
theorem d_O_copy_33 : decode b_O_copy 33 = .ok (.bipush 40, 2) := by decide +kernel
theorem d_O_copy_35 : decode b_O_copy 35 = .ok (.invokestatic 73, 3) := by decide +kernel
theorem d_O_copy_38 : decode b_O_copy 38 = .ok (.iload_n 2, 1) := by decide +kernel
theorem d_O_copy_39 : decode b_O_copy 39 = .ok (.ireturn, 1) := by decide +kernel
theorem kl_O_44 : Cond.constantLong "SoleArrays$Store" 44 40 ∈ zTb := zt4 4 (by decide +kernel) rfl
section ST2
variable {G : zG} {l : Launch} {n : Nat} {σ : zS} {xs : mS} {xr : Int64} {xa : mA} {xl : mL} {xf : xF}
theorem c_O_indexOf2 (hn : 85 ≤ n) (hn2 : n < 1000000) {a : Nat} (ha : a < 8) (i j : Int64) {mc ms : Nat} (hm : ¬ xhas xa a i j → 1 ≤ mc ∧ 6 ≤ ms) : MetZ G l y_O_indexOf b_O_indexOf 6 (some .int) [] 6 mc ms [.ref 6, .int (nI a), .long i, .long j] n (xOv xs xr xa xl xf σ) (fun o n' σ' => (xhas xa a i j ∧ o = .returned (some (.int (i * (xa 8 a).toInt64 + j).toInt32)) ∧ n' = n ∧ σ' = xOv xs xr xa xl xf σ) ∨ (¬ xhas xa a i j ∧ o = .threw n ∧ n' = n + 1 ∧ σ' = xOv xs xr xa xl xf (va_up σ n (.inr (11, []))))) := by
  refine MetZ.of (by decide) (Nat.le_of_ble_eq_true rfl) (fun K hK hR hpo hmc hms C => ?_)
  refine z_aload_n C 1 d_O_indexOf_0 rfl rfl ?_
  refine z_iload_n C 2 d_O_indexOf_1 rfl rfl ?_
  refine z_lload_n C 3 d_O_indexOf_2 rfl rfl ?_
  refine z_lload C 5 d_O_indexOf_3 rfl rfl ?_
  refine z_call C 8 (c_O_has hn ha i j) w_O_has ini_O d_O_indexOf_5 rfl (z_goV (As := [.int (nI a), .long i, .long j]) C l_O_83 w_O_has d_O_indexOf_5 (by omega) rfl rfl rfl) (Nat.le_of_ble_eq_true rfl) (by rw [hR]; simp only [zRm]; omega) (by rw [hR]; simp only [zRm]; omega) (by rw [hR]; simp only [zRm]; omega) (by rw [hR]; simp only [zRm]; omega) (fun v n' σ' hv => ?_) (fun x n' σ' hv => ?_)
  · obtain ⟨hv, rfl, rfl⟩ := hv
    rcases hv with ⟨hh, hv⟩ | ⟨hh, hv⟩
    · cases hv
      refine z_if_ne C 11 21 d_O_indexOf_8 rfl (by decide) (fun _ => ?_) (fun h9 => absurd h9 (show ¬ (1 : Int32) = 0 by decide))
      refine z_lload_n C 22 d_O_indexOf_21 rfl rfl ?_
      refine z_aload_n C 23 d_O_indexOf_22 rfl rfl ?_
      refine z_get C 26 f_O_15 d_O_indexOf_23 rfl (by omega) rfl rfl ?_
      refine z_iload_n C 27 d_O_indexOf_26 rfl rfl ?_
      refine z_iald C 28 a d_O_indexOf_27 rfl (by omega) rfl rfl (by show a < 8; exact ha) (by decide) ?_
      refine z_i2l C 29 d_O_indexOf_28 rfl ?_
      refine z_lmul C 30 d_O_indexOf_29 rfl ?_
      refine z_lload C 32 d_O_indexOf_30 rfl rfl ?_
      refine z_ladd C 33 d_O_indexOf_32 rfl ?_
      refine z_l2i C 34 d_O_indexOf_33 rfl ?_
      exact z_iret C rfl d_O_indexOf_34 (by rw [hpo]; exact Or.inl ⟨hh, rfl, rfl, rfl⟩) (by rw [hmc]; omega) (by rw [hms]; omega)
    · cases hv
      have hb := hm hh
      refine z_if_ne C 11 21 d_O_indexOf_8 rfl (by decide) (fun h9 => absurd (show (0 : Int32) = 0 from rfl) h9) (fun _ => ?_)
      exact z_throwS C (ci := 11) (names := zNm) (text := "no number there") rfl (by decide) zNm_fit cl_O_87 ini_e3 (by decide) at_O_91 d_O_indexOf_11 d_O_indexOf_14 d_O_indexOf_15 d_O_indexOf_17 d_O_indexOf_20 (fun h hh => nomatch hh) (by rw [hR]; show 2 + 3 < _; simp only [zRm]; omega) (by rw [hR]; show _ + (13 * (2 + 1) + 43) ≤ _; simp only [zRm]; exact Nat.le_of_ble_eq_true rfl) (by omega) (by rw [hR]; simp only [zRm]; omega) (by rw [hR]; simp only [zRm]; omega) (by rw [hmc]; omega) (by rw [hms]; omega) (by rw [hpo]; exact Or.inr ⟨hh, rfl, rfl, xOv_up hn _⟩)
  · obtain ⟨hv, -⟩ := hv
    rcases hv with ⟨-, hv⟩ | ⟨-, hv⟩ <;> cases hv
theorem c_O_numberAt2 (hn : 85 ≤ n) (hn2 : n < 1000000) {a : Nat} (ha : a < 8) (i j : Int64) {k : Nat} (hk : xhas xa a i j → (i * (xa 8 a).toInt64 + j).toInt32 = nI k ∧ k < 40) {mc ms : Nat} (hm : ¬ xhas xa a i j → 1 ≤ mc ∧ 6 ≤ ms) : MetZ G l y_O_numberAt b_O_numberAt 6 (some .long) [] 7 mc ms [.ref 6, .int (nI a), .long i, .long j] n (xOv xs xr xa xl xf σ) (fun o n' σ' => (xhas xa a i j ∧ o = .returned (some (.long (xl (10 + a) k))) ∧ n' = n ∧ σ' = xOv xs xr xa xl xf σ) ∨ (¬ xhas xa a i j ∧ o = .threw n ∧ n' = n + 1 ∧ σ' = xOv xs xr xa xl xf (va_up σ n (.inr (11, []))))) := by
  refine MetZ.of (by decide) (Nat.le_of_ble_eq_true rfl) (fun K hK hR hpo hmc hms C => ?_)
  refine z_aload_n C 1 d_O_numberAt_0 rfl rfl ?_
  refine z_get C 4 f_O_27 d_O_numberAt_1 rfl (by omega) rfl rfl ?_
  refine z_iload_n C 5 d_O_numberAt_4 rfl rfl ?_
  refine z_aald C 6 a (ty := .array .long) (some (10 + a)) d_O_numberAt_5 rfl (by omega) rfl rfl rfl rfl (by omega) (by decide) (by rw [if_pos ha]) ?_
  refine z_aload_n C 7 d_O_numberAt_6 rfl rfl ?_
  refine z_iload_n C 8 d_O_numberAt_7 rfl rfl ?_
  refine z_lload_n C 9 d_O_numberAt_8 rfl rfl ?_
  refine z_lload C 11 d_O_numberAt_9 rfl rfl ?_
  by_cases q : xhas xa a i j
  · refine z_call C 14 (c_O_indexOf2 hn hn2 ha i j (mc := 0) (ms := 0) (fun w => absurd q w)) w_O_indexOf ini_O d_O_numberAt_11 rfl (z_goV (As := [.int (nI a), .long i, .long j]) C l_O_79 w_O_indexOf d_O_numberAt_11 (by omega) rfl rfl rfl) (Nat.le_of_ble_eq_true rfl) (by rw [hR]; simp only [zRm]; omega) (by rw [hR]; simp only [zRm]; omega) (by rw [hR]; simp only [zRm]; omega) (by rw [hR]; simp only [zRm]; omega) (fun v n' σ' hv => ?_) (fun x n' σ' hv => ?_)
    rotate_left
    · rcases hv with ⟨-, hv, -⟩ | ⟨w, -⟩
      · cases hv
      · exact absurd q w
    obtain ⟨-, e0, e1, rfl⟩ := hv.resolve_right (fun w => w.1 q)
    obtain rfl : n = n' := e1.symm
    cases e0
    refine zx_lald C 15 k d_O_numberAt_14 rfl (by omega) (by unfold xIsL; omega) (hk q).1 (by rw [xLen_n ha]; exact (hk q).2) (by rw [xLen_n ha]; decide) ?_
    exact z_lret C rfl d_O_numberAt_15 (by rw [hpo]; exact Or.inl ⟨q, rfl, rfl, rfl⟩) (by rw [hmc]; omega) (by rw [hms]; omega)
  · have hb := hm q
    refine z_call C 14 (c_O_indexOf2 hn hn2 ha i j (mc := 1) (ms := 6) (fun w => ⟨by omega, by omega⟩)) w_O_indexOf ini_O d_O_numberAt_11 rfl (z_goV (As := [.int (nI a), .long i, .long j]) C l_O_79 w_O_indexOf d_O_numberAt_11 (by omega) rfl rfl rfl) (Nat.le_of_ble_eq_true rfl) (by rw [hR]; simp only [zRm]; omega) (by rw [hR]; simp only [zRm]; omega) (by rw [hR]; simp only [zRm]; omega) (by rw [hR]; simp only [zRm]; omega) (fun v n' σ' hv => ?_) (fun x n' σ' hv => ?_)
    · rcases hv with ⟨w, -⟩ | ⟨-, hv, -⟩
      · exact absurd w q
      · cases hv
    · obtain ⟨-, e0, rfl, rfl⟩ := hv.resolve_left (fun w => q w.1)
      cases e0
      exact zx_out C (fun h hh => nomatch hh) (by rw [hpo]; exact Or.inr ⟨q, rfl, rfl, rfl⟩) (by rw [hmc]; omega) (by rw [hms]; omega)
theorem c_O_put (hn : 85 ≤ n) (hn2 : n < 1000000) {a : Nat} (ha : a < 8) (i j x : Int64) {k : Nat} (hk : xhas xa a i j → (i * (xa 8 a).toInt64 + j).toInt32 = nI k ∧ k < 40) {mc ms : Nat} (hm : ¬ xhas xa a i j → 1 ≤ mc ∧ 6 ≤ ms) : MetZ G l y_O_put b_O_put 8 none [] 7 mc ms [.ref 6, .int (nI a), .long i, .long j, .long x] n (xOv xs xr xa xl xf σ) (fun o n' σ' => (xhas xa a i j ∧ o = .returned none ∧ n' = n ∧ σ' = xOv xs xr xa (va_up xl (10 + a) (vp_updL (xl (10 + a)) k x)) xf σ) ∨ (¬ xhas xa a i j ∧ o = .threw n ∧ n' = n + 1 ∧ σ' = xOv xs xr xa xl xf (va_up σ n (.inr (11, []))))) := by
  refine MetZ.of (by decide) (Nat.le_of_ble_eq_true rfl) (fun K hK hR hpo hmc hms C => ?_)
  refine z_aload_n C 1 d_O_put_0 rfl rfl ?_
  refine z_get C 4 f_O_27 d_O_put_1 rfl (by omega) rfl rfl ?_
  refine z_iload_n C 5 d_O_put_4 rfl rfl ?_
  refine z_aald C 6 a (ty := .array .long) (some (10 + a)) d_O_put_5 rfl (by omega) rfl rfl rfl rfl (by omega) (by decide) (by rw [if_pos ha]) ?_
  refine z_aload_n C 7 d_O_put_6 rfl rfl ?_
  refine z_iload_n C 8 d_O_put_7 rfl rfl ?_
  refine z_lload_n C 9 d_O_put_8 rfl rfl ?_
  refine z_lload C 11 d_O_put_9 rfl rfl ?_
  by_cases q : xhas xa a i j
  · refine z_call C 14 (c_O_indexOf2 hn hn2 ha i j (mc := 0) (ms := 0) (fun w => absurd q w)) w_O_indexOf ini_O d_O_put_11 rfl (z_goV (As := [.int (nI a), .long i, .long j]) C l_O_79 w_O_indexOf d_O_put_11 (by omega) rfl rfl rfl) (Nat.le_of_ble_eq_true rfl) (by rw [hR]; simp only [zRm]; omega) (by rw [hR]; simp only [zRm]; omega) (by rw [hR]; simp only [zRm]; omega) (by rw [hR]; simp only [zRm]; omega) (fun v n' σ' hv => ?_) (fun x n' σ' hv => ?_)
    rotate_left
    · rcases hv with ⟨-, hv, -⟩ | ⟨w, -⟩
      · cases hv
      · exact absurd q w
    obtain ⟨-, e0, e1, rfl⟩ := hv.resolve_right (fun w => w.1 q)
    obtain rfl : n = n' := e1.symm
    cases e0
    refine z_lload C 16 d_O_put_14 rfl rfl ?_
    refine zx_last C 17 k d_O_put_16 rfl (by omega) (by unfold xIsL; omega) (hk q).1 (by rw [xLen_n ha]; exact (hk q).2) (by rw [xLen_n ha]; decide) ?_
    exact z_vret C rfl d_O_put_17 (by rw [hpo]; exact Or.inl ⟨q, rfl, rfl, rfl⟩) (by rw [hmc]; omega) (by rw [hms]; omega)
  · have hb := hm q
    refine z_call C 14 (c_O_indexOf2 hn hn2 ha i j (mc := 1) (ms := 6) (fun w => ⟨by omega, by omega⟩)) w_O_indexOf ini_O d_O_put_11 rfl (z_goV (As := [.int (nI a), .long i, .long j]) C l_O_79 w_O_indexOf d_O_put_11 (by omega) rfl rfl rfl) (Nat.le_of_ble_eq_true rfl) (by rw [hR]; simp only [zRm]; omega) (by rw [hR]; simp only [zRm]; omega) (by rw [hR]; simp only [zRm]; omega) (by rw [hR]; simp only [zRm]; omega) (fun v n' σ' hv => ?_) (fun x n' σ' hv => ?_)
    · rcases hv with ⟨w, -⟩ | ⟨-, hv, -⟩
      · exact absurd w q
      · cases hv
    · obtain ⟨-, e0, rfl, rfl⟩ := hv.resolve_left (fun w => q w.1)
      cases e0
      exact zx_out C (fun h hh => nomatch hh) (by rw [hpo]; exact Or.inr ⟨q, rfl, rfl, rfl⟩) (by rw [hmc]; omega) (by rw [hms]; omega)
/-- the array that is made, or what is thrown -/
def xmk (xa : mA) (h w : Int64) : Nat ⊕ Nat := if h < 0 ∨ w < 0 then .inl 10 else if 40 < h ∨ 40 < w ∨ 40 < h * w then .inl 13 else match xff (xa 18) 8 0 with
  | none => .inl 13
  | some a => .inr a
theorem xff_lt {f : Nat → Int32} {a : Nat} : ∀ {m k : Nat}, xff f m k = some a → k ≤ a ∧ a < k + m ∧ f a = 0
  | 0, k, h => by cases h
  | m + 1, k, h => by
    unfold xff at h
    by_cases q : f k = 0
    · rw [if_pos q] at h
      cases h
      exact ⟨Nat.le_refl _, by omega, q⟩
    · rw [if_neg q] at h
      obtain ⟨h1, h2, h3⟩ := xff_lt h
      exact ⟨by omega, by omega, h3⟩
def xmS (xs : mS) : mS := upd (upd (upd xs 10 (xs 10 + 1)) 8 (xs 8 + 1)) 9 (xmax (xs 9) (xs 10 + 1))
def xmA (xa : mA) (a : Nat) (h w : Int64) : mA := va_up (va_up (va_up xa 18 (upd (xa 18) a 1)) 7 (upd (xa 7) a h.toInt32)) 8 (upd (xa 8) a w.toInt32)
theorem c_O_make (hn : 85 ≤ n) (hn2 : n < 1000000) (h w : Int64) {mc ms : Nat} (hm : (∃ q, xmk xa h w = .inl q) → 1 ≤ mc ∧ 6 ≤ ms) : MetZ G l y_O_make b_O_make 6 (some .int) [] 6 mc ms [.ref 6, .long h, .long w] n (xOv xs xr xa xl xf σ) (fun o n' σ' => match xmk xa h w with
    | .inl q => o = .threw n ∧ n' = n + 1 ∧ σ' = xOv xs xr xa xl xf (va_up σ n (.inr (q, [])))
    | .inr a => o = .returned (some (.int (nI a))) ∧ n' = n ∧ σ' = xOv (xmS xs) xr (xmA xa a h w) (va_up xl (10 + a) (fl (xl (10 + a)) 40 0)) xf σ) := by
  obtain ⟨res, hres⟩ : ∃ x, xmk xa h w = x := ⟨_, rfl⟩
  rw [hres] at hm ⊢
  unfold xmk at hres
  refine MetZ.of (by decide) (Nat.le_of_ble_eq_true rfl) (fun K hK hR hpo hmc hms C => ?_)
  have neg : (h < 0 ∨ w < 0) → Z G K n (xOv xs xr xa xl xf σ) 0 0 12 (lv_args 0 [.ref 6, .long h, .long w]) [] := fun q => by
    rw [if_pos q] at hres
    have hb := hm ⟨_, hres.symm⟩
    exact z_throwS C (ci := 10) (names := zNm) (text := "a size below 0") rfl (by decide) zNm_fit cl_O_37 ini_e2 (by decide) at_O_41 d_O_make_12 d_O_make_15 d_O_make_16 d_O_make_18 d_O_make_21 (fun h hh => nomatch hh) (by rw [hR]; show 2 + 3 < _; simp only [zRm]; omega) (by rw [hR]; show _ + (13 * (2 + 1) + 43) ≤ _; simp only [zRm]; exact Nat.le_of_ble_eq_true rfl) (by omega) (by rw [hR]; simp only [zRm]; omega) (by rw [hR]; simp only [zRm]; omega) (by rw [hmc]; omega) (by rw [hms]; omega) (by rw [hpo]; exact (by rw [← hres]; exact ⟨rfl, rfl, xOv_up hn _⟩))
  have big : ¬ (h < 0 ∨ w < 0) → (40 < h ∨ 40 < w ∨ 40 < h * w) → Z G K n (xOv xs xr xa xl xf σ) 0 0 48 (lv_args 0 [.ref 6, .long h, .long w]) [] := fun q0 q => by
    rw [if_neg q0, if_pos q] at hres
    have hb := hm ⟨_, hres.symm⟩
    exact z_throwS C (ci := 13) (names := zNm) (text := "too many numbers, rows or columns") rfl (by decide) zNm_fit cl_O_46 ini_e5 (by decide) at_O_50 d_O_make_48 d_O_make_51 d_O_make_52 d_O_make_54 d_O_make_57 (fun h hh => nomatch hh) (by rw [hR]; show 2 + 3 < _; simp only [zRm]; omega) (by rw [hR]; show _ + (13 * (2 + 1) + 43) ≤ _; simp only [zRm]; exact Nat.le_of_ble_eq_true rfl) (by omega) (by rw [hR]; simp only [zRm]; omega) (by rw [hR]; simp only [zRm]; omega) (by rw [hmc]; omega) (by rw [hms]; omega) (by rw [hpo]; exact (by rw [← hres]; exact ⟨rfl, rfl, xOv_up hn _⟩))
  have ok : ¬ (h < 0 ∨ w < 0) → ¬ (40 < h ∨ 40 < w ∨ 40 < h * w) → Z G K n (xOv xs xr xa xl xf σ) 0 0 58 (lv_args 0 [.ref 6, .long h, .long w]) [] := fun q0 q1 => by
    rw [if_neg q0, if_neg q1] at hres
    refine z_aload_n C 59 d_O_make_58 rfl rfl ?_
    refine z_call C 62 (c_O_firstFree hn) w_O_firstFree ini_O d_O_make_59 rfl (z_goV (As := []) C l_O_51 w_O_firstFree d_O_make_59 (by omega) rfl rfl rfl) (Nat.le_of_ble_eq_true rfl) (by rw [hR]; simp only [zRm]; omega) (by rw [hR]; simp only [zRm]; omega) (by rw [hR]; simp only [zRm]; omega) (by rw [hR]; simp only [zRm]; omega) (fun v n' σ' hv => ?_) (fun x n' σ' hv => ?_)
    rotate_left
    · cases hv.1
    obtain ⟨e0, e1, rfl⟩ := hv
    cases e0
    obtain rfl : n = n' := e1.symm
    cases hx : xff (xa 18) 8 0 with
    | none =>
      rw [hx] at hres
      have hb := hm ⟨_, hres.symm⟩
      refine z_istore C 64 d_O_make_62 rfl (by decide) ?_
      refine z_iload C 66 d_O_make_64 rfl rfl ?_
      refine z_iconst C 67 d_O_make_66 rfl (-1) (by decide) ?_
      refine z_icmp_ne C 70 80 d_O_make_67 rfl (by decide) (fun h9 => absurd rfl h9) (fun _ => ?_)
      exact z_throwS C (ci := 13) (names := zNm) (text := "too many arrays") rfl (by decide) zNm_fit cl_O_46 ini_e5 (by decide) at_O_50 d_O_make_70 d_O_make_73 d_O_make_74 d_O_make_76 d_O_make_79 (fun h hh => nomatch hh) (by rw [hR]; show 2 + 3 < _; simp only [zRm]; omega) (by rw [hR]; show _ + (13 * (2 + 1) + 43) ≤ _; simp only [zRm]; exact Nat.le_of_ble_eq_true rfl) (by omega) (by rw [hR]; simp only [zRm]; omega) (by rw [hR]; simp only [zRm]; omega) (by rw [hmc]; omega) (by rw [hms]; omega) (by rw [hpo]; exact (by rw [← hres]; exact ⟨rfl, rfl, xOv_up hn _⟩))
    | some a =>
      rw [hx] at hres
      obtain ⟨-, ha, -⟩ := xff_lt hx
      have ha : a < 8 := by omega
      refine z_istore C 64 d_O_make_62 rfl (by decide) ?_
      refine z_iload C 66 d_O_make_64 rfl rfl ?_
      refine z_iconst C 67 d_O_make_66 rfl (-1) (by decide) ?_
      refine z_icmp_ne C 70 80 d_O_make_67 rfl (by decide) (fun _ => ?_) (fun h9 => absurd (show nI a = -1 from h9) (fun q => by have := congrArg Int32.toInt q; rw [nI_toInt (by omega)] at this; have e1 : (-1 : Int32).toInt = -1 := rfl; omega))
      refine z_aload_n C 81 d_O_make_80 rfl rfl ?_
      refine z_get C 84 f_O_30 d_O_make_81 rfl (by omega) rfl rfl ?_
      refine z_iload C 86 d_O_make_84 rfl rfl ?_
      refine z_iconst C 87 d_O_make_86 rfl 1 (by decide) ?_
      refine zx_zast C 88 a 1 d_O_make_87 rfl (by omega) rfl (by omega) rfl ?_
      refine z_aload_n C 89 d_O_make_88 rfl rfl ?_
      refine z_get C 92 f_O_9 d_O_make_89 rfl (by omega) rfl rfl ?_
      refine z_iload C 94 d_O_make_92 rfl rfl ?_
      refine z_lload_n C 95 d_O_make_94 rfl rfl ?_
      refine z_l2i C 96 d_O_make_95 rfl ?_
      refine zx_iast C 97 a d_O_make_96 rfl (by omega) (Or.inl rfl) rfl ha ?_
      refine z_aload_n C 98 d_O_make_97 rfl rfl ?_
      refine z_get C 101 f_O_15 d_O_make_98 rfl (by omega) rfl rfl ?_
      refine z_iload C 103 d_O_make_101 rfl rfl ?_
      refine z_lload_n C 104 d_O_make_103 rfl rfl ?_
      refine z_l2i C 105 d_O_make_104 rfl ?_
      refine zx_iast C 106 a d_O_make_105 rfl (by omega) (Or.inr rfl) rfl ha ?_
      refine z_aload_n C 107 d_O_make_106 rfl rfl ?_
      refine z_get C 110 f_O_27 d_O_make_107 rfl (by omega) rfl rfl ?_
      refine z_iload C 112 d_O_make_110 rfl rfl ?_
      refine z_aald C 113 a (ty := .array .long) (some (10 + a)) d_O_make_112 rfl (by omega) rfl rfl rfl rfl (by omega) (by decide) (by rw [if_pos ha]) ?_
      refine z_lconst C 114 d_O_make_113 rfl 0 (by decide) ?_
      have hL : xIsL (10 + a) := by unfold xIsL; omega
      refine z_call C 117 (c_fillL (i := 10 + a) (len := 40) (f := xl (10 + a)) (by omega) (by rw [xOv_atL _ _ _ _ _ _ hL, xLen_n ha]) (by decide) 0) w_fillL ini_Arr d_O_make_114 rfl (z_goS (As := [.ref (10 + a), .long 0]) C l_O_57 w_fillL nm_of d_O_make_114 rfl) (Nat.le_of_ble_eq_true rfl) (by rw [hR]; simp only [zRm]; omega) (by rw [hR]; simp only [zRm]; omega) (by rw [hR]; simp only [zRm]; omega) (by rw [hR]; simp only [zRm]; omega) (fun v n' σ' hv => ?_) (fun x n' σ' hv => ?_)
      rotate_left
      · cases hv.1
      obtain ⟨e0, e1, rfl⟩ := hv
      cases e0
      obtain rfl : n = n' := e1.symm
      have eL := fun xa' => xOv_L xs xr xa' xl xf σ hL (fl (xl (10 + a)) 40 0)
      rw [xLen_n ha] at eL
      rw [eL]
      refine z_aload_n C 118 d_O_make_117 rfl rfl ?_
      refine z_dup C 119 d_O_make_118 rfl rfl ?_
      refine z_get C 122 f_O_34 d_O_make_119 rfl (by omega) rfl rfl ?_
      refine z_iconst C 123 d_O_make_122 rfl 1 (by decide) ?_
      refine z_iadd C 124 d_O_make_123 rfl ?_
      refine zx_put6 C 127 10 p_O_34 d_O_make_124 rfl (by omega) (by decide) (by decide) rfl ?_
      refine z_aload_n C 128 d_O_make_127 rfl rfl ?_
      refine z_dup C 129 d_O_make_128 rfl rfl ?_
      refine z_get C 132 f_O_18 d_O_make_129 rfl (by omega) rfl rfl ?_
      refine z_iconst C 133 d_O_make_132 rfl 1 (by decide) ?_
      refine z_iadd C 134 d_O_make_133 rfl ?_
      refine zx_put6 C 137 8 p_O_18 d_O_make_134 rfl (by omega) (by decide) (by decide) rfl ?_
      refine z_aload_n C 138 d_O_make_137 rfl rfl ?_
      refine z_aload_n C 139 d_O_make_138 rfl rfl ?_
      refine z_get C 142 f_O_22 d_O_make_139 rfl (by omega) rfl rfl ?_
      refine z_aload_n C 143 d_O_make_142 rfl rfl ?_
      refine z_get C 146 f_O_34 d_O_make_143 rfl (by omega) rfl rfl ?_
      refine z_max C 149 lw_O_63 d_O_make_146 rfl (by rw [hR]; simp only [zRm]; omega) (by rw [hR]; simp only [zRm]; decide) (by rw [hR]; simp only [zRm]; omega) (by rw [hR]; simp only [zRm]; omega) ?_
      refine zx_put6 C 152 9 p_O_22 d_O_make_149 rfl (by omega) (by decide) (by decide) rfl ?_
      refine z_iload C 154 d_O_make_152 rfl rfl ?_
      exact z_iret C rfl d_O_make_154 (by rw [hpo]; exact (by rw [← hres]; exact ⟨rfl, rfl, rfl⟩)) (by rw [hmc]; omega) (by rw [hms]; omega)
  refine z_lload_n C 1 d_O_make_0 rfl rfl ?_
  refine z_lconst C 2 d_O_make_1 rfl 0 (by decide) ?_
  refine z_lcmp C 3 d_O_make_2 rfl ?_
  refine z_if_lt C 6 12 d_O_make_3 rfl (by decide) (fun h1 => ?_) (fun h1 => ?_)
  · exact neg (Or.inl ((lg_cmp_lt _ _).mp h1))
  have g1 : ¬ h < 0 := fun q => h1 ((lg_cmp_lt _ _).mpr q)
  refine z_lload_n C 7 d_O_make_6 rfl rfl ?_
  refine z_lconst C 8 d_O_make_7 rfl 0 (by decide) ?_
  refine z_lcmp C 9 d_O_make_8 rfl ?_
  refine z_if_ge C 12 22 d_O_make_9 rfl (by decide) (fun h2 => ?_) (fun h2 => ?_)
  rotate_left
  · exact neg (Or.inr (Int64.not_le.mp (fun q => h2 ((lg_cmp_ge _ _).mpr q))))
  have g2 : ¬ w < 0 := Int64.not_lt.mpr ((lg_cmp_ge _ _).mp h2)
  have g0 : ¬ (h < 0 ∨ w < 0) := fun q => q.elim g1 g2
  refine z_lload_n C 23 d_O_make_22 rfl rfl ?_
  refine z_ldc2 C 26 40 d_O_make_23 rfl kl_O_44 ?_
  refine z_lcmp C 27 d_O_make_26 rfl ?_
  refine z_if_gt C 30 48 d_O_make_27 rfl (by decide) (fun h3 => ?_) (fun h3 => ?_)
  · exact big g0 (Or.inl ((lg_cmp_gt _ _).mp h3))
  have g3 : ¬ 40 < h := fun q => h3 ((lg_cmp_gt _ _).mpr q)
  refine z_lload_n C 31 d_O_make_30 rfl rfl ?_
  refine z_ldc2 C 34 40 d_O_make_31 rfl kl_O_44 ?_
  refine z_lcmp C 35 d_O_make_34 rfl ?_
  refine z_if_gt C 38 48 d_O_make_35 rfl (by decide) (fun h4 => ?_) (fun h4 => ?_)
  · exact big g0 (Or.inr (Or.inl ((lg_cmp_gt _ _).mp h4)))
  have g4 : ¬ 40 < w := fun q => h4 ((lg_cmp_gt _ _).mpr q)
  refine z_lload_n C 39 d_O_make_38 rfl rfl ?_
  refine z_lload_n C 40 d_O_make_39 rfl rfl ?_
  refine z_lmul C 41 d_O_make_40 rfl ?_
  refine z_ldc2 C 44 40 d_O_make_41 rfl kl_O_44 ?_
  refine z_lcmp C 45 d_O_make_44 rfl ?_
  refine z_if_le C 48 58 d_O_make_45 rfl (by decide) (fun h5 => ?_) (fun h5 => ?_)
  · exact ok g0 (fun q => by
      rcases q with q | q | q
      · exact g3 q
      · exact g4 q
      · exact absurd q (Int64.not_lt.mpr ((lg_cmp_le _ _).mp h5)))
  · exact big g0 (Or.inr (Or.inr (Int64.not_le.mp (fun q => h5 ((lg_cmp_le _ _).mpr q)))))
theorem va_cpy40 {f g : Nat → Int64} : va_cpy f g 0 0 40 = fun k => if k < 40 then f k else g k := by
  funext k
  unfold va_cpy
  by_cases q : k < 40
  · rw [if_pos ⟨by omega, by omega⟩, if_pos q, Nat.zero_add, Nat.sub_zero]
  · rw [if_neg (fun w => q (by omega)), if_neg q]
theorem c_O_copy (hn : 85 ≤ n) (hn2 : n < 1000000) {a : Nat} (ha : a < 8) {mc ms : Nat} (hm : (∃ q, xmk xa (xa 7 a).toInt64 (xa 8 a).toInt64 = .inl q) → 1 ≤ mc ∧ 6 ≤ ms) (hne : ∀ b, xmk xa (xa 7 a).toInt64 (xa 8 a).toInt64 = .inr b → b ≠ a) : MetZ G l y_O_copy b_O_copy 3 (some .int) [] 7 mc ms [.ref 6, .int (nI a)] n (xOv xs xr xa xl xf σ) (fun o n' σ' => match xmk xa (xa 7 a).toInt64 (xa 8 a).toInt64 with
    | .inl q => o = .threw n ∧ n' = n + 1 ∧ σ' = xOv xs xr xa xl xf (va_up σ n (.inr (q, [])))
    | .inr b => o = .returned (some (.int (nI b))) ∧ n' = n ∧ σ' = xOv (xmS xs) xr (xmA xa b (xa 7 a).toInt64 (xa 8 a).toInt64) (va_up xl (10 + b) (fun k => if k < 40 then xl (10 + a) k else fl (xl (10 + b)) 40 0 k)) xf σ) := by
  refine MetZ.of (by decide) (Nat.le_of_ble_eq_true rfl) (fun K hK hR hpo hmc hms C => ?_)
  refine z_aload_n C 1 d_O_copy_0 rfl rfl ?_
  refine z_aload_n C 2 d_O_copy_1 rfl rfl ?_
  refine z_get C 5 f_O_9 d_O_copy_2 rfl (by omega) rfl rfl ?_
  refine z_iload_n C 6 d_O_copy_5 rfl rfl ?_
  refine z_iald C 7 a d_O_copy_6 rfl (by omega) rfl rfl (by show a < 8; exact ha) (by decide) ?_
  refine z_i2l C 8 d_O_copy_7 rfl ?_
  refine z_aload_n C 9 d_O_copy_8 rfl rfl ?_
  refine z_get C 12 f_O_15 d_O_copy_9 rfl (by omega) rfl rfl ?_
  refine z_iload_n C 13 d_O_copy_12 rfl rfl ?_
  refine z_iald C 14 a d_O_copy_13 rfl (by omega) rfl rfl (by show a < 8; exact ha) (by decide) ?_
  refine z_i2l C 15 d_O_copy_14 rfl ?_
  cases hk : xmk xa (xa 7 a).toInt64 (xa 8 a).toInt64 with
  | inl q =>
    have hb := hm ⟨_, hk⟩
    rw [hk] at hpo
    refine z_call C 18 (c_O_make hn hn2 (xa 7 a).toInt64 (xa 8 a).toInt64 (mc := 1) (ms := 6) (fun _ => ⟨by omega, by omega⟩)) w_O_make ini_O d_O_copy_15 rfl (z_goV (As := [.long (xa 7 a).toInt64, .long (xa 8 a).toInt64]) C l_O_69 w_O_make d_O_copy_15 (by omega) rfl rfl rfl) (Nat.le_of_ble_eq_true rfl) (by rw [hR]; simp only [zRm]; omega) (by rw [hR]; simp only [zRm]; omega) (by rw [hR]; simp only [zRm]; omega) (by rw [hR]; simp only [zRm]; omega) (fun v n' σ' hv => ?_) (fun x n' σ' hv => ?_)
    · rw [hk] at hv
      cases hv.1
    · rw [hk] at hv
      obtain ⟨e0, rfl, rfl⟩ := hv
      cases e0
      exact zx_out C (fun h hh => nomatch hh) (by rw [hpo]; exact ⟨rfl, rfl, rfl⟩) (by rw [hmc]; omega) (by rw [hms]; omega)
  | inr b =>
    rw [hk] at hpo
    refine z_call C 18 (c_O_make hn hn2 (xa 7 a).toInt64 (xa 8 a).toInt64 (mc := 0) (ms := 0) (fun w => by rw [hk] at w; obtain ⟨q, w⟩ := w; cases w)) w_O_make ini_O d_O_copy_15 rfl (z_goV (As := [.long (xa 7 a).toInt64, .long (xa 8 a).toInt64]) C l_O_69 w_O_make d_O_copy_15 (by omega) rfl rfl rfl) (Nat.le_of_ble_eq_true rfl) (by rw [hR]; simp only [zRm]; omega) (by rw [hR]; simp only [zRm]; omega) (by rw [hR]; simp only [zRm]; omega) (by rw [hR]; simp only [zRm]; omega) (fun v n' σ' hv => ?_) (fun x n' σ' hv => ?_)
    rotate_left
    · rw [hk] at hv
      cases hv.1
    rw [hk] at hv
    obtain ⟨e0, e1, rfl⟩ := hv
    obtain rfl : n = n' := e1.symm
    cases e0
    have hb8 : b < 8 := by
      unfold xmk at hk
      split at hk
      · cases hk
      · split at hk
        · cases hk
        · cases hx : xff (xa 18) 8 0 with
          | none => rw [hx] at hk; cases hk
          | some c => rw [hx] at hk; cases hk; have := (xff_lt hx).2.1; omega
    have hab := hne b hk
    have hLa : xIsL (10 + a) := by unfold xIsL; omega
    have hLb : xIsL (10 + b) := by unfold xIsL; omega
    refine z_istore_n C 19 d_O_copy_18 rfl (by decide) ?_
    refine z_aload_n C 20 d_O_copy_19 rfl rfl ?_
    refine z_get C 23 f_O_27 d_O_copy_20 rfl (by omega) rfl rfl ?_
    refine z_iload_n C 24 d_O_copy_23 rfl rfl ?_
    refine z_aald C 25 a (ty := .array .long) (some (10 + a)) d_O_copy_24 rfl (by omega) rfl rfl rfl rfl (by omega) (by decide) (by rw [if_pos ha]) ?_
    refine z_iconst C 26 d_O_copy_25 rfl 0 (by decide) ?_
    refine z_aload_n C 27 d_O_copy_26 rfl rfl ?_
    refine z_get C 30 f_O_27 d_O_copy_27 rfl (by omega) rfl rfl ?_
    refine z_iload_n C 31 d_O_copy_30 rfl rfl ?_
    refine z_aald C 32 b (ty := .array .long) (some (10 + b)) d_O_copy_31 rfl (by omega) rfl rfl rfl rfl (by omega) (by decide) (by rw [if_pos hb8]) ?_
    refine z_iconst C 33 d_O_copy_32 rfl 0 (by decide) ?_
    refine z_bipush C 35 d_O_copy_33 rfl 40 (by decide) ?_
    refine z_copyl C 38 (f := xl (10 + a)) (g := fl (xl (10 + b)) 40 0) lw_O_73 d_O_copy_35 rfl (by omega) (by omega) (by rw [xOv_atL _ _ _ _ _ _ hLa, xLen_n ha, va_up_ne _ _ (by omega)]) (by rw [xOv_atL _ _ _ _ _ _ hLb, xLen_n hb8, va_up_self]) (by rw [hR]; simp only [zRm]; omega) (by rw [hR]; simp only [zRm]; decide) ?_
    have eL := xOv_L (xmS xs) xr (xmA xa b (xa 7 a).toInt64 (xa 8 a).toInt64) (va_up xl (10 + b) (fl (xl (10 + b)) 40 0)) xf σ hLb (va_cpy (xl (10 + a)) (fl (xl (10 + b)) 40 0) 0 0 40)
    rw [xLen_n hb8] at eL
    rw [eL, va_up2, va_cpy40]
    refine z_iload_n C 39 d_O_copy_38 rfl rfl ?_
    exact z_iret C rfl d_O_copy_39 (by rw [hpo]; exact ⟨rfl, rfl, rfl⟩) (by rw [hmc]; omega) (by rw [hms]; omega)
end ST2
