/-- what a call of the class that may throw, and the reference's after it, give: the law needs no more of define and of run -/
def lCall (G : zG) (l : Launch) (FR : rFR) (m : Nat) (yS : MethodName) (bS : ByteArray) (nS : Nat) (avS : List Value) (yM : MethodName) (bM : ByteArray) (nM : Nat) (avM : List Value) (n : Nat) (σ : zS) (xs : mS) (xr : Int64) (xa : mA) (xl : mL) (xf : xF) (S : mS) (A : mA) (L : mL) (rn : Int64) : Prop :=
  ∃ (d mc ms dM : Nat), d ≤ 1300 ∧ dM ≤ 1300 ∧ mc ≤ 1000 ∧ ms ≤ 14000 ∧ ∃ post : zPost, MetZ G l yS bS nS (some .int) [] d mc ms avS n (xOv xs xr xa xl xf (mOv S A L rn σ)) post ∧
    ∀ o n' σ', post o n' σ' → n ≤ n' ∧ n' ≤ n + 1000 ∧ ∃ (xs' : mS) (xr' : Int64) (xa' : mA) (xl' : mL) (xf' : xF) (σ1 : zS) (code : Nat) (v : Int32), σ' = xOv xs' xr' xa' xl' xf' (mOv S A L rn σ1) ∧ σ1 113 = σ 113 ∧
      ((code = 0 ∧ o = .returned (some (.int v))) ∨ ∃ x c, code = c + 1 ∧ c < m ∧ 114 ≤ x ∧ x < n' ∧ o = .threw x ∧ σ1 x = .inr (9 + c, [])) ∧
      ∀ σ2 τ : zS, (∀ i, i ≠ 113 → σ2 i = σ1 i) → MetZ G l yM bM nM (some .int) [] dM 0 0 avM n' (mOv S A L rn τ) (fun o n'' σ'' => ∃ (S' : mS) (A' : mA) (L' : mL) (rn' : Int64) (v' : Int32), o = .returned (some (.int v')) ∧ n'' = n' ∧ σ'' = mOv S' A' L' rn' τ ∧ S' 0 = nI code ∧ (code = 0 → v' = v) ∧ Rel FR n' σ2 xs' xr' xa' xl' xf' S' A' L' rn')
section LW3
variable {G : zG} {K : zK} {FR : rFR} {n k1 k2 t Ls : Nat} {f : Nat → Int32} {σ : zS} {xs : mS} {xr : Int64} {xa : mA} {xl : mL} {xf : xF} {S : mS} {A : mA} {L : mL} {rn : Int64}
theorem l_at {x : Nat} (h : 113 ≤ x) : xOv xs xr xa xl xf (mOv S A L rn σ) x = σ x := by
  unfold xOv mOv
  rw [if_neg (by omega), if_neg (by omega), if_neg (by omega), if_neg (by omega), if_neg (by omega), if_neg (by omega), if_neg (by omega), if_pos (by omega), if_neg (by omega), if_neg (by omega), if_pos h]
theorem l_up (e : va_E) : va_up (xOv xs xr xa xl xf (mOv S A L rn σ)) 113 e = xOv xs xr xa xl xf (mOv S A L rn (va_up σ 113 e)) := by
  funext i
  by_cases h : i = 113
  · subst h
    rw [va_up_self, l_at (Nat.le_refl _), va_up_self]
  · rw [va_up_ne _ _ h]
    unfold xOv mOv
    rw [va_up_ne _ _ h]
theorem l_1d (C : zC G K y_L_law b_L_law 7 (some .boolean) []) (hr : lRoom K Ls) (hF : lFin G K FR t) (ht : 4 * t + 4 ≤ Ls) (hn : 114 ≤ n) (hn2 : n ≤ 114 + 1000 * (t + 1)) (ho : lOut σ) (hk1 : k1 ≤ 114 + 1000 * (t + 1)) (hk2 : k2 ≤ 27457 + 14000 * (t + 1)) {code dM : Nat} {v : Int32} (hcd : code < 6) (hdM : dM ≤ 1300) (hv0 : code = 0 → ∃ g, σ 113 = .inl (1, 1, .inr (.inl g)) ∧ g 0 = v.toInt64)
    (hM : MetZ G (kl K) y_M_define b_M_define 4 (some .int) [] dM 0 0 [.ref 85] n (mOv S A L rn (xOv xs xr xa xl xf σ)) (fun o n'' σ'' => ∃ (S' : mS) (A' : mA) (L' : mL) (rn' : Int64) (v' : Int32), o = .returned (some (.int v')) ∧ n'' = n ∧ σ'' = mOv S' A' L' rn' (xOv xs xr xa xl xf σ) ∧ S' 0 = nI code ∧ (code = 0 → v' = v) ∧ Rel FR n σ xs xr xa xl xf S' A' L' rn')) :
    Z G K n (xOv xs xr xa xl xf (mOv S A L rn σ)) k1 k2 128 (lv0 t) [.int (nI code)] := by
  obtain ⟨r1, r2, r3, r4⟩ := hr
  rw [← mx_comm]
  refine z_istore C 130 d_L_law_128 rfl (by decide) ?_
  refine z_aload_n C 131 d_L_law_130 rfl rfl ?_
  refine z_call C 134 (hM) w_M_define ini_M d_L_law_131 rfl (z_goV (As := []) C l_L_41 w_M_define d_L_law_131 (by omega) rfl rfl rfl) (Nat.le_of_ble_eq_true rfl) (by omega) (by omega) (by omega) (by omega) (fun v n' σ' hv => ?_) (fun x n' σ' hv => ?_)
  · obtain ⟨S', A', L', rn', v', e0, e1, rfl, hc, hvv, h⟩ := hv
    cases e0
    obtain rfl : n = n' := e1.symm
    refine z_istore C 136 d_L_law_134 rfl (by decide) ?_
    refine z_aload_n C 137 d_L_law_136 rfl rfl ?_
    refine z_call C 140 (c_M_thrown (by omega)) w_M_thrown ini_M d_L_law_137 rfl (z_goV (As := []) C l_L_42 w_M_thrown d_L_law_137 (by omega) rfl rfl rfl) (Nat.le_of_ble_eq_true rfl) (by omega) (by omega) (by omega) (by omega) (fun v n' σ' hv => ?_) (fun x n' σ' hv => ?_)
    · obtain ⟨e0, e1, rfl⟩ := hv
      cases e0
      obtain rfl : n = n' := e1.symm
      rw [mx_comm]
      refine z_iload C 142 d_L_law_140 rfl rfl ?_
      refine z_icmp_eq C 145 147 d_L_law_142 rfl (by decide) (fun _ => ?_) (fun h9 => absurd hc h9)
      refine z_iload C 149 d_L_law_147 rfl rfl ?_
      refine z_if_ne C 152 164 d_L_law_149 rfl (by decide) (fun hz => ?_) (fun hz => ?_)
      · refine z_goto C 435 d_L_law_164 (by decide) ?_
        exact Z.lvs (lv' := lv0 t) (fun q hq => List.mem_cons_of_mem _ (List.mem_cons_of_mem _ hq)) (hF _ _ _ _ _ _ _ _ _ _ _ _ _ (by omega) (by omega) ho h (by omega) (by omega))
      · have hc0 : code = 0 := Decidable.byContradiction fun q => absurd hz (nI_ne0 (by omega) (by omega))
        obtain ⟨g, hg, hg0⟩ := hv0 hc0
        refine z_aload_n C 153 d_L_law_152 rfl rfl ?_
        refine z_iconst C 154 d_L_law_153 rfl 0 (by decide) ?_
        refine z_lald C 155 0 d_L_law_154 rfl (by omega) ((l_at (by decide)).trans hg) rfl (by decide) (by decide) ?_
        refine z_iload C 157 d_L_law_155 rfl rfl ?_
        refine z_i2l C 158 d_L_law_157 rfl ?_
        refine z_lcmp C 159 d_L_law_158 rfl ?_
        refine z_if_eq C 162 164 d_L_law_159 rfl (by decide) (fun _ => ?_) (fun h9 => absurd ((lg_cmp_eq _ _).mpr (by rw [hvv hc0]; exact hg0)) h9)
        refine z_goto C 435 d_L_law_164 (by decide) ?_
        exact Z.lvs (lv' := lv0 t) (fun q hq => List.mem_cons_of_mem _ (List.mem_cons_of_mem _ hq)) (hF _ _ _ _ _ _ _ _ _ _ _ _ _ (by omega) (by omega) ho h (by omega) (by omega))
    · cases hv.1
  · obtain ⟨S', A', L', rn', v', e0, -⟩ := hv
    cases e0
theorem l_1r (C : zC G K y_L_law b_L_law 7 (some .boolean) []) (hX : zOld G K Ls f) (hr : lRoom K Ls) (hF : lFin G K FR t) (ht : 4 * t + 4 ≤ Ls) (hn : 114 ≤ n) (hn2 : n ≤ 114 + 1000 * (t + 1)) (ho : lOut σ) (hk1 : k1 ≤ 114 + 1000 * (t + 1)) (hk2 : k2 ≤ 27457 + 14000 * (t + 1)) {code dM : Nat} {v : Int32} (hcd : code < 6) (hdM : dM ≤ 1300) (hv0 : code = 0 → ∃ g, σ 113 = .inl (1, 1, .inr (.inl g)) ∧ g 0 = v.toInt64)
    (hM : MetZ G (kl K) y_M_run b_M_run 5 (some .int) [] dM 0 0 [.ref 85, .int ((f (4 * t + 1)).toUInt32 % 65536).toInt32] n (mOv S A L rn (xOv xs xr xa xl xf σ)) (fun o n'' σ'' => ∃ (S' : mS) (A' : mA) (L' : mL) (rn' : Int64) (v' : Int32), o = .returned (some (.int v')) ∧ n'' = n ∧ σ'' = mOv S' A' L' rn' (xOv xs xr xa xl xf σ) ∧ S' 0 = nI code ∧ (code = 0 → v' = v) ∧ Rel FR n σ xs xr xa xl xf S' A' L' rn')) :
    Z G K n (xOv xs xr xa xl xf (mOv S A L rn σ)) k1 k2 274 (lv0 t) [.int (nI code)] := by
  obtain ⟨r1, r2, r3, r4⟩ := hr
  rw [← mx_comm]
  refine z_istore C 276 d_L_law_274 rfl (by decide) ?_
  refine z_aload_n C 277 d_L_law_276 rfl rfl ?_
  refine z_aload_n C 278 d_L_law_277 rfl rfl ?_
  refine z_iload C 280 d_L_law_278 rfl rfl ?_
  refine z_iconst C 281 d_L_law_280 rfl 1 (by decide) ?_
  refine z_iadd C 282 d_L_law_281 rfl ?_
  refine z_iald0 C 283 (4 * t + 1) d_L_law_282 rfl hX (nI_add _ 1) (by omega) ?_
  refine z_i2c C 284 d_L_law_283 rfl ?_
  refine z_call C 287 (hM) w_M_run ini_M d_L_law_284 rfl (z_goV (As := [.int ((f (4 * t + 1)).toUInt32 % 65536).toInt32]) C l_L_63 w_M_run d_L_law_284 (by omega) rfl rfl rfl) (Nat.le_of_ble_eq_true rfl) (by omega) (by omega) (by omega) (by omega) (fun v n' σ' hv => ?_) (fun x n' σ' hv => ?_)
  · obtain ⟨S', A', L', rn', v', e0, e1, rfl, hc, hvv, h⟩ := hv
    cases e0
    obtain rfl : n = n' := e1.symm
    refine z_istore C 289 d_L_law_287 rfl (by decide) ?_
    refine z_aload_n C 290 d_L_law_289 rfl rfl ?_
    refine z_call C 293 (c_M_thrown (by omega)) w_M_thrown ini_M d_L_law_290 rfl (z_goV (As := []) C l_L_42 w_M_thrown d_L_law_290 (by omega) rfl rfl rfl) (Nat.le_of_ble_eq_true rfl) (by omega) (by omega) (by omega) (by omega) (fun v n' σ' hv => ?_) (fun x n' σ' hv => ?_)
    · obtain ⟨e0, e1, rfl⟩ := hv
      cases e0
      obtain rfl : n = n' := e1.symm
      rw [mx_comm]
      refine z_iload C 295 d_L_law_293 rfl rfl ?_
      refine z_icmp_eq C 298 300 d_L_law_295 rfl (by decide) (fun _ => ?_) (fun h9 => absurd hc h9)
      refine z_iload C 302 d_L_law_300 rfl rfl ?_
      refine z_if_ne C 305 317 d_L_law_302 rfl (by decide) (fun hz => ?_) (fun hz => ?_)
      · refine z_goto C 435 d_L_law_317 (by decide) ?_
        exact Z.lvs (lv' := lv0 t) (fun q hq => List.mem_cons_of_mem _ (List.mem_cons_of_mem _ hq)) (hF _ _ _ _ _ _ _ _ _ _ _ _ _ (by omega) (by omega) ho h (by omega) (by omega))
      · have hc0 : code = 0 := Decidable.byContradiction fun q => absurd hz (nI_ne0 (by omega) (by omega))
        obtain ⟨g, hg, hg0⟩ := hv0 hc0
        refine z_aload_n C 306 d_L_law_305 rfl rfl ?_
        refine z_iconst C 307 d_L_law_306 rfl 0 (by decide) ?_
        refine z_lald C 308 0 d_L_law_307 rfl (by omega) ((l_at (by decide)).trans hg) rfl (by decide) (by decide) ?_
        refine z_iload C 310 d_L_law_308 rfl rfl ?_
        refine z_i2l C 311 d_L_law_310 rfl ?_
        refine z_lcmp C 312 d_L_law_311 rfl ?_
        refine z_if_eq C 315 317 d_L_law_312 rfl (by decide) (fun _ => ?_) (fun h9 => absurd ((lg_cmp_eq _ _).mpr (by rw [hvv hc0]; exact hg0)) h9)
        refine z_goto C 435 d_L_law_317 (by decide) ?_
        exact Z.lvs (lv' := lv0 t) (fun q hq => List.mem_cons_of_mem _ (List.mem_cons_of_mem _ hq)) (hF _ _ _ _ _ _ _ _ _ _ _ _ _ (by omega) (by omega) ho h (by omega) (by omega))
    · cases hv.1
  · obtain ⟨S', A', L', rn', v', e0, -⟩ := hv
    cases e0
theorem l_c1 (C : zC G K y_L_law b_L_law 7 (some .boolean) []) (hr : lRoom K Ls) (hF : lFin G K FR t) (a : lAt FR Ls t n σ xs xr xa xl xf S A L rn k1 k2) (hC : lCall G (kl K) FR 2 y_S_define b_S_define 3 [.ref 0] y_M_define b_M_define 4 [.ref 85] n σ xs xr xa xl xf S A L rn) : Z G K n (xOv xs xr xa xl xf (mOv S A L rn σ)) k1 k2 123 (lv0 t) [] := by
  obtain ⟨ht, hn, hn2, ho, hk1, hk2, h⟩ := a
  have hr' := hr
  obtain ⟨r1, r2, r3, r4⟩ := hr
  obtain ⟨d, mc, ms, dM, hd, hdM, hmc, hms, post, hM, hpost⟩ := hC
  have hok : lOk post 2 := fun o n' σ' hp => by
    obtain ⟨p1, p2, xs', xr', xa', xl', xf', σ1, code, v, rfl, p3, p4, -⟩ := hpost o n' σ' hp
    refine ⟨by omega, ?_, ?_⟩
    · obtain ⟨g, hg⟩ := ho
      exact ⟨g, (l_at (by decide)).trans (p3.trans hg)⟩
    · rcases p4 with ⟨-, rfl⟩ | ⟨x, c, -, hc, hx, hx2, rfl, hcell⟩
      · exact Or.inl ⟨v, rfl⟩
      · exact Or.inr ⟨x, c, rfl, hx2, hc, (l_at (by omega)).trans hcell⟩
  refine z_aload_n C 124 d_L_law_123 rfl rfl ?_
  refine z_aload_n C 125 d_L_law_124 rfl rfl ?_
  refine z_call C 128 (c_L_define hM hok (by omega) ⟨_, rfl⟩) w_L_define ini_L d_L_law_125 rfl (z_goS (As := [.ref 0, .ref 113]) C l_L_36 w_L_define nm_L_define d_L_law_125 rfl) (Nat.le_of_ble_eq_true rfl) (by omega) (by omega) (by omega) (by omega) (fun v n' σ' hv => ?_) (fun x n' σ' hv => ?_)
  · rcases hv with ⟨v0, σ0, g, hp, hg, e0, rfl⟩ | ⟨x, c, hp, hcx, e0⟩
    · cases e0
      obtain ⟨p1, p2, xs', xr', xa', xl', xf', σ1, code, v, rfl, p3, p4, p5⟩ := hpost _ _ _ hp
      have b1 : n' ≤ 114 + 1000 * (t + 1) := Nat.le_trans p2 (by rw [Nat.mul_succ, ← Nat.add_assoc]; exact Nat.add_le_add_right hn2 1000)
      have b2 : k1 + mc ≤ 114 + 1000 * (t + 1) := by rw [Nat.mul_succ, ← Nat.add_assoc]; exact Nat.add_le_add hk1 hmc
      have b3 : k2 + ms ≤ 27457 + 14000 * (t + 1) := by rw [Nat.mul_succ, ← Nat.add_assoc]; exact Nat.add_le_add hk2 hms
      rcases p4 with ⟨rfl, p4⟩ | ⟨x, c, -, -, -, -, p4, -⟩
      · cases p4
        rw [l_up]
        refine l_1d (code := 0) C hr' hF ht (Nat.le_trans hn p1) b1 ⟨_, va_up_self _ _ _⟩ b2 b3 (by decide) hdM (fun _ => ⟨_, va_up_self _ _ _, ?_⟩) (p5 _ _ (fun i hi => va_up_ne _ _ hi))
        exact if_pos rfl
      · cases p4
    · cases e0
      obtain ⟨p1, p2, xs', xr', xa', xl', xf', σ1, code, v, rfl, p3, p4, p5⟩ := hpost _ _ _ hp
      have b1 : n' ≤ 114 + 1000 * (t + 1) := Nat.le_trans p2 (by rw [Nat.mul_succ, ← Nat.add_assoc]; exact Nat.add_le_add_right hn2 1000)
      have b2 : k1 + mc ≤ 114 + 1000 * (t + 1) := by rw [Nat.mul_succ, ← Nat.add_assoc]; exact Nat.add_le_add hk1 hmc
      have b3 : k2 + ms ≤ 27457 + 14000 * (t + 1) := by rw [Nat.mul_succ, ← Nat.add_assoc]; exact Nat.add_le_add hk2 hms
      rcases p4 with ⟨-, p4⟩ | ⟨x', c', rfl, hc, hx, hx2, p4, hcell⟩
      · cases p4
      · cases p4
        rw [l_at (by omega), hcell] at hcx
        have hcc : c' = c := by
          have q := congrArg Prod.fst (Sum.inr.inj hcx)
          have q : 9 + c' = 9 + c := q
          omega
        subst hcc
        exact l_1d (code := c' + 1) C hr' hF ht (Nat.le_trans hn p1) b1 (ho.elim fun g hg => ⟨g, p3.trans hg⟩) b2 b3 (by omega) hdM (fun q => absurd q (by omega)) (p5 _ _ (fun i _ => rfl))
  · rcases hv with ⟨v0, σ0, g, hp, hg, e0, -⟩ | ⟨x, c, hp, hcx, e0⟩ <;> cases e0
theorem l_c5 (C : zC G K y_L_law b_L_law 7 (some .boolean) []) (hX : zOld G K Ls f) (hr : lRoom K Ls) (hF : lFin G K FR t) (a : lAt FR Ls t n σ xs xr xa xl xf S A L rn k1 k2) (hC : lCall G (kl K) FR 5 y_S_run b_S_run 3 [.ref 0, .int ((f (4 * t + 1)).toUInt32 % 65536).toInt32] y_M_run b_M_run 5 [.ref 85, .int ((f (4 * t + 1)).toUInt32 % 65536).toInt32] n σ xs xr xa xl xf S A L rn) : Z G K n (xOv xs xr xa xl xf (mOv S A L rn σ)) k1 k2 262 (lv0 t) [] := by
  obtain ⟨ht, hn, hn2, ho, hk1, hk2, h⟩ := a
  have hr' := hr
  obtain ⟨r1, r2, r3, r4⟩ := hr
  obtain ⟨d, mc, ms, dM, hd, hdM, hmc, hms, post, hM, hpost⟩ := hC
  have hok : lOk post 5 := fun o n' σ' hp => by
    obtain ⟨p1, p2, xs', xr', xa', xl', xf', σ1, code, v, rfl, p3, p4, -⟩ := hpost o n' σ' hp
    refine ⟨by omega, ?_, ?_⟩
    · obtain ⟨g, hg⟩ := ho
      exact ⟨g, (l_at (by decide)).trans (p3.trans hg)⟩
    · rcases p4 with ⟨-, rfl⟩ | ⟨x, c, -, hc, hx, hx2, rfl, hcell⟩
      · exact Or.inl ⟨v, rfl⟩
      · exact Or.inr ⟨x, c, rfl, hx2, hc, (l_at (by omega)).trans hcell⟩
  refine z_aload_n C 263 d_L_law_262 rfl rfl ?_
  refine z_aload_n C 264 d_L_law_263 rfl rfl ?_
  refine z_iload C 266 d_L_law_264 rfl rfl ?_
  refine z_iconst C 267 d_L_law_266 rfl 1 (by decide) ?_
  refine z_iadd C 268 d_L_law_267 rfl ?_
  refine z_iald0 C 269 (4 * t + 1) d_L_law_268 rfl hX (nI_add _ 1) (by omega) ?_
  refine z_i2c C 270 d_L_law_269 rfl ?_
  refine z_aload_n C 271 d_L_law_270 rfl rfl ?_
  refine z_call C 274 (c_L_run hM hok (by omega) ⟨_, rfl⟩) w_L_run ini_L d_L_law_271 rfl (z_goS (As := [.ref 0, .int ((f (4 * t + 1)).toUInt32 % 65536).toInt32, .ref 113]) C l_L_60 w_L_run nm_L_run d_L_law_271 rfl) (Nat.le_of_ble_eq_true rfl) (by omega) (by omega) (by omega) (by omega) (fun v n' σ' hv => ?_) (fun x n' σ' hv => ?_)
  · rcases hv with ⟨v0, σ0, g, hp, hg, e0, rfl⟩ | ⟨x, c, hp, hcx, e0⟩
    · cases e0
      obtain ⟨p1, p2, xs', xr', xa', xl', xf', σ1, code, v, rfl, p3, p4, p5⟩ := hpost _ _ _ hp
      have b1 : n' ≤ 114 + 1000 * (t + 1) := Nat.le_trans p2 (by rw [Nat.mul_succ, ← Nat.add_assoc]; exact Nat.add_le_add_right hn2 1000)
      have b2 : k1 + mc ≤ 114 + 1000 * (t + 1) := by rw [Nat.mul_succ, ← Nat.add_assoc]; exact Nat.add_le_add hk1 hmc
      have b3 : k2 + ms ≤ 27457 + 14000 * (t + 1) := by rw [Nat.mul_succ, ← Nat.add_assoc]; exact Nat.add_le_add hk2 hms
      rcases p4 with ⟨rfl, p4⟩ | ⟨x, c, -, -, -, -, p4, -⟩
      · cases p4
        rw [l_up]
        refine l_1r (code := 0) C hX hr' hF ht (Nat.le_trans hn p1) b1 ⟨_, va_up_self _ _ _⟩ b2 b3 (by decide) hdM (fun _ => ⟨_, va_up_self _ _ _, ?_⟩) (p5 _ _ (fun i hi => va_up_ne _ _ hi))
        exact if_pos rfl
      · cases p4
    · cases e0
      obtain ⟨p1, p2, xs', xr', xa', xl', xf', σ1, code, v, rfl, p3, p4, p5⟩ := hpost _ _ _ hp
      have b1 : n' ≤ 114 + 1000 * (t + 1) := Nat.le_trans p2 (by rw [Nat.mul_succ, ← Nat.add_assoc]; exact Nat.add_le_add_right hn2 1000)
      have b2 : k1 + mc ≤ 114 + 1000 * (t + 1) := by rw [Nat.mul_succ, ← Nat.add_assoc]; exact Nat.add_le_add hk1 hmc
      have b3 : k2 + ms ≤ 27457 + 14000 * (t + 1) := by rw [Nat.mul_succ, ← Nat.add_assoc]; exact Nat.add_le_add hk2 hms
      rcases p4 with ⟨-, p4⟩ | ⟨x', c', rfl, hc, hx, hx2, p4, hcell⟩
      · cases p4
      · cases p4
        rw [l_at (by omega), hcell] at hcx
        have hcc : c' = c := by
          have q := congrArg Prod.fst (Sum.inr.inj hcx)
          have q : 9 + c' = 9 + c := q
          omega
        subst hcc
        exact l_1r (code := c' + 1) C hX hr' hF ht (Nat.le_trans hn p1) b1 (ho.elim fun g hg => ⟨g, p3.trans hg⟩) b2 b3 (by omega) hdM (fun q => absurd q (by omega)) (p5 _ _ (fun i _ => rfl))
  · rcases hv with ⟨v0, σ0, g, hp, hg, e0, -⟩ | ⟨x, c, hp, hcx, e0⟩ <;> cases e0
end LW3
