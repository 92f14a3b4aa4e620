section DEF
variable {G : zG} {l : Launch} {n z : Nat} {σ : zS} {xs : mS} {xr : Int64} {xa : mA} {xl : mL} {xf : xF} {E : Nat → eN} {A : mA}
def xD (xs : mS) : mS := upd (upd (upd xs 0 0) 1 0) 4 (-1)
theorem c_S_define_ill {q : Nat} (hn : 114 ≤ n) (hn2 : n < 800000) (h1 : xs 1 = nI z) (hz : z ≤ 150) (hc : ∀ i, i < 150 → narrow .char (.int (xa 1 i)) = .int (xa 1 i)) (hrf : rdF (xa 1) z A E (fun _ => 0) (fun _ => 0) (fun _ => 0) = .inl q) : MetZ G l y_S_define b_S_define 3 (some .int) [] 43 340 2300 [.ref 0] n (xOv xs xr xa xl xf σ) (gIll n σ (xD xs) xr xa xl xf q) := by
  have hgp : gPre n 0 z (va_up σ n (rdC 0 z)) xa := ⟨hn, hn2, va_up_self _ _ _, hz, Nat.zero_le _, hc⟩
  refine MetZ.of (by decide) (Nat.le_of_ble_eq_true rfl) (fun K hK hR hpo hmc hms C => ?_)
  refine z_aload_n C 1 d_S_define_0 rfl rfl ?_
  refine z_get C 4 f_S_41 d_S_define_1 rfl (by omega) rfl rfl ?_
  refine z_istore_n C 5 d_S_define_4 rfl (by decide) ?_
  refine z_aload_n C 6 d_S_define_5 rfl rfl ?_
  refine z_iconst C 7 d_S_define_6 rfl 0 (by decide) ?_
  refine zx_put0 C 10 0 p_S_37 d_S_define_7 rfl (by omega) (by decide) (by decide) rfl ?_
  refine z_aload_n C 11 d_S_define_10 rfl rfl ?_
  refine z_iconst C 12 d_S_define_11 rfl 0 (by decide) ?_
  refine zx_put0 C 15 1 p_S_41 d_S_define_12 rfl (by omega) (by decide) (by decide) rfl ?_
  refine z_aload_n C 16 d_S_define_15 rfl rfl ?_
  refine z_get C 19 f_S_16 d_S_define_16 rfl (by omega) rfl rfl ?_
  refine z_iconst C 20 d_S_define_19 rfl (-1) (by decide) ?_
  refine zx_put2 C 23 p_S_54 d_S_define_20 rfl (by omega) ?_
  refine z_new C 26 n_S_57 d_S_define_23 rfl (by omega) (by rw [hR]; simp only [zRm]; omega) (by rw [hR]; simp only [zRm]; omega) ?_
  rw [xOv_up (by omega)]
  refine z_dup C 27 d_S_define_26 rfl rfl ?_
  refine z_aload_n C 28 d_S_define_27 rfl rfl ?_
  refine z_get C 31 f_S_9 d_S_define_28 rfl (by omega) rfl rfl ?_
  refine z_iload_n C 32 d_S_define_31 rfl rfl ?_
  refine z_aload_n C 33 d_S_define_32 rfl rfl ?_
  refine z_get C 36 f_S_16 d_S_define_33 rfl (by omega) rfl rfl ?_
  rw [← xOv_up (by omega), h1]
  refine z_call C 39 (c_R_init (by omega) (nI z)) w_R_init ini_R d_S_define_36 rfl (z_goI (As := [.ref 1, .int (nI z), .ref 2]) C l_S_59 w_R_init d_S_define_36 rfl) (Nat.le_of_ble_eq_true rfl) (by rw [hR]; simp only [zRm]; omega) (by rw [hR]; simp only [zRm]; omega) (by rw [hR]; simp only [zRm]; omega) (by rw [hR]; simp only [zRm]; omega) (fun v n' σ' hv => ?_) (fun x n' σ' hv => ?_)
  rotate_left
  · cases hv.1
  obtain ⟨e0, rfl, rfl⟩ := hv
  cases e0
  rw [xOv_up (by omega)]
  have RF := c_R_readFunction (G := G) (l := l) (A := A) (E := E) (xs := xD xs) (xr := xr) (xl := xl) (xf := xf) hgp
  rw [hrf] at RF
  refine z_call C 42 ((by rw [← hK] at RF; exact RF)) w_R_readFunction ini_R d_S_define_39 rfl (z_goV (As := []) C l_S_62 w_R_readFunction d_S_define_39 (by omega) (((xOv_at (by omega)).trans (va_up_self _ _ _))) rfl rfl) (Nat.le_of_ble_eq_true rfl) (by rw [hR]; simp only [zRm]; omega) (by rw [hR]; simp only [zRm]; omega) (by rw [hR]; simp only [zRm]; omega) (by rw [hR]; simp only [zRm]; omega) (fun v n' σ' hv => ?_) (fun x n' σ' hv => ?_)
  · obtain ⟨x, τ, e0, -⟩ := hv
    cases e0
  · obtain ⟨x, τ, e0, e1, e2, e3, e4, e5, e6⟩ := hv
    cases e0
    subst e4
    exact zx_out C (fun h hh => nomatch hh) (by rw [hpo]; exact ⟨x, τ, rfl, e1, e2, e3, rfl, e5, fun k hk => (e6 k hk).trans (va_up_ne _ _ (by omega))⟩) (by rw [hmc]; omega) (by rw [hms]; omega)
def clW (clO : Nat → Option cF) (f F cn : Nat) (Y : mS) (rt : Int32) : Nat → Option cF := fun g => if g = f then some (F, cn, Y, rt) else clO g
/-- the functions that there are, as the Checker sees them -/
def clOk (n : Nat) (σ : zS) (xf : xF) (clO : Nat → Option cF) : Prop := ∀ g, g < 8 → (xf g = none ∧ clO g = none) ∨ ∃ a cn Y res, xf g = some a ∧ clO g = some (a, cn, Y, res) ∧ 114 ≤ a ∧ a + 4 ≤ n ∧ σ (a + 3) = .inl (0, 4, .inl Y) ∧ cn ≤ 4 ∧ ∃ bd, σ a = gF a (nI g) cn res bd
/-- what a text that is read gives -/
def rdOk (a : rF) (f : Nat) : Prop := f < 8 ∧ a.1 = nI f ∧ a.2.1 ≤ 4 ∧ (∀ k, k < a.2.1 → ∃ v, v < 20 ∧ a.2.2.1 k = nI v) ∧ 0 < a.2.2.2.2.2.2.2.1 ∧ a.2.2.2.2.2.2.2.1 ≤ 150 ∧ eWf a.2.2.2.2.2.2.2.1 a.2.2.2.2.2.2.2.2.2 ∧ eDp a.2.2.2.2.2.2.2.2.2 8 0
/-- the cells of a function that has been defined -/
def gCells (F : Nat) (f cn : Nat) (V Y : mS) (rt : Int32) (N : Nat) (E : Nat → eN) (τ : zS) : Prop := τ F = gF F (nI f) cn rt (some (F + 4)) ∧ τ (F + 1) = .inl (0, 4, .inl V) ∧ τ (F + 3) = .inl (0, 4, .inl Y) ∧ ∀ i, i < N → τ (F + 4 + 2 * i) = eCell (F + 4) i (E i) ∧ τ (F + 4 + 2 * i + 1) = eParts (F + 4) (E i)
theorem c_S_define_ok {a : rF} {f : Nat} {clO : Nat → Option cF} (hn : 114 ≤ n) (hn2 : n < 800000) (h1 : xs 1 = nI z) (hz : z ≤ 150) (hc : ∀ i, i < 150 → narrow .char (.int (xa 1 i)) = .int (xa 1 i)) (hrf : rdF (xa 1) z A E (fun _ => 0) (fun _ => 0) (fun _ => 0) = .inr a) (hok : rdOk a f) (hcl : clOk n σ xf clO) :
    MetZ G l y_S_define b_S_define 3 (some .int) [] 43 340 2300 [.ref 0] n (xOv xs xr xa xl xf σ) (fun o n' σ' => match chk (clW clO f (n + 1) a.2.1 a.2.2.2.2.1 a.2.2.2.2.2.1) (xf f) a.2.1 a.2.2.1 a.2.2.2.1 a.2.2.2.2.1 a.2.2.2.2.2.1 a.2.2.2.2.2.2.2.2.2 with
      | .inl q => ∃ (x : Nat) (τ : zS), o = .threw x ∧ n' = x + 1 ∧ n < x ∧ x ≤ n + 310 ∧ σ' = xOv (upd (xD xs) 4 q) xr xa xl xf τ ∧ τ x = .inr (10, []) ∧ ∀ k, k < n → τ k = σ k
      | .inr (_, s) => o = .returned (some (.int (xs 2 + 1))) ∧ n + 6 < n' ∧ n' ≤ n + 310 ∧ ∃ τ, σ' = xOv (upd (xD xs) 2 (xs 2 + 1)) xr xa xl (va_up xf f (some (n + 1))) τ ∧ (∀ k, k < n → τ k = σ k) ∧ n + 5 + 2 * a.2.2.2.2.2.2.2.1 ≤ n' ∧ gCells (n + 1) f a.2.1 a.2.2.1 a.2.2.2.2.1 a.2.2.2.2.2.1 a.2.2.2.2.2.2.2.1 s.2.2 τ) := by
  obtain ⟨fI, cn, V, P, Y, rt, s⟩ := a
  obtain ⟨hf8, hfI, hcn, hvs, hN0, hN, hwf, hdp⟩ := hok
  dsimp only at hf8 hfI hcn hvs hN0 hN hwf hdp ⊢
  subst hfI
  obtain ⟨res, hres⟩ : ∃ x, chk (clW clO f (n + 1) cn Y rt) (xf f) cn V P Y rt s.2.2.2 = x := ⟨_, rfl⟩
  rw [hres]
  have hgp : gPre n 0 z (va_up σ n (rdC 0 z)) xa := ⟨hn, hn2, va_up_self _ _ _, hz, Nat.zero_le _, hc⟩
  refine MetZ.of (by decide) (Nat.le_of_ble_eq_true rfl) (fun K hK hR hpo hmc hms C => ?_)
  refine z_aload_n C 1 d_S_define_0 rfl rfl ?_
  refine z_get C 4 f_S_41 d_S_define_1 rfl (by omega) rfl rfl ?_
  refine z_istore_n C 5 d_S_define_4 rfl (by decide) ?_
  refine z_aload_n C 6 d_S_define_5 rfl rfl ?_
  refine z_iconst C 7 d_S_define_6 rfl 0 (by decide) ?_
  refine zx_put0 C 10 0 p_S_37 d_S_define_7 rfl (by omega) (by decide) (by decide) rfl ?_
  refine z_aload_n C 11 d_S_define_10 rfl rfl ?_
  refine z_iconst C 12 d_S_define_11 rfl 0 (by decide) ?_
  refine zx_put0 C 15 1 p_S_41 d_S_define_12 rfl (by omega) (by decide) (by decide) rfl ?_
  refine z_aload_n C 16 d_S_define_15 rfl rfl ?_
  refine z_get C 19 f_S_16 d_S_define_16 rfl (by omega) rfl rfl ?_
  refine z_iconst C 20 d_S_define_19 rfl (-1) (by decide) ?_
  refine zx_put2 C 23 p_S_54 d_S_define_20 rfl (by omega) ?_
  refine z_new C 26 n_S_57 d_S_define_23 rfl (by omega) (by rw [hR]; simp only [zRm]; omega) (by rw [hR]; simp only [zRm]; omega) ?_
  rw [xOv_up (by omega)]
  refine z_dup C 27 d_S_define_26 rfl rfl ?_
  refine z_aload_n C 28 d_S_define_27 rfl rfl ?_
  refine z_get C 31 f_S_9 d_S_define_28 rfl (by omega) rfl rfl ?_
  refine z_iload_n C 32 d_S_define_31 rfl rfl ?_
  refine z_aload_n C 33 d_S_define_32 rfl rfl ?_
  refine z_get C 36 f_S_16 d_S_define_33 rfl (by omega) rfl rfl ?_
  rw [← xOv_up (by omega), h1]
  refine z_call C 39 (c_R_init (by omega) (nI z)) w_R_init ini_R d_S_define_36 rfl (z_goI (As := [.ref 1, .int (nI z), .ref 2]) C l_S_59 w_R_init d_S_define_36 rfl) (Nat.le_of_ble_eq_true rfl) (by rw [hR]; simp only [zRm]; omega) (by rw [hR]; simp only [zRm]; omega) (by rw [hR]; simp only [zRm]; omega) (by rw [hR]; simp only [zRm]; omega) (fun v n' σ' hv => ?_) (fun x n' σ' hv => ?_)
  rotate_left
  · cases hv.1
  obtain ⟨e0, rfl, rfl⟩ := hv
  cases e0
  rw [xOv_up (by omega)]
  have RF := c_R_readFunction (G := G) (l := l) (A := A) (E := E) (xs := xD xs) (xr := xr) (xl := xl) (xf := xf) hgp
  rw [hrf] at RF
  refine z_call C 42 ((by rw [← hK] at RF; exact RF)) w_R_readFunction ini_R d_S_define_39 rfl (z_goV (As := []) C l_S_62 w_R_readFunction d_S_define_39 (by omega) (((xOv_at (by omega)).trans (va_up_self _ _ _))) rfl rfl) (Nat.le_of_ble_eq_true rfl) (by rw [hR]; simp only [zRm]; omega) (by rw [hR]; simp only [zRm]; omega) (by rw [hR]; simp only [zRm]; omega) (by rw [hR]; simp only [zRm]; omega) (fun v n' σ' hv => ?_) (fun x n' σ' hv => ?_)
  rotate_left
  · cases hv.1
  obtain ⟨e0, e1, e2⟩ := hv
  cases e0
  have e1 : n' = n + 5 + 2 * s.2.1 := e1
  subst e1
  have e2 : σ' = xOv (xD xs) xr xa xl xf (eOv (n + 5) s.2.1 s.2.2.2 (gOv (n + 1) (gF (n + 1) (nI f) cn rt (some (n + 5))) V P Y (va_up (va_up σ n (rdC 0 z)) n (rdC s.1 z)))) := e2
  subst e2
  have hkp : kPre (n + 5) s.2.1 (n + 5 + 2 * s.2.1) (n + 1) (gOv (n + 1) (gF (n + 1) (nI f) cn rt (some (n + 5))) V P Y (va_up (va_up σ n (rdC 0 z)) n (rdC s.1 z))) xf (clW clO f (n + 1) cn Y rt) f := by
    refine ⟨by omega, by omega, rfl, by omega, hf8, ⟨cn, Y, rt, if_pos rfl⟩, fun g hg8 hgf => ?_, fun g a cn' Y' rt' hg8 hg => ?_⟩
    · rcases hcl g hg8 with ⟨h2, h3⟩ | ⟨a, cn', Y', rt', h2, h3, -⟩
      · exact Or.inl ⟨h2, (if_neg hgf).trans h3⟩
      · exact Or.inr ⟨a, cn', Y', rt', h2, (if_neg hgf).trans h3⟩
    · by_cases hgf : g = f
      · subst hgf
        have e : some (n + 1, cn, Y, rt) = some (a, cn', Y', rt') := (if_pos rfl : clW clO g (n + 1) cn Y rt g = _).symm.trans hg
        cases e
        exact ⟨by omega, by omega, gOv_3, hcn, _, gOv_0⟩
      · have e : clO g = some (a, cn', Y', rt') := (if_neg hgf : clW clO f (n + 1) cn Y rt g = _).symm.trans hg
        rcases hcl g hg8 with ⟨h2, h3⟩ | ⟨a2, cn2, Y2, rt2, h2, h3, h4, h5, h6, h7, bd, h8⟩
        · rw [h3] at e; cases e
        · rw [h3] at e
          cases e
          exact ⟨h4, by omega, by rw [gOv_out (by omega), va_up_ne _ _ (by omega), va_up_ne _ _ (by omega)]; exact h6, h7, bd, by rw [gOv_out (by omega), va_up_ne _ _ (by omega), va_up_ne _ _ (by omega)]; exact h8⟩
  refine z_astore_n C 43 d_S_define_42 rfl (by decide) ?_
  refine z_new C 46 n_S_66 d_S_define_43 rfl (by omega) (by rw [hR]; simp only [zRm]; omega) (by rw [hR]; simp only [zRm]; omega) ?_
  refine z_dup C 47 d_S_define_46 rfl rfl ?_
  refine z_aload_n C 48 d_S_define_47 rfl rfl ?_
  refine z_aload_n C 49 d_S_define_48 rfl rfl ?_
  refine z_get C 52 f_S_22 d_S_define_49 rfl (by omega) ((va_up_ne _ _ (by omega)).trans rfl) rfl ?_
  refine z_aload_n C 53 d_S_define_52 rfl rfl ?_
  refine z_get C 56 f_S_16 d_S_define_53 rfl (by omega) ((va_up_ne _ _ (by omega)).trans rfl) rfl ?_
  refine z_call C 59 (c_C_init (by omega)) w_C_init ini_C d_S_define_56 rfl (z_goI (As := [.ref (n + 1), .ref 3, .ref 2]) C l_S_68 w_C_init d_S_define_56 rfl) (Nat.le_of_ble_eq_true rfl) (by rw [hR]; simp only [zRm]; omega) (by rw [hR]; simp only [zRm]; omega) (by rw [hR]; simp only [zRm]; omega) (by rw [hR]; simp only [zRm]; omega) (fun v n' σ' hv => ?_) (fun x n' σ' hv => ?_)
  rotate_left
  · cases hv.1
  obtain ⟨e0, rfl, rfl⟩ := hv
  cases e0
  rw [xOv_up (by omega), xOv_up (by omega)]
  have CK := c_C_check (G := G) (l := kl K) (xs := xD xs) (xr := xr) (xa := xa) (xl := xl) (mc := 1) (ms := 6) hkp gOv_0 gOv_1 gOv_2 gOv_3 hcn hvs hN0 hwf hdp (fun _ => ⟨Nat.le_refl _, Nat.le_refl _⟩)
  rw [hres] at CK
  refine z_call C 62 CK w_C_check ini_C d_S_define_59 rfl (z_goV (As := []) C l_S_71 w_C_check d_S_define_59 (by omega) (kSt_c (s := (fun _ => 0, 0, s.2.2.2)) (by omega)) rfl rfl) (Nat.le_of_ble_eq_true rfl) (by rw [hR]; simp only [zRm]; omega) (by rw [hR]; simp only [zRm]; omega) (by rw [hR]; simp only [zRm]; omega) (by rw [hR]; simp only [zRm]; omega) (fun v n' σ' hv => ?_) (fun x n' σ' hv => ?_)
  rotate_left
  · cases res with
    | inl q =>
      obtain ⟨e0, rfl, τ, rfl, e5, e6⟩ := hv
      cases e0
      exact zx_out C (fun h hh => nomatch hh) (by rw [hpo]; exact ⟨n + 5 + 2 * s.2.1 + 2, τ, rfl, rfl, by omega, by omega, rfl, e5, fun k hk => by rw [e6 k (by omega), gOv_out (by omega), va_up_ne _ _ (by omega), va_up_ne _ _ (by omega)]⟩) (by rw [hmc]; omega) (by rw [hms]; omega)
    | inr b => cases hv.1
  cases res with
  | inl q => cases hv.1
  | inr b =>
    obtain ⟨t, s'⟩ := b
    obtain ⟨e0, rfl, rfl⟩ := hv
    cases e0
    have hF : ∀ xs xf, kSt (n + 5) s.2.1 (n + 5 + 2 * s.2.1) (n + 1) (gOv (n + 1) (gF (n + 1) (nI f) cn rt (some (n + 5))) V P Y (va_up (va_up σ n (rdC 0 z)) n (rdC s.1 z))) xs xr xa xl xf s' (n + 1) = gF (n + 1) (nI f) cn rt (some (n + 5)) := fun xs xf => (kSt_lo rfl (by omega) (by omega)).trans gOv_0
    refine z_aload_n C 63 d_S_define_62 rfl rfl ?_
    refine z_get C 66 f_S_22 d_S_define_63 rfl (by omega) rfl rfl ?_
    refine z_aload_n C 67 d_S_define_66 rfl rfl ?_
    refine z_get C 70 f_S_74 d_S_define_67 rfl (by omega) (hF _ _) rfl ?_
    refine z_aload_n C 71 d_S_define_70 rfl rfl ?_
    refine z_aast C 72 (t := 4) f d_S_define_71 rfl (by omega) rfl rfl (by omega) (hF _ _) rfl rfl hf8 (by decide) ?_
    unfold kSt
    rw [xOv_f]
    refine z_aload_n C 73 d_S_define_72 rfl rfl ?_
    refine z_dup C 74 d_S_define_73 rfl rfl ?_
    refine z_get C 77 f_S_44 d_S_define_74 rfl (by omega) rfl rfl ?_
    refine z_iconst C 78 d_S_define_77 rfl 1 (by decide) ?_
    refine z_iadd C 79 d_S_define_78 rfl ?_
    refine zx_put0 C 82 2 p_S_44 d_S_define_79 rfl (by omega) (by decide) (by decide) rfl ?_
    refine z_aload_n C 83 d_S_define_82 rfl rfl ?_
    refine z_get C 86 f_S_44 d_S_define_83 rfl (by omega) rfl rfl ?_
    exact z_iret C rfl d_S_define_86 (by rw [hpo]; exact ⟨rfl, by omega, by omega, _, rfl, fun k hk => by rw [va_up_ne _ _ (by omega), va_up_ne _ _ (by omega), eOv_lo (by omega), gOv_out (by omega), va_up_ne _ _ (by omega), va_up_ne _ _ (by omega)], by show n + 5 + 2 * s.2.1 ≤ _; omega, by rw [va_up_ne _ _ (by omega), va_up_ne _ _ (by omega), eOv_lo (by omega), gOv_0], by rw [va_up_ne _ _ (by omega), va_up_ne _ _ (by omega), eOv_lo (by omega), gOv_1], by rw [va_up_ne _ _ (by omega), va_up_ne _ _ (by omega), eOv_lo (by omega), gOv_3], fun i hi => ⟨by rw [va_up_ne _ _ (by omega), va_up_ne _ _ (by omega)]; exact eOv_obj hi, by rw [va_up_ne _ _ (by omega), va_up_ne _ _ (by omega)]; exact eOv_prt hi⟩⟩) (by rw [hmc]; omega) (by rw [hms]; omega)
end DEF
