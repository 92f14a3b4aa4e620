theorem lN_clamp {a : Nat} (h : a < 2 ^ 31) : (lN a).toNatClampNeg = a := by
  show (lN a).toInt.toNat = a
  rw [lN_toInt h]
  rfl
theorem l_of {x : Int64} {b : Nat} (hb : b < 2 ^ 31) (h0 : 0 ≤ x) (h1 : x ≤ lN b) : ∃ a, a ≤ b ∧ x = lN a := by
  have e0 := Int64.le_iff_toInt_le.mp h0
  have e1 := Int64.le_iff_toInt_le.mp h1
  rw [lN_toInt hb] at e1
  have e2 : (0 : Int64).toInt = 0 := rfl
  rw [e2] at e0
  refine ⟨x.toInt.toNat, by omega, Int64.toInt_inj.mp ?_⟩
  rw [lN_toInt (by omega)]
  omega
theorem aInD_iff {a : aA} {i j : Int64} : aInD a i j = true ↔ (0 ≤ i ∧ i < (nI a.1).toInt64 ∧ 0 ≤ j ∧ j < (nI a.2.1).toInt64) := by
  unfold aInD
  simp only [Bool.and_eq_true, decide_eq_true_iff, and_assoc]
theorem l_idx {r c : Nat} {ct : Nat → Int64} {i j : Int64} (h : aInD (r, c, ct) i j = true) (hr : r ≤ 40) (hc : c ≤ 40) : ∃ i' j', i' < r ∧ j' < c ∧ i = lN i' ∧ j = lN j' ∧ aIdx (r, c, ct) i j = i' * c + j' ∧ i' * c + j' < r * c ∧ (i * (nI c).toInt64 + j).toInt32 = nI (i' * c + j') := by
  obtain ⟨h1, h2, h3, h4⟩ := aInD_iff.mp h
  have h2 : i < (nI r).toInt64 := h2
  have h4 : j < (nI c).toInt64 := h4
  rw [nI_l (by omega)] at h2 h4
  obtain ⟨i', hi, rfl⟩ := l_of (b := r) (by omega) h1 (Int64.le_of_lt h2)
  obtain ⟨j', hj, rfl⟩ := l_of (b := c) (by omega) h3 (Int64.le_of_lt h4)
  have hi2 := (lN_lt (by omega) (by omega)).mp h2
  have hj2 := (lN_lt (by omega) (by omega)).mp h4
  refine ⟨i', j', hi2, hj2, rfl, rfl, ?_, ?_, ?_⟩
  · unfold aIdx
    rw [lN_clamp (by omega), lN_clamp (by omega)]
  · have := Nat.mul_le_mul_right c (show i' + 1 ≤ r from hi2)
    rw [Nat.succ_mul] at this
    omega
  · rw [nI_l (by omega), lN_mul, lN_add, lN_i]
/-! the machine's steps -/
def gStart (n : Nat) (pl : gP) (vs : gV) (dp : Nat) (EV : gE) (m : Nat) (AR : Nat → aA) (k : aC) : gX := if k.1 = 400 then .inl (k, 5) else .inr ((n, 0) :: pl, vs, dp, EV, m, AR, (k.1 + 1, k.2))
def gMk (r c : Int64) (ct : Nat → Int64) (pl : gP) (vs : gV) (dp : Nat) (EV : gE) (m : Nat) (AR : Nat → aA) (k : aC) : gX := if 40 < r ∨ 40 < c ∨ 40 < r * c ∨ k.2.2.1 = 8 then .inl (k, 5) else .inr (pl, (0, nI m) :: vs, dp, EV, m + 1, va_up AR m (r.toNatClampNeg, c.toNatClampNeg, ct), (k.1, k.2.1 + 1, k.2.2.1 + 1, xmax k.2.2.2.1 (k.2.2.1 + 1), k.2.2.2.2))
def gNew (r c : Int64) (pl : gP) (vs : gV) (dp : Nat) (EV : gE) (m : Nat) (AR : Nat → aA) (k : aC) : gX := if r < 0 ∨ c < 0 then .inl (k, 2) else gMk r c (fun _ => 0) pl vs dp EV m AR k
def gJoin (op : Int32) (x y : Int64) (pl : gP) (vs : gV) (dp : Nat) (EV : gE) (m : Nat) (AR : Nat → aA) (k : aC) : gX := match aOp op x y with
  | .inl q => .inl (k, q)
  | .inr z => .inr (pl, (z, -1) :: vs, dp, EV, m, AR, k)
def gRd (a : Nat) (i j : Int64) (pl : gP) (vs : gV) (dp : Nat) (EV : gE) (m : Nat) (AR : Nat → aA) (k : aC) : gX := if aInD (AR a) i j = true then .inr (pl, ((AR a).2.2 (aIdx (AR a) i j), -1) :: vs, dp, EV, m, AR, k) else .inl (k, 3)
def gPu (a : Nat) (i j x : Int64) (pl : gP) (vs : gV) (dp : Nat) (EV : gE) (m : Nat) (AR : Nat → aA) (k : aC) : gX := if aInD (AR a) i j = true then .inr (pl, (0, nI m) :: vs, dp, EV, m + 1, va_up AR m ((AR a).1, (AR a).2.1, vp_updL (AR a).2.2 (aIdx (AR a) i j) x), (k.1, k.2.1, k.2.2.1, k.2.2.2.1, k.2.2.2.2 + 1)) else .inl (k, 3)
def gArgs (V : mS) (dp : Nat) (f : Nat → Int64 × Int32) : Nat → Nat → gE → gE
  | 0, _, EV => EV
  | m + 1, j, EV => gArgs V dp f m (j + 1) (gHold EV dp (cIx (V j)) (f j))
def gEnter (V : mS) (g c : Nat) (pl : gP) (vs : gV) (dp : Nat) (EV : gE) (m : Nat) (AR : Nat → aA) (k : aC) : gX := if dp = 7 then .inl (k, 5) else gStart (150 * g) pl (vs.drop c) (dp + 1) (gArgs V (dp + 1) (fun j => vs.getD (c - 1 - j) (0, 0)) c 0 EV) m AR k
def mGp (S0 : mS) (A0 : mA) (L0 : mL) (rn : Int64) (σ : zS) (n : Nat) (x : gX) : zPost := fun o' n' σ' => o' = .returned none ∧ n' = n ∧ ∃ S' A' L', σ' = mOv S' A' L' rn σ ∧ mX S0 A0 L0 x S' A' L'
section MGO
variable {G : zG} {l : Launch} {n : Nat} {σ : zS} {S0 S : mS} {A0 A : mA} {L0 L : mL} {rn : Int64} {pl : gP} {vs : gV} {dp m : Nat} {EV : gE} {AR : Nat → aA} {k : aC} {nd dn : Nat}
theorem mQ.lims (h : mQ S0 A0 L0 ((nd, dn) :: pl, vs, dp, EV, m, AR, k) S A L) : S 19 = nI (pl.length + 1) ∧ S 36 = nI vs.length ∧ S 33 = nI dp ∧ S 32 = nI m ∧ dp ≤ 7 ∧ m + (pl.length + 1) ≤ 400 ∧ vs.length + (pl.length + 1) ≤ 400 ∧ k.1 ≤ 400 := by
  obtain ⟨⟨h1, h2, h3, h4, h5⟩, ⟨l1, l2, l3, l4⟩, -⟩ := h
  have l2 : m + (pl.length + 1) ≤ k.1 := l2
  have l3 : vs.length + (pl.length + 1) ≤ k.1 := l3
  have l4 : k.1 ≤ 400 := l4
  exact ⟨h1, h2, h3, h4, l1, by omega, by omega, l4⟩
theorem c_M_startQ {x : Nat} (hn : 113 ≤ n) (hq : mQ S0 A0 L0 (pl, vs, dp, EV, m, AR, k) S A L) (hpl : pl.length < 80) : MetZ G l y_M_start b_M_start 2 none [] 1 0 0 [.ref 85, .int (nI x)] n (mOv S A L rn σ) (mGp S0 A0 L0 rn σ n (gStart x pl vs dp EV m AR k)) := by
  have h19 : S 19 = nI pl.length := hq.1.1
  have h39 : S 39 = nI k.1 := hq.2.2.1.1
  have hk : k.1 ≤ 400 := hq.2.1.2.2.2
  refine (c_M_start hn h19 hpl h39 hk).mono (fun o n' σ' h => ?_)
  obtain ⟨h1, h2, h3⟩ := h
  unfold rStart at h3
  unfold gStart
  by_cases q : k.1 = 400
  · rw [if_pos q] at h3 ⊢
    exact ⟨h1, h2, _, _, _, h3, hq.fault 5⟩
  · rw [if_neg q] at h3 ⊢
    exact ⟨h1, h2, _, _, _, h3, hq.start (by omega)⟩
theorem c_M_giveQ {x : Int64} {a : Int32} (hn : 113 ≤ n) (hq : mQ S0 A0 L0 ((nd, dn) :: pl, vs, dp, EV, m, AR, k) S A L) : MetZ G l y_M_give b_M_give 4 none [] 0 0 0 [.ref 85, .long x, .int a] n (mOv S A L rn σ) (mGp S0 A0 L0 rn σ n (.inr (pl, (x, a) :: vs, dp, EV, m, AR, k))) := by
  obtain ⟨h19, h36, h33, h32, l1, l2, l3, l4⟩ := hq.lims
  refine (c_M_give hn h19 h36 (by omega) x a).mono (fun o n' σ' h => ?_)
  obtain ⟨h1, h2, h3⟩ := h
  exact ⟨h1, h2, _, _, _, h3, hq.give⟩
theorem c_M_passQ (hn : 113 ≤ n) (hq : mQ S0 A0 L0 ((nd, dn) :: pl, vs, dp, EV, m, AR, k) S A L) : MetZ G l y_M_pass b_M_pass 1 none [] 0 0 0 [.ref 85] n (mOv S A L rn σ) (mGp S0 A0 L0 rn σ n (.inr (pl, vs, dp, EV, m, AR, k))) := by
  obtain ⟨h19, h36, h33, h32, l1, l2, l3, l4⟩ := hq.lims
  refine (c_M_pass hn h19).mono (fun o n' σ' h => ?_)
  obtain ⟨h1, h2, h3⟩ := h
  exact ⟨h1, h2, _, _, _, h3, hq.pass⟩
theorem c_M_makeOne {r c : Int64} {fr : Int32} {ct : Nat → Int64} (hn : 113 ≤ n) (hq : mQ S0 A0 L0 ((nd, dn) :: pl, vs, dp, EV, m, AR, k) S A L) (hr : 0 ≤ r) (hc : 0 ≤ c) (hfr : (fr < 0 ∧ ∀ j, ct j = 0) ∨ ∃ a, fr = nI a ∧ a < m ∧ r = lN (AR a).1 ∧ c = lN (AR a).2.1 ∧ ct = (AR a).2.2) : MetZ G l y_M_makeOne b_M_makeOne 6 none [] 1 0 0 [.ref 85, .long r, .long c, .int fr] n (mOv S A L rn σ) (mGp S0 A0 L0 rn σ n (gMk r c ct pl vs dp EV m AR k)) := by
  obtain ⟨h19, h36, h33, h32, l1, l2, l3, l4⟩ := hq.lims
  obtain ⟨-, -, ⟨c1, c2, c3, c4, c5⟩, -, -, -, har, -⟩ := id hq
  have c2 : S 40 = k.2.1 := c2
  have c3 : S 41 = k.2.2.1 := c3
  have c4 : S 42 = k.2.2.2.1 := c4
  unfold gMk
  refine MetZ.of (by decide) (Nat.le_of_ble_eq_true rfl) (fun K hK hR hpo hmc hms C => ?_)
  have flt : (40 < r ∨ 40 < c ∨ 40 < r * c ∨ k.2.2.1 = 8) → Z G K n (mOv S A L rn σ) 0 0 35 (lv_args 0 [.ref 85, .long r, .long c, .int fr]) [] := fun q => by
    rw [if_pos q] at hpo
    refine z_aload_n C 36 d_M_makeOne_35 rfl rfl ?_
    refine z_iconst C 37 d_M_makeOne_36 rfl 5 (by decide) ?_
    refine zm_puti C 40 p_M_222 d_M_makeOne_37 rfl hn (by decide) (rfl) rfl rfl ?_
    exact z_vret C rfl d_M_makeOne_40 (by rw [hpo]; exact ⟨rfl, rfl, _, _, _, rfl, hq.fault 5⟩) (by rw [hmc]; omega) (by rw [hms]; omega)
  refine z_lload_n C 1 d_M_makeOne_0 rfl rfl ?_
  refine z_ldc2 C 4 40 d_M_makeOne_1 rfl kl_M_231 ?_
  refine z_lcmp C 5 d_M_makeOne_4 rfl ?_
  refine z_if_gt C 8 35 d_M_makeOne_5 rfl (by decide) (fun q1 => ?_) (fun q1 => ?_)
  · exact flt (Or.inl ((lg_cmp_gt _ _).mp q1))
  have q1 : ¬ 40 < r := fun w => q1 ((lg_cmp_gt _ _).mpr w)
  refine z_lload_n C 9 d_M_makeOne_8 rfl rfl ?_
  refine z_ldc2 C 12 40 d_M_makeOne_9 rfl kl_M_231 ?_
  refine z_lcmp C 13 d_M_makeOne_12 rfl ?_
  refine z_if_gt C 16 35 d_M_makeOne_13 rfl (by decide) (fun q2 => ?_) (fun q2 => ?_)
  · exact flt (Or.inr (Or.inl ((lg_cmp_gt _ _).mp q2)))
  have q2 : ¬ 40 < c := fun w => q2 ((lg_cmp_gt _ _).mpr w)
  refine z_lload_n C 17 d_M_makeOne_16 rfl rfl ?_
  refine z_lload_n C 18 d_M_makeOne_17 rfl rfl ?_
  refine z_lmul C 19 d_M_makeOne_18 rfl ?_
  refine z_ldc2 C 22 40 d_M_makeOne_19 rfl kl_M_231 ?_
  refine z_lcmp C 23 d_M_makeOne_22 rfl ?_
  refine z_if_gt C 26 35 d_M_makeOne_23 rfl (by decide) (fun q3 => ?_) (fun q3 => ?_)
  · exact flt (Or.inr (Or.inr (Or.inl ((lg_cmp_gt _ _).mp q3))))
  have q3 : ¬ 40 < r * c := fun w => q3 ((lg_cmp_gt _ _).mpr w)
  refine z_aload_n C 27 d_M_makeOne_26 rfl rfl ?_
  refine zm_get C 30 f_M_233 d_M_makeOne_27 rfl hn rfl ?_
  refine z_bipush C 32 d_M_makeOne_30 rfl 8 (by decide) ?_
  refine z_icmp_ne C 35 41 d_M_makeOne_32 rfl (by decide) (fun q4 => ?_) (fun q4 => flt (Or.inr (Or.inr (Or.inr (by rw [← c3]; exact q4)))))
  have hnot : ¬ (40 < r ∨ 40 < c ∨ 40 < r * c ∨ k.2.2.1 = 8) := fun w => by
    rcases w with w | w | w | w
    · exact q1 w
    · exact q2 w
    · exact q3 w
    · exact q4 (by rw [c3]; exact w)
  rw [if_neg hnot] at hpo
  obtain ⟨r', hr40, rfl⟩ := l_of (b := 40) (by omega) hr (Int64.not_lt.mp q1)
  obtain ⟨c', hc40, rfl⟩ := l_of (b := 40) (by omega) hc (Int64.not_lt.mp q2)
  rw [lN_mul] at q3
  have hb : r' * c' ≤ 1600 := Nat.mul_le_mul hr40 hc40
  have hrc : r' * c' ≤ 40 := (lN_le (by omega) (by omega)).mp (Int64.not_lt.mp q3)
  rw [lN_clamp (show r' < 2 ^ 31 by omega), lN_clamp (show c' < 2 ^ 31 by omega)] at hpo
  have tail : Z G K n (mOv (upd (upd (upd S 41 (k.2.2.1 + 1)) 40 (k.2.1 + 1)) 42 (xmax k.2.2.2.1 (k.2.2.1 + 1))) A L rn σ) 0 0 87 (lv_args 0 [.ref 85, .long (lN r'), .long (lN c'), .int fr]) [] := by
    have hq2 := hq.counts (k.2.1 + 1) (k.2.2.1 + 1) (xmax k.2.2.2.1 (k.2.2.1 + 1))
    obtain ⟨S2, hS2⟩ : ∃ x, x = upd (upd (upd S 41 (k.2.2.1 + 1)) 40 (k.2.1 + 1)) 42 (xmax k.2.2.2.1 (k.2.2.1 + 1)) := ⟨_, rfl⟩
    rw [← hS2] at hq2 ⊢
    obtain ⟨g19, g36, g33, g32, -⟩ := hq2.lims
    have hM : ∃ src : Nat → Int64, ((fr < 0 ∧ ∀ j, j < r' * c' → src j = 0) ∨ ∃ a, fr = nI a ∧ a < m ∧ ∀ j, j < r' * c' → src j = L 104 (40 * a + j)) ∧ ∀ j, j < r' * c' → src j = ct j := by
      rcases hfr with ⟨w1, w2⟩ | ⟨a, w1, w2, w3, w4, w5⟩
      · exact ⟨fun _ => 0, Or.inl ⟨w1, fun _ _ => rfl⟩, fun j _ => (w2 j).symm⟩
      · obtain ⟨b1, b2, b3, b4, b5, b6⟩ := har a w2
        have b3 : (AR a).1 ≤ 40 := b3
        have b4 : (AR a).2.1 ≤ 40 := b4
        have e1 := (lN_eq (by omega) (by omega)).mp w3
        have e2 := (lN_eq (by omega) (by omega)).mp w4
        refine ⟨fun j => L 104 (40 * a + j), Or.inr ⟨a, w1, w2, fun _ _ => rfl⟩, fun j hj => ?_⟩
        rw [w5]
        exact b6 j (by show j < (AR a).1 * (AR a).2.1; rw [← e1, ← e2]; exact hj)
    obtain ⟨src, hs1, hs2⟩ := hM
    refine z_aload_n C 88 d_M_makeOne_87 rfl rfl ?_
    refine z_lconst C 89 d_M_makeOne_88 rfl 0 (by decide) ?_
    refine z_aload_n C 90 d_M_makeOne_89 rfl rfl ?_
    refine z_lload_n C 91 d_M_makeOne_90 rfl rfl ?_
    refine z_lload_n C 92 d_M_makeOne_91 rfl rfl ?_
    refine z_iload C 94 d_M_makeOne_92 rfl rfl ?_
    refine z_call C 97 (c_M_make (p := r' * c') hn g32 (by omega) (by rw [lN_mul, lN_i]) hrc hs1) w_M_make ini_M d_M_makeOne_94 rfl (z_goV (As := [.long (lN r'), .long (lN c'), .int fr]) C l_M_242 w_M_make d_M_makeOne_94 (by omega) rfl rfl rfl) (Nat.le_of_ble_eq_true rfl) (by rw [hR]; simp only [zRm]; omega) (by rw [hR]; simp only [zRm]; omega) (by rw [hR]; simp only [zRm]; omega) (by rw [hR]; simp only [zRm]; omega) (fun v n' σ' hv => ?_) (fun x n' σ' hv => ?_)
    rotate_left
    · cases hv.1
    obtain ⟨e0, e1, rfl⟩ := hv
    cases e0
    obtain rfl : n = n' := e1.symm
    refine z_call C 100 (c_M_give (o := pl.length) (v := vs.length) hn (show upd S2 32 (nI (m + 1)) 19 = nI (pl.length + 1) from g19) (show upd S2 32 (nI (m + 1)) 36 = nI vs.length from g36) (by omega) 0 (nI m)) w_M_give ini_M d_M_makeOne_97 rfl (z_goV (As := [.long 0, .int (nI m)]) C l_M_246 w_M_give d_M_makeOne_97 (by omega) rfl rfl rfl) (Nat.le_of_ble_eq_true rfl) (by rw [hR]; simp only [zRm]; omega) (by rw [hR]; simp only [zRm]; omega) (by rw [hR]; simp only [zRm]; omega) (by rw [hR]; simp only [zRm]; omega) (fun v n' σ' hv => ?_) (fun x n' σ' hv => ?_)
    rotate_left
    · cases hv.1
    obtain ⟨e0, e1, rfl⟩ := hv
    cases e0
    obtain rfl : n = n' := e1.symm
    exact z_vret C rfl d_M_makeOne_100 (by rw [hpo]; exact ⟨rfl, rfl, _, _, _, rfl, hq2.mk (lN_i r') (lN_i c') hr40 hc40 hrc rfl hs2⟩) (by rw [hmc]; omega) (by rw [hms]; omega)
  refine z_aload_n C 42 d_M_makeOne_41 rfl rfl ?_
  refine z_dup C 43 d_M_makeOne_42 rfl rfl ?_
  refine zm_get C 46 f_M_233 d_M_makeOne_43 rfl hn rfl ?_
  refine z_iconst C 47 d_M_makeOne_46 rfl 1 (by decide) ?_
  refine z_iadd C 48 d_M_makeOne_47 rfl ?_
  refine zm_puti C 51 p_M_233 d_M_makeOne_48 rfl hn (by decide) (rfl) rfl rfl ?_
  refine z_aload_n C 52 d_M_makeOne_51 rfl rfl ?_
  refine z_dup C 53 d_M_makeOne_52 rfl rfl ?_
  refine zm_get C 56 f_M_236 d_M_makeOne_53 rfl hn rfl ?_
  refine z_iconst C 57 d_M_makeOne_56 rfl 1 (by decide) ?_
  refine z_iadd C 58 d_M_makeOne_57 rfl ?_
  refine zm_puti C 61 p_M_236 d_M_makeOne_58 rfl hn (by decide) (rfl) rfl rfl ?_
  refine z_aload_n C 62 d_M_makeOne_61 rfl rfl ?_
  refine z_aload_n C 63 d_M_makeOne_62 rfl rfl ?_
  refine zm_get C 66 f_M_233 d_M_makeOne_63 rfl hn rfl ?_
  refine z_aload_n C 67 d_M_makeOne_66 rfl rfl ?_
  refine zm_get C 70 f_M_239 d_M_makeOne_67 rfl hn rfl ?_
  by_cases q : S 41 + 1 ≤ S 42
  · refine z_icmp_le C 73 80 d_M_makeOne_70 rfl (by decide) (fun _ => ?_) (fun h9 => absurd (show S 41 + 1 ≤ S 42 from q) h9)
    refine z_aload_n C 81 d_M_makeOne_80 rfl rfl ?_
    refine zm_get C 84 f_M_239 d_M_makeOne_81 rfl hn rfl ?_
    refine zm_puti C 87 p_M_239 d_M_makeOne_84 rfl hn (by decide) (rfl) rfl rfl ?_
    have e : mOv (upd (upd (upd S 41 (S 41 + 1)) 40 (S 40 + 1)) 42 (S 42)) A L rn σ = mOv (upd (upd (upd S 41 (k.2.2.1 + 1)) 40 (k.2.1 + 1)) 42 (xmax k.2.2.2.1 (k.2.2.1 + 1))) A L rn σ := by
      rw [c3, c4] at q
      rw [c2, c3, c4]
      unfold xmax
      rw [if_neg (Int32.not_lt.mpr q)]
    show Z G K n (mOv (upd (upd (upd S 41 (S 41 + 1)) 40 (S 40 + 1)) 42 (S 42)) A L rn σ) _ _ _ _ _
    rw [e]
    exact tail
  · refine z_icmp_le C 73 80 d_M_makeOne_70 rfl (by decide) (fun h9 => absurd h9 (show ¬ S 41 + 1 ≤ S 42 from q)) (fun _ => ?_)
    refine z_aload_n C 74 d_M_makeOne_73 rfl rfl ?_
    refine zm_get C 77 f_M_233 d_M_makeOne_74 rfl hn rfl ?_
    refine z_goto C 84 d_M_makeOne_77 (by decide) ?_
    refine zm_puti C 87 p_M_239 d_M_makeOne_84 rfl hn (by decide) (rfl) rfl rfl ?_
    have e : mOv (upd (upd (upd S 41 (S 41 + 1)) 40 (S 40 + 1)) 42 (S 41 + 1)) A L rn σ = mOv (upd (upd (upd S 41 (k.2.2.1 + 1)) 40 (k.2.1 + 1)) 42 (xmax k.2.2.2.1 (k.2.2.1 + 1))) A L rn σ := by
      rw [c3, c4] at q
      rw [c2, c3]
      unfold xmax
      rw [if_pos (Int32.not_le.mp q)]
    show Z G K n (mOv (upd (upd (upd S 41 (S 41 + 1)) 40 (S 40 + 1)) 42 (S 41 + 1)) A L rn σ) _ _ _ _ _
    rw [e]
    exact tail
theorem nI_subc (a b : Nat) : nI (a + b) - nI b = nI a := by
  rw [← nI_add, Int32.add_sub_cancel]
theorem c_M_join {op : Int32} {x y : Int64 × Int32} (hn : 113 ≤ n) (hq : mQ S0 A0 L0 ((nd, dn) :: pl, y :: x :: vs, dp, EV, m, AR, k) S A L) (hnd : nd < 1350) (h88 : A0 88 nd = op) : MetZ G l y_M_join b_M_join 6 none [] 1 0 0 [.ref 85, .int (nI nd)] n (mOv S A L rn σ) (mGp S0 A0 L0 rn σ n (gJoin op x.1 y.1 pl vs dp EV m AR k)) := by
  obtain ⟨h19, h36, h33, h32, l1, l2, l3, l4⟩ := hq.lims
  have h36 : S 36 = nI (vs.length + 2) := h36
  have l3 : vs.length + 2 + (pl.length + 1) ≤ 400 := l3
  have hA : A 88 nd = op := by rw [hq.2.2.2.2.2.2.2.2.1 88 (by decide)]; exact h88
  obtain ⟨hy, -, hx0, -, -⟩ := hq.2.2.2.2.1
  have hy : L 109 (vs.length + 1) = y.1 := hy
  have hx0 : L 109 vs.length = x.1 := hx0
  have hq1 : mQ S0 A0 L0 ((nd, dn) :: pl, vs, dp, EV, m, AR, k) (upd S 36 (nI vs.length)) A L := hq.pop 2
  have e36 : S 36 - 2 = nI vs.length := by rw [h36]; exact nI_subc vs.length 2
  unfold gJoin aOp
  refine MetZ.of (by decide) (Nat.le_of_ble_eq_true rfl) (fun K hK hR hpo hmc hms C => ?_)
  refine z_aload_n C 1 d_M_join_0 rfl rfl ?_
  refine z_dup C 2 d_M_join_1 rfl rfl ?_
  refine zm_get C 5 f_M_225 d_M_join_2 rfl hn rfl ?_
  refine z_iconst C 6 d_M_join_5 rfl 2 (by decide) ?_
  refine z_isub C 7 d_M_join_6 rfl ?_
  refine zm_puti C 10 p_M_225 d_M_join_7 rfl hn (by decide) (rfl) rfl rfl ?_
  rw [e36]
  refine z_aload_n C 11 d_M_join_10 rfl rfl ?_
  refine zm_get C 14 f_M_86 d_M_join_11 rfl hn rfl ?_
  refine z_aload_n C 15 d_M_join_14 rfl rfl ?_
  refine zm_get C 18 f_M_225 d_M_join_15 rfl hn rfl ?_
  refine zm_lald C 19 vs.length d_M_join_18 rfl hn (by decide) (by decide) (by decide) rfl (by show vs.length < 400; omega) (by decide) ?_
  rw [hx0]
  refine z_lstore_n C 20 d_M_join_19 rfl (by decide) ?_
  refine z_aload_n C 21 d_M_join_20 rfl rfl ?_
  refine zm_get C 24 f_M_86 d_M_join_21 rfl hn rfl ?_
  refine z_aload_n C 25 d_M_join_24 rfl rfl ?_
  refine zm_get C 28 f_M_225 d_M_join_25 rfl hn rfl ?_
  refine z_iconst C 29 d_M_join_28 rfl 1 (by decide) ?_
  refine z_iadd C 30 d_M_join_29 rfl ?_
  refine zm_lald C 31 (vs.length+1) d_M_join_30 rfl hn (by decide) (by decide) (by decide) (nI_1 vs.length) (by show vs.length + 1 < 400; omega) (by decide) ?_
  rw [hy]
  refine z_lstore C 33 d_M_join_31 rfl (by decide) ?_
  refine z_aload_n C 34 d_M_join_33 rfl rfl ?_
  refine zm_get C 37 f_M_21 d_M_join_34 rfl hn rfl ?_
  refine z_iload_n C 38 d_M_join_37 rfl rfl ?_
  refine zm_iald C 39 nd d_M_join_38 rfl hn (by decide) (by decide) (by decide) rfl (by show nd < 1350; omega) (by decide) ?_
  rw [hA]
  refine z_bipush C 41 d_M_join_39 rfl 47 (by decide) ?_
  by_cases q47 : op = 47
  · subst q47
    refine z_icmp_ne C 44 57 d_M_join_41 rfl (by decide) (fun h9 => absurd rfl h9) (fun _ => ?_)
    refine z_lload C 46 d_M_join_44 rfl rfl ?_
    refine z_lconst C 47 d_M_join_46 rfl 0 (by decide) ?_
    refine z_lcmp C 48 d_M_join_47 rfl ?_
    by_cases q0 : y.1 = 0
    · refine z_if_ne C 51 57 d_M_join_48 rfl (by decide) (fun h9 => absurd ((lg_cmp_eq _ _).mpr q0) h9) (fun _ => ?_)
      refine z_aload_n C 52 d_M_join_51 rfl rfl ?_
      refine z_iconst C 53 d_M_join_52 rfl 4 (by decide) ?_
      refine zm_puti C 56 p_M_222 d_M_join_53 rfl hn (by decide) (rfl) rfl rfl ?_
      exact z_vret C rfl d_M_join_56 (by rw [hpo]; exact ⟨rfl, rfl, _, _, _, rfl, by rw [if_pos q0]; exact hq1.fault 4⟩) (by rw [hmc]; omega) (by rw [hms]; omega)
    · refine z_if_ne C 51 57 d_M_join_48 rfl (by decide) (fun _ => ?_) (fun h9 => absurd h9 (fun w => q0 ((lg_cmp_eq _ _).mp w)))
      refine z_aload_n C 58 d_M_join_57 rfl rfl ?_
      refine zm_get C 61 f_M_21 d_M_join_58 rfl hn rfl ?_
      refine z_iload_n C 62 d_M_join_61 rfl rfl ?_
      refine zm_iald C 63 nd d_M_join_62 rfl hn (by decide) (by decide) (by decide) rfl (by show nd < 1350; omega) (by decide) ?_
      rw [hA]
      refine z_lookup C 148 d_M_join_63 (by decide) (off := 85) (by decide) (by decide) ?_
      refine z_aload_n C 149 d_M_join_148 rfl rfl ?_
      refine z_lload_n C 150 d_M_join_149 rfl rfl ?_
      refine z_lload C 152 d_M_join_150 rfl rfl ?_
      refine z_ldiv C 153 d_M_join_152 rfl q0 ?_
      refine z_iconst C 154 d_M_join_153 rfl (-1) (by decide) ?_
      refine z_call C 157 (c_M_giveQ hn hq1) w_M_give ini_M d_M_join_154 rfl (z_goV (As := [.long (x.1 / y.1), .int (-1)]) C l_M_246 w_M_give d_M_join_154 (by omega) rfl rfl rfl) (Nat.le_of_ble_eq_true rfl) (by rw [hR]; simp only [zRm]; omega) (by rw [hR]; simp only [zRm]; omega) (by rw [hR]; simp only [zRm]; omega) (by rw [hR]; simp only [zRm]; omega) (fun v n' σ' hv => ?_) (fun x n' σ' hv => ?_)
      rotate_left
      · cases hv.1
      obtain ⟨e0, e1, S', A', L', rfl, hx⟩ := hv
      cases e0
      obtain rfl : n = n' := e1.symm
      refine z_goto C 197 d_M_join_157 (by decide) ?_
      exact z_vret C rfl d_M_join_197 (by rw [hpo]; exact ⟨rfl, rfl, _, _, _, rfl, by rw [if_neg q0]; exact hx⟩) (by rw [hmc]; omega) (by rw [hms]; omega)
  refine z_icmp_ne C 44 57 d_M_join_41 rfl (by decide) (fun _ => ?_) (fun h9 => absurd h9 q47)
  refine z_aload_n C 58 d_M_join_57 rfl rfl ?_
  refine zm_get C 61 f_M_21 d_M_join_58 rfl hn rfl ?_
  refine z_iload_n C 62 d_M_join_61 rfl rfl ?_
  refine zm_iald C 63 nd d_M_join_62 rfl hn (by decide) (by decide) (by decide) rfl (by show nd < 1350; omega) (by decide) ?_
  rw [hA]
  by_cases q43 : op = 43
  · subst q43
    refine z_lookup C 112 d_M_join_63 (by decide) (off := 49) (by decide) (by decide) ?_
    refine z_aload_n C 113 d_M_join_112 rfl rfl ?_
    refine z_lload_n C 114 d_M_join_113 rfl rfl ?_
    refine z_lload C 116 d_M_join_114 rfl rfl ?_
    refine z_ladd C 117 d_M_join_116 rfl ?_
    refine z_iconst C 118 d_M_join_117 rfl (-1) (by decide) ?_
    refine z_call C 121 (c_M_giveQ hn hq1) w_M_give ini_M d_M_join_118 rfl (z_goV (As := [.long (x.1 + y.1), .int (-1)]) C l_M_246 w_M_give d_M_join_118 (by omega) rfl rfl rfl) (Nat.le_of_ble_eq_true rfl) (by rw [hR]; simp only [zRm]; omega) (by rw [hR]; simp only [zRm]; omega) (by rw [hR]; simp only [zRm]; omega) (by rw [hR]; simp only [zRm]; omega) (fun v n' σ' hv => ?_) (fun x n' σ' hv => ?_)
    rotate_left
    · cases hv.1
    obtain ⟨e0, e1, S', A', L', rfl, hx⟩ := hv
    cases e0
    obtain rfl : n = n' := e1.symm
    refine z_goto C 197 d_M_join_121 (by decide) ?_
    exact z_vret C rfl d_M_join_197 (by rw [hpo]; exact ⟨rfl, rfl, _, _, _, rfl, hx⟩) (by rw [hmc]; omega) (by rw [hms]; omega)
  by_cases q45 : op = 45
  · subst q45
    refine z_lookup C 124 d_M_join_63 (by decide) (off := 61) (by decide) (by decide) ?_
    refine z_aload_n C 125 d_M_join_124 rfl rfl ?_
    refine z_lload_n C 126 d_M_join_125 rfl rfl ?_
    refine z_lload C 128 d_M_join_126 rfl rfl ?_
    refine z_lsub C 129 d_M_join_128 rfl ?_
    refine z_iconst C 130 d_M_join_129 rfl (-1) (by decide) ?_
    refine z_call C 133 (c_M_giveQ hn hq1) w_M_give ini_M d_M_join_130 rfl (z_goV (As := [.long (x.1 - y.1), .int (-1)]) C l_M_246 w_M_give d_M_join_130 (by omega) rfl rfl rfl) (Nat.le_of_ble_eq_true rfl) (by rw [hR]; simp only [zRm]; omega) (by rw [hR]; simp only [zRm]; omega) (by rw [hR]; simp only [zRm]; omega) (by rw [hR]; simp only [zRm]; omega) (fun v n' σ' hv => ?_) (fun x n' σ' hv => ?_)
    rotate_left
    · cases hv.1
    obtain ⟨e0, e1, S', A', L', rfl, hx⟩ := hv
    cases e0
    obtain rfl : n = n' := e1.symm
    refine z_goto C 197 d_M_join_133 (by decide) ?_
    exact z_vret C rfl d_M_join_197 (by rw [hpo]; exact ⟨rfl, rfl, _, _, _, rfl, hx⟩) (by rw [hmc]; omega) (by rw [hms]; omega)
  by_cases q42 : op = 42
  · subst q42
    refine z_lookup C 136 d_M_join_63 (by decide) (off := 73) (by decide) (by decide) ?_
    refine z_aload_n C 137 d_M_join_136 rfl rfl ?_
    refine z_lload_n C 138 d_M_join_137 rfl rfl ?_
    refine z_lload C 140 d_M_join_138 rfl rfl ?_
    refine z_lmul C 141 d_M_join_140 rfl ?_
    refine z_iconst C 142 d_M_join_141 rfl (-1) (by decide) ?_
    refine z_call C 145 (c_M_giveQ hn hq1) w_M_give ini_M d_M_join_142 rfl (z_goV (As := [.long (x.1 * y.1), .int (-1)]) C l_M_246 w_M_give d_M_join_142 (by omega) rfl rfl rfl) (Nat.le_of_ble_eq_true rfl) (by rw [hR]; simp only [zRm]; omega) (by rw [hR]; simp only [zRm]; omega) (by rw [hR]; simp only [zRm]; omega) (by rw [hR]; simp only [zRm]; omega) (fun v n' σ' hv => ?_) (fun x n' σ' hv => ?_)
    rotate_left
    · cases hv.1
    obtain ⟨e0, e1, S', A', L', rfl, hx⟩ := hv
    cases e0
    obtain rfl : n = n' := e1.symm
    refine z_goto C 197 d_M_join_145 (by decide) ?_
    exact z_vret C rfl d_M_join_197 (by rw [hpo]; exact ⟨rfl, rfl, _, _, _, rfl, hx⟩) (by rw [hmc]; omega) (by rw [hms]; omega)
  rw [if_neg q43, if_neg q45, if_neg q42, if_neg q47] at hpo
  by_cases q60 : op = 60
  · subst q60
    rw [if_pos rfl] at hpo
    refine z_lookup C 160 d_M_join_63 (by decide) (off := 97) (by decide) (by decide) ?_
    refine z_aload_n C 161 d_M_join_160 rfl rfl ?_
    refine z_lload_n C 162 d_M_join_161 rfl rfl ?_
    refine z_lload C 164 d_M_join_162 rfl rfl ?_
    refine z_lcmp C 165 d_M_join_164 rfl ?_
    by_cases q : x.1 < y.1
    · rw [if_pos q] at hpo
      refine z_if_ge C 168 172 d_M_join_165 rfl (by decide) (fun h9 => absurd h9 (fun w => absurd q (Int64.not_lt.mpr ((lg_cmp_ge _ _).mp w)))) (fun _ => ?_)
      refine z_lconst C 169 d_M_join_168 rfl 1 (by decide) ?_
      refine z_goto C 173 d_M_join_169 (by decide) ?_
      refine z_iconst C 174 d_M_join_173 rfl (-1) (by decide) ?_
      refine z_call C 177 (c_M_giveQ hn hq1) w_M_give ini_M d_M_join_174 rfl (z_goV (As := [.long (1), .int (-1)]) C l_M_246 w_M_give d_M_join_174 (by omega) rfl rfl rfl) (Nat.le_of_ble_eq_true rfl) (by rw [hR]; simp only [zRm]; omega) (by rw [hR]; simp only [zRm]; omega) (by rw [hR]; simp only [zRm]; omega) (by rw [hR]; simp only [zRm]; omega) (fun v n' σ' hv => ?_) (fun x n' σ' hv => ?_)
      rotate_left
      · cases hv.1
      obtain ⟨e0, e1, S', A', L', rfl, hx⟩ := hv
      cases e0
      obtain rfl : n = n' := e1.symm
      refine z_goto C 197 d_M_join_177 (by decide) ?_
      exact z_vret C rfl d_M_join_197 (by rw [hpo]; exact ⟨rfl, rfl, _, _, _, rfl, hx⟩) (by rw [hmc]; omega) (by rw [hms]; omega)
    · rw [if_neg q] at hpo
      refine z_if_ge C 168 172 d_M_join_165 rfl (by decide) (fun _ => ?_) (fun h9 => absurd ((lg_cmp_ge _ _).mpr (Int64.not_lt.mp q)) h9)
      refine z_lconst C 173 d_M_join_172 rfl 0 (by decide) ?_
      refine z_iconst C 174 d_M_join_173 rfl (-1) (by decide) ?_
      refine z_call C 177 (c_M_giveQ hn hq1) w_M_give ini_M d_M_join_174 rfl (z_goV (As := [.long (0), .int (-1)]) C l_M_246 w_M_give d_M_join_174 (by omega) rfl rfl rfl) (Nat.le_of_ble_eq_true rfl) (by rw [hR]; simp only [zRm]; omega) (by rw [hR]; simp only [zRm]; omega) (by rw [hR]; simp only [zRm]; omega) (by rw [hR]; simp only [zRm]; omega) (fun v n' σ' hv => ?_) (fun x n' σ' hv => ?_)
      rotate_left
      · cases hv.1
      obtain ⟨e0, e1, S', A', L', rfl, hx⟩ := hv
      cases e0
      obtain rfl : n = n' := e1.symm
      refine z_goto C 197 d_M_join_177 (by decide) ?_
      exact z_vret C rfl d_M_join_197 (by rw [hpo]; exact ⟨rfl, rfl, _, _, _, rfl, hx⟩) (by rw [hmc]; omega) (by rw [hms]; omega)
  rw [if_neg q60] at hpo
  have hne : ∀ a : Int32, op ≠ a → ((a.toInt == op.toInt) = false) := fun a ha => by
    refine beq_false_of_ne (fun e => ha ?_)
    exact (Int32.toInt_inj.mp e).symm
  refine z_lookup C 180 d_M_join_63 (by decide) (off := 117) (lk_off _ _ _ ?_) (by decide) ?_
  · show (!((42 : Int32).toInt == op.toInt) && (!((43 : Int32).toInt == op.toInt) && (!((45 : Int32).toInt == op.toInt) && (!((47 : Int32).toInt == op.toInt) && (!((60 : Int32).toInt == op.toInt) && true))))) = true
    rw [hne 42 q42, hne 43 q43, hne 45 q45, hne 47 q47, hne 60 q60]
    rfl
  refine z_aload_n C 181 d_M_join_180 rfl rfl ?_
  refine z_lload_n C 182 d_M_join_181 rfl rfl ?_
  refine z_lload C 184 d_M_join_182 rfl rfl ?_
  refine z_lcmp C 185 d_M_join_184 rfl ?_
  by_cases q : x.1 = y.1
  · rw [if_pos q] at hpo
    refine z_if_ne C 188 192 d_M_join_185 rfl (by decide) (fun h9 => absurd ((lg_cmp_eq _ _).mpr q) h9) (fun _ => ?_)
    refine z_lconst C 189 d_M_join_188 rfl 1 (by decide) ?_
    refine z_goto C 193 d_M_join_189 (by decide) ?_
    refine z_iconst C 194 d_M_join_193 rfl (-1) (by decide) ?_
    refine z_call C 197 (c_M_giveQ hn hq1) w_M_give ini_M d_M_join_194 rfl (z_goV (As := [.long (1), .int (-1)]) C l_M_246 w_M_give d_M_join_194 (by omega) rfl rfl rfl) (Nat.le_of_ble_eq_true rfl) (by rw [hR]; simp only [zRm]; omega) (by rw [hR]; simp only [zRm]; omega) (by rw [hR]; simp only [zRm]; omega) (by rw [hR]; simp only [zRm]; omega) (fun v n' σ' hv => ?_) (fun x n' σ' hv => ?_)
    rotate_left
    · cases hv.1
    obtain ⟨e0, e1, S', A', L', rfl, hx⟩ := hv
    cases e0
    obtain rfl : n = n' := e1.symm
    exact z_vret C rfl d_M_join_197 (by rw [hpo]; exact ⟨rfl, rfl, _, _, _, rfl, hx⟩) (by rw [hmc]; omega) (by rw [hms]; omega)
  · rw [if_neg q] at hpo
    refine z_if_ne C 188 192 d_M_join_185 rfl (by decide) (fun _ => ?_) (fun h9 => absurd h9 (fun w => q ((lg_cmp_eq _ _).mp w)))
    refine z_lconst C 193 d_M_join_192 rfl 0 (by decide) ?_
    refine z_iconst C 194 d_M_join_193 rfl (-1) (by decide) ?_
    refine z_call C 197 (c_M_giveQ hn hq1) w_M_give ini_M d_M_join_194 rfl (z_goV (As := [.long (0), .int (-1)]) C l_M_246 w_M_give d_M_join_194 (by omega) rfl rfl rfl) (Nat.le_of_ble_eq_true rfl) (by rw [hR]; simp only [zRm]; omega) (by rw [hR]; simp only [zRm]; omega) (by rw [hR]; simp only [zRm]; omega) (by rw [hR]; simp only [zRm]; omega) (fun v n' σ' hv => ?_) (fun x n' σ' hv => ?_)
    rotate_left
    · cases hv.1
    obtain ⟨e0, e1, S', A', L', rfl, hx⟩ := hv
    cases e0
    obtain rfl : n = n' := e1.symm
    exact z_vret C rfl d_M_join_197 (by rw [hpo]; exact ⟨rfl, rfl, _, _, _, rfl, hx⟩) (by rw [hmc]; omega) (by rw [hms]; omega)
end MGO
