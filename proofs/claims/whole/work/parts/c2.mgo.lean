def gArr (h : Int32) (m : Nat) (f : Nat → gX) : Option gX := if h = nI h.toNatClampNeg ∧ h.toNatClampNeg < m then some (f h.toNatClampNeg) else none
theorem gArr_some {h : Int32} {m : Nat} {f : Nat → gX} {X : gX} (q : gArr h m f = some X) : ∃ a, h = nI a ∧ a < m ∧ f a = X := by
  unfold gArr at q
  by_cases w : h = nI h.toNatClampNeg ∧ h.toNatClampNeg < m
  · rw [if_pos w] at q
    exact ⟨_, w.1, w.2, Option.some.inj q⟩
  · rw [if_neg w] at q
    cases q
def gFin (e : eN) (pl : gP) (vs : gV) (dp : Nat) (EV : gE) (m : Nat) (AR : Nat → aA) (k : aC) : Option gX :=
  if e.1 = 2 then (match vs with
    | y :: x :: w => some (gJoin e.2.2.2.2.2.1 x.1 y.1 pl w dp EV m AR k)
    | _ => none)
  else if e.1 = 5 then (match vs with
    | x :: w => some (gNew x.1 1 pl w dp EV m AR k)
    | _ => none)
  else if e.1 = 6 then (match vs with
    | y :: x :: w => some (gNew x.1 y.1 pl w dp EV m AR k)
    | _ => none)
  else if e.1 = 7 then (if e.2.2.2.1 = 2 then (match vs with
    | j :: i :: w => gArr (EV dp (cIx (eVr e))).2 m fun a => gRd a i.1 j.1 pl w dp EV m AR k
    | _ => none) else (match vs with
    | i :: w => gArr (EV dp (cIx (eVr e))).2 m fun a => gRd a i.1 0 pl w dp EV m AR k
    | _ => none))
  else (if e.2.2.2.1 = 3 then (match vs with
    | x :: j :: i :: w => gArr (EV dp (cIx (eVr e))).2 m fun a => gPu a i.1 j.1 x.1 pl w dp EV m AR k
    | _ => none) else (match vs with
    | x :: i :: w => gArr (EV dp (cIx (eVr e))).2 m fun a => gPu a i.1 0 x.1 pl w dp EV m AR k
    | _ => none))
def gCho (bs i : Nat) (e : eN) (kk : Nat) (pl : gP) (vs : gV) (dp : Nat) (EV : gE) (m : Nat) (AR : Nat → aA) (k : aC) : Option gX :=
  if kk = 0 then some (gStart (bs + ePt e 0) ((bs + i, 1) :: pl) vs dp EV m AR k) else if kk = 1 then (match vs with
    | x :: w => some (gStart (if x.1 = 0 then bs + ePt e 2 else bs + ePt e 1) ((bs + i, 2) :: pl) w dp EV m AR k)
    | [] => none) else some (.inr (pl, vs, dp, EV, m, AR, k))
def gBnd (bs i : Nat) (e : eN) (kk : Nat) (pl : gP) (vs : gV) (dp : Nat) (EV : gE) (m : Nat) (AR : Nat → aA) (k : aC) : Option gX :=
  if kk = 0 then some (gStart (bs + ePt e 0) ((bs + i, 1) :: pl) vs dp EV m AR k) else if kk = 1 then (match vs with
    | x :: w => some (gStart (bs + ePt e 1) ((bs + i, 2) :: pl) w dp (gHold EV dp (cIx (eVr e)) x) m AR k)
    | [] => none) else some (.inr (pl, vs, dp, EV, m, AR, k))
def gDrp (bs i : Nat) (e : eN) (kk : Nat) (pl : gP) (vs : gV) (dp : Nat) (EV : gE) (m : Nat) (AR : Nat → aA) (k : aC) : Option gX :=
  if kk = 0 then some (gStart (bs + ePt e 0) ((bs + i, 1) :: pl) vs dp EV m AR (k.1, k.2.1, k.2.2.1 - 1, k.2.2.2)) else some (.inr (pl, vs, dp, EV, m, AR, k))
def gCal (V : mS) (bs i : Nat) (e : eN) (kk : Nat) (pl : gP) (vs : gV) (dp : Nat) (EV : gE) (m : Nat) (AR : Nat → aA) (k : aC) : Option gX :=
  if kk < e.2.2.2.1 then some (gStart (bs + ePt e kk) ((bs + i, kk + 1) :: pl) vs dp EV m AR k) else if kk = e.2.2.2.1 then (if e.2.2.2.1 ≤ vs.length then some (gEnter V (cIx (eNm e)) e.2.2.2.1 ((bs + i, kk + 1) :: pl) vs dp EV m AR k) else none) else (if 1 ≤ dp then some (.inr (pl, vs, dp - 1, EV, m, AR, k)) else none)
def gDef (bs i : Nat) (e : eN) (kk : Nat) (pl : gP) (vs : gV) (dp : Nat) (EV : gE) (m : Nat) (AR : Nat → aA) (k : aC) : Option gX :=
  if kk < e.2.2.2.1 then some (gStart (bs + ePt e kk) ((bs + i, kk + 1) :: pl) vs dp EV m AR k) else gFin e pl vs dp EV m AR k
def gSt (V : mS) (bs i : Nat) (e : eN) (kk : Nat) (pl : gP) (vs : gV) (dp : Nat) (EV : gE) (m : Nat) (AR : Nat → aA) (k : aC) : Option gX :=
  if e.1 = 0 then some (.inr (pl, (e.2.2.2.2.1, -1) :: vs, dp, EV, m, AR, k))
  else if e.1 = 1 then some (.inr (pl, EV dp (cIx (eVr e)) :: vs, dp, EV, m, AR, k))
  else if e.1 = 9 then gArr (EV dp (cIx (eVr e))).2 m fun a => .inr (pl, ((nI (AR a).1).toInt64, -1) :: vs, dp, EV, m, AR, k)
  else if e.1 = 10 then gArr (EV dp (cIx (eVr e))).2 m fun a => .inr (pl, ((nI (AR a).2.1).toInt64, -1) :: vs, dp, EV, m, AR, k)
  else if e.1 = 11 then gArr (EV dp (cIx (eVr e))).2 m fun a => gMk (nI (AR a).1).toInt64 (nI (AR a).2.1).toInt64 (AR a).2.2 pl vs dp EV m AR k
  else if e.1 = 3 then gCho bs i e kk pl vs dp EV m AR k
  else if e.1 = 4 then gBnd bs i e kk pl vs dp EV m AR k
  else if e.1 = 12 then gDrp bs i e kk pl vs dp EV m AR k
  else if e.1 = 13 then gCal V bs i e kk pl vs dp EV m AR k
  else gDef bs i e kk pl vs dp EV m AR k
/-- what the reference's arrays hold of a node -/
def gN (A0 : mA) (bs i : Nat) (e : eN) : Prop := bs + i < 1200 ∧ e.1 < 14 ∧ A0 87 (bs + i) = nI e.1 ∧ A0 90 (bs + i) = nI e.2.2.2.1 ∧ tArg (A0 88 (bs + i)) e ∧ eCnt e.1 e.2.2.2.1 ∧ e.2.2.2.1 ≤ 4 ∧ ∃ X : Nat → Nat, X 0 = bs + i + 1 ∧ ∀ j, j < e.2.2.2.1 → X j = bs + ePt e j ∧ X j < 1200 ∧ A0 91 (X j) = nI (X (j + 1))
section MGF
variable {G : zG} {l : Launch} {n : Nat} {σ : zS} {S0 S : mS} {A0 A : mA} {L0 L : mL} {rn : Int64} {pl : gP} {vs : gV} {dp m : Nat} {EV : gE} {AR : Nat → aA} {k : aC} {bs i dn kk : Nat} {e : eN} {X : gX} {V : mS}
theorem c_M_finish (hn : 113 ≤ n) (hq : mQ S0 A0 L0 ((bs + i, dn) :: pl, vs, dp, EV, m, AR, k) S A L) (hN : gN A0 bs i e) (hk : e.1 = 2 ∨ e.1 = 5 ∨ e.1 = 6 ∨ e.1 = 7 ∨ e.1 = 8) (hres : gFin e pl vs dp EV m AR k = some X) : MetZ G l y_M_finish b_M_finish 6 none [] 2 0 0 [.ref 85, .int (nI (bs + i))] n (mOv S A L rn σ) (mGp S0 A0 L0 rn σ n X) := by
  obtain ⟨hnd, hk14, h87, h90, ⟨⟨v0, hv20, ev⟩, -, -, t2, -, tv, -, -⟩, hct, hc4, -⟩ := hN
  have hix : cIx (eVr e) = v0 := by rw [ev]; exact nI_clamp (by omega)
  obtain ⟨h19, h36, h33, h32, l1, l2, l3, l4⟩ := hq.lims
  have hb := hq.2.2.2.2.2.2.2.2.1
  have hA7 : A 87 (bs + i) = nI e.1 := by rw [hb 87 (by decide)]; exact h87
  have hA0 : A 90 (bs + i) = nI e.2.2.2.1 := by rw [hb 90 (by decide)]; exact h90
  unfold gFin at hres
  refine MetZ.of (by decide) (Nat.le_of_ble_eq_true rfl) (fun K hK hR hpo hmc hms C => ?_)
  refine z_aload_n C 1 d_M_finish_0 rfl rfl ?_
  refine zm_get C 4 f_M_17 d_M_finish_1 rfl hn rfl ?_
  refine z_iload_n C 5 d_M_finish_4 rfl rfl ?_
  refine zm_iald C 6 (bs+i) d_M_finish_5 rfl hn (by decide) (by decide) (by decide) rfl (by show bs + i < 1350; omega) (by decide) ?_
  rw [hA7]
  refine z_iconst C 7 d_M_finish_6 rfl 2 (by decide) ?_
  rcases hk with hk | hk | hk | hk | hk
  · rw [if_pos hk] at hres
    rw [hk]
    refine z_icmp_ne C 10 18 d_M_finish_7 rfl (by decide) (fun h9 => absurd (show nI 2 = 2 from rfl) h9) (fun _ => ?_)
    match vs, hq, hres with
    | [], hq, hres => cases hres
    | [_], hq, hres => cases hres
    | y :: x :: w, hq, hres =>
      cases hres
      refine z_aload_n C 11 d_M_finish_10 rfl rfl ?_
      refine z_iload_n C 12 d_M_finish_11 rfl rfl ?_
      refine z_call C 15 (c_M_join hn hq (by omega) (t2 hk)) w_M_join ini_M d_M_finish_12 rfl (z_goV (As := [.int (nI (bs + i))]) C l_M_275 w_M_join d_M_finish_12 (by omega) rfl rfl rfl) (Nat.le_of_ble_eq_true rfl) (by rw [hR]; simp only [zRm]; omega) (by rw [hR]; simp only [zRm]; omega) (by rw [hR]; simp only [zRm]; omega) (by rw [hR]; simp only [zRm]; omega) (fun v n' σ' hv => ?_) (fun x n' σ' hv => ?_)
      rotate_left
      · cases hv.1
      obtain ⟨e0, e1, S', A', L', rfl, hx⟩ := hv
      cases e0
      obtain rfl : n = n' := e1.symm
      refine z_goto C 129 d_M_finish_15 (by decide) ?_
      exact z_vret C rfl d_M_finish_129 (by rw [hpo]; exact ⟨rfl, rfl, _, _, _, rfl, hx⟩) (by rw [hmc]; omega) (by rw [hms]; omega)
  · rw [if_neg (show ¬ e.1 = 2 by omega), if_pos hk] at hres
    have hcn : e.2.2.2.1 = 1 := hct.2.2.2.2.2.1 hk
    rw [hcn] at hA0
    rw [hk] at hA7
    rw [hk]
    refine z_icmp_ne C 10 18 d_M_finish_7 rfl (by decide) (fun _ => ?_) (fun h9 => absurd h9 (show ¬ nI 5 = 2 by decide))
    match vs, hq, hres with
    | [], hq, hres => cases hres
    | x :: w, hq, hres =>
      cases hres
      have h36 : S 36 = nI (w.length + 1) := hq.1.2.1
      have l3 : w.length + 1 + (pl.length + 1) ≤ 400 := hq.lims.2.2.2.2.2.2.1
      have hq1 : mQ S0 A0 L0 ((bs + i, dn) :: pl, w, dp, EV, m, AR, k) (upd S 36 (nI w.length)) A L := hq.pop 1
      have e36 : S 36 - nI 1 = nI w.length := by rw [h36]; exact nI_subc w.length 1
      have hvx : L 109 w.length = x.1 := hq.2.2.2.2.1.1
      refine z_aload_n C 19 d_M_finish_18 rfl rfl ?_
      refine zm_get C 22 f_M_17 d_M_finish_19 rfl hn rfl ?_
      refine z_iload_n C 23 d_M_finish_22 rfl rfl ?_
      refine zm_iald C 24 (bs+i) d_M_finish_23 rfl hn (by decide) (by decide) (by decide) rfl (by show bs + i < 1350; omega) (by decide) ?_
      rw [hA7]
      refine z_bipush C 26 d_M_finish_24 rfl 7 (by decide) ?_
      refine z_icmp_eq C 29 40 d_M_finish_26 rfl (by decide) (fun h9 => absurd h9 (show ¬ nI 5 = 7 by decide)) (fun _ => ?_)
      refine z_aload_n C 30 d_M_finish_29 rfl rfl ?_
      refine zm_get C 33 f_M_17 d_M_finish_30 rfl hn rfl ?_
      refine z_iload_n C 34 d_M_finish_33 rfl rfl ?_
      refine zm_iald C 35 (bs+i) d_M_finish_34 rfl hn (by decide) (by decide) (by decide) rfl (by show bs + i < 1350; omega) (by decide) ?_
      rw [hA7]
      refine z_bipush C 37 d_M_finish_35 rfl 8 (by decide) ?_
      refine z_icmp_ne C 40 48 d_M_finish_37 rfl (by decide) (fun _ => ?_) (fun h9 => absurd h9 (show ¬ nI 5 = 8 by decide))
      refine z_aload_n C 49 d_M_finish_48 rfl rfl ?_
      refine z_dup C 50 d_M_finish_49 rfl rfl ?_
      refine zm_get C 53 f_M_225 d_M_finish_50 rfl hn rfl ?_
      refine z_aload_n C 54 d_M_finish_53 rfl rfl ?_
      refine zm_get C 57 f_M_27 d_M_finish_54 rfl hn rfl ?_
      refine z_iload_n C 58 d_M_finish_57 rfl rfl ?_
      refine zm_iald C 59 (bs+i) d_M_finish_58 rfl hn (by decide) (by decide) (by decide) rfl (by show bs + i < 1350; omega) (by decide) ?_
      rw [hA0]
      refine z_isub C 60 d_M_finish_59 rfl ?_
      refine zm_puti C 63 p_M_225 d_M_finish_60 rfl hn (by decide) (rfl) rfl rfl ?_
      rw [e36]
      refine z_aload_n C 64 d_M_finish_63 rfl rfl ?_
      refine zm_get C 67 f_M_86 d_M_finish_64 rfl hn rfl ?_
      refine z_aload_n C 68 d_M_finish_67 rfl rfl ?_
      refine zm_get C 71 f_M_225 d_M_finish_68 rfl hn rfl ?_
      refine zm_lald C 72 w.length d_M_finish_71 rfl hn (by decide) (by decide) (by decide) rfl (by show w.length < 400; omega) (by decide) ?_
      rw [hvx]
      refine z_lstore_n C 73 d_M_finish_72 rfl (by decide) ?_
      refine z_aload_n C 74 d_M_finish_73 rfl rfl ?_
      refine zm_get C 77 f_M_27 d_M_finish_74 rfl hn rfl ?_
      refine z_iload_n C 78 d_M_finish_77 rfl rfl ?_
      refine zm_iald C 79 (bs+i) d_M_finish_78 rfl hn (by decide) (by decide) (by decide) rfl (by show bs + i < 1350; omega) (by decide) ?_
      rw [hA0]
      refine z_iconst C 80 d_M_finish_79 rfl 2 (by decide) ?_
      refine z_icmp_ne C 83 97 d_M_finish_80 rfl (by decide) (fun _ => ?_) (fun h9 => absurd h9 (show ¬ nI 1 = 2 by decide))
      refine z_lconst C 98 d_M_finish_97 rfl 1 (by decide) ?_
      refine z_lstore C 100 d_M_finish_98 rfl (by decide) ?_
      unfold gNew at hpo
      have neg : (x.1 < 0 ∨ (1 : Int64) < 0) → Z G K n (mOv (upd S 36 (nI w.length)) A L rn σ) 0 0 113 [(4, .long ((1 : Int64))), (2, .long x.1), (0, .ref 85), (1, .int (nI (bs + i)))] [] := fun q => by
        rw [if_pos q] at hpo
        refine z_aload_n C 114 d_M_finish_113 rfl rfl ?_
        refine z_iconst C 115 d_M_finish_114 rfl 2 (by decide) ?_
        refine zm_puti C 118 p_M_222 d_M_finish_115 rfl hn (by decide) (rfl) rfl rfl ?_
        refine z_goto C 129 d_M_finish_118 (by decide) ?_
        exact z_vret C rfl d_M_finish_129 (by rw [hpo]; exact ⟨rfl, rfl, _, _, _, rfl, hq1.fault 2⟩) (by rw [hmc]; omega) (by rw [hms]; omega)
      refine z_lload_n C 101 d_M_finish_100 rfl rfl ?_
      refine z_lconst C 102 d_M_finish_101 rfl 0 (by decide) ?_
      refine z_lcmp C 103 d_M_finish_102 rfl ?_
      refine z_if_lt C 106 113 d_M_finish_103 rfl (by decide) (fun q1 => ?_) (fun q1 => ?_)
      · exact neg (Or.inl ((lg_cmp_lt _ _).mp q1))
      have q1 : ¬ x.1 < 0 := fun w => q1 ((lg_cmp_lt _ _).mpr w)
      refine z_lload C 108 d_M_finish_106 rfl rfl ?_
      refine z_lconst C 109 d_M_finish_108 rfl 0 (by decide) ?_
      refine z_lcmp C 110 d_M_finish_109 rfl ?_
      refine z_if_ge C 113 121 d_M_finish_110 rfl (by decide) (fun q2 => ?_) (fun q2 => ?_)
      rotate_left
      · exact neg (Or.inr (Int64.not_le.mp (fun q => q2 ((lg_cmp_ge _ _).mpr q))))
      have q2 : ¬ (1 : Int64) < 0 := Int64.not_lt.mpr ((lg_cmp_ge _ _).mp q2)
      rw [if_neg (fun q => q.elim q1 q2)] at hpo
      refine z_aload_n C 122 d_M_finish_121 rfl rfl ?_
      refine z_lload_n C 123 d_M_finish_122 rfl rfl ?_
      refine z_lload C 125 d_M_finish_123 rfl rfl ?_
      refine z_iconst C 126 d_M_finish_125 rfl (-1) (by decide) ?_
      refine z_call C 129 (c_M_makeOne (ct := fun _ => 0) hn hq1 (Int64.not_lt.mp q1) (Int64.not_lt.mp q2) (Or.inl ⟨by decide, fun _ => rfl⟩)) w_M_makeOne ini_M d_M_finish_126 rfl (z_goV (As := [.long x.1, .long ((1 : Int64)), .int (-1)]) C l_M_262 w_M_makeOne d_M_finish_126 (by omega) rfl rfl rfl) (Nat.le_of_ble_eq_true rfl) (by rw [hR]; simp only [zRm]; omega) (by rw [hR]; simp only [zRm]; omega) (by rw [hR]; simp only [zRm]; omega) (by rw [hR]; simp only [zRm]; omega) (fun v n' σ' hv => ?_) (fun x n' σ' hv => ?_)
      rotate_left
      · cases hv.1
      obtain ⟨e0, e1, S', A', L', rfl, hx⟩ := hv
      cases e0
      obtain rfl : n = n' := e1.symm
      exact z_vret C rfl d_M_finish_129 (by rw [hpo]; exact ⟨rfl, rfl, _, _, _, rfl, hx⟩) (by rw [hmc]; omega) (by rw [hms]; omega)
  · rw [if_neg (show ¬ e.1 = 2 by omega), if_neg (show ¬ e.1 = 5 by omega), if_pos hk] at hres
    have hcn : e.2.2.2.1 = 2 := hct.2.2.2.2.2.2.1 hk
    rw [hcn] at hA0
    rw [hk] at hA7
    rw [hk]
    refine z_icmp_ne C 10 18 d_M_finish_7 rfl (by decide) (fun _ => ?_) (fun h9 => absurd h9 (show ¬ nI 6 = 2 by decide))
    match vs, hq, hres with
    | [], hq, hres => cases hres
    | [_], hq, hres => cases hres
    | y :: x :: w, hq, hres =>
      cases hres
      have h36 : S 36 = nI (w.length + 2) := hq.1.2.1
      have l3 : w.length + 2 + (pl.length + 1) ≤ 400 := hq.lims.2.2.2.2.2.2.1
      have hq1 : mQ S0 A0 L0 ((bs + i, dn) :: pl, w, dp, EV, m, AR, k) (upd S 36 (nI w.length)) A L := hq.pop 2
      have e36 : S 36 - nI 2 = nI w.length := by rw [h36]; exact nI_subc w.length 2
      have hvy : L 109 (w.length + 1) = y.1 := hq.2.2.2.2.1.1
      have hvx : L 109 w.length = x.1 := hq.2.2.2.2.1.2.2.1
      refine z_aload_n C 19 d_M_finish_18 rfl rfl ?_
      refine zm_get C 22 f_M_17 d_M_finish_19 rfl hn rfl ?_
      refine z_iload_n C 23 d_M_finish_22 rfl rfl ?_
      refine zm_iald C 24 (bs+i) d_M_finish_23 rfl hn (by decide) (by decide) (by decide) rfl (by show bs + i < 1350; omega) (by decide) ?_
      rw [hA7]
      refine z_bipush C 26 d_M_finish_24 rfl 7 (by decide) ?_
      refine z_icmp_eq C 29 40 d_M_finish_26 rfl (by decide) (fun h9 => absurd h9 (show ¬ nI 6 = 7 by decide)) (fun _ => ?_)
      refine z_aload_n C 30 d_M_finish_29 rfl rfl ?_
      refine zm_get C 33 f_M_17 d_M_finish_30 rfl hn rfl ?_
      refine z_iload_n C 34 d_M_finish_33 rfl rfl ?_
      refine zm_iald C 35 (bs+i) d_M_finish_34 rfl hn (by decide) (by decide) (by decide) rfl (by show bs + i < 1350; omega) (by decide) ?_
      rw [hA7]
      refine z_bipush C 37 d_M_finish_35 rfl 8 (by decide) ?_
      refine z_icmp_ne C 40 48 d_M_finish_37 rfl (by decide) (fun _ => ?_) (fun h9 => absurd h9 (show ¬ nI 6 = 8 by decide))
      refine z_aload_n C 49 d_M_finish_48 rfl rfl ?_
      refine z_dup C 50 d_M_finish_49 rfl rfl ?_
      refine zm_get C 53 f_M_225 d_M_finish_50 rfl hn rfl ?_
      refine z_aload_n C 54 d_M_finish_53 rfl rfl ?_
      refine zm_get C 57 f_M_27 d_M_finish_54 rfl hn rfl ?_
      refine z_iload_n C 58 d_M_finish_57 rfl rfl ?_
      refine zm_iald C 59 (bs+i) d_M_finish_58 rfl hn (by decide) (by decide) (by decide) rfl (by show bs + i < 1350; omega) (by decide) ?_
      rw [hA0]
      refine z_isub C 60 d_M_finish_59 rfl ?_
      refine zm_puti C 63 p_M_225 d_M_finish_60 rfl hn (by decide) (rfl) rfl rfl ?_
      rw [e36]
      refine z_aload_n C 64 d_M_finish_63 rfl rfl ?_
      refine zm_get C 67 f_M_86 d_M_finish_64 rfl hn rfl ?_
      refine z_aload_n C 68 d_M_finish_67 rfl rfl ?_
      refine zm_get C 71 f_M_225 d_M_finish_68 rfl hn rfl ?_
      refine zm_lald C 72 w.length d_M_finish_71 rfl hn (by decide) (by decide) (by decide) rfl (by show w.length < 400; omega) (by decide) ?_
      rw [hvx]
      refine z_lstore_n C 73 d_M_finish_72 rfl (by decide) ?_
      refine z_aload_n C 74 d_M_finish_73 rfl rfl ?_
      refine zm_get C 77 f_M_27 d_M_finish_74 rfl hn rfl ?_
      refine z_iload_n C 78 d_M_finish_77 rfl rfl ?_
      refine zm_iald C 79 (bs+i) d_M_finish_78 rfl hn (by decide) (by decide) (by decide) rfl (by show bs + i < 1350; omega) (by decide) ?_
      rw [hA0]
      refine z_iconst C 80 d_M_finish_79 rfl 2 (by decide) ?_
      refine z_icmp_ne C 83 97 d_M_finish_80 rfl (by decide) (fun h9 => absurd (show nI 2 = 2 from rfl) h9) (fun _ => ?_)
      refine z_aload_n C 84 d_M_finish_83 rfl rfl ?_
      refine zm_get C 87 f_M_86 d_M_finish_84 rfl hn rfl ?_
      refine z_aload_n C 88 d_M_finish_87 rfl rfl ?_
      refine zm_get C 91 f_M_225 d_M_finish_88 rfl hn rfl ?_
      refine z_iconst C 92 d_M_finish_91 rfl 1 (by decide) ?_
      refine z_iadd C 93 d_M_finish_92 rfl ?_
      refine zm_lald C 94 (w.length+1) d_M_finish_93 rfl hn (by decide) (by decide) (by decide) (nI_1 w.length) (by show w.length + 1 < 400; omega) (by decide) ?_
      rw [hvy]
      refine z_goto C 98 d_M_finish_94 (by decide) ?_
      refine z_lstore C 100 d_M_finish_98 rfl (by decide) ?_
      unfold gNew at hpo
      have neg : (x.1 < 0 ∨ y.1 < 0) → Z G K n (mOv (upd S 36 (nI w.length)) A L rn σ) 0 0 113 [(4, .long (y.1)), (2, .long x.1), (0, .ref 85), (1, .int (nI (bs + i)))] [] := fun q => by
        rw [if_pos q] at hpo
        refine z_aload_n C 114 d_M_finish_113 rfl rfl ?_
        refine z_iconst C 115 d_M_finish_114 rfl 2 (by decide) ?_
        refine zm_puti C 118 p_M_222 d_M_finish_115 rfl hn (by decide) (rfl) rfl rfl ?_
        refine z_goto C 129 d_M_finish_118 (by decide) ?_
        exact z_vret C rfl d_M_finish_129 (by rw [hpo]; exact ⟨rfl, rfl, _, _, _, rfl, hq1.fault 2⟩) (by rw [hmc]; omega) (by rw [hms]; omega)
      refine z_lload_n C 101 d_M_finish_100 rfl rfl ?_
      refine z_lconst C 102 d_M_finish_101 rfl 0 (by decide) ?_
      refine z_lcmp C 103 d_M_finish_102 rfl ?_
      refine z_if_lt C 106 113 d_M_finish_103 rfl (by decide) (fun q1 => ?_) (fun q1 => ?_)
      · exact neg (Or.inl ((lg_cmp_lt _ _).mp q1))
      have q1 : ¬ x.1 < 0 := fun w => q1 ((lg_cmp_lt _ _).mpr w)
      refine z_lload C 108 d_M_finish_106 rfl rfl ?_
      refine z_lconst C 109 d_M_finish_108 rfl 0 (by decide) ?_
      refine z_lcmp C 110 d_M_finish_109 rfl ?_
      refine z_if_ge C 113 121 d_M_finish_110 rfl (by decide) (fun q2 => ?_) (fun q2 => ?_)
      rotate_left
      · exact neg (Or.inr (Int64.not_le.mp (fun q => q2 ((lg_cmp_ge _ _).mpr q))))
      have q2 : ¬ y.1 < 0 := Int64.not_lt.mpr ((lg_cmp_ge _ _).mp q2)
      rw [if_neg (fun q => q.elim q1 q2)] at hpo
      refine z_aload_n C 122 d_M_finish_121 rfl rfl ?_
      refine z_lload_n C 123 d_M_finish_122 rfl rfl ?_
      refine z_lload C 125 d_M_finish_123 rfl rfl ?_
      refine z_iconst C 126 d_M_finish_125 rfl (-1) (by decide) ?_
      refine z_call C 129 (c_M_makeOne (ct := fun _ => 0) hn hq1 (Int64.not_lt.mp q1) (Int64.not_lt.mp q2) (Or.inl ⟨by decide, fun _ => rfl⟩)) w_M_makeOne ini_M d_M_finish_126 rfl (z_goV (As := [.long x.1, .long (y.1), .int (-1)]) C l_M_262 w_M_makeOne d_M_finish_126 (by omega) rfl rfl rfl) (Nat.le_of_ble_eq_true rfl) (by rw [hR]; simp only [zRm]; omega) (by rw [hR]; simp only [zRm]; omega) (by rw [hR]; simp only [zRm]; omega) (by rw [hR]; simp only [zRm]; omega) (fun v n' σ' hv => ?_) (fun x n' σ' hv => ?_)
      rotate_left
      · cases hv.1
      obtain ⟨e0, e1, S', A', L', rfl, hx⟩ := hv
      cases e0
      obtain rfl : n = n' := e1.symm
      exact z_vret C rfl d_M_finish_129 (by rw [hpo]; exact ⟨rfl, rfl, _, _, _, rfl, hx⟩) (by rw [hmc]; omega) (by rw [hms]; omega)
  · rw [if_neg (show ¬ e.1 = 2 by omega), if_neg (show ¬ e.1 = 5 by omega), if_neg (show ¬ e.1 = 6 by omega), if_pos hk, hix] at hres
    have hcn : e.2.2.2.1 = 1 ∨ e.2.2.2.1 = 2 := hct.2.2.2.2.2.2.2.1 hk
    have h88 : A0 88 (bs + i) = nI v0 := (tv (by omega) (by omega) (by omega) (by omega) (by omega) (by omega)).trans ev
    rw [hk] at hA7 h87
    rw [hk]
    refine z_icmp_ne C 10 18 d_M_finish_7 rfl (by decide) (fun _ => ?_) (fun h9 => absurd h9 (show ¬ nI 7 = 2 by decide))
    refine z_aload_n C 19 d_M_finish_18 rfl rfl ?_
    refine zm_get C 22 f_M_17 d_M_finish_19 rfl hn rfl ?_
    refine z_iload_n C 23 d_M_finish_22 rfl rfl ?_
    refine zm_iald C 24 (bs+i) d_M_finish_23 rfl hn (by decide) (by decide) (by decide) rfl (by show bs + i < 1350; omega) (by decide) ?_
    rw [hA7]
    refine z_bipush C 26 d_M_finish_24 rfl 7 (by decide) ?_
    refine z_icmp_eq C 29 40 d_M_finish_26 rfl (by decide) (fun _ => ?_) (fun h9 => absurd (show nI 7 = 7 from rfl) h9)
    refine z_aload_n C 41 d_M_finish_40 rfl rfl ?_
    refine z_iload_n C 42 d_M_finish_41 rfl rfl ?_
    rcases hcn with hcn | hcn
    · rw [hcn] at h90
      rw [if_neg (by omega)] at hres
      match vs, hq, hres with
      | [], hq, hres => cases hres
      | i1 :: w, hq, hres =>
        obtain ⟨a, ha, ham, hX⟩ := gArr_some hres
        subst hX
        refine z_call C 45 (c_M_cellOf_71 hn hq (by omega) h87 h90 h88 hv20 ha ham) w_M_cellOf ini_M d_M_finish_42 rfl (z_goV (As := [.int (nI (bs + i))]) C l_M_278 w_M_cellOf d_M_finish_42 (by omega) rfl rfl rfl) (Nat.le_of_ble_eq_true rfl) (by rw [hR]; simp only [zRm]; omega) (by rw [hR]; simp only [zRm]; omega) (by rw [hR]; simp only [zRm]; omega) (by rw [hR]; simp only [zRm]; omega) (fun v n' σ' hv => ?_) (fun x n' σ' hv => ?_)
        rotate_left
        · cases hv.1
        obtain ⟨e0, e1, S', A', L', rfl, hx⟩ := hv
        cases e0
        obtain rfl : n = n' := e1.symm
        refine z_goto C 129 d_M_finish_45 (by decide) ?_
        exact z_vret C rfl d_M_finish_129 (by rw [hpo]; exact ⟨rfl, rfl, _, _, _, rfl, hx⟩) (by rw [hmc]; omega) (by rw [hms]; omega)
    · rw [hcn] at h90
      rw [if_pos hcn] at hres
      match vs, hq, hres with
      | [], hq, hres => cases hres
      | [_], hq, hres => cases hres
      | j1 :: i1 :: w, hq, hres =>
        obtain ⟨a, ha, ham, hX⟩ := gArr_some hres
        subst hX
        refine z_call C 45 (c_M_cellOf_72 hn hq (by omega) h87 h90 h88 hv20 ha ham) w_M_cellOf ini_M d_M_finish_42 rfl (z_goV (As := [.int (nI (bs + i))]) C l_M_278 w_M_cellOf d_M_finish_42 (by omega) rfl rfl rfl) (Nat.le_of_ble_eq_true rfl) (by rw [hR]; simp only [zRm]; omega) (by rw [hR]; simp only [zRm]; omega) (by rw [hR]; simp only [zRm]; omega) (by rw [hR]; simp only [zRm]; omega) (fun v n' σ' hv => ?_) (fun x n' σ' hv => ?_)
        rotate_left
        · cases hv.1
        obtain ⟨e0, e1, S', A', L', rfl, hx⟩ := hv
        cases e0
        obtain rfl : n = n' := e1.symm
        refine z_goto C 129 d_M_finish_45 (by decide) ?_
        exact z_vret C rfl d_M_finish_129 (by rw [hpo]; exact ⟨rfl, rfl, _, _, _, rfl, hx⟩) (by rw [hmc]; omega) (by rw [hms]; omega)
  · rw [if_neg (show ¬ e.1 = 2 by omega), if_neg (show ¬ e.1 = 5 by omega), if_neg (show ¬ e.1 = 6 by omega), if_neg (show ¬ e.1 = 7 by omega), hix] at hres
    have hcn : e.2.2.2.1 = 2 ∨ e.2.2.2.1 = 3 := hct.2.2.2.2.2.2.2.2.1 hk
    have h88 : A0 88 (bs + i) = nI v0 := (tv (by omega) (by omega) (by omega) (by omega) (by omega) (by omega)).trans ev
    rw [hk] at hA7 h87
    rw [hk]
    refine z_icmp_ne C 10 18 d_M_finish_7 rfl (by decide) (fun _ => ?_) (fun h9 => absurd h9 (show ¬ nI 8 = 2 by decide))
    refine z_aload_n C 19 d_M_finish_18 rfl rfl ?_
    refine zm_get C 22 f_M_17 d_M_finish_19 rfl hn rfl ?_
    refine z_iload_n C 23 d_M_finish_22 rfl rfl ?_
    refine zm_iald C 24 (bs+i) d_M_finish_23 rfl hn (by decide) (by decide) (by decide) rfl (by show bs + i < 1350; omega) (by decide) ?_
    rw [hA7]
    refine z_bipush C 26 d_M_finish_24 rfl 7 (by decide) ?_
    refine z_icmp_eq C 29 40 d_M_finish_26 rfl (by decide) (fun h9 => absurd h9 (show ¬ nI 8 = 7 by decide)) (fun _ => ?_)
    refine z_aload_n C 30 d_M_finish_29 rfl rfl ?_
    refine zm_get C 33 f_M_17 d_M_finish_30 rfl hn rfl ?_
    refine z_iload_n C 34 d_M_finish_33 rfl rfl ?_
    refine zm_iald C 35 (bs+i) d_M_finish_34 rfl hn (by decide) (by decide) (by decide) rfl (by show bs + i < 1350; omega) (by decide) ?_
    rw [hA7]
    refine z_bipush C 37 d_M_finish_35 rfl 8 (by decide) ?_
    refine z_icmp_ne C 40 48 d_M_finish_37 rfl (by decide) (fun h9 => absurd (show nI 8 = 8 from rfl) h9) (fun _ => ?_)
    refine z_aload_n C 41 d_M_finish_40 rfl rfl ?_
    refine z_iload_n C 42 d_M_finish_41 rfl rfl ?_
    rcases hcn with hcn | hcn
    · rw [hcn] at h90
      rw [if_neg (by omega)] at hres
      match vs, hq, hres with
      | [], hq, hres => cases hres
      | [_], hq, hres => cases hres
      | x1 :: i1 :: w, hq, hres =>
        obtain ⟨a, ha, ham, hX⟩ := gArr_some hres
        subst hX
        refine z_call C 45 (c_M_cellOf_82 hn hq (by omega) h87 h90 h88 hv20 ha ham) w_M_cellOf ini_M d_M_finish_42 rfl (z_goV (As := [.int (nI (bs + i))]) C l_M_278 w_M_cellOf d_M_finish_42 (by omega) rfl rfl rfl) (Nat.le_of_ble_eq_true rfl) (by rw [hR]; simp only [zRm]; omega) (by rw [hR]; simp only [zRm]; omega) (by rw [hR]; simp only [zRm]; omega) (by rw [hR]; simp only [zRm]; omega) (fun v n' σ' hv => ?_) (fun x n' σ' hv => ?_)
        rotate_left
        · cases hv.1
        obtain ⟨e0, e1, S', A', L', rfl, hx⟩ := hv
        cases e0
        obtain rfl : n = n' := e1.symm
        refine z_goto C 129 d_M_finish_45 (by decide) ?_
        exact z_vret C rfl d_M_finish_129 (by rw [hpo]; exact ⟨rfl, rfl, _, _, _, rfl, hx⟩) (by rw [hmc]; omega) (by rw [hms]; omega)
    · rw [hcn] at h90
      rw [if_pos hcn] at hres
      match vs, hq, hres with
      | [], hq, hres => cases hres
      | [_], hq, hres => cases hres
      | [_, _], hq, hres => cases hres
      | x1 :: j1 :: i1 :: w, hq, hres =>
        obtain ⟨a, ha, ham, hX⟩ := gArr_some hres
        subst hX
        refine z_call C 45 (c_M_cellOf_83 hn hq (by omega) h87 h90 h88 hv20 ha ham) w_M_cellOf ini_M d_M_finish_42 rfl (z_goV (As := [.int (nI (bs + i))]) C l_M_278 w_M_cellOf d_M_finish_42 (by omega) rfl rfl rfl) (Nat.le_of_ble_eq_true rfl) (by rw [hR]; simp only [zRm]; omega) (by rw [hR]; simp only [zRm]; omega) (by rw [hR]; simp only [zRm]; omega) (by rw [hR]; simp only [zRm]; omega) (fun v n' σ' hv => ?_) (fun x n' σ' hv => ?_)
        rotate_left
        · cases hv.1
        obtain ⟨e0, e1, S', A', L', rfl, hx⟩ := hv
        cases e0
        obtain rfl : n = n' := e1.symm
        refine z_goto C 129 d_M_finish_45 (by decide) ?_
        exact z_vret C rfl d_M_finish_129 (by rw [hpo]; exact ⟨rfl, rfl, _, _, _, rfl, hx⟩) (by rw [hmc]; omega) (by rw [hms]; omega)
theorem gSt_0 (h : e.1 = 0) : gSt V bs i e kk pl vs dp EV m AR k = (some (.inr (pl, (e.2.2.2.2.1, -1) :: vs, dp, EV, m, AR, k))) := by
  unfold gSt
  rw [h]
  rfl
theorem gSt_1 (h : e.1 = 1) : gSt V bs i e kk pl vs dp EV m AR k = (some (.inr (pl, EV dp (cIx (eVr e)) :: vs, dp, EV, m, AR, k))) := by
  unfold gSt
  rw [h]
  rfl
theorem gSt_9 (h : e.1 = 9) : gSt V bs i e kk pl vs dp EV m AR k = (gArr (EV dp (cIx (eVr e))).2 m fun a => .inr (pl, ((nI (AR a).1).toInt64, -1) :: vs, dp, EV, m, AR, k)) := by
  unfold gSt
  rw [h]
  rfl
theorem gSt_10 (h : e.1 = 10) : gSt V bs i e kk pl vs dp EV m AR k = (gArr (EV dp (cIx (eVr e))).2 m fun a => .inr (pl, ((nI (AR a).2.1).toInt64, -1) :: vs, dp, EV, m, AR, k)) := by
  unfold gSt
  rw [h]
  rfl
theorem gSt_11 (h : e.1 = 11) : gSt V bs i e kk pl vs dp EV m AR k = (gArr (EV dp (cIx (eVr e))).2 m fun a => gMk (nI (AR a).1).toInt64 (nI (AR a).2.1).toInt64 (AR a).2.2 pl vs dp EV m AR k) := by
  unfold gSt
  rw [h]
  rfl
theorem gSt_3 (h : e.1 = 3) : gSt V bs i e kk pl vs dp EV m AR k = (gCho bs i e kk pl vs dp EV m AR k) := by
  unfold gSt
  rw [h]
  rfl
theorem gSt_4 (h : e.1 = 4) : gSt V bs i e kk pl vs dp EV m AR k = (gBnd bs i e kk pl vs dp EV m AR k) := by
  unfold gSt
  rw [h]
  rfl
theorem gSt_12 (h : e.1 = 12) : gSt V bs i e kk pl vs dp EV m AR k = (gDrp bs i e kk pl vs dp EV m AR k) := by
  unfold gSt
  rw [h]
  rfl
theorem gSt_13 (h : e.1 = 13) : gSt V bs i e kk pl vs dp EV m AR k = (gCal V bs i e kk pl vs dp EV m AR k) := by
  unfold gSt
  rw [h]
  rfl
theorem gSt_2 (h : e.1 = 2) : gSt V bs i e kk pl vs dp EV m AR k = (gDef bs i e kk pl vs dp EV m AR k) := by
  unfold gSt
  rw [h]
  rfl
theorem gSt_5 (h : e.1 = 5) : gSt V bs i e kk pl vs dp EV m AR k = (gDef bs i e kk pl vs dp EV m AR k) := by
  unfold gSt
  rw [h]
  rfl
theorem gSt_6 (h : e.1 = 6) : gSt V bs i e kk pl vs dp EV m AR k = (gDef bs i e kk pl vs dp EV m AR k) := by
  unfold gSt
  rw [h]
  rfl
theorem gSt_7 (h : e.1 = 7) : gSt V bs i e kk pl vs dp EV m AR k = (gDef bs i e kk pl vs dp EV m AR k) := by
  unfold gSt
  rw [h]
  rfl
theorem gSt_8 (h : e.1 = 8) : gSt V bs i e kk pl vs dp EV m AR k = (gDef bs i e kk pl vs dp EV m AR k) := by
  unfold gSt
  rw [h]
  rfl
theorem c_M_goOn (hn : 113 ≤ n) (hq0 : mQ S0 A0 L0 ((bs + i, kk) :: pl, vs, dp, EV, m, AR, k) S A L) (hpl : pl.length + 1 < 80) (hN : gN A0 bs i e) (hcal : e.1 = 13 → A0 93 (cIx (eNm e)) = nI e.2.2.2.1 ∧ ∀ j, j < e.2.2.2.1 → A0 95 (4 * cIx (eNm e) + j) = V j ∧ ∃ v, v < 20 ∧ V j = nI v) (hkk : kk ≤ 5) (hres : gSt V bs i e kk pl vs dp EV m AR k = some X) : MetZ G l y_M_goOn b_M_goOn 5 none [] 3 0 0 [.ref 85] n (mOv S A L rn σ) (mGp S0 A0 L0 rn σ n X) := by
  have hN0 := hN
  obtain ⟨hnd, hk14, h87, h90, ⟨⟨v0, hv20, ev⟩, ⟨g, hg8, eg⟩, t0, t2, t13, tv, -, -⟩, hct, hc4, Xf, hX0, hX⟩ := hN
  have hix : cIx (eVr e) = v0 := by rw [ev]; exact nI_clamp (by omega)
  have hig : cIx (eNm e) = g := by rw [eg]; exact nI_clamp (by omega)
  obtain ⟨h19, h36, h33, h32, l1, l2, l3, l4⟩ := hq0.lims
  have hb0 := hq0.2.2.2.2.2.2.2.2.1
  have hp1 : A 98 pl.length = nI (bs + i) := hq0.2.2.2.1.1
  have hp2 : A 99 pl.length = nI kk := hq0.2.2.2.1.2.1
  have ho1 : S 19 - 1 = nI pl.length := by rw [h19]; exact nI_p1 _
  refine MetZ.of (by decide) (Nat.le_of_ble_eq_true rfl) (fun K hK hR hpo hmc hms C => ?_)
  have main : ∀ A1 : mA, mQ S0 A0 L0 ((bs + i, kk + 1) :: pl, vs, dp, EV, m, AR, k) S A1 L → Z G K n (mOv S A1 L rn σ) 0 0 76 [(4, .int (nI (min kk e.2.2.2.1))), (3, .int (nI (Xf (min kk e.2.2.2.1)))), (2, .int (nI kk)), (1, .int (nI (bs + i))), (0, .ref 85)] [] := fun A1 hq => by
    have hb := hq.2.2.2.2.2.2.2.2.1
    have b87 : A1 87 (bs + i) = nI e.1 := by rw [hb 87 (by decide)]; exact h87
    have b88 : A1 88 (bs + i) = A0 88 (bs + i) := by rw [hb 88 (by decide)]
    have b90 : A1 90 (bs + i) = nI e.2.2.2.1 := by rw [hb 90 (by decide)]; exact h90
    have bL : L 107 (20 * dp + v0) = (EV dp v0).1 := (hq.2.2.2.2.2.1 dp (by omega) v0 hv20).1
    have bA : A1 108 (20 * dp + v0) = (EV dp v0).2 := (hq.2.2.2.2.2.1 dp (by omega) v0 hv20).2
    refine z_aload_n C 77 d_M_goOn_76 rfl rfl ?_
    refine zm_get C 80 f_M_17 d_M_goOn_77 rfl hn rfl ?_
    refine z_iload_n C 81 d_M_goOn_80 rfl rfl ?_
    refine zm_iald C 82 (bs+i) d_M_goOn_81 rfl hn (by decide) (by decide) (by decide) rfl (by show bs + i < 1350; omega) (by decide) ?_
    rw [b87]
    have hcase : e.1 = 0 ∨ e.1 = 1 ∨ e.1 = 2 ∨ e.1 = 3 ∨ e.1 = 4 ∨ e.1 = 5 ∨ e.1 = 6 ∨ e.1 = 7 ∨ e.1 = 8 ∨ e.1 = 9 ∨ e.1 = 10 ∨ e.1 = 11 ∨ e.1 = 12 ∨ e.1 = 13 := by omega
    have dflt : (e.1 = 2 ∨ e.1 = 5 ∨ e.1 = 6 ∨ e.1 = 7 ∨ e.1 = 8) → gDef bs i e kk pl vs dp EV m AR k = some X → Z G K n (mOv S A1 L rn σ) 0 0 516 [(4, .int (nI (min kk e.2.2.2.1))), (3, .int (nI (Xf (min kk e.2.2.2.1)))), (2, .int (nI kk)), (1, .int (nI (bs + i))), (0, .ref 85)] [] := fun hk hres => by
      unfold gDef at hres
      refine z_iload_n C 517 d_M_goOn_516 rfl rfl ?_
      refine z_aload_n C 518 d_M_goOn_517 rfl rfl ?_
      refine zm_get C 521 f_M_27 d_M_goOn_518 rfl hn rfl ?_
      refine z_iload_n C 522 d_M_goOn_521 rfl rfl ?_
      refine zm_iald C 523 (bs+i) d_M_goOn_522 rfl hn (by decide) (by decide) (by decide) rfl (by show bs + i < 1350; omega) (by decide) ?_
      rw [b90]
      by_cases q : kk < e.2.2.2.1
      · rw [if_pos q] at hres
        cases hres
        rw [Nat.min_eq_left (Nat.le_of_lt q)]
        refine z_icmp_ge C 526 534 d_M_goOn_523 rfl (by decide) (fun h9 => absurd h9 (fun w => absurd ((nI_leI (a := e.2.2.2.1) (b := kk) (by omega) (by omega)).mp w) (by omega))) (fun _ => ?_)
        rw [(hX kk q).1]
        refine z_aload_n C 527 d_M_goOn_526 rfl rfl ?_
        refine z_iload_n C 528 d_M_goOn_527 rfl rfl ?_
        refine z_call C 531 (c_M_startQ hn hq (show pl.length + 1 < 80 from hpl)) w_M_start ini_M d_M_goOn_528 rfl (z_goV (As := [.int (nI (bs + ePt e kk))]) C l_M_259 w_M_start d_M_goOn_528 (by omega) rfl rfl rfl) (Nat.le_of_ble_eq_true rfl) (by rw [hR]; simp only [zRm]; omega) (by rw [hR]; simp only [zRm]; omega) (by rw [hR]; simp only [zRm]; omega) (by rw [hR]; simp only [zRm]; omega) (fun v n' σ' hv => ?_) (fun x n' σ' hv => ?_)
        rotate_left
        · cases hv.1
        obtain ⟨e0, e1, S', A', L', rfl, hx⟩ := hv
        cases e0
        obtain rfl : n = n' := e1.symm
        refine z_goto C 539 d_M_goOn_531 (by decide) ?_
        exact z_vret C rfl d_M_goOn_539 (by rw [hpo]; exact ⟨rfl, rfl, _, _, _, rfl, hx⟩) (by rw [hmc]; omega) (by rw [hms]; omega)
      · rw [if_neg q] at hres
        refine z_icmp_ge C 526 534 d_M_goOn_523 rfl (by decide) (fun _ => ?_) (fun h9 => absurd ((nI_leI (a := e.2.2.2.1) (b := kk) (by omega) (by omega)).mpr (by omega)) h9)
        refine z_aload_n C 535 d_M_goOn_534 rfl rfl ?_
        refine z_iload_n C 536 d_M_goOn_535 rfl rfl ?_
        refine z_call C 539 (c_M_finish hn hq hN0 hk hres) w_M_finish ini_M d_M_goOn_536 rfl (z_goV (As := [.int (nI (bs + i))]) C l_M_272 w_M_finish d_M_goOn_536 (by omega) rfl rfl rfl) (Nat.le_of_ble_eq_true rfl) (by rw [hR]; simp only [zRm]; omega) (by rw [hR]; simp only [zRm]; omega) (by rw [hR]; simp only [zRm]; omega) (by rw [hR]; simp only [zRm]; omega) (fun v n' σ' hv => ?_) (fun x n' σ' hv => ?_)
        rotate_left
        · cases hv.1
        obtain ⟨e0, e1, S', A', L', rfl, hx⟩ := hv
        cases e0
        obtain rfl : n = n' := e1.symm
        exact z_vret C rfl d_M_goOn_539 (by rw [hpo]; exact ⟨rfl, rfl, _, _, _, rfl, hx⟩) (by rw [hmc]; omega) (by rw [hms]; omega)
    rcases hcase with hk | hk | hk | hk | hk | hk | hk | hk | hk | hk | hk | hk | hk | hk
    · rw [gSt_0 hk] at hres
      rw [hk]
      refine z_tableIn C 152 d_M_goOn_82 (by decide) (by decide) (off := 70) (by decide) (by decide) ?_
      cases hres
      obtain ⟨v1, hv1, ex, en⟩ := t0 hk
      refine z_aload_n C 153 d_M_goOn_152 rfl rfl ?_
      refine z_aload_n C 154 d_M_goOn_153 rfl rfl ?_
      refine zm_get C 157 f_M_21 d_M_goOn_154 rfl hn rfl ?_
      refine z_iload_n C 158 d_M_goOn_157 rfl rfl ?_
      refine zm_iald C 159 (bs+i) d_M_goOn_158 rfl hn (by decide) (by decide) (by decide) rfl (by show bs + i < 1350; omega) (by decide) ?_
      rw [b88, ex]
      refine z_i2l C 160 d_M_goOn_159 rfl ?_
      refine z_iconst C 161 d_M_goOn_160 rfl (-1) (by decide) ?_
      rw [nI_l (show v1 < 2 ^ 31 by omega), ← en]
      refine z_call C 164 (c_M_giveQ hn hq) w_M_give ini_M d_M_goOn_161 rfl (z_goV (As := [.long e.2.2.2.2.1, .int (-1)]) C l_M_246 w_M_give d_M_goOn_161 (by omega) rfl rfl rfl) (Nat.le_of_ble_eq_true rfl) (by rw [hR]; simp only [zRm]; omega) (by rw [hR]; simp only [zRm]; omega) (by rw [hR]; simp only [zRm]; omega) (by rw [hR]; simp only [zRm]; omega) (fun v n' σ' hv => ?_) (fun x n' σ' hv => ?_)
      rotate_left
      · cases hv.1
      obtain ⟨e0, e1, S', A', L', rfl, hx⟩ := hv
      cases e0
      obtain rfl : n = n' := e1.symm
      refine z_goto C 539 d_M_goOn_164 (by decide) ?_
      exact z_vret C rfl d_M_goOn_539 (by rw [hpo]; exact ⟨rfl, rfl, _, _, _, rfl, hx⟩) (by rw [hmc]; omega) (by rw [hms]; omega)
    · rw [gSt_1 hk] at hres
      rw [hk]
      refine z_tableIn C 167 d_M_goOn_82 (by decide) (by decide) (off := 85) (by decide) (by decide) ?_
      have h88 : A1 88 (bs + i) = nI v0 := b88.trans ((tv (by omega) (by omega) (by omega) (by omega) (by omega) (by omega)).trans ev)
      rw [hix] at hres
      cases hres
      refine z_aload_n C 168 d_M_goOn_167 rfl rfl ?_
      refine z_aload_n C 169 d_M_goOn_168 rfl rfl ?_
      refine zm_get C 172 f_M_80 d_M_goOn_169 rfl hn rfl ?_
      refine z_bipush C 174 d_M_goOn_172 rfl 20 (by decide) ?_
      refine z_aload_n C 175 d_M_goOn_174 rfl rfl ?_
      refine zm_get C 178 f_M_250 d_M_goOn_175 rfl hn rfl ?_
      refine z_imul C 179 d_M_goOn_178 rfl ?_
      refine z_aload_n C 180 d_M_goOn_179 rfl rfl ?_
      refine zm_get C 183 f_M_21 d_M_goOn_180 rfl hn rfl ?_
      refine z_iload_n C 184 d_M_goOn_183 rfl rfl ?_
      refine zm_iald C 185 (bs+i) d_M_goOn_184 rfl hn (by decide) (by decide) (by decide) rfl (by show bs + i < 1350; omega) (by decide) ?_
      rw [h88]
      refine z_iadd C 186 d_M_goOn_185 rfl ?_
      refine zm_lald C 187 (20*dp+v0) d_M_goOn_186 rfl hn (by decide) (by decide) (by decide) (by rw [h33]; exact nI_20 dp v0) (by show 20 * dp + v0 < 160; omega) (by decide) ?_
      rw [bL]
      refine z_aload_n C 188 d_M_goOn_187 rfl rfl ?_
      refine zm_get C 191 f_M_83 d_M_goOn_188 rfl hn rfl ?_
      refine z_bipush C 193 d_M_goOn_191 rfl 20 (by decide) ?_
      refine z_aload_n C 194 d_M_goOn_193 rfl rfl ?_
      refine zm_get C 197 f_M_250 d_M_goOn_194 rfl hn rfl ?_
      refine z_imul C 198 d_M_goOn_197 rfl ?_
      refine z_aload_n C 199 d_M_goOn_198 rfl rfl ?_
      refine zm_get C 202 f_M_21 d_M_goOn_199 rfl hn rfl ?_
      refine z_iload_n C 203 d_M_goOn_202 rfl rfl ?_
      refine zm_iald C 204 (bs+i) d_M_goOn_203 rfl hn (by decide) (by decide) (by decide) rfl (by show bs + i < 1350; omega) (by decide) ?_
      rw [h88]
      refine z_iadd C 205 d_M_goOn_204 rfl ?_
      refine zm_iald C 206 (20*dp+v0) d_M_goOn_205 rfl hn (by decide) (by decide) (by decide) (by rw [h33]; exact nI_20 dp v0) (by show 20 * dp + v0 < 160; omega) (by decide) ?_
      rw [bA]
      refine z_call C 209 (c_M_giveQ hn hq) w_M_give ini_M d_M_goOn_206 rfl (z_goV (As := [.long (EV dp v0).1, .int (EV dp v0).2]) C l_M_246 w_M_give d_M_goOn_206 (by omega) rfl rfl rfl) (Nat.le_of_ble_eq_true rfl) (by rw [hR]; simp only [zRm]; omega) (by rw [hR]; simp only [zRm]; omega) (by rw [hR]; simp only [zRm]; omega) (by rw [hR]; simp only [zRm]; omega) (fun v n' σ' hv => ?_) (fun x n' σ' hv => ?_)
      rotate_left
      · cases hv.1
      obtain ⟨e0, e1, S', A', L', rfl, hx⟩ := hv
      cases e0
      obtain rfl : n = n' := e1.symm
      refine z_goto C 539 d_M_goOn_209 (by decide) ?_
      exact z_vret C rfl d_M_goOn_539 (by rw [hpo]; exact ⟨rfl, rfl, _, _, _, rfl, hx⟩) (by rw [hmc]; omega) (by rw [hms]; omega)
    · rw [gSt_2 hk] at hres
      rw [hk]
      refine z_tableIn C 516 d_M_goOn_82 (by decide) (by decide) (off := 434) (by decide) (by decide) ?_
      exact dflt (Or.inl hk) hres
    · rw [gSt_3 hk] at hres
      rw [hk]
      refine z_tableIn C 324 d_M_goOn_82 (by decide) (by decide) (off := 242) (by decide) (by decide) ?_
      have hcn : e.2.2.2.1 = 3 := hct.2.2.2.1 hk
      unfold gCho at hres
      by_cases q0 : kk = 0
      · subst q0
        rw [if_pos rfl] at hres
        cases hres
        rw [Nat.min_eq_left (Nat.zero_le _), (hX 0 (by omega)).1]
        refine z_iload_n C 325 d_M_goOn_324 rfl rfl ?_
        refine z_iconst C 326 d_M_goOn_325 rfl 1 (by decide) ?_
        refine z_icmp_ne C 329 339 d_M_goOn_326 rfl (by decide) (fun _ => ?_) (fun h9 => absurd h9 (show ¬ nI 0 = 1 by decide))
        refine z_iload_n C 340 d_M_goOn_339 rfl rfl ?_
        refine z_iconst C 341 d_M_goOn_340 rfl 1 (by decide) ?_
        refine z_icmp_ne C 344 365 d_M_goOn_341 rfl (by decide) (fun _ => ?_) (fun h9 => absurd h9 (show ¬ nI 0 = 1 by decide))
        refine z_iload_n C 366 d_M_goOn_365 rfl rfl ?_
        refine z_iconst C 367 d_M_goOn_366 rfl 2 (by decide) ?_
        refine z_icmp_ge C 370 378 d_M_goOn_367 rfl (by decide) (fun h9 => absurd h9 (show ¬ (2 : Int32) ≤ nI 0 by decide)) (fun _ => ?_)
        refine z_aload_n C 371 d_M_goOn_370 rfl rfl ?_
        refine z_iload_n C 372 d_M_goOn_371 rfl rfl ?_
        refine z_call C 375 (c_M_startQ hn hq (show pl.length + 1 < 80 from hpl)) w_M_start ini_M d_M_goOn_372 rfl (z_goV (As := [.int (nI (bs + ePt e 0))]) C l_M_259 w_M_start d_M_goOn_372 (by omega) rfl rfl rfl) (Nat.le_of_ble_eq_true rfl) (by rw [hR]; simp only [zRm]; omega) (by rw [hR]; simp only [zRm]; omega) (by rw [hR]; simp only [zRm]; omega) (by rw [hR]; simp only [zRm]; omega) (fun v n' σ' hv => ?_) (fun x n' σ' hv => ?_)
        rotate_left
        · cases hv.1
        obtain ⟨e0, e1, S', A', L', rfl, hx⟩ := hv
        cases e0
        obtain rfl : n = n' := e1.symm
        refine z_goto C 539 d_M_goOn_375 (by decide) ?_
        exact z_vret C rfl d_M_goOn_539 (by rw [hpo]; exact ⟨rfl, rfl, _, _, _, rfl, hx⟩) (by rw [hmc]; omega) (by rw [hms]; omega)
      rw [if_neg q0] at hres
      by_cases q1 : kk = 1
      · subst q1
        rw [if_pos rfl] at hres
        match vs, hq, hres with
        | [], hq, hres => cases hres
        | x :: w, hq, hres =>
          cases hres
          have g36 : S 36 = nI (w.length + 1) := hq.1.2.1
          have l3 : w.length + 1 + (pl.length + 1) ≤ 400 := hq.lims.2.2.2.2.2.2.1
          have hvx : L 109 w.length = x.1 := hq.2.2.2.2.1.1
          have hq1 : mQ S0 A0 L0 ((bs + i, 2) :: pl, w, dp, EV, m, AR, k) (upd S 36 (nI w.length)) A1 L := hq.pop 1
          rw [Nat.min_eq_left (show 1 ≤ e.2.2.2.1 by omega)]
          refine z_iload_n C 325 d_M_goOn_324 rfl rfl ?_
          refine z_iconst C 326 d_M_goOn_325 rfl 1 (by decide) ?_
          refine z_icmp_ne C 329 339 d_M_goOn_326 rfl (by decide) (fun h9 => absurd (show nI 1 = 1 from rfl) h9) (fun _ => ?_)
          refine z_aload_n C 330 d_M_goOn_329 rfl rfl ?_
          refine z_dup C 331 d_M_goOn_330 rfl rfl ?_
          refine zm_get C 334 f_M_225 d_M_goOn_331 rfl hn rfl ?_
          refine z_iconst C 335 d_M_goOn_334 rfl 1 (by decide) ?_
          refine z_isub C 336 d_M_goOn_335 rfl ?_
          refine zm_puti C 339 p_M_225 d_M_goOn_336 rfl hn (by decide) (rfl) rfl rfl ?_
          rw [g36, nI_p1]
          refine z_iload_n C 340 d_M_goOn_339 rfl rfl ?_
          refine z_iconst C 341 d_M_goOn_340 rfl 1 (by decide) ?_
          refine z_icmp_ne C 344 365 d_M_goOn_341 rfl (by decide) (fun h9 => absurd (show nI 1 = 1 from rfl) h9) (fun _ => ?_)
          refine z_aload_n C 345 d_M_goOn_344 rfl rfl ?_
          refine zm_get C 348 f_M_86 d_M_goOn_345 rfl hn rfl ?_
          refine z_aload_n C 349 d_M_goOn_348 rfl rfl ?_
          refine zm_get C 352 f_M_225 d_M_goOn_349 rfl hn rfl ?_
          refine zm_lald C 353 w.length d_M_goOn_352 rfl hn (by decide) (by decide) (by decide) rfl (by show w.length < 400; omega) (by decide) ?_
          rw [hvx]
          refine z_lconst C 354 d_M_goOn_353 rfl 0 (by decide) ?_
          refine z_lcmp C 355 d_M_goOn_354 rfl ?_
          obtain ⟨hx1, hx1l, hx1e⟩ := hX 1 (by omega)
          by_cases qx : x.1 = 0
          · rw [if_pos qx] at hpo
            have b91 : A1 91 (Xf 1) = nI (Xf 2) := by rw [hb 91 (by decide)]; exact hx1e
            refine z_if_ne C 358 365 d_M_goOn_355 rfl (by decide) (fun h9 => absurd ((lg_cmp_eq _ _).mpr qx) h9) (fun _ => ?_)
            refine z_aload_n C 359 d_M_goOn_358 rfl rfl ?_
            refine zm_get C 362 f_M_30 d_M_goOn_359 rfl hn rfl ?_
            refine z_iload_n C 363 d_M_goOn_362 rfl rfl ?_
            refine zm_iald C 364 (Xf 1) d_M_goOn_363 rfl hn (by decide) (by decide) (by decide) rfl (by show Xf 1 < 1350; omega) (by decide) ?_
            rw [b91, (hX 2 (by omega)).1]
            refine z_istore_n C 365 d_M_goOn_364 rfl (by decide) ?_
            refine z_iload_n C 366 d_M_goOn_365 rfl rfl ?_
            refine z_iconst C 367 d_M_goOn_366 rfl 2 (by decide) ?_
            refine z_icmp_ge C 370 378 d_M_goOn_367 rfl (by decide) (fun h9 => absurd h9 (show ¬ (2 : Int32) ≤ nI 1 by decide)) (fun _ => ?_)
            refine z_aload_n C 371 d_M_goOn_370 rfl rfl ?_
            refine z_iload_n C 372 d_M_goOn_371 rfl rfl ?_
            refine z_call C 375 (c_M_startQ hn hq1 (show pl.length + 1 < 80 from hpl)) w_M_start ini_M d_M_goOn_372 rfl (z_goV (As := [.int (nI (bs + ePt e 2))]) C l_M_259 w_M_start d_M_goOn_372 (by omega) rfl rfl rfl) (Nat.le_of_ble_eq_true rfl) (by rw [hR]; simp only [zRm]; omega) (by rw [hR]; simp only [zRm]; omega) (by rw [hR]; simp only [zRm]; omega) (by rw [hR]; simp only [zRm]; omega) (fun v n' σ' hv => ?_) (fun x n' σ' hv => ?_)
            rotate_left
            · cases hv.1
            obtain ⟨e0, e1, S', A', L', rfl, hx⟩ := hv
            cases e0
            obtain rfl : n = n' := e1.symm
            refine z_goto C 539 d_M_goOn_375 (by decide) ?_
            exact z_vret C rfl d_M_goOn_539 (by rw [hpo]; exact ⟨rfl, rfl, _, _, _, rfl, hx⟩) (by rw [hmc]; omega) (by rw [hms]; omega)
          · rw [if_neg qx] at hpo
            rw [hx1]
            refine z_if_ne C 358 365 d_M_goOn_355 rfl (by decide) (fun _ => ?_) (fun h9 => absurd h9 (fun w => qx ((lg_cmp_eq _ _).mp w)))
            refine z_iload_n C 366 d_M_goOn_365 rfl rfl ?_
            refine z_iconst C 367 d_M_goOn_366 rfl 2 (by decide) ?_
            refine z_icmp_ge C 370 378 d_M_goOn_367 rfl (by decide) (fun h9 => absurd h9 (show ¬ (2 : Int32) ≤ nI 1 by decide)) (fun _ => ?_)
            refine z_aload_n C 371 d_M_goOn_370 rfl rfl ?_
            refine z_iload_n C 372 d_M_goOn_371 rfl rfl ?_
            refine z_call C 375 (c_M_startQ hn hq1 (show pl.length + 1 < 80 from hpl)) w_M_start ini_M d_M_goOn_372 rfl (z_goV (As := [.int (nI (bs + ePt e 1))]) C l_M_259 w_M_start d_M_goOn_372 (by omega) rfl rfl rfl) (Nat.le_of_ble_eq_true rfl) (by rw [hR]; simp only [zRm]; omega) (by rw [hR]; simp only [zRm]; omega) (by rw [hR]; simp only [zRm]; omega) (by rw [hR]; simp only [zRm]; omega) (fun v n' σ' hv => ?_) (fun x n' σ' hv => ?_)
            rotate_left
            · cases hv.1
            obtain ⟨e0, e1, S', A', L', rfl, hx⟩ := hv
            cases e0
            obtain rfl : n = n' := e1.symm
            refine z_goto C 539 d_M_goOn_375 (by decide) ?_
            exact z_vret C rfl d_M_goOn_539 (by rw [hpo]; exact ⟨rfl, rfl, _, _, _, rfl, hx⟩) (by rw [hmc]; omega) (by rw [hms]; omega)
      rw [if_neg q1] at hres
      cases hres
      have hne1 : ¬ nI kk = 1 := fun w => q1 (nI_inj (b := 1) (by omega) (by omega) w)
      refine z_iload_n C 325 d_M_goOn_324 rfl rfl ?_
      refine z_iconst C 326 d_M_goOn_325 rfl 1 (by decide) ?_
      refine z_icmp_ne C 329 339 d_M_goOn_326 rfl (by decide) (fun _ => ?_) (fun h9 => absurd h9 hne1)
      refine z_iload_n C 340 d_M_goOn_339 rfl rfl ?_
      refine z_iconst C 341 d_M_goOn_340 rfl 1 (by decide) ?_
      refine z_icmp_ne C 344 365 d_M_goOn_341 rfl (by decide) (fun _ => ?_) (fun h9 => absurd h9 hne1)
      refine z_iload_n C 366 d_M_goOn_365 rfl rfl ?_
      refine z_iconst C 367 d_M_goOn_366 rfl 2 (by decide) ?_
      refine z_icmp_ge C 370 378 d_M_goOn_367 rfl (by decide) (fun _ => ?_) (fun h9 => absurd ((nI_leI (a := 2) (b := kk) (by omega) (by omega)).mpr (by omega)) h9)
      refine z_aload_n C 379 d_M_goOn_378 rfl rfl ?_
      refine z_call C 382 (c_M_passQ hn hq) w_M_pass ini_M d_M_goOn_379 rfl (z_goV (As := []) C l_M_266 w_M_pass d_M_goOn_379 (by omega) rfl rfl rfl) (Nat.le_of_ble_eq_true rfl) (by rw [hR]; simp only [zRm]; omega) (by rw [hR]; simp only [zRm]; omega) (by rw [hR]; simp only [zRm]; omega) (by rw [hR]; simp only [zRm]; omega) (fun v n' σ' hv => ?_) (fun x n' σ' hv => ?_)
      rotate_left
      · cases hv.1
      obtain ⟨e0, e1, S', A', L', rfl, hx⟩ := hv
      cases e0
      obtain rfl : n = n' := e1.symm
      refine z_goto C 539 d_M_goOn_382 (by decide) ?_
      exact z_vret C rfl d_M_goOn_539 (by rw [hpo]; exact ⟨rfl, rfl, _, _, _, rfl, hx⟩) (by rw [hmc]; omega) (by rw [hms]; omega)
    · rw [gSt_4 hk] at hres
      rw [hk]
      refine z_tableIn C 385 d_M_goOn_82 (by decide) (by decide) (off := 303) (by decide) (by decide) ?_
      have h88 : A1 88 (bs + i) = nI v0 := b88.trans ((tv (by omega) (by omega) (by omega) (by omega) (by omega) (by omega)).trans ev)
      have hcn : e.2.2.2.1 = 2 := hct.2.2.2.2.1 hk
      unfold gBnd at hres
      rw [hix] at hres
      by_cases q0 : kk = 0
      · subst q0
        rw [if_pos rfl] at hres
        cases hres
        rw [Nat.min_eq_left (Nat.zero_le _), (hX 0 (by omega)).1]
        refine z_iload_n C 386 d_M_goOn_385 rfl rfl ?_
        refine z_iconst C 387 d_M_goOn_386 rfl 1 (by decide) ?_
        refine z_icmp_ne C 390 414 d_M_goOn_387 rfl (by decide) (fun _ => ?_) (fun h9 => absurd h9 (show ¬ nI 0 = 1 by decide))
        refine z_iload_n C 415 d_M_goOn_414 rfl rfl ?_
        refine z_iconst C 416 d_M_goOn_415 rfl 2 (by decide) ?_
        refine z_icmp_ge C 419 427 d_M_goOn_416 rfl (by decide) (fun h9 => absurd h9 (show ¬ (2 : Int32) ≤ nI 0 by decide)) (fun _ => ?_)
        refine z_aload_n C 420 d_M_goOn_419 rfl rfl ?_
        refine z_iload_n C 421 d_M_goOn_420 rfl rfl ?_
        refine z_call C 424 (c_M_startQ hn hq (show pl.length + 1 < 80 from hpl)) w_M_start ini_M d_M_goOn_421 rfl (z_goV (As := [.int (nI (bs + ePt e 0))]) C l_M_259 w_M_start d_M_goOn_421 (by omega) rfl rfl rfl) (Nat.le_of_ble_eq_true rfl) (by rw [hR]; simp only [zRm]; omega) (by rw [hR]; simp only [zRm]; omega) (by rw [hR]; simp only [zRm]; omega) (by rw [hR]; simp only [zRm]; omega) (fun v n' σ' hv => ?_) (fun x n' σ' hv => ?_)
        rotate_left
        · cases hv.1
        obtain ⟨e0, e1, S', A', L', rfl, hx⟩ := hv
        cases e0
        obtain rfl : n = n' := e1.symm
        refine z_goto C 539 d_M_goOn_424 (by decide) ?_
        exact z_vret C rfl d_M_goOn_539 (by rw [hpo]; exact ⟨rfl, rfl, _, _, _, rfl, hx⟩) (by rw [hmc]; omega) (by rw [hms]; omega)
      rw [if_neg q0] at hres
      by_cases q1 : kk = 1
      · subst q1
        rw [if_pos rfl] at hres
        match vs, hq, hres with
        | [], hq, hres => cases hres
        | x :: w, hq, hres =>
          cases hres
          have g36 : S 36 = nI (w.length + 1) := hq.1.2.1
          have l3 : w.length + 1 + (pl.length + 1) ≤ 400 := hq.lims.2.2.2.2.2.2.1
          have hvx : L 109 w.length = x.1 := hq.2.2.2.2.1.1
          have hvy : A1 110 w.length = x.2 := hq.2.2.2.2.1.2.1
          have hq1 : mQ S0 A0 L0 ((bs + i, 2) :: pl, w, dp, EV, m, AR, k) (upd S 36 (nI w.length)) A1 L := hq.pop 1
          have hq2 := hq1.hold (v := v0) (x := x.1) (a := x.2) hv20
          rw [Nat.min_eq_left (show 1 ≤ e.2.2.2.1 by omega), (hX 1 (by omega)).1]
          refine z_iload_n C 386 d_M_goOn_385 rfl rfl ?_
          refine z_iconst C 387 d_M_goOn_386 rfl 1 (by decide) ?_
          refine z_icmp_ne C 390 414 d_M_goOn_387 rfl (by decide) (fun h9 => absurd (show nI 1 = 1 from rfl) h9) (fun _ => ?_)
          refine z_aload_n C 391 d_M_goOn_390 rfl rfl ?_
          refine z_dup C 392 d_M_goOn_391 rfl rfl ?_
          refine zm_get C 395 f_M_225 d_M_goOn_392 rfl hn rfl ?_
          refine z_iconst C 396 d_M_goOn_395 rfl 1 (by decide) ?_
          refine z_isub C 397 d_M_goOn_396 rfl ?_
          refine zm_puti C 400 p_M_225 d_M_goOn_397 rfl hn (by decide) (rfl) rfl rfl ?_
          rw [g36, nI_p1]
          refine z_aload_n C 401 d_M_goOn_400 rfl rfl ?_
          refine z_aload_n C 402 d_M_goOn_401 rfl rfl ?_
          refine zm_get C 405 f_M_21 d_M_goOn_402 rfl hn rfl ?_
          refine z_iload_n C 406 d_M_goOn_405 rfl rfl ?_
          refine zm_iald C 407 (bs+i) d_M_goOn_406 rfl hn (by decide) (by decide) (by decide) rfl (by show bs + i < 1350; omega) (by decide) ?_
          rw [h88]
          refine z_aload_n C 408 d_M_goOn_407 rfl rfl ?_
          refine zm_get C 411 f_M_225 d_M_goOn_408 rfl hn rfl ?_
          refine z_call C 414 (c_M_hold hn (show upd S 36 (nI w.length) 33 = nI dp from h33) (by omega) hv20 (show w.length < 400 by omega)) w_M_hold ini_M d_M_goOn_411 rfl (z_goV (As := [.int (nI v0), .int (nI w.length)]) C l_M_256 w_M_hold d_M_goOn_411 (by omega) rfl rfl rfl) (Nat.le_of_ble_eq_true rfl) (by rw [hR]; simp only [zRm]; omega) (by rw [hR]; simp only [zRm]; omega) (by rw [hR]; simp only [zRm]; omega) (by rw [hR]; simp only [zRm]; omega) (fun v n' σ' hv => ?_) (fun x n' σ' hv => ?_)
          rotate_left
          · cases hv.1
          obtain ⟨e0, e1, rfl⟩ := hv
          cases e0
          obtain rfl : n = n' := e1.symm
          rw [hvx, hvy]
          refine z_iload_n C 415 d_M_goOn_414 rfl rfl ?_
          refine z_iconst C 416 d_M_goOn_415 rfl 2 (by decide) ?_
          refine z_icmp_ge C 419 427 d_M_goOn_416 rfl (by decide) (fun h9 => absurd h9 (show ¬ (2 : Int32) ≤ nI 1 by decide)) (fun _ => ?_)
          refine z_aload_n C 420 d_M_goOn_419 rfl rfl ?_
          refine z_iload_n C 421 d_M_goOn_420 rfl rfl ?_
          refine z_call C 424 (c_M_startQ hn hq2 (show pl.length + 1 < 80 from hpl)) w_M_start ini_M d_M_goOn_421 rfl (z_goV (As := [.int (nI (bs + ePt e 1))]) C l_M_259 w_M_start d_M_goOn_421 (by omega) rfl rfl rfl) (Nat.le_of_ble_eq_true rfl) (by rw [hR]; simp only [zRm]; omega) (by rw [hR]; simp only [zRm]; omega) (by rw [hR]; simp only [zRm]; omega) (by rw [hR]; simp only [zRm]; omega) (fun v n' σ' hv => ?_) (fun x n' σ' hv => ?_)
          rotate_left
          · cases hv.1
          obtain ⟨e0, e1, S', A', L', rfl, hx⟩ := hv
          cases e0
          obtain rfl : n = n' := e1.symm
          refine z_goto C 539 d_M_goOn_424 (by decide) ?_
          exact z_vret C rfl d_M_goOn_539 (by rw [hpo]; exact ⟨rfl, rfl, _, _, _, rfl, hx⟩) (by rw [hmc]; omega) (by rw [hms]; omega)
      rw [if_neg q1] at hres
      cases hres
      have hne1 : ¬ nI kk = 1 := fun w => q1 (nI_inj (b := 1) (by omega) (by omega) w)
      refine z_iload_n C 386 d_M_goOn_385 rfl rfl ?_
      refine z_iconst C 387 d_M_goOn_386 rfl 1 (by decide) ?_
      refine z_icmp_ne C 390 414 d_M_goOn_387 rfl (by decide) (fun _ => ?_) (fun h9 => absurd h9 hne1)
      refine z_iload_n C 415 d_M_goOn_414 rfl rfl ?_
      refine z_iconst C 416 d_M_goOn_415 rfl 2 (by decide) ?_
      refine z_icmp_ge C 419 427 d_M_goOn_416 rfl (by decide) (fun _ => ?_) (fun h9 => absurd ((nI_leI (a := 2) (b := kk) (by omega) (by omega)).mpr (by omega)) h9)
      refine z_aload_n C 428 d_M_goOn_427 rfl rfl ?_
      refine z_call C 431 (c_M_passQ hn hq) w_M_pass ini_M d_M_goOn_428 rfl (z_goV (As := []) C l_M_266 w_M_pass d_M_goOn_428 (by omega) rfl rfl rfl) (Nat.le_of_ble_eq_true rfl) (by rw [hR]; simp only [zRm]; omega) (by rw [hR]; simp only [zRm]; omega) (by rw [hR]; simp only [zRm]; omega) (by rw [hR]; simp only [zRm]; omega) (fun v n' σ' hv => ?_) (fun x n' σ' hv => ?_)
      rotate_left
      · cases hv.1
      obtain ⟨e0, e1, S', A', L', rfl, hx⟩ := hv
      cases e0
      obtain rfl : n = n' := e1.symm
      refine z_goto C 539 d_M_goOn_431 (by decide) ?_
      exact z_vret C rfl d_M_goOn_539 (by rw [hpo]; exact ⟨rfl, rfl, _, _, _, rfl, hx⟩) (by rw [hmc]; omega) (by rw [hms]; omega)
    · rw [gSt_5 hk] at hres
      rw [hk]
      refine z_tableIn C 516 d_M_goOn_82 (by decide) (by decide) (off := 434) (by decide) (by decide) ?_
      exact dflt (Or.inr (Or.inl hk)) hres
    · rw [gSt_6 hk] at hres
      rw [hk]
      refine z_tableIn C 516 d_M_goOn_82 (by decide) (by decide) (off := 434) (by decide) (by decide) ?_
      exact dflt (Or.inr (Or.inr (Or.inl hk))) hres
    · rw [gSt_7 hk] at hres
      rw [hk]
      refine z_tableIn C 516 d_M_goOn_82 (by decide) (by decide) (off := 434) (by decide) (by decide) ?_
      exact dflt (Or.inr (Or.inr (Or.inr (Or.inl hk)))) hres
    · rw [gSt_8 hk] at hres
      rw [hk]
      refine z_tableIn C 516 d_M_goOn_82 (by decide) (by decide) (off := 434) (by decide) (by decide) ?_
      exact dflt (Or.inr (Or.inr (Or.inr (Or.inr hk)))) hres
    · rw [gSt_9 hk] at hres
      rw [hk]
      refine z_tableIn C 212 d_M_goOn_82 (by decide) (by decide) (off := 130) (by decide) (by decide) ?_
      have h88 : A1 88 (bs + i) = nI v0 := b88.trans ((tv (by omega) (by omega) (by omega) (by omega) (by omega) (by omega)).trans ev)
      rw [hix] at hres
      obtain ⟨a, ha, ham, hXe⟩ := gArr_some hres
      subst hXe
      have har := hq.2.2.2.2.2.2.1 a ham
      have har : A1 105 a = nI (AR a).1 := har.1
      refine z_aload_n C 213 d_M_goOn_212 rfl rfl ?_
      refine z_aload_n C 214 d_M_goOn_213 rfl rfl ?_
      refine zm_get C 217 f_M_74 d_M_goOn_214 rfl hn rfl ?_
      refine z_aload_n C 218 d_M_goOn_217 rfl rfl ?_
      refine zm_get C 221 f_M_83 d_M_goOn_218 rfl hn rfl ?_
      refine z_bipush C 223 d_M_goOn_221 rfl 20 (by decide) ?_
      refine z_aload_n C 224 d_M_goOn_223 rfl rfl ?_
      refine zm_get C 227 f_M_250 d_M_goOn_224 rfl hn rfl ?_
      refine z_imul C 228 d_M_goOn_227 rfl ?_
      refine z_aload_n C 229 d_M_goOn_228 rfl rfl ?_
      refine zm_get C 232 f_M_21 d_M_goOn_229 rfl hn rfl ?_
      refine z_iload_n C 233 d_M_goOn_232 rfl rfl ?_
      refine zm_iald C 234 (bs+i) d_M_goOn_233 rfl hn (by decide) (by decide) (by decide) rfl (by show bs + i < 1350; omega) (by decide) ?_
      rw [h88]
      refine z_iadd C 235 d_M_goOn_234 rfl ?_
      refine zm_iald C 236 (20*dp+v0) d_M_goOn_235 rfl hn (by decide) (by decide) (by decide) (by rw [h33]; exact nI_20 dp v0) (by show 20 * dp + v0 < 160; omega) (by decide) ?_
      rw [bA, ha]
      refine zm_iald C 237 a d_M_goOn_236 rfl hn (by decide) (by decide) (by decide) rfl (by show a < 402; omega) (by decide) ?_
      rw [har]
      refine z_i2l C 238 d_M_goOn_237 rfl ?_
      refine z_iconst C 239 d_M_goOn_238 rfl (-1) (by decide) ?_
      refine z_call C 242 (c_M_giveQ hn hq) w_M_give ini_M d_M_goOn_239 rfl (z_goV (As := [.long (nI (AR a).1).toInt64, .int (-1)]) C l_M_246 w_M_give d_M_goOn_239 (by omega) rfl rfl rfl) (Nat.le_of_ble_eq_true rfl) (by rw [hR]; simp only [zRm]; omega) (by rw [hR]; simp only [zRm]; omega) (by rw [hR]; simp only [zRm]; omega) (by rw [hR]; simp only [zRm]; omega) (fun v n' σ' hv => ?_) (fun x n' σ' hv => ?_)
      rotate_left
      · cases hv.1
      obtain ⟨e0, e1, S', A', L', rfl, hx⟩ := hv
      cases e0
      obtain rfl : n = n' := e1.symm
      refine z_goto C 539 d_M_goOn_242 (by decide) ?_
      exact z_vret C rfl d_M_goOn_539 (by rw [hpo]; exact ⟨rfl, rfl, _, _, _, rfl, hx⟩) (by rw [hmc]; omega) (by rw [hms]; omega)
    · rw [gSt_10 hk] at hres
      rw [hk]
      refine z_tableIn C 245 d_M_goOn_82 (by decide) (by decide) (off := 163) (by decide) (by decide) ?_
      have h88 : A1 88 (bs + i) = nI v0 := b88.trans ((tv (by omega) (by omega) (by omega) (by omega) (by omega) (by omega)).trans ev)
      rw [hix] at hres
      obtain ⟨a, ha, ham, hXe⟩ := gArr_some hres
      subst hXe
      have har := hq.2.2.2.2.2.2.1 a ham
      have har : A1 106 a = nI (AR a).2.1 := har.2.1
      refine z_aload_n C 246 d_M_goOn_245 rfl rfl ?_
      refine z_aload_n C 247 d_M_goOn_246 rfl rfl ?_
      refine zm_get C 250 f_M_77 d_M_goOn_247 rfl hn rfl ?_
      refine z_aload_n C 251 d_M_goOn_250 rfl rfl ?_
      refine zm_get C 254 f_M_83 d_M_goOn_251 rfl hn rfl ?_
      refine z_bipush C 256 d_M_goOn_254 rfl 20 (by decide) ?_
      refine z_aload_n C 257 d_M_goOn_256 rfl rfl ?_
      refine zm_get C 260 f_M_250 d_M_goOn_257 rfl hn rfl ?_
      refine z_imul C 261 d_M_goOn_260 rfl ?_
      refine z_aload_n C 262 d_M_goOn_261 rfl rfl ?_
      refine zm_get C 265 f_M_21 d_M_goOn_262 rfl hn rfl ?_
      refine z_iload_n C 266 d_M_goOn_265 rfl rfl ?_
      refine zm_iald C 267 (bs+i) d_M_goOn_266 rfl hn (by decide) (by decide) (by decide) rfl (by show bs + i < 1350; omega) (by decide) ?_
      rw [h88]
      refine z_iadd C 268 d_M_goOn_267 rfl ?_
      refine zm_iald C 269 (20*dp+v0) d_M_goOn_268 rfl hn (by decide) (by decide) (by decide) (by rw [h33]; exact nI_20 dp v0) (by show 20 * dp + v0 < 160; omega) (by decide) ?_
      rw [bA, ha]
      refine zm_iald C 270 a d_M_goOn_269 rfl hn (by decide) (by decide) (by decide) rfl (by show a < 402; omega) (by decide) ?_
      rw [har]
      refine z_i2l C 271 d_M_goOn_270 rfl ?_
      refine z_iconst C 272 d_M_goOn_271 rfl (-1) (by decide) ?_
      refine z_call C 275 (c_M_giveQ hn hq) w_M_give ini_M d_M_goOn_272 rfl (z_goV (As := [.long (nI (AR a).2.1).toInt64, .int (-1)]) C l_M_246 w_M_give d_M_goOn_272 (by omega) rfl rfl rfl) (Nat.le_of_ble_eq_true rfl) (by rw [hR]; simp only [zRm]; omega) (by rw [hR]; simp only [zRm]; omega) (by rw [hR]; simp only [zRm]; omega) (by rw [hR]; simp only [zRm]; omega) (fun v n' σ' hv => ?_) (fun x n' σ' hv => ?_)
      rotate_left
      · cases hv.1
      obtain ⟨e0, e1, S', A', L', rfl, hx⟩ := hv
      cases e0
      obtain rfl : n = n' := e1.symm
      refine z_goto C 539 d_M_goOn_275 (by decide) ?_
      exact z_vret C rfl d_M_goOn_539 (by rw [hpo]; exact ⟨rfl, rfl, _, _, _, rfl, hx⟩) (by rw [hmc]; omega) (by rw [hms]; omega)
    · rw [gSt_11 hk] at hres
      rw [hk]
      refine z_tableIn C 278 d_M_goOn_82 (by decide) (by decide) (off := 196) (by decide) (by decide) ?_
      have h88 : A1 88 (bs + i) = nI v0 := b88.trans ((tv (by omega) (by omega) (by omega) (by omega) (by omega) (by omega)).trans ev)
      rw [hix] at hres
      obtain ⟨a, ha, ham, hXe⟩ := gArr_some hres
      subst hXe
      obtain ⟨r105, r106, r40, c40, -⟩ := hq.2.2.2.2.2.2.1 a ham
      have r105 : A1 105 a = nI (AR a).1 := r105
      have r106 : A1 106 a = nI (AR a).2.1 := r106
      have r40 : (AR a).1 ≤ 40 := r40
      have c40 : (AR a).2.1 ≤ 40 := c40
      have z0 : (0 : Int64) = lN 0 := rfl
      refine z_aload_n C 279 d_M_goOn_278 rfl rfl ?_
      refine zm_get C 282 f_M_83 d_M_goOn_279 rfl hn rfl ?_
      refine z_bipush C 284 d_M_goOn_282 rfl 20 (by decide) ?_
      refine z_aload_n C 285 d_M_goOn_284 rfl rfl ?_
      refine zm_get C 288 f_M_250 d_M_goOn_285 rfl hn rfl ?_
      refine z_imul C 289 d_M_goOn_288 rfl ?_
      refine z_aload_n C 290 d_M_goOn_289 rfl rfl ?_
      refine zm_get C 293 f_M_21 d_M_goOn_290 rfl hn rfl ?_
      refine z_iload_n C 294 d_M_goOn_293 rfl rfl ?_
      refine zm_iald C 295 (bs+i) d_M_goOn_294 rfl hn (by decide) (by decide) (by decide) rfl (by show bs + i < 1350; omega) (by decide) ?_
      rw [h88]
      refine z_iadd C 296 d_M_goOn_295 rfl ?_
      refine zm_iald C 297 (20*dp+v0) d_M_goOn_296 rfl hn (by decide) (by decide) (by decide) (by rw [h33]; exact nI_20 dp v0) (by show 20 * dp + v0 < 160; omega) (by decide) ?_
      rw [bA, ha]
      refine z_istore C 299 d_M_goOn_297 rfl (by decide) ?_
      refine z_aload_n C 300 d_M_goOn_299 rfl rfl ?_
      refine z_aload_n C 301 d_M_goOn_300 rfl rfl ?_
      refine zm_get C 304 f_M_74 d_M_goOn_301 rfl hn rfl ?_
      refine z_iload C 306 d_M_goOn_304 rfl rfl ?_
      refine zm_iald C 307 a d_M_goOn_306 rfl hn (by decide) (by decide) (by decide) rfl (by show a < 402; omega) (by decide) ?_
      rw [r105]
      refine z_i2l C 308 d_M_goOn_307 rfl ?_
      refine z_aload_n C 309 d_M_goOn_308 rfl rfl ?_
      refine zm_get C 312 f_M_77 d_M_goOn_309 rfl hn rfl ?_
      refine z_iload C 314 d_M_goOn_312 rfl rfl ?_
      refine zm_iald C 315 a d_M_goOn_314 rfl hn (by decide) (by decide) (by decide) rfl (by show a < 402; omega) (by decide) ?_
      rw [r106]
      refine z_i2l C 316 d_M_goOn_315 rfl ?_
      refine z_iload C 318 d_M_goOn_316 rfl rfl ?_
      refine z_call C 321 (c_M_makeOne (ct := (AR a).2.2) hn hq (by rw [nI_l (by omega), z0]; exact (lN_le (by omega) (by omega)).mpr (Nat.zero_le _)) (by rw [nI_l (by omega), z0]; exact (lN_le (by omega) (by omega)).mpr (Nat.zero_le _)) (Or.inr ⟨a, rfl, ham, nI_l (by omega), nI_l (by omega), rfl⟩)) w_M_makeOne ini_M d_M_goOn_318 rfl (z_goV (As := [.long (nI (AR a).1).toInt64, .long (nI (AR a).2.1).toInt64, .int (nI a)]) C l_M_262 w_M_makeOne d_M_goOn_318 (by omega) rfl rfl rfl) (Nat.le_of_ble_eq_true rfl) (by rw [hR]; simp only [zRm]; omega) (by rw [hR]; simp only [zRm]; omega) (by rw [hR]; simp only [zRm]; omega) (by rw [hR]; simp only [zRm]; omega) (fun v n' σ' hv => ?_) (fun x n' σ' hv => ?_)
      rotate_left
      · cases hv.1
      obtain ⟨e0, e1, S', A', L', rfl, hx⟩ := hv
      cases e0
      obtain rfl : n = n' := e1.symm
      refine z_goto C 539 d_M_goOn_321 (by decide) ?_
      exact z_vret C rfl d_M_goOn_539 (by rw [hpo]; exact ⟨rfl, rfl, _, _, _, rfl, hx⟩) (by rw [hmc]; omega) (by rw [hms]; omega)
    · rw [gSt_12 hk] at hres
      rw [hk]
      refine z_tableIn C 434 d_M_goOn_82 (by decide) (by decide) (off := 352) (by decide) (by decide) ?_
      have hcn : e.2.2.2.1 = 1 := hct.2.2.2.2.2.2.2.2.2.2.2.2 hk
      have c3 : S 41 = k.2.2.1 := hq.2.2.1.2.2.1
      unfold gDrp at hres
      by_cases q0 : kk = 0
      · subst q0
        rw [if_pos rfl] at hres
        cases hres
        rw [Nat.min_eq_left (Nat.zero_le _), (hX 0 (by omega)).1]
        refine z_iload_n C 435 d_M_goOn_434 rfl rfl ?_
        refine z_if_ne C 438 456 d_M_goOn_435 rfl (by decide) (fun h9 => absurd (show nI 0 = 0 from rfl) h9) (fun _ => ?_)
        refine z_aload_n C 439 d_M_goOn_438 rfl rfl ?_
        refine z_dup C 440 d_M_goOn_439 rfl rfl ?_
        refine zm_get C 443 f_M_233 d_M_goOn_440 rfl hn rfl ?_
        refine z_iconst C 444 d_M_goOn_443 rfl 1 (by decide) ?_
        refine z_isub C 445 d_M_goOn_444 rfl ?_
        refine zm_puti C 448 p_M_233 d_M_goOn_445 rfl hn (by decide) (rfl) rfl rfl ?_
        refine z_aload_n C 449 d_M_goOn_448 rfl rfl ?_
        refine z_iload_n C 450 d_M_goOn_449 rfl rfl ?_
        rw [c3]
        refine z_call C 453 (c_M_startQ hn hq.drop (show pl.length + 1 < 80 from hpl)) w_M_start ini_M d_M_goOn_450 rfl (z_goV (As := [.int (nI (bs + ePt e 0))]) C l_M_259 w_M_start d_M_goOn_450 (by omega) rfl rfl rfl) (Nat.le_of_ble_eq_true rfl) (by rw [hR]; simp only [zRm]; omega) (by rw [hR]; simp only [zRm]; omega) (by rw [hR]; simp only [zRm]; omega) (by rw [hR]; simp only [zRm]; omega) (fun v n' σ' hv => ?_) (fun x n' σ' hv => ?_)
        rotate_left
        · cases hv.1
        obtain ⟨e0, e1, S', A', L', rfl, hx⟩ := hv
        cases e0
        obtain rfl : n = n' := e1.symm
        refine z_goto C 539 d_M_goOn_453 (by decide) ?_
        exact z_vret C rfl d_M_goOn_539 (by rw [hpo]; exact ⟨rfl, rfl, _, _, _, rfl, hx⟩) (by rw [hmc]; omega) (by rw [hms]; omega)
      rw [if_neg q0] at hres
      cases hres
      refine z_iload_n C 435 d_M_goOn_434 rfl rfl ?_
      refine z_if_ne C 438 456 d_M_goOn_435 rfl (by decide) (fun _ => ?_) (fun h9 => absurd h9 (nI_ne0 (by omega) (by omega)))
      refine z_aload_n C 457 d_M_goOn_456 rfl rfl ?_
      refine z_call C 460 (c_M_passQ hn hq) w_M_pass ini_M d_M_goOn_457 rfl (z_goV (As := []) C l_M_266 w_M_pass d_M_goOn_457 (by omega) rfl rfl rfl) (Nat.le_of_ble_eq_true rfl) (by rw [hR]; simp only [zRm]; omega) (by rw [hR]; simp only [zRm]; omega) (by rw [hR]; simp only [zRm]; omega) (by rw [hR]; simp only [zRm]; omega) (fun v n' σ' hv => ?_) (fun x n' σ' hv => ?_)
      rotate_left
      · cases hv.1
      obtain ⟨e0, e1, S', A', L', rfl, hx⟩ := hv
      cases e0
      obtain rfl : n = n' := e1.symm
      refine z_goto C 539 d_M_goOn_460 (by decide) ?_
      exact z_vret C rfl d_M_goOn_539 (by rw [hpo]; exact ⟨rfl, rfl, _, _, _, rfl, hx⟩) (by rw [hmc]; omega) (by rw [hms]; omega)
    · rw [gSt_13 hk] at hres
      rw [hk]
      refine z_tableIn C 463 d_M_goOn_82 (by decide) (by decide) (off := 381) (by decide) (by decide) ?_
      unfold gCal at hres
      rw [hig] at hres
      obtain ⟨h93, hV⟩ := hcal hk
      rw [hig] at h93 hV
      have h88 : A0 88 (bs + i) = nI g := (t13 hk).trans eg
      refine z_iload_n C 464 d_M_goOn_463 rfl rfl ?_
      refine z_aload_n C 465 d_M_goOn_464 rfl rfl ?_
      refine zm_get C 468 f_M_27 d_M_goOn_465 rfl hn rfl ?_
      refine z_iload_n C 469 d_M_goOn_468 rfl rfl ?_
      refine zm_iald C 470 (bs+i) d_M_goOn_469 rfl hn (by decide) (by decide) (by decide) rfl (by show bs + i < 1350; omega) (by decide) ?_
      rw [b90]
      by_cases q : kk < e.2.2.2.1
      · rw [if_pos q] at hres
        cases hres
        rw [Nat.min_eq_left (Nat.le_of_lt q)]
        refine z_icmp_ge C 473 481 d_M_goOn_470 rfl (by decide) (fun h9 => absurd h9 (fun w => absurd ((nI_leI (a := e.2.2.2.1) (b := kk) (by omega) (by omega)).mp w) (by omega))) (fun _ => ?_)
        rw [(hX kk q).1]
        refine z_aload_n C 474 d_M_goOn_473 rfl rfl ?_
        refine z_iload_n C 475 d_M_goOn_474 rfl rfl ?_
        refine z_call C 478 (c_M_startQ hn hq (show pl.length + 1 < 80 from hpl)) w_M_start ini_M d_M_goOn_475 rfl (z_goV (As := [.int (nI (bs + ePt e kk))]) C l_M_259 w_M_start d_M_goOn_475 (by omega) rfl rfl rfl) (Nat.le_of_ble_eq_true rfl) (by rw [hR]; simp only [zRm]; omega) (by rw [hR]; simp only [zRm]; omega) (by rw [hR]; simp only [zRm]; omega) (by rw [hR]; simp only [zRm]; omega) (fun v n' σ' hv => ?_) (fun x n' σ' hv => ?_)
        rotate_left
        · cases hv.1
        obtain ⟨e0, e1, S', A', L', rfl, hx⟩ := hv
        cases e0
        obtain rfl : n = n' := e1.symm
        refine z_goto C 539 d_M_goOn_478 (by decide) ?_
        exact z_vret C rfl d_M_goOn_539 (by rw [hpo]; exact ⟨rfl, rfl, _, _, _, rfl, hx⟩) (by rw [hmc]; omega) (by rw [hms]; omega)
      rw [if_neg q] at hres
      refine z_icmp_ge C 473 481 d_M_goOn_470 rfl (by decide) (fun _ => ?_) (fun h9 => absurd ((nI_leI (a := e.2.2.2.1) (b := kk) (by omega) (by omega)).mpr (by omega)) h9)
      refine z_iload_n C 482 d_M_goOn_481 rfl rfl ?_
      refine z_aload_n C 483 d_M_goOn_482 rfl rfl ?_
      refine zm_get C 486 f_M_27 d_M_goOn_483 rfl hn rfl ?_
      refine z_iload_n C 487 d_M_goOn_486 rfl rfl ?_
      refine zm_iald C 488 (bs+i) d_M_goOn_487 rfl hn (by decide) (by decide) (by decide) rfl (by show bs + i < 1350; omega) (by decide) ?_
      rw [b90]
      by_cases q1 : kk = e.2.2.2.1
      · rw [if_pos q1] at hres
        by_cases q2 : e.2.2.2.1 ≤ vs.length
        · rw [if_pos q2] at hres
          cases hres
          refine z_icmp_ne C 491 499 d_M_goOn_488 rfl (by decide) (fun h9 => absurd (by rw [q1]) h9) (fun _ => ?_)
          refine z_aload_n C 492 d_M_goOn_491 rfl rfl ?_
          refine z_iload_n C 493 d_M_goOn_492 rfl rfl ?_
          refine z_call C 496 (c_M_enter (V := V) hn hq hpl (by omega) h88 hg8 h93 hc4 q2 hV) w_M_enter ini_M d_M_goOn_493 rfl (z_goV (As := [.int (nI (bs + i))]) C l_M_269 w_M_enter d_M_goOn_493 (by omega) rfl rfl rfl) (Nat.le_of_ble_eq_true rfl) (by rw [hR]; simp only [zRm]; omega) (by rw [hR]; simp only [zRm]; omega) (by rw [hR]; simp only [zRm]; omega) (by rw [hR]; simp only [zRm]; omega) (fun v n' σ' hv => ?_) (fun x n' σ' hv => ?_)
          rotate_left
          · cases hv.1
          obtain ⟨e0, e1, S', A', L', rfl, hx⟩ := hv
          cases e0
          obtain rfl : n = n' := e1.symm
          refine z_goto C 539 d_M_goOn_496 (by decide) ?_
          exact z_vret C rfl d_M_goOn_539 (by rw [hpo]; exact ⟨rfl, rfl, _, _, _, rfl, hx⟩) (by rw [hmc]; omega) (by rw [hms]; omega)
        · rw [if_neg q2] at hres
          cases hres
      rw [if_neg q1] at hres
      by_cases q2 : 1 ≤ dp
      · rw [if_pos q2] at hres
        cases hres
        refine z_icmp_ne C 491 499 d_M_goOn_488 rfl (by decide) (fun _ => ?_) (fun h9 => absurd (nI_inj (by omega) (by omega) h9) q1)
        refine z_aload_n C 500 d_M_goOn_499 rfl rfl ?_
        refine z_dup C 501 d_M_goOn_500 rfl rfl ?_
        refine zm_get C 504 f_M_250 d_M_goOn_501 rfl hn rfl ?_
        refine z_iconst C 505 d_M_goOn_504 rfl 1 (by decide) ?_
        refine z_isub C 506 d_M_goOn_505 rfl ?_
        refine zm_puti C 509 p_M_250 d_M_goOn_506 rfl hn (by decide) (rfl) rfl rfl ?_
        rw [show S 33 - 1 = nI (dp - 1) by rw [h33, show dp = dp - 1 + 1 by omega]; exact nI_p1 _]
        refine z_aload_n C 510 d_M_goOn_509 rfl rfl ?_
        refine z_call C 513 (c_M_passQ hn (hq.depth (dp - 1) (by omega))) w_M_pass ini_M d_M_goOn_510 rfl (z_goV (As := []) C l_M_266 w_M_pass d_M_goOn_510 (by omega) rfl rfl rfl) (Nat.le_of_ble_eq_true rfl) (by rw [hR]; simp only [zRm]; omega) (by rw [hR]; simp only [zRm]; omega) (by rw [hR]; simp only [zRm]; omega) (by rw [hR]; simp only [zRm]; omega) (fun v n' σ' hv => ?_) (fun x n' σ' hv => ?_)
        rotate_left
        · cases hv.1
        obtain ⟨e0, e1, S', A', L', rfl, hx⟩ := hv
        cases e0
        obtain rfl : n = n' := e1.symm
        refine z_goto C 539 d_M_goOn_513 (by decide) ?_
        exact z_vret C rfl d_M_goOn_539 (by rw [hpo]; exact ⟨rfl, rfl, _, _, _, rfl, hx⟩) (by rw [hmc]; omega) (by rw [hms]; omega)
      · rw [if_neg q2] at hres
        cases hres
  have loop : ∀ (A1 : mA), mQ S0 A0 L0 ((bs + i, kk + 1) :: pl, vs, dp, EV, m, AR, k) S A1 L → ∀ q j, q + j = min kk e.2.2.2.1 → Z G K n (mOv S A1 L rn σ) 0 0 46 [(4, .int (nI j)), (3, .int (nI (Xf j))), (2, .int (nI kk)), (1, .int (nI (bs + i))), (0, .ref 85)] [] := fun A1 hq q => by
    have hb := hq.2.2.2.2.2.2.2.2.1
    have b90 : A1 90 (bs + i) = nI e.2.2.2.1 := by rw [hb 90 (by decide)]; exact h90
    induction q with
    | zero =>
      intro j hj
      obtain rfl : j = min kk e.2.2.2.1 := by omega
      refine z_iload C 48 d_M_goOn_46 rfl rfl ?_
      refine z_iload_n C 49 d_M_goOn_48 rfl rfl ?_
      by_cases w : kk ≤ e.2.2.2.1
      · refine z_icmp_ge C 52 76 d_M_goOn_49 rfl (by decide) (fun _ => ?_) (fun h9 => absurd ((nI_leI (a := kk) (by omega) (by omega)).mpr (by omega)) h9)
        exact main A1 hq
      · refine z_icmp_ge C 52 76 d_M_goOn_49 rfl (by decide) (fun h9 => absurd h9 (fun w2 => absurd ((nI_leI (a := kk) (by omega) (by omega)).mp w2) (by omega))) (fun _ => ?_)
        refine z_iload C 54 d_M_goOn_52 rfl rfl ?_
        refine z_aload_n C 55 d_M_goOn_54 rfl rfl ?_
        refine zm_get C 58 f_M_27 d_M_goOn_55 rfl hn rfl ?_
        refine z_iload_n C 59 d_M_goOn_58 rfl rfl ?_
        refine zm_iald C 60 (bs+i) d_M_goOn_59 rfl hn (by decide) (by decide) (by decide) rfl (by show bs + i < 1350; omega) (by decide) ?_
        rw [b90]
        refine z_icmp_ge C 63 76 d_M_goOn_60 rfl (by decide) (fun _ => ?_) (fun h9 => absurd ((nI_leI (a := e.2.2.2.1) (by omega) (by omega)).mpr (by omega)) h9)
        exact main A1 hq
    | succ q ih =>
      intro j hj
      refine z_iload C 48 d_M_goOn_46 rfl rfl ?_
      refine z_iload_n C 49 d_M_goOn_48 rfl rfl ?_
      refine z_icmp_ge C 52 76 d_M_goOn_49 rfl (by decide) (fun h9 => absurd h9 (fun w2 => absurd ((nI_leI (a := kk) (by omega) (by omega)).mp w2) (by omega))) (fun _ => ?_)
      refine z_iload C 54 d_M_goOn_52 rfl rfl ?_
      refine z_aload_n C 55 d_M_goOn_54 rfl rfl ?_
      refine zm_get C 58 f_M_27 d_M_goOn_55 rfl hn rfl ?_
      refine z_iload_n C 59 d_M_goOn_58 rfl rfl ?_
      refine zm_iald C 60 (bs+i) d_M_goOn_59 rfl hn (by decide) (by decide) (by decide) rfl (by show bs + i < 1350; omega) (by decide) ?_
      rw [b90]
      refine z_icmp_ge C 63 76 d_M_goOn_60 rfl (by decide) (fun h9 => absurd h9 (fun w2 => absurd ((nI_leI (a := e.2.2.2.1) (by omega) (by omega)).mp w2) (by omega))) (fun _ => ?_)
      obtain ⟨-, hxl, hxe⟩ := hX j (by omega)
      have b91 : A1 91 (Xf j) = nI (Xf (j + 1)) := by rw [hb 91 (by decide)]; exact hxe
      refine z_aload_n C 64 d_M_goOn_63 rfl rfl ?_
      refine zm_get C 67 f_M_30 d_M_goOn_64 rfl hn rfl ?_
      refine z_iload_n C 68 d_M_goOn_67 rfl rfl ?_
      refine zm_iald C 69 (Xf j) d_M_goOn_68 rfl hn (by decide) (by decide) (by decide) rfl (by show Xf j < 1350; omega) (by decide) ?_
      rw [b91]
      refine z_istore_n C 70 d_M_goOn_69 rfl (by decide) ?_
      refine z_iinc C 73 d_M_goOn_70 rfl (nI (j + 1)) rfl (z_inc j) (by decide) ?_
      refine z_goto C 46 d_M_goOn_73 (by decide) ?_
      exact ih (j + 1) (by omega)
  refine z_aload_n C 1 d_M_goOn_0 rfl rfl ?_
  refine zm_get C 4 f_M_52 d_M_goOn_1 rfl hn rfl ?_
  refine z_aload_n C 5 d_M_goOn_4 rfl rfl ?_
  refine zm_get C 8 f_M_129 d_M_goOn_5 rfl hn rfl ?_
  refine z_iconst C 9 d_M_goOn_8 rfl 1 (by decide) ?_
  refine z_isub C 10 d_M_goOn_9 rfl ?_
  refine zm_iald C 11 pl.length d_M_goOn_10 rfl hn (by decide) (by decide) (by decide) ho1 (by show pl.length < 80; omega) (by decide) ?_
  rw [hp1]
  refine z_istore_n C 12 d_M_goOn_11 rfl (by decide) ?_
  refine z_aload_n C 13 d_M_goOn_12 rfl rfl ?_
  refine zm_get C 16 f_M_55 d_M_goOn_13 rfl hn rfl ?_
  refine z_aload_n C 17 d_M_goOn_16 rfl rfl ?_
  refine zm_get C 20 f_M_129 d_M_goOn_17 rfl hn rfl ?_
  refine z_iconst C 21 d_M_goOn_20 rfl 1 (by decide) ?_
  refine z_isub C 22 d_M_goOn_21 rfl ?_
  refine zm_iald C 23 pl.length d_M_goOn_22 rfl hn (by decide) (by decide) (by decide) ho1 (by show pl.length < 80; omega) (by decide) ?_
  rw [hp2]
  refine z_istore_n C 24 d_M_goOn_23 rfl (by decide) ?_
  refine z_aload_n C 25 d_M_goOn_24 rfl rfl ?_
  refine zm_get C 28 f_M_55 d_M_goOn_25 rfl hn rfl ?_
  refine z_aload_n C 29 d_M_goOn_28 rfl rfl ?_
  refine zm_get C 32 f_M_129 d_M_goOn_29 rfl hn rfl ?_
  refine z_iconst C 33 d_M_goOn_32 rfl 1 (by decide) ?_
  refine z_isub C 34 d_M_goOn_33 rfl ?_
  refine z_dup2_11 C 35 d_M_goOn_34 rfl rfl rfl ?_
  refine zm_iald C 36 pl.length d_M_goOn_35 rfl hn (by decide) (by decide) (by decide) ho1 (by show pl.length < 80; omega) (by decide) ?_
  rw [hp2]
  refine z_iconst C 37 d_M_goOn_36 rfl 1 (by decide) ?_
  refine z_iadd C 38 d_M_goOn_37 rfl ?_
  rw [nI_1]
  refine zm_iast C 39 pl.length d_M_goOn_38 rfl hn (by decide) (by decide) (by decide) ho1 (by show pl.length < 80; omega) (by decide) ?_
  refine z_iload_n C 40 d_M_goOn_39 rfl rfl ?_
  refine z_iconst C 41 d_M_goOn_40 rfl 1 (by decide) ?_
  refine z_iadd C 42 d_M_goOn_41 rfl ?_
  rw [show nI (bs + i) + 1 = nI (Xf 0) by rw [nI_1, hX0]]
  refine z_istore_n C 43 d_M_goOn_42 rfl (by decide) ?_
  refine z_iconst C 44 d_M_goOn_43 rfl 0 (by decide) ?_
  refine z_istore C 46 d_M_goOn_44 rfl (by decide) ?_
  exact loop _ hq0.done (min kk e.2.2.2.1) 0 (by omega)
end MGF
