section MGC
variable {G : zG} {l : Launch} {n : Nat} {σ : zS} {S0 S : mS} {A0 A : mA} {L0 L : mL} {rn : Int64} {pl : gP} {vs : gV} {dp m : Nat} {EV : gE} {AR : Nat → aA} {k : aC} {nd dn v0 a : Nat}
/-- the put behind a make -/
theorem mQ_put {A1 : mA} {ix p : Nat} {x : Int64} {src : Nat → Int64} {w : gV} {f : Nat → Int64} {r c : Nat} {z : Nat} (c5 : S 43 = k.2.2.2.2)
    (h : mQ S0 A0 L0 (pl, (0, nI m) :: w, dp, EV, m + 1, va_up AR m (r, c, src), (k.1, k.2.1, k.2.2.1, k.2.2.2.1, k.2.2.2.2 + 1)) (upd (upd (upd (upd (upd S 36 (nI z)) 32 (nI (m + 1))) 36 (nI (z + 1))) 19 (nI pl.length)) 43 (k.2.2.2.2 + 1)) A1 (va_up (va_up L 104 (mkC (L 104) m p src)) 109 f))
    (hix : ix < r * c) (h40 : ix < 40) {ct : Nat → Int64} (hct : ∀ j, j < r * c → src j = ct j) :
    mQ S0 A0 L0 (pl, (0, nI m) :: w, dp, EV, m + 1, va_up AR m (r, c, vp_updL ct ix x), (k.1, k.2.1, k.2.2.1, k.2.2.2.1, k.2.2.2.2 + 1)) (upd (upd (upd (upd (upd S 36 (nI z)) 32 (nI (m + 1))) 43 (S 43 + 1)) 36 (nI (z + 1))) 19 (nI pl.length)) A1 (va_up (va_up L 104 (vp_updL (mkC (L 104) m p src) (40 * m + ix) x)) 109 f) := by
  obtain ⟨⟨h1, h2, h3, h4, h5⟩, hl, ⟨k1, k2, k3, k4, k5⟩, hp, hv, he, ha, hb⟩ := h
  refine ⟨⟨h1, h2, h3, h4, h5⟩, hl, ⟨k1, k2, k3, k4, by show S 43 + 1 = _; rw [c5]⟩, hp, ?_, fun e he' v hv' => ?_, fun b hb' => ?_, ⟨fun j g1 g2 => ?_, hb.2.1, hb.2.2⟩⟩
  · have e109 : ∀ {vs : gV}, mVal A1 (va_up (va_up L 104 (mkC (L 104) m p src)) 109 f) vs → mVal A1 (va_up (va_up L 104 (vp_updL (mkC (L 104) m p src) (40 * m + ix) x)) 109 f) vs := fun {vs} => by
      induction vs with
      | nil => exact fun _ => trivial
      | cons y r ih => exact fun q => ⟨by rw [va_up_self]; have := q.1; rw [va_up_self] at this; exact this, q.2.1, ih q.2.2⟩
    exact e109 hv
  · exact he e he' v hv'
  · have q := ha b hb'
    have q : A1 105 b = nI (va_up AR m (r, c, src) b).1 ∧ A1 106 b = nI (va_up AR m (r, c, src) b).2.1 ∧ (va_up AR m (r, c, src) b).1 ≤ 40 ∧ (va_up AR m (r, c, src) b).2.1 ≤ 40 ∧ (va_up AR m (r, c, src) b).1 * (va_up AR m (r, c, src) b).2.1 ≤ 40 ∧ ∀ j, j < (va_up AR m (r, c, src) b).1 * (va_up AR m (r, c, src) b).2.1 → mkC (L 104) m p src (40 * b + j) = (va_up AR m (r, c, src) b).2.2 j := q
    show A1 105 b = nI (va_up AR m (r, c, vp_updL ct ix x) b).1 ∧ A1 106 b = nI (va_up AR m (r, c, vp_updL ct ix x) b).2.1 ∧ (va_up AR m (r, c, vp_updL ct ix x) b).1 ≤ 40 ∧ (va_up AR m (r, c, vp_updL ct ix x) b).2.1 ≤ 40 ∧ (va_up AR m (r, c, vp_updL ct ix x) b).1 * (va_up AR m (r, c, vp_updL ct ix x) b).2.1 ≤ 40 ∧ ∀ j, j < (va_up AR m (r, c, vp_updL ct ix x) b).1 * (va_up AR m (r, c, vp_updL ct ix x) b).2.1 → vp_updL (mkC (L 104) m p src) (40 * m + ix) x (40 * b + j) = (va_up AR m (r, c, vp_updL ct ix x) b).2.2 j
    by_cases w : b = m
    · subst w
      rw [va_up_self] at q ⊢
      obtain ⟨q1, q2, q3, q4, q5, q6⟩ := q
      refine ⟨q1, q2, q3, q4, q5, fun j hj => ?_⟩
      have hj : j < r * c := hj
      show (if _ then _ else _) = (if _ then _ else _)
      by_cases w2 : j = ix
      · rw [if_pos (by omega), if_pos w2]
      · rw [if_neg (by omega), if_neg w2]
        exact (q6 j hj).trans (hct j hj)
    · rw [va_up_ne _ _ w] at q ⊢
      obtain ⟨q1, q2, q3, q4, q5, q6⟩ := q
      refine ⟨q1, q2, q3, q4, q5, fun j hj => ?_⟩
      show (if _ then _ else _) = _
      have q5 : (AR b).1 * (AR b).2.1 ≤ 40 := q5
      have hj2 : j < (AR b).1 * (AR b).2.1 := hj
      rw [if_neg (by omega)]
      exact q6 j hj
  · have q := hb.1 j g1 g2
    rw [upd_ne g1, upd_ne (by omega), upd_ne (by omega), upd_ne (by omega), upd_ne (by omega)]
    rw [upd_ne (by omega), upd_ne g1, upd_ne (by omega), upd_ne (by omega), upd_ne (by omega)] at q
    exact q
theorem c_M_cellOf_71 {i : Int64 × Int32} (hn : 113 ≤ n) (hq : mQ S0 A0 L0 ((nd, dn) :: pl, i :: vs, dp, EV, m, AR, k) S A L) (hnd : nd < 1350) (h87 : A0 87 nd = nI 7) (h90 : A0 90 nd = nI 1) (h88 : A0 88 nd = nI v0) (hv20 : v0 < 20) (hea : (EV dp v0).2 = nI a) (ham : a < m) : MetZ G l y_M_cellOf b_M_cellOf 11 none [] 1 0 0 [.ref 85, .int (nI nd)] n (mOv S A L rn σ) (mGp S0 A0 L0 rn σ n (gRd a i.1 0 pl vs dp EV m AR k)) := by
  obtain ⟨h19, h36, h33, h32, l1, l2, l3, l4⟩ := hq.lims
  have h36 : S 36 = nI (vs.length + 1) := h36
  have l3 : vs.length + 1 + (pl.length + 1) ≤ 400 := l3
  have hb := hq.2.2.2.2.2.2.2.2.1
  have hA : A 88 nd = nI v0 := by rw [hb 88 (by decide)]; exact h88
  have hA7 : A 87 nd = nI 7 := by rw [hb 87 (by decide)]; exact h87
  have hA0 : A 90 nd = nI 1 := by rw [hb 90 (by decide)]; exact h90
  have hE : A 108 (20 * dp + v0) = nI a := by rw [(hq.2.2.2.2.2.1 dp (by omega) v0 hv20).2]; exact hea
  obtain ⟨r105, r106, r40, c40, rc40, rct⟩ := hq.2.2.2.2.2.2.1 a ham
  have r105 : A 105 a = nI (AR a).1 := r105
  have r106 : A 106 a = nI (AR a).2.1 := r106
  have r40 : (AR a).1 ≤ 40 := r40
  have c40 : (AR a).2.1 ≤ 40 := c40
  have rc40 : (AR a).1 * (AR a).2.1 ≤ 40 := rc40
  obtain ⟨hvi, -, -⟩ := hq.2.2.2.2.1
  have hvi : L 109 vs.length = i.1 := hvi
  have hq1 : mQ S0 A0 L0 ((nd, dn) :: pl, vs, dp, EV, m, AR, k) (upd S 36 (nI vs.length)) A L := hq.pop 1
  have e36 : S 36 - nI 1 = nI vs.length := by rw [h36]; exact nI_subc vs.length 1
  unfold gRd
  refine MetZ.of (by decide) (Nat.le_of_ble_eq_true rfl) (fun K hK hR hpo hmc hms C => ?_)
  have flt : ¬ aInD (AR a) i.1 (0) = true → Z G K n (mOv (upd S 36 (nI vs.length)) A L rn σ) 0 0 150 [(7, .long (0)), (6, .int 0), (4, .long i.1), (3, .int (nI a)), (2, .int 0), (0, .ref 85), (1, .int (nI nd))] [] := fun w => by
    rw [if_neg w] at hpo
    refine z_aload_n C 151 d_M_cellOf_150 rfl rfl ?_
    refine z_iconst C 152 d_M_cellOf_151 rfl 3 (by decide) ?_
    refine zm_puti C 155 p_M_222 d_M_cellOf_152 rfl hn (by decide) (rfl) rfl rfl ?_
    exact z_vret C rfl d_M_cellOf_155 (by rw [hpo]; exact ⟨rfl, rfl, _, _, _, rfl, hq1.fault 3⟩) (by rw [hmc]; omega) (by rw [hms]; omega)
  refine z_aload_n C 1 d_M_cellOf_0 rfl rfl ?_
  refine zm_get C 4 f_M_17 d_M_cellOf_1 rfl hn rfl ?_
  refine z_iload_n C 5 d_M_cellOf_4 rfl rfl ?_
  refine zm_iald C 6 nd d_M_cellOf_5 rfl hn (by decide) (by decide) (by decide) rfl (by show nd < 1350; omega) (by decide) ?_
  rw [hA7]
  refine z_bipush C 8 d_M_cellOf_6 rfl 8 (by decide) ?_
  refine z_icmp_ne C 11 15 d_M_cellOf_8 rfl (by decide) (fun _ => ?_) (fun h9 => absurd h9 (show ¬ nI 7 = 8 by decide))
  refine z_iconst C 16 d_M_cellOf_15 rfl 0 (by decide) ?_
  refine z_istore_n C 17 d_M_cellOf_16 rfl (by decide) ?_
  refine z_aload_n C 18 d_M_cellOf_17 rfl rfl ?_
  refine z_dup C 19 d_M_cellOf_18 rfl rfl ?_
  refine zm_get C 22 f_M_225 d_M_cellOf_19 rfl hn rfl ?_
  refine z_aload_n C 23 d_M_cellOf_22 rfl rfl ?_
  refine zm_get C 26 f_M_27 d_M_cellOf_23 rfl hn rfl ?_
  refine z_iload_n C 27 d_M_cellOf_26 rfl rfl ?_
  refine zm_iald C 28 nd d_M_cellOf_27 rfl hn (by decide) (by decide) (by decide) rfl (by show nd < 1350; omega) (by decide) ?_
  rw [hA0]
  refine z_isub C 29 d_M_cellOf_28 rfl ?_
  refine zm_puti C 32 p_M_225 d_M_cellOf_29 rfl hn (by decide) (rfl) rfl rfl ?_
  rw [e36]
  refine z_aload_n C 33 d_M_cellOf_32 rfl rfl ?_
  refine zm_get C 36 f_M_83 d_M_cellOf_33 rfl hn rfl ?_
  refine z_bipush C 38 d_M_cellOf_36 rfl 20 (by decide) ?_
  refine z_aload_n C 39 d_M_cellOf_38 rfl rfl ?_
  refine zm_get C 42 f_M_250 d_M_cellOf_39 rfl hn rfl ?_
  refine z_imul C 43 d_M_cellOf_42 rfl ?_
  refine z_aload_n C 44 d_M_cellOf_43 rfl rfl ?_
  refine zm_get C 47 f_M_21 d_M_cellOf_44 rfl hn rfl ?_
  refine z_iload_n C 48 d_M_cellOf_47 rfl rfl ?_
  refine zm_iald C 49 nd d_M_cellOf_48 rfl hn (by decide) (by decide) (by decide) rfl (by show nd < 1350; omega) (by decide) ?_
  rw [hA]
  refine z_iadd C 50 d_M_cellOf_49 rfl ?_
  refine zm_iald C 51 (20*dp+v0) d_M_cellOf_50 rfl hn (by decide) (by decide) (by decide) (by rw [show upd S 36 (nI vs.length) 33 = nI dp from h33]; exact nI_20 dp v0) (by show 20 * dp + v0 < 160; omega) (by decide) ?_
  rw [hE]
  refine z_istore_n C 52 d_M_cellOf_51 rfl (by decide) ?_
  refine z_aload_n C 53 d_M_cellOf_52 rfl rfl ?_
  refine zm_get C 56 f_M_86 d_M_cellOf_53 rfl hn rfl ?_
  refine z_aload_n C 57 d_M_cellOf_56 rfl rfl ?_
  refine zm_get C 60 f_M_225 d_M_cellOf_57 rfl hn rfl ?_
  refine zm_lald C 61 vs.length d_M_cellOf_60 rfl hn (by decide) (by decide) (by decide) rfl (by show vs.length < 400; omega) (by decide) ?_
  rw [hvi]
  refine z_lstore C 63 d_M_cellOf_61 rfl (by decide) ?_
  refine z_aload_n C 64 d_M_cellOf_63 rfl rfl ?_
  refine zm_get C 67 f_M_27 d_M_cellOf_64 rfl hn rfl ?_
  refine z_iload_n C 68 d_M_cellOf_67 rfl rfl ?_
  refine zm_iald C 69 nd d_M_cellOf_68 rfl hn (by decide) (by decide) (by decide) rfl (by show nd < 1350; omega) (by decide) ?_
  rw [hA0]
  refine z_iload_n C 70 d_M_cellOf_69 rfl rfl ?_
  refine z_if_eq C 73 77 d_M_cellOf_70 rfl (by decide) (fun _ => ?_) (fun h9 => absurd (show (0 : Int32) = 0 from rfl) h9)
  refine z_iconst C 78 d_M_cellOf_77 rfl 2 (by decide) ?_
  refine z_icmp_ne C 81 85 d_M_cellOf_78 rfl (by decide) (fun _ => ?_) (fun h9 => absurd h9 (show ¬ nI 1 = 2 by decide))
  refine z_iconst C 86 d_M_cellOf_85 rfl 0 (by decide) ?_
  refine z_istore C 88 d_M_cellOf_86 rfl (by decide) ?_
  refine z_iload C 90 d_M_cellOf_88 rfl rfl ?_
  refine z_if_eq C 93 107 d_M_cellOf_90 rfl (by decide) (fun _ => ?_) (fun h9 => absurd (show (0 : Int32) = 0 from rfl) h9)
  refine z_lconst C 108 d_M_cellOf_107 rfl 0 (by decide) ?_
  refine z_lstore C 110 d_M_cellOf_108 rfl (by decide) ?_
  refine z_lload C 112 d_M_cellOf_110 rfl rfl ?_
  refine z_lconst C 113 d_M_cellOf_112 rfl 0 (by decide) ?_
  refine z_lcmp C 114 d_M_cellOf_113 rfl ?_
  refine z_if_lt C 117 150 d_M_cellOf_114 rfl (by decide) (fun w1 => ?_) (fun w1 => ?_)
  · exact flt (fun w => absurd (aInD_iff.mp w).1 (Int64.not_le.mpr ((lg_cmp_lt _ _).mp w1)))
  have w1 : 0 ≤ i.1 := Int64.not_lt.mp (fun w => w1 ((lg_cmp_lt _ _).mpr w))
  refine z_lload C 119 d_M_cellOf_117 rfl rfl ?_
  refine z_aload_n C 120 d_M_cellOf_119 rfl rfl ?_
  refine zm_get C 123 f_M_74 d_M_cellOf_120 rfl hn rfl ?_
  refine z_iload_n C 124 d_M_cellOf_123 rfl rfl ?_
  refine zm_iald C 125 a d_M_cellOf_124 rfl hn (by decide) (by decide) (by decide) rfl (by show a < 402; omega) (by decide) ?_
  rw [r105]
  refine z_i2l C 126 d_M_cellOf_125 rfl ?_
  refine z_lcmp C 127 d_M_cellOf_126 rfl ?_
  refine z_if_ge C 130 150 d_M_cellOf_127 rfl (by decide) (fun w2 => ?_) (fun w2 => ?_)
  · exact flt (fun w => absurd (aInD_iff.mp w).2.1 (Int64.not_lt.mpr ((lg_cmp_ge _ _).mp w2)))
  have w2 : i.1 < (nI (AR a).1).toInt64 := Int64.not_le.mp (fun w => w2 ((lg_cmp_ge _ _).mpr w))
  refine z_lload C 132 d_M_cellOf_130 rfl rfl ?_
  refine z_lconst C 133 d_M_cellOf_132 rfl 0 (by decide) ?_
  refine z_lcmp C 134 d_M_cellOf_133 rfl ?_
  refine z_if_lt C 137 150 d_M_cellOf_134 rfl (by decide) (fun w3 => ?_) (fun w3 => ?_)
  · exact flt (fun w => absurd (aInD_iff.mp w).2.2.1 (Int64.not_le.mpr ((lg_cmp_lt _ _).mp w3)))
  have w3 : (0 : Int64) ≤ 0 := Int64.not_lt.mp (fun w => w3 ((lg_cmp_lt _ _).mpr w))
  refine z_lload C 139 d_M_cellOf_137 rfl rfl ?_
  refine z_aload_n C 140 d_M_cellOf_139 rfl rfl ?_
  refine zm_get C 143 f_M_77 d_M_cellOf_140 rfl hn rfl ?_
  refine z_iload_n C 144 d_M_cellOf_143 rfl rfl ?_
  refine zm_iald C 145 a d_M_cellOf_144 rfl hn (by decide) (by decide) (by decide) rfl (by show a < 402; omega) (by decide) ?_
  rw [r106]
  refine z_i2l C 146 d_M_cellOf_145 rfl ?_
  refine z_lcmp C 147 d_M_cellOf_146 rfl ?_
  refine z_if_lt C 150 156 d_M_cellOf_147 rfl (by decide) (fun w4 => ?_) (fun w4 => ?_)
  rotate_left
  · exact flt (fun w => w4 ((lg_cmp_lt _ _).mpr (aInD_iff.mp w).2.2.2))
  have w4 : 0 < (nI (AR a).2.1).toInt64 := (lg_cmp_lt _ _).mp w4
  have win : aInD (AR a) i.1 (0) = true := aInD_iff.mpr ⟨w1, w2, w3, w4⟩
  rw [if_pos win] at hpo
  obtain ⟨i', j', hi', hj', -, -, eix, hlt, e32⟩ := l_idx (r := (AR a).1) (c := (AR a).2.1) (ct := (AR a).2.2) win r40 c40
  have eix : aIdx (AR a) i.1 (0) = i' * (AR a).2.1 + j' := eix
  rw [eix] at hpo
  obtain ⟨ix, hix⟩ : ∃ x, i' * (AR a).2.1 + j' = x := ⟨_, rfl⟩
  rw [hix] at hpo hlt e32
  refine z_lload C 158 d_M_cellOf_156 rfl rfl ?_
  refine z_aload_n C 159 d_M_cellOf_158 rfl rfl ?_
  refine zm_get C 162 f_M_77 d_M_cellOf_159 rfl hn rfl ?_
  refine z_iload_n C 163 d_M_cellOf_162 rfl rfl ?_
  refine zm_iald C 164 a d_M_cellOf_163 rfl hn (by decide) (by decide) (by decide) rfl (by show a < 402; omega) (by decide) ?_
  rw [r106]
  refine z_i2l C 165 d_M_cellOf_164 rfl ?_
  refine z_lmul C 166 d_M_cellOf_165 rfl ?_
  refine z_lload C 168 d_M_cellOf_166 rfl rfl ?_
  refine z_ladd C 169 d_M_cellOf_168 rfl ?_
  refine z_l2i C 170 d_M_cellOf_169 rfl ?_
  rw [e32]
  refine z_istore C 172 d_M_cellOf_170 rfl (by decide) ?_
  refine z_iload_n C 173 d_M_cellOf_172 rfl rfl ?_
  refine z_if_ne C 176 194 d_M_cellOf_173 rfl (by decide) (fun h9 => absurd (show (0 : Int32) = 0 from rfl) h9) (fun _ => ?_)
  refine z_aload_n C 177 d_M_cellOf_176 rfl rfl ?_
  refine z_aload_n C 178 d_M_cellOf_177 rfl rfl ?_
  refine zm_get C 181 f_M_70 d_M_cellOf_178 rfl hn rfl ?_
  refine z_bipush C 183 d_M_cellOf_181 rfl 40 (by decide) ?_
  refine z_iload_n C 184 d_M_cellOf_183 rfl rfl ?_
  refine z_imul C 185 d_M_cellOf_184 rfl ?_
  refine z_iload C 187 d_M_cellOf_185 rfl rfl ?_
  refine z_iadd C 188 d_M_cellOf_187 rfl ?_
  refine zm_lald C 189 (40 * a + ix) d_M_cellOf_188 rfl hn (by decide) (by decide) (by decide) (nI_40 a ix) (by show 40 * a + ix < 16080; omega) (by decide) ?_
  rw [show L 104 (40 * a + ix) = (AR a).2.2 ix from rct ix hlt]
  refine z_iconst C 190 d_M_cellOf_189 rfl (-1) (by decide) ?_
  refine z_call C 193 (c_M_giveQ hn hq1) w_M_give ini_M d_M_cellOf_190 rfl (z_goV (As := [.long ((AR a).2.2 ix), .int (-1)]) C l_M_246 w_M_give d_M_cellOf_190 (by omega) rfl rfl rfl) (Nat.le_of_ble_eq_true rfl) (by rw [hR]; simp only [zRm]; omega) (by rw [hR]; simp only [zRm]; omega) (by rw [hR]; simp only [zRm]; omega) (by rw [hR]; simp only [zRm]; omega) (fun v n' σ' hv => ?_) (fun x n' σ' hv => ?_)
  rotate_left
  · cases hv.1
  obtain ⟨e0, e1, S', A', L', rfl, hx⟩ := hv
  cases e0
  obtain rfl : n = n' := e1.symm
  exact z_vret C rfl d_M_cellOf_193 (by rw [hpo]; exact ⟨rfl, rfl, _, _, _, rfl, hx⟩) (by rw [hmc]; omega) (by rw [hms]; omega)
theorem c_M_cellOf_72 {i j : Int64 × Int32} (hn : 113 ≤ n) (hq : mQ S0 A0 L0 ((nd, dn) :: pl, j :: i :: vs, dp, EV, m, AR, k) S A L) (hnd : nd < 1350) (h87 : A0 87 nd = nI 7) (h90 : A0 90 nd = nI 2) (h88 : A0 88 nd = nI v0) (hv20 : v0 < 20) (hea : (EV dp v0).2 = nI a) (ham : a < m) : MetZ G l y_M_cellOf b_M_cellOf 11 none [] 1 0 0 [.ref 85, .int (nI nd)] n (mOv S A L rn σ) (mGp S0 A0 L0 rn σ n (gRd a i.1 j.1 pl vs dp EV m AR k)) := by
  obtain ⟨h19, h36, h33, h32, l1, l2, l3, l4⟩ := hq.lims
  have h36 : S 36 = nI (vs.length + 2) := h36
  have l3 : vs.length + 2 + (pl.length + 1) ≤ 400 := l3
  have hb := hq.2.2.2.2.2.2.2.2.1
  have hA : A 88 nd = nI v0 := by rw [hb 88 (by decide)]; exact h88
  have hA7 : A 87 nd = nI 7 := by rw [hb 87 (by decide)]; exact h87
  have hA0 : A 90 nd = nI 2 := by rw [hb 90 (by decide)]; exact h90
  have hE : A 108 (20 * dp + v0) = nI a := by rw [(hq.2.2.2.2.2.1 dp (by omega) v0 hv20).2]; exact hea
  obtain ⟨r105, r106, r40, c40, rc40, rct⟩ := hq.2.2.2.2.2.2.1 a ham
  have r105 : A 105 a = nI (AR a).1 := r105
  have r106 : A 106 a = nI (AR a).2.1 := r106
  have r40 : (AR a).1 ≤ 40 := r40
  have c40 : (AR a).2.1 ≤ 40 := c40
  have rc40 : (AR a).1 * (AR a).2.1 ≤ 40 := rc40
  obtain ⟨hvj, -, hvi, -, -⟩ := hq.2.2.2.2.1
  have hvi : L 109 vs.length = i.1 := hvi
  have hvj : L 109 (vs.length + 1) = j.1 := hvj
  have hq1 : mQ S0 A0 L0 ((nd, dn) :: pl, vs, dp, EV, m, AR, k) (upd S 36 (nI vs.length)) A L := hq.pop 2
  have e36 : S 36 - nI 2 = nI vs.length := by rw [h36]; exact nI_subc vs.length 2
  unfold gRd
  refine MetZ.of (by decide) (Nat.le_of_ble_eq_true rfl) (fun K hK hR hpo hmc hms C => ?_)
  have flt : ¬ aInD (AR a) i.1 (j.1) = true → Z G K n (mOv (upd S 36 (nI vs.length)) A L rn σ) 0 0 150 [(7, .long (j.1)), (6, .int 1), (4, .long i.1), (3, .int (nI a)), (2, .int 0), (0, .ref 85), (1, .int (nI nd))] [] := fun w => by
    rw [if_neg w] at hpo
    refine z_aload_n C 151 d_M_cellOf_150 rfl rfl ?_
    refine z_iconst C 152 d_M_cellOf_151 rfl 3 (by decide) ?_
    refine zm_puti C 155 p_M_222 d_M_cellOf_152 rfl hn (by decide) (rfl) rfl rfl ?_
    exact z_vret C rfl d_M_cellOf_155 (by rw [hpo]; exact ⟨rfl, rfl, _, _, _, rfl, hq1.fault 3⟩) (by rw [hmc]; omega) (by rw [hms]; omega)
  refine z_aload_n C 1 d_M_cellOf_0 rfl rfl ?_
  refine zm_get C 4 f_M_17 d_M_cellOf_1 rfl hn rfl ?_
  refine z_iload_n C 5 d_M_cellOf_4 rfl rfl ?_
  refine zm_iald C 6 nd d_M_cellOf_5 rfl hn (by decide) (by decide) (by decide) rfl (by show nd < 1350; omega) (by decide) ?_
  rw [hA7]
  refine z_bipush C 8 d_M_cellOf_6 rfl 8 (by decide) ?_
  refine z_icmp_ne C 11 15 d_M_cellOf_8 rfl (by decide) (fun _ => ?_) (fun h9 => absurd h9 (show ¬ nI 7 = 8 by decide))
  refine z_iconst C 16 d_M_cellOf_15 rfl 0 (by decide) ?_
  refine z_istore_n C 17 d_M_cellOf_16 rfl (by decide) ?_
  refine z_aload_n C 18 d_M_cellOf_17 rfl rfl ?_
  refine z_dup C 19 d_M_cellOf_18 rfl rfl ?_
  refine zm_get C 22 f_M_225 d_M_cellOf_19 rfl hn rfl ?_
  refine z_aload_n C 23 d_M_cellOf_22 rfl rfl ?_
  refine zm_get C 26 f_M_27 d_M_cellOf_23 rfl hn rfl ?_
  refine z_iload_n C 27 d_M_cellOf_26 rfl rfl ?_
  refine zm_iald C 28 nd d_M_cellOf_27 rfl hn (by decide) (by decide) (by decide) rfl (by show nd < 1350; omega) (by decide) ?_
  rw [hA0]
  refine z_isub C 29 d_M_cellOf_28 rfl ?_
  refine zm_puti C 32 p_M_225 d_M_cellOf_29 rfl hn (by decide) (rfl) rfl rfl ?_
  rw [e36]
  refine z_aload_n C 33 d_M_cellOf_32 rfl rfl ?_
  refine zm_get C 36 f_M_83 d_M_cellOf_33 rfl hn rfl ?_
  refine z_bipush C 38 d_M_cellOf_36 rfl 20 (by decide) ?_
  refine z_aload_n C 39 d_M_cellOf_38 rfl rfl ?_
  refine zm_get C 42 f_M_250 d_M_cellOf_39 rfl hn rfl ?_
  refine z_imul C 43 d_M_cellOf_42 rfl ?_
  refine z_aload_n C 44 d_M_cellOf_43 rfl rfl ?_
  refine zm_get C 47 f_M_21 d_M_cellOf_44 rfl hn rfl ?_
  refine z_iload_n C 48 d_M_cellOf_47 rfl rfl ?_
  refine zm_iald C 49 nd d_M_cellOf_48 rfl hn (by decide) (by decide) (by decide) rfl (by show nd < 1350; omega) (by decide) ?_
  rw [hA]
  refine z_iadd C 50 d_M_cellOf_49 rfl ?_
  refine zm_iald C 51 (20*dp+v0) d_M_cellOf_50 rfl hn (by decide) (by decide) (by decide) (by rw [show upd S 36 (nI vs.length) 33 = nI dp from h33]; exact nI_20 dp v0) (by show 20 * dp + v0 < 160; omega) (by decide) ?_
  rw [hE]
  refine z_istore_n C 52 d_M_cellOf_51 rfl (by decide) ?_
  refine z_aload_n C 53 d_M_cellOf_52 rfl rfl ?_
  refine zm_get C 56 f_M_86 d_M_cellOf_53 rfl hn rfl ?_
  refine z_aload_n C 57 d_M_cellOf_56 rfl rfl ?_
  refine zm_get C 60 f_M_225 d_M_cellOf_57 rfl hn rfl ?_
  refine zm_lald C 61 vs.length d_M_cellOf_60 rfl hn (by decide) (by decide) (by decide) rfl (by show vs.length < 400; omega) (by decide) ?_
  rw [hvi]
  refine z_lstore C 63 d_M_cellOf_61 rfl (by decide) ?_
  refine z_aload_n C 64 d_M_cellOf_63 rfl rfl ?_
  refine zm_get C 67 f_M_27 d_M_cellOf_64 rfl hn rfl ?_
  refine z_iload_n C 68 d_M_cellOf_67 rfl rfl ?_
  refine zm_iald C 69 nd d_M_cellOf_68 rfl hn (by decide) (by decide) (by decide) rfl (by show nd < 1350; omega) (by decide) ?_
  rw [hA0]
  refine z_iload_n C 70 d_M_cellOf_69 rfl rfl ?_
  refine z_if_eq C 73 77 d_M_cellOf_70 rfl (by decide) (fun _ => ?_) (fun h9 => absurd (show (0 : Int32) = 0 from rfl) h9)
  refine z_iconst C 78 d_M_cellOf_77 rfl 2 (by decide) ?_
  refine z_icmp_ne C 81 85 d_M_cellOf_78 rfl (by decide) (fun h9 => absurd (show nI 2 = 2 from rfl) h9) (fun _ => ?_)
  refine z_iconst C 82 d_M_cellOf_81 rfl 1 (by decide) ?_
  refine z_goto C 86 d_M_cellOf_82 (by decide) ?_
  refine z_istore C 88 d_M_cellOf_86 rfl (by decide) ?_
  refine z_iload C 90 d_M_cellOf_88 rfl rfl ?_
  refine z_if_eq C 93 107 d_M_cellOf_90 rfl (by decide) (fun h9 => absurd h9 (show ¬ (1 : Int32) = 0 by decide)) (fun _ => ?_)
  refine z_aload_n C 94 d_M_cellOf_93 rfl rfl ?_
  refine zm_get C 97 f_M_86 d_M_cellOf_94 rfl hn rfl ?_
  refine z_aload_n C 98 d_M_cellOf_97 rfl rfl ?_
  refine zm_get C 101 f_M_225 d_M_cellOf_98 rfl hn rfl ?_
  refine z_iconst C 102 d_M_cellOf_101 rfl 1 (by decide) ?_
  refine z_iadd C 103 d_M_cellOf_102 rfl ?_
  refine zm_lald C 104 (vs.length+1) d_M_cellOf_103 rfl hn (by decide) (by decide) (by decide) (nI_1 vs.length) (by show vs.length + 1 < 400; omega) (by decide) ?_
  rw [hvj]
  refine z_goto C 108 d_M_cellOf_104 (by decide) ?_
  refine z_lstore C 110 d_M_cellOf_108 rfl (by decide) ?_
  refine z_lload C 112 d_M_cellOf_110 rfl rfl ?_
  refine z_lconst C 113 d_M_cellOf_112 rfl 0 (by decide) ?_
  refine z_lcmp C 114 d_M_cellOf_113 rfl ?_
  refine z_if_lt C 117 150 d_M_cellOf_114 rfl (by decide) (fun w1 => ?_) (fun w1 => ?_)
  · exact flt (fun w => absurd (aInD_iff.mp w).1 (Int64.not_le.mpr ((lg_cmp_lt _ _).mp w1)))
  have w1 : 0 ≤ i.1 := Int64.not_lt.mp (fun w => w1 ((lg_cmp_lt _ _).mpr w))
  refine z_lload C 119 d_M_cellOf_117 rfl rfl ?_
  refine z_aload_n C 120 d_M_cellOf_119 rfl rfl ?_
  refine zm_get C 123 f_M_74 d_M_cellOf_120 rfl hn rfl ?_
  refine z_iload_n C 124 d_M_cellOf_123 rfl rfl ?_
  refine zm_iald C 125 a d_M_cellOf_124 rfl hn (by decide) (by decide) (by decide) rfl (by show a < 402; omega) (by decide) ?_
  rw [r105]
  refine z_i2l C 126 d_M_cellOf_125 rfl ?_
  refine z_lcmp C 127 d_M_cellOf_126 rfl ?_
  refine z_if_ge C 130 150 d_M_cellOf_127 rfl (by decide) (fun w2 => ?_) (fun w2 => ?_)
  · exact flt (fun w => absurd (aInD_iff.mp w).2.1 (Int64.not_lt.mpr ((lg_cmp_ge _ _).mp w2)))
  have w2 : i.1 < (nI (AR a).1).toInt64 := Int64.not_le.mp (fun w => w2 ((lg_cmp_ge _ _).mpr w))
  refine z_lload C 132 d_M_cellOf_130 rfl rfl ?_
  refine z_lconst C 133 d_M_cellOf_132 rfl 0 (by decide) ?_
  refine z_lcmp C 134 d_M_cellOf_133 rfl ?_
  refine z_if_lt C 137 150 d_M_cellOf_134 rfl (by decide) (fun w3 => ?_) (fun w3 => ?_)
  · exact flt (fun w => absurd (aInD_iff.mp w).2.2.1 (Int64.not_le.mpr ((lg_cmp_lt _ _).mp w3)))
  have w3 : (0 : Int64) ≤ j.1 := Int64.not_lt.mp (fun w => w3 ((lg_cmp_lt _ _).mpr w))
  refine z_lload C 139 d_M_cellOf_137 rfl rfl ?_
  refine z_aload_n C 140 d_M_cellOf_139 rfl rfl ?_
  refine zm_get C 143 f_M_77 d_M_cellOf_140 rfl hn rfl ?_
  refine z_iload_n C 144 d_M_cellOf_143 rfl rfl ?_
  refine zm_iald C 145 a d_M_cellOf_144 rfl hn (by decide) (by decide) (by decide) rfl (by show a < 402; omega) (by decide) ?_
  rw [r106]
  refine z_i2l C 146 d_M_cellOf_145 rfl ?_
  refine z_lcmp C 147 d_M_cellOf_146 rfl ?_
  refine z_if_lt C 150 156 d_M_cellOf_147 rfl (by decide) (fun w4 => ?_) (fun w4 => ?_)
  rotate_left
  · exact flt (fun w => w4 ((lg_cmp_lt _ _).mpr (aInD_iff.mp w).2.2.2))
  have w4 : j.1 < (nI (AR a).2.1).toInt64 := (lg_cmp_lt _ _).mp w4
  have win : aInD (AR a) i.1 (j.1) = true := aInD_iff.mpr ⟨w1, w2, w3, w4⟩
  rw [if_pos win] at hpo
  obtain ⟨i', j', hi', hj', -, -, eix, hlt, e32⟩ := l_idx (r := (AR a).1) (c := (AR a).2.1) (ct := (AR a).2.2) win r40 c40
  have eix : aIdx (AR a) i.1 (j.1) = i' * (AR a).2.1 + j' := eix
  rw [eix] at hpo
  obtain ⟨ix, hix⟩ : ∃ x, i' * (AR a).2.1 + j' = x := ⟨_, rfl⟩
  rw [hix] at hpo hlt e32
  refine z_lload C 158 d_M_cellOf_156 rfl rfl ?_
  refine z_aload_n C 159 d_M_cellOf_158 rfl rfl ?_
  refine zm_get C 162 f_M_77 d_M_cellOf_159 rfl hn rfl ?_
  refine z_iload_n C 163 d_M_cellOf_162 rfl rfl ?_
  refine zm_iald C 164 a d_M_cellOf_163 rfl hn (by decide) (by decide) (by decide) rfl (by show a < 402; omega) (by decide) ?_
  rw [r106]
  refine z_i2l C 165 d_M_cellOf_164 rfl ?_
  refine z_lmul C 166 d_M_cellOf_165 rfl ?_
  refine z_lload C 168 d_M_cellOf_166 rfl rfl ?_
  refine z_ladd C 169 d_M_cellOf_168 rfl ?_
  refine z_l2i C 170 d_M_cellOf_169 rfl ?_
  rw [e32]
  refine z_istore C 172 d_M_cellOf_170 rfl (by decide) ?_
  refine z_iload_n C 173 d_M_cellOf_172 rfl rfl ?_
  refine z_if_ne C 176 194 d_M_cellOf_173 rfl (by decide) (fun h9 => absurd (show (0 : Int32) = 0 from rfl) h9) (fun _ => ?_)
  refine z_aload_n C 177 d_M_cellOf_176 rfl rfl ?_
  refine z_aload_n C 178 d_M_cellOf_177 rfl rfl ?_
  refine zm_get C 181 f_M_70 d_M_cellOf_178 rfl hn rfl ?_
  refine z_bipush C 183 d_M_cellOf_181 rfl 40 (by decide) ?_
  refine z_iload_n C 184 d_M_cellOf_183 rfl rfl ?_
  refine z_imul C 185 d_M_cellOf_184 rfl ?_
  refine z_iload C 187 d_M_cellOf_185 rfl rfl ?_
  refine z_iadd C 188 d_M_cellOf_187 rfl ?_
  refine zm_lald C 189 (40 * a + ix) d_M_cellOf_188 rfl hn (by decide) (by decide) (by decide) (nI_40 a ix) (by show 40 * a + ix < 16080; omega) (by decide) ?_
  rw [show L 104 (40 * a + ix) = (AR a).2.2 ix from rct ix hlt]
  refine z_iconst C 190 d_M_cellOf_189 rfl (-1) (by decide) ?_
  refine z_call C 193 (c_M_giveQ hn hq1) w_M_give ini_M d_M_cellOf_190 rfl (z_goV (As := [.long ((AR a).2.2 ix), .int (-1)]) C l_M_246 w_M_give d_M_cellOf_190 (by omega) rfl rfl rfl) (Nat.le_of_ble_eq_true rfl) (by rw [hR]; simp only [zRm]; omega) (by rw [hR]; simp only [zRm]; omega) (by rw [hR]; simp only [zRm]; omega) (by rw [hR]; simp only [zRm]; omega) (fun v n' σ' hv => ?_) (fun x n' σ' hv => ?_)
  rotate_left
  · cases hv.1
  obtain ⟨e0, e1, S', A', L', rfl, hx⟩ := hv
  cases e0
  obtain rfl : n = n' := e1.symm
  exact z_vret C rfl d_M_cellOf_193 (by rw [hpo]; exact ⟨rfl, rfl, _, _, _, rfl, hx⟩) (by rw [hmc]; omega) (by rw [hms]; omega)
theorem c_M_cellOf_82 {i x : Int64 × Int32} (hn : 113 ≤ n) (hq : mQ S0 A0 L0 ((nd, dn) :: pl, x :: i :: vs, dp, EV, m, AR, k) S A L) (hnd : nd < 1350) (h87 : A0 87 nd = nI 8) (h90 : A0 90 nd = nI 2) (h88 : A0 88 nd = nI v0) (hv20 : v0 < 20) (hea : (EV dp v0).2 = nI a) (ham : a < m) : MetZ G l y_M_cellOf b_M_cellOf 11 none [] 1 0 0 [.ref 85, .int (nI nd)] n (mOv S A L rn σ) (mGp S0 A0 L0 rn σ n (gPu a i.1 0 x.1 pl vs dp EV m AR k)) := by
  obtain ⟨h19, h36, h33, h32, l1, l2, l3, l4⟩ := hq.lims
  have h36 : S 36 = nI (vs.length + 2) := h36
  have l3 : vs.length + 2 + (pl.length + 1) ≤ 400 := l3
  have hb := hq.2.2.2.2.2.2.2.2.1
  have hA : A 88 nd = nI v0 := by rw [hb 88 (by decide)]; exact h88
  have hA7 : A 87 nd = nI 8 := by rw [hb 87 (by decide)]; exact h87
  have hA0 : A 90 nd = nI 2 := by rw [hb 90 (by decide)]; exact h90
  have hE : A 108 (20 * dp + v0) = nI a := by rw [(hq.2.2.2.2.2.1 dp (by omega) v0 hv20).2]; exact hea
  obtain ⟨r105, r106, r40, c40, rc40, rct⟩ := hq.2.2.2.2.2.2.1 a ham
  have r105 : A 105 a = nI (AR a).1 := r105
  have r106 : A 106 a = nI (AR a).2.1 := r106
  have r40 : (AR a).1 ≤ 40 := r40
  have c40 : (AR a).2.1 ≤ 40 := c40
  have rc40 : (AR a).1 * (AR a).2.1 ≤ 40 := rc40
  obtain ⟨hvx, -, hvi, -, -⟩ := hq.2.2.2.2.1
  have hvi : L 109 vs.length = i.1 := hvi
  have hvx : L 109 (vs.length + 1) = x.1 := hvx
  have hq1 : mQ S0 A0 L0 ((nd, dn) :: pl, vs, dp, EV, m, AR, k) (upd S 36 (nI vs.length)) A L := hq.pop 2
  have e36 : S 36 - nI 2 = nI vs.length := by rw [h36]; exact nI_subc vs.length 2
  unfold gPu
  refine MetZ.of (by decide) (Nat.le_of_ble_eq_true rfl) (fun K hK hR hpo hmc hms C => ?_)
  have flt : ¬ aInD (AR a) i.1 (0) = true → Z G K n (mOv (upd S 36 (nI vs.length)) A L rn σ) 0 0 150 [(7, .long (0)), (6, .int 0), (4, .long i.1), (3, .int (nI a)), (2, .int 1), (0, .ref 85), (1, .int (nI nd))] [] := fun w => by
    rw [if_neg w] at hpo
    refine z_aload_n C 151 d_M_cellOf_150 rfl rfl ?_
    refine z_iconst C 152 d_M_cellOf_151 rfl 3 (by decide) ?_
    refine zm_puti C 155 p_M_222 d_M_cellOf_152 rfl hn (by decide) (rfl) rfl rfl ?_
    exact z_vret C rfl d_M_cellOf_155 (by rw [hpo]; exact ⟨rfl, rfl, _, _, _, rfl, hq1.fault 3⟩) (by rw [hmc]; omega) (by rw [hms]; omega)
  refine z_aload_n C 1 d_M_cellOf_0 rfl rfl ?_
  refine zm_get C 4 f_M_17 d_M_cellOf_1 rfl hn rfl ?_
  refine z_iload_n C 5 d_M_cellOf_4 rfl rfl ?_
  refine zm_iald C 6 nd d_M_cellOf_5 rfl hn (by decide) (by decide) (by decide) rfl (by show nd < 1350; omega) (by decide) ?_
  rw [hA7]
  refine z_bipush C 8 d_M_cellOf_6 rfl 8 (by decide) ?_
  refine z_icmp_ne C 11 15 d_M_cellOf_8 rfl (by decide) (fun h9 => absurd (show nI 8 = 8 from rfl) h9) (fun _ => ?_)
  refine z_iconst C 12 d_M_cellOf_11 rfl 1 (by decide) ?_
  refine z_goto C 16 d_M_cellOf_12 (by decide) ?_
  refine z_istore_n C 17 d_M_cellOf_16 rfl (by decide) ?_
  refine z_aload_n C 18 d_M_cellOf_17 rfl rfl ?_
  refine z_dup C 19 d_M_cellOf_18 rfl rfl ?_
  refine zm_get C 22 f_M_225 d_M_cellOf_19 rfl hn rfl ?_
  refine z_aload_n C 23 d_M_cellOf_22 rfl rfl ?_
  refine zm_get C 26 f_M_27 d_M_cellOf_23 rfl hn rfl ?_
  refine z_iload_n C 27 d_M_cellOf_26 rfl rfl ?_
  refine zm_iald C 28 nd d_M_cellOf_27 rfl hn (by decide) (by decide) (by decide) rfl (by show nd < 1350; omega) (by decide) ?_
  rw [hA0]
  refine z_isub C 29 d_M_cellOf_28 rfl ?_
  refine zm_puti C 32 p_M_225 d_M_cellOf_29 rfl hn (by decide) (rfl) rfl rfl ?_
  rw [e36]
  refine z_aload_n C 33 d_M_cellOf_32 rfl rfl ?_
  refine zm_get C 36 f_M_83 d_M_cellOf_33 rfl hn rfl ?_
  refine z_bipush C 38 d_M_cellOf_36 rfl 20 (by decide) ?_
  refine z_aload_n C 39 d_M_cellOf_38 rfl rfl ?_
  refine zm_get C 42 f_M_250 d_M_cellOf_39 rfl hn rfl ?_
  refine z_imul C 43 d_M_cellOf_42 rfl ?_
  refine z_aload_n C 44 d_M_cellOf_43 rfl rfl ?_
  refine zm_get C 47 f_M_21 d_M_cellOf_44 rfl hn rfl ?_
  refine z_iload_n C 48 d_M_cellOf_47 rfl rfl ?_
  refine zm_iald C 49 nd d_M_cellOf_48 rfl hn (by decide) (by decide) (by decide) rfl (by show nd < 1350; omega) (by decide) ?_
  rw [hA]
  refine z_iadd C 50 d_M_cellOf_49 rfl ?_
  refine zm_iald C 51 (20*dp+v0) d_M_cellOf_50 rfl hn (by decide) (by decide) (by decide) (by rw [show upd S 36 (nI vs.length) 33 = nI dp from h33]; exact nI_20 dp v0) (by show 20 * dp + v0 < 160; omega) (by decide) ?_
  rw [hE]
  refine z_istore_n C 52 d_M_cellOf_51 rfl (by decide) ?_
  refine z_aload_n C 53 d_M_cellOf_52 rfl rfl ?_
  refine zm_get C 56 f_M_86 d_M_cellOf_53 rfl hn rfl ?_
  refine z_aload_n C 57 d_M_cellOf_56 rfl rfl ?_
  refine zm_get C 60 f_M_225 d_M_cellOf_57 rfl hn rfl ?_
  refine zm_lald C 61 vs.length d_M_cellOf_60 rfl hn (by decide) (by decide) (by decide) rfl (by show vs.length < 400; omega) (by decide) ?_
  rw [hvi]
  refine z_lstore C 63 d_M_cellOf_61 rfl (by decide) ?_
  refine z_aload_n C 64 d_M_cellOf_63 rfl rfl ?_
  refine zm_get C 67 f_M_27 d_M_cellOf_64 rfl hn rfl ?_
  refine z_iload_n C 68 d_M_cellOf_67 rfl rfl ?_
  refine zm_iald C 69 nd d_M_cellOf_68 rfl hn (by decide) (by decide) (by decide) rfl (by show nd < 1350; omega) (by decide) ?_
  rw [hA0]
  refine z_iload_n C 70 d_M_cellOf_69 rfl rfl ?_
  refine z_if_eq C 73 77 d_M_cellOf_70 rfl (by decide) (fun h9 => absurd h9 (show ¬ (1 : Int32) = 0 by decide)) (fun _ => ?_)
  refine z_iconst C 74 d_M_cellOf_73 rfl 3 (by decide) ?_
  refine z_goto C 78 d_M_cellOf_74 (by decide) ?_
  refine z_icmp_ne C 81 85 d_M_cellOf_78 rfl (by decide) (fun _ => ?_) (fun h9 => absurd h9 (show ¬ nI 2 = 3 by decide))
  refine z_iconst C 86 d_M_cellOf_85 rfl 0 (by decide) ?_
  refine z_istore C 88 d_M_cellOf_86 rfl (by decide) ?_
  refine z_iload C 90 d_M_cellOf_88 rfl rfl ?_
  refine z_if_eq C 93 107 d_M_cellOf_90 rfl (by decide) (fun _ => ?_) (fun h9 => absurd (show (0 : Int32) = 0 from rfl) h9)
  refine z_lconst C 108 d_M_cellOf_107 rfl 0 (by decide) ?_
  refine z_lstore C 110 d_M_cellOf_108 rfl (by decide) ?_
  refine z_lload C 112 d_M_cellOf_110 rfl rfl ?_
  refine z_lconst C 113 d_M_cellOf_112 rfl 0 (by decide) ?_
  refine z_lcmp C 114 d_M_cellOf_113 rfl ?_
  refine z_if_lt C 117 150 d_M_cellOf_114 rfl (by decide) (fun w1 => ?_) (fun w1 => ?_)
  · exact flt (fun w => absurd (aInD_iff.mp w).1 (Int64.not_le.mpr ((lg_cmp_lt _ _).mp w1)))
  have w1 : 0 ≤ i.1 := Int64.not_lt.mp (fun w => w1 ((lg_cmp_lt _ _).mpr w))
  refine z_lload C 119 d_M_cellOf_117 rfl rfl ?_
  refine z_aload_n C 120 d_M_cellOf_119 rfl rfl ?_
  refine zm_get C 123 f_M_74 d_M_cellOf_120 rfl hn rfl ?_
  refine z_iload_n C 124 d_M_cellOf_123 rfl rfl ?_
  refine zm_iald C 125 a d_M_cellOf_124 rfl hn (by decide) (by decide) (by decide) rfl (by show a < 402; omega) (by decide) ?_
  rw [r105]
  refine z_i2l C 126 d_M_cellOf_125 rfl ?_
  refine z_lcmp C 127 d_M_cellOf_126 rfl ?_
  refine z_if_ge C 130 150 d_M_cellOf_127 rfl (by decide) (fun w2 => ?_) (fun w2 => ?_)
  · exact flt (fun w => absurd (aInD_iff.mp w).2.1 (Int64.not_lt.mpr ((lg_cmp_ge _ _).mp w2)))
  have w2 : i.1 < (nI (AR a).1).toInt64 := Int64.not_le.mp (fun w => w2 ((lg_cmp_ge _ _).mpr w))
  refine z_lload C 132 d_M_cellOf_130 rfl rfl ?_
  refine z_lconst C 133 d_M_cellOf_132 rfl 0 (by decide) ?_
  refine z_lcmp C 134 d_M_cellOf_133 rfl ?_
  refine z_if_lt C 137 150 d_M_cellOf_134 rfl (by decide) (fun w3 => ?_) (fun w3 => ?_)
  · exact flt (fun w => absurd (aInD_iff.mp w).2.2.1 (Int64.not_le.mpr ((lg_cmp_lt _ _).mp w3)))
  have w3 : (0 : Int64) ≤ 0 := Int64.not_lt.mp (fun w => w3 ((lg_cmp_lt _ _).mpr w))
  refine z_lload C 139 d_M_cellOf_137 rfl rfl ?_
  refine z_aload_n C 140 d_M_cellOf_139 rfl rfl ?_
  refine zm_get C 143 f_M_77 d_M_cellOf_140 rfl hn rfl ?_
  refine z_iload_n C 144 d_M_cellOf_143 rfl rfl ?_
  refine zm_iald C 145 a d_M_cellOf_144 rfl hn (by decide) (by decide) (by decide) rfl (by show a < 402; omega) (by decide) ?_
  rw [r106]
  refine z_i2l C 146 d_M_cellOf_145 rfl ?_
  refine z_lcmp C 147 d_M_cellOf_146 rfl ?_
  refine z_if_lt C 150 156 d_M_cellOf_147 rfl (by decide) (fun w4 => ?_) (fun w4 => ?_)
  rotate_left
  · exact flt (fun w => w4 ((lg_cmp_lt _ _).mpr (aInD_iff.mp w).2.2.2))
  have w4 : 0 < (nI (AR a).2.1).toInt64 := (lg_cmp_lt _ _).mp w4
  have win : aInD (AR a) i.1 (0) = true := aInD_iff.mpr ⟨w1, w2, w3, w4⟩
  rw [if_pos win] at hpo
  obtain ⟨i', j', hi', hj', -, -, eix, hlt, e32⟩ := l_idx (r := (AR a).1) (c := (AR a).2.1) (ct := (AR a).2.2) win r40 c40
  have eix : aIdx (AR a) i.1 (0) = i' * (AR a).2.1 + j' := eix
  rw [eix] at hpo
  obtain ⟨ix, hix⟩ : ∃ x, i' * (AR a).2.1 + j' = x := ⟨_, rfl⟩
  rw [hix] at hpo hlt e32
  refine z_lload C 158 d_M_cellOf_156 rfl rfl ?_
  refine z_aload_n C 159 d_M_cellOf_158 rfl rfl ?_
  refine zm_get C 162 f_M_77 d_M_cellOf_159 rfl hn rfl ?_
  refine z_iload_n C 163 d_M_cellOf_162 rfl rfl ?_
  refine zm_iald C 164 a d_M_cellOf_163 rfl hn (by decide) (by decide) (by decide) rfl (by show a < 402; omega) (by decide) ?_
  rw [r106]
  refine z_i2l C 165 d_M_cellOf_164 rfl ?_
  refine z_lmul C 166 d_M_cellOf_165 rfl ?_
  refine z_lload C 168 d_M_cellOf_166 rfl rfl ?_
  refine z_ladd C 169 d_M_cellOf_168 rfl ?_
  refine z_l2i C 170 d_M_cellOf_169 rfl ?_
  rw [e32]
  refine z_istore C 172 d_M_cellOf_170 rfl (by decide) ?_
  refine z_iload_n C 173 d_M_cellOf_172 rfl rfl ?_
  refine z_if_ne C 176 194 d_M_cellOf_173 rfl (by decide) (fun _ => ?_) (fun h9 => absurd h9 (show ¬ (1 : Int32) = 0 by decide))
  refine z_aload_n C 195 d_M_cellOf_194 rfl rfl ?_
  refine z_aload_n C 196 d_M_cellOf_195 rfl rfl ?_
  refine zm_get C 199 f_M_74 d_M_cellOf_196 rfl hn rfl ?_
  refine z_iload_n C 200 d_M_cellOf_199 rfl rfl ?_
  refine zm_iald C 201 a d_M_cellOf_200 rfl hn (by decide) (by decide) (by decide) rfl (by show a < 402; omega) (by decide) ?_
  rw [r105]
  refine z_i2l C 202 d_M_cellOf_201 rfl ?_
  refine z_aload_n C 203 d_M_cellOf_202 rfl rfl ?_
  refine zm_get C 206 f_M_77 d_M_cellOf_203 rfl hn rfl ?_
  refine z_iload_n C 207 d_M_cellOf_206 rfl rfl ?_
  refine zm_iald C 208 a d_M_cellOf_207 rfl hn (by decide) (by decide) (by decide) rfl (by show a < 402; omega) (by decide) ?_
  rw [r106]
  refine z_i2l C 209 d_M_cellOf_208 rfl ?_
  refine z_iload_n C 210 d_M_cellOf_209 rfl rfl ?_
  have hprod : ((nI (AR a).1).toInt64 * (nI (AR a).2.1).toInt64).toInt32 = nI ((AR a).1 * (AR a).2.1) := by rw [nI_l (by omega), nI_l (by omega), lN_mul, lN_i]
  refine z_call C 213 (c_M_make (p := (AR a).1 * (AR a).2.1) (src := fun j => L 104 (40 * a + j)) hn (show upd S 36 (nI vs.length) 32 = nI m from h32) (by omega) hprod rc40 (Or.inr ⟨a, rfl, ham, fun _ _ => rfl⟩)) w_M_make ini_M d_M_cellOf_210 rfl (z_goV (As := [.long (nI (AR a).1).toInt64, .long (nI (AR a).2.1).toInt64, .int (nI a)]) C l_M_242 w_M_make d_M_cellOf_210 (by omega) rfl rfl rfl) (Nat.le_of_ble_eq_true rfl) (by rw [hR]; simp only [zRm]; omega) (by rw [hR]; simp only [zRm]; omega) (by rw [hR]; simp only [zRm]; omega) (by rw [hR]; simp only [zRm]; omega) (fun v n' σ' hv => ?_) (fun x n' σ' hv => ?_)
  rotate_left
  · cases hv.1
  obtain ⟨e0, e1, rfl⟩ := hv
  cases e0
  obtain rfl : n = n' := e1.symm
  refine z_istore C 215 d_M_cellOf_213 rfl (by decide) ?_
  refine z_aload_n C 216 d_M_cellOf_215 rfl rfl ?_
  refine zm_get C 219 f_M_70 d_M_cellOf_216 rfl hn rfl ?_
  refine z_bipush C 221 d_M_cellOf_219 rfl 40 (by decide) ?_
  refine z_iload C 223 d_M_cellOf_221 rfl rfl ?_
  refine z_imul C 224 d_M_cellOf_223 rfl ?_
  refine z_iload C 226 d_M_cellOf_224 rfl rfl ?_
  refine z_iadd C 227 d_M_cellOf_226 rfl ?_
  refine z_aload_n C 228 d_M_cellOf_227 rfl rfl ?_
  refine zm_get C 231 f_M_86 d_M_cellOf_228 rfl hn rfl ?_
  refine z_aload_n C 232 d_M_cellOf_231 rfl rfl ?_
  refine zm_get C 235 f_M_225 d_M_cellOf_232 rfl hn rfl ?_
  refine z_aload_n C 236 d_M_cellOf_235 rfl rfl ?_
  refine zm_get C 239 f_M_27 d_M_cellOf_236 rfl hn rfl ?_
  refine z_iload_n C 240 d_M_cellOf_239 rfl rfl ?_
  refine zm_iald C 241 nd d_M_cellOf_240 rfl hn (by decide) (by decide) (by decide) rfl (by show nd < 1350; omega) (by decide) ?_
  rw [show rMk m (nI (AR a).1).toInt64.toInt32 (nI (AR a).2.1).toInt64.toInt32 A 90 nd = nI 2 from hA0]
  refine z_iadd C 242 d_M_cellOf_241 rfl ?_
  refine z_iconst C 243 d_M_cellOf_242 rfl 1 (by decide) ?_
  refine z_isub C 244 d_M_cellOf_243 rfl ?_
  refine zm_lald C 245 (vs.length + 1) d_M_cellOf_244 rfl hn (by decide) (by decide) (by decide) (by show nI vs.length + nI 2 - 1 = _; rw [nI_add]; exact nI_p1 (vs.length + 1)) (by show vs.length + 1 < 400; omega) (by decide) ?_
  rw [show (va_up L 104 (mkC (L 104) m ((AR a).1 * (AR a).2.1) fun j => L 104 (40 * a + j))) 109 (vs.length + 1) = x.1 from hvx]
  refine zm_last C 246 (40 * m + ix) d_M_cellOf_245 rfl hn (by decide) (by decide) (by decide) (nI_40 m ix) (by show 40 * m + ix < 16080; omega) (by decide) ?_
  rw [va_up_self, va_up2]
  have c5 : S 43 = k.2.2.2.2 := hq.2.2.1.2.2.2.2
  refine z_aload_n C 247 d_M_cellOf_246 rfl rfl ?_
  refine z_dup C 248 d_M_cellOf_247 rfl rfl ?_
  refine zm_get C 251 f_M_253 d_M_cellOf_248 rfl hn rfl ?_
  refine z_iconst C 252 d_M_cellOf_251 rfl 1 (by decide) ?_
  refine z_iadd C 253 d_M_cellOf_252 rfl ?_
  refine zm_puti C 256 p_M_253 d_M_cellOf_253 rfl hn (by decide) (rfl) rfl rfl ?_
  refine z_aload_n C 257 d_M_cellOf_256 rfl rfl ?_
  refine z_lconst C 258 d_M_cellOf_257 rfl 0 (by decide) ?_
  refine z_iload C 260 d_M_cellOf_258 rfl rfl ?_
  have g19 : (upd (upd (upd S 36 (nI vs.length)) 32 (nI (m + 1))) 43 (S 43 + 1)) 19 = nI (pl.length + 1) := h19
  have g36 : (upd (upd (upd S 36 (nI vs.length)) 32 (nI (m + 1))) 43 (S 43 + 1)) 36 = nI vs.length := rfl
  refine z_call C 263 (c_M_give (o := pl.length) (v := vs.length) hn g19 g36 (by omega) 0 (nI m)) w_M_give ini_M d_M_cellOf_260 rfl (z_goV (As := [.long 0, .int (nI m)]) C l_M_246 w_M_give d_M_cellOf_260 (by omega) rfl rfl rfl) (Nat.le_of_ble_eq_true rfl) (by rw [hR]; simp only [zRm]; omega) (by rw [hR]; simp only [zRm]; omega) (by rw [hR]; simp only [zRm]; omega) (by rw [hR]; simp only [zRm]; omega) (fun v n' σ' hv => ?_) (fun x n' σ' hv => ?_)
  rotate_left
  · cases hv.1
  obtain ⟨e0, e1, rfl⟩ := hv
  cases e0
  obtain rfl : n = n' := e1.symm
  have hput := (hq1.mk (r := (AR a).1) (c := (AR a).2.1) (p := (AR a).1 * (AR a).2.1) (ct := fun j => L 104 (40 * a + j)) (src := fun j => L 104 (40 * a + j)) (r32 := (nI (AR a).1).toInt64.toInt32) (c32 := (nI (AR a).2.1).toInt64.toInt32) (by rw [nI_l (by omega), lN_i]) (by rw [nI_l (by omega), lN_i]) r40 c40 rc40 rfl (fun _ _ => rfl)).upds
  exact z_vret C rfl d_M_cellOf_263 (by rw [hpo]; exact ⟨rfl, rfl, _, _, _, rfl, mQ_put c5 hput hlt (by omega) rct⟩) (by rw [hmc]; omega) (by rw [hms]; omega)
theorem c_M_cellOf_83 {i j x : Int64 × Int32} (hn : 113 ≤ n) (hq : mQ S0 A0 L0 ((nd, dn) :: pl, x :: j :: i :: vs, dp, EV, m, AR, k) S A L) (hnd : nd < 1350) (h87 : A0 87 nd = nI 8) (h90 : A0 90 nd = nI 3) (h88 : A0 88 nd = nI v0) (hv20 : v0 < 20) (hea : (EV dp v0).2 = nI a) (ham : a < m) : MetZ G l y_M_cellOf b_M_cellOf 11 none [] 1 0 0 [.ref 85, .int (nI nd)] n (mOv S A L rn σ) (mGp S0 A0 L0 rn σ n (gPu a i.1 j.1 x.1 pl vs dp EV m AR k)) := by
  obtain ⟨h19, h36, h33, h32, l1, l2, l3, l4⟩ := hq.lims
  have h36 : S 36 = nI (vs.length + 3) := h36
  have l3 : vs.length + 3 + (pl.length + 1) ≤ 400 := l3
  have hb := hq.2.2.2.2.2.2.2.2.1
  have hA : A 88 nd = nI v0 := by rw [hb 88 (by decide)]; exact h88
  have hA7 : A 87 nd = nI 8 := by rw [hb 87 (by decide)]; exact h87
  have hA0 : A 90 nd = nI 3 := by rw [hb 90 (by decide)]; exact h90
  have hE : A 108 (20 * dp + v0) = nI a := by rw [(hq.2.2.2.2.2.1 dp (by omega) v0 hv20).2]; exact hea
  obtain ⟨r105, r106, r40, c40, rc40, rct⟩ := hq.2.2.2.2.2.2.1 a ham
  have r105 : A 105 a = nI (AR a).1 := r105
  have r106 : A 106 a = nI (AR a).2.1 := r106
  have r40 : (AR a).1 ≤ 40 := r40
  have c40 : (AR a).2.1 ≤ 40 := c40
  have rc40 : (AR a).1 * (AR a).2.1 ≤ 40 := rc40
  obtain ⟨hvx, -, hvj, -, hvi, -, -⟩ := hq.2.2.2.2.1
  have hvi : L 109 vs.length = i.1 := hvi
  have hvj : L 109 (vs.length + 1) = j.1 := hvj
  have hvx : L 109 (vs.length + 2) = x.1 := hvx
  have hq1 : mQ S0 A0 L0 ((nd, dn) :: pl, vs, dp, EV, m, AR, k) (upd S 36 (nI vs.length)) A L := hq.pop 3
  have e36 : S 36 - nI 3 = nI vs.length := by rw [h36]; exact nI_subc vs.length 3
  unfold gPu
  refine MetZ.of (by decide) (Nat.le_of_ble_eq_true rfl) (fun K hK hR hpo hmc hms C => ?_)
  have flt : ¬ aInD (AR a) i.1 (j.1) = true → Z G K n (mOv (upd S 36 (nI vs.length)) A L rn σ) 0 0 150 [(7, .long (j.1)), (6, .int 1), (4, .long i.1), (3, .int (nI a)), (2, .int 1), (0, .ref 85), (1, .int (nI nd))] [] := fun w => by
    rw [if_neg w] at hpo
    refine z_aload_n C 151 d_M_cellOf_150 rfl rfl ?_
    refine z_iconst C 152 d_M_cellOf_151 rfl 3 (by decide) ?_
    refine zm_puti C 155 p_M_222 d_M_cellOf_152 rfl hn (by decide) (rfl) rfl rfl ?_
    exact z_vret C rfl d_M_cellOf_155 (by rw [hpo]; exact ⟨rfl, rfl, _, _, _, rfl, hq1.fault 3⟩) (by rw [hmc]; omega) (by rw [hms]; omega)
  refine z_aload_n C 1 d_M_cellOf_0 rfl rfl ?_
  refine zm_get C 4 f_M_17 d_M_cellOf_1 rfl hn rfl ?_
  refine z_iload_n C 5 d_M_cellOf_4 rfl rfl ?_
  refine zm_iald C 6 nd d_M_cellOf_5 rfl hn (by decide) (by decide) (by decide) rfl (by show nd < 1350; omega) (by decide) ?_
  rw [hA7]
  refine z_bipush C 8 d_M_cellOf_6 rfl 8 (by decide) ?_
  refine z_icmp_ne C 11 15 d_M_cellOf_8 rfl (by decide) (fun h9 => absurd (show nI 8 = 8 from rfl) h9) (fun _ => ?_)
  refine z_iconst C 12 d_M_cellOf_11 rfl 1 (by decide) ?_
  refine z_goto C 16 d_M_cellOf_12 (by decide) ?_
  refine z_istore_n C 17 d_M_cellOf_16 rfl (by decide) ?_
  refine z_aload_n C 18 d_M_cellOf_17 rfl rfl ?_
  refine z_dup C 19 d_M_cellOf_18 rfl rfl ?_
  refine zm_get C 22 f_M_225 d_M_cellOf_19 rfl hn rfl ?_
  refine z_aload_n C 23 d_M_cellOf_22 rfl rfl ?_
  refine zm_get C 26 f_M_27 d_M_cellOf_23 rfl hn rfl ?_
  refine z_iload_n C 27 d_M_cellOf_26 rfl rfl ?_
  refine zm_iald C 28 nd d_M_cellOf_27 rfl hn (by decide) (by decide) (by decide) rfl (by show nd < 1350; omega) (by decide) ?_
  rw [hA0]
  refine z_isub C 29 d_M_cellOf_28 rfl ?_
  refine zm_puti C 32 p_M_225 d_M_cellOf_29 rfl hn (by decide) (rfl) rfl rfl ?_
  rw [e36]
  refine z_aload_n C 33 d_M_cellOf_32 rfl rfl ?_
  refine zm_get C 36 f_M_83 d_M_cellOf_33 rfl hn rfl ?_
  refine z_bipush C 38 d_M_cellOf_36 rfl 20 (by decide) ?_
  refine z_aload_n C 39 d_M_cellOf_38 rfl rfl ?_
  refine zm_get C 42 f_M_250 d_M_cellOf_39 rfl hn rfl ?_
  refine z_imul C 43 d_M_cellOf_42 rfl ?_
  refine z_aload_n C 44 d_M_cellOf_43 rfl rfl ?_
  refine zm_get C 47 f_M_21 d_M_cellOf_44 rfl hn rfl ?_
  refine z_iload_n C 48 d_M_cellOf_47 rfl rfl ?_
  refine zm_iald C 49 nd d_M_cellOf_48 rfl hn (by decide) (by decide) (by decide) rfl (by show nd < 1350; omega) (by decide) ?_
  rw [hA]
  refine z_iadd C 50 d_M_cellOf_49 rfl ?_
  refine zm_iald C 51 (20*dp+v0) d_M_cellOf_50 rfl hn (by decide) (by decide) (by decide) (by rw [show upd S 36 (nI vs.length) 33 = nI dp from h33]; exact nI_20 dp v0) (by show 20 * dp + v0 < 160; omega) (by decide) ?_
  rw [hE]
  refine z_istore_n C 52 d_M_cellOf_51 rfl (by decide) ?_
  refine z_aload_n C 53 d_M_cellOf_52 rfl rfl ?_
  refine zm_get C 56 f_M_86 d_M_cellOf_53 rfl hn rfl ?_
  refine z_aload_n C 57 d_M_cellOf_56 rfl rfl ?_
  refine zm_get C 60 f_M_225 d_M_cellOf_57 rfl hn rfl ?_
  refine zm_lald C 61 vs.length d_M_cellOf_60 rfl hn (by decide) (by decide) (by decide) rfl (by show vs.length < 400; omega) (by decide) ?_
  rw [hvi]
  refine z_lstore C 63 d_M_cellOf_61 rfl (by decide) ?_
  refine z_aload_n C 64 d_M_cellOf_63 rfl rfl ?_
  refine zm_get C 67 f_M_27 d_M_cellOf_64 rfl hn rfl ?_
  refine z_iload_n C 68 d_M_cellOf_67 rfl rfl ?_
  refine zm_iald C 69 nd d_M_cellOf_68 rfl hn (by decide) (by decide) (by decide) rfl (by show nd < 1350; omega) (by decide) ?_
  rw [hA0]
  refine z_iload_n C 70 d_M_cellOf_69 rfl rfl ?_
  refine z_if_eq C 73 77 d_M_cellOf_70 rfl (by decide) (fun h9 => absurd h9 (show ¬ (1 : Int32) = 0 by decide)) (fun _ => ?_)
  refine z_iconst C 74 d_M_cellOf_73 rfl 3 (by decide) ?_
  refine z_goto C 78 d_M_cellOf_74 (by decide) ?_
  refine z_icmp_ne C 81 85 d_M_cellOf_78 rfl (by decide) (fun h9 => absurd (show nI 3 = 3 from rfl) h9) (fun _ => ?_)
  refine z_iconst C 82 d_M_cellOf_81 rfl 1 (by decide) ?_
  refine z_goto C 86 d_M_cellOf_82 (by decide) ?_
  refine z_istore C 88 d_M_cellOf_86 rfl (by decide) ?_
  refine z_iload C 90 d_M_cellOf_88 rfl rfl ?_
  refine z_if_eq C 93 107 d_M_cellOf_90 rfl (by decide) (fun h9 => absurd h9 (show ¬ (1 : Int32) = 0 by decide)) (fun _ => ?_)
  refine z_aload_n C 94 d_M_cellOf_93 rfl rfl ?_
  refine zm_get C 97 f_M_86 d_M_cellOf_94 rfl hn rfl ?_
  refine z_aload_n C 98 d_M_cellOf_97 rfl rfl ?_
  refine zm_get C 101 f_M_225 d_M_cellOf_98 rfl hn rfl ?_
  refine z_iconst C 102 d_M_cellOf_101 rfl 1 (by decide) ?_
  refine z_iadd C 103 d_M_cellOf_102 rfl ?_
  refine zm_lald C 104 (vs.length+1) d_M_cellOf_103 rfl hn (by decide) (by decide) (by decide) (nI_1 vs.length) (by show vs.length + 1 < 400; omega) (by decide) ?_
  rw [hvj]
  refine z_goto C 108 d_M_cellOf_104 (by decide) ?_
  refine z_lstore C 110 d_M_cellOf_108 rfl (by decide) ?_
  refine z_lload C 112 d_M_cellOf_110 rfl rfl ?_
  refine z_lconst C 113 d_M_cellOf_112 rfl 0 (by decide) ?_
  refine z_lcmp C 114 d_M_cellOf_113 rfl ?_
  refine z_if_lt C 117 150 d_M_cellOf_114 rfl (by decide) (fun w1 => ?_) (fun w1 => ?_)
  · exact flt (fun w => absurd (aInD_iff.mp w).1 (Int64.not_le.mpr ((lg_cmp_lt _ _).mp w1)))
  have w1 : 0 ≤ i.1 := Int64.not_lt.mp (fun w => w1 ((lg_cmp_lt _ _).mpr w))
  refine z_lload C 119 d_M_cellOf_117 rfl rfl ?_
  refine z_aload_n C 120 d_M_cellOf_119 rfl rfl ?_
  refine zm_get C 123 f_M_74 d_M_cellOf_120 rfl hn rfl ?_
  refine z_iload_n C 124 d_M_cellOf_123 rfl rfl ?_
  refine zm_iald C 125 a d_M_cellOf_124 rfl hn (by decide) (by decide) (by decide) rfl (by show a < 402; omega) (by decide) ?_
  rw [r105]
  refine z_i2l C 126 d_M_cellOf_125 rfl ?_
  refine z_lcmp C 127 d_M_cellOf_126 rfl ?_
  refine z_if_ge C 130 150 d_M_cellOf_127 rfl (by decide) (fun w2 => ?_) (fun w2 => ?_)
  · exact flt (fun w => absurd (aInD_iff.mp w).2.1 (Int64.not_lt.mpr ((lg_cmp_ge _ _).mp w2)))
  have w2 : i.1 < (nI (AR a).1).toInt64 := Int64.not_le.mp (fun w => w2 ((lg_cmp_ge _ _).mpr w))
  refine z_lload C 132 d_M_cellOf_130 rfl rfl ?_
  refine z_lconst C 133 d_M_cellOf_132 rfl 0 (by decide) ?_
  refine z_lcmp C 134 d_M_cellOf_133 rfl ?_
  refine z_if_lt C 137 150 d_M_cellOf_134 rfl (by decide) (fun w3 => ?_) (fun w3 => ?_)
  · exact flt (fun w => absurd (aInD_iff.mp w).2.2.1 (Int64.not_le.mpr ((lg_cmp_lt _ _).mp w3)))
  have w3 : (0 : Int64) ≤ j.1 := Int64.not_lt.mp (fun w => w3 ((lg_cmp_lt _ _).mpr w))
  refine z_lload C 139 d_M_cellOf_137 rfl rfl ?_
  refine z_aload_n C 140 d_M_cellOf_139 rfl rfl ?_
  refine zm_get C 143 f_M_77 d_M_cellOf_140 rfl hn rfl ?_
  refine z_iload_n C 144 d_M_cellOf_143 rfl rfl ?_
  refine zm_iald C 145 a d_M_cellOf_144 rfl hn (by decide) (by decide) (by decide) rfl (by show a < 402; omega) (by decide) ?_
  rw [r106]
  refine z_i2l C 146 d_M_cellOf_145 rfl ?_
  refine z_lcmp C 147 d_M_cellOf_146 rfl ?_
  refine z_if_lt C 150 156 d_M_cellOf_147 rfl (by decide) (fun w4 => ?_) (fun w4 => ?_)
  rotate_left
  · exact flt (fun w => w4 ((lg_cmp_lt _ _).mpr (aInD_iff.mp w).2.2.2))
  have w4 : j.1 < (nI (AR a).2.1).toInt64 := (lg_cmp_lt _ _).mp w4
  have win : aInD (AR a) i.1 (j.1) = true := aInD_iff.mpr ⟨w1, w2, w3, w4⟩
  rw [if_pos win] at hpo
  obtain ⟨i', j', hi', hj', -, -, eix, hlt, e32⟩ := l_idx (r := (AR a).1) (c := (AR a).2.1) (ct := (AR a).2.2) win r40 c40
  have eix : aIdx (AR a) i.1 (j.1) = i' * (AR a).2.1 + j' := eix
  rw [eix] at hpo
  obtain ⟨ix, hix⟩ : ∃ x, i' * (AR a).2.1 + j' = x := ⟨_, rfl⟩
  rw [hix] at hpo hlt e32
  refine z_lload C 158 d_M_cellOf_156 rfl rfl ?_
  refine z_aload_n C 159 d_M_cellOf_158 rfl rfl ?_
  refine zm_get C 162 f_M_77 d_M_cellOf_159 rfl hn rfl ?_
  refine z_iload_n C 163 d_M_cellOf_162 rfl rfl ?_
  refine zm_iald C 164 a d_M_cellOf_163 rfl hn (by decide) (by decide) (by decide) rfl (by show a < 402; omega) (by decide) ?_
  rw [r106]
  refine z_i2l C 165 d_M_cellOf_164 rfl ?_
  refine z_lmul C 166 d_M_cellOf_165 rfl ?_
  refine z_lload C 168 d_M_cellOf_166 rfl rfl ?_
  refine z_ladd C 169 d_M_cellOf_168 rfl ?_
  refine z_l2i C 170 d_M_cellOf_169 rfl ?_
  rw [e32]
  refine z_istore C 172 d_M_cellOf_170 rfl (by decide) ?_
  refine z_iload_n C 173 d_M_cellOf_172 rfl rfl ?_
  refine z_if_ne C 176 194 d_M_cellOf_173 rfl (by decide) (fun _ => ?_) (fun h9 => absurd h9 (show ¬ (1 : Int32) = 0 by decide))
  refine z_aload_n C 195 d_M_cellOf_194 rfl rfl ?_
  refine z_aload_n C 196 d_M_cellOf_195 rfl rfl ?_
  refine zm_get C 199 f_M_74 d_M_cellOf_196 rfl hn rfl ?_
  refine z_iload_n C 200 d_M_cellOf_199 rfl rfl ?_
  refine zm_iald C 201 a d_M_cellOf_200 rfl hn (by decide) (by decide) (by decide) rfl (by show a < 402; omega) (by decide) ?_
  rw [r105]
  refine z_i2l C 202 d_M_cellOf_201 rfl ?_
  refine z_aload_n C 203 d_M_cellOf_202 rfl rfl ?_
  refine zm_get C 206 f_M_77 d_M_cellOf_203 rfl hn rfl ?_
  refine z_iload_n C 207 d_M_cellOf_206 rfl rfl ?_
  refine zm_iald C 208 a d_M_cellOf_207 rfl hn (by decide) (by decide) (by decide) rfl (by show a < 402; omega) (by decide) ?_
  rw [r106]
  refine z_i2l C 209 d_M_cellOf_208 rfl ?_
  refine z_iload_n C 210 d_M_cellOf_209 rfl rfl ?_
  have hprod : ((nI (AR a).1).toInt64 * (nI (AR a).2.1).toInt64).toInt32 = nI ((AR a).1 * (AR a).2.1) := by rw [nI_l (by omega), nI_l (by omega), lN_mul, lN_i]
  refine z_call C 213 (c_M_make (p := (AR a).1 * (AR a).2.1) (src := fun j => L 104 (40 * a + j)) hn (show upd S 36 (nI vs.length) 32 = nI m from h32) (by omega) hprod rc40 (Or.inr ⟨a, rfl, ham, fun _ _ => rfl⟩)) w_M_make ini_M d_M_cellOf_210 rfl (z_goV (As := [.long (nI (AR a).1).toInt64, .long (nI (AR a).2.1).toInt64, .int (nI a)]) C l_M_242 w_M_make d_M_cellOf_210 (by omega) rfl rfl rfl) (Nat.le_of_ble_eq_true rfl) (by rw [hR]; simp only [zRm]; omega) (by rw [hR]; simp only [zRm]; omega) (by rw [hR]; simp only [zRm]; omega) (by rw [hR]; simp only [zRm]; omega) (fun v n' σ' hv => ?_) (fun x n' σ' hv => ?_)
  rotate_left
  · cases hv.1
  obtain ⟨e0, e1, rfl⟩ := hv
  cases e0
  obtain rfl : n = n' := e1.symm
  refine z_istore C 215 d_M_cellOf_213 rfl (by decide) ?_
  refine z_aload_n C 216 d_M_cellOf_215 rfl rfl ?_
  refine zm_get C 219 f_M_70 d_M_cellOf_216 rfl hn rfl ?_
  refine z_bipush C 221 d_M_cellOf_219 rfl 40 (by decide) ?_
  refine z_iload C 223 d_M_cellOf_221 rfl rfl ?_
  refine z_imul C 224 d_M_cellOf_223 rfl ?_
  refine z_iload C 226 d_M_cellOf_224 rfl rfl ?_
  refine z_iadd C 227 d_M_cellOf_226 rfl ?_
  refine z_aload_n C 228 d_M_cellOf_227 rfl rfl ?_
  refine zm_get C 231 f_M_86 d_M_cellOf_228 rfl hn rfl ?_
  refine z_aload_n C 232 d_M_cellOf_231 rfl rfl ?_
  refine zm_get C 235 f_M_225 d_M_cellOf_232 rfl hn rfl ?_
  refine z_aload_n C 236 d_M_cellOf_235 rfl rfl ?_
  refine zm_get C 239 f_M_27 d_M_cellOf_236 rfl hn rfl ?_
  refine z_iload_n C 240 d_M_cellOf_239 rfl rfl ?_
  refine zm_iald C 241 nd d_M_cellOf_240 rfl hn (by decide) (by decide) (by decide) rfl (by show nd < 1350; omega) (by decide) ?_
  rw [show rMk m (nI (AR a).1).toInt64.toInt32 (nI (AR a).2.1).toInt64.toInt32 A 90 nd = nI 3 from hA0]
  refine z_iadd C 242 d_M_cellOf_241 rfl ?_
  refine z_iconst C 243 d_M_cellOf_242 rfl 1 (by decide) ?_
  refine z_isub C 244 d_M_cellOf_243 rfl ?_
  refine zm_lald C 245 (vs.length + 2) d_M_cellOf_244 rfl hn (by decide) (by decide) (by decide) (by show nI vs.length + nI 3 - 1 = _; rw [nI_add]; exact nI_p1 (vs.length + 2)) (by show vs.length + 2 < 400; omega) (by decide) ?_
  rw [show (va_up L 104 (mkC (L 104) m ((AR a).1 * (AR a).2.1) fun j => L 104 (40 * a + j))) 109 (vs.length + 2) = x.1 from hvx]
  refine zm_last C 246 (40 * m + ix) d_M_cellOf_245 rfl hn (by decide) (by decide) (by decide) (nI_40 m ix) (by show 40 * m + ix < 16080; omega) (by decide) ?_
  rw [va_up_self, va_up2]
  have c5 : S 43 = k.2.2.2.2 := hq.2.2.1.2.2.2.2
  refine z_aload_n C 247 d_M_cellOf_246 rfl rfl ?_
  refine z_dup C 248 d_M_cellOf_247 rfl rfl ?_
  refine zm_get C 251 f_M_253 d_M_cellOf_248 rfl hn rfl ?_
  refine z_iconst C 252 d_M_cellOf_251 rfl 1 (by decide) ?_
  refine z_iadd C 253 d_M_cellOf_252 rfl ?_
  refine zm_puti C 256 p_M_253 d_M_cellOf_253 rfl hn (by decide) (rfl) rfl rfl ?_
  refine z_aload_n C 257 d_M_cellOf_256 rfl rfl ?_
  refine z_lconst C 258 d_M_cellOf_257 rfl 0 (by decide) ?_
  refine z_iload C 260 d_M_cellOf_258 rfl rfl ?_
  have g19 : (upd (upd (upd S 36 (nI vs.length)) 32 (nI (m + 1))) 43 (S 43 + 1)) 19 = nI (pl.length + 1) := h19
  have g36 : (upd (upd (upd S 36 (nI vs.length)) 32 (nI (m + 1))) 43 (S 43 + 1)) 36 = nI vs.length := rfl
  refine z_call C 263 (c_M_give (o := pl.length) (v := vs.length) hn g19 g36 (by omega) 0 (nI m)) w_M_give ini_M d_M_cellOf_260 rfl (z_goV (As := [.long 0, .int (nI m)]) C l_M_246 w_M_give d_M_cellOf_260 (by omega) rfl rfl rfl) (Nat.le_of_ble_eq_true rfl) (by rw [hR]; simp only [zRm]; omega) (by rw [hR]; simp only [zRm]; omega) (by rw [hR]; simp only [zRm]; omega) (by rw [hR]; simp only [zRm]; omega) (fun v n' σ' hv => ?_) (fun x n' σ' hv => ?_)
  rotate_left
  · cases hv.1
  obtain ⟨e0, e1, rfl⟩ := hv
  cases e0
  obtain rfl : n = n' := e1.symm
  have hput := (hq1.mk (r := (AR a).1) (c := (AR a).2.1) (p := (AR a).1 * (AR a).2.1) (ct := fun j => L 104 (40 * a + j)) (src := fun j => L 104 (40 * a + j)) (r32 := (nI (AR a).1).toInt64.toInt32) (c32 := (nI (AR a).2.1).toInt64.toInt32) (by rw [nI_l (by omega), lN_i]) (by rw [nI_l (by omega), lN_i]) r40 c40 rc40 rfl (fun _ _ => rfl)).upds
  exact z_vret C rfl d_M_cellOf_263 (by rw [hpo]; exact ⟨rfl, rfl, _, _, _, rfl, mQ_put c5 hput hlt (by omega) rct⟩) (by rw [hmc]; omega) (by rw [hms]; omega)
theorem c_M_enter {V : mS} {g c : Nat} (hn : 113 ≤ n) (hq : mQ S0 A0 L0 ((nd, dn) :: pl, vs, dp, EV, m, AR, k) S A L) (hpl : pl.length + 1 < 80) (hnd : nd < 1350) (h88 : A0 88 nd = nI g) (hg : g < 8) (h93 : A0 93 g = nI c) (hc : c ≤ 4) (hcv : c ≤ vs.length) (hV : ∀ j, j < c → A0 95 (4 * g + j) = V j ∧ ∃ v, v < 20 ∧ V j = nI v) : MetZ G l y_M_enter b_M_enter 4 none [] 2 0 0 [.ref 85, .int (nI nd)] n (mOv S A L rn σ) (mGp S0 A0 L0 rn σ n (gEnter V g c ((nd, dn) :: pl) vs dp EV m AR k)) := by
  obtain ⟨h19, h36, h33, h32, l1, l2, l3, l4⟩ := hq.lims
  have hb := hq.2.2.2.2.2.2.2.2.1
  have hA : A 88 nd = nI g := by rw [hb 88 (by decide)]; exact h88
  have hA3 : A 93 g = nI c := by rw [hb 93 (by decide)]; exact h93
  unfold gEnter
  refine MetZ.of (by decide) (Nat.le_of_ble_eq_true rfl) (fun K hK hR hpo hmc hms C => ?_)
  refine z_aload_n C 1 d_M_enter_0 rfl rfl ?_
  refine zm_get C 4 f_M_21 d_M_enter_1 rfl hn rfl ?_
  refine z_iload_n C 5 d_M_enter_4 rfl rfl ?_
  refine zm_iald C 6 nd d_M_enter_5 rfl hn (by decide) (by decide) (by decide) rfl (by show nd < 1350; omega) (by decide) ?_
  rw [hA]
  refine z_istore_n C 7 d_M_enter_6 rfl (by decide) ?_
  refine z_aload_n C 8 d_M_enter_7 rfl rfl ?_
  refine zm_get C 11 f_M_250 d_M_enter_8 rfl hn rfl ?_
  refine z_bipush C 13 d_M_enter_11 rfl 7 (by decide) ?_
  by_cases q7 : dp = 7
  · rw [if_pos q7] at hpo
    refine z_icmp_ne C 16 22 d_M_enter_13 rfl (by decide) (fun h9 => absurd (show S 33 = 7 by rw [h33, q7]; rfl) h9) (fun _ => ?_)
    refine z_aload_n C 17 d_M_enter_16 rfl rfl ?_
    refine z_iconst C 18 d_M_enter_17 rfl 5 (by decide) ?_
    refine zm_puti C 21 p_M_222 d_M_enter_18 rfl hn (by decide) (rfl) rfl rfl ?_
    exact z_vret C rfl d_M_enter_21 (by rw [hpo]; exact ⟨rfl, rfl, _, _, _, rfl, hq.fault 5⟩) (by rw [hmc]; omega) (by rw [hms]; omega)
  rw [if_neg q7] at hpo
  refine z_icmp_ne C 16 22 d_M_enter_13 rfl (by decide) (fun _ => ?_) (fun h9 => absurd (show nI dp = nI 7 from h33.symm.trans h9) (fun w => q7 (nI_inj (by omega) (by omega) w)))
  obtain ⟨w, hw⟩ : ∃ x, vs.drop c = x := ⟨_, rfl⟩
  have hlen : vs.length = w.length + c := by rw [← hw, List.length_drop]; omega
  have hq1 := (hq.depth (dp + 1) (by omega)).pop c
  rw [hw] at hq1
  rw [hw] at hpo
  refine z_aload_n C 23 d_M_enter_22 rfl rfl ?_
  refine z_dup C 24 d_M_enter_23 rfl rfl ?_
  refine zm_get C 27 f_M_250 d_M_enter_24 rfl hn rfl ?_
  refine z_iconst C 28 d_M_enter_27 rfl 1 (by decide) ?_
  refine z_iadd C 29 d_M_enter_28 rfl ?_
  refine zm_puti C 32 p_M_250 d_M_enter_29 rfl hn (by decide) (rfl) rfl rfl ?_
  refine z_aload_n C 33 d_M_enter_32 rfl rfl ?_
  refine z_dup C 34 d_M_enter_33 rfl rfl ?_
  refine zm_get C 37 f_M_225 d_M_enter_34 rfl hn rfl ?_
  refine z_aload_n C 38 d_M_enter_37 rfl rfl ?_
  refine zm_get C 41 f_M_37 d_M_enter_38 rfl hn rfl ?_
  refine z_iload_n C 42 d_M_enter_41 rfl rfl ?_
  rw [h33, nI_1]
  refine zm_iald C 43 g d_M_enter_42 rfl hn (by decide) (by decide) (by decide) rfl (by show g < 9; omega) (by decide) ?_
  rw [hA3]
  refine z_isub C 44 d_M_enter_43 rfl ?_
  refine zm_puti C 47 p_M_225 d_M_enter_44 rfl hn (by decide) (rfl) rfl rfl ?_
  rw [show upd S 33 (nI (dp + 1)) 36 - nI c = nI w.length from (show S 36 - nI c = nI w.length by rw [h36, hlen]; exact nI_subc w.length c)]
  obtain ⟨S1, hS1⟩ : ∃ x, x = upd (upd S 33 (nI (dp + 1))) 36 (nI w.length) := ⟨_, rfl⟩
  rw [← hS1] at hq1 ⊢
  have g33 : S1 33 = nI (dp + 1) := by rw [hS1]; rfl
  have g36 : S1 36 = nI w.length := by rw [hS1]; rfl
  have loop : ∀ (q j : Nat) (EV' : gE) (A' : mA) (L' : mL), q + j = c → mQ S0 A0 L0 ((nd, dn) :: pl, w, dp + 1, EV', m, AR, k) S1 A' L' → A' 110 = A 110 → L' 109 = L 109 → gArgs V (dp + 1) (fun j => vs.getD (c - 1 - j) (0, 0)) q j EV' = gArgs V (dp + 1) (fun j => vs.getD (c - 1 - j) (0, 0)) c 0 EV → Z G K n (mOv S1 A' L' rn σ) 0 0 49 [(3, .int (nI j)), (2, .int (nI g)), (0, .ref 85), (1, .int (nI nd))] [] := fun q => by
    induction q with
    | zero =>
      intro j EV' A' L' hj hq2 a110 b109 hga
      obtain rfl : j = c := by omega
      have hA3' : A' 93 g = nI j := by rw [hq2.2.2.2.2.2.2.2.2.1 93 (by decide)]; exact h93
      refine z_iload_n C 50 d_M_enter_49 rfl rfl ?_
      refine z_aload_n C 51 d_M_enter_50 rfl rfl ?_
      refine zm_get C 54 f_M_37 d_M_enter_51 rfl hn rfl ?_
      refine z_iload_n C 55 d_M_enter_54 rfl rfl ?_
      refine zm_iald C 56 g d_M_enter_55 rfl hn (by decide) (by decide) (by decide) rfl (by show g < 9; omega) (by decide) ?_
      rw [hA3']
      refine z_icmp_ge C 59 85 d_M_enter_56 rfl (by decide) (fun _ => ?_) (fun h9 => absurd ((nI_leI (a := j) (b := j) (by omega) (by omega)).mpr (Nat.le_refl _)) h9)
      refine z_aload_n C 86 d_M_enter_85 rfl rfl ?_
      refine z_sipush C 89 d_M_enter_86 rfl 150 (by decide) ?_
      refine z_iload_n C 90 d_M_enter_89 rfl rfl ?_
      refine z_imul C 91 d_M_enter_90 rfl ?_
      rw [show (150 : Int32) * nI g = nI (150 * g) from nI_mul 150 g]
      refine z_call C 94 (c_M_startQ hn hq2 (show pl.length + 1 < 80 from hpl)) w_M_start ini_M d_M_enter_91 rfl (z_goV (As := [.int (nI (150 * g))]) C l_M_259 w_M_start d_M_enter_91 (by omega) rfl rfl rfl) (Nat.le_of_ble_eq_true rfl) (by rw [hR]; simp only [zRm]; omega) (by rw [hR]; simp only [zRm]; omega) (by rw [hR]; simp only [zRm]; omega) (by rw [hR]; simp only [zRm]; omega) (fun v n' σ' hv => ?_) (fun x n' σ' hv => ?_)
      rotate_left
      · cases hv.1
      obtain ⟨e0, e1, S', A3, L3, rfl, hx⟩ := hv
      cases e0
      obtain rfl : n = n' := e1.symm
      exact z_vret C rfl d_M_enter_94 (by rw [hpo]; exact ⟨rfl, rfl, _, _, _, rfl, by rw [← hga]; exact hx⟩) (by rw [hmc]; omega) (by rw [hms]; omega)
    | succ q ih =>
      intro j EV' A' L' hj hq2 a110 b109 hga
      have hb2 := hq2.2.2.2.2.2.2.2.2.1
      have hA3' : A' 93 g = nI c := by rw [hb2 93 (by decide)]; exact h93
      obtain ⟨hVj, vj, hvj, evj⟩ := hV j (by omega)
      have hA5' : A' 95 (4 * g + j) = nI vj := by rw [hb2 95 (by decide), hVj]; exact evj
      have hxj : cIx (V j) = vj := by rw [evj]; exact nI_clamp (by omega)
      refine z_iload_n C 50 d_M_enter_49 rfl rfl ?_
      refine z_aload_n C 51 d_M_enter_50 rfl rfl ?_
      refine zm_get C 54 f_M_37 d_M_enter_51 rfl hn rfl ?_
      refine z_iload_n C 55 d_M_enter_54 rfl rfl ?_
      refine zm_iald C 56 g d_M_enter_55 rfl hn (by decide) (by decide) (by decide) rfl (by show g < 9; omega) (by decide) ?_
      rw [hA3']
      refine z_icmp_ge C 59 85 d_M_enter_56 rfl (by decide) (fun h9 => absurd h9 (fun w => absurd ((nI_leI (a := c) (b := j) (by omega) (by omega)).mp w) (by omega))) (fun _ => ?_)
      refine z_aload_n C 60 d_M_enter_59 rfl rfl ?_
      refine z_aload_n C 61 d_M_enter_60 rfl rfl ?_
      refine zm_get C 64 f_M_43 d_M_enter_61 rfl hn rfl ?_
      refine z_iconst C 65 d_M_enter_64 rfl 4 (by decide) ?_
      refine z_iload_n C 66 d_M_enter_65 rfl rfl ?_
      refine z_imul C 67 d_M_enter_66 rfl ?_
      refine z_iload_n C 68 d_M_enter_67 rfl rfl ?_
      refine z_iadd C 69 d_M_enter_68 rfl ?_
      refine zm_iald C 70 (4*g+j) d_M_enter_69 rfl hn (by decide) (by decide) (by decide) (nI_4 g j) (by show 4 * g + j < 36; omega) (by decide) ?_
      rw [hA5']
      refine z_aload_n C 71 d_M_enter_70 rfl rfl ?_
      refine zm_get C 74 f_M_225 d_M_enter_71 rfl hn rfl ?_
      refine z_iload_n C 75 d_M_enter_74 rfl rfl ?_
      refine z_iadd C 76 d_M_enter_75 rfl ?_
      rw [g36, nI_add]
      refine z_call C 79 (c_M_hold hn g33 (by omega) hvj (by omega)) w_M_hold ini_M d_M_enter_76 rfl (z_goV (As := [.int (nI vj), .int (nI (w.length + j))]) C l_M_256 w_M_hold d_M_enter_76 (by omega) rfl rfl rfl) (Nat.le_of_ble_eq_true rfl) (by rw [hR]; simp only [zRm]; omega) (by rw [hR]; simp only [zRm]; omega) (by rw [hR]; simp only [zRm]; omega) (by rw [hR]; simp only [zRm]; omega) (fun v n' σ' hv => ?_) (fun x n' σ' hv => ?_)
      rotate_left
      · cases hv.1
      obtain ⟨e0, e1, rfl⟩ := hv
      cases e0
      obtain rfl : n = n' := e1.symm
      have hat := mVal_at (j := c - 1 - j) hq.2.2.2.2.1 (show c - 1 - j < vs.length by omega)
      have hat : L 109 (vs.length - 1 - (c - 1 - j)) = _ ∧ A 110 (vs.length - 1 - (c - 1 - j)) = _ := hat
      rw [show vs.length - 1 - (c - 1 - j) = w.length + j by omega] at hat
      have hq3 := hq2.hold (v := vj) (x := (vs.getD (c - 1 - j) (0, 0)).1) (a := (vs.getD (c - 1 - j) (0, 0)).2) hvj
      rw [a110, b109, hat.1, hat.2]
      refine z_iinc C 82 d_M_enter_79 rfl (nI (j + 1)) rfl (z_inc j) (by decide) ?_
      refine z_goto C 49 d_M_enter_82 (by decide) ?_
      refine ih (j + 1) _ _ _ (by omega) hq3 ?_ ?_ ?_
      · exact a110
      · exact b109
      · rw [← hga]
        show _ = gArgs V (dp + 1) _ q (j + 1) (gHold EV' (dp + 1) (cIx (V j)) _)
        rw [hxj]
  refine z_iconst C 48 d_M_enter_47 rfl 0 (by decide) ?_
  refine z_istore_n C 49 d_M_enter_48 rfl (by decide) ?_
  exact loop c 0 EV A L (by omega) hq1 rfl rfl rfl
end MGC
