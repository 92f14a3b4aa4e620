/-! the reference's readFunction -/
def fKp (A0 A : mA) : Prop := ∀ a k, (a = 86 ∨ mKept a k) → A a k = A0 a k
def fSk (S0 S : mS) : Prop := ∀ k, k ≠ 4 → k ≠ 5 → k ≠ 12 → k ≠ 19 → S k = S0 k
def fIl (S0 : mS) (A0 : mA) (q : Nat) (S : mS) (A : mA) : Prop := S 4 = nI q ∧ S 5 = 1 ∧ fSk S0 S ∧ fKp A0 A
def fPr (A : mA) (k : Nat) (V P Y : mS) : Prop := A 93 8 = nI k ∧ ∀ j, j < k → A 95 (32 + j) = V j ∧ A 97 (32 + j) = P j ∧ A 96 (32 + j) = Y j
def fGd (S0 : mS) (A0 : mA) (a : rF) (S : mS) (A : mA) : Prop := S 5 = 0 ∧ S 12 = nI a.2.2.2.2.2.2.2.1 ∧ fSk S0 S ∧ fKp A0 A ∧ fPr A a.2.1 a.2.2.1 a.2.2.2.1 a.2.2.2.2.1 ∧ A 94 8 = a.2.2.2.2.2.1 ∧ tT A a.2.2.2.2.2.2.2.2.2 8 0 a.2.2.2.2.2.2.2.1
/-- the text, as the reference has it -/
def fTz (z : Nat) (S0 : mS) (A0 : mA) : Prop := S0 2 = nI z ∧ z ≤ 150 ∧ ∀ i, i < 150 → narrow .char (.int (A0 86 i)) = .int (A0 86 i)
def rdB2 (T : Nat → Int32) (z : Nat) (f : Int32) (A : mA) (E : Nat → eN) (k : Nat) (V P Y : mS) (p : Nat) : Nat ⊕ rF :=
  if 48 ≤ rlk T z p ∧ rlk T z p ≤ 50 then
    (if rlk T z (p + 1) = 61 then
      (match rdE T z 8 (p + 2, 0, A, E) with
       | .inl x => .inl x
       | .inr s => if s.1 = z then .inr (f, k, V, P, Y, rlk T z p - 48, s) else .inl s.1)
     else .inl (p + 1))
  else .inl p
theorem rdB_2 {T : Nat → Int32} {z : Nat} {f : Int32} {A : mA} {E : Nat → eN} {k p : Nat} {V P Y : mS} : rdB T z f A E (p, k, V, P, Y) = if rlk T z p = 41 then rdB2 T z f A E k V P Y (p + 1) else .inl p := rfl
section MRF
variable {G : zG} {K : zK} {n : Nat} {σ : zS} {S0 S : mS} {A0 A : mA} {L : mL} {rn : Int64} {z q : Nat} {f : Int32} {lv : List (Nat × Value)}
theorem fTx {p : Nat} (ht : fTz z S0 A0) (h4 : S 4 = nI p) (hs : fSk S0 S) (hk : fKp A0 A) (hp : p ≤ 150) : mTx S A p z := ⟨h4, (hs 2 (by decide) (by decide) (by decide) (by decide)).trans ht.1, ht.2.1, hp, fun i hi => by rw [hk 86 i (Or.inl rfl)]; exact ht.2.2 i hi⟩
theorem fSk.up {k : Nat} {x : Int32} (h : fSk S0 S) (hk : k = 4 ∨ k = 5 ∨ k = 12 ∨ k = 19) : fSk S0 (upd S k x) := fun j a b c d => (upd_ne (by omega)).trans (h j a b c d)
theorem fKp.up {a k : Nat} {x : Int32} (h : fKp A0 A) (hk : a ≠ 86 ∧ ¬ mKept a k) : fKp A0 (va_up A a (upd (A a) k x)) := fun b j hj => (vu_ne (by
    by_cases q1 : b = a
    · refine Or.inr (fun q2 => ?_)
      subst q1
      subst q2
      rcases hj with hj | hj
      · exact hk.1 hj
      · exact hk.2 hj
    · exact Or.inl q1)).trans (h b j hj)
theorem fIl.up (h : fIl S0 A0 q S A) : fIl S0 A0 q (upd S 5 1) A := ⟨(upd_ne (by decide)).trans h.1, rfl, h.2.2.1.up (by omega), h.2.2.2⟩
theorem mf_200 (C : zC G K y_M_readFunction b_M_readFunction 4 (some .int) []) (hn : 113 ≤ n) (hfr : 7 ≤ (kR K).frames) (hlo : 8 + (6 + 11) + 60 * 6 ≤ (kR K).locals) (ht : fTz z S0 A0) (hq : q ≤ 150) (l0 : zl lv 0 = some (.ref 85)) (l1 : zl lv 1 = some (.int f)) (h : fIl S0 A0 q S A) (kI : ∀ S' A' v, fIl S0 A0 q S' A' → kpo K (.returned (some (.int v))) n (mOv S' A' L rn σ)) : Z G K n (mOv S A L rn σ) 0 0 200 lv [] := by
  have fin : ∀ x : Int32, Z G K n (mOv S A L rn σ) 0 0 217 lv [.int x, .ref 85] := fun x => by
    refine z_call C 220 (c_M_want hn x) w_M_want ini_M d_M_readFunction_217 rfl (z_goV (As := [.int x]) C l_M_122 w_M_want d_M_readFunction_217 (by omega) rfl rfl rfl) (Nat.le_of_ble_eq_true rfl) (by omega) (by omega) (by omega) (by omega) (fun v n' σ' hv => ?_) (fun x n' σ' hv => ?_)
    rotate_left
    · cases hv.1
    obtain ⟨e0, e1, rfl⟩ := hv
    cases e0
    obtain rfl : n = n' := e1.symm
    refine z_iload_n C 221 d_M_readFunction_220 rfl l1 ?_
    by_cases q1 : x = 0
    · rw [if_pos q1]
      exact z_iret C rfl d_M_readFunction_221 (kI _ _ _ h.up) (by omega) (by omega)
    · rw [if_neg q1]
      exact z_iret C rfl d_M_readFunction_221 (kI _ _ _ h) (by omega) (by omega)
  refine z_aload_n C 201 d_M_readFunction_200 rfl l0 ?_
  refine z_aload_n C 202 d_M_readFunction_201 rfl l0 ?_
  refine zm_get C 205 f_M_108 d_M_readFunction_202 rfl hn rfl ?_
  refine z_aload_n C 206 d_M_readFunction_205 rfl l0 ?_
  refine zm_get C 209 f_M_111 d_M_readFunction_206 rfl hn rfl ?_
  refine z_icmp_ne C 212 216 d_M_readFunction_209 rfl (by decide) (fun _ => ?_) (fun _ => ?_)
  · refine z_iconst C 217 d_M_readFunction_216 rfl 0 (by decide) ?_
    exact fin 0
  · refine z_iconst C 213 d_M_readFunction_212 rfl 1 (by decide) ?_
    refine z_goto C 217 d_M_readFunction_213 (by decide) ?_
    exact fin 1
theorem mf_189 (C : zC G K y_M_readFunction b_M_readFunction 4 (some .int) []) (hn : 113 ≤ n) (hfr : 7 ≤ (kR K).frames) (hlo : 8 + (6 + 11) + 60 * 6 ≤ (kR K).locals) (ht : fTz z S0 A0) (hq : q ≤ 150) (l0 : zl lv 0 = some (.ref 85)) (l1 : zl lv 1 = some (.int f)) (h : fIl S0 A0 q S A) (kI : ∀ S' A' v, fIl S0 A0 q S' A' → kpo K (.returned (some (.int v))) n (mOv S' A' L rn σ)) : Z G K n (mOv S A L rn σ) 0 0 189 lv [] := by
  refine z_aload_n C 190 d_M_readFunction_189 rfl l0 ?_
  refine zm_get C 193 f_M_104 d_M_readFunction_190 rfl hn rfl ?_
  rw [h.2.1]
  refine z_if_ne C 196 200 d_M_readFunction_193 rfl (by decide) (fun _ => ?_) (fun h9 => absurd h9 (show ¬ (1 : Int32) = 0 by decide))
  exact mf_200 C hn hfr hlo ht hq l0 l1 h kI
theorem mf_179 (C : zC G K y_M_readFunction b_M_readFunction 4 (some .int) []) (hn : 113 ≤ n) (hfr : 7 ≤ (kR K).frames) (hlo : 8 + (6 + 11) + 60 * 6 ≤ (kR K).locals) (ht : fTz z S0 A0) (hq : q ≤ 150) (l0 : zl lv 0 = some (.ref 85)) (l1 : zl lv 1 = some (.int f)) (h : fIl S0 A0 q S A) (kI : ∀ S' A' v, fIl S0 A0 q S' A' → kpo K (.returned (some (.int v))) n (mOv S' A' L rn σ)) : Z G K n (mOv S A L rn σ) 0 0 179 lv [] := by
  have TK := c_M_takes (G := G) (l := kl K) (L := L) (rn := rn) (σ := σ) hn (fTx ht h.1 h.2.2.1 h.2.2.2 hq) 61
  rw [mlk_1 h.2.1, if_neg (show ¬ (0 : Int32) = 61 by decide), if_neg (show ¬ (0 : Int32) = 61 by decide)] at TK
  refine z_aload_n C 180 d_M_readFunction_179 rfl l0 ?_
  refine z_aload_n C 181 d_M_readFunction_180 rfl l0 ?_
  refine z_bipush C 183 d_M_readFunction_181 rfl 61 (by decide) ?_
  refine z_call C 186 TK w_M_takes ini_M d_M_readFunction_183 rfl (z_goV (As := [.int 61]) C l_M_140 w_M_takes d_M_readFunction_183 (by omega) rfl rfl rfl) (Nat.le_of_ble_eq_true rfl) (by omega) (by omega) (by omega) (by omega) (fun v n' σ' hv => ?_) (fun x n' σ' hv => ?_)
  rotate_left
  · cases hv.1
  obtain ⟨e0, e1, rfl⟩ := hv
  cases e0
  obtain rfl : n = n' := e1.symm
  refine z_call C 189 (c_M_want hn 0) w_M_want ini_M d_M_readFunction_186 rfl (z_goV (As := [.int 0]) C l_M_122 w_M_want d_M_readFunction_186 (by omega) rfl rfl rfl) (Nat.le_of_ble_eq_true rfl) (by omega) (by omega) (by omega) (by omega) (fun v n' σ' hv => ?_) (fun x n' σ' hv => ?_)
  rotate_left
  · cases hv.1
  obtain ⟨e0, e1, rfl⟩ := hv
  cases e0
  obtain rfl : n = n' := e1.symm
  rw [if_pos (show (0 : Int32) = 0 from rfl)]
  exact mf_189 C hn hfr hlo ht hq l0 l1 h.up kI
theorem mf_164 (C : zC G K y_M_readFunction b_M_readFunction 4 (some .int) []) (hn : 113 ≤ n) (hfr : 7 ≤ (kR K).frames) (hlo : 8 + (6 + 11) + 60 * 6 ≤ (kR K).locals) (ht : fTz z S0 A0) (hq : q ≤ 150) (l0 : zl lv 0 = some (.ref 85)) (l1 : zl lv 1 = some (.int f)) (h : fIl S0 A0 q S A) (kI : ∀ S' A' v, fIl S0 A0 q S' A' → kpo K (.returned (some (.int v))) n (mOv S' A' L rn σ)) : Z G K n (mOv S A L rn σ) 0 0 164 lv [] := by
  have LT := c_M_letter (G := G) (l := kl K) (L := L) (rn := rn) (σ := σ) hn (fTx ht h.1 h.2.2.1 h.2.2.2 hq) 48 50 (by decide)
  rw [mlk_1 h.2.1] at LT
  refine z_aload_n C 165 d_M_readFunction_164 rfl l0 ?_
  refine zm_get C 168 f_M_40 d_M_readFunction_165 rfl hn rfl ?_
  refine z_bipush C 170 d_M_readFunction_168 rfl 8 (by decide) ?_
  refine z_aload_n C 171 d_M_readFunction_170 rfl l0 ?_
  refine z_bipush C 173 d_M_readFunction_171 rfl 48 (by decide) ?_
  refine z_bipush C 175 d_M_readFunction_173 rfl 50 (by decide) ?_
  refine z_call C 178 LT w_M_letter ini_M d_M_readFunction_175 rfl (z_goV (As := [.int 48, .int 50]) C l_M_132 w_M_letter d_M_readFunction_175 (by omega) rfl rfl rfl) (Nat.le_of_ble_eq_true rfl) (by omega) (by omega) (by omega) (by omega) (fun v n' σ' hv => ?_) (fun x n' σ' hv => ?_)
  rotate_left
  · rcases hv with ⟨-, ⟨-, e0, -⟩ | ⟨-, e0, -⟩⟩ <;> cases e0
  obtain ⟨e1, hv⟩ := hv
  obtain rfl : n = n' := e1.symm
  obtain ⟨-, e0, rfl⟩ := hv.resolve_left (fun w => absurd w.1 (by decide))
  cases e0
  refine zm_iast C 179 8 d_M_readFunction_178 rfl hn (by decide) (by decide) (by decide) rfl (by decide) (by decide) ?_
  exact mf_179 C hn hfr hlo ht hq l0 l1 ⟨h.up.1, rfl, h.up.2.2.1, h.2.2.2.up ⟨by decide, by unfold mKept; omega⟩⟩ kI
theorem mf_154 (C : zC G K y_M_readFunction b_M_readFunction 4 (some .int) []) (hn : 113 ≤ n) (hfr : 7 ≤ (kR K).frames) (hlo : 8 + (6 + 11) + 60 * 6 ≤ (kR K).locals) (ht : fTz z S0 A0) (hq : q ≤ 150) (l0 : zl lv 0 = some (.ref 85)) (l1 : zl lv 1 = some (.int f)) (h : fIl S0 A0 q S A) (kI : ∀ S' A' v, fIl S0 A0 q S' A' → kpo K (.returned (some (.int v))) n (mOv S' A' L rn σ)) : Z G K n (mOv S A L rn σ) 0 0 154 lv [] := by
  have TK := c_M_takes (G := G) (l := kl K) (L := L) (rn := rn) (σ := σ) hn (fTx ht h.1 h.2.2.1 h.2.2.2 hq) 41
  rw [mlk_1 h.2.1, if_neg (show ¬ (0 : Int32) = 41 by decide), if_neg (show ¬ (0 : Int32) = 41 by decide)] at TK
  refine z_aload_n C 155 d_M_readFunction_154 rfl l0 ?_
  refine z_aload_n C 156 d_M_readFunction_155 rfl l0 ?_
  refine z_bipush C 158 d_M_readFunction_156 rfl 41 (by decide) ?_
  refine z_call C 161 TK w_M_takes ini_M d_M_readFunction_158 rfl (z_goV (As := [.int 41]) C l_M_140 w_M_takes d_M_readFunction_158 (by omega) rfl rfl rfl) (Nat.le_of_ble_eq_true rfl) (by omega) (by omega) (by omega) (by omega) (fun v n' σ' hv => ?_) (fun x n' σ' hv => ?_)
  rotate_left
  · cases hv.1
  obtain ⟨e0, e1, rfl⟩ := hv
  cases e0
  obtain rfl : n = n' := e1.symm
  refine z_call C 164 (c_M_want hn 0) w_M_want ini_M d_M_readFunction_161 rfl (z_goV (As := [.int 0]) C l_M_122 w_M_want d_M_readFunction_161 (by omega) rfl rfl rfl) (Nat.le_of_ble_eq_true rfl) (by omega) (by omega) (by omega) (by omega) (fun v n' σ' hv => ?_) (fun x n' σ' hv => ?_)
  rotate_left
  · cases hv.1
  obtain ⟨e0, e1, rfl⟩ := hv
  cases e0
  obtain rfl : n = n' := e1.symm
  rw [if_pos (show (0 : Int32) = 0 from rfl)]
  exact mf_164 C hn hfr hlo ht hq l0 l1 h.up kI
/-- behind the parameters -/
theorem mf_body (C : zC G K y_M_readFunction b_M_readFunction 4 (some .int) []) (hn : 113 ≤ n) (hfr : 7 ≤ (kR K).frames) (hlo : 8 + (6 + 11) + 60 * 6 ≤ (kR K).locals) (ht : fTz z S0 A0) {Ax : mA} {E : Nat → eN} {k p : Nat} {V P Y : mS} {res : Nat ⊕ rF} (hp : p ≤ z) (l0 : zl lv 0 = some (.ref 85)) (l1 : zl lv 1 = some (.int f)) (h4 : S 4 = nI p) (h5 : S 5 = 0) (h12 : S 12 = 0) (hs : fSk S0 S) (hk : fKp A0 A) (hpr : fPr A k V P Y) (hr : rdB2 (A0 86) z f Ax E k V P Y p = res)
    (kI : ∀ q, res = .inl q → ∀ S' A' v, fIl S0 A0 q S' A' → kpo K (.returned (some (.int v))) n (mOv S' A' L rn σ)) (kG : ∀ a, res = .inr a → ∀ S' A', fGd S0 A0 a S' A' → kpo K (.returned (some (.int f))) n (mOv S' A' L rn σ)) : Z G K n (mOv S A L rn σ) 0 0 164 lv [] := by
  have hz := ht.2.1
  have hA86 : ∀ A', fKp A0 A' → A' 86 = A0 86 := fun A' h => funext fun i => h 86 i (Or.inl rfl)
  have LT := c_M_letter (G := G) (l := kl K) (L := L) (rn := rn) (σ := σ) hn (fTx ht h4 hs hk (by omega)) 48 50 (by decide)
  rw [mlk_0 (hA86 A hk) h5] at LT
  unfold rdB2 at hr
  refine z_aload_n C 165 d_M_readFunction_164 rfl l0 ?_
  refine zm_get C 168 f_M_40 d_M_readFunction_165 rfl hn rfl ?_
  refine z_bipush C 170 d_M_readFunction_168 rfl 8 (by decide) ?_
  refine z_aload_n C 171 d_M_readFunction_170 rfl l0 ?_
  refine z_bipush C 173 d_M_readFunction_171 rfl 48 (by decide) ?_
  refine z_bipush C 175 d_M_readFunction_173 rfl 50 (by decide) ?_
  refine z_call C 178 LT w_M_letter ini_M d_M_readFunction_175 rfl (z_goV (As := [.int 48, .int 50]) C l_M_132 w_M_letter d_M_readFunction_175 (by omega) rfl rfl rfl) (Nat.le_of_ble_eq_true rfl) (by omega) (by omega) (by omega) (by omega) (fun v n' σ' hv => ?_) (fun x n' σ' hv => ?_)
  rotate_left
  · rcases hv with ⟨-, ⟨-, e0, -⟩ | ⟨-, e0, -⟩⟩ <;> cases e0
  obtain ⟨e1, hv⟩ := hv
  obtain rfl : n = n' := e1.symm
  by_cases q1 : 48 ≤ rlk (A0 86) z p ∧ rlk (A0 86) z p ≤ 50
  rotate_left
  · rw [if_neg q1] at hr
    obtain ⟨-, e0, rfl⟩ := hv.resolve_left (fun w => q1 w.1)
    cases e0
    refine zm_iast C 179 8 d_M_readFunction_178 rfl hn (by decide) (by decide) (by decide) rfl (by decide) (by decide) ?_
    exact mf_179 C hn hfr hlo ht (by omega) l0 l1 ⟨h4, rfl, hs.up (by omega), hk.up ⟨by decide, by unfold mKept; omega⟩⟩ (kI p hr.symm)
  rw [if_pos q1] at hr
  have hp1 : p < z := rlk_pos q1.1 (by decide)
  obtain ⟨-, e0, rfl⟩ := hv.resolve_right (fun w => w.1 q1)
  cases e0
  refine zm_iast C 179 8 d_M_readFunction_178 rfl hn (by decide) (by decide) (by decide) rfl (by decide) (by decide) ?_
  have hk1 : fKp A0 (va_up A 94 (upd (A 94) 8 (rlk (A0 86) z p - 48))) := hk.up ⟨by decide, by unfold mKept; omega⟩
  have hs1 : fSk S0 (upd S 4 (nI (p + 1))) := hs.up (by omega)
  have TK := c_M_takes (G := G) (l := kl K) (L := L) (rn := rn) (σ := σ) hn (fTx (p := p + 1) ht rfl hs1 hk1 (by omega)) 61
  rw [mlk_0 (hA86 _ hk1) (show (upd S 4 (nI (p + 1))) 5 = 0 from h5)] at TK
  refine z_aload_n C 180 d_M_readFunction_179 rfl l0 ?_
  refine z_aload_n C 181 d_M_readFunction_180 rfl l0 ?_
  refine z_bipush C 183 d_M_readFunction_181 rfl 61 (by decide) ?_
  refine z_call C 186 TK w_M_takes ini_M d_M_readFunction_183 rfl (z_goV (As := [.int 61]) C l_M_140 w_M_takes d_M_readFunction_183 (by omega) rfl rfl rfl) (Nat.le_of_ble_eq_true rfl) (by omega) (by omega) (by omega) (by omega) (fun v n' σ' hv => ?_) (fun x n' σ' hv => ?_)
  rotate_left
  · cases hv.1
  obtain ⟨e0, e1, rfl⟩ := hv
  obtain rfl : n = n' := e1.symm
  by_cases q2 : rlk (A0 86) z (p + 1) = 61
  rotate_left
  · rw [if_neg q2] at hr
    rw [if_neg q2] at e0 ⊢
    cases e0
    refine z_call C 189 (c_M_want hn 0) w_M_want ini_M d_M_readFunction_186 rfl (z_goV (As := [.int 0]) C l_M_122 w_M_want d_M_readFunction_186 (by omega) rfl rfl rfl) (Nat.le_of_ble_eq_true rfl) (by omega) (by omega) (by omega) (by omega) (fun v n' σ' hv => ?_) (fun x n' σ' hv => ?_)
    rotate_left
    · cases hv.1
    obtain ⟨e0, e1, rfl⟩ := hv
    cases e0
    obtain rfl : n = n' := e1.symm
    rw [if_pos (show (0 : Int32) = 0 from rfl)]
    exact mf_189 C hn hfr hlo ht (show p + 1 ≤ 150 by omega) l0 l1 ⟨rfl, rfl, hs1.up (by omega), hk1⟩ (kI (p + 1) hr.symm)
  rw [if_pos q2] at hr
  rw [if_pos q2] at e0 ⊢
  cases e0
  have hp2 : p + 1 < z := rlk_lt q2 (by decide)
  rw [show (upd S 4 (nI (p + 1))) 4 + 1 = nI (p + 2) from nI_1 _]
  have hs2 : fSk S0 (upd (upd S 4 (nI (p + 1))) 4 (nI (p + 2))) := hs1.up (by omega)
  refine z_call C 189 (c_M_want hn 1) w_M_want ini_M d_M_readFunction_186 rfl (z_goV (As := [.int 1]) C l_M_122 w_M_want d_M_readFunction_186 (by omega) rfl rfl rfl) (Nat.le_of_ble_eq_true rfl) (by omega) (by omega) (by omega) (by omega) (fun v n' σ' hv => ?_) (fun x n' σ' hv => ?_)
  rotate_left
  · cases hv.1
  obtain ⟨e0, e1, rfl⟩ := hv
  cases e0
  obtain rfl : n = n' := e1.symm
  rw [if_neg (show ¬ (1 : Int32) = 0 by decide)]
  refine z_aload_n C 190 d_M_readFunction_189 rfl l0 ?_
  refine zm_get C 193 f_M_104 d_M_readFunction_190 rfl hn rfl ?_
  refine z_if_ne C 196 200 d_M_readFunction_193 rfl (by decide) (fun h9 => absurd (show S 5 = 0 from h5) h9) (fun _ => ?_)
  refine z_aload_n C 197 d_M_readFunction_196 rfl l0 ?_
  have RX := c_M_readExpression (G := G) (l := kl K) (L := L) (rn := rn) (σ := σ) (n := n) (S0 := S0) (T := A0 86) (z := z) (S := upd (upd S 4 (nI (p + 1))) 4 (nI (p + 2))) (A := va_up A 94 (upd (A 94) 8 (rlk (A0 86) z p - 48))) (s := (p + 2, 0, va_up A 94 (upd (A 94) 8 (rlk (A0 86) z p - 48)), E)) hn ⟨rfl, h5, h12, rfl, fun k a b c d => (upd_ne d).trans (hs2 k a b c d), fun _ _ _ => rfl⟩ ⟨ht.1, hz, hp2, Nat.zero_le _, hA86 _ hk1, ht.2.2⟩
  refine z_call C 200 RX w_M_readExpression ini_M d_M_readFunction_197 rfl (z_goV (As := []) C l_M_159 w_M_readExpression d_M_readFunction_197 (by omega) rfl rfl rfl) (Nat.le_of_ble_eq_true rfl) (by omega) (by omega) (by omega) (by omega) (fun v n' σ' hv => ?_) (fun x n' σ' hv => ?_)
  rotate_left
  · cases hv.1
  obtain ⟨e0, e1, S3, A3, rfl, hv⟩ := hv
  obtain rfl : n = n' := e1.symm
  cases e0
  have sim := rdE_sim (T := A0 86) (z := z) 8 (p + 2, 0, va_up A 94 (upd (A 94) 8 (rlk (A0 86) z p - 48)), E) (p + 2, 0, Ax, E) ⟨rfl, rfl, rfl⟩
  cases hb : rdE (A0 86) z 8 (p + 2, 0, va_up A 94 (upd (A 94) 8 (rlk (A0 86) z p - 48)), E) with
  | inl x =>
    rw [hb] at hv sim
    have hxz := rdE_res (T := A0 86) (z := z) 8 (p + 2, 0, va_up A 94 (upd (A 94) 8 (rlk (A0 86) z p - 48)), E) hp2
    rw [hb] at hxz
    cases hb' : rdE (A0 86) z 8 (p + 2, 0, Ax, E) with
    | inr s => rw [hb'] at sim; exact False.elim sim
    | inl x' =>
      rw [hb'] at sim hr
      have sim : x = x' := sim
      subst sim
      obtain ⟨i1, i2, i3, i4⟩ := hv
      have hx2 : x ≤ z := hxz.2
      refine mf_200 C hn hfr hlo ht (show x ≤ 150 by omega) l0 l1 ⟨i1, i2, i3, fun a j hj => ?_⟩ (kI x hr.symm)
      refine (i4 a j ?_ ?_ ?_).trans (hk1 a j hj)
      · unfold mKept at hj; omega
      · unfold mKept at hj; omega
      · unfold mKept at hj; omega
  | inr b =>
    rw [hb] at hv sim
    have hxz := rdE_res (T := A0 86) (z := z) 8 (p + 2, 0, va_up A 94 (upd (A 94) 8 (rlk (A0 86) z p - 48)), E) hp2
    rw [hb] at hxz
    obtain ⟨tt, ka⟩ := rdE_tT hz 8 (p + 2, 0, va_up A 94 (upd (A 94) 8 (rlk (A0 86) z p - 48)), E) b hp2 hb
    cases hb' : rdE (A0 86) z 8 (p + 2, 0, Ax, E) with
    | inl x' => rw [hb'] at sim; exact False.elim sim
    | inr s =>
      rw [hb'] at sim hr
      obtain ⟨m1, m2, m3⟩ := sim
      have hr : (if s.1 = z then .inr (f, k, V, P, Y, rlk (A0 86) z p - 48, s) else .inl s.1) = res := hr
      obtain ⟨i4, i5, i12, i19, ik, iA⟩ := hv
      have hb2 : b.1 ≤ z := hxz.2.1
      have kA : ∀ a j, a ≠ 98 → a ≠ 99 → (a < 87 ∨ 91 < a ∨ j < 1200) → A3 a j = va_up A 94 (upd (A 94) 8 (rlk (A0 86) z p - 48)) a j := fun a j h1 h2 h3 => by
        rw [iA a h1 h2]
        exact ka a j (by show a < 87 ∨ 91 < a ∨ j < 1200 + 0; omega)
      have hk3 : fKp A0 A3 := fun a j hj => (kA a j (by unfold mKept at hj; omega) (by unfold mKept at hj; omega) (by unfold mKept at hj; omega)).trans (hk1 a j hj)
      refine z_aload_n C 201 d_M_readFunction_200 rfl l0 ?_
      refine z_aload_n C 202 d_M_readFunction_201 rfl l0 ?_
      refine zm_get C 205 f_M_108 d_M_readFunction_202 rfl hn rfl ?_
      rw [i4]
      refine z_aload_n C 206 d_M_readFunction_205 rfl l0 ?_
      refine zm_get C 209 f_M_111 d_M_readFunction_206 rfl hn rfl ?_
      rw [show S3 2 = nI z from (ik 2 (by decide) (by decide) (by decide) (by decide)).trans ht.1]
      by_cases q3 : s.1 = z
      · rw [if_pos q3] at hr
        refine z_icmp_ne C 212 216 d_M_readFunction_209 rfl (by decide) (fun h9 => absurd (show nI b.1 = nI z by rw [m1, q3]) h9) (fun _ => ?_)
        refine z_iconst C 213 d_M_readFunction_212 rfl 1 (by decide) ?_
        refine z_goto C 217 d_M_readFunction_213 (by decide) ?_
        refine z_call C 220 (c_M_want hn 1) w_M_want ini_M d_M_readFunction_217 rfl (z_goV (As := [.int 1]) C l_M_122 w_M_want d_M_readFunction_217 (by omega) rfl rfl rfl) (Nat.le_of_ble_eq_true rfl) (by omega) (by omega) (by omega) (by omega) (fun v n' σ' hv => ?_) (fun x n' σ' hv => ?_)
        rotate_left
        · cases hv.1
        obtain ⟨e0, e1, rfl⟩ := hv
        cases e0
        obtain rfl : n = n' := e1.symm
        rw [if_neg (show ¬ (1 : Int32) = 0 by decide)]
        refine z_iload_n C 221 d_M_readFunction_220 rfl l1 ?_
        refine z_iret C rfl d_M_readFunction_221 (kG _ hr.symm _ _ ⟨i5, ?_, ik, hk3, ⟨?_, fun j hj => ⟨?_, ?_, ?_⟩⟩, ?_, ?_⟩) (by omega) (by omega)
        · show S3 12 = nI s.2.1
          rw [i12, m2]
        · exact (kA 93 8 (by decide) (by decide) (by omega)).trans hpr.1
        · exact (kA 95 _ (by decide) (by decide) (by omega)).trans (hpr.2 j hj).1
        · exact (kA 97 _ (by decide) (by decide) (by omega)).trans (hpr.2 j hj).2.1
        · exact (kA 96 _ (by decide) (by decide) (by omega)).trans (hpr.2 j hj).2.2
        · refine (kA 94 8 (by decide) (by decide) (by omega)).trans ?_
          rw [va_up_self, upd_self]
        · show tT A3 s.2.2.2 8 0 s.2.1
          rw [← m2, ← m3]
          exact tT_same (fun q _ _ => ⟨rfl, fun a _ _ => by rw [iA a (by omega) (by omega)]⟩) tt
      · rw [if_neg q3] at hr
        refine z_icmp_ne C 212 216 d_M_readFunction_209 rfl (by decide) (fun _ => ?_) (fun h9 => absurd (nI_inj (by omega) (by omega) h9) (by rw [m1]; exact q3))
        refine z_iconst C 217 d_M_readFunction_216 rfl 0 (by decide) ?_
        refine z_call C 220 (c_M_want hn 0) w_M_want ini_M d_M_readFunction_217 rfl (z_goV (As := [.int 0]) C l_M_122 w_M_want d_M_readFunction_217 (by omega) rfl rfl rfl) (Nat.le_of_ble_eq_true rfl) (by omega) (by omega) (by omega) (by omega) (fun v n' σ' hv => ?_) (fun x n' σ' hv => ?_)
        rotate_left
        · cases hv.1
        obtain ⟨e0, e1, rfl⟩ := hv
        cases e0
        obtain rfl : n = n' := e1.symm
        rw [if_pos (show (0 : Int32) = 0 from rfl)]
        refine z_iload_n C 221 d_M_readFunction_220 rfl l1 ?_
        exact z_iret C rfl d_M_readFunction_221 (kI s.1 hr.symm _ _ _ ⟨by rw [← m1]; exact i4, rfl, fSk.up ik (by omega), hk3⟩) (by omega) (by omega)
end MRF
