/-! M: the reference's cells: its object is 85, its arrays 86 .. 112. S: its ints by their places; A: its arrays of ints, chars and booleans by their numbers; L: its arrays of longs; rn: resultNumber -/
abbrev mS : Type := Nat → Int32
abbrev mA : Type := Nat → Nat → Int32
abbrev mL : Type := Nat → Nat → Int64
def mF (S : mS) (rn : Int64) : List Value := [.int (S 0), .int (S 1), .int (S 2), .ref 86, .int (S 4), .int (S 5), .int (S 6), .ref 87, .ref 88, .ref 89, .ref 90, .ref 91, .int (S 12), .ref 92, .ref 93, .ref 94, .ref 95, .ref 96, .ref 97, .int (S 19), .ref 98, .ref 99, .ref 100, .ref 101, .ref 102, .ref 103, .int (S 26), .int (S 27), .int (S 28), .ref 104, .ref 105, .ref 106, .int (S 32), .int (S 33), .ref 107, .ref 108, .int (S 36), .ref 109, .ref 110, .int (S 39), .int (S 40), .int (S 41), .int (S 42), .int (S 43), .int (S 44), .ref 111, .int (S 46), .long rn, .int (S 48), .int (S 49), .ref 112]
def mTy (i : Nat) : Nat := match i with
  | 86 => 2
  | 92 => 3
  | 104 => 1
  | 107 => 1
  | 109 => 1
  | 111 => 1
  | 112 => 1
  | _ => 0
def mLen (i : Nat) : Nat := match i with
  | 86 => 150
  | 87 => 1350
  | 88 => 1350
  | 89 => 1350
  | 90 => 1350
  | 91 => 1350
  | 92 => 9
  | 93 => 9
  | 94 => 9
  | 95 => 36
  | 96 => 36
  | 97 => 36
  | 98 => 80
  | 99 => 80
  | 100 => 80
  | 101 => 80
  | 102 => 80
  | 103 => 20
  | 104 => 16080
  | 105 => 402
  | 106 => 402
  | 107 => 160
  | 108 => 160
  | 109 => 400
  | 110 => 400
  | 111 => 4
  | 112 => 40
  | _ => 0
def mOv (S : mS) (A : mA) (L : mL) (rn : Int64) (σ : zS) : zS := fun i => if i = 85 then .inr (8, mF S rn) else if i < 86 then σ i else if 113 ≤ i then σ i else if mTy i = 1 then .inl (1, mLen i, .inr (.inl (L i))) else .inl (mTy i, mLen i, .inl (A i))
theorem mOv_S (S S' : mS) (A : mA) (L : mL) (rn rn' : Int64) (σ : zS) : va_up (mOv S A L rn σ) 85 (.inr (8, mF S' rn')) = mOv S' A L rn' σ := by
  funext i
  unfold va_up mOv
  by_cases h : i = 85
  · simp [h]
  · simp [h]
theorem mOv_A (S : mS) (A : mA) (L : mL) (rn : Int64) (σ : zS) (a : Nat) (f : Nat → Int32) (h1 : 86 ≤ a) (h2 : a < 113) (h3 : mTy a ≠ 1) : va_up (mOv S A L rn σ) a (.inl (mTy a, mLen a, .inl f)) = mOv S (va_up A a f) L rn σ := by
  funext i
  unfold mOv
  by_cases h : i = a
  · subst h
    rw [va_up_self, va_up_self, if_neg (by omega), if_neg (by omega), if_neg (by omega), if_neg h3]
  · rw [va_up_ne _ _ h, va_up_ne _ _ h]
theorem mOv_L (S : mS) (A : mA) (L : mL) (rn : Int64) (σ : zS) (a : Nat) (f : Nat → Int64) (h1 : 86 ≤ a) (h2 : a < 113) (h3 : mTy a = 1) : va_up (mOv S A L rn σ) a (.inl (1, mLen a, .inr (.inl f))) = mOv S A (va_up L a f) rn σ := by
  funext i
  unfold mOv
  by_cases h : i = a
  · subst h
    rw [va_up_self, va_up_self, if_neg (by omega), if_neg (by omega), if_neg (by omega), if_pos h3]
  · rw [va_up_ne _ _ h, va_up_ne _ _ h]
theorem mOv_out (S : mS) (A : mA) (L : mL) (rn : Int64) (σ : zS) {i : Nat} (h : i < 85 ∨ 113 ≤ i) : mOv S A L rn σ i = σ i := by
  unfold mOv
  rcases h with h | h
  · rw [if_neg (by omega), if_pos (by omega)]
  · rw [if_neg (by omega), if_neg (by omega), if_pos h]
section MR
variable {G : zG} {K : zK} {y : MethodName} {cc : ByteArray} {nL : Nat} {ret : Option FieldType} {hs : List (Nat × Nat × Nat × Nat)} {n k1 k2 pc : Nat} {lv : List (Nat × Value)} {st : List Value} {S : mS} {A : mA} {L : mL} {rn : Int64} {σ : zS}
theorem zm_puti (C : zC G K y cc nL ret hs) (pc' : Nat) {idx fk : Nat} {ty : FieldType} {x : Int32} (hf : zP y.cls idx 8 fk ty) (hd : decode cc pc = .ok (.putfield idx, 3)) (hp : pc + 3 = pc') (hn : 113 ≤ n) (hl : fk < 51) (hna : narrow ty (.int x) = .int x) (hfit : fits ty (.int x) = true) (hset : (mF S rn).set fk (.int x) = mF (upd S fk x) rn)
    (k : Z G K n (mOv (upd S fk x) A L rn σ) k1 k2 pc' lv st) : Z G K n (mOv S A L rn σ) k1 k2 pc lv (.int x :: .ref 85 :: st) := by
  refine z_put C pc' (fs := mF S rn) hf hd hp (by omega) rfl hl hna hfit ?_
  rw [hset, mOv_S]
  exact k
theorem zm_putl (C : zC G K y cc nL ret hs) (pc' : Nat) {idx : Nat} {x : Int64} (hf : zP y.cls idx 8 47 .long) (hd : decode cc pc = .ok (.putfield idx, 3)) (hp : pc + 3 = pc') (hn : 113 ≤ n)
    (k : Z G K n (mOv S A L x σ) k1 k2 pc' lv st) : Z G K n (mOv S A L rn σ) k1 k2 pc lv (.long x :: .ref 85 :: st) := by
  refine z_put C pc' (fs := mF S rn) hf hd hp (by omega) rfl (by decide : 47 < 51) rfl rfl ?_
  rw [show (mF S rn).set 47 (.long x) = mF S x from rfl, mOv_S]
  exact k
theorem zm_at {a : Nat} (h1 : 86 ≤ a) (h2 : a < 113) (h3 : mTy a ≠ 1) : mOv S A L rn σ a = .inl (mTy a, mLen a, .inl (A a)) := by
  unfold mOv
  rw [if_neg (by omega), if_neg (by omega), if_neg (by omega), if_neg h3]
theorem zm_atL {a : Nat} (h1 : 86 ≤ a) (h2 : a < 113) (h3 : mTy a = 1) : mOv S A L rn σ a = .inl (1, mLen a, .inr (.inl (L a))) := by
  unfold mOv
  rw [if_neg (by omega), if_neg (by omega), if_neg (by omega), if_pos h3]
theorem zm_iast (C : zC G K y cc nL ret hs) (pc' : Nat) {a : Nat} {j x : Int32} (jn : Nat) (hd : decode cc pc = .ok (.iastore, 1)) (hp : pc + 1 = pc') (hn : 113 ≤ n) (h1 : 86 ≤ a) (h2 : a < 113) (h3 : mTy a = 0) (hj : j = nI jn) (hl : jn < mLen a) (hs : mLen a < 2 ^ 31)
    (k : Z G K n (mOv S (va_up A a (upd (A a) jn x)) L rn σ) k1 k2 pc' lv st) : Z G K n (mOv S A L rn σ) k1 k2 pc lv (.int x :: .int j :: .ref a :: st) := by
  refine z_iast C pc' jn hd hp (by omega) (by rw [zm_at h1 h2 (by rw [h3]; decide), h3]) hj hl hs ?_
  have e := mOv_A S A L rn σ a (upd (A a) jn x) h1 h2 (by rw [h3]; decide)
  rw [h3] at e
  rw [e]
  exact k
theorem zm_cast (C : zC G K y cc nL ret hs) (pc' : Nat) {j x : Int32} (jn : Nat) (x' : Int32) (hd : decode cc pc = .ok (.castore, 1)) (hp : pc + 1 = pc') (hn : 113 ≤ n) (hj : j = nI jn) (hl : jn < 150) (hx : vp_nar .char x = x')
    (k : Z G K n (mOv S (va_up A 86 (upd (A 86) jn x')) L rn σ) k1 k2 pc' lv st) : Z G K n (mOv S A L rn σ) k1 k2 pc lv (.int x :: .int j :: .ref 86 :: st) := by
  refine z_cast C pc' jn hd hp (by omega) rfl hj hl (by decide) x' hx ?_
  have e : va_up (mOv S A L rn σ) 86 (.inl (2, mLen 86, .inl (upd (A 86) jn x'))) = mOv S (va_up A 86 (upd (A 86) jn x')) L rn σ := mOv_A S A L rn σ 86 _ (by decide) (by decide) (by decide)
  rw [e]
  exact k
theorem zm_zast (C : zC G K y cc nL ret hs) (pc' : Nat) {j x : Int32} (jn : Nat) (x' : Int32) (hd : decode cc pc = .ok (.bastore, 1)) (hp : pc + 1 = pc') (hn : 113 ≤ n) (hj : j = nI jn) (hl : jn < 9) (hx : vp_nar .boolean x = x')
    (k : Z G K n (mOv S (va_up A 92 (upd (A 92) jn x')) L rn σ) k1 k2 pc' lv st) : Z G K n (mOv S A L rn σ) k1 k2 pc lv (.int x :: .int j :: .ref 92 :: st) := by
  refine z_zast C pc' jn hd hp (by omega) rfl hj hl (by decide) x' hx ?_
  have e : va_up (mOv S A L rn σ) 92 (.inl (3, mLen 92, .inl (upd (A 92) jn x'))) = mOv S (va_up A 92 (upd (A 92) jn x')) L rn σ := mOv_A S A L rn σ 92 _ (by decide) (by decide) (by decide)
  rw [e]
  exact k
theorem zm_last (C : zC G K y cc nL ret hs) (pc' : Nat) {a : Nat} {j : Int32} {x : Int64} (jn : Nat) (hd : decode cc pc = .ok (.lastore, 1)) (hp : pc + 1 = pc') (hn : 113 ≤ n) (h1 : 86 ≤ a) (h2 : a < 113) (h3 : mTy a = 1) (hj : j = nI jn) (hl : jn < mLen a) (hs : mLen a < 2 ^ 31)
    (k : Z G K n (mOv S A (va_up L a (vp_updL (L a) jn x)) rn σ) k1 k2 pc' lv st) : Z G K n (mOv S A L rn σ) k1 k2 pc lv (.long x :: .int j :: .ref a :: st) := by
  refine z_last C pc' jn hd hp (by omega) (zm_atL h1 h2 h3) hj hl hs ?_
  rw [mOv_L S A L rn σ a _ h1 h2 h3]
  exact k
theorem zm_iald (C : zC G K y cc nL ret hs) (pc' : Nat) {a : Nat} {j : Int32} (jn : Nat) (hd : decode cc pc = .ok (.iaload, 1)) (hp : pc + 1 = pc') (hn : 113 ≤ n) (h1 : 86 ≤ a) (h2 : a < 113) (h3 : mTy a = 0) (hj : j = nI jn) (hl : jn < mLen a) (hs : mLen a < 2 ^ 31)
    (k : Z G K n (mOv S A L rn σ) k1 k2 pc' lv (.int (A a jn) :: st)) : Z G K n (mOv S A L rn σ) k1 k2 pc lv (.int j :: .ref a :: st) :=
  z_iald C pc' jn hd hp (by omega) (by rw [zm_at h1 h2 (by rw [h3]; decide), h3]) hj hl hs k
theorem zm_lald (C : zC G K y cc nL ret hs) (pc' : Nat) {a : Nat} {j : Int32} (jn : Nat) (hd : decode cc pc = .ok (.laload, 1)) (hp : pc + 1 = pc') (hn : 113 ≤ n) (h1 : 86 ≤ a) (h2 : a < 113) (h3 : mTy a = 1) (hj : j = nI jn) (hl : jn < mLen a) (hs : mLen a < 2 ^ 31)
    (k : Z G K n (mOv S A L rn σ) k1 k2 pc' lv (.long (L a jn) :: st)) : Z G K n (mOv S A L rn σ) k1 k2 pc lv (.int j :: .ref a :: st) :=
  z_lald C pc' jn hd hp (by omega) (zm_atL h1 h2 h3) hj hl hs k
theorem zm_cald (C : zC G K y cc nL ret hs) (pc' : Nat) {j : Int32} (jn : Nat) (hd : decode cc pc = .ok (.caload, 1)) (hp : pc + 1 = pc') (hn : 113 ≤ n) (hj : j = nI jn) (hl : jn < 150)
    (k : Z G K n (mOv S A L rn σ) k1 k2 pc' lv (.int (A 86 jn) :: st)) : Z G K n (mOv S A L rn σ) k1 k2 pc lv (.int j :: .ref 86 :: st) :=
  z_cald C pc' jn hd hp (by omega) rfl hj hl (by decide) k
theorem zm_zald (C : zC G K y cc nL ret hs) (pc' : Nat) {j : Int32} (jn : Nat) (hd : decode cc pc = .ok (.baload, 1)) (hp : pc + 1 = pc') (hn : 113 ≤ n) (hj : j = nI jn) (hl : jn < 9)
    (k : Z G K n (mOv S A L rn σ) k1 k2 pc' lv (.int (A 92 jn) :: st)) : Z G K n (mOv S A L rn σ) k1 k2 pc lv (.int j :: .ref 92 :: st) :=
  z_zald C pc' jn hd hp (by omega) rfl hj hl (by decide) k
theorem zm_get (C : zC G K y cc nL ret hs) (pc' : Nat) {idx fk : Nat} {v : Value} (hf : zF y.cls idx 8 fk) (hd : decode cc pc = .ok (.getfield idx, 3)) (hp : pc + 3 = pc') (hn : 113 ≤ n) (hv : (mF S rn)[fk]? = some v)
    (k : Z G K n (mOv S A L rn σ) k1 k2 pc' lv (v :: st)) : Z G K n (mOv S A L rn σ) k1 k2 pc lv (.ref 85 :: st) :=
  z_get C pc' (fs := mF S rn) hf hd hp (by omega) rfl hv k
end MR
