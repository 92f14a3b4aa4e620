/-! rows for Math.max and System.arraycopy -/
def xmax (a b : Int32) : Int32 := if a < b then b else a
theorem w_max : Cond.code Lib.Math.max.name Lib.Math.max.code 2 (some .int) ∈ zTb := zt4 18 (by decide +kernel) rfl
theorem lw_O_63 : Cond.methodLink "SoleArrays$Store" 63 Lib.Math.max.name ∈ zTb := zt4 16 (by decide +kernel) rfl
theorem ls_max : Cond.static Lib.Math.max.name ∈ zTb := zt4 17 (by decide +kernel) rfl
theorem ini_Math : Cond.initialized "java/lang/Math" ∈ zTb := zt1 21 (by decide +kernel) rfl
theorem lw_O_73 : Cond.methodLink "SoleArrays$Store" 73 arraycopyName ∈ zTb := zt4 41 (by decide +kernel) rfl
theorem ls_copy : Cond.static arraycopyName ∈ zTb := zt4 42 (by decide +kernel) rfl
theorem ln_copy : Cond.native arraycopyName ∈ zTb := zt4 43 (by decide +kernel) rfl
theorem ini_Sys : Cond.initialized "java/lang/System" ∈ zTb := zt1 23 (by decide +kernel) rfl
section ZMX
variable {G : zG} {K : zK} {y : MethodName} {cc : ByteArray} {nL : Nat} {ret : Option FieldType} {hs : List (Nat × Nat × Nat × Nat)} {n k1 k2 pc : Nat} {σ : zS} {lv : List (Nat × Value)} {st : List Value}
theorem z_cats (G : zG) (st : List Value) : ((st.map (zV G)).map fun v => v.category) = st.map fun v => v.category := by
  rw [List.map_map]
  exact List.map_congr_left (fun v _ => zV_cat G v)
theorem z_max (C : zC G K y cc nL ret hs) (pc' : Nat) {x w : Int32} {idx : Nat} (hl : Cond.methodLink y.cls idx Lib.Math.max.name ∈ zTb) (hd : decode cc pc = .ok (.invokestatic idx, 3)) (hp : pc + 3 = pc') (hf : 1 ≤ (kR K).frames) (hlo : (st.map fun v => v.category).sum + 13 ≤ (kR K).locals) (hc : k1 ≤ (kR K).cells) (hs' : k2 ≤ (kR K).slots)
    (k : Z G K n σ k1 k2 pc' lv (.int (xmax x w) :: st)) : Z G K n σ k1 k2 pc lv (.int w :: .int x :: st) := by
  subst hp
  intro H locs ls h1 h2 h3
  exact va_mmax C.1 C.2.1 h3.1.symm C.own (C.ts _ hl) (C.ts _ ls_max) (C.ts _ ini_Math) (C.ts _ w_max) hf (by rw [z_cats]; exact hlo) hc hs' hd (k H locs ls h1 h2 h3)
theorem z_copyl (C : zC G K y cc nL ret hs) (pc' : Nat) {i j idx : Nat} {f g : Nat → Int64} (hl : Cond.methodLink y.cls idx arraycopyName ∈ zTb) (hd : decode cc pc = .ok (.invokestatic idx, 3)) (hp : pc + 3 = pc') (hi : i < n) (hj : j < n) (hσi : σ i = .inl (1, 40, .inr (.inl f))) (hσj : σ j = .inl (1, 40, .inr (.inl g))) (hf : 1 ≤ (kR K).frames) (hlo : (st.map fun v => v.category).sum + (nativeFrameWords "java/lang/System" "arraycopy" 5 + 11) ≤ (kR K).locals)
    (k : Z G K n (va_up σ j (.inl (1, 40, .inr (.inl (va_cpy f g 0 0 40))))) k1 k2 pc' lv st) : Z G K n σ k1 k2 pc lv (.int 40 :: .int 0 :: .ref j :: .int 0 :: .ref i :: st) := by
  subst hp
  intro H locs ls h1 h2 h3
  have ha := h1.2.2.2 i hi
  rw [hσi] at ha
  have hb := h1.2.2.2 j hj
  rw [hσj] at hb
  have ha : H[zz G + i]? = some (vp_cell (zcA G 1) (40, .inr (.inl f))) := ha
  have hb : H[zz G + j]? = some (vp_cell (zcA G 1) (40, .inr (.inl g))) := hb
  show W _ _ _ _ _ _ _ _ _ _ H locs k1 k2 _ (F0 _ pc ls (.int 40 :: .int 0 :: .ref (zad G j) :: .int 0 :: .ref (zad G i) :: st.map (zV G)))
  rw [zad_lt (Nat.lt_of_lt_of_le hi h1.2.1), zad_lt (Nat.lt_of_lt_of_le hj h1.2.1)]
  intro T hT X
  obtain ⟨-, k0, hk0, cm0, hkk0⟩ := (C.kk.2 1 _ rfl).1 40 (fun q => .long (f q))
  have hsz : ∀ h : Nat → Int64, (vp_cell (zcA G 1) (40, .inr (.inl h))).slots.size = 40 := fun h => by
    show (arrV (zcA G 1) 40 (fun q => .long (h q))).slots.size = 40
    rw [arrV_size]
  have n40 : (40 : Int32).toNatClampNeg = 40 := by decide
  have n0 : (0 : Int32).toNatClampNeg = 0 := by decide
  obtain ⟨vm', X', step⟩ := X.arraycopy C.1 C.own (C.ts _ hl) (C.ts _ ln_copy) (C.ts _ ls_copy) (C.ts _ ini_Sys) (src := zz G + i) (dst := zz G + j) (cs := vp_cell (zcA G 1) (40, .inr (.inl f))) (cd := vp_cell (zcA G 1) (40, .inr (.inl g))) (srcPos := 0) (destPos := 0) (n := 40) (by rw [hT]; exact ha) (by rw [hT]; exact hb)
    (fun _ h => by cases h) (fun _ h => by cases h) (fun h => by cases h) (fun h => by cases h) hk0 hk0 hkk0 hkk0 (by simp) (by decide) (by decide) (by decide)
    (by rw [hsz]; decide) (by rw [hsz]; decide)
    (fun vm₁ _ q hq => by
      rw [n40] at hq
      have e : (vp_cell (zcA G 1) (40, .inr (.inl f))).slots.getD ((0 : Int32).toNatClampNeg + q) .null = .long (f (0 + q)) := by
        show (arrV (zcA G 1) 40 (fun q => .long (f q))).slots.getD _ _ = _
        rw [n0, Array.getD_eq_getD_getElem?, arrV_read _ _ (by omega)]
        rfl
      rw [e]
      exact ⟨rfl, trivial⟩)
    (g := F0 (km K) pc ls (.int 40 :: .int 0 :: .ref (zz G + j) :: .int 0 :: .ref (zz G + i) :: st.map (zV G))) rfl h3.1 (rest := st.map (zV G)) rfl (by rw [C.2.1]; exact hd) hf (by rw [z_cats]; show 2 * 0 + _ + _ ≤ _; omega)
  have e1 : copied (vp_cell (zcA G 1) (40, .inr (.inl f))) (vp_cell (zcA G 1) (40, .inr (.inl g))) 0 0 40 = vp_cell (zcA G 1) (40, .inr (.inl (va_cpy f g 0 0 40))) := by
    have e := va_copied (fun z => .long z) (zcA G 1) (zcA G 1) (n0 := 40) (n1 := 40) f g (sp := 0) (dp := 0) (n := 40) (by omega)
    exact e
  rw [e1] at X' step
  have hlt : zz G + j < H.size := (Array.getElem?_eq_some_iff.mp hb).1
  have hheap : ((T.setVm vm').setCell (zz G + j) (vp_cell (zcA G 1) (40, .inr (.inl (va_cpy f g 0 0 40))))).heap = H.setIfInBounds (zz G + j) (vp_cell (zcA G 1) (40, .inr (.inl (va_cpy f g 0 0 40)))) := by rw [← hT]; rfl
  have oq : ∀ q : Nat, q ≠ zz G + j → (H.setIfInBounds (zz G + j) (vp_cell (zcA G 1) (40, .inr (.inl (va_cpy f g 0 0 40)))))[q]? = H[q]? := fun q hq => by simp [Array.getElem?_setIfInBounds, Ne.symm hq]
  obtain ⟨t, a1, b1⟩ := k _ _ ls (h1.set (i := j) (e := .inl (1, 40, .inr (.inl (va_cpy f g 0 0 40)))) (by simp) oq (show (H.setIfInBounds (zz G + j) _)[zz G + j]? = some _ by simp [Array.getElem?_setIfInBounds, hlt]; rfl)) (fun q hq => by
      rcases List.mem_append.mp hq with h | h
      · exact h2 q h
      · obtain ⟨z, -, hz⟩ := List.mem_map.mp h
        rw [← hz]
        exact Nat.le_add_right _ _) h3 _ hheap X'
  exact ⟨t, step t a1, b1⟩
end ZMX
