/-! the forms' statics, their ordinals, the switches' map -/
section ZFO
variable {G : zG} {K : zK} {y : MethodName} {cc : ByteArray} {nL : Nat} {ret : Option FieldType} {hs : List (Nat × Nat × Nat × Nat)} {n k1 k2 pc : Nat} {σ : zS} {lv : List (Nat × Value)} {st : List Value}
theorem zad_old (G : zG) {i : Nat} (h : 1000000 ≤ i) : zad G i = zo G i := if_neg (Nat.not_lt.mpr h)
theorem zC.form (C : zC G K y cc nL ret hs) : zForm G (ks K) := C.stat.2.2.2.2.2
theorem zC.old (C : zC G K y cc nL ret hs) {H : Heap} (h1 : zHW G n σ H) {a : Nat} (ha : a < zz G) : H[a]? = (ks K).heap[a]? := (h1.2.2.1 a ha).trans (C.stat.1 a ha).symm
theorem z_getsF (C : zC G K y cc nL ret hs) (pc' j : Nat) {idx : Nat} (hj : j < 14) (hl : Cond.fieldLink y.cls idx "SoleArrays$Form" (zFm j) "LSoleArrays$Form;" ∈ zTb) (hd : decode cc pc = .ok (.getstatic idx, 3)) (hp : pc + 3 = pc') (k : Z G K n σ k1 k2 pc' lv (.ref (1000001 + j) :: st)) : Z G K n σ k1 k2 pc lv st := by
  subst hp
  intro H locs ls h1 h2 h3
  obtain ⟨⟨cf, kf, fi, f, a, cell, g1, g2, g3, g4, g5, g6, g7, g8⟩, -, -⟩ := C.form.1 j hj
  have kk := k H locs ls h1 h2 h3
  have e : zV G (.ref (1000001 + j)) = .ref (zo G (1000001 + j)) := by show Value.ref (zad G (1000001 + j)) = _; rw [zad_old G (by omega)]
  rw [List.map_cons, e] at kk
  exact W.gets C.1 C.2.1 C.own (C.ts _ hl) g1 g2 g3 g4 (by rw [C.old h1 (Nat.lt_of_not_le g8)]; exact g5) (fun e => by rw [e] at g6; cases g6) g7 rfl hd kk
theorem z_getsM (C : zC G K y cc nL ret hs) (pc' : Nat) {idx : Nat} (hl : Cond.fieldLink y.cls idx "SoleArrays$1" "$SwitchMap$SoleArrays$Form" "[I" ∈ zTb) (hd : decode cc pc = .ok (.getstatic idx, 3)) (hp : pc + 3 = pc') (k : Z G K n σ k1 k2 pc' lv (.ref 1000015 :: st)) : Z G K n σ k1 k2 pc lv st := by
  subst hp
  intro H locs ls h1 h2 h3
  obtain ⟨cf, kf, fi, f, a, cell, g1, g2, g3, g4, g5, g6, g7, g8⟩ := C.form.2.1
  have kk := k H locs ls h1 h2 h3
  have e : zV G (.ref 1000015) = .ref (zo G 1000015) := by show Value.ref (zad G 1000015) = _; rw [zad_old G (by omega)]
  rw [List.map_cons, e] at kk
  exact W.gets C.1 C.2.1 C.own (C.ts _ hl) g1 g2 g3 g4 (by rw [C.old h1 (Nat.lt_of_not_le g8)]; exact g5) (fun e => by rw [e] at g6; cases g6) g7 rfl hd kk
theorem z_ialdM (C : zC G K y cc nL ret hs) (pc' j : Nat) (hj : j < 14) (hd : decode cc pc = .ok (.iaload, 1)) (hp : pc + 1 = pc') (k : Z G K n σ k1 k2 pc' lv (.int (zSw j) :: st)) : Z G K n σ k1 k2 pc lv (.int (nI j) :: .ref 1000015 :: st) := by
  subst hp
  intro H locs ls h1 h2 h3
  obtain ⟨cell, g1, g2, g3, g4, g5, g6, g7⟩ := C.form.2.2
  have kk := k H locs ls h1 h2 h3
  have e : zad G 1000015 = zo G 1000015 := zad_old G (by omega)
  show W _ _ _ _ _ _ _ _ _ _ H locs k1 k2 _ (F0 _ pc ls (.int (nI j) :: .ref (zad G 1000015) :: st.map (zV G)))
  rw [e]
  have hcl : (nI j).toNatClampNeg = j := nI_clamp (by omega)
  refine W.iald (v := .int (zSw j)) C.1 C.2.1 (by rw [C.old h1 (Nat.lt_of_not_le g7)]; exact g1) g2 g3 (fun q => ?_) (by rw [hcl]; exact g6 _ hj) rfl rfl hd kk
  rcases q with q | q
  · exact nI_pos (by omega) q
  · rw [hcl] at q
    omega
abbrev y_ord : MethodName := ⟨"java/lang/Enum", "ordinal", "()I"⟩
abbrev b_ord : ByteArray := prog_14_method_2_code
theorem d_ord_0 : decode b_ord 0 = .ok (.aload_n 0, 1) := by decide +kernel
theorem d_ord_1 : decode b_ord 1 = .ok (.getfield 7, 3) := by decide +kernel
theorem d_ord_4 : decode b_ord 4 = .ok (.ireturn, 1) := by decide +kernel
theorem w_ord : zWd y_ord b_ord 1 (some .int) [] ∈ zTb := zt3 127 (by decide +kernel) rfl
theorem f_ord : Cond.fieldLink "java/lang/Enum" 7 "java/lang/Enum" "ordinal" "I" ∈ zTb := zt5 168 (by decide +kernel) rfl
theorem o_same : Cond.sameMethod "SoleArrays$Form" "java/lang/Enum" "ordinal" "()I" ∈ zTb := zt3 123 (by decide +kernel) rfl
theorem o_decl : Cond.declares y_ord ∈ zTb := zt3 124 (by decide +kernel) rfl
theorem o_sel : Cond.selects "SoleArrays$Form" ⟨"SoleArrays$Form", "ordinal", "()I"⟩ y_ord ∈ zTb := zt3 125 (by decide +kernel) rfl
theorem o_inst : Cond.instanceMethod y_ord ∈ zTb := zt3 126 (by decide +kernel) rfl
theorem c_ord {l : Launch} {j : Nat} (hj : j < 14) : MetZ G l y_ord b_ord 1 (some .int) [] 0 0 0 [.ref (1000001 + j)] n σ (fun o n' σ' => o = .returned (some (.int (nI j))) ∧ n' = n ∧ σ' = σ) := by
  refine MetZ.of (by decide) (Nat.le_of_ble_eq_true rfl) (fun K hK hR hpo hmc hms C => ?_)
  refine z_aload_n C 1 d_ord_0 rfl rfl ?_
  have k : Z G K n σ 0 0 4 (lv_args 0 [.ref (1000001 + j)]) [.int (nI j)] := z_iret C rfl d_ord_4 (by rw [hpo]; exact ⟨rfl, rfl, rfl⟩) (by rw [hmc]; omega) (by rw [hms]; omega)
  intro H locs ls h1 h2 h3
  obtain ⟨-, g2, cell, cf, i, kf, fd, g3, g4, g5, g6, g7, g8, g9⟩ := C.form.1 j hj
  have kk := k H locs ls h1 h2 h3
  show W _ _ _ _ _ _ _ _ _ _ H locs 0 0 _ (F0 _ 1 ls [.ref (zad G (1000001 + j))])
  rw [zad_old G (by omega)]
  exact W.getf C.1 C.2.1 C.own (C.ts _ f_ord) g7 g8 (by rw [C.old h1 g2]; exact g3) g4 g9 rfl rfl d_ord_1 kk
theorem z_goU (C : zC G K y cc nL ret hs) {idx j : Nat} (hj : j < 14) (hl : Cond.methodLink y.cls idx ⟨"SoleArrays$Form", "ordinal", "()I"⟩ ∈ zTb) (hd : decode cc pc = .ok (.invokevirtual idx, 3)) :
    ∀ (H : Heap) (ls : Array Slot), zHW G n σ H → ls.size = (kc K).maxLocals → zGo K (F0 (km K) pc ls ((.ref (1000001 + j) :: st).map (zV G))) (F0 (km K) pc ls (st.map (zV G))) y_ord (([.ref (1000001 + j)] : List Value).map (zV G)).toArray H := by
  intro H ls h1 hsz T locs k1 k2 hT X
  obtain ⟨-, g2, cell, cf, i, kf, fd, g3, g4, g5, g6, g7, g8, g9⟩ := C.form.1 j hj
  obtain ⟨r0, r, hn, hrm, hstR, hsigR⟩ := va_Decl.of (b := b_ord) (m := 1) (ret := some .int) (C.ts _ o_inst) (C.ts _ w_ord)
  obtain ⟨cn, ck, r1, hcn, hck, hni, hf, hn1⟩ := Cond.sameMethod_found (C.ts _ o_same)
  cases hn.symm.trans hn1
  obtain ⟨mk, methM, hnamed, hmethM, -, habM⟩ := Cond.instanceMethod_spec (C.ts _ o_inst)
  obtain ⟨c2, r2, m2, q1, q2, q3, q4, kP, hkP, hkPi⟩ := Cond.selects_spec (C.ts _ o_sel)
  cases g6.symm.trans q1
  cases hf.symm.trans q2
  cases hnamed.symm.trans q3
  have hselP : selectMethod (ke K).platform (ks K).vm cell.cls r0 = .method mk := by rw [Launch.admits_selectMethod X.admits]; exact q4
  obtain ⟨vm₁, X₁, hstep₁⟩ := X.invokevirtualUp C.1 C.own (C.ts _ hl) (C.ts _ o_same) ⟨by decide, by decide⟩ hn hrm hstR (a := zad G (1000001 + j)) (cell := cell) (by rw [hT, zad_old G (by omega), C.old h1 g2]; exact g3)
    (fun z h => by rw [h] at g5; cases g5) hselP hmethM habM hkP hkPi (g := F0 (km K) pc ls ((.ref (1000001 + j) :: st).map (zV G))) rfl (argsL := []) (rest := st.map (zV G)) (by
      have e : parseMethodDescriptor "()I" = some r.sig := hsigR
      have e2 : (parseMethodDescriptor "()I").map (fun q => q.parameters.length) = some 0 := by decide +kernel
      rw [e] at e2
      exact (Option.some.inj e2).symm) rfl (by rw [C.2.1]; exact hd)
  exact ⟨vm₁, mk, X₁, X₁.named hnamed, hstep₁⟩
end ZFO
