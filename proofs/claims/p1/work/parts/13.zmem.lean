section ZM
variable {G : zG} {K : zK} {y : MethodName} {cc : ByteArray} {nL : Nat} {ret : Option FieldType} {hs : List (Nat × Nat × Nat × Nat)} {n k1 k2 pc : Nat} {σ : zS} {lv : List (Nat × Value)} {st : List Value}
theorem zV_narrow {G : zG} {ty : FieldType} {v : Value} (h : narrow ty v = v) : narrow ty (zV G v) = zV G v := by
  cases v <;> first | exact h | (cases ty <;> rfl)
theorem zV_fits {G : zG} {ty : FieldType} {v : Value} (h : fits ty v = true) : fits ty (zV G v) = true := by
  cases v <;> first | exact h | (cases ty <;> first | exact h | rfl)
theorem zV_vp (G : zG) (fs : List Value) (j : Nat) : vp_V (fs.map (zV G)) j = zV G (vp_V fs j) := by
  unfold vp_V
  rw [List.getD_eq_getElem?_getD, List.getD_eq_getElem?_getD, List.getElem?_map]
  cases fs[j]? <;> rfl
theorem zV_dflt (G : zG) (ty : FieldType) : zV G (defaultValue ty) = defaultValue ty := by cases ty <;> rfl
/-- a field by its link: class ci of zCl, its field k -/
def zF (own : String) (idx ci k : Nat) : Prop := ∃ (C : String) (T : u_T) (N : Nat), zCl[ci]? = some (C, T, N) ∧ k < N ∧ (∀ w ∈ u_ws C T N, w ∈ zTb) ∧ Cond.fieldLink own idx (T k).1 (T k).2.1 (T k).2.2.1 ∈ zTb
/-- a class's table as it must be for stores and makings -/
def zCk (ci : Nat) (C : String) (T : u_T) (N : Nat) (ty0 : Nat → FieldType) : Prop := zCl[ci]? = some (C, T, N) ∧ (∀ w ∈ u_ws C T N, w ∈ zTb) ∧ (∀ k, k < N → parseFieldDescriptor (T k).2.2.1 = some (ty0 k)) ∧ (∀ a, a < N → ∀ b, b < N → a ≠ b → (T a).2.1 ≠ (T b).2.1)
def zP (own : String) (idx ci k : Nat) (ty : FieldType) : Prop := ∃ (C : String) (T : u_T) (N : Nat) (ty0 : Nat → FieldType), zCk ci C T N ty0 ∧ k < N ∧ Cond.fieldLink own idx (T k).1 (T k).2.1 (T k).2.2.1 ∈ zTb ∧ (T k).2.2.2 = false ∧ ty0 k = ty
def zPF (own : String) (idx ci k : Nat) (ty : FieldType) : Prop := ∃ (C : String) (T : u_T) (N : Nat) (ty0 : Nat → FieldType), zCk ci C T N ty0 ∧ k < N ∧ Cond.fieldLink own idx (T k).1 (T k).2.1 (T k).2.2.1 ∈ zTb ∧ (T k).2.2.2 = true ∧ (T k).1 = own ∧ ty0 k = ty
theorem z_get (C : zC G K y cc nL ret hs) (pc' : Nat) {i ci idx fk : Nat} {fs : List Value} {v : Value} (hf : zF y.cls idx ci fk) (hd : decode cc pc = .ok (.getfield idx, 3)) (hp : pc + 3 = pc') (hi : i < n) (hσ : σ i = .inr (ci, fs)) (hv : fs[fk]? = some v)
    (k : Z G K n σ k1 k2 pc' lv (v :: st)) : Z G K n σ k1 k2 pc lv (.ref i :: st) := by
  subst hp
  intro H locs ls h1 h2 h3
  obtain ⟨Cn, T, N, c1, c2, c3, c4⟩ := hf
  have hat := h1.2.2.2 i hi
  rw [hσ] at hat
  have kk := k H locs ls h1 h2 h3
  show W _ _ _ _ _ _ _ _ _ _ H locs k1 k2 _ (F0 _ pc ls (.ref (zad G i) :: st.map (zV G)))
  rw [zad_lt (Nat.lt_of_lt_of_le hi h1.2.1)]
  refine va_get (D := zD G) (cl := zCl) (tys := zT G) (ws := [(zz G + i, .inr (ci, fs.map (zV G)))]) C.1 C.2.1 C.ts c3 C.own C.kk (fun k q hq => ?_) 0 rfl c1 fk c2 (C.ts _ c4) (fun x h => h) (v := zV G v) (by rw [List.getElem?_map, hv]; rfl) hd kk
  cases k with
  | zero => cases hq; exact hat
  | succ k => cases hq
theorem z_locs {G : zG} {locs : List Loc} (h : ∀ q ∈ locs, zz G ≤ q.base) (i j : Nat) : ∀ q ∈ locs ++ [(⟨zz G + i, j⟩ : Loc)], zz G ≤ q.base := fun q hq => by
  rcases List.mem_append.mp hq with hq | hq
  · exact h q hq
  · rw [List.mem_singleton.mp hq]
    exact Nat.le_add_right _ _
theorem z_put (C : zC G K y cc nL ret hs) (pc' : Nat) {i ci idx fk : Nat} {ty : FieldType} {fs : List Value} {v : Value} (hf : zP y.cls idx ci fk ty) (hd : decode cc pc = .ok (.putfield idx, 3)) (hp : pc + 3 = pc') (hi : i < n) (hσ : σ i = .inr (ci, fs)) (hl : fk < fs.length) (hn : narrow ty v = v) (hfit : fits ty v = true)
    (k : Z G K n (va_up σ i (.inr (ci, fs.set fk v))) k1 k2 pc' lv st) : Z G K n σ k1 k2 pc lv (v :: .ref i :: st) := by
  subst hp
  intro H locs ls h1 h2 h3
  obtain ⟨Cn, T, N, ty0, ⟨c1, c3, c5, c6⟩, c2, c4, c7, c8⟩ := hf
  subst c8
  have hat := h1.2.2.2 i hi
  rw [hσ] at hat
  have hap := va_apart (own := y.cls) C.ts c3 ty0 c5 c6 C.kk c1
  obtain ⟨r, r1, cell, q1, q2, q3, q4⟩ := hat
  have hr : r = (Cn, T, N) := Option.some.inj (r1.symm.trans c1)
  subst hr
  obtain ⟨hS, hfc, kC, hkC, hkind⟩ := C.kk.1 ci _ c1
  obtain ⟨cf, kf, fi, f, hif, hsl⟩ := hS fk c2
  have hlay := C.ts _ (c3 _ (u_in_lay c2))
  unfold u_lay at hlay
  rw [if_neg (by rw [c7]; decide)] at hlay
  have hst := (u_facts hfc hkC (u_lays C.ts c3 c2) hif).1
  have h6 := u_store hfc hkC hkind hlay hif (c5 fk c2) (zV_narrow (G := G) hn) (zV_fits (G := G) hfit)
  show W _ _ _ _ _ _ _ _ _ _ H locs k1 k2 _ (F0 _ pc ls (zV G v :: .ref (zad G i) :: st.map (zV G)))
  rw [zad_lt (Nat.lt_of_lt_of_le hi h1.2.1)]
  refine W.putK C.1 C.2.1 (f := f) ⟨C.own, C.ts _ c4, ⟨_, _, _, hif⟩, hst⟩ (by rw [q2]; exact h6) q1 q3 (by rw [hsl]; exact k2_hasslot (q4 fk c2)) rfl rfl hd fun H' e1 e2 e3 => ?_
  rw [hsl] at e1 ⊢
  refine k H' _ ls (h1.set e2 e3 ?_) (z_locs h2 _ _) h3
  refine ⟨_, c1, t_OB.to (V := updV (vp_V (fs.map (zV G))) fk (zV G v)) ⟨_, e1, q2, q3, t_set q4 hap c2 _⟩ (fun j _ => ?_)⟩
  rw [show ((fs.set fk v).map (zV G)) = (fs.map (zV G)).set fk (zV G v) from List.map_set ..]
  exact vp_updV_set (by rw [List.length_map]; exact hl) _ j
theorem z_putF (C : zC G K y cc nL ret hs) (pc' : Nat) {i ci idx fk : Nat} {ty : FieldType} {fs : List Value} {v : Value} (hf : zPF y.cls idx ci fk ty) (hin : y.name = "<init>") (hd : decode cc pc = .ok (.putfield idx, 3)) (hp : pc + 3 = pc') (hi : i < n) (hσ : σ i = .inr (ci, fs)) (hl : fk < fs.length) (hn : narrow ty v = v) (hfit : fits ty v = true)
    (k : Z G K n (va_up σ i (.inr (ci, fs.set fk v))) k1 k2 pc' lv st) : Z G K n σ k1 k2 pc lv (v :: .ref i :: st) := by
  subst hp
  intro H locs ls h1 h2 h3
  obtain ⟨Cn, T, N, ty0, ⟨c1, c3, c5, c6⟩, c2, c4, c7, c9, c8⟩ := hf
  subst c8
  have hat := h1.2.2.2 i hi
  rw [hσ] at hat
  have hap := va_apart (own := y.cls) C.ts c3 ty0 c5 c6 C.kk c1
  obtain ⟨r, r1, cell, q1, q2, q3, q4⟩ := hat
  have hr : r = (Cn, T, N) := Option.some.inj (r1.symm.trans c1)
  subst hr
  obtain ⟨hS, hfc, kC, hkC, hkind⟩ := C.kk.1 ci _ c1
  obtain ⟨cf, kf, fi, f, hif, hsl⟩ := hS fk c2
  have hlay := C.ts _ (c3 _ (u_in_lay c2))
  unfold u_lay at hlay
  rw [if_pos c7] at hlay
  have hst := (u_facts hfc hkC (u_lays C.ts c3 c2) hif).1
  have hcf : (km K).cls = cf := by
    obtain ⟨_, _, c', _, _, _, -, -, hf', -, -, -, hown2, -⟩ := Cond.laysFinal_spec hlay
    have e1 : c' = cf := by have := hif.symm.trans hf'; simp at this; exact this.1.symm
    rw [c9] at hown2
    rw [← e1]; exact Option.some.inj (C.own.symm.trans hown2)
  have h6 := u_fits hfc hkC hkind (Or.inr hlay) hif (c5 fk c2) (zV_narrow (G := G) hn) (zV_fits (G := G) hfit)
  show W _ _ _ _ _ _ _ _ _ _ H locs k1 k2 _ (F0 _ pc ls (zV G v :: .ref (zad G i) :: st.map (zV G)))
  rw [zad_lt (Nat.lt_of_lt_of_le hi h1.2.1)]
  refine W.putFinK C.1 C.2.1 C.own (C.ts _ c4) hif hst hcf (C.nm.trans hin) (by rw [q2]; exact h6) q1 q3 (by rw [hsl]; exact k2_hasslot (q4 fk c2)) rfl rfl hd fun H' e1 e2 e3 => ?_
  rw [hsl] at e1 ⊢
  refine k H' _ ls (h1.set e2 e3 ?_) (z_locs h2 _ _) h3
  refine ⟨_, c1, t_OB.to (V := updV (vp_V (fs.map (zV G))) fk (zV G v)) ⟨_, e1, q2, q3, t_set q4 hap c2 _⟩ (fun j _ => ?_)⟩
  rw [show ((fs.set fk v).map (zV G)) = (fs.map (zV G)).set fk (zV G v) from List.map_set ..]
  exact vp_updV_set (by rw [List.length_map]; exact hl) _ j
/-- making an object -/
def zNw (own : String) (idx ci N : Nat) (fs : List Value) : Prop := ∃ (C : String) (T : u_T) (M : Nat) (ty0 : Nat → FieldType), zCk ci C T M ty0 ∧ Cond.classLink own idx C ∈ zTb ∧ Cond.instantiable C N ∈ zTb ∧ Cond.initialized C ∈ zTb ∧ ∀ j, j < M → defaultValue (ty0 j) = vp_V fs j
theorem z_new (C : zC G K y cc nL ret hs) (pc' : Nat) {ci idx N : Nat} {fs : List Value} (hf : zNw y.cls idx ci N fs) (hd : decode cc pc = .ok (.new idx, 3)) (hp : pc + 3 = pc') (hn : n < 1000000) (hc : k1 + 1 ≤ (kR K).cells) (hl : k2 + N ≤ (kR K).slots)
    (k : Z G K (n + 1) (va_up σ n (.inr (ci, fs))) (k1 + 1) (k2 + N) pc' lv (.ref n :: st)) : Z G K n σ k1 k2 pc lv st := by
  subst hp
  intro H locs ls h1 h2 h3
  obtain ⟨Cn, T, M, ty0, ⟨c1, c3, c5, c6⟩, w1, w2, w3, w4⟩ := hf
  have hKn := C.kk.1 ci _ c1
  refine W.newcK C.1 C.2.1 C.own (C.ts _ w1) (C.ts _ w2) (C.ts _ w3) rfl hd hc hl hKn.2.1 h1.1 fun H1 kC hkC e1 z1 o1 => ?_
  have hat : va_at (zD G) zCl (zz G + n, zE G (.inr (ci, fs))) H1 := ⟨_, c1, (u_born ty0 C.ts c3 hKn hkC e1 c5).to (fun j hj => by rw [zV_vp, ← w4 j hj, zV_dflt])⟩
  have kk := k H1 locs ls (h1.push hn (by rw [z1, h1.1]) (fun q hq => o1 q (by rw [← h1.1]; exact hq)) hat) h2 h3
  have e : (.ref (zz G + n) : Value) = zV G (.ref n) := by show _ = Value.ref (zad G n); rw [zad_lt hn]
  show W _ _ _ _ _ _ _ _ _ _ H1 locs (k1 + 1) (k2 + N) _ (F0 _ (pc + 3) ls (.ref (zz G + n) :: st.map (zV G)))
  rw [e]
  exact kk
theorem z_arrT {G : zG} {U : State} (h : va_K (zD G) zCl (zT G) U) {t : Nat} {ty : FieldType} (ht : zTy[t]? = some ty) : ArrOfT U (zcA G t) ty ∧ va_RA U (zcA G t) ty := by
  refine h.2 t (zcA G t, ty) ?_
  unfold zT
  rw [List.getElem?_map, List.getElem?_zipIdx, ht]
  simp
theorem z_newa (C : zC G K y cc nL ret hs) (pc' : Nat) {atype : ArrayType} {j : Int32} (t len : Nat) {ty : FieldType} {a : vp_A} (ht : zTy[t]? = some ty) (hty : newarray.typeOf atype = ty) (hw : Cond.arrayClass ty ∈ zTb) (ha : ∀ cA : ClassId, vp_cell cA (zA G a) = arrV cA len (fun _ => defaultValue ty))
    (hra : va_RA (ks K) (zcA G t) ty → (ks K).vm.findClass ("[" ++ ty.toString) = some (zcA G t))
    (hd : decode cc pc = .ok (.newarray atype, 2)) (hp : pc + 2 = pc') (hj : j = nI len) (hs : len < 2 ^ 31) (hb : len * componentBytes ty ≤ 536870912) (hn : n < 1000000) (hc : k1 + 1 ≤ (kR K).cells) (hl : k2 + len ≤ (kR K).slots)
    (k : Z G K (n + 1) (va_up σ n (.inl (t, a))) (k1 + 1) (k2 + len) pc' lv (.ref n :: st)) : Z G K n σ k1 k2 pc lv (.int j :: st) := by
  subst hp; subst hj; subst hty
  intro H locs ls h1 h2 h3
  refine va_newaK C.1 C.2.1 (C.ts _ hw) rfl hd rfl (nI_pos hs) (nI_clamp hs) hb hc hl h1.1 fun H1 cA e1 z1 o1 hAr hNm => ?_
  have hcA : cA = zcA G t := Option.some.inj (hNm.symm.trans (hra (z_arrT C.kk ht).2))
  subst hcA
  have hat : va_at (zD G) zCl (zz G + n, zE G (.inl (t, a))) H1 := by
    show H1[zz G + n]? = some (vp_cell (zcA G t) (zA G a))
    rw [ha]; exact e1
  have kk := k H1 locs ls (h1.push hn (by rw [z1, h1.1]) (fun q hq => o1 q (by rw [← h1.1]; exact hq)) hat) h2 h3
  have e : (.ref (zz G + n) : Value) = zV G (.ref n) := by show _ = Value.ref (zad G n); rw [zad_lt hn]
  show W _ _ _ _ _ _ _ _ _ _ H1 locs (k1 + 1) (k2 + len) _ (F0 _ (pc + 2) ls (.ref (zz G + n) :: st.map (zV G)))
  rw [e]
  exact kk
/-- weakenings -/
theorem Z.same {τ : zS} (h : ∀ i, i < n → σ i = τ i) (k : Z G K n τ k1 k2 pc lv st) : Z G K n σ k1 k2 pc lv st := fun H locs ls h1 h2 h3 => k H locs ls (h1.same (fun i hi => (h i hi).symm)) h2 h3
theorem Z.lvs {lv' : List (Nat × Value)} (h : ∀ q ∈ lv', q ∈ lv) (k : Z G K n σ k1 k2 pc lv' st) : Z G K n σ k1 k2 pc lv st := fun H locs ls h1 h2 h3 => k H locs ls h1 h2 ⟨h3.1, h3.2.1, fun q hq => by
  obtain ⟨q', hq', rfl⟩ := List.mem_map.mp hq
  exact h3.2.2 _ (List.mem_map.mpr ⟨q', h q' hq', rfl⟩)⟩
theorem Z.widen {j1 j2 : Nat} (h1 : k1 ≤ j1) (h2 : k2 ≤ j2) (k : Z G K n σ j1 j2 pc lv st) : Z G K n σ k1 k2 pc lv st := fun H locs ls a b c => W.widen h1 h2 (k H locs ls a b c)
theorem Z.n0 (k : n ≤ 1000000 → Z G K n σ k1 k2 pc lv st) : Z G K n σ k1 k2 pc lv st := fun H locs ls a b c => k a.2.1 H locs ls a b c
/-- ends -/
theorem z_iret (C : zC G K y cc nL ret hs) {x : Int32} (hr : ret = some .int) (hd : decode cc pc = .ok (.ireturn, 1)) (hq : kpo K (.returned (some (.int x))) n σ) (hc : k1 ≤ kmc K) (hl : k2 ≤ kms K) : Z G K n σ k1 k2 pc lv [.int x] := fun H locs ls h1 h2 h3 =>
  W.widen hc hl (xt_ret (W.iret C.1 C.2.1 (C.2.2.2.1.trans hr) (fun t ht hW => ⟨.returned (some (.int x)), n, σ, rfl, hq, by rw [ht]; exact h1⟩) h2 hd C.lk))
theorem z_zret (C : zC G K y cc nL ret hs) {x : Int32} {ty : FieldType} (hr : ret = some ty) (hx : narrow ty (.int x) = .int x) (hd : decode cc pc = .ok (.ireturn, 1)) (hq : kpo K (.returned (some (.int x))) n σ) (hc : k1 ≤ kmc K) (hl : k2 ≤ kms K) : Z G K n σ k1 k2 pc lv [.int x] := fun H locs ls h1 h2 h3 =>
  W.widen hc hl (xt_ret (W.zret C.1 C.2.1 (C.2.2.2.1.trans hr) hx (fun t ht hW => ⟨.returned (some (.int x)), n, σ, rfl, hq, by rw [ht]; exact h1⟩) h2 hd C.lk))
theorem z_lret (C : zC G K y cc nL ret hs) {x : Int64} (hr : ret = some .long) (hd : decode cc pc = .ok (.lreturn, 1)) (hq : kpo K (.returned (some (.long x))) n σ) (hc : k1 ≤ kmc K) (hl : k2 ≤ kms K) : Z G K n σ k1 k2 pc lv [.long x] := fun H locs ls h1 h2 h3 =>
  W.widen hc hl (xt_ret (W.lret C.1 C.2.1 (C.2.2.2.1.trans hr) (fun t ht hW => ⟨.returned (some (.long x)), n, σ, rfl, hq, by rw [ht]; exact h1⟩) h2 hd C.lk))
theorem z_vret (C : zC G K y cc nL ret hs) (hr : ret = none) (hd : decode cc pc = .ok (.return_, 1)) (hq : kpo K (.returned none) n σ) (hc : k1 ≤ kmc K) (hl : k2 ≤ kms K) : Z G K n σ k1 k2 pc lv [] := fun H locs ls h1 h2 h3 =>
  W.widen hc hl (xt_ret (W.vret C.1 C.2.1 (C.2.2.2.1.trans hr) (fun t ht hW => ⟨.returned none, n, σ, rfl, hq, by rw [ht]; exact h1⟩) h2 hd C.lk))
theorem z_aret (C : zC G K y cc nL ret hs) {x : Nat} {D : String} (hr : ret = some (.object D)) (hd : decode cc pc = .ok (.areturn, 1)) (hq : kpo K (.returned (some (.ref x))) n σ) (hc : k1 ≤ kmc K) (hl : k2 ≤ kms K) : Z G K n σ k1 k2 pc lv [.ref x] := fun H locs ls h1 h2 h3 =>
  W.widen hc hl (xt_ret (W.aret C.1 C.2.1 (C.2.2.2.1.trans hr) (Or.inl ⟨_, rfl⟩) (Or.inr ⟨_, rfl⟩) (fun t ht hW => ⟨.returned (some (.ref x)), n, σ, rfl, hq, by rw [ht]; exact h1⟩) h2 hd C.lk))
end ZM
