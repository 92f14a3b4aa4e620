section ZO
variable {G : zG} {K : zK} {y : MethodName} {cc : ByteArray} {nL : Nat} {ret : Option FieldType} {hs : List (Nat × Nat × Nat × Nat)} {n k1 k2 pc : Nat} {σ : zS} {lv : List (Nat × Value)} {st : List Value}
def zLIN (own : String) (idx : Nat) (y : MethodName) (k : Nat) : Prop := (∃ host, Cond.methodLinkNest own idx y host ∈ zTb) ∧ Cond.instanceMethod y ∈ zTb ∧ y.name = "<init>" ∧ (y.cls ≠ "java/lang/invoke/MethodHandle" ∧ y.cls ≠ "java/lang/invoke/VarHandle") ∧ (parseMethodDescriptor y.desc).map (fun q => q.parameters.length) = some k
theorem z_goIN (C : zC G K y cc nL ret hs) {yc : MethodName} {ccc : ByteArray} {nLc idx i k : Nat} {As : List Value}
    (hL : zLIN y.cls idx yc k) (hwd : zWd yc ccc nLc none [] ∈ zTb) (hd : decode cc pc = .ok (.invokespecial idx, 3)) (hk : As.length = k) :
    ∀ (H : Heap) (ls : Array Slot), zHW G n σ H → ls.size = (kc K).maxLocals → zGo K (F0 (km K) pc ls ((As.reverse ++ .ref i :: st).map (zV G))) (F0 (km K) pc ls (st.map (zV G))) yc ((.ref i :: As).map (zV G)).toArray H := by
  intro H ls h1 hsz T locs k1 k2 hT X
  obtain ⟨⟨host, l1⟩, l2, l3, l4, l5⟩ := hL
  have hpl : (ke K).platform.magicAccessors = ({} : Platform).magicAccessors := by rw [X.admits.platform]
  obtain ⟨mk, methM, cM, kP, vm₁, hnamed, hmethM, hcodeM, -, hlocalsM, -, hkP, -, hW₁, hstep₁⟩ := Steps.initColdArgsNest (e := ke K) X.here C.1 X.warmed hpl C.own l3 l4 (C.ts _ l1) (C.ts _ l2) (C.ts _ hwd) (f := F0 (km K) pc ls ((As.reverse ++ .ref i :: st).map (zV G))) rfl (argsL := As.map (zV G)) (rest := st.map (zV G)) (a := zad G i)
    (fun sig hsig => by rw [List.length_map, hk]; exact z_len l5 hsig) (by simp [zV]) (by rw [C.2.1]; exact hd)
  have X₁ := X.noted hW₁
  exact ⟨vm₁, mk, X₁, X₁.named hnamed, hstep₁⟩
theorem z_objinit (C : zC G K y cc nL ret hs) (pc' : Nat) {i idx : Nat} (hd : decode cc pc = .ok (.invokespecial idx, 3)) (hp : pc + 3 = pc') (hl : Cond.methodLink y.cls idx Lib.objectInit ∈ zTb) (hi : Cond.instanceMethod Lib.objectInit ∈ zTb) (hc : Cond.code Lib.objectInit ⟨#[0xb1]⟩ 1 none ∈ zTb)
    (hf : 1 ≤ (kR K).frames) (hlo : (st.map fun v => v.category).sum + 12 ≤ (kR K).locals) (k : Z G K n σ k1 k2 pc' lv st) : Z G K n σ k1 k2 pc lv (.ref i :: st) := by
  subst hp
  intro H locs ls h1 h2 h3
  have hcat : ((st.map (zV G)).map fun v => v.category) = st.map fun v => v.category := by rw [List.map_map]; exact List.map_congr_left (fun v _ => zV_cat G v)
  exact W.objInit C.1 C.2.1 C.own (C.ts _ hl) (C.ts _ hi) (C.ts _ hc) (g := F0 (km K) pc ls (.ref (zad G i) :: st.map (zV G))) rfl h3.1 rfl hd hf (by
    show 2 * (F0 (km K) pc ls _).monitorRoom + ((st.map (zV G)).map fun v => v.category).sum + 12 ≤ _
    rw [hcat]
    have : (F0 (km K) pc ls (Value.ref (zad G i) :: st.map (zV G))).monitorRoom = 0 := rfl
    omega) (k H locs ls h1 h2 h3)
theorem z_ldc2 (C : zC G K y cc nL ret hs) (pc' : Nat) {idx : Nat} (v : Int64) (hd : decode cc pc = .ok (.ldc2_w idx, 3)) (hp : pc + 3 = pc') (hw : Cond.constantLong y.cls idx v ∈ zTb) (k : Z G K n σ k1 k2 pc' lv (.long v :: st)) : Z G K n σ k1 k2 pc lv st := by
  subst hp
  exact fun H locs ls h1 h2 h3 => lv_ldc2 C.1 C.2.1 C.own (C.ts _ hw) hd (k H locs ls h1 h2 h3)
theorem z_tableIn (C : zC G K y cc nL ret hs) (tgt : Nat) {dflt lo hi : Int} {offs : Array Int} {len : Nat} {x : Int32} {off : Int} (hd : decode cc pc = .ok (.tableswitch dflt lo hi offs, len)) (h1 : ¬ x.toInt < lo) (h2 : ¬ hi < x.toInt) (ho : offs[(x.toInt - lo).toNat]? = some off) (ht : (pc : Int) + off = (tgt : Int)) (k : Z G K n σ k1 k2 tgt lv st) : Z G K n σ k1 k2 pc lv (.int x :: st) :=
  fun H locs ls a b c => lv_tableIn C.1 C.2.1 hd h1 h2 ho ht (k H locs ls a b c)
theorem z_tableOut (C : zC G K y cc nL ret hs) (tgt : Nat) {dflt lo hi : Int} {offs : Array Int} {len : Nat} {x : Int32} (hd : decode cc pc = .ok (.tableswitch dflt lo hi offs, len)) (h : x.toInt < lo ∨ hi < x.toInt) (ht : (pc : Int) + dflt = (tgt : Int)) (k : Z G K n σ k1 k2 tgt lv st) : Z G K n σ k1 k2 pc lv (.int x :: st) :=
  fun H locs ls a b c => lv_tableOut C.1 C.2.1 hd h ht (k H locs ls a b c)
theorem z_lookup (C : zC G K y cc nL ret hs) (tgt : Nat) {dflt : Int} {ps : Array (Int × Int)} {len : Nat} {x : Int32} {off : Int} (hd : decode cc pc = .ok (.lookupswitch dflt ps, len)) (hp : (ps.toList.zip (ps.toList.drop 1)).all (fun (a, next) => a.1 < next.1) = true) (ho : Op.lookupswitch.offset ps.toList dflt x.toInt = off) (ht : (pc : Int) + off = (tgt : Int)) (k : Z G K n σ k1 k2 tgt lv st) : Z G K n σ k1 k2 pc lv (.int x :: st) :=
  fun H locs ls a b c => lv_lookup C.1 C.2.1 hd hp ho ht (k H locs ls a b c)
theorem z_arrlen (C : zC G K y cc nL ret hs) (pc' : Nat) {i t : Nat} {a : vp_A} {ty : FieldType} (ht : zTy[t]? = some ty) (hd : decode cc pc = .ok (.arraylength, 1)) (hp : pc + 1 = pc') (hi : i < n) (hσ : σ i = .inl (t, a)) (hz : (zA G a).1 = a.1)
    (k : Z G K n σ k1 k2 pc' lv (.int (nI a.1) :: st)) : Z G K n σ k1 k2 pc lv (.ref i :: st) := by
  subst hp
  intro H locs ls h1 h2 h3
  have hat := h1.2.2.2 i hi
  rw [hσ] at hat
  have kk := k H locs ls h1 h2 h3
  show W _ _ _ _ _ _ _ _ _ _ H locs k1 k2 _ (F0 _ pc ls (.ref (zad G i) :: st.map (zV G)))
  rw [zad_lt (Nat.lt_of_lt_of_le hi h1.2.1)]
  have htt : (zT G)[t]? = some (zcA G t, ty) := by
    unfold zT
    rw [List.getElem?_map, List.getElem?_zipIdx, ht]
    simp
  refine va_alen (D := zD G) (cl := zCl) (tys := zT G) (ws := [(zz G + i, zE G (.inl (t, a)))]) C.1 C.2.1 C.kk (fun k q hq => ?_) 0 t rfl htt (v := nI a.1) (by rw [hz]; rfl) hd kk
  cases k with
  | zero => cases hq; exact hat
  | succ k => cases hq
theorem z_aald (C : zC G K y cc nL ret hs) (pc' : Nat) {i t len : Nat} {j : Int32} {f : Nat → Option Nat} (jn : Nat) {ty : FieldType} (r : Option Nat) (hd : decode cc pc = .ok (.aaload, 1)) (hp : pc + 1 = pc') (hi : i < n) (hσ : σ i = .inl (t, len, .inr (.inr (.inr (.inr f))))) (ht : zTy[t]? = some ty) (hty : ty.isReference = true) (hj : j = nI jn) (hl : jn < len) (hs : len < 2 ^ 31) (hr : f jn = r)
    (k : Z G K n σ k1 k2 pc' lv (va_rf r :: st)) : Z G K n σ k1 k2 pc lv (.int j :: .ref i :: st) := by
  subst hp; subst hj; subst hr
  intro H locs ls h1 h2 h3
  have hat := h1.2.2.2 i hi
  rw [hσ] at hat
  have hcl : (nI jn).toNatClampNeg = jn := nI_clamp (Nat.lt_trans hl hs)
  have kk := k H locs ls h1 h2 h3
  show W _ _ _ _ _ _ _ _ _ _ H locs k1 k2 _ (F0 _ pc ls (.int (nI jn) :: .ref (zad G i) :: st.map (zV G)))
  rw [zad_lt (Nat.lt_of_lt_of_le hi h1.2.1)]
  have hc : H[zz G + i]? = some (vp_cell (zcA G t) (len, .inr (.inr (.inr (.inr (fun i => (f i).map (zad G))))))) := hat
  rw [vp_cell_q] at hc
  refine W.aald (v := zV G (va_rf (f jn))) (ty := ty) C.1 C.2.1 hc ((z_arrT C.kk ht).1 len (fun j => va_rf ((f j).map (zad G)))) hty (fun q => by cases q) (by rw [arrV_size]; exact vp_in_nI hl hs) (by rw [hcl, arrV_read _ _ hl, zV_rf]) rfl rfl hd kk
theorem z_anew (C : zC G K y cc nL ret hs) (pc' : Nat) {idx t : Nat} {j : Int32} {D : String} (len : Nat) (ht : zTy[t]? = some (.object D)) (hw : Cond.classLink y.cls idx D ∈ zTb) (ho : Cond.arrayOver (.object D) ∈ zTb) (hd : decode cc pc = .ok (.anewarray idx, 3)) (hp : pc + 3 = pc') (hj : j = nI len) (hs : len < 2 ^ 31) (hb : len * 4 ≤ 536870912) (hn : n < 1000000) (hc : k1 + 1 ≤ (kR K).cells) (hl : k2 + len ≤ (kR K).slots)
    (k : Z G K (n + 1) (va_up σ n (.inl (t, len, .inr (.inr (.inr (.inr (fun _ => none))))))) (k1 + 1) (k2 + len) pc' lv (.ref n :: st)) : Z G K n σ k1 k2 pc lv (.int j :: st) := by
  subst hp; subst hj
  intro H locs ls h1 h2 h3
  have hcl : (nI len).toNatClampNeg = len := nI_clamp hs
  refine W.anew C.1 C.2.1 C.own (C.ts _ hw) (C.ts _ ho) (g := F0 (km K) pc ls (.int (nI len) :: st.map (zV G))) rfl hd rfl (nI_pos hs) (by rw [hcl]; exact hb) hc (by rw [hcl]; exact hl) fun cA kA comp f1 f2 f3 f4 => ?_
  rw [hcl]
  obtain ⟨kA', comp', g1, g2, g3, g4⟩ := (z_arrT C.kk ht).2
  have hcA : cA = zcA G t := Option.some.inj (f1.symm.trans g4)
  subst hcA
  generalize hH1 : H.push ({ cls := zcA G t, slots := Array.replicate len .null, vm := .none } : Cell) = H1
  have z1 : H1.size = H.size + 1 := by rw [← hH1, Array.size_push]
  have e1 : H1[H.size]? = some (arrV (zcA G t) len (fun _ => .null)) := by rw [← hH1, Array.getElem?_push_size, ← arrV_new]
  have o1 : ∀ q : Nat, q < H.size → H1[q]? = H[q]? := fun q hq => by rw [← hH1, Array.getElem?_push, if_neg (Nat.ne_of_lt hq)]
  have hat : va_at (zD G) zCl (zz G + n, zE G (.inl (t, len, .inr (.inr (.inr (.inr (fun _ => none))))))) H1 := by
    show H1[zz G + n]? = some (vp_cell (zcA G t) (len, .inr (.inr (.inr (.inr (fun i => (none : Option Nat).map (zad G)))))))
    rw [vp_cell_q, ← h1.1]
    exact e1
  have kk := k H1 locs ls (h1.push hn z1 o1 hat) h2 h3
  have e : (.ref H.size : Value) = zV G (.ref n) := by show _ = Value.ref (zad G n); rw [zad_lt hn, h1.1]
  show W _ _ _ _ _ _ _ _ _ _ H1 locs (k1 + 1) (k2 + len) _ (F0 _ (pc + 3) ls (.ref H.size :: st.map (zV G)))
  rw [e]
  exact kk
theorem z_aast (C : zC G K y cc nL ret hs) (pc' : Nat) {i t len x ci : Nat} {j : Int32} {f : Nat → Option Nat} {D : String} {T0 : u_T} {N : Nat} {vs : List Value} (jn : Nat) (hd : decode cc pc = .ok (.aastore, 1)) (hp : pc + 1 = pc') (hi : i < n) (hσ : σ i = .inl (t, len, .inr (.inr (.inr (.inr f))))) (ht : zTy[t]? = some (.object D)) (hx : x < n) (hσx : σ x = .inr (ci, vs)) (hcl : zCl[ci]? = some (D, T0, N)) (hj : j = nI jn) (hl : jn < len) (hs : len < 2 ^ 31)
    (k : Z G K n (va_up σ i (.inl (t, len, .inr (.inr (.inr (.inr (va_up f jn (some x)))))))) k1 k2 pc' lv st) : Z G K n σ k1 k2 pc lv (.ref x :: .int j :: .ref i :: st) := by
  subst hp; subst hj
  intro H locs ls h1 h2 h3
  have hat := h1.2.2.2 i hi
  rw [hσ] at hat
  have hax := h1.2.2.2 x hx
  rw [hσx] at hax
  have hcn : (nI jn).toNatClampNeg = jn := nI_clamp (Nat.lt_trans hl hs)
  show W _ _ _ _ _ _ _ _ _ _ H locs k1 k2 _ (F0 _ pc ls (.ref (zad G x) :: .int (nI jn) :: .ref (zad G i) :: st.map (zV G)))
  rw [zad_lt (Nat.lt_of_lt_of_le hi h1.2.1), zad_lt (Nat.lt_of_lt_of_le hx h1.2.1)]
  have hc : H[zz G + i]? = some (vp_cell (zcA G t) (len, .inr (.inr (.inr (.inr (fun i => (f i).map (zad G))))))) := hat
  rw [vp_cell_q] at hc
  obtain ⟨r', hr', cellV, g1, g2, g3, -⟩ := hax
  have hcls := (C.kk.1 ci _ hcl).2
  obtain ⟨kA, comp, e1, e2, e3, -⟩ := (z_arrT C.kk ht).2
  have hcomp : comp = (zD G).1 ci := Option.some.inj (e3.symm.trans hcls.1)
  subst hcomp
  obtain ⟨kC, hkC, -⟩ := hcls.2
  refine W.aast C.1 C.2.1 hc (fun q h => by cases h) (fun h => by cases h) e1 e2 rfl hkC ⟨nI_pos (Nat.lt_trans hl hs), by rw [arrV_size, hcn]; exact hl⟩ g1 (fun q h => by rw [g3] at h; cases h) (by rw [g2]; exact hkC) (by rw [g2]; exact va_assign hcls) rfl rfl hd fun H1 e z oq => ?_
  refine k H1 _ ls (h1.set z oq ?_) (z_locs h2 _ _) h3
  show H1[zz G + i]? = some (vp_cell (zcA G t) (len, .inr (.inr (.inr (.inr (fun i => (va_up f jn (some x) i).map (zad G)))))))
  rw [e, hcn, vp_cell_q, arrV_store]
  congr 2
  funext q
  by_cases hq : q = jn
  · subst hq
    simp [updV, va_up, va_rf, zad_lt (Nat.lt_of_lt_of_le hx h1.2.1)]
  · simp [updV, va_up, hq]
theorem z_aastN (C : zC G K y cc nL ret hs) (pc' : Nat) {i t len : Nat} {j : Int32} {f : Nat → Option Nat} {D : String} (jn : Nat) (hd : decode cc pc = .ok (.aastore, 1)) (hp : pc + 1 = pc') (hi : i < n) (hσ : σ i = .inl (t, len, .inr (.inr (.inr (.inr f))))) (ht : zTy[t]? = some (.object D)) (hj : j = nI jn) (hl : jn < len) (hs : len < 2 ^ 31)
    (k : Z G K n (va_up σ i (.inl (t, len, .inr (.inr (.inr (.inr (va_up f jn none))))))) k1 k2 pc' lv st) : Z G K n σ k1 k2 pc lv (.null :: .int j :: .ref i :: st) := by
  subst hp; subst hj
  intro H locs ls h1 h2 h3
  have hat := h1.2.2.2 i hi
  rw [hσ] at hat
  have hcn : (nI jn).toNatClampNeg = jn := nI_clamp (Nat.lt_trans hl hs)
  show W _ _ _ _ _ _ _ _ _ _ H locs k1 k2 _ (F0 _ pc ls (.null :: .int (nI jn) :: .ref (zad G i) :: st.map (zV G)))
  rw [zad_lt (Nat.lt_of_lt_of_le hi h1.2.1)]
  have hc : H[zz G + i]? = some (vp_cell (zcA G t) (len, .inr (.inr (.inr (.inr (fun i => (f i).map (zad G))))))) := hat
  rw [vp_cell_q] at hc
  refine va_WaastN (C := D) C.1 C.2.1 hc ((z_arrT C.kk ht).1 len (fun j => va_rf ((f j).map (zad G)))) (fun h => by cases h) (by rw [arrV_size]; exact vp_in_nI hl hs) rfl rfl hd fun H1 e z oq => ?_
  refine k H1 _ ls (h1.set z oq ?_) (z_locs h2 _ _) h3
  show H1[zz G + i]? = some (vp_cell (zcA G t) (len, .inr (.inr (.inr (.inr (fun i => (va_up f jn none i).map (zad G)))))))
  rw [e, hcn, vp_cell_q, arrV_store]
  congr 2
  funext q
  by_cases hq : q = jn
  · subst hq
    simp [updV, va_up, va_rf]
  · simp [updV, va_up, hq]
theorem z_arrc {c : ClassId} {N : Nat} {f g : Nat → Value} (h : ∀ j, j < N → f j = g j) : arrV c N f = arrV c N g := by
  unfold arrV
  congr 1
  exact congrArg Array.ofFn (funext fun j => h j.val j.isLt)
/-- new long[N][M] -/
def zrow (σ : zS) (n N M : Nat) : zS := fun i => if i < n then σ i else if i = n then .inl (6, N, .inr (.inr (.inr (.inr (fun j => if j < N then some (n + 1 + j) else none))))) else .inl (1, M, .inr (.inl (fun _ => 0)))
theorem z_outer (c : ClassId) (N h0 : Nat) : ∀ i : Nat, Jvm.Free.Multi.outerC c N h0 i = arrV c N (fun j => va_rf (if j < i then some (h0 + 1 + j) else none))
  | 0 => by
    show ({ cls := c, slots := Array.replicate N .null, vm := .none } : Cell) = _
    rw [arrV_new]
    exact congrArg (arrV c N) (funext fun j => by simp [va_rf])
  | i + 1 => by
    show (Jvm.Free.Multi.outerC c N h0 i).setSlot i (.ref (h0 + 1 + i)) = _
    rw [z_outer c N h0 i, arrV_store]
    refine congrArg (arrV c N) (funext fun j => ?_)
    by_cases e : j = i
    · subst e; simp [updV, va_rf]
    · by_cases h : j < i
      · simp [updV, e, h, Nat.lt_succ_of_lt h]
      · simp [updV, e, h, show ¬ j < i + 1 by omega]
theorem z_mna (C : zC G K y cc nL ret hs) (pc' : Nat) {idx : Nat} {a b : Int32} (N M : Nat) (hd : decode cc pc = .ok (.multianewarray idx 2, 4)) (hp : pc + 4 = pc') (w1 : Cond.classLink y.cls idx "[[J" ∈ zTb) (w2 : Cond.arrayOver (.array .long) ∈ zTb) (w3 : Cond.arrayClass .long ∈ zTb) (ha : a = nI N) (hb : b = nI M) (hN : N < 1000) (hM : M < 1000) (hn : n + 1 + N ≤ 1000000) (hc : k1 + (1 + N) ≤ (kR K).cells) (hl : k2 + (N + N * M) ≤ (kR K).slots)
    (k : Z G K (n + 1 + N) (zrow σ n N M) (k1 + 1 + N) (k2 + N + N * M) pc' lv (.ref n :: st)) : Z G K n σ k1 k2 pc lv (.int b :: .int a :: st) := by
  subst hp; subst ha; subst hb
  intro H locs ls h1 h2 h3 T hT X
  have cN : (nI N).toNatClampNeg = N := nI_clamp (by omega)
  have cM : (nI M).toNatClampNeg = M := nI_clamp (by omega)
  obtain ⟨vm₁, cA, comp, -, fA, fC, hO, -, X', step⟩ := X.multianewarray2F (ty := .long) C.1 C.own (C.ts _ w1) (C.ts _ w2) (C.ts _ w3) (g := F0 (km K) pc ls (.int (nI M) :: .int (nI N) :: st.map (zV G))) rfl (by rw [C.2.1]; exact hd) rfl (nI_pos (by omega)) (nI_pos (by omega)) (by rw [cN]; omega) (by rw [cM]; show M * 8 ≤ _; omega) (by rw [cM]; omega) rfl rfl (by rw [cN]; exact hc) (by rw [cN, cM]; exact hl)
  rw [cN, cM] at X' step
  have hcA : cA = zcA G 6 := Option.some.inj (fA.symm.trans (z_arrT C.kk (t := 6) rfl).2)
  have hcm : comp = zcA G 1 := Option.some.inj (fC.symm.trans (z_arrT C.kk (t := 1) rfl).2)
  subst hcA; subst hcm
  have hTh : (T.setVm vm₁).heap = H := hT
  generalize hF : Jvm.Free.Multi.fill (T.setVm vm₁) (zcA G 6) (zcA G 1) N M (defaultValue .long) N = F at X' step
  obtain ⟨f1, f2, -, -⟩ := Jvm.Free.Multi.fill_facts (T.setVm vm₁) (zcA G 6) (zcA G 1) N M (defaultValue .long) N
  rw [hF, hTh] at f1 f2
  have hold : ∀ x : Nat, x < H.size → F.heap[x]? = H[x]? := fun x hx => by
    have := Jvm.Free.Multi.fill_old (T.setVm vm₁) (zcA G 6) (zcA G 1) N M (defaultValue .long) (a := x) (by rw [hTh]; exact hx) N
    rw [hF, hTh] at this
    exact this
  have hrow : ∀ j : Nat, j < N → F.heap[H.size + 1 + j]? = some (arrV (zcA G 1) M (fun _ => .long 0)) := fun j hj => by
    have := Jvm.Free.Multi.fill_inner (T.setVm vm₁) (zcA G 6) (zcA G 1) N M (defaultValue .long) N j hj
    rw [hF, hTh] at this
    rw [this]
    show some ({ cls := zcA G 1, slots := Array.replicate M (.long 0), vm := .none } : Cell) = _
    rw [arrV_new]
  rw [z_outer] at f2
  have hsz := h1.1
  have hHW : zHW G (n + 1 + N) (zrow σ n N M) F.heap := by
    refine ⟨by omega, hn, fun q hq => (hold q (by omega)).trans (h1.2.2.1 q hq), fun i hi => ?_⟩
    by_cases e1 : i < n
    · rw [show zrow σ n N M i = σ i from if_pos e1]
      exact (h1.2.2.2 i e1).kept (hold _ (by show zz G + i < H.size; omega))
    · by_cases e2 : i = n
      · subst e2
        rw [show zrow σ i N M i = .inl (6, N, .inr (.inr (.inr (.inr (fun j => if j < N then some (i + 1 + j) else none))))) from (if_neg e1).trans (if_pos rfl)]
        show F.heap[zz G + i]? = some (vp_cell (zcA G 6) (N, .inr (.inr (.inr (.inr (fun j => (if j < N then some (i + 1 + j) else none).map (zad G)))))))
        rw [vp_cell_q, ← hsz, f2]
        refine congrArg some (z_arrc ?_)
        intro j hj
        simp only [if_pos hj, Option.map_some, va_rf]
        have hza : zad G (i + 1 + j) = H.size + 1 + j := by rw [zad_lt (by omega)]; omega
        rw [hza]
      · rw [show zrow σ n N M i = .inl (1, M, .inr (.inl (fun _ => 0))) from (if_neg e1).trans (if_neg e2)]
        show F.heap[zz G + i]? = some (vp_cell (zcA G 1) (M, .inr (.inl (fun _ => 0))))
        rw [vp_cell_l, ← hrow (i - (n + 1)) (by omega)]
        congr 1
        omega
  obtain ⟨t, a1, b1⟩ := k F.heap locs ls hHW h2 h3 F rfl X'
  refine ⟨t, step t ?_, b1⟩
  have e : (.ref T.heap.size : Value) = zV G (.ref n) := by show _ = Value.ref (zad G n); rw [zad_lt (by omega), hT, hsz]
  rw [e]
  exact a1
end ZO
