section ZL
variable {G : zG} {K : zK} {y : MethodName} {cc : ByteArray} {nL : Nat} {ret : Option FieldType} {hs : List (Nat × Nat × Nat × Nat)} {n k1 k2 pc : Nat} {σ : zS} {lv : List (Nat × Value)} {st : List Value}
def zRm (d mc ms : Nat) : Room := { frames := d, cells := mc, slots := ms, locals := 60 * d }
/-- a method's code word: without handlers, or with them -/
def zWd (y : MethodName) (cc : ByteArray) (nL : Nat) (ret : Option FieldType) (hs : List (Nat × Nat × Nat × Nat)) : Cond := match hs with
  | [] => .code y cc nL ret
  | h :: t => .codeWith y cc nL ret (h :: t)
theorem zWd_spec {a : Array Value} {u : State} {mk : MethodId} (h : (zWd y cc nL ret hs).before a u = true) (hn : u.methodNamed? y = some mk) :
    ∃ meth c, u.vm.method? mk = some meth ∧ meth.code = some c ∧ c.code = cc ∧ c.maxLocals = nL ∧ meth.sig.returnType = ret ∧ meth.locks = false ∧ c.exceptionTable.toList.map (fun h => (h.startPc, h.endPc, h.handlerPc, h.catchType)) = hs ∧ parseMethodDescriptor y.desc = some meth.sig := by
  cases hs with
  | nil =>
    obtain ⟨meth, c, h1, h2, h3, h4, h5, h6, h7, h8⟩ := Cond.code_spec hn h
    refine ⟨meth, c, h1, h2, h3, h4, h5, h6, ?_, h8⟩
    have h0 : c.exceptionTable.size = 0 := by simpa [Array.isEmpty] using h7
    have h9 : c.exceptionTable.toList = [] := List.eq_nil_of_length_eq_zero (by simpa using h0)
    rw [h9]; rfl
  | cons x t =>
    obtain ⟨m, meth, c, h0, h1, h2, h3, h4, h5, h6, h7, h8⟩ := Cond.codeWith_spec h
    cases h0.symm.trans hn
    exact ⟨meth, c, h1, h2, h3, h4, h6, h7, h5, h8⟩
def MetZ (G : zG) (l : Launch) (y : MethodName) (cc : ByteArray) (nL : Nat) (ret : Option FieldType) (hs : List (Nat × Nat × Nat × Nat)) (d mc ms : Nat) (av : List Value) (n : Nat) (σ : zS) (post : zPost) : Prop :=
  l.stackTraces = false → xt_Met l y (zWd y cc nL ret hs :: zTb) (zRm d mc ms) (zPc G av n σ) (zQc G post) mc ms (fun q => zz G ≤ q)
theorem zargs_map (G : zG) : ∀ (av : List Value) (i : Nat), lv_args i (av.map (zV G)) = (lv_args i av).map (fun q => (q.1, zV G q.2))
  | [], _ => rfl
  | v :: t, i => by
    rw [List.map_cons, lv_args, lv_args, List.map_cons, zV_cat, zargs_map G t]
theorem zargs_len (G : zG) : ∀ av : List Value, (lg_sl (av.map (zV G))).length = (lg_sl av).length
  | [] => rfl
  | v :: t => by
    have h := zargs_len G t
    simp only [lg_sl, List.map_cons, List.flatMap_cons, List.length_append, zV_cat] at h ⊢
    rw [h]
    congr 1
    split <;> rfl
theorem MetZ.of {l : Launch} {d mc ms : Nat} {av : List Value} {post : zPost} (hy : plainName y.cls = true) (hl : (lg_sl av).length ≤ nL)
    (body : ∀ K : zK, kl K = l → kR K = zRm d mc ms → kpo K = post → kmc K = mc → kms K = ms → zC G K y cc nL ret hs → Z G K n σ 0 0 0 (lv_args 0 av) []) : MetZ G l y cc nL ret hs d mc ms av n σ post := by
  intro htr
  refine xt_ofW (cc := cc) (maxL := nL) (ret := ret) hy (fun a u mk h hn => ?_) ?_
  · obtain ⟨meth, c, h1, h2, h3, h4, h5, h6, -, -⟩ := zWd_spec (h _ List.mem_cons_self) hn
    exact ⟨meth, c, h1, h2, h3, h4, h5, h6⟩
  · intro p e s m args below meth c s₁ B hml hv
    obtain ⟨rfl, hH, hK, hS⟩ := hv
    have hpre := atoms_spec (ws := zWd y cc nL ret hs :: zTb) B.pre
    obtain ⟨meth', c', m1, m2, -, -, -, -, m7, -⟩ := zWd_spec (hpre _ List.mem_cons_self) B.named
    cases B.method.symm.trans m1
    cases (Stand.of_body B).code.symm.trans m2
    have k := body (p, l, e, zRm d mc ms, s, m, (av.map (zV G)).toArray, below, meth, c, post, mc, ms) rfl rfl rfl rfl rfl
      ⟨B.exec, B.bytes, hml, B.returns, findClass_of_methodNamed B.named, fun w hw => hpre w (List.mem_cons_of_mem _ hw), hK, B.notSynchronized, m7, (name_of_methodNamed B.named B.method).1, htr, hS⟩
    have hle := lv_entry (av.map (zV G)) (n := nL) (by rw [zargs_len]; exact hl)
    rw [zargs_map] at hle
    rw [lg_entry_eq]
    refine k s.heap [] _ hH (fun q hq => nomatch hq) ?_
    show lv_has _ c.maxLocals _
    rw [hml]
    exact hle
/-- the way from an invoking instruction to the callee -/
def zGo (K : zK) (g g' : JFrame) (y : MethodName) (a : Array Value) (H : Heap) : Prop := ∀ (T : State) (locs : List Loc) (k1 k2 : Nat), T.heap = H → Stand (kp K) (kl K) (ke K) (kR K) (ks K) (km K) (ka K) (kb K) (kme K) (kc K) T locs k1 k2 →
  ∃ (vm₁ : Vm) (mk : MethodId), Stand (kp K) (kl K) (ke K) (kR K) (ks K) (km K) (ka K) (kb K) (kme K) (kc K) (T.setVm vm₁) locs k1 k2 ∧ (T.setVm vm₁).methodNamed? y = some mk ∧
    ∀ target, (∀ acts, Steps (kp K).tables (ke K) (kb K) (doInvoke (ke K) ((T.setVm vm₁).setTop g') acts mk a).1 target) → Steps (kp K).tables (ke K) (kb K) (T.setTop g) target
/-- an exception x on its way through the frame -/
def ZX (G : zG) (K : zK) (n : Nat) (σ : zS) (k1 k2 pc : Nat) (lv : List (Nat × Value)) (st : List Value) (x : Nat) : Prop :=
  ∀ (H : Heap) (locs : List Loc) (ls : Array Slot), zHW G n σ H → (∀ q ∈ locs, zz G ≤ q.base) → lv_has ls (kc K).maxLocals (lv.map fun q => (q.1, zV G q.2)) →
    ∀ T : State, T.heap = H → Stand (kp K) (kl K) (ke K) (kR K) (ks K) (km K) (ka K) (kb K) (kme K) (kc K) T locs k1 k2 →
      ∃ t, Steps (kp K).tables (ke K) (kb K) ((T.setTop (F0 (km K) pc ls (st.map (zV G)))).pushFrame (.throwing (zad G x))) t ∧ zQ G K t
theorem zx_out (C : zC G K y cc nL ret hs) {x : Nat} (hout : ∀ h ∈ hs, (decide (h.1 ≤ pc) && decide (pc < h.2.1)) = false) (hq : kpo K (.threw x) n σ) (hc : k1 ≤ kmc K) (hl : k2 ≤ kms K) : ZX G K n σ k1 k2 pc lv st x := by
  intro H locs ls h1 h2 h3 T hT X
  have ho : ∀ z ∈ (kc K).exceptionTable.toList, covers z pc = false := fun z hz => by
    have h9 : (z.startPc, z.endPc, z.handlerPc, z.catchType) ∈ hs := by rw [← C.tab]; exact List.mem_map.mpr ⟨z, hz, rfl⟩
    exact hout _ h9
  obtain ⟨s1, s2, s3, s4, s5⟩ := (stand_widen X hc hl).leaveThrown (zad G x) (g := F0 (km K) pc ls (st.map (zV G))) rfl rfl rfl ho C.lk
  exact ⟨_, s1, .threw (zad G x), s2, s3, ⟨.threw x, n, σ, rfl, hq, by show zHW G n σ T.heap; rw [hT]; exact h1⟩, locs, ⟨s4, s5⟩, h2⟩
theorem z_call (C : zC G K y cc nL ret hs) (pc' : Nat) {yc : MethodName} {ccc : ByteArray} {nLc d mc ms len : Nat} {retc : Option FieldType} {hsc : List (Nat × Nat × Nat × Nat)} {av st0 : List Value} {post : zPost} {ig : Instr}
    (hM : MetZ G (kl K) yc ccc nLc retc hsc d mc ms av n σ post) (hwd : zWd yc ccc nLc retc hsc ∈ zTb) (hini : Cond.initialized yc.cls ∈ zTb) (hd : decode cc pc = .ok (ig, len)) (hp : pc + len = pc')
    (hgo : ∀ (H : Heap) (ls : Array Slot), zHW G n σ H → ls.size = (kc K).maxLocals → zGo K (F0 (km K) pc ls (st0.map (zV G))) (F0 (km K) pc ls (st.map (zV G))) yc (av.map (zV G)).toArray H)
    (hwt : (st.map fun v => v.category).sum ≤ 8) (hfr : d + 1 ≤ (kR K).frames) (hlo : 8 + (nLc + 11) + 60 * d ≤ (kR K).locals) (hc : k1 + mc ≤ (kR K).cells) (hl : k2 + ms ≤ (kR K).slots)
    (kr : ∀ v n' σ', post (.returned v) n' σ' → Z G K n' σ' (k1 + mc) (k2 + ms) pc' lv (v.toList ++ st))
    (kx : ∀ x n' σ', post (.threw x) n' σ' → ZX G K n' σ' (k1 + mc) (k2 + ms) pc lv st x) : Z G K n σ k1 k2 pc lv st0 := by
  subst hp
  intro H locs ls h1 h2 h3 T hT X
  obtain ⟨vm₁, mk, X₁, hn, hstep⟩ := hgo H ls h1 h3.1 T locs k1 k2 hT X
  have hT1 : (T.setVm vm₁).heap = H := hT
  have hws : ∀ w ∈ zTb, ∀ a' : Array Value, w.before a' (T.setVm vm₁) = true := fun w hw a' => zok_at X₁.warmed (zt_ok w hw) (C.ts w hw)
  obtain ⟨methY, cY, m1, m2, -, m4, -, -, -, -⟩ := zWd_spec (hws _ hwd #[]) hn
  obtain ⟨o, t, T', L, hq, hL, e1, e2, hW', X', hret, hthr⟩ := xt_call (hM C.tr) X₁ (g := F0 (km K) pc ls (st.map (zV G))) rfl h3.1 (by rw [C.2.1]; exact hd) (W9 := 8) (maxL := nLc)
    (by
      have hcat : ((st.map (zV G)).map fun v => v.category) = st.map fun v => v.category := by rw [List.map_map]; exact List.map_congr_left (fun v _ => zV_cat G v)
      exact lv_room (by rw [hcat]; exact hwt)) hn (av.map (zV G)).toArray rfl rfl hfr hlo
    (fun w hw => by
      rcases List.mem_cons.mp hw with rfl | hw
      · exact hws _ hwd _
      · exact hws w hw _) m1 m2 m4 (hws _ hini _) hc hl
    ⟨rfl, by show zHW G n σ (T.setVm vm₁).heap; rw [hT1]; exact h1, va_K.moved X₁.warmed.alike C.kk, zStat.moved X₁.warmed (fun q hq => (by show (T.setVm vm₁).heap[q]? = _; rw [hT1]; exact (h1.2.2.1 q hq))) C.stat⟩
  obtain ⟨o', n', σ', rfl, hpo, hH'⟩ := hq
  have h2' : ∀ q ∈ locs ++ L, zz G ≤ q.base := fun q hq => (List.mem_append.mp hq).elim (h2 q) (hL q)
  cases o' with
  | returned v =>
    obtain ⟨t2, a1, b1⟩ := kr v n' σ' hpo T'.heap (locs ++ L) ls (by rw [e1]; exact hH') h2' h3 T' rfl X'
    refine ⟨t2, hstep _ (fun acts => ?_), b1⟩
    rw [doInvoke_state]
    refine (hret _ rfl).trans ?_
    have e : (v.toList ++ st).map (zV G) = (v.map (zV G)).toList ++ st.map (zV G) := by cases v <;> simp
    rw [e] at a1
    exact a1
  | threw x =>
    obtain ⟨t2, a1, b1⟩ := kx x n' σ' hpo T'.heap (locs ++ L) ls (by rw [e1]; exact hH') h2' h3 T' rfl X'
    refine ⟨t2, hstep _ (fun acts => ?_), b1⟩
    rw [doInvoke_state]
    exact (hthr _ rfl).trans a1
/-- words of a call: link, kind, selection -/
def zLV (own : String) (idx : Nat) (Cn : String) (y : MethodName) (k : Nat) : Prop := Cond.methodLink own idx y ∈ zTb ∧ Cond.instanceMethod y ∈ zTb ∧ Cond.selects Cn y y ∈ zTb ∧ (y.cls ≠ "java/lang/invoke/MethodHandle" ∧ y.cls ≠ "java/lang/invoke/VarHandle") ∧ (parseMethodDescriptor y.desc).map (fun q => q.parameters.length) = some k
theorem z_len {y : MethodName} {k : Nat} {sig : MethodDescriptor} (h : (parseMethodDescriptor y.desc).map (fun q => q.parameters.length) = some k) (hs : parseMethodDescriptor y.desc = some sig) : k = sig.parameters.length := by
  rw [hs] at h
  exact (Option.some.inj h).symm
theorem z_goV (C : zC G K y cc nL ret hs) {yc : MethodName} {ccc : ByteArray} {nLc idx ci i k : Nat} {retc : Option FieldType} {hsc : List (Nat × Nat × Nat × Nat)} {Cn : String} {T0 : u_T} {N : Nat} {fs As : List Value}
    (hL : zLV y.cls idx Cn yc k) (hwd : zWd yc ccc nLc retc hsc ∈ zTb) (hd : decode cc pc = .ok (.invokevirtual idx, 3)) (hi : i < n) (hσ : σ i = .inr (ci, fs)) (hcl : zCl[ci]? = some (Cn, T0, N)) (hk : As.length = k) :
    ∀ (H : Heap) (ls : Array Slot), zHW G n σ H → ls.size = (kc K).maxLocals → zGo K (F0 (km K) pc ls ((As.reverse ++ .ref i :: st).map (zV G))) (F0 (km K) pc ls (st.map (zV G))) yc ((.ref i :: As).map (zV G)).toArray H := by
  intro H ls h1 hsz T locs k1 k2 hT X
  obtain ⟨l1, l2, l3, l4, l5⟩ := hL
  obtain ⟨mk, methM, hnamed, hmethM, hstM, habM⟩ := Cond.instanceMethod_spec (C.ts _ l2)
  obtain ⟨methM', cM, hmethM', -, -, -, -, -, -, hsigM⟩ := zWd_spec (C.ts _ hwd) hnamed
  cases hmethM.symm.trans hmethM'
  obtain ⟨c2, r2, m2, q1, q2, q3, q4, kP, hkP, hkPi⟩ := Cond.selects_spec (C.ts _ l3)
  have hat := h1.2.2.2 i hi
  rw [hσ] at hat
  obtain ⟨r, r1, cell, z1, z2, z3, -⟩ := hat
  have hcls : (ks K).vm.findClass Cn = some cell.cls := by rw [z2]; exact (C.kk.1 ci _ hcl).2.1
  cases hcls.symm.trans q1
  cases (State.methodFound?_of_named hnamed l4).symm.trans q2
  cases hnamed.symm.trans q3
  have hselP : selectMethod (ke K).platform (ks K).vm cell.cls mk = .method mk := by rw [Launch.admits_selectMethod X.admits]; exact q4
  have hza : zad G i = zz G + i := zad_lt (Nat.lt_of_lt_of_le hi h1.2.1)
  obtain ⟨vm₁, X₁, hstep₁⟩ := X.invokevirtual C.1 C.own (C.ts _ l1) hnamed hmethM hstM hkP hkPi l4 (a := zad G i) (cell := cell) (by rw [hT, hza]; exact z1)
    (fun z h => by rw [z3] at h; cases h) hselP hmethM habM hkP hkPi (g := F0 (km K) pc ls ((As.reverse ++ .ref i :: st).map (zV G))) rfl (argsL := As.map (zV G)) (rest := st.map (zV G))
    (by rw [List.length_map, hk]; exact z_len l5 hsigM) (by simp [zV]) (by rw [C.2.1]; exact hd)
  exact ⟨vm₁, mk, X₁, X₁.named hnamed, hstep₁⟩
def zLS (own : String) (idx : Nat) (y : MethodName) (k : Nat) : Prop := Cond.methodLink own idx y ∈ zTb ∧ Cond.static y ∈ zTb ∧ Cond.initialized y.cls ∈ zTb ∧ (y.cls ≠ "java/lang/invoke/MethodHandle" ∧ y.cls ≠ "java/lang/invoke/VarHandle") ∧ (parseMethodDescriptor y.desc).map (fun q => q.parameters.length) = some k
theorem z_goS (C : zC G K y cc nL ret hs) {yc : MethodName} {ccc : ByteArray} {nLc idx k : Nat} {retc : Option FieldType} {hsc : List (Nat × Nat × Nat × Nat)} {As : List Value}
    (hL : zLS y.cls idx yc k) (hwd : zWd yc ccc nLc retc hsc ∈ zTb) (hnm : ∀ (a : Array Value) (u : State), (zWd yc ccc nLc retc hsc).before a u = true → ∃ mk, u.methodNamed? yc = some mk) (hd : decode cc pc = .ok (.invokestatic idx, 3)) (hk : As.length = k) :
    ∀ (H : Heap) (ls : Array Slot), zHW G n σ H → ls.size = (kc K).maxLocals → zGo K (F0 (km K) pc ls ((As.reverse ++ st).map (zV G))) (F0 (km K) pc ls (st.map (zV G))) yc (As.map (zV G)).toArray H := by
  intro H ls h1 hsz T locs k1 k2 hT X
  obtain ⟨l1, l2, l3, l4, l5⟩ := hL
  obtain ⟨mk, hnamed⟩ := hnm _ _ (C.ts _ hwd)
  obtain ⟨methM, cM, hmethM, -, -, -, -, -, -, hsigM⟩ := zWd_spec (C.ts _ hwd) hnamed
  have hstatic : methM.isStatic = true := Cond.static_spec hnamed hmethM (C.ts _ l2)
  obtain ⟨kP, hkP, -⟩ := className_of_methodNamed hnamed
  have hinitP : kP.init = .initialized := Cond.initialized_spec (findClass_of_methodNamed hnamed) hkP (C.ts _ l3)
  obtain ⟨vm₁, X₁, hstep₁⟩ := X.invokestatic C.1 C.own (C.ts _ l1) hnamed hmethM hstatic hkP hinitP l4 (g := F0 (km K) pc ls ((As.reverse ++ st).map (zV G))) rfl (argsL := As.map (zV G)) (rest := st.map (zV G))
    (by rw [List.length_map, hk]; exact z_len l5 hsigM) (by simp) (by rw [C.2.1]; exact hd)
  exact ⟨vm₁, mk, X₁, X₁.named hnamed, hstep₁⟩
def zLI (own : String) (idx : Nat) (y : MethodName) (k : Nat) : Prop := Cond.methodLink own idx y ∈ zTb ∧ Cond.instanceMethod y ∈ zTb ∧ y.name = "<init>" ∧ (y.cls ≠ "java/lang/invoke/MethodHandle" ∧ y.cls ≠ "java/lang/invoke/VarHandle") ∧ (parseMethodDescriptor y.desc).map (fun q => q.parameters.length) = some k
theorem z_goI (C : zC G K y cc nL ret hs) {yc : MethodName} {ccc : ByteArray} {nLc idx i k : Nat} {As : List Value}
    (hL : zLI y.cls idx yc k) (hwd : zWd yc ccc nLc none [] ∈ zTb) (hd : decode cc pc = .ok (.invokespecial idx, 3)) (hk : As.length = k) :
    ∀ (H : Heap) (ls : Array Slot), zHW G n σ H → ls.size = (kc K).maxLocals → zGo K (F0 (km K) pc ls ((As.reverse ++ .ref i :: st).map (zV G))) (F0 (km K) pc ls (st.map (zV G))) yc ((.ref i :: As).map (zV G)).toArray H := by
  intro H ls h1 hsz T locs k1 k2 hT X
  obtain ⟨l1, l2, l3, l4, l5⟩ := hL
  have hpl : (ke K).platform.magicAccessors = ({} : Platform).magicAccessors := by rw [X.admits.platform]
  obtain ⟨mk, methM, cM, kP, vm₁, hnamed, hmethM, hcodeM, -, hlocalsM, -, hkP, -, hW₁, hstep₁⟩ := Steps.initColdArgs (e := ke K) X.here C.1 X.warmed hpl C.own l3 l4 (C.ts _ l1) (C.ts _ l2) (C.ts _ hwd) (f := F0 (km K) pc ls ((As.reverse ++ .ref i :: st).map (zV G))) rfl (argsL := As.map (zV G)) (rest := st.map (zV G)) (a := zad G i)
    (fun sig hsig => by rw [List.length_map, hk]; exact z_len l5 hsig) (by simp [zV]) (by rw [C.2.1]; exact hd)
  have X₁ := X.noted hW₁
  exact ⟨vm₁, mk, X₁, X₁.named hnamed, hstep₁⟩
end ZL
