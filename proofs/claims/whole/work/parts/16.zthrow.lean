section ZTH
variable {G : zG} {K : zK} {y : MethodName} {cc : ByteArray} {nL : Nat} {ret : Option FieldType} {hs : List (Nat × Nat × Nat × Nat)} {n k1 k2 pc : Nat} {σ : zS} {lv : List (Nat × Value)} {st : List Value}
theorem z_out {pc9 : Nat} (C : zC G K y cc nL ret hs) (hout : ∀ h ∈ hs, (decide (h.1 ≤ pc9) && decide (pc9 < h.2.1)) = false) : ∀ z ∈ (kc K).exceptionTable.toList, covers z pc9 = false := fun z hz => by
  have h9 : (z.startPc, z.endPc, z.handlerPc, z.catchType) ∈ hs := by rw [← C.tab]; exact List.mem_map.mpr ⟨z, hz, rfl⟩
  exact hout _ h9
set_option maxHeartbeats 1000000 in
/-- throw new E("text") -/
theorem z_throwS (C : zC G K y cc nL ret hs) {ci ik is ic : Nat} {cls text : String} {names : List String} {T0 : u_T}
    (hcl : zCl[ci]? = some (cls, T0, 0)) (hfit : Bundle.fit cls = true) (hnames : ∀ n ∈ names, Bundle.fit n = true)
    (hk : Cond.classLink y.cls ik cls ∈ zTb) (hini : Cond.initialized cls ∈ zTb) (hstr : (y.cls, is, text) ∈ zStr) (hat : ∀ w ∈ vx_atS y.cls ic cls names, w ∈ zTb)
    (d0 : decode cc pc = .ok (.new ik, 3)) (d3 : decode cc (pc + 3) = .ok (.dup, 1)) (d4 : decode cc (pc + 4) = .ok (.ldc is, 2)) (d6 : decode cc (pc + 6) = .ok (.invokespecial ic, 3)) (d9 : decode cc (pc + 9) = .ok (.athrow, 1))
    (hout : ∀ h ∈ hs, (decide (h.1 ≤ pc + 9) && decide (pc + 9 < h.2.1)) = false)
    (hRf : names.length + 3 < (kR K).frames) (hRl : (st.map fun v => v.category).sum + (13 * (names.length + 1) + 43) ≤ (kR K).locals) (hn : n < 1000000) (hc : k1 + 1 ≤ (kR K).cells) (hl : k2 + 6 ≤ (kR K).slots) (hmc : k1 + 1 ≤ kmc K) (hms : k2 + 6 ≤ kms K)
    (hq : kpo K (.threw n) (n + 1) (va_up σ n (.inr (ci, [])))) : Z G K n σ k1 k2 pc lv st := by
  intro H locs ls h1 h2 h3 T hT X
  have htr : (ke K).platform.stackTraces = false := (show (ke K).platform.stackTraces = (kl K).stackTraces by rw [X.admits.platform]).trans C.tr
  have Y := vx_rebase X (R' := { frames := (kR K).frames, locals := (kR K).locals, cells := 1, slots := 6 }) (Nat.le_refl _) (Nat.le_refl _) hc hl
  obtain ⟨s', hA⟩ : ∃ z, z = (T.setVm (ks K).vm).setFrames (.invoking (km K) (ka K) :: (kb K)) := ⟨_, rfl⟩
  rw [← hA] at Y
  have hvm : s'.vm = (ks K).vm := by rw [hA]; rfl
  have hhp : s'.heap = H := by rw [hA]; exact hT
  have hW0 : (ks K).WarmedH s'.vm := by rw [hvm]; exact State.WarmedH.refl _
  have hts' : ∀ w ∈ zTb, w.before (ka K) s' = true := fun w hw => zok_at hW0 (zt_ok w hw) (C.ts w hw)
  have hS' : zStat G s' := zStat.moved hW0 (fun q hq => by rw [hhp]; exact h1.2.2.1 q hq) C.stat
  have h : ∀ w ∈ Bundle.ownAtoms y.cls ic cls names, w.before (ka K) s' = true := vx_own (fun w hw => hts' w (hat w hw)) (vx_isRefq hS'.2.1.1) (vx_isRefq hS'.2.2.1.1) hS'.2.1.2.word hS'.2.2.1.2.word
  have hown' : s'.vm.findClass y.cls = some (km K).cls := by rw [hvm]; exact C.own
  have hins : (Cond.instantiable cls 6).before (ka K) s' = true := h _ (by simp [Bundle.ownAtoms])
  obtain ⟨sa, hsa⟩ := hS'.2.2.2.1 _ hstr
  obtain ⟨vm₁, cX, kX, hfX, hkX, -, -, X₁, st1⟩ := Y.newCold C.1 (own := y.cls) (C := cls) (index := ik) (n := 6) hown' (hts' _ hk) hins (hts' _ hini)
    (g := F0 (km K) pc ls (st.map (zV G))) rfl (by rw [C.2.1]; exact d0) (Nat.le_refl _) (Nat.le_refl _)
  generalize hT1 : (T.setVm vm₁).pushCell { cls := cX, slots := kX.instanceTypes.map defaultValue, vm := .none } = T1 at X₁ st1
  have hcat : (Value.ref T.heap.size).category = 1 := rfl
  have hcm : ((st.map (zV G)).map fun v => v.category) = st.map fun v => v.category := by rw [List.map_map]; exact List.map_congr_left (fun v _ => zV_cat G v)
  have hcellA : T1.heap[T.heap.size]? = some (freshCell cX kX) := by rw [← hT1]; exact State.heap_pushCell_size _ _
  have d3' : decode (kc K).code (pc + 3) = .ok (.dup, 1) := by rw [C.2.1]; exact d3
  have d4' : decode (kc K).code (pc + 4) = .ok (.ldc is, 2) := by rw [C.2.1]; exact d4
  obtain ⟨U, hsteps, hrun, hend, hW, hsame, ce, hce, hO⟩ := X₁.ctorThrowS C.1 htr (own := y.cls) (cls := cls) (names := names) (ic := ic) hown' hfit hnames h (fun x hx => nomatch hx) hfX hkX hcellA (by rw [hhp, hT]; exact Nat.le_refl _) (msg := .ref sa) rfl
    (g := { method := km K, pc := pc + 6, locals := ls, stack := .ref sa :: .ref T.heap.size :: .ref T.heap.size :: st.map (zV G), locked := none }) rfl h3.1 rfl rfl (rest := st.map (zV G)) rfl
    (by rw [C.2.1]; exact d6) (by rw [C.2.1]; exact d9) (z_out C hout) hRf (by
      have hm0 : (({ method := km K, pc := pc + 6, locals := ls, stack := .ref sa :: .ref T.heap.size :: .ref T.heap.size :: st.map (zV G), locked := none } : JFrame)).monitorRoom = 0 := rfl
      simp only [List.map_cons, List.sum_cons, hcat, hcm, hm0]
      omega) C.lk
  obtain ⟨f1, f2⟩ := vx_frame hsame
  rw [hhp] at f1 f2
  have hTn : T.heap.size = zz G + n := by rw [hT]; exact h1.1
  have hzn : zad G n = zz G + n := zad_lt hn
  have hU : U.heap.size = H.size + 1 := by
    have a1 : U.heap.size ≤ s'.heap.size + (0 + 1) := hsame.2.2.1
    have a2 := (Array.getElem?_eq_some_iff.mp hce).1
    rw [hhp] at a1
    rw [hT] at a2
    omega
  have hWs : (ks K).WarmedH U.vm := State.WarmedH.trans hW0 hW
  have hce' : U.heap[zz G + n]? = some ce := by rw [← hTn]; exact hce
  have hat9 : va_at (zD G) zCl (zz G + n, zE G (.inr (ci, []))) U.heap := by
    refine ⟨_, hcl, ce, hce', ?_, hO.vm, fun k hk => absurd hk (Nat.not_lt_zero _)⟩
    have h9 := hO.cls
    rw [hvm] at h9
    exact Option.some.inj (h9.symm.trans (C.kk.1 ci _ hcl).2.1)
  have hall : (ks K).sameButNew ({ U with vm := (ks K).vm } : State) locs (kmc K) (kms K) := by
    subst hA
    obtain ⟨e1, e2⟩ := hsame
    rw [State.setFrames_setFrames] at e1
    have h2 : (T.setVm (ks K).vm).sameButNew ({ U with vm := (ks K).vm } : State) [] (0 + 1) (0 + 6) := ⟨e1, e2⟩
    have h3 := X.same.trans h2
    rw [List.append_nil] at h3
    exact h3.mono hmc hms
  refine ⟨U, ?_, .threw T.heap.size, hrun, hend, ⟨.threw n, n + 1, _, by show _ = Outcome.threw (zad G n); rw [hTn, hzn], hq, h1.push hn hU (fun q hq => f2 q hq (fun z hz => nomatch hz)) hat9⟩, locs, ⟨hWs, hall⟩, h2⟩
  refine st1 _ ?_
  show Steps (kp K).tables (ke K) (kb K) (T1.setTop { method := km K, pc := pc + 3, locals := ls, stack := .ref T.heap.size :: st.map (zV G), locked := none }) _
  jvm_step X₁.here [X₁.here.top, C.1, d3', Value.category]
  exact X₁.ldcString C.1 (own := y.cls) (text := text) (index := is) (a := sa) hown' hsa.1 hsa.2
    (g := { method := km K, pc := pc + 4, locals := ls, stack := .ref T.heap.size :: .ref T.heap.size :: st.map (zV G), locked := none }) rfl d4' _ hsteps
/-- caught by the row hh of the method's table, behind rows that don't take it -/
theorem zx_catch (C : zC G K y cc nL ret hs) {x ci : Nat} {E name : String} {T0 : u_T} {N : Nat} {fs : List Value} (pre : List (Nat × Nat × Nat × Nat)) (hh : Nat × Nat × Nat × Nat) (suf : List (Nat × Nat × Nat × Nat)) (hsp : hs = pre ++ hh :: suf)
    (hi : x < n) (hσ : σ x = .inr (ci, fs)) (hcl : zCl[ci]? = some (E, T0, N))
    (hpass : ∀ z ∈ pre, (decide (z.1 ≤ pc) && decide (pc < z.2.1)) = false ∨ (z.2.2.2 ≠ 0 ∧ ∃ nm, Cond.classLink y.cls z.2.2.2 nm ∈ zTb ∧ (E, nm) ∈ zNcs)) (hcov : (decide (hh.1 ≤ pc) && decide (pc < hh.2.1)) = true) (h0 : hh.2.2.2 ≠ 0)
    (hlink : Cond.classLink y.cls hh.2.2.2 name ∈ zTb) (hcast : Cond.castable E name ∈ zTb) (kk : Z G K n σ k1 k2 hh.2.2.1 lv [.ref x]) : ZX G K n σ k1 k2 pc lv st x := by
  intro H locs ls h1 h2 h3 T hT X
  have hpl : (ke K).platform.magicAccessors = ({} : Platform).magicAccessors := by rw [X.admits.platform]
  have hat := h1.2.2.2 x hi
  rw [hσ] at hat
  obtain ⟨r, r1, ce, z1, z2, z3, -⟩ := hat
  have hcls : (ks K).vm.findClass E = some ce.cls := by rw [z2]; exact (C.kk.1 ci _ hcl).2.1
  have hza : zad G x = zz G + x := zad_lt (Nat.lt_of_lt_of_le hi h1.2.1)
  have hcell : T.heap[zad G x]? = some ce := by rw [hT, hza]; exact z1
  obtain ⟨c3, c4, hc3, hc4, hasg⟩ := Cond.castable_spec (C.ts _ hcast)
  cases Option.some.inj (hc3.symm.trans hcls)
  obtain ⟨c5, hc5, hcl5⟩ := Cond.classLink_spec C.own (C.ts _ hlink) (ke K).platform hpl
  cases Option.some.inj (hc4.symm.trans hc5)
  have hm := C.tab
  rw [hsp] at hm
  obtain ⟨preT, restT, e1, e2, e3⟩ := List.map_eq_append_iff.mp hm
  obtain ⟨xT, sufT, e4, e5, e6⟩ := List.map_eq_cons_iff.mp e3
  subst e5
  obtain ⟨vm', X', st'⟩ := X.thenCaughtThrough (zad G x) (g := F0 (km K) pc ls (st.map (zV G))) rfl (Steps.refl _) hcell (by rw [z3]; rfl) (by obtain ⟨k9, h9, -⟩ := Vm.findClass_spec hcls; exact ⟨k9, h9⟩) preT xT sufT (by rw [e1, e4])
    (fun z hz => by
      rcases hpass _ (by rw [← e2]; exact List.mem_map.mpr ⟨z, hz, rfl⟩) with h | ⟨hz0, nm, hl1, hn1⟩
      · exact Or.inl h
      · obtain ⟨c6, hc6, hcl6⟩ := Cond.classLink_spec C.own (C.ts _ hl1) (ke K).platform hpl
        obtain ⟨a8, b8, q1, q2, q3⟩ := C.stat.2.2.2.2.1 _ hn1
        cases Option.some.inj (q1.symm.trans hcls)
        cases Option.some.inj (q2.symm.trans hc6)
        exact Or.inr ⟨hz0, _, hcl6, q3⟩) hcov (Or.inr ⟨h0, c4, hcl5, hasg⟩)
  obtain ⟨t, a1, b1⟩ := kk H locs ls h1 h2 h3 (T.setVm vm') hT X'
  exact ⟨t, st'.trans a1, b1⟩
end ZTH
