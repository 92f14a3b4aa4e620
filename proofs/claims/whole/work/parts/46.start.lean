theorem tl1 (i : Nat) {w : Cond} (h : tables_1_1[i]? = some w) : w ∈ lw_tbl := List.mem_append_right _ (show w ∈ tables_1 from (List.mem_append_left _ (List.mem_of_getElem? h)))
theorem tl2 (i : Nat) {w : Cond} (h : tables_1_2[i]? = some w) : w ∈ lw_tbl := List.mem_append_right _ (show w ∈ tables_1 from (List.mem_append_right _ (List.mem_append_left _ (List.mem_of_getElem? h))))
theorem tl3 (i : Nat) {w : Cond} (h : tables_1_3[i]? = some w) : w ∈ lw_tbl := List.mem_append_right _ (show w ∈ tables_1 from (List.mem_append_right _ (List.mem_append_right _ (List.mem_append_left _ (List.mem_of_getElem? h)))))
theorem tl4 (i : Nat) {w : Cond} (h : tables_1_4[i]? = some w) : w ∈ lw_tbl := List.mem_append_right _ (show w ∈ tables_1 from (List.mem_append_right _ (List.mem_append_right _ (List.mem_append_right _ (List.mem_append_left _ (List.mem_of_getElem? h))))))
theorem iw_S : Cond.instantiable "SoleArrays" 10 ∈ zTb := zt1 25 (by decide +kernel) rfl
theorem iw_T : Cond.instantiable "SoleArrays$Fault" 1 ∈ zTb := zt1 33 (by decide +kernel) rfl
theorem iw_F : Cond.instantiable "SoleArrays$Function" 7 ∈ zTb := zt2 57 (by decide +kernel) rfl
theorem iw_E : Cond.instantiable "SoleArrays$Expression" 10 ∈ zTb := zt2 159 (by decide +kernel) rfl
theorem iw_R : Cond.instantiable "SoleArrays$Reader" 4 ∈ zTb := zt2 34 (by decide +kernel) rfl
theorem iw_C : Cond.instantiable "SoleArrays$Checker" 5 ∈ zTb := zt3 59 (by decide +kernel) rfl
theorem iw_O : Cond.instantiable "SoleArrays$Store" 7 ∈ zTb := zt1 53 (by decide +kernel) rfl
theorem iw_U : Cond.instantiable "SoleArrays$Runner" 5 ∈ zTb := zt1 47 (by decide +kernel) rfl
theorem iw_M : Cond.instantiable "SoleArraysModel" 51 ∈ zTb := zt4 54 (by decide +kernel) rfl
theorem iw_1 : Cond.instantiable "java/lang/IllegalArgumentException" 6 ∈ zTb := zt2 71 (by decide +kernel) rfl
theorem iw_2 : Cond.instantiable "java/lang/IllegalStateException" 6 ∈ zTb := zt3 89 (by decide +kernel) rfl
theorem iw_3 : Cond.instantiable "java/lang/IndexOutOfBoundsException" 6 ∈ zTb := zt1 191 (by decide +kernel) rfl
theorem iw_4 : Cond.instantiable "java/lang/ArithmeticException" 6 ∈ zTb := zt3 222 (by decide +kernel) rfl
theorem iw_5 : Cond.instantiable "java/lang/UnsupportedOperationException" 6 ∈ zTb := zt3 198 (by decide +kernel) rfl
theorem ao_exp : Cond.arrayOver (FieldType.object "SoleArrays$Expression") ∈ zTb := zt2 167 (by decide +kernel) rfl
theorem ls_U : Cond.laysStatic "java/lang/Throwable" "UNASSIGNED_STACK" "[Ljava/lang/StackTraceElement;" ∈ lw_tbl := tl1 217 (by decide +kernel)
theorem ls_Q : Cond.laysStatic "java/lang/Throwable" "SUPPRESSED_SENTINEL" "Ljava/util/List;" ∈ lw_tbl := tl1 219 (by decide +kernel)
theorem ini_T0 : Cond.initialized "java/lang/Throwable" ∈ zTb := zt1 8 (by decide +kernel) rfl
theorem sr_0 : Cond.stringRef "SoleArrays$Store" 89 "no number there" ∈ lw_tbl := tl1 233 (by decide +kernel)
theorem sr_1 : Cond.stringRef "SoleArrays$Fault" 17 "the text is ill" ∈ lw_tbl := tl2 79 (by decide +kernel)
theorem sr_2 : Cond.stringRef "SoleArrays$Fault" 24 "the function is wrong" ∈ lw_tbl := tl3 97 (by decide +kernel)
theorem sr_3 : Cond.stringRef "SoleArrays" 87 "no such function, or one that takes more than numbers" ∈ lw_tbl := tl3 183 (by decide +kernel)
theorem sr_4 : Cond.stringRef "SoleArrays$Runner" 55 "too many expressions" ∈ lw_tbl := tl3 206 (by decide +kernel)
theorem sr_5 : Cond.stringRef "SoleArrays$Runner" 133 "divided by 0" ∈ lw_tbl := tl3 230 (by decide +kernel)
theorem sr_6 : Cond.stringRef "SoleArrays$Store" 39 "a size below 0" ∈ lw_tbl := tl4 2 (by decide +kernel)
theorem sr_7 : Cond.stringRef "SoleArrays$Store" 48 "too many numbers, rows or columns" ∈ lw_tbl := tl4 6 (by decide +kernel)
theorem sr_8 : Cond.stringRef "SoleArrays$Store" 55 "too many arrays" ∈ lw_tbl := tl4 12 (by decide +kernel)
theorem sr_9 : Cond.stringRef "SoleArrays$Runner" 151 "too many calls in one another" ∈ lw_tbl := tl4 52 (by decide +kernel)
theorem st_D {args : Array Value} {s : State} (hts : ∀ w ∈ zTb, w.before args s = true) : ∃ D : va_G, ∀ (c : Nat) (q : vw_C), zCl[c]? = some q → u_Kn s q.1 q.2.1 q.2.2 (D.1 c) (D.2 c) := by
  have one : ∀ (C : String) (T : u_T) (N n : Nat), (∀ w ∈ u_ws C T N, w ∈ zTb) → Cond.instantiable C n ∈ zTb → ∃ r : ClassId × (Nat → Nat), ∀ q : vw_C, some (C, T, N) = some q → u_Kn s q.1 q.2.1 q.2.2 r.1 r.2 := fun C T N n h1 h2 => by
    obtain ⟨cC, iS, h⟩ := u_known hts h1 (hts _ h2)
    exact ⟨(cC, iS), fun q hq => by cases hq; exact h⟩
  have x0 : ∀ C : String, ∀ w ∈ u_ws C F_X 0, w ∈ zTb := fun C w hw => nomatch hw
  have h : ∀ c : Nat, ∃ r : ClassId × (Nat → Nat), ∀ q : vw_C, zCl[c]? = some q → u_Kn s q.1 q.2.1 q.2.2 r.1 r.2 := fun c => by
    match c with
    | 0 => exact one _ _ _ _ in_S iw_S
    | 1 => exact one _ _ _ _ in_T iw_T
    | 2 => exact one _ _ _ _ in_F iw_F
    | 3 => exact one _ _ _ _ in_E iw_E
    | 4 => exact one _ _ _ _ in_R iw_R
    | 5 => exact one _ _ _ _ in_C iw_C
    | 6 => exact one _ _ _ _ in_O iw_O
    | 7 => exact one _ _ _ _ in_U iw_U
    | 8 => exact one _ _ _ _ in_M iw_M
    | 9 => exact one _ _ _ _ (x0 _) iw_1
    | 10 => exact one _ _ _ _ (x0 _) iw_2
    | 11 => exact one _ _ _ _ (x0 _) iw_3
    | 12 => exact one _ _ _ _ (x0 _) iw_4
    | 13 => exact one _ _ _ _ (x0 _) iw_5
    | n + 14 => exact ⟨(0, fun _ => 0), fun q hq => nomatch hq⟩
  obtain ⟨g, hg⟩ := Classical.axiomOfChoice h
  exact ⟨(fun c => (g c).1, fun c => (g c).2), hg⟩
theorem st_A {args : Array Value} {s : State} (hts : ∀ w ∈ zTb, w.before args s = true) : ∃ cA : Nat → ClassId, ∀ (k : Nat) (ty : FieldType), zTy[k]? = some ty → ArrOfT s (cA k) ty ∧ va_RA s (cA k) ty := by
  have h : ∀ k : Nat, ∃ c : ClassId, ∀ ty : FieldType, zTy[k]? = some ty → ArrOfT s c ty ∧ va_RA s c ty := fun k => by
    match k with
    | 0 =>
      obtain ⟨c, kA, comp, h1, h2, h3⟩ := Cond.arrayClass_spec (hts _ aw_int)
      exact ⟨c, fun ty ht => by cases ht; exact ⟨fun n z => ⟨fun k h => (by cases h), kA, h2, comp, h3⟩, h1⟩⟩
    | 1 =>
      obtain ⟨c, kA, comp, h1, h2, h3⟩ := Cond.arrayClass_spec (hts _ aw_long)
      exact ⟨c, fun ty ht => by cases ht; exact ⟨fun n z => ⟨fun k h => (by cases h), kA, h2, comp, h3⟩, h1⟩⟩
    | 2 =>
      obtain ⟨c, kA, comp, h1, h2, h3⟩ := Cond.arrayClass_spec (hts _ aw_char)
      exact ⟨c, fun ty ht => by cases ht; exact ⟨fun n z => ⟨fun k h => (by cases h), kA, h2, comp, h3⟩, h1⟩⟩
    | 3 =>
      obtain ⟨c, kA, comp, h1, h2, h3⟩ := Cond.arrayClass_spec (hts _ aw_boolean)
      exact ⟨c, fun ty ht => by cases ht; exact ⟨fun n z => ⟨fun k h => (by cases h), kA, h2, comp, h3⟩, h1⟩⟩
    | 4 =>
      obtain ⟨comp, c, kA, h0, -, h2, h3, h1⟩ := Cond.arrayOver_spec (hts _ ao_fun)
      exact ⟨c, fun ty ht => by cases ht; exact ⟨fun n z => ⟨fun k h => (by cases h), kA, h2, comp, h3⟩, kA, comp, h2, h3, h0, h1⟩⟩
    | 5 =>
      obtain ⟨comp, c, kA, h0, -, h2, h3, h1⟩ := Cond.arrayOver_spec (hts _ ao_exp)
      exact ⟨c, fun ty ht => by cases ht; exact ⟨fun n z => ⟨fun k h => (by cases h), kA, h2, comp, h3⟩, kA, comp, h2, h3, h0, h1⟩⟩
    | 6 =>
      obtain ⟨comp, c, kA, h0, h2, h3, h1⟩ := Cond.arrayOver_specA (hts _ ao_row)
      exact ⟨c, fun ty ht => by cases ht; exact ⟨fun n z => ⟨fun k h => (by cases h), kA, h2, comp, h3⟩, h1⟩⟩
    | n + 7 => exact ⟨0, fun ty hq => nomatch hq⟩
  obtain ⟨g, hg⟩ := Classical.axiomOfChoice h
  exact ⟨g, hg⟩
def gvn (args : Array Value) (s : State) : Prop := (Jvm.Cond.and given_1 narrow_1).before args s = true
theorem st_s {own tx : String} {k : Nat} {args : Array Value} {s : State} (h : (Cond.exactly (Term.string own k) "java/lang/String").before args s = true) (h1 : (Cond.stringRef own k tx).before args s = true) : ∃ a, vk_R own k tx a s := by
  obtain ⟨a, c, cell, kC, he, -⟩ := Cond.exactly_spec h
  exact ⟨a, vk_R.of h1 he⟩
theorem st_str {args : Array Value} {s : State} (hts : ∀ w ∈ lw_tbl, w.before args s = true) (hgv : gvn args s) : ∀ q ∈ zStr, ∃ a, vk_R q.1 q.2.1 q.2.2 a s := by
  have hf := flat_of_before _ hgv
  refine List.forall_mem_cons.mpr ⟨st_s (hf _ (by decide +kernel)) (hts _ sr_0), ?_⟩
  refine List.forall_mem_cons.mpr ⟨st_s (hf _ (by decide +kernel)) (hts _ sr_1), ?_⟩
  refine List.forall_mem_cons.mpr ⟨st_s (hf _ (by decide +kernel)) (hts _ sr_2), ?_⟩
  refine List.forall_mem_cons.mpr ⟨st_s (hf _ (by decide +kernel)) (hts _ sr_3), ?_⟩
  refine List.forall_mem_cons.mpr ⟨st_s (hf _ (by decide +kernel)) (hts _ sr_4), ?_⟩
  refine List.forall_mem_cons.mpr ⟨st_s (hf _ (by decide +kernel)) (hts _ sr_5), ?_⟩
  refine List.forall_mem_cons.mpr ⟨st_s (hf _ (by decide +kernel)) (hts _ sr_6), ?_⟩
  refine List.forall_mem_cons.mpr ⟨st_s (hf _ (by decide +kernel)) (hts _ sr_7), ?_⟩
  refine List.forall_mem_cons.mpr ⟨st_s (hf _ (by decide +kernel)) (hts _ sr_8), ?_⟩
  refine List.forall_mem_cons.mpr ⟨st_s (hf _ (by decide +kernel)) (hts _ sr_9), fun _ h => nomatch h⟩
theorem st_ncs {args : Array Value} {s : State} (hgv : gvn args s) : ∀ q ∈ zNcs, va_Nc q.1 q.2 s := by
  have hf := flat_of_before _ hgv
  have hall : ∀ q ∈ zNcs, Cond.not (.castable q.1 q.2) ∈ flatC (Jvm.Cond.and given_1 narrow_1) := by decide +kernel
  exact fun q hq => va_Nc.of (hf _ (hall q hq))
theorem ini_Fm : Cond.initialized "SoleArrays$Form" ∈ zTb := zt1 14 (by decide +kernel) rfl
theorem ini_S1 : Cond.initialized "SoleArrays$1" ∈ zTb := zt1 18 (by decide +kernel) rfl
theorem ls_M : Cond.laysStatic "SoleArrays$1" "$SwitchMap$SoleArrays$Form" "[I" ∈ lw_tbl := tl3 121 (by decide +kernel)
theorem ls_Fm : ∀ j ∈ List.range 14, Cond.laysStatic "SoleArrays$Form" (zFm j) "LSoleArrays$Form;" ∈ lw_tbl := by decide +kernel
abbrev stF (j : Nat) : Term := .static "SoleArrays$Form" (zFm j) "LSoleArrays$Form;"
abbrev stM : Term := .static "SoleArrays$1" "$SwitchMap$SoleArrays$Form" "[I"
/-- what the start gives of form j: its cell a, with its ordinal -/
def stP (s : State) (args : Array Value) (j a : Nat) : Prop := (stF j).eval args s none [] s = some (.ref a) ∧ ∃ (cell : Cell) (cf i : Nat) (kf : Class) (fd : Field), s.heap[a]? = some cell ∧ cell.vm ≠ .unknown ∧ cell.vm.isStatics = false ∧ s.vm.findClass "SoleArrays$Form" = some cell.cls ∧ s.fieldFound? "java/lang/Enum" "ordinal" "I" = some (cf, kf, i, fd) ∧ fd.isStatic = false ∧ cell.slots[fd.slot]? = some (.int (nI j))
theorem st_ff {args : Array Value} {s : State} {t : Term} {a : Nat} {o n d : String} {v : Value} (he : t.eval args s none [] s = some (.ref a)) (hv : (Term.field t o n d).eval args s none [] s = some v) : ∃ x, s.fieldFound? o n d = some x := by
  cases hi : s.fieldFound? o n d with
  | none => simp [Term.eval, he, State.fieldOf?, State.fieldNamed?, hi] at hv
  | some x => exact ⟨x, rfl⟩
theorem st_form {args : Array Value} {s : State} (hgv : gvn args s) : ∃ g : Nat → Nat, ∀ j, j < 14 → stP s args j (g j) := by
  have hf := flat_of_before _ hgv
  have a1 : ∀ j ∈ List.range 14, Cond.exactly (stF j) "SoleArrays$Form" ∈ flatC (Jvm.Cond.and given_1 narrow_1) := by decide +kernel
  have a2 : ∀ j ∈ List.range 14, Cond.eq (.field (stF j) "java/lang/Enum" "ordinal" "I") (.int (nI j)) ∈ flatC (Jvm.Cond.and given_1 narrow_1) := by decide +kernel
  have h : ∀ j : Nat, ∃ a : Nat, j < 14 → stP s args j a := fun j => by
    by_cases hj : j < 14
    · obtain ⟨a, c, cell, kC, he, q1, q2, q3, q4, q5, -⟩ := Cond.exactly_spec (hf _ (a1 j (List.mem_range.mpr hj)))
      have hv := va_eqt (hf _ (a2 j (List.mem_range.mpr hj)))
      refine ⟨a, fun _ => ⟨he, ?_⟩⟩
      obtain ⟨⟨cf, kf, i, fd⟩, hi⟩ := st_ff he hv
      obtain ⟨f1, cell', f2, f3, f4, -, f6⟩ := Term.field_spec hi he hv
      cases q2.symm.trans f2
      exact ⟨cell, cf, i, kf, fd, q2, f3, f4, by rw [q5]; exact q1, hi, f1, f6⟩
    · exact ⟨0, fun q => absurd q hj⟩
  obtain ⟨g, hg⟩ := Classical.axiomOfChoice h
  exact ⟨g, hg⟩
theorem st_map {args : Array Value} {s : State} (hgv : gvn args s) {A : Nat → Prop} (hA : ∀ a : Nat, a < s.heap.size → ¬ A a) : ∃ t : Nat, stM.eval args s none [] s = some (.ref t) ∧ va_T .int t 14 (fun j => .int (zSw j)) A s s.heap := by
  have hf := flat_of_before _ hgv
  have a2 : ∀ j ∈ List.range 14, Cond.eq (.elem stM (.int (Int32.ofNat j))) (.int (zSw j)) ∈ flatC (Jvm.Cond.and given_1 narrow_1) := by decide +kernel
  exact va_Tof (by decide) (hf _ (by decide +kernel)) (va_eqt (z := Int32.ofNat 14) (hf _ (by decide +kernel))) (fun j hj => va_eqt (hf _ (a2 j (List.mem_range.mpr hj)))) hA
theorem st_stat {args : Array Value} {s : State} {G : zG} (hG : zz G = s.heap.size) (hH : zH0 G = s.heap) (hts : ∀ w ∈ lw_tbl, w.before args s = true) (hgv : gvn args s) (hg : ∀ j, j < 14 → stP s args j (zo G (1000001 + j))) (hm : stM.eval args s none [] s = some (.ref (zo G 1000015)) ∧ va_T .int (zo G 1000015) 14 (fun j => .int (zSw j)) (fun q => zz G ≤ q) s s.heap) : zStat G s := by
  have hf := flat_of_before _ hgv
  have hA : ∀ a : Nat, a < s.heap.size → ¬ zz G ≤ a := fun a ha => by rw [hG]; omega
  refine ⟨fun q _ => by rw [hH], vx_Zqof (hts _ ls_U) (hts _ (zt_in _ ini_T0)) (hf _ (by decide +kernel)) hA, vx_Zqof (hts _ ls_Q) (hts _ (zt_in _ ini_T0)) (hf _ (by decide +kernel)) hA, st_str hts hgv, st_ncs hgv, fun j hj => ?_, va_Zof (hts _ ls_M) (hts _ (zt_in _ ini_S1)) hm.1 hA, hm.2⟩
  obtain ⟨h1, cell, cf, i, kf, fd, h2, h3⟩ := hg j hj
  exact ⟨va_Zof (hts _ (ls_Fm j (List.mem_range.mpr hj))) (hts _ (zt_in _ ini_Fm)) h1 hA, by rw [hG]; exact (Array.getElem?_eq_some_iff.mp h2).1, cell, cf, i, kf, fd, h2, h3⟩
def R_law : String := "SoleArraysLaw"
def lw_P (b : Addr) (xs : List Int32) (args : Array Value) (s : State) : Prop := args = #[.ref b] ∧ s.IntsAt b xs ∧ xs.length ≤ 2048 ∧ gvn args s
def lw_Q (_ : Array Value) (s : State) (o : Outcome) (t : State) : Prop := o = .returned (some (.int 1)) ∧ Framed s o t [] 601024 7293034
def lw_Z (below : List Frame) (a : Array Value) (s : State) : State → Prop := fun t => ∃ o, t.status = .running ∧ Ended t below o ∧ lw_Q a s o t
def lw_At (p : Program) (s : State) (m : MethodId) (meth : Method) (c : Code) (b L : Nat) (xs : Nat → Int32) : Prop :=
  p.tables.exec = Jvm.exec ∧ c.code = code ∧ meth.sig.returnType = ret ∧ c.maxLocals = 7 ∧ s.vm.findClass R_law = some m.cls ∧ (∀ w ∈ lw_tbl, w.before #[Value.ref b] s = true) ∧ va_X b L xs s s.heap ∧ b < s.heap.size ∧ meth.locks = false ∧ gvn #[Value.ref b] s ∧ c.exceptionTable.toList = [] ∧ meth.name = "law"
theorem st_walk {FR : rFR} (hO : rFRok FR) {p : Program} {e : Env} {s : State} {m : MethodId} {below : List Frame} {meth : Method} {c : Code} (l : Launch) (htr : l.stackTraces = false) {b L : Nat} {xs : Nat → Int32} (hL : L ≤ 2048) (HD : ∀ G : zG, lHD G l FR L) (HR : ∀ G : zG, lHR G l FR L) (C0 : lw_At p s m meth c b L xs) :
    W p l e room_1 s m #[Value.ref b] below meth c s.heap [] 0 0 (lw_Z below #[Value.ref b] s) (entryFrame m ([Value.ref b] : List Value).toArray 7) := by
  obtain ⟨c1, c2, c3, c4, c5, c6, c7, c8, c9, c10, c11, c12⟩ := C0
  have hts : ∀ w ∈ zTb, w.before #[Value.ref b] s = true := fun w hw => c6 w (List.mem_filter.mp hw).1
  obtain ⟨D, hD⟩ := st_D hts
  obtain ⟨cA, hA⟩ := st_A hts
  obtain ⟨gf, hgf⟩ := st_form c10
  obtain ⟨tm, htm, hTm⟩ := st_map c10 (A := fun q => s.heap.size ≤ q) (fun a ha => by omega)
  let G : zG := (s.heap.size, fun i => if i = 1000000 then b else if i = 1000015 then tm else gf (i - 1000001), D, cA, s.heap)
  have zoF : ∀ j, j < 14 → zo G (1000001 + j) = gf j := fun j hj => by
    show (if 1000001 + j = 1000000 then b else if 1000001 + j = 1000015 then tm else gf (1000001 + j - 1000001)) = gf j
    rw [if_neg (by omega), if_neg (by omega), Nat.add_sub_cancel_left]
  let K : zK := (p, l, e, room_1, s, m, #[Value.ref b], below, meth, c, fun o _ _ => o = .returned (some (.int 1)), 601024, 7293034)
  have hK : va_K (zD G) zCl (zT G) s := ⟨hD, fun k q hk => by
    unfold zT at hk
    rw [List.getElem?_map, List.getElem?_zipIdx] at hk
    cases ht : zTy[k]? with
    | none => rw [ht] at hk; cases hk
    | some ty =>
      rw [ht] at hk
      cases hk
      rw [Nat.zero_add]
      exact hA k ty ht⟩
  have C : zC G K y_L_law b_L_law 7 (some .boolean) [] := ⟨c1, c2, c4, c3, c5, hts, hK, c9, by show c.exceptionTable.toList.map _ = []; rw [c11]; rfl, c12, htr, st_stat rfl rfl c6 c10 (fun j hj => by rw [zoF j hj]; exact hgf j hj) ⟨htm, hTm⟩⟩
  have hX : zOld G K L xs := ⟨c7, c8, hL⟩
  have k := l_start (G := G) (K := K) C hX ⟨by show 1400 ≤ 2048; decide, by show 84000 ≤ 84000; decide, by show 114 + 250 * L ≤ 601024; omega, by show 27457 + 3500 * L ≤ 7293034; omega⟩ (Nat.le_refl _) (Nat.le_refl _) (fun _ _ => rfl) hO (HD G) (HR G) (fun _ => .inr (0, []))
  have hle := lv_entry ([Value.ref b]) (n := 7) (by show 1 ≤ 7; decide)
  rw [lg_entry_eq]
  refine xt_post (fun t ht => ?_) (k s.heap [] _ ⟨rfl, by decide, fun q _ => rfl, fun i hi => absurd hi (Nat.not_lt_zero i)⟩ (fun q hq => nomatch hq) ?_)
  · obtain ⟨o, h1, h2, ⟨o', n', σ', rfl, h3, -⟩, Lc, ⟨h4, h5⟩, h6⟩ := ht
    have h3 : o' = .returned (some (.int 1)) := h3
    subst h3
    exact ⟨_, h1, h2, rfl, ⟨_, rfl⟩, h4, h5.weaken (fun x hx hb => absurd (h6 x hx) (Nat.not_le.mpr hb)) (Nat.le_refl _) (Nat.le_refl _)⟩
  · show lv_has _ c.maxLocals _
    rw [c4]
    exact hle
