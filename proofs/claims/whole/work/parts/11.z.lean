/-! Z: the cells that the law has made go by numbers (0, 1, ..: in the order of their making); zCl and zTy are of the names part -/
/-- heap's size at the law's start; addresses of the elder things (names from 1000000 on); class numbers and slots; array classes; the heap at the law's start -/
abbrev zG : Type := Nat × (Nat → Nat) × va_G × (Nat → ClassId) × Heap
abbrev zS : Type := Nat → va_E
def zz (G : zG) : Nat := G.1
def zo (G : zG) : Nat → Nat := G.2.1
def zD (G : zG) : va_G := G.2.2.1
def zcA (G : zG) : Nat → ClassId := G.2.2.2.1
def zH0 (G : zG) : Heap := G.2.2.2.2
def zad (G : zG) (i : Nat) : Nat := if i < 1000000 then zz G + i else zo G i
def zV (G : zG) (v : Value) : Value := match v with
  | .ref a => .ref (zad G a)
  | .int x => .int x
  | .long x => .long x
  | .null => .null
  | w => w
def zA (G : zG) (a : vp_A) : vp_A := match a with
  | (n, .inr (.inr (.inr (.inr f)))) => (n, .inr (.inr (.inr (.inr (fun i => (f i).map (zad G))))))
  | (n, .inl f) => (n, .inl f)
  | (n, .inr (.inl f)) => (n, .inr (.inl f))
  | b => b
def zE (G : zG) (x : va_E) : va_E := match x with
  | .inl (t, a) => .inl (zcA G t, zA G a)
  | .inr (ci, fs) => .inr (ci, fs.map (zV G))
def zT (G : zG) : List (ClassId × FieldType) := zTy.zipIdx.map fun q => (zcA G q.2, q.1)
def zHW (G : zG) (n : Nat) (σ : zS) (H : Heap) : Prop :=
  H.size = zz G + n ∧ n ≤ 1000000 ∧ (∀ q, q < zz G → H[q]? = (zH0 G)[q]?) ∧ ∀ i, i < n → va_at (zD G) zCl (zz G + i, zE G (σ i)) H
theorem zad_lt {G : zG} {i : Nat} (h : i < 1000000) : zad G i = zz G + i := if_pos h
theorem zV_cat (G : zG) (v : Value) : (zV G v).category = v.category := by cases v <;> rfl
theorem zV_rf (G : zG) (r : Option Nat) : zV G (va_rf r) = va_rf (r.map (zad G)) := by cases r <;> rfl
theorem zHW.set {G : zG} {n i : Nat} {σ : zS} {H H1 : Heap} {e : va_E} (h : zHW G n σ H) (hz : H1.size = H.size) (ho : ∀ q, q ≠ zz G + i → H1[q]? = H[q]?)
    (he : va_at (zD G) zCl (zz G + i, zE G e) H1) : zHW G n (va_up σ i e) H1 := by
  obtain ⟨h1, h2, h3, h4⟩ := h
  refine ⟨hz.trans h1, h2, fun q hq => (ho q (by omega)).trans (h3 q hq), fun j hj => ?_⟩
  by_cases hji : j = i
  · subst hji
    rw [va_up_self]
    exact he
  · rw [va_up_ne _ _ hji]
    exact (h4 j hj).kept (ho _ (fun z => hji (by have z : zz G + j = zz G + i := z; omega)))
theorem zHW.push {G : zG} {n : Nat} {σ : zS} {H H1 : Heap} {e : va_E} (h : zHW G n σ H) (hn : n < 1000000) (hz : H1.size = H.size + 1) (ho : ∀ q, q < H.size → H1[q]? = H[q]?)
    (he : va_at (zD G) zCl (zz G + n, zE G e) H1) : zHW G (n + 1) (va_up σ n e) H1 := by
  obtain ⟨h1, h2, h3, h4⟩ := h
  refine ⟨by omega, by omega, fun q hq => (ho q (by omega)).trans (h3 q hq), fun j hj => ?_⟩
  by_cases hji : j = n
  · subst hji
    rw [va_up_self]
    exact he
  · rw [va_up_ne _ _ hji]
    exact (h4 j (by omega)).kept (ho _ (by show zz G + j < H.size; omega))
theorem zHW.same {G : zG} {n : Nat} {σ τ : zS} {H : Heap} (h : zHW G n σ H) (hs : ∀ i, i < n → τ i = σ i) : zHW G n τ H :=
  ⟨h.1, h.2.1, h.2.2.1, fun i hi => by rw [hs i hi]; exact h.2.2.2 i hi⟩
/-- what the law's start fixes of the statics, and of the elder cells -/
def zStr : List (String × Nat × String) := [("SoleArrays$Store", 89, "no number there"), ("SoleArrays$Fault", 17, "the text is ill"), ("SoleArrays$Fault", 24, "the function is wrong"), ("SoleArrays", 87, "no such function, or one that takes more than numbers"), ("SoleArrays$Runner", 55, "too many expressions"), ("SoleArrays$Runner", 133, "divided by 0"), ("SoleArrays$Store", 39, "a size below 0"), ("SoleArrays$Store", 48, "too many numbers, rows or columns"), ("SoleArrays$Store", 55, "too many arrays"), ("SoleArrays$Runner", 151, "too many calls in one another")]
def zNcs : List (String × String) := [("java/lang/IllegalStateException", "java/lang/IllegalArgumentException"), ("java/lang/IndexOutOfBoundsException", "java/lang/IllegalArgumentException"), ("java/lang/IndexOutOfBoundsException", "java/lang/IllegalStateException"), ("java/lang/ArithmeticException", "java/lang/IllegalArgumentException"), ("java/lang/ArithmeticException", "java/lang/IllegalStateException"), ("java/lang/ArithmeticException", "java/lang/IndexOutOfBoundsException"), ("java/lang/UnsupportedOperationException", "java/lang/IllegalArgumentException"), ("java/lang/UnsupportedOperationException", "java/lang/IllegalStateException"), ("java/lang/UnsupportedOperationException", "java/lang/IndexOutOfBoundsException"), ("java/lang/UnsupportedOperationException", "java/lang/ArithmeticException")]
def zFm (j : Nat) : String := (["DIGITS", "VARIABLE", "OPERATION", "CHOICE", "BINDING", "NEW_ROW", "NEW_TABLE", "READING", "UPDATE", "HEIGHT", "WIDTH", "COPY", "GIVING_UP", "CALL"] : List String).getD j ""
def zSw (j : Nat) : Int32 := ([13, 1, 14, 2, 3, 4, 5, 6, 7, 8, 9, 10, 11, 12] : List Int32).getD j 0
/-- the forms are the elder cells 1000001 .., each with its ordinal; the switches' map is 1000015 -/
def zForm (G : zG) (U : State) : Prop := (∀ j, j < 14 → va_Z "SoleArrays$Form" (zFm j) "LSoleArrays$Form;" (.ref (zo G (1000001 + j))) (fun q => zz G ≤ q) U U.heap ∧ zo G (1000001 + j) < zz G ∧ ∃ (cell : Cell) (cf i : Nat) (kf : Class) (fd : Field), U.heap[zo G (1000001 + j)]? = some cell ∧ cell.vm ≠ .unknown ∧ cell.vm.isStatics = false ∧ U.vm.findClass "SoleArrays$Form" = some cell.cls ∧ U.fieldFound? "java/lang/Enum" "ordinal" "I" = some (cf, kf, i, fd) ∧ fd.isStatic = false ∧ cell.slots[fd.slot]? = some (.int (nI j))) ∧
  va_Z "SoleArrays$1" "$SwitchMap$SoleArrays$Form" "[I" (.ref (zo G 1000015)) (fun q => zz G ≤ q) U U.heap ∧ va_T .int (zo G 1000015) 14 (fun j => .int (zSw j)) (fun q => zz G ≤ q) U U.heap
theorem zForm.moved {G : zG} {u U : State} (hvm : u.vm.Alike U.vm) (hh : ∀ q, q < zz G → U.heap[q]? = u.heap[q]?) (h : zForm G u) : zForm G U := by
  obtain ⟨h1, h2, h3⟩ := h
  have hq : ∀ a : Nat, a < u.heap.size → ¬ zz G ≤ a → U.heap[a]? = u.heap[a]? := fun a _ ha => hh a (Nat.lt_of_not_le ha)
  refine ⟨fun j hj => ?_, va_Z.moved hvm (h2.kept hq), va_T.moved hvm (h3.kept hq)⟩
  obtain ⟨g1, g2, cell, cf, i, kf, fd, g3, g4, g5, g6, g7, g8, g9⟩ := h1 j hj
  obtain ⟨k', hi', -⟩ := State.fieldFound?_setVm hvm g7
  exact ⟨va_Z.moved hvm (g1.kept hq), g2, cell, cf, i, k', fd, (hh _ g2).trans g3, g4, g5, by rw [hvm.findClass]; exact g6, hi', g8, g9⟩
def zStat (G : zG) (U : State) : Prop := (∀ q, q < zz G → U.heap[q]? = (zH0 G)[q]?) ∧ vx_Zq Bundle.tN "UNASSIGNED_STACK" Bundle.steD (fun q => zz G ≤ q) U U.heap ∧ vx_Zq Bundle.tN "SUPPRESSED_SENTINEL" Bundle.listD (fun q => zz G ≤ q) U U.heap ∧ (∀ q ∈ zStr, ∃ a, vk_R q.1 q.2.1 q.2.2 a U) ∧ (∀ q ∈ zNcs, va_Nc q.1 q.2 U) ∧ zForm G U
theorem zStat.moved {G : zG} {u U : State} (hW : u.WarmedH U.vm) (hh : ∀ q, q < zz G → U.heap[q]? = (zH0 G)[q]?) (h : zStat G u) : zStat G U := by
  obtain ⟨h0, h1, h2, h3, h4, h5⟩ := h
  have hq : ∀ a : Nat, a < u.heap.size → ¬ zz G ≤ a → U.heap[a]? = u.heap[a]? := fun a _ ha => (hh a (Nat.lt_of_not_le ha)).trans (h0 a (Nat.lt_of_not_le ha)).symm
  exact ⟨hh, vx_Zq.moved hW.alike (h1.kept hq), vx_Zq.moved hW.alike (h2.kept hq), fun q hm => (h3 q hm).elim fun a ha => ⟨a, vk_R.warm hW ha⟩, fun q hm => va_Nc.moved hW.alike (h4 q hm), h5.moved hW.alike (fun q hq => (hh q hq).trans (h0 q hq).symm)⟩
/-! contracts -/
def zO (G : zG) (o : Outcome) : Outcome := match o with
  | .returned v => .returned (v.map (zV G))
  | .threw a => .threw (zad G a)
abbrev zPost : Type := Outcome → Nat → zS → Prop
def zPc (G : zG) (av : List Value) (n : Nat) (σ : zS) : Array Value → State → Prop := fun v U => v = (av.map (zV G)).toArray ∧ zHW G n σ U.heap ∧ va_K (zD G) zCl (zT G) U ∧ zStat G U
def zQc (G : zG) (post : zPost) : Array Value → State → Outcome → State → Prop := fun _ _ o t => ∃ (o' : Outcome) (n' : Nat) (σ' : zS), o = zO G o' ∧ post o' n' σ' ∧ zHW G n' σ' t.heap
/-- what is fixed in a walk: program, launch, environment, room, start, method, arguments, frames below, its tables, its code; what is promised, and the room that it may take -/
abbrev zK : Type := Program × Launch × Env × Room × State × MethodId × Array Value × List Frame × Method × Code × zPost × Nat × Nat
def kp (K : zK) : Program := K.1
def kl (K : zK) : Launch := K.2.1
def ke (K : zK) : Env := K.2.2.1
def kR (K : zK) : Room := K.2.2.2.1
def ks (K : zK) : State := K.2.2.2.2.1
def km (K : zK) : MethodId := K.2.2.2.2.2.1
def ka (K : zK) : Array Value := K.2.2.2.2.2.2.1
def kb (K : zK) : List Frame := K.2.2.2.2.2.2.2.1
def kme (K : zK) : Method := K.2.2.2.2.2.2.2.2.1
def kc (K : zK) : Code := K.2.2.2.2.2.2.2.2.2.1
def kpo (K : zK) : zPost := K.2.2.2.2.2.2.2.2.2.2.1
def kmc (K : zK) : Nat := K.2.2.2.2.2.2.2.2.2.2.2.1
def kms (K : zK) : Nat := K.2.2.2.2.2.2.2.2.2.2.2.2
def zQ (G : zG) (K : zK) : State → Prop := xt_Q (kb K) (zQc G (kpo K)) (ka K) (ks K) (kmc K) (kms K) (fun q => zz G ≤ q)
def zW (G : zG) (K : zK) (H : Heap) (locs : List Loc) (k1 k2 : Nat) (g : JFrame) : Prop := W (kp K) (kl K) (ke K) (kR K) (ks K) (km K) (ka K) (kb K) (kme K) (kc K) H locs k1 k2 (zQ G K) g
def Z (G : zG) (K : zK) (n : Nat) (σ : zS) (k1 k2 pc : Nat) (lv : List (Nat × Value)) (st : List Value) : Prop :=
  ∀ (H : Heap) (locs : List Loc) (ls : Array Slot), zHW G n σ H → (∀ q ∈ locs, zz G ≤ q.base) → lv_has ls (kc K).maxLocals (lv.map fun q => (q.1, zV G q.2)) →
    W (kp K) (kl K) (ke K) (kR K) (ks K) (km K) (ka K) (kb K) (kme K) (kc K) H locs k1 k2 (zQ G K) (F0 (km K) pc ls (st.map (zV G)))
/-- what is known in a walk: machine, code, locals, return type, the class, the tables' words, classes; no lock; handlers; the method's name; no stack traces; the statics -/
def zC (G : zG) (K : zK) (y : MethodName) (cc : ByteArray) (nL : Nat) (ret : Option FieldType) (hs : List (Nat × Nat × Nat × Nat)) : Prop :=
  (kp K).tables.exec = Jvm.exec ∧ (kc K).code = cc ∧ (kc K).maxLocals = nL ∧ (kme K).sig.returnType = ret ∧ (ks K).vm.findClass y.cls = some (km K).cls ∧ (∀ w ∈ zTb, w.before (ka K) (ks K) = true) ∧
  va_K (zD G) zCl (zT G) (ks K) ∧ (kme K).locks = false ∧ (kc K).exceptionTable.toList.map (fun h => (h.startPc, h.endPc, h.handlerPc, h.catchType)) = hs ∧ (kme K).name = y.name ∧ (kl K).stackTraces = false ∧ zStat G (ks K)
section ZCA
variable {G : zG} {K : zK} {y : MethodName} {cc : ByteArray} {nL : Nat} {ret : Option FieldType} {hs : List (Nat × Nat × Nat × Nat)}
theorem zC.own (C : zC G K y cc nL ret hs) : (ks K).vm.findClass y.cls = some (km K).cls := C.2.2.2.2.1
theorem zC.ts (C : zC G K y cc nL ret hs) : ∀ w ∈ zTb, w.before (ka K) (ks K) = true := C.2.2.2.2.2.1
theorem zC.kk (C : zC G K y cc nL ret hs) : va_K (zD G) zCl (zT G) (ks K) := C.2.2.2.2.2.2.1
theorem zC.lk (C : zC G K y cc nL ret hs) : (kme K).locks = false := C.2.2.2.2.2.2.2.1
theorem zC.tab (C : zC G K y cc nL ret hs) : (kc K).exceptionTable.toList.map (fun h => (h.startPc, h.endPc, h.handlerPc, h.catchType)) = hs := C.2.2.2.2.2.2.2.2.1
theorem zC.nm (C : zC G K y cc nL ret hs) : (kme K).name = y.name := C.2.2.2.2.2.2.2.2.2.1
theorem zC.tr (C : zC G K y cc nL ret hs) : (kl K).stackTraces = false := C.2.2.2.2.2.2.2.2.2.2.1
theorem zC.stat (C : zC G K y cc nL ret hs) : zStat G (ks K) := C.2.2.2.2.2.2.2.2.2.2.2
end ZCA
def zl (lv : List (Nat × Value)) (i : Nat) : Option Value := (lv.find? (fun q => q.1 == i)).map (·.2)
def zs1 (lv : List (Nat × Value)) (i : Nat) (v : Value) : List (Nat × Value) := (i, v) :: lv.filter (fun q => !(q.1 == i) && !(q.1 + 1 == i && q.2.category == 2))
def zs2 (lv : List (Nat × Value)) (i : Nat) (v : Value) : List (Nat × Value) := (i, v) :: lv.filter (fun q => !(q.1 == i) && (!(q.1 == i + 1) && !(q.1 + 1 == i && q.2.category == 2)))
theorem zl_at {G : zG} {ls : Array Slot} {nL : Nat} {lv : List (Nat × Value)} {i : Nat} {v : Value} (h : lv_has ls nL (lv.map fun q => (q.1, zV G q.2))) (hl : zl lv i = some v) : ls[i]? = some (.val (zV G v)) := by
  unfold zl at hl
  cases hf : lv.find? (fun q => q.1 == i) with
  | none => rw [hf] at hl; cases hl
  | some q =>
    rw [hf] at hl
    have h1 : q.2 = v := Option.some.inj hl
    have h2 : (q.1 == i) = true := List.find?_some (p := fun q : Nat × Value => q.1 == i) hf
    have h3 := List.mem_of_find?_eq_some hf
    have h4 := h.2.2 _ (List.mem_map_of_mem (f := fun q : Nat × Value => (q.1, zV G q.2)) h3)
    rw [show q.1 = i from beq_iff_eq.mp h2, h1] at h4
    exact h4
theorem zs1_map (G : zG) (lv : List (Nat × Value)) (i : Nat) (v : Value) :
    (i, zV G v) :: (lv.map fun q => (q.1, zV G q.2)).filter (fun q => !(q.1 == i) && !(q.1 + 1 == i && q.2.category == 2)) = (zs1 lv i v).map fun q => (q.1, zV G q.2) := by
  unfold zs1
  rw [List.map_cons, List.filter_map]
  congr 2
  congr 1
  funext q
  simp only [Function.comp, zV_cat]
theorem zs2_map (G : zG) (lv : List (Nat × Value)) (i : Nat) (v : Value) :
    (i, zV G v) :: (lv.map fun q => (q.1, zV G q.2)).filter (fun q => !(q.1 == i) && (!(q.1 == i + 1) && !(q.1 + 1 == i && q.2.category == 2))) = (zs2 lv i v).map fun q => (q.1, zV G q.2) := by
  unfold zs2
  rw [List.map_cons, List.filter_map]
  congr 2
  congr 1
  funext q
  simp only [Function.comp, zV_cat]
