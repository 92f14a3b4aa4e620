section ZR
variable {G : zG} {K : zK} {y : MethodName} {cc : ByteArray} {nL : Nat} {ret : Option FieldType} {hs : List (Nat × Nat × Nat × Nat)} {n k1 k2 pc : Nat} {σ : zS} {lv : List (Nat × Value)} {st : List Value}
theorem z_iinc0 {H : Heap} {locs : List Loc} {ls : Array Slot} (C : zC G K y cc nL ret hs) {j : Nat} {a : Int} {x v : Int32} {sv : List Value} (hd : decode cc pc = .ok (.iinc j a, 3)) (h3 : lv_has ls (kc K).maxLocals (lv.map fun q => (q.1, zV G q.2))) (hl : zl lv j = some (.int x)) (hv : x + Int32.ofInt a = v) (hn : j < nL)
    (kk : ∀ ls' : Array Slot, lv_has ls' (kc K).maxLocals ((zs1 lv j (.int v)).map fun q => (q.1, zV G q.2)) → W (kp K) (kl K) (ke K) (kR K) (ks K) (km K) (ka K) (kb K) (kme K) (kc K) H locs k1 k2 (zQ G K) (F0 (km K) (pc + 3) ls' sv)) :
    W (kp K) (kl K) (ke K) (kR K) (ks K) (km K) (ka K) (kb K) (kme K) (kc K) H locs k1 k2 (zQ G K) (F0 (km K) pc ls sv) := by
  have h4 : lv_has ls (kc K).maxLocals ((j, .int x) :: lv.map fun q => (q.1, zV G q.2)) := ⟨h3.1, h3.2.1, fun q hq => by
    rcases List.mem_cons.mp hq with rfl | hq
    · exact zl_at h3 hl
    · exact h3.2.2 q hq⟩
  refine lv_iinc C.1 C.2.1 hd h4 (k := 0) rfl hv (by rw [C.2.2.1]; exact hn) rfl (fun ls' h => kk ls' ?_)
  rw [← zs1_map]
  have e : ((j, Value.int x) :: lv.map fun q => (q.1, zV G q.2)).filter (fun q => !(q.1 == j) && !(q.1 + 1 == j && q.2.category == 2)) = (lv.map fun q => (q.1, zV G q.2)).filter (fun q => !(q.1 == j) && !(q.1 + 1 == j && q.2.category == 2)) := by
    rw [List.filter_cons_of_neg]
    simp
  rw [e] at h
  exact h
theorem z_iconst (C : zC G K y cc nL ret hs) (pc' : Nat) {a : Int} (hd : decode cc pc = .ok (.iconst a, 1)) (hp : pc + 1 = pc') (v : Int32) (hv : Int32.ofInt a = v) (k : Z G K n σ k1 k2 pc' lv (.int v :: st)) : Z G K n σ k1 k2 pc lv (st) := by
  subst hp
  exact fun H locs ls h1 h2 h3 => lv_iconst C.1 C.2.1 hd hv (k H locs ls h1 h2 h3)
theorem z_bipush (C : zC G K y cc nL ret hs) (pc' : Nat) {a : Int} (hd : decode cc pc = .ok (.bipush a, 2)) (hp : pc + 2 = pc') (v : Int32) (hv : (Int8.ofInt a).toInt32 = v) (k : Z G K n σ k1 k2 pc' lv (.int v :: st)) : Z G K n σ k1 k2 pc lv (st) := by
  subst hp
  exact fun H locs ls h1 h2 h3 => lv_bipush C.1 C.2.1 hd hv (k H locs ls h1 h2 h3)
theorem z_sipush (C : zC G K y cc nL ret hs) (pc' : Nat) {a : Int} (hd : decode cc pc = .ok (.sipush a, 3)) (hp : pc + 3 = pc') (v : Int32) (hv : (Int16.ofInt a).toInt32 = v) (k : Z G K n σ k1 k2 pc' lv (.int v :: st)) : Z G K n σ k1 k2 pc lv (st) := by
  subst hp
  exact fun H locs ls h1 h2 h3 => lv_sipush C.1 C.2.1 hd hv (k H locs ls h1 h2 h3)
theorem z_lconst (C : zC G K y cc nL ret hs) (pc' : Nat) {a : Fin 2} (hd : decode cc pc = .ok (.lconst a, 1)) (hp : pc + 1 = pc') (v : Int64) (hv : Int64.ofNat (a : Nat) = v) (k : Z G K n σ k1 k2 pc' lv (.long v :: st)) : Z G K n σ k1 k2 pc lv (st) := by
  subst hp
  exact fun H locs ls h1 h2 h3 => lv_lconst C.1 C.2.1 hd hv (k H locs ls h1 h2 h3)
theorem z_null (C : zC G K y cc nL ret hs) (pc' : Nat)  (hd : decode cc pc = .ok (.aconst_null, 1)) (hp : pc + 1 = pc')  (k : Z G K n σ k1 k2 pc' lv (.null :: st)) : Z G K n σ k1 k2 pc lv (st) := by
  subst hp
  exact fun H locs ls h1 h2 h3 => lv_null C.1 C.2.1 hd (k H locs ls h1 h2 h3)
theorem z_iload_n (C : zC G K y cc nL ret hs) (pc' : Nat) {j : Fin 4} {x : Int32} (hd : decode cc pc = .ok (.iload_n j, 1)) (hp : pc + 1 = pc') (hl : zl lv (j : Nat) = some (.int x)) (k : Z G K n σ k1 k2 pc' lv (.int x :: st)) : Z G K n σ k1 k2 pc lv (st) := by
  subst hp
  exact fun H locs ls h1 h2 h3 => lv_iload_n C.1 C.2.1 hd rfl (zl_at h3 hl) (k H locs ls h1 h2 h3)
theorem z_iload (C : zC G K y cc nL ret hs) (pc' : Nat) {j : Nat} {x : Int32} (hd : decode cc pc = .ok (.iload j, 2)) (hp : pc + 2 = pc') (hl : zl lv j = some (.int x)) (k : Z G K n σ k1 k2 pc' lv (.int x :: st)) : Z G K n σ k1 k2 pc lv (st) := by
  subst hp
  exact fun H locs ls h1 h2 h3 => lv_iload C.1 C.2.1 hd (zl_at h3 hl) (k H locs ls h1 h2 h3)
theorem z_istore_n (C : zC G K y cc nL ret hs) (pc' : Nat) {j : Fin 4} {x : Int32} (hd : decode cc pc = .ok (.istore_n j, 1)) (hp : pc + 1 = pc') (hn : (j : Nat) < nL) (k : Z G K n σ k1 k2 pc' (zs1 lv (j : Nat) (.int x)) (st)) : Z G K n σ k1 k2 pc lv (.int x :: st) := by
  subst hp
  exact fun H locs ls h1 h2 h3 => lv_istore_n C.1 C.2.1 hd rfl h3 (by rw [C.2.2.1]; exact hn) (zs1_map G lv _ (.int x)) (fun ls' h => k H locs ls' h1 h2 h)
theorem z_istore (C : zC G K y cc nL ret hs) (pc' : Nat) {j : Nat} {x : Int32} (hd : decode cc pc = .ok (.istore j, 2)) (hp : pc + 2 = pc') (hn : j < nL) (k : Z G K n σ k1 k2 pc' (zs1 lv j (.int x)) (st)) : Z G K n σ k1 k2 pc lv (.int x :: st) := by
  subst hp
  exact fun H locs ls h1 h2 h3 => lv_istore C.1 C.2.1 hd h3 (by rw [C.2.2.1]; exact hn) (zs1_map G lv _ (.int x)) (fun ls' h => k H locs ls' h1 h2 h)
theorem z_lload_n (C : zC G K y cc nL ret hs) (pc' : Nat) {j : Fin 4} {x : Int64} (hd : decode cc pc = .ok (.lload_n j, 1)) (hp : pc + 1 = pc') (hl : zl lv (j : Nat) = some (.long x)) (k : Z G K n σ k1 k2 pc' lv (.long x :: st)) : Z G K n σ k1 k2 pc lv (st) := by
  subst hp
  exact fun H locs ls h1 h2 h3 => lv_lload_n C.1 C.2.1 hd rfl (zl_at h3 hl) (k H locs ls h1 h2 h3)
theorem z_lload (C : zC G K y cc nL ret hs) (pc' : Nat) {j : Nat} {x : Int64} (hd : decode cc pc = .ok (.lload j, 2)) (hp : pc + 2 = pc') (hl : zl lv j = some (.long x)) (k : Z G K n σ k1 k2 pc' lv (.long x :: st)) : Z G K n σ k1 k2 pc lv (st) := by
  subst hp
  exact fun H locs ls h1 h2 h3 => lv_lload C.1 C.2.1 hd (zl_at h3 hl) (k H locs ls h1 h2 h3)
theorem z_lstore_n (C : zC G K y cc nL ret hs) (pc' : Nat) {j : Fin 4} {x : Int64} (hd : decode cc pc = .ok (.lstore_n j, 1)) (hp : pc + 1 = pc') (hn : (j : Nat) + 1 < nL) (k : Z G K n σ k1 k2 pc' (zs2 lv (j : Nat) (.long x)) (st)) : Z G K n σ k1 k2 pc lv (.long x :: st) := by
  subst hp
  exact fun H locs ls h1 h2 h3 => lv_lstore_n C.1 C.2.1 hd rfl h3 (by rw [C.2.2.1]; exact hn) (zs2_map G lv _ (.long x)) (fun ls' h => k H locs ls' h1 h2 h)
theorem z_lstore (C : zC G K y cc nL ret hs) (pc' : Nat) {j : Nat} {x : Int64} (hd : decode cc pc = .ok (.lstore j, 2)) (hp : pc + 2 = pc') (hn : j + 1 < nL) (k : Z G K n σ k1 k2 pc' (zs2 lv j (.long x)) (st)) : Z G K n σ k1 k2 pc lv (.long x :: st) := by
  subst hp
  exact fun H locs ls h1 h2 h3 => lv_lstore C.1 C.2.1 hd h3 (by rw [C.2.2.1]; exact hn) (zs2_map G lv _ (.long x)) (fun ls' h => k H locs ls' h1 h2 h)
theorem z_aload_n (C : zC G K y cc nL ret hs) (pc' : Nat) {j : Fin 4} {x : Nat} (hd : decode cc pc = .ok (.aload_n j, 1)) (hp : pc + 1 = pc') (hl : zl lv (j : Nat) = some (.ref x)) (k : Z G K n σ k1 k2 pc' lv (.ref x :: st)) : Z G K n σ k1 k2 pc lv (st) := by
  subst hp
  exact fun H locs ls h1 h2 h3 => lv_aload_n C.1 C.2.1 hd rfl (zl_at h3 hl) (k H locs ls h1 h2 h3)
theorem z_aload (C : zC G K y cc nL ret hs) (pc' : Nat) {j : Nat} {x : Nat} (hd : decode cc pc = .ok (.aload j, 2)) (hp : pc + 2 = pc') (hl : zl lv j = some (.ref x)) (k : Z G K n σ k1 k2 pc' lv (.ref x :: st)) : Z G K n σ k1 k2 pc lv (st) := by
  subst hp
  exact fun H locs ls h1 h2 h3 => lv_aload C.1 C.2.1 hd (zl_at h3 hl) (k H locs ls h1 h2 h3)
theorem z_astore_n (C : zC G K y cc nL ret hs) (pc' : Nat) {j : Fin 4} {x : Nat} (hd : decode cc pc = .ok (.astore_n j, 1)) (hp : pc + 1 = pc') (hn : (j : Nat) < nL) (k : Z G K n σ k1 k2 pc' (zs1 lv (j : Nat) (.ref x)) (st)) : Z G K n σ k1 k2 pc lv (.ref x :: st) := by
  subst hp
  exact fun H locs ls h1 h2 h3 => lv_astore_n C.1 C.2.1 hd rfl h3 (by rw [C.2.2.1]; exact hn) (zs1_map G lv _ (.ref x)) (fun ls' h => k H locs ls' h1 h2 h)
theorem z_astore (C : zC G K y cc nL ret hs) (pc' : Nat) {j : Nat} {x : Nat} (hd : decode cc pc = .ok (.astore j, 2)) (hp : pc + 2 = pc') (hn : j < nL) (k : Z G K n σ k1 k2 pc' (zs1 lv j (.ref x)) (st)) : Z G K n σ k1 k2 pc lv (.ref x :: st) := by
  subst hp
  exact fun H locs ls h1 h2 h3 => lv_astore C.1 C.2.1 hd h3 (by rw [C.2.2.1]; exact hn) (zs1_map G lv _ (.ref x)) (fun ls' h => k H locs ls' h1 h2 h)
theorem z_aload_nN (C : zC G K y cc nL ret hs) (pc' : Nat) {j : Fin 4} (hd : decode cc pc = .ok (.aload_n j, 1)) (hp : pc + 1 = pc') (hl : zl lv (j : Nat) = some .null) (k : Z G K n σ k1 k2 pc' lv (.null :: st)) : Z G K n σ k1 k2 pc lv (st) := by
  subst hp
  exact fun H locs ls h1 h2 h3 => lv_aload_nN C.1 C.2.1 hd rfl (zl_at h3 hl) (k H locs ls h1 h2 h3)
theorem z_astore_nN (C : zC G K y cc nL ret hs) (pc' : Nat) {j : Fin 4} (hd : decode cc pc = .ok (.astore_n j, 1)) (hp : pc + 1 = pc') (hn : (j : Nat) < nL) (k : Z G K n σ k1 k2 pc' (zs1 lv (j : Nat) .null) (st)) : Z G K n σ k1 k2 pc lv (.null :: st) := by
  subst hp
  exact fun H locs ls h1 h2 h3 => lv_astore_nN C.1 C.2.1 hd rfl h3 (by rw [C.2.2.1]; exact hn) (zs1_map G lv _ .null) (fun ls' h => k H locs ls' h1 h2 h)
theorem z_iadd (C : zC G K y cc nL ret hs) (pc' : Nat) {x w : Int32} (hd : decode cc pc = .ok (.iadd, 1)) (hp : pc + 1 = pc')  (k : Z G K n σ k1 k2 pc' lv (.int (x + w) :: st)) : Z G K n σ k1 k2 pc lv (.int w :: .int x :: st) := by
  subst hp
  exact fun H locs ls h1 h2 h3 => lv_iadd C.1 C.2.1 hd (k H locs ls h1 h2 h3)
theorem z_isub (C : zC G K y cc nL ret hs) (pc' : Nat) {x w : Int32} (hd : decode cc pc = .ok (.isub, 1)) (hp : pc + 1 = pc')  (k : Z G K n σ k1 k2 pc' lv (.int (x - w) :: st)) : Z G K n σ k1 k2 pc lv (.int w :: .int x :: st) := by
  subst hp
  exact fun H locs ls h1 h2 h3 => lv_isub C.1 C.2.1 hd (k H locs ls h1 h2 h3)
theorem z_imul (C : zC G K y cc nL ret hs) (pc' : Nat) {x w : Int32} (hd : decode cc pc = .ok (.imul, 1)) (hp : pc + 1 = pc')  (k : Z G K n σ k1 k2 pc' lv (.int (x * w) :: st)) : Z G K n σ k1 k2 pc lv (.int w :: .int x :: st) := by
  subst hp
  exact fun H locs ls h1 h2 h3 => lv_imul C.1 C.2.1 hd (k H locs ls h1 h2 h3)
theorem z_iand (C : zC G K y cc nL ret hs) (pc' : Nat) {x w : Int32} (hd : decode cc pc = .ok (.iand, 1)) (hp : pc + 1 = pc')  (k : Z G K n σ k1 k2 pc' lv (.int (x &&& w) :: st)) : Z G K n σ k1 k2 pc lv (.int w :: .int x :: st) := by
  subst hp
  exact fun H locs ls h1 h2 h3 => lv_iand C.1 C.2.1 hd (k H locs ls h1 h2 h3)
theorem z_ior (C : zC G K y cc nL ret hs) (pc' : Nat) {x w : Int32} (hd : decode cc pc = .ok (.ior, 1)) (hp : pc + 1 = pc')  (k : Z G K n σ k1 k2 pc' lv (.int (x ||| w) :: st)) : Z G K n σ k1 k2 pc lv (.int w :: .int x :: st) := by
  subst hp
  exact fun H locs ls h1 h2 h3 => lv_ior C.1 C.2.1 hd (k H locs ls h1 h2 h3)
theorem z_ixor (C : zC G K y cc nL ret hs) (pc' : Nat) {x w : Int32} (hd : decode cc pc = .ok (.ixor, 1)) (hp : pc + 1 = pc')  (k : Z G K n σ k1 k2 pc' lv (.int (x ^^^ w) :: st)) : Z G K n σ k1 k2 pc lv (.int w :: .int x :: st) := by
  subst hp
  exact fun H locs ls h1 h2 h3 => lv_ixor C.1 C.2.1 hd (k H locs ls h1 h2 h3)
theorem z_ishl (C : zC G K y cc nL ret hs) (pc' : Nat) {x w : Int32} (hd : decode cc pc = .ok (.ishl, 1)) (hp : pc + 1 = pc')  (k : Z G K n σ k1 k2 pc' lv (.int (x <<< (w &&& 31)) :: st)) : Z G K n σ k1 k2 pc lv (.int w :: .int x :: st) := by
  subst hp
  exact fun H locs ls h1 h2 h3 => lv_ishl C.1 C.2.1 hd (k H locs ls h1 h2 h3)
theorem z_ishr (C : zC G K y cc nL ret hs) (pc' : Nat) {x w : Int32} (hd : decode cc pc = .ok (.ishr, 1)) (hp : pc + 1 = pc')  (k : Z G K n σ k1 k2 pc' lv (.int (x >>> (w &&& 31)) :: st)) : Z G K n σ k1 k2 pc lv (.int w :: .int x :: st) := by
  subst hp
  exact fun H locs ls h1 h2 h3 => lv_ishr C.1 C.2.1 hd (k H locs ls h1 h2 h3)
theorem z_ladd (C : zC G K y cc nL ret hs) (pc' : Nat) {x w : Int64} (hd : decode cc pc = .ok (.ladd, 1)) (hp : pc + 1 = pc')  (k : Z G K n σ k1 k2 pc' lv (.long (x + w) :: st)) : Z G K n σ k1 k2 pc lv (.long w :: .long x :: st) := by
  subst hp
  exact fun H locs ls h1 h2 h3 => lv_ladd C.1 C.2.1 hd (k H locs ls h1 h2 h3)
theorem z_lsub (C : zC G K y cc nL ret hs) (pc' : Nat) {x w : Int64} (hd : decode cc pc = .ok (.lsub, 1)) (hp : pc + 1 = pc')  (k : Z G K n σ k1 k2 pc' lv (.long (x - w) :: st)) : Z G K n σ k1 k2 pc lv (.long w :: .long x :: st) := by
  subst hp
  exact fun H locs ls h1 h2 h3 => lv_lsub C.1 C.2.1 hd (k H locs ls h1 h2 h3)
theorem z_lmul (C : zC G K y cc nL ret hs) (pc' : Nat) {x w : Int64} (hd : decode cc pc = .ok (.lmul, 1)) (hp : pc + 1 = pc')  (k : Z G K n σ k1 k2 pc' lv (.long (x * w) :: st)) : Z G K n σ k1 k2 pc lv (.long w :: .long x :: st) := by
  subst hp
  exact fun H locs ls h1 h2 h3 => lv_lmul C.1 C.2.1 hd (k H locs ls h1 h2 h3)
theorem z_land (C : zC G K y cc nL ret hs) (pc' : Nat) {x w : Int64} (hd : decode cc pc = .ok (.land, 1)) (hp : pc + 1 = pc')  (k : Z G K n σ k1 k2 pc' lv (.long (x &&& w) :: st)) : Z G K n σ k1 k2 pc lv (.long w :: .long x :: st) := by
  subst hp
  exact fun H locs ls h1 h2 h3 => lv_land C.1 C.2.1 hd (k H locs ls h1 h2 h3)
theorem z_lor (C : zC G K y cc nL ret hs) (pc' : Nat) {x w : Int64} (hd : decode cc pc = .ok (.lor, 1)) (hp : pc + 1 = pc')  (k : Z G K n σ k1 k2 pc' lv (.long (x ||| w) :: st)) : Z G K n σ k1 k2 pc lv (.long w :: .long x :: st) := by
  subst hp
  exact fun H locs ls h1 h2 h3 => lv_lor C.1 C.2.1 hd (k H locs ls h1 h2 h3)
theorem z_lxor (C : zC G K y cc nL ret hs) (pc' : Nat) {x w : Int64} (hd : decode cc pc = .ok (.lxor, 1)) (hp : pc + 1 = pc')  (k : Z G K n σ k1 k2 pc' lv (.long (x ^^^ w) :: st)) : Z G K n σ k1 k2 pc lv (.long w :: .long x :: st) := by
  subst hp
  exact fun H locs ls h1 h2 h3 => lv_lxor C.1 C.2.1 hd (k H locs ls h1 h2 h3)
theorem z_ldiv (C : zC G K y cc nL ret hs) (pc' : Nat) {x w : Int64} (hd : decode cc pc = .ok (.ldiv, 1)) (hp : pc + 1 = pc') (hne : ¬ w = 0) (k : Z G K n σ k1 k2 pc' lv (.long (x / w) :: st)) : Z G K n σ k1 k2 pc lv (.long w :: .long x :: st) := by
  subst hp
  exact fun H locs ls h1 h2 h3 => lv_ldiv C.1 C.2.1 hd hne (k H locs ls h1 h2 h3)
theorem z_lshl (C : zC G K y cc nL ret hs) (pc' : Nat) {x : Int64} {w : Int32} (hd : decode cc pc = .ok (.lshl, 1)) (hp : pc + 1 = pc')  (k : Z G K n σ k1 k2 pc' lv (.long (x <<< (w.toInt64 &&& 63)) :: st)) : Z G K n σ k1 k2 pc lv (.int w :: .long x :: st) := by
  subst hp
  exact fun H locs ls h1 h2 h3 => lv_lshl C.1 C.2.1 hd rfl (k H locs ls h1 h2 h3)
theorem z_i2l (C : zC G K y cc nL ret hs) (pc' : Nat) {x : Int32} (hd : decode cc pc = .ok (.i2l, 1)) (hp : pc + 1 = pc')  (k : Z G K n σ k1 k2 pc' lv (.long x.toInt64 :: st)) : Z G K n σ k1 k2 pc lv (.int x :: st) := by
  subst hp
  exact fun H locs ls h1 h2 h3 => lv_i2l C.1 C.2.1 hd rfl (k H locs ls h1 h2 h3)
theorem z_l2i (C : zC G K y cc nL ret hs) (pc' : Nat) {x : Int64} (hd : decode cc pc = .ok (.l2i, 1)) (hp : pc + 1 = pc')  (k : Z G K n σ k1 k2 pc' lv (.int x.toInt32 :: st)) : Z G K n σ k1 k2 pc lv (.long x :: st) := by
  subst hp
  exact fun H locs ls h1 h2 h3 => lv_l2i C.1 C.2.1 hd rfl (k H locs ls h1 h2 h3)
theorem z_i2c (C : zC G K y cc nL ret hs) (pc' : Nat) {x : Int32} (hd : decode cc pc = .ok (.i2c, 1)) (hp : pc + 1 = pc')  (k : Z G K n σ k1 k2 pc' lv (.int (x.toUInt32 % 65536).toInt32 :: st)) : Z G K n σ k1 k2 pc lv (.int x :: st) := by
  subst hp
  exact fun H locs ls h1 h2 h3 => lv_i2c C.1 C.2.1 hd rfl (k H locs ls h1 h2 h3)
theorem z_lcmp (C : zC G K y cc nL ret hs) (pc' : Nat) {x w : Int64} (hd : decode cc pc = .ok (.lcmp, 1)) (hp : pc + 1 = pc')  (k : Z G K n σ k1 k2 pc' lv (.int (lg_cmp x w) :: st)) : Z G K n σ k1 k2 pc lv (.long w :: .long x :: st) := by
  subst hp
  exact fun H locs ls h1 h2 h3 => W.lcmp C.1 C.2.1 hd (k H locs ls h1 h2 h3)
theorem z_dup (C : zC G K y cc nL ret hs) (pc' : Nat) {a : Value} (hd : decode cc pc = .ok (.dup, 1)) (hp : pc + 1 = pc') (ha : a.category = 1) (k : Z G K n σ k1 k2 pc' lv (a :: a :: st)) : Z G K n σ k1 k2 pc lv (a :: st) := by
  subst hp
  exact fun H locs ls h1 h2 h3 => lv_dup C.1 C.2.1 hd (by rw [zV_cat]; exact ha) (k H locs ls h1 h2 h3)
theorem z_pop (C : zC G K y cc nL ret hs) (pc' : Nat) {a : Value} (hd : decode cc pc = .ok (.pop, 1)) (hp : pc + 1 = pc') (ha : a.category = 1) (k : Z G K n σ k1 k2 pc' lv (st)) : Z G K n σ k1 k2 pc lv (a :: st) := by
  subst hp
  exact fun H locs ls h1 h2 h3 => lv_pop C.1 C.2.1 hd (by rw [zV_cat]; exact ha) (k H locs ls h1 h2 h3)
theorem z_dup2_11 (C : zC G K y cc nL ret hs) (pc' : Nat) {a b : Value} (hd : decode cc pc = .ok (.dup2, 1)) (hp : pc + 1 = pc') (ha : a.category = 1) (hb : b.category = 1) (k : Z G K n σ k1 k2 pc' lv (a :: b :: a :: b :: st)) : Z G K n σ k1 k2 pc lv (a :: b :: st) := by
  subst hp
  exact fun H locs ls h1 h2 h3 => lv_dup2_11 C.1 C.2.1 hd (by rw [zV_cat]; exact ha) (by rw [zV_cat]; exact hb) (k H locs ls h1 h2 h3)
theorem z_dup_x1 (C : zC G K y cc nL ret hs) (pc' : Nat) {a b : Value} (hd : decode cc pc = .ok (.dup_x1, 1)) (hp : pc + 1 = pc') (ha : a.category = 1) (hb : b.category = 1) (k : Z G K n σ k1 k2 pc' lv (a :: b :: a :: st)) : Z G K n σ k1 k2 pc lv (a :: b :: st) := by
  subst hp
  exact fun H locs ls h1 h2 h3 => lv_dup_x1 C.1 C.2.1 hd (by rw [zV_cat]; exact ha) (by rw [zV_cat]; exact hb) (k H locs ls h1 h2 h3)
theorem z_iinc (C : zC G K y cc nL ret hs) (pc' : Nat) {j : Nat} {a : Int} {x : Int32} (hd : decode cc pc = .ok (.iinc j a, 3)) (hp : pc + 3 = pc') (v : Int32) (hl : zl lv j = some (.int x)) (hv : x + Int32.ofInt a = v) (hn : j < nL) (k : Z G K n σ k1 k2 pc' (zs1 lv j (.int v)) (st)) : Z G K n σ k1 k2 pc lv (st) := by
  subst hp
  exact fun H locs ls h1 h2 h3 => z_iinc0 C hd h3 hl hv hn (fun ls' h => k H locs ls' h1 h2 h)
theorem z_if_eq (C : zC G K y cc nL ret hs) (pc' tgt : Nat) {x : Int32} {off : Int} (hd : decode cc pc = .ok (.ifCond .eq off, 3)) (hp : pc + 3 = pc') (ht : (pc : Int) + off = (tgt : Int)) (kt : x = 0 → Z G K n σ k1 k2 tgt lv st) (kf : ¬ x = 0 → Z G K n σ k1 k2 pc' lv st) : Z G K n σ k1 k2 pc lv (.int x :: st) := by
  subst hp
  exact fun H locs ls h1 h2 h3 => lv_if_eq C.1 C.2.1 hd ht (fun h => kt h H locs ls h1 h2 h3) (fun h => kf h H locs ls h1 h2 h3)
theorem z_if_ne (C : zC G K y cc nL ret hs) (pc' tgt : Nat) {x : Int32} {off : Int} (hd : decode cc pc = .ok (.ifCond .ne off, 3)) (hp : pc + 3 = pc') (ht : (pc : Int) + off = (tgt : Int)) (kt : ¬ x = 0 → Z G K n σ k1 k2 tgt lv st) (kf : x = 0 → Z G K n σ k1 k2 pc' lv st) : Z G K n σ k1 k2 pc lv (.int x :: st) := by
  subst hp
  exact fun H locs ls h1 h2 h3 => lv_if_ne C.1 C.2.1 hd ht (fun h => kt h H locs ls h1 h2 h3) (fun h => kf h H locs ls h1 h2 h3)
theorem z_if_lt (C : zC G K y cc nL ret hs) (pc' tgt : Nat) {x : Int32} {off : Int} (hd : decode cc pc = .ok (.ifCond .lt off, 3)) (hp : pc + 3 = pc') (ht : (pc : Int) + off = (tgt : Int)) (kt : x < 0 → Z G K n σ k1 k2 tgt lv st) (kf : ¬ x < 0 → Z G K n σ k1 k2 pc' lv st) : Z G K n σ k1 k2 pc lv (.int x :: st) := by
  subst hp
  exact fun H locs ls h1 h2 h3 => lv_if_lt C.1 C.2.1 hd ht (fun h => kt h H locs ls h1 h2 h3) (fun h => kf h H locs ls h1 h2 h3)
theorem z_if_ge (C : zC G K y cc nL ret hs) (pc' tgt : Nat) {x : Int32} {off : Int} (hd : decode cc pc = .ok (.ifCond .ge off, 3)) (hp : pc + 3 = pc') (ht : (pc : Int) + off = (tgt : Int)) (kt : 0 ≤ x → Z G K n σ k1 k2 tgt lv st) (kf : ¬ 0 ≤ x → Z G K n σ k1 k2 pc' lv st) : Z G K n σ k1 k2 pc lv (.int x :: st) := by
  subst hp
  exact fun H locs ls h1 h2 h3 => lv_if_ge C.1 C.2.1 hd ht (fun h => kt h H locs ls h1 h2 h3) (fun h => kf h H locs ls h1 h2 h3)
theorem z_if_gt (C : zC G K y cc nL ret hs) (pc' tgt : Nat) {x : Int32} {off : Int} (hd : decode cc pc = .ok (.ifCond .gt off, 3)) (hp : pc + 3 = pc') (ht : (pc : Int) + off = (tgt : Int)) (kt : 0 < x → Z G K n σ k1 k2 tgt lv st) (kf : ¬ 0 < x → Z G K n σ k1 k2 pc' lv st) : Z G K n σ k1 k2 pc lv (.int x :: st) := by
  subst hp
  exact fun H locs ls h1 h2 h3 => lv_if_gt C.1 C.2.1 hd ht (fun h => kt h H locs ls h1 h2 h3) (fun h => kf h H locs ls h1 h2 h3)
theorem z_if_le (C : zC G K y cc nL ret hs) (pc' tgt : Nat) {x : Int32} {off : Int} (hd : decode cc pc = .ok (.ifCond .le off, 3)) (hp : pc + 3 = pc') (ht : (pc : Int) + off = (tgt : Int)) (kt : x ≤ 0 → Z G K n σ k1 k2 tgt lv st) (kf : ¬ x ≤ 0 → Z G K n σ k1 k2 pc' lv st) : Z G K n σ k1 k2 pc lv (.int x :: st) := by
  subst hp
  exact fun H locs ls h1 h2 h3 => lv_if_le C.1 C.2.1 hd ht (fun h => kt h H locs ls h1 h2 h3) (fun h => kf h H locs ls h1 h2 h3)
theorem z_icmp_eq (C : zC G K y cc nL ret hs) (pc' tgt : Nat) {x w : Int32} {off : Int} (hd : decode cc pc = .ok (.if_icmp .eq off, 3)) (hp : pc + 3 = pc') (ht : (pc : Int) + off = (tgt : Int)) (kt : x = w → Z G K n σ k1 k2 tgt lv st) (kf : ¬ x = w → Z G K n σ k1 k2 pc' lv st) : Z G K n σ k1 k2 pc lv (.int w :: .int x :: st) := by
  subst hp
  exact fun H locs ls h1 h2 h3 => lv_icmp_eq C.1 C.2.1 hd ht (fun h => kt h H locs ls h1 h2 h3) (fun h => kf h H locs ls h1 h2 h3)
theorem z_icmp_ne (C : zC G K y cc nL ret hs) (pc' tgt : Nat) {x w : Int32} {off : Int} (hd : decode cc pc = .ok (.if_icmp .ne off, 3)) (hp : pc + 3 = pc') (ht : (pc : Int) + off = (tgt : Int)) (kt : ¬ x = w → Z G K n σ k1 k2 tgt lv st) (kf : x = w → Z G K n σ k1 k2 pc' lv st) : Z G K n σ k1 k2 pc lv (.int w :: .int x :: st) := by
  subst hp
  exact fun H locs ls h1 h2 h3 => lv_icmp_ne C.1 C.2.1 hd ht (fun h => kt h H locs ls h1 h2 h3) (fun h => kf h H locs ls h1 h2 h3)
theorem z_icmp_lt (C : zC G K y cc nL ret hs) (pc' tgt : Nat) {x w : Int32} {off : Int} (hd : decode cc pc = .ok (.if_icmp .lt off, 3)) (hp : pc + 3 = pc') (ht : (pc : Int) + off = (tgt : Int)) (kt : x < w → Z G K n σ k1 k2 tgt lv st) (kf : ¬ x < w → Z G K n σ k1 k2 pc' lv st) : Z G K n σ k1 k2 pc lv (.int w :: .int x :: st) := by
  subst hp
  exact fun H locs ls h1 h2 h3 => lv_icmp_lt C.1 C.2.1 hd ht (fun h => kt h H locs ls h1 h2 h3) (fun h => kf h H locs ls h1 h2 h3)
theorem z_icmp_ge (C : zC G K y cc nL ret hs) (pc' tgt : Nat) {x w : Int32} {off : Int} (hd : decode cc pc = .ok (.if_icmp .ge off, 3)) (hp : pc + 3 = pc') (ht : (pc : Int) + off = (tgt : Int)) (kt : w ≤ x → Z G K n σ k1 k2 tgt lv st) (kf : ¬ w ≤ x → Z G K n σ k1 k2 pc' lv st) : Z G K n σ k1 k2 pc lv (.int w :: .int x :: st) := by
  subst hp
  exact fun H locs ls h1 h2 h3 => lv_icmp_ge C.1 C.2.1 hd ht (fun h => kt h H locs ls h1 h2 h3) (fun h => kf h H locs ls h1 h2 h3)
theorem z_icmp_gt (C : zC G K y cc nL ret hs) (pc' tgt : Nat) {x w : Int32} {off : Int} (hd : decode cc pc = .ok (.if_icmp .gt off, 3)) (hp : pc + 3 = pc') (ht : (pc : Int) + off = (tgt : Int)) (kt : w < x → Z G K n σ k1 k2 tgt lv st) (kf : ¬ w < x → Z G K n σ k1 k2 pc' lv st) : Z G K n σ k1 k2 pc lv (.int w :: .int x :: st) := by
  subst hp
  exact fun H locs ls h1 h2 h3 => lv_icmp_gt C.1 C.2.1 hd ht (fun h => kt h H locs ls h1 h2 h3) (fun h => kf h H locs ls h1 h2 h3)
theorem z_icmp_le (C : zC G K y cc nL ret hs) (pc' tgt : Nat) {x w : Int32} {off : Int} (hd : decode cc pc = .ok (.if_icmp .le off, 3)) (hp : pc + 3 = pc') (ht : (pc : Int) + off = (tgt : Int)) (kt : x ≤ w → Z G K n σ k1 k2 tgt lv st) (kf : ¬ x ≤ w → Z G K n σ k1 k2 pc' lv st) : Z G K n σ k1 k2 pc lv (.int w :: .int x :: st) := by
  subst hp
  exact fun H locs ls h1 h2 h3 => lv_icmp_le C.1 C.2.1 hd ht (fun h => kt h H locs ls h1 h2 h3) (fun h => kf h H locs ls h1 h2 h3)
theorem z_goto (C : zC G K y cc nL ret hs) (tgt : Nat) {off : Int} (hd : decode cc pc = .ok (.goto off, 3)) (ht : (pc : Int) + off = (tgt : Int)) (k : Z G K n σ k1 k2 tgt lv st) : Z G K n σ k1 k2 pc lv st :=
  fun H locs ls h1 h2 h3 => lv_goto C.1 C.2.1 hd ht (k H locs ls h1 h2 h3)
theorem z_ifnull (C : zC G K y cc nL ret hs) (pc' : Nat) {x : Nat} {off : Int} (hd : decode cc pc = .ok (.ifnull off, 3)) (hp : pc + 3 = pc') (k : Z G K n σ k1 k2 pc' lv st) : Z G K n σ k1 k2 pc lv (.ref x :: st) := by
  subst hp
  exact fun H locs ls h1 h2 h3 => lv_ifnull C.1 C.2.1 hd (k H locs ls h1 h2 h3)
theorem z_ifnullN (C : zC G K y cc nL ret hs) (tgt : Nat) {off : Int} (hd : decode cc pc = .ok (.ifnull off, 3)) (ht : (pc : Int) + off = (tgt : Int)) (k : Z G K n σ k1 k2 tgt lv st) : Z G K n σ k1 k2 pc lv (.null :: st) :=
  fun H locs ls h1 h2 h3 => lv_ifnullN C.1 C.2.1 hd ht (k H locs ls h1 h2 h3)
theorem z_ifnonnull (C : zC G K y cc nL ret hs) (tgt : Nat) {x : Nat} {off : Int} (hd : decode cc pc = .ok (.ifnonnull off, 3)) (ht : (pc : Int) + off = (tgt : Int)) (k : Z G K n σ k1 k2 tgt lv st) : Z G K n σ k1 k2 pc lv (.ref x :: st) :=
  fun H locs ls h1 h2 h3 => lv_ifnonnull C.1 C.2.1 hd ht (k H locs ls h1 h2 h3)
theorem z_ifnonnullN (C : zC G K y cc nL ret hs) (pc' : Nat) {off : Int} (hd : decode cc pc = .ok (.ifnonnull off, 3)) (hp : pc + 3 = pc') (k : Z G K n σ k1 k2 pc' lv st) : Z G K n σ k1 k2 pc lv (.null :: st) := by
  subst hp
  exact fun H locs ls h1 h2 h3 => lv_ifnonnullN C.1 C.2.1 hd (k H locs ls h1 h2 h3)
theorem z_iald (C : zC G K y cc nL ret hs) (pc' : Nat) {i len : Nat} {j : Int32} {f : Nat → Int32} (jn : Nat) (hd : decode cc pc = .ok (.iaload, 1)) (hp : pc + 1 = pc') (hi : i < n) (hσ : σ i = .inl (0, len, .inl f)) (hj : j = nI jn) (hl : jn < len) (hs : len < 2 ^ 31)
    (k : Z G K n σ k1 k2 pc' lv (.int (f jn) :: st)) : Z G K n σ k1 k2 pc lv (.int j :: .ref i :: st) := by
  subst hp; subst hj
  intro H locs ls h1 h2 h3
  have hat := h1.2.2.2 i hi
  rw [hσ] at hat
  have hcl : (nI jn).toNatClampNeg = jn := nI_clamp (Nat.lt_trans hl hs)
  have kk := k H locs ls h1 h2 h3
  show W _ _ _ _ _ _ _ _ _ _ H locs k1 k2 _ (F0 _ pc ls (.int (nI jn) :: .ref (zad G i) :: st.map (zV G)))
  rw [zad_lt (Nat.lt_of_lt_of_le hi h1.2.1)]
  refine va_iald (D := zD G) (cl := zCl) (tys := zT G) (ws := [(zz G + i, zE G (.inl (0, len, .inl f)))]) C.1 C.2.1 C.kk (fun k q hq => ?_) 0 0 rfl rfl (vp_in_nI hl hs) hd ?_
  · cases k with
    | zero => cases hq; exact hat
    | succ k => cases hq
  · rw [hcl]
    exact kk
theorem z_lald (C : zC G K y cc nL ret hs) (pc' : Nat) {i len : Nat} {j : Int32} {f : Nat → Int64} (jn : Nat) (hd : decode cc pc = .ok (.laload, 1)) (hp : pc + 1 = pc') (hi : i < n) (hσ : σ i = .inl (1, len, .inr (.inl f))) (hj : j = nI jn) (hl : jn < len) (hs : len < 2 ^ 31)
    (k : Z G K n σ k1 k2 pc' lv (.long (f jn) :: st)) : Z G K n σ k1 k2 pc lv (.int j :: .ref i :: st) := by
  subst hp; subst hj
  intro H locs ls h1 h2 h3
  have hat := h1.2.2.2 i hi
  rw [hσ] at hat
  have hcl : (nI jn).toNatClampNeg = jn := nI_clamp (Nat.lt_trans hl hs)
  have kk := k H locs ls h1 h2 h3
  show W _ _ _ _ _ _ _ _ _ _ H locs k1 k2 _ (F0 _ pc ls (.int (nI jn) :: .ref (zad G i) :: st.map (zV G)))
  rw [zad_lt (Nat.lt_of_lt_of_le hi h1.2.1)]
  refine va_lald (D := zD G) (cl := zCl) (tys := zT G) (ws := [(zz G + i, zE G (.inl (1, len, .inr (.inl f))))]) C.1 C.2.1 C.kk (fun k q hq => ?_) 0 1 rfl rfl (vp_in_nI hl hs) hd ?_
  · cases k with
    | zero => cases hq; exact hat
    | succ k => cases hq
  · rw [hcl]
    exact kk
theorem z_cald (C : zC G K y cc nL ret hs) (pc' : Nat) {i len : Nat} {j : Int32} {f : Nat → Int32} (jn : Nat) (hd : decode cc pc = .ok (.caload, 1)) (hp : pc + 1 = pc') (hi : i < n) (hσ : σ i = .inl (2, len, .inl f)) (hj : j = nI jn) (hl : jn < len) (hs : len < 2 ^ 31)
    (k : Z G K n σ k1 k2 pc' lv (.int (f jn) :: st)) : Z G K n σ k1 k2 pc lv (.int j :: .ref i :: st) := by
  subst hp; subst hj
  intro H locs ls h1 h2 h3
  have hat := h1.2.2.2 i hi
  rw [hσ] at hat
  have hcl : (nI jn).toNatClampNeg = jn := nI_clamp (Nat.lt_trans hl hs)
  have kk := k H locs ls h1 h2 h3
  show W _ _ _ _ _ _ _ _ _ _ H locs k1 k2 _ (F0 _ pc ls (.int (nI jn) :: .ref (zad G i) :: st.map (zV G)))
  rw [zad_lt (Nat.lt_of_lt_of_le hi h1.2.1)]
  refine va_cald (D := zD G) (cl := zCl) (tys := zT G) (ws := [(zz G + i, zE G (.inl (2, len, .inl f)))]) C.1 C.2.1 C.kk (fun k q hq => ?_) 0 2 rfl rfl (vp_in_nI hl hs) hd ?_
  · cases k with
    | zero => cases hq; exact hat
    | succ k => cases hq
  · rw [hcl]
    exact kk
theorem z_zald (C : zC G K y cc nL ret hs) (pc' : Nat) {i len : Nat} {j : Int32} {f : Nat → Int32} (jn : Nat) (hd : decode cc pc = .ok (.baload, 1)) (hp : pc + 1 = pc') (hi : i < n) (hσ : σ i = .inl (3, len, .inl f)) (hj : j = nI jn) (hl : jn < len) (hs : len < 2 ^ 31)
    (k : Z G K n σ k1 k2 pc' lv (.int (f jn) :: st)) : Z G K n σ k1 k2 pc lv (.int j :: .ref i :: st) := by
  subst hp; subst hj
  intro H locs ls h1 h2 h3
  have hat := h1.2.2.2 i hi
  rw [hσ] at hat
  have hcl : (nI jn).toNatClampNeg = jn := nI_clamp (Nat.lt_trans hl hs)
  have kk := k H locs ls h1 h2 h3
  show W _ _ _ _ _ _ _ _ _ _ H locs k1 k2 _ (F0 _ pc ls (.int (nI jn) :: .ref (zad G i) :: st.map (zV G)))
  rw [zad_lt (Nat.lt_of_lt_of_le hi h1.2.1)]
  refine va_zald (D := zD G) (cl := zCl) (tys := zT G) (ws := [(zz G + i, zE G (.inl (3, len, .inl f)))]) C.1 C.2.1 C.kk (fun k q hq => ?_) 0 3 rfl rfl (vp_in_nI hl hs) hd ?_
  · cases k with
    | zero => cases hq; exact hat
    | succ k => cases hq
  · rw [hcl]
    exact kk
theorem z_iast (C : zC G K y cc nL ret hs) (pc' : Nat) {i len : Nat} {j : Int32} {x : Int32} {f : Nat → Int32} (jn : Nat) (hd : decode cc pc = .ok (.iastore, 1)) (hp : pc + 1 = pc') (hi : i < n) (hσ : σ i = .inl (0, len, .inl (f))) (hj : j = nI jn) (hl : jn < len) (hs : len < 2 ^ 31) 
    (k : Z G K n (va_up σ i (.inl (0, len, .inl (upd f jn x)))) k1 k2 pc' lv st) : Z G K n σ k1 k2 pc lv (.int (x) :: .int j :: .ref i :: st) := by
  subst hp; subst hj
  intro H locs ls h1 h2 h3
  have hat := h1.2.2.2 i hi
  rw [hσ] at hat
  have hcl : (nI jn).toNatClampNeg = jn := nI_clamp (Nat.lt_trans hl hs)
  show W _ _ _ _ _ _ _ _ _ _ H locs k1 k2 _ (F0 _ pc ls (.int (x) :: .int (nI jn) :: .ref (zad G i) :: st.map (zV G)))
  rw [zad_lt (Nat.lt_of_lt_of_le hi h1.2.1)]
  refine W.iast C.1 C.2.1 (show H[zz G + i]? = some (vp_cell (zcA G 0) (len, .inl (f))) from hat) ((C.kk.2 0 _ rfl).1 len (fun j => .int (f j))) (fun q => by cases q) (by show ¬ (nI jn < 0 ∨ (arrV _ _ _).slots.size ≤ _); rw [arrV_size]; exact vp_in_nI hl hs) rfl rfl hd fun H1 e z oq => ?_
  refine k H1 _ ls (h1.set z oq ?_) (fun q hq => ?_) h3
  · show H1[zz G + i]? = some (vp_cell _ _)
    rw [e, hcl]
    show some ((arrV (zcA G 0) len (fun j => .int (f j))).setSlot jn _) = some (arrV (zcA G 0) len (fun j => .int (upd f jn x j)))
    rw [arrV_store]
    congr 2
    funext q
    by_cases hq : q = jn
    · subst hq
      simp [updV, upd, vp_nar]
      try rfl
    · simp [updV, upd, hq]
  · rcases List.mem_append.mp hq with hq | hq
    · exact h2 q hq
    · rw [List.mem_singleton.mp hq]
      exact Nat.le_add_right _ _
theorem z_last (C : zC G K y cc nL ret hs) (pc' : Nat) {i len : Nat} {j : Int32} {x : Int64} {f : Nat → Int64} (jn : Nat) (hd : decode cc pc = .ok (.lastore, 1)) (hp : pc + 1 = pc') (hi : i < n) (hσ : σ i = .inl (1, len, .inr (.inl (f)))) (hj : j = nI jn) (hl : jn < len) (hs : len < 2 ^ 31) 
    (k : Z G K n (va_up σ i (.inl (1, len, .inr (.inl (vp_updL f jn x))))) k1 k2 pc' lv st) : Z G K n σ k1 k2 pc lv (.long (x) :: .int j :: .ref i :: st) := by
  subst hp; subst hj
  intro H locs ls h1 h2 h3
  have hat := h1.2.2.2 i hi
  rw [hσ] at hat
  have hcl : (nI jn).toNatClampNeg = jn := nI_clamp (Nat.lt_trans hl hs)
  show W _ _ _ _ _ _ _ _ _ _ H locs k1 k2 _ (F0 _ pc ls (.long (x) :: .int (nI jn) :: .ref (zad G i) :: st.map (zV G)))
  rw [zad_lt (Nat.lt_of_lt_of_le hi h1.2.1)]
  refine W.last C.1 C.2.1 (show H[zz G + i]? = some (vp_cell (zcA G 1) (len, .inr (.inl (f)))) from hat) ((C.kk.2 1 _ rfl).1 len (fun j => .long (f j))) (fun q => by cases q) (by show ¬ (nI jn < 0 ∨ (arrV _ _ _).slots.size ≤ _); rw [arrV_size]; exact vp_in_nI hl hs) rfl rfl hd fun H1 e z oq => ?_
  refine k H1 _ ls (h1.set z oq ?_) (fun q hq => ?_) h3
  · show H1[zz G + i]? = some (vp_cell _ _)
    rw [e, hcl]
    show some ((arrV (zcA G 1) len (fun j => .long (f j))).setSlot jn _) = some (arrV (zcA G 1) len (fun j => .long (vp_updL f jn x j)))
    rw [arrV_store]
    congr 2
    funext q
    by_cases hq : q = jn
    · subst hq
      simp [updV, vp_updL, vp_nar]
      try rfl
    · simp [updV, vp_updL, hq]
  · rcases List.mem_append.mp hq with hq | hq
    · exact h2 q hq
    · rw [List.mem_singleton.mp hq]
      exact Nat.le_add_right _ _
theorem z_cast (C : zC G K y cc nL ret hs) (pc' : Nat) {i len : Nat} {j : Int32} {x : Int32} {f : Nat → Int32} (jn : Nat) (hd : decode cc pc = .ok (.castore, 1)) (hp : pc + 1 = pc') (hi : i < n) (hσ : σ i = .inl (2, len, .inl (f))) (hj : j = nI jn) (hl : jn < len) (hs : len < 2 ^ 31) (x' : Int32) (hx : vp_nar .char x = x') 
    (k : Z G K n (va_up σ i (.inl (2, len, .inl (upd f jn x')))) k1 k2 pc' lv st) : Z G K n σ k1 k2 pc lv (.int (x) :: .int j :: .ref i :: st) := by
  subst hp; subst hj; subst hx
  intro H locs ls h1 h2 h3
  have hat := h1.2.2.2 i hi
  rw [hσ] at hat
  have hcl : (nI jn).toNatClampNeg = jn := nI_clamp (Nat.lt_trans hl hs)
  show W _ _ _ _ _ _ _ _ _ _ H locs k1 k2 _ (F0 _ pc ls (.int (x) :: .int (nI jn) :: .ref (zad G i) :: st.map (zV G)))
  rw [zad_lt (Nat.lt_of_lt_of_le hi h1.2.1)]
  refine W.cast C.1 C.2.1 (show H[zz G + i]? = some (vp_cell (zcA G 2) (len, .inl (f))) from hat) ((C.kk.2 2 _ rfl).1 len (fun j => .int (f j))) (fun q => by cases q) (by show ¬ (nI jn < 0 ∨ (arrV _ _ _).slots.size ≤ _); rw [arrV_size]; exact vp_in_nI hl hs) rfl rfl hd fun H1 e z oq => ?_
  refine k H1 _ ls (h1.set z oq ?_) (fun q hq => ?_) h3
  · show H1[zz G + i]? = some (vp_cell _ _)
    rw [e, hcl]
    show some ((arrV (zcA G 2) len (fun j => .int (f j))).setSlot jn _) = some (arrV (zcA G 2) len (fun j => .int (upd f jn (vp_nar .char x) j)))
    rw [arrV_store]
    congr 2
    funext q
    by_cases hq : q = jn
    · subst hq
      simp [updV, upd, vp_nar]
      try rfl
    · simp [updV, upd, hq]
  · rcases List.mem_append.mp hq with hq | hq
    · exact h2 q hq
    · rw [List.mem_singleton.mp hq]
      exact Nat.le_add_right _ _
theorem z_zast (C : zC G K y cc nL ret hs) (pc' : Nat) {i len : Nat} {j : Int32} {x : Int32} {f : Nat → Int32} (jn : Nat) (hd : decode cc pc = .ok (.bastore, 1)) (hp : pc + 1 = pc') (hi : i < n) (hσ : σ i = .inl (3, len, .inl (f))) (hj : j = nI jn) (hl : jn < len) (hs : len < 2 ^ 31) (x' : Int32) (hx : vp_nar .boolean x = x') 
    (k : Z G K n (va_up σ i (.inl (3, len, .inl (upd f jn x')))) k1 k2 pc' lv st) : Z G K n σ k1 k2 pc lv (.int (x) :: .int j :: .ref i :: st) := by
  subst hp; subst hj; subst hx
  intro H locs ls h1 h2 h3
  have hat := h1.2.2.2 i hi
  rw [hσ] at hat
  have hcl : (nI jn).toNatClampNeg = jn := nI_clamp (Nat.lt_trans hl hs)
  show W _ _ _ _ _ _ _ _ _ _ H locs k1 k2 _ (F0 _ pc ls (.int (x) :: .int (nI jn) :: .ref (zad G i) :: st.map (zV G)))
  rw [zad_lt (Nat.lt_of_lt_of_le hi h1.2.1)]
  refine W.zast C.1 C.2.1 (show H[zz G + i]? = some (vp_cell (zcA G 3) (len, .inl (f))) from hat) ((C.kk.2 3 _ rfl).1 len (fun j => .int (f j))) (fun q => by cases q) (by show ¬ (nI jn < 0 ∨ (arrV _ _ _).slots.size ≤ _); rw [arrV_size]; exact vp_in_nI hl hs) rfl rfl hd fun H1 e z oq => ?_
  refine k H1 _ ls (h1.set z oq ?_) (fun q hq => ?_) h3
  · show H1[zz G + i]? = some (vp_cell _ _)
    rw [e, hcl]
    show some ((arrV (zcA G 3) len (fun j => .int (f j))).setSlot jn _) = some (arrV (zcA G 3) len (fun j => .int (upd f jn (vp_nar .boolean x) j)))
    rw [arrV_store]
    congr 2
    funext q
    by_cases hq : q = jn
    · subst hq
      simp [updV, upd, vp_nar]
      try rfl
    · simp [updV, upd, hq]
  · rcases List.mem_append.mp hq with hq | hq
    · exact h2 q hq
    · rw [List.mem_singleton.mp hq]
      exact Nat.le_add_right _ _
end ZR
