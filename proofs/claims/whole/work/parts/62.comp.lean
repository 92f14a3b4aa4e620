theorem d_R_readNewRow_0 : decode b_R_readNewRow 0 = .ok (.new 121, 3) := by decide +kernel
theorem d_R_readNewRow_3 : decode b_R_readNewRow 3 = .ok (.dup, 1) := by decide +kernel
theorem d_R_readNewRow_4 : decode b_R_readNewRow 4 = .ok (.getstatic 186, 3) := by decide +kernel
theorem d_R_readNewRow_7 : decode b_R_readNewRow 7 = .ok (.aload_n 0, 1) := by decide +kernel
theorem d_R_readNewRow_8 : decode b_R_readNewRow 8 = .ok (.getfield 9, 3) := by decide +kernel
theorem d_R_readNewRow_11 : decode b_R_readNewRow 11 = .ok (.invokespecial 126, 3) := by decide +kernel
theorem d_R_readNewRow_14 : decode b_R_readNewRow 14 = .ok (.astore_n 2, 1) := by decide +kernel
theorem d_R_readNewRow_15 : decode b_R_readNewRow 15 = .ok (.aload_n 0, 1) := by decide +kernel
theorem d_R_readNewRow_16 : decode b_R_readNewRow 16 = .ok (.bipush 64, 2) := by decide +kernel
theorem d_R_readNewRow_18 : decode b_R_readNewRow 18 = .ok (.invokevirtual 35, 3) := by decide +kernel
theorem d_R_readNewRow_21 : decode b_R_readNewRow 21 = .ok (.aload_n 2, 1) := by decide +kernel
theorem d_R_readNewRow_22 : decode b_R_readNewRow 22 = .ok (.aload_n 0, 1) := by decide +kernel
theorem d_R_readNewRow_23 : decode b_R_readNewRow 23 = .ok (.iload_n 1, 1) := by decide +kernel
theorem d_R_readNewRow_24 : decode b_R_readNewRow 24 = .ok (.iconst 1, 1) := by decide +kernel
theorem d_R_readNewRow_25 : decode b_R_readNewRow 25 = .ok (.iadd, 1) := by decide +kernel
theorem d_R_readNewRow_26 : decode b_R_readNewRow 26 = .ok (.invokevirtual 53, 3) := by decide +kernel
theorem d_R_readNewRow_29 : decode b_R_readNewRow 29 = .ok (.invokevirtual 154, 3) := by decide +kernel
theorem d_R_readNewRow_32 : decode b_R_readNewRow 32 = .ok (.aload_n 2, 1) := by decide +kernel
theorem d_R_readNewRow_33 : decode b_R_readNewRow 33 = .ok (.areturn, 1) := by decide +kernel
theorem d_R_readGivingUp_0 : decode b_R_readGivingUp 0 = .ok (.aload_n 0, 1) := by decide +kernel
theorem d_R_readGivingUp_1 : decode b_R_readGivingUp 1 = .ok (.getstatic 183, 3) := by decide +kernel
theorem d_R_readGivingUp_4 : decode b_R_readGivingUp 4 = .ok (.invokevirtual 108, 3) := by decide +kernel
theorem d_R_readGivingUp_7 : decode b_R_readGivingUp 7 = .ok (.astore_n 2, 1) := by decide +kernel
theorem d_R_readGivingUp_8 : decode b_R_readGivingUp 8 = .ok (.aload_n 0, 1) := by decide +kernel
theorem d_R_readGivingUp_9 : decode b_R_readGivingUp 9 = .ok (.bipush 59, 2) := by decide +kernel
theorem d_R_readGivingUp_11 : decode b_R_readGivingUp 11 = .ok (.invokevirtual 35, 3) := by decide +kernel
theorem d_R_readGivingUp_14 : decode b_R_readGivingUp 14 = .ok (.aload_n 2, 1) := by decide +kernel
theorem d_R_readGivingUp_15 : decode b_R_readGivingUp 15 = .ok (.aload_n 0, 1) := by decide +kernel
theorem d_R_readGivingUp_16 : decode b_R_readGivingUp 16 = .ok (.iload_n 1, 1) := by decide +kernel
theorem d_R_readGivingUp_17 : decode b_R_readGivingUp 17 = .ok (.iconst 1, 1) := by decide +kernel
theorem d_R_readGivingUp_18 : decode b_R_readGivingUp 18 = .ok (.iadd, 1) := by decide +kernel
theorem d_R_readGivingUp_19 : decode b_R_readGivingUp 19 = .ok (.invokevirtual 53, 3) := by decide +kernel
theorem d_R_readGivingUp_22 : decode b_R_readGivingUp 22 = .ok (.invokevirtual 154, 3) := by decide +kernel
theorem d_R_readGivingUp_25 : decode b_R_readGivingUp 25 = .ok (.aload_n 2, 1) := by decide +kernel
theorem d_R_readGivingUp_26 : decode b_R_readGivingUp 26 = .ok (.areturn, 1) := by decide +kernel
theorem d_R_readNewTable_0 : decode b_R_readNewTable 0 = .ok (.new 121, 3) := by decide +kernel
theorem d_R_readNewTable_3 : decode b_R_readNewTable 3 = .ok (.dup, 1) := by decide +kernel
theorem d_R_readNewTable_4 : decode b_R_readNewTable 4 = .ok (.getstatic 189, 3) := by decide +kernel
theorem d_R_readNewTable_7 : decode b_R_readNewTable 7 = .ok (.aload_n 0, 1) := by decide +kernel
theorem d_R_readNewTable_8 : decode b_R_readNewTable 8 = .ok (.getfield 9, 3) := by decide +kernel
theorem d_R_readNewTable_11 : decode b_R_readNewTable 11 = .ok (.invokespecial 126, 3) := by decide +kernel
theorem d_R_readNewTable_14 : decode b_R_readNewTable 14 = .ok (.astore_n 2, 1) := by decide +kernel
theorem d_R_readNewTable_15 : decode b_R_readNewTable 15 = .ok (.aload_n 0, 1) := by decide +kernel
theorem d_R_readNewTable_16 : decode b_R_readNewTable 16 = .ok (.bipush 37, 2) := by decide +kernel
theorem d_R_readNewTable_18 : decode b_R_readNewTable 18 = .ok (.invokevirtual 35, 3) := by decide +kernel
theorem d_R_readNewTable_21 : decode b_R_readNewTable 21 = .ok (.aload_n 2, 1) := by decide +kernel
theorem d_R_readNewTable_22 : decode b_R_readNewTable 22 = .ok (.aload_n 0, 1) := by decide +kernel
theorem d_R_readNewTable_23 : decode b_R_readNewTable 23 = .ok (.iload_n 1, 1) := by decide +kernel
theorem d_R_readNewTable_24 : decode b_R_readNewTable 24 = .ok (.iconst 1, 1) := by decide +kernel
theorem d_R_readNewTable_25 : decode b_R_readNewTable 25 = .ok (.iadd, 1) := by decide +kernel
theorem d_R_readNewTable_26 : decode b_R_readNewTable 26 = .ok (.invokevirtual 53, 3) := by decide +kernel
theorem d_R_readNewTable_29 : decode b_R_readNewTable 29 = .ok (.invokevirtual 154, 3) := by decide +kernel
theorem d_R_readNewTable_32 : decode b_R_readNewTable 32 = .ok (.aload_n 0, 1) := by decide +kernel
theorem d_R_readNewTable_33 : decode b_R_readNewTable 33 = .ok (.bipush 44, 2) := by decide +kernel
theorem d_R_readNewTable_35 : decode b_R_readNewTable 35 = .ok (.invokevirtual 35, 3) := by decide +kernel
theorem d_R_readNewTable_38 : decode b_R_readNewTable 38 = .ok (.aload_n 2, 1) := by decide +kernel
theorem d_R_readNewTable_39 : decode b_R_readNewTable 39 = .ok (.aload_n 0, 1) := by decide +kernel
theorem d_R_readNewTable_40 : decode b_R_readNewTable 40 = .ok (.iload_n 1, 1) := by decide +kernel
theorem d_R_readNewTable_41 : decode b_R_readNewTable 41 = .ok (.iconst 1, 1) := by decide +kernel
theorem d_R_readNewTable_42 : decode b_R_readNewTable 42 = .ok (.iadd, 1) := by decide +kernel
theorem d_R_readNewTable_43 : decode b_R_readNewTable 43 = .ok (.invokevirtual 53, 3) := by decide +kernel
theorem d_R_readNewTable_46 : decode b_R_readNewTable 46 = .ok (.invokevirtual 154, 3) := by decide +kernel
theorem d_R_readNewTable_49 : decode b_R_readNewTable 49 = .ok (.aload_n 2, 1) := by decide +kernel
theorem d_R_readNewTable_50 : decode b_R_readNewTable 50 = .ok (.areturn, 1) := by decide +kernel
theorem d_R_readBinding_0 : decode b_R_readBinding 0 = .ok (.aload_n 0, 1) := by decide +kernel
theorem d_R_readBinding_1 : decode b_R_readBinding 1 = .ok (.getstatic 180, 3) := by decide +kernel
theorem d_R_readBinding_4 : decode b_R_readBinding 4 = .ok (.invokevirtual 108, 3) := by decide +kernel
theorem d_R_readBinding_7 : decode b_R_readBinding 7 = .ok (.astore_n 2, 1) := by decide +kernel
theorem d_R_readBinding_8 : decode b_R_readBinding 8 = .ok (.aload_n 0, 1) := by decide +kernel
theorem d_R_readBinding_9 : decode b_R_readBinding 9 = .ok (.bipush 61, 2) := by decide +kernel
theorem d_R_readBinding_11 : decode b_R_readBinding 11 = .ok (.invokevirtual 35, 3) := by decide +kernel
theorem d_R_readBinding_14 : decode b_R_readBinding 14 = .ok (.aload_n 2, 1) := by decide +kernel
theorem d_R_readBinding_15 : decode b_R_readBinding 15 = .ok (.aload_n 0, 1) := by decide +kernel
theorem d_R_readBinding_16 : decode b_R_readBinding 16 = .ok (.iload_n 1, 1) := by decide +kernel
theorem d_R_readBinding_17 : decode b_R_readBinding 17 = .ok (.iconst 1, 1) := by decide +kernel
theorem d_R_readBinding_18 : decode b_R_readBinding 18 = .ok (.iadd, 1) := by decide +kernel
theorem d_R_readBinding_19 : decode b_R_readBinding 19 = .ok (.invokevirtual 53, 3) := by decide +kernel
theorem d_R_readBinding_22 : decode b_R_readBinding 22 = .ok (.invokevirtual 154, 3) := by decide +kernel
theorem d_R_readBinding_25 : decode b_R_readBinding 25 = .ok (.aload_n 0, 1) := by decide +kernel
theorem d_R_readBinding_26 : decode b_R_readBinding 26 = .ok (.bipush 59, 2) := by decide +kernel
theorem d_R_readBinding_28 : decode b_R_readBinding 28 = .ok (.invokevirtual 35, 3) := by decide +kernel
theorem d_R_readBinding_31 : decode b_R_readBinding 31 = .ok (.aload_n 2, 1) := by decide +kernel
theorem d_R_readBinding_32 : decode b_R_readBinding 32 = .ok (.aload_n 0, 1) := by decide +kernel
theorem d_R_readBinding_33 : decode b_R_readBinding 33 = .ok (.iload_n 1, 1) := by decide +kernel
theorem d_R_readBinding_34 : decode b_R_readBinding 34 = .ok (.iconst 1, 1) := by decide +kernel
theorem d_R_readBinding_35 : decode b_R_readBinding 35 = .ok (.iadd, 1) := by decide +kernel
theorem d_R_readBinding_36 : decode b_R_readBinding 36 = .ok (.invokevirtual 53, 3) := by decide +kernel
theorem d_R_readBinding_39 : decode b_R_readBinding 39 = .ok (.invokevirtual 154, 3) := by decide +kernel
theorem d_R_readBinding_42 : decode b_R_readBinding 42 = .ok (.aload_n 2, 1) := by decide +kernel
theorem d_R_readBinding_43 : decode b_R_readBinding 43 = .ok (.areturn, 1) := by decide +kernel
theorem d_R_readChoice_0 : decode b_R_readChoice 0 = .ok (.new 121, 3) := by decide +kernel
theorem d_R_readChoice_3 : decode b_R_readChoice 3 = .ok (.dup, 1) := by decide +kernel
theorem d_R_readChoice_4 : decode b_R_readChoice 4 = .ok (.getstatic 177, 3) := by decide +kernel
theorem d_R_readChoice_7 : decode b_R_readChoice 7 = .ok (.aload_n 0, 1) := by decide +kernel
theorem d_R_readChoice_8 : decode b_R_readChoice 8 = .ok (.getfield 9, 3) := by decide +kernel
theorem d_R_readChoice_11 : decode b_R_readChoice 11 = .ok (.invokespecial 126, 3) := by decide +kernel
theorem d_R_readChoice_14 : decode b_R_readChoice 14 = .ok (.astore_n 2, 1) := by decide +kernel
theorem d_R_readChoice_15 : decode b_R_readChoice 15 = .ok (.aload_n 0, 1) := by decide +kernel
theorem d_R_readChoice_16 : decode b_R_readChoice 16 = .ok (.bipush 63, 2) := by decide +kernel
theorem d_R_readChoice_18 : decode b_R_readChoice 18 = .ok (.invokevirtual 35, 3) := by decide +kernel
theorem d_R_readChoice_21 : decode b_R_readChoice 21 = .ok (.aload_n 2, 1) := by decide +kernel
theorem d_R_readChoice_22 : decode b_R_readChoice 22 = .ok (.aload_n 0, 1) := by decide +kernel
theorem d_R_readChoice_23 : decode b_R_readChoice 23 = .ok (.iload_n 1, 1) := by decide +kernel
theorem d_R_readChoice_24 : decode b_R_readChoice 24 = .ok (.iconst 1, 1) := by decide +kernel
theorem d_R_readChoice_25 : decode b_R_readChoice 25 = .ok (.iadd, 1) := by decide +kernel
theorem d_R_readChoice_26 : decode b_R_readChoice 26 = .ok (.invokevirtual 53, 3) := by decide +kernel
theorem d_R_readChoice_29 : decode b_R_readChoice 29 = .ok (.invokevirtual 154, 3) := by decide +kernel
theorem d_R_readChoice_32 : decode b_R_readChoice 32 = .ok (.aload_n 0, 1) := by decide +kernel
theorem d_R_readChoice_33 : decode b_R_readChoice 33 = .ok (.bipush 40, 2) := by decide +kernel
theorem d_R_readChoice_35 : decode b_R_readChoice 35 = .ok (.invokevirtual 35, 3) := by decide +kernel
theorem d_R_readChoice_38 : decode b_R_readChoice 38 = .ok (.aload_n 2, 1) := by decide +kernel
theorem d_R_readChoice_39 : decode b_R_readChoice 39 = .ok (.aload_n 0, 1) := by decide +kernel
theorem d_R_readChoice_40 : decode b_R_readChoice 40 = .ok (.iload_n 1, 1) := by decide +kernel
theorem d_R_readChoice_41 : decode b_R_readChoice 41 = .ok (.iconst 1, 1) := by decide +kernel
theorem d_R_readChoice_42 : decode b_R_readChoice 42 = .ok (.iadd, 1) := by decide +kernel
theorem d_R_readChoice_43 : decode b_R_readChoice 43 = .ok (.invokevirtual 53, 3) := by decide +kernel
theorem d_R_readChoice_46 : decode b_R_readChoice 46 = .ok (.invokevirtual 154, 3) := by decide +kernel
theorem d_R_readChoice_49 : decode b_R_readChoice 49 = .ok (.aload_n 0, 1) := by decide +kernel
theorem d_R_readChoice_50 : decode b_R_readChoice 50 = .ok (.bipush 124, 2) := by decide +kernel
theorem d_R_readChoice_52 : decode b_R_readChoice 52 = .ok (.invokevirtual 35, 3) := by decide +kernel
theorem d_R_readChoice_55 : decode b_R_readChoice 55 = .ok (.aload_n 2, 1) := by decide +kernel
theorem d_R_readChoice_56 : decode b_R_readChoice 56 = .ok (.aload_n 0, 1) := by decide +kernel
theorem d_R_readChoice_57 : decode b_R_readChoice 57 = .ok (.iload_n 1, 1) := by decide +kernel
theorem d_R_readChoice_58 : decode b_R_readChoice 58 = .ok (.iconst 1, 1) := by decide +kernel
theorem d_R_readChoice_59 : decode b_R_readChoice 59 = .ok (.iadd, 1) := by decide +kernel
theorem d_R_readChoice_60 : decode b_R_readChoice 60 = .ok (.invokevirtual 53, 3) := by decide +kernel
theorem d_R_readChoice_63 : decode b_R_readChoice 63 = .ok (.invokevirtual 154, 3) := by decide +kernel
theorem d_R_readChoice_66 : decode b_R_readChoice 66 = .ok (.aload_n 0, 1) := by decide +kernel
theorem d_R_readChoice_67 : decode b_R_readChoice 67 = .ok (.bipush 41, 2) := by decide +kernel
theorem d_R_readChoice_69 : decode b_R_readChoice 69 = .ok (.invokevirtual 35, 3) := by decide +kernel
theorem d_R_readChoice_72 : decode b_R_readChoice 72 = .ok (.aload_n 2, 1) := by decide +kernel
theorem d_R_readChoice_73 : decode b_R_readChoice 73 = .ok (.areturn, 1) := by decide +kernel
theorem sf_186 : Cond.fieldLink "SoleArrays$Reader" 186 "SoleArrays$Form" "NEW_ROW" "LSoleArrays$Form;" ∈ zTb := zt3 38 (by decide +kernel) rfl
theorem sf_189 : Cond.fieldLink "SoleArrays$Reader" 189 "SoleArrays$Form" "NEW_TABLE" "LSoleArrays$Form;" ∈ zTb := zt3 44 (by decide +kernel) rfl
theorem sf_177 : Cond.fieldLink "SoleArrays$Reader" 177 "SoleArrays$Form" "CHOICE" "LSoleArrays$Form;" ∈ zTb := zt3 22 (by decide +kernel) rfl
section CMP0
variable {T : Nat → Int32} {z p : Nat}
theorem rCe_ge {a : rS} {res : rR} (h : rRes z a res) (hp : p ≤ a.1) : 2 * (a.1 - p) ≤ rCe p res ∧ 14 * (a.1 - p) ≤ rSl p res := by
  cases res with
  | inl q =>
    have h1 : a.1 ≤ q := h.1
    exact ⟨by show _ ≤ 2 * (q - p) + 1; omega, by show _ ≤ 14 * (q - p) + 6; omega⟩
  | inr b =>
    have h1 : a.1 ≤ b.1 := h.1
    exact ⟨by show _ ≤ 2 * (b.1 - p); omega, by show _ ≤ 14 * (b.1 - p); omega⟩
theorem rCe_bind {s : rS} {x : rR} {f : rS → rR} (hx : rRes z s x) (hf : ∀ b, rGood z s b → rRes z b (f b)) (hp : p ≤ s.1) : 2 * (s.1 - p) + rCe s.1 x ≤ rCe p (rB x f) ∧ 14 * (s.1 - p) + rSl s.1 x ≤ rSl p (rB x f) := by
  cases x with
  | inl q =>
    have h1 : s.1 ≤ q := hx.1
    exact ⟨by show _ + (2 * (q - s.1) + 1) ≤ 2 * (q - p) + 1; omega, by show _ + (14 * (q - s.1) + 6) ≤ 14 * (q - p) + 6; omega⟩
  | inr b =>
    have h1 : s.1 ≤ b.1 := hx.1
    obtain ⟨g1, g2⟩ := rCe_ge (p := p) (hf b hx) (by omega)
    exact ⟨by show _ + 2 * (b.1 - s.1) ≤ rCe p (f b); omega, by show _ + 14 * (b.1 - s.1) ≤ rSl p (f b); omega⟩
theorem rCe_parts {d K i m k : Nat} {vw : Option (Int32 × Nat)} {s : rS} (hs : s.1 ≤ z) (hp : p ≤ s.1) : 2 * (s.1 - p) + rCe s.1 (rdE T z d s) ≤ rCe p (rParts T z (rdE T z d) K i vw (m + 1) k s) ∧ 14 * (s.1 - p) + rSl s.1 (rdE T z d s) ≤ rSl p (rParts T z (rdE T z d) K i vw (m + 1) k s) := by
  unfold rParts
  refine rCe_bind (rdE_res d s hs) (fun b hb => ?_) hp
  have hG : rGood z b (rAdd i s.2.1 b) := ⟨Nat.le_refl _, hb.2.1, Nat.le_refl _, Nat.le_refl _⟩
  exact rRes.of hG (rBeh_res hG.2.1 (fun c hc => rParts_res (rdE_res d) m (k + 1) c hc.2.1) (fun c hc => ⟨Nat.le_refl _, hc.2.1, Nat.le_refl _, Nat.le_refl _⟩))
theorem rParts_ill {R : rS → rR} {K i m k q : Nat} {vw : Option (Int32 × Nat)} {s : rS} (h : R s = .inl q) : rParts T z R K i vw (m + 1) k s = .inl q := by
  unfold rParts
  rw [h]
  rfl
theorem rParts_ok {R : rS → rR} {K i m k : Nat} {vw : Option (Int32 × Nat)} {s s2 : rS} (h : R s = .inr s2) : rParts T z R K i vw (m + 1) k s = rBeh T z K k i (rAdd i s.2.1 s2) (fun s3 => rParts T z R K i vw m (k + 1) s3) (fun s3 => .inr (rClose i vw s3)) := by
  have e : rParts T z R K i vw (m + 1) k s = rB (R s) (fun s2 => rBeh T z K k i (rAdd i s.2.1 s2) (fun s3 => rParts T z R K i vw m (k + 1) s3) (fun s3 => .inr (rClose i vw s3))) := rfl
  rw [e, h]
  rfl
end CMP0
section CMP
variable {G : zG} {l : Launch} {d r p z B N : Nat} {σ : zS} {xs : mS} {xr : Int64} {xa : mA} {xl : mL} {xf : xF} {E : Nat → eN} {A : mA}
theorem rPre.at {M q : Nat} (h : rPre B N r p z σ xa) (hq : q ≤ z) (hM : M ≤ q) : rPre B M r q z (va_up σ r (rdC q z)) xa := by
  obtain ⟨hr, hrB, hB, -, hz, -, -, hc⟩ := h
  exact ⟨hr, hrB, hB, va_up_self _ _ _, hz, hq, hM, hc⟩
theorem c_R_readNewRow (RX : rHyp G l d) (hd8 : d ≤ 8) (h : rPre B N r p z σ xa) (hch : rlk (xa 1) z p = 64) {res : rR} (hres : rParts (xa 1) z (rdE (xa 1) z d) 5 N none 4 0 (rGo (rNode 5 0 p (rE0 5 p) (p, N, A, E)) (p + 1)) = res) {mc ms : Nat} (hmc0 : rCe p res ≤ mc) (hms0 : rSl p res ≤ ms) :
    MetZ G l y_R_readNewRow b_R_readNewRow 3 (some (.object "SoleArrays$Expression")) [] (9 + 4 * d + 2) mc ms [.ref r, .int (nI (8 - d))] (B + 2 * N) (xOv xs xr xa xl xf (eOv B N E σ)) (rPost B N r z σ xs xr xa xl xf res) := by
  have h0 := h
  obtain ⟨hr, hrB, hB, hrd0, hz, hp, hN, hc⟩ := h
  have hpz : p < z := rlk_lt hch (by decide)
  have hrd : xOv xs xr xa xl xf (eOv B N E σ) r = .inr (4, [.ref 1, .int (nI z), .ref 2, .int (nI p)]) := (xOv_at (by omega)).trans ((eOv_lo hrB).trans hrd0)
  have hb1 := rCe_parts (T := xa 1) (z := z) (p := p) (d := d) (K := 5) (i := N) (m := 3) (k := 0) (vw := none) (s := rGo (rNode 5 0 p (rE0 5 p) (p, N, A, E)) (p + 1)) hpz (by show p ≤ p + 1; omega)
  rw [hres] at hb1
  have hb2 : 2 * (p + 1 - p) + rCe (p + 1) (rdE (xa 1) z d (rGo (rNode 5 0 p (rE0 5 p) (p, N, A, E)) (p + 1))) ≤ rCe p res := hb1.1
  have hb3 : 14 * (p + 1 - p) + rSl (p + 1) (rdE (xa 1) z d (rGo (rNode 5 0 p (rE0 5 p) (p, N, A, E)) (p + 1))) ≤ rSl p res := hb1.2
  refine MetZ.of (by decide) (Nat.le_of_ble_eq_true rfl) (fun K hK hR hpo hmc hms C => ?_)
  subst hK
  have hRc : (kR K).cells = mc := by rw [hR]; rfl
  have hRs : (kR K).slots = ms := by rw [hR]; rfl
  have hRf : (kR K).frames = 9 + 4 * d + 2 := by rw [hR]; rfl
  have hRl : (kR K).locals = 60 * (9 + 4 * d + 2) := by rw [hR]; rfl
  refine z_new C 3 n_R_121 d_R_readNewRow_0 rfl (by omega) (by rw [hR]; simp only [zRm]; omega) (by rw [hR]; simp only [zRm]; omega) ?_
  refine z_dup C 4 d_R_readNewRow_3 rfl rfl ?_
  refine z_getsF C 7 5 (by decide) sf_186 d_R_readNewRow_4 rfl ?_
  refine z_aload_n C 8 d_R_readNewRow_7 rfl rfl ?_
  refine z_get C 11 f_R_9 d_R_readNewRow_8 rfl (by omega) ((va_up_ne _ _ (by omega)).trans hrd) rfl ?_
  refine z_call C 14 (c_E_init (by omega) (by omega) 5 (nI p)) w_E_init ini_E d_R_readNewRow_11 rfl (z_goI (As := [.ref (1000001 + 5), .int (nI p)]) C l_R_126 w_E_init d_R_readNewRow_11 rfl) (Nat.le_of_ble_eq_true rfl) (by rw [hR]; simp only [zRm]; omega) (by rw [hR]; simp only [zRm]; omega) (by rw [hR]; simp only [zRm]; omega) (by rw [hR]; simp only [zRm]; omega) (fun v n' σ' hv => ?_) (fun x n' σ' hv => ?_)
  · obtain ⟨e0, e1, rfl⟩ := hv
    cases e0
    have e1 : n' = B + 2 * (N + 1) := e1
    subst e1
    refine z_astore_n C 15 d_R_readNewRow_14 rfl (by decide) ?_
    refine Z.same (τ := xOv xs xr xa xl xf (eOv B (N + 1) (va_up E N (rE0 5 p)) (va_up σ r (rdC p z)))) (fun i _ => by rw [va_same hrd0]; rfl) ?_
    refine z_take C rfl 64 (by decide) (p, N + 1, rFlat A N 5 0 p, va_up E N (rE0 5 p)) d_R_readNewRow_15 d_R_readNewRow_16 d_R_readNewRow_18 rfl (h0.at hp (by omega)) (by show N + 1 ≤ 150; omega) (by omega) (by omega) (by omega) (by omega) (by omega) (fun w => absurd hch w) (fun w => absurd hch w) (fun _ => ?_)
    refine z_part C rfl hd8 RX (i := N) (k := 0) (rGo (rNode 5 0 p (rE0 5 p) (p, N, A, E)) (p + 1)) d_R_readNewRow_21 d_R_readNewRow_22 d_R_readNewRow_23 d_R_readNewRow_24 d_R_readNewRow_25 d_R_readNewRow_26 d_R_readNewRow_29 rfl rfl rfl (h0.at hpz (by show N + 1 ≤ p + 1; omega)) (Nat.lt_succ_self N) (by show (va_up E N (rE0 5 p) N).2.2.2.1 = 0; rw [va_up_self]; rfl) (by omega) (by omega) (by omega) (by show _ + rCe (p + 1) _ ≤ _; omega) (by show _ + rSl (p + 1) _ ≤ _; omega) (by omega) (by omega) (fun q hq o n' σ' hv => ?_) (fun s2 hs2 => ?_)
    · rw [hpo, ← hres, rParts_ill hq]
      exact hv
    · have hfin : res = .inr (rClose N none (rAdd N (N + 1) s2)) := by rw [← hres, rParts_ok hs2]; rfl
      refine z_aload_n C 33 d_R_readNewRow_32 rfl rfl ?_
      have hge := rdE_pos (T := xa 1) (d := d) (s := rGo (rNode 5 0 p (rE0 5 p) (p, N, A, E)) (p + 1)) hpz hs2
      have hg1 : p + 1 ≤ s2.1 := hge.1
      rw [hfin] at hmc0 hms0
      have hmc1 : 2 * (s2.1 - p) ≤ mc := hmc0
      have hms1 : 14 * (s2.1 - p) ≤ ms := hms0
      exact z_aret C rfl d_R_readNewRow_33 (by rw [hpo, hfin]; exact ⟨rfl, rfl, rfl⟩) (by show _ + 2 * (s2.1 - (p + 1)) ≤ _; omega) (by show _ + 14 * (s2.1 - (p + 1)) ≤ _; omega)
  · cases hv.1
end CMP
