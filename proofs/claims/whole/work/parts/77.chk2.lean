/-! the Checker's looking at parts; kHyp d: look, d levels deep at most -/
def kHyp (G : zG) (l : Launch) (d : Nat) : Prop := ∀ (B N c F f : Nat) (σ : zS) (xs : mS) (xr : Int64) (xa : mA) (xl : mL) (xf : xF) (cl : Nat → Option cF) (i : Nat) (s : cS) (mc ms : Nat), kPre B N c F σ xf cl f → eWf N s.2.2 → eDp s.2.2 d i → i < N → ((∃ q, ck cl d i s = .inl q) → 1 ≤ mc ∧ 6 ≤ ms) →
  MetZ G l y_C_look b_C_look 4 (some .int) [] (8 + 3 * d) mc ms [.ref c, .ref (B + 2 * i)] (c + 2) (kSt B N c F σ xs xr xa xl xf s) (kPost B N c F σ xs xr xa xl xf kvI (ck cl d i s))
section ZKS
variable {G : zG} {K : zK} {y : MethodName} {cc : ByteArray} {nL : Nat} {ret : Option FieldType} {pc : Nat} {lv : List (Nat × Value)} {st : List Value} {B N c F : Nat} {σ : zS} {xs : mS} {xr : Int64} {xa : mA} {xl : mL} {xf : xF}
theorem zk_sub (C : zC G K y cc nL ret []) (pc' : Nat) {yc : MethodName} {ccc : ByteArray} {nLc d len : Nat} {retc : Option FieldType} {av st0 : List Value} {ig : Instr} {x res : cR} {v v' : Int32 → Option Value} {s : cS}
    (hM : ∀ mc ms, ((∃ q, x = .inl q) → 1 ≤ mc ∧ 6 ≤ ms) → MetZ G (kl K) yc ccc nLc retc [] d mc ms av (c + 2) (kSt B N c F σ xs xr xa xl xf s) (kPost B N c F σ xs xr xa xl xf v x))
    (hwd : zWd yc ccc nLc retc [] ∈ zTb) (hini : Cond.initialized yc.cls ∈ zTb) (hd : decode cc pc = .ok (ig, len)) (hp : pc + len = pc')
    (hgo : ∀ (H : Heap) (ls : Array Slot), zHW G (c + 2) (kSt B N c F σ xs xr xa xl xf s) H → ls.size = (kc K).maxLocals → zGo K (F0 (km K) pc ls (st0.map (zV G))) (F0 (km K) pc ls (st.map (zV G))) yc (av.map (zV G)).toArray H)
    (hwt : (st.map fun v => v.category).sum ≤ 8) (hfr : d + 1 ≤ (kR K).frames) (hlo : 8 + (nLc + 11) + 60 * d ≤ (kR K).locals)
    (hmc : (kR K).cells ≤ kmc K) (hms : (kR K).slots ≤ kms K) (hpo : kpo K = kPost B N c F σ xs xr xa xl xf v' res) (hm : (∃ q, res = .inl q) → 1 ≤ (kR K).cells ∧ 6 ≤ (kR K).slots) (hxr : ∀ q, x = .inl q → res = .inl q)
    (kO : ∀ t s', x = .inr (t, s') → Z G K (c + 2) (kSt B N c F σ xs xr xa xl xf s') 0 0 pc' lv ((v t).toList ++ st)) : Z G K (c + 2) (kSt B N c F σ xs xr xa xl xf s) 0 0 pc lv st0 := by
  cases x with
  | inl q =>
    have hb := hm ⟨q, hxr q rfl⟩
    refine z_call C pc' (hM 1 6 (fun _ => ⟨Nat.le_refl _, Nat.le_refl _⟩)) hwd hini hd hp hgo hwt hfr hlo (by omega) (by omega) (fun v n' σ' hv => ?_) (fun x n' σ' hv => ?_)
    · cases hv.1
    · exact zx_out C (fun h hh => nomatch hh) (by rw [hpo, hxr q rfl]; exact hv) (by omega) (by omega)
  | inr a =>
    obtain ⟨t, s'⟩ := a
    refine z_call C pc' (hM 0 0 (fun w => by obtain ⟨q, w⟩ := w; cases w)) hwd hini hd hp hgo hwt hfr hlo (by omega) (by omega) (fun v n' σ' hv => ?_) (fun x n' σ' hv => ?_)
    · obtain ⟨e0, rfl, rfl⟩ := hv
      cases e0
      exact kO t s' rfl
    · cases hv.1
end ZKS
theorem d_C_lookAtPart_0 : decode b_C_lookAtPart 0 = .ok (.aload_n 0, 1) := by decide +kernel
theorem d_C_lookAtPart_1 : decode b_C_lookAtPart 1 = .ok (.aload_n 1, 1) := by decide +kernel
theorem d_C_lookAtPart_2 : decode b_C_lookAtPart 2 = .ok (.invokevirtual 69, 3) := by decide +kernel
theorem d_C_lookAtPart_5 : decode b_C_lookAtPart 5 = .ok (.iload_n 2, 1) := by decide +kernel
theorem d_C_lookAtPart_6 : decode b_C_lookAtPart 6 = .ok (.if_icmp .eq 14, 3) := by decide +kernel
theorem d_C_lookAtPart_9 : decode b_C_lookAtPart 9 = .ok (.aload_n 0, 1) := by decide +kernel
theorem d_C_lookAtPart_10 : decode b_C_lookAtPart 10 = .ok (.getfield 27, 3) := by decide +kernel
theorem d_C_lookAtPart_13 : decode b_C_lookAtPart 13 = .ok (.aload_n 1, 1) := by decide +kernel
theorem d_C_lookAtPart_14 : decode b_C_lookAtPart 14 = .ok (.getfield 76, 3) := by decide +kernel
theorem d_C_lookAtPart_17 : decode b_C_lookAtPart 17 = .ok (.invokevirtual 36, 3) := by decide +kernel
theorem d_C_lookAtPart_20 : decode b_C_lookAtPart 20 = .ok (.return_, 1) := by decide +kernel
theorem d_C_lookAtNumbers_0 : decode b_C_lookAtNumbers 0 = .ok (.iconst 0, 1) := by decide +kernel
theorem d_C_lookAtNumbers_1 : decode b_C_lookAtNumbers 1 = .ok (.istore_n 2, 1) := by decide +kernel
theorem d_C_lookAtNumbers_2 : decode b_C_lookAtNumbers 2 = .ok (.iload_n 2, 1) := by decide +kernel
theorem d_C_lookAtNumbers_3 : decode b_C_lookAtNumbers 3 = .ok (.aload_n 1, 1) := by decide +kernel
theorem d_C_lookAtNumbers_4 : decode b_C_lookAtNumbers 4 = .ok (.getfield 113, 3) := by decide +kernel
theorem d_C_lookAtNumbers_7 : decode b_C_lookAtNumbers 7 = .ok (.if_icmp .ge 20, 3) := by decide +kernel
theorem d_C_lookAtNumbers_10 : decode b_C_lookAtNumbers 10 = .ok (.aload_n 0, 1) := by decide +kernel
theorem d_C_lookAtNumbers_11 : decode b_C_lookAtNumbers 11 = .ok (.aload_n 1, 1) := by decide +kernel
theorem d_C_lookAtNumbers_12 : decode b_C_lookAtNumbers 12 = .ok (.getfield 119, 3) := by decide +kernel
theorem d_C_lookAtNumbers_15 : decode b_C_lookAtNumbers 15 = .ok (.iload_n 2, 1) := by decide +kernel
theorem d_C_lookAtNumbers_16 : decode b_C_lookAtNumbers 16 = .ok (.aaload, 1) := by decide +kernel
theorem d_C_lookAtNumbers_17 : decode b_C_lookAtNumbers 17 = .ok (.iconst 0, 1) := by decide +kernel
theorem d_C_lookAtNumbers_18 : decode b_C_lookAtNumbers 18 = .ok (.invokevirtual 126, 3) := by decide +kernel
theorem d_C_lookAtNumbers_21 : decode b_C_lookAtNumbers 21 = .ok (.iinc 2 1, 3) := by decide +kernel
theorem d_C_lookAtNumbers_24 : decode b_C_lookAtNumbers 24 = .ok (.goto (-22), 3) := by decide +kernel
theorem d_C_lookAtNumbers_27 : decode b_C_lookAtNumbers 27 = .ok (.return_, 1) := by decide +kernel
theorem d_C_lookAtChoice_0 : decode b_C_lookAtChoice 0 = .ok (.aload_n 0, 1) := by decide +kernel
theorem d_C_lookAtChoice_1 : decode b_C_lookAtChoice 1 = .ok (.aload_n 1, 1) := by decide +kernel
theorem d_C_lookAtChoice_2 : decode b_C_lookAtChoice 2 = .ok (.getfield 119, 3) := by decide +kernel
theorem d_C_lookAtChoice_5 : decode b_C_lookAtChoice 5 = .ok (.iconst 0, 1) := by decide +kernel
theorem d_C_lookAtChoice_6 : decode b_C_lookAtChoice 6 = .ok (.aaload, 1) := by decide +kernel
theorem d_C_lookAtChoice_7 : decode b_C_lookAtChoice 7 = .ok (.iconst 0, 1) := by decide +kernel
theorem d_C_lookAtChoice_8 : decode b_C_lookAtChoice 8 = .ok (.invokevirtual 126, 3) := by decide +kernel
theorem d_C_lookAtChoice_11 : decode b_C_lookAtChoice 11 = .ok (.aload_n 0, 1) := by decide +kernel
theorem d_C_lookAtChoice_12 : decode b_C_lookAtChoice 12 = .ok (.getfield 15, 3) := by decide +kernel
theorem d_C_lookAtChoice_15 : decode b_C_lookAtChoice 15 = .ok (.istore_n 2, 1) := by decide +kernel
theorem d_C_lookAtChoice_16 : decode b_C_lookAtChoice 16 = .ok (.aload_n 0, 1) := by decide +kernel
theorem d_C_lookAtChoice_17 : decode b_C_lookAtChoice 17 = .ok (.aload_n 1, 1) := by decide +kernel
theorem d_C_lookAtChoice_18 : decode b_C_lookAtChoice 18 = .ok (.getfield 119, 3) := by decide +kernel
theorem d_C_lookAtChoice_21 : decode b_C_lookAtChoice 21 = .ok (.iconst 1, 1) := by decide +kernel
theorem d_C_lookAtChoice_22 : decode b_C_lookAtChoice 22 = .ok (.aaload, 1) := by decide +kernel
theorem d_C_lookAtChoice_23 : decode b_C_lookAtChoice 23 = .ok (.invokevirtual 69, 3) := by decide +kernel
theorem d_C_lookAtChoice_26 : decode b_C_lookAtChoice 26 = .ok (.istore_n 3, 1) := by decide +kernel
theorem d_C_lookAtChoice_27 : decode b_C_lookAtChoice 27 = .ok (.aload_n 0, 1) := by decide +kernel
theorem d_C_lookAtChoice_28 : decode b_C_lookAtChoice 28 = .ok (.getfield 15, 3) := by decide +kernel
theorem d_C_lookAtChoice_31 : decode b_C_lookAtChoice 31 = .ok (.istore 4, 2) := by decide +kernel
theorem d_C_lookAtChoice_33 : decode b_C_lookAtChoice 33 = .ok (.aload_n 0, 1) := by decide +kernel
theorem d_C_lookAtChoice_34 : decode b_C_lookAtChoice 34 = .ok (.iload_n 2, 1) := by decide +kernel
theorem d_C_lookAtChoice_35 : decode b_C_lookAtChoice 35 = .ok (.putfield 15, 3) := by decide +kernel
theorem d_C_lookAtChoice_38 : decode b_C_lookAtChoice 38 = .ok (.aload_n 0, 1) := by decide +kernel
theorem d_C_lookAtChoice_39 : decode b_C_lookAtChoice 39 = .ok (.aload_n 1, 1) := by decide +kernel
theorem d_C_lookAtChoice_40 : decode b_C_lookAtChoice 40 = .ok (.getfield 119, 3) := by decide +kernel
theorem d_C_lookAtChoice_43 : decode b_C_lookAtChoice 43 = .ok (.iconst 2, 1) := by decide +kernel
theorem d_C_lookAtChoice_44 : decode b_C_lookAtChoice 44 = .ok (.aaload, 1) := by decide +kernel
theorem d_C_lookAtChoice_45 : decode b_C_lookAtChoice 45 = .ok (.invokevirtual 69, 3) := by decide +kernel
theorem d_C_lookAtChoice_48 : decode b_C_lookAtChoice 48 = .ok (.iload_n 3, 1) := by decide +kernel
theorem d_C_lookAtChoice_49 : decode b_C_lookAtChoice 49 = .ok (.if_icmp .ne 12, 3) := by decide +kernel
theorem d_C_lookAtChoice_52 : decode b_C_lookAtChoice 52 = .ok (.aload_n 0, 1) := by decide +kernel
theorem d_C_lookAtChoice_53 : decode b_C_lookAtChoice 53 = .ok (.getfield 15, 3) := by decide +kernel
theorem d_C_lookAtChoice_56 : decode b_C_lookAtChoice 56 = .ok (.iload 4, 2) := by decide +kernel
theorem d_C_lookAtChoice_58 : decode b_C_lookAtChoice 58 = .ok (.if_icmp .eq 14, 3) := by decide +kernel
theorem d_C_lookAtChoice_61 : decode b_C_lookAtChoice 61 = .ok (.aload_n 0, 1) := by decide +kernel
theorem d_C_lookAtChoice_62 : decode b_C_lookAtChoice 62 = .ok (.getfield 27, 3) := by decide +kernel
theorem d_C_lookAtChoice_65 : decode b_C_lookAtChoice 65 = .ok (.aload_n 1, 1) := by decide +kernel
theorem d_C_lookAtChoice_66 : decode b_C_lookAtChoice 66 = .ok (.getfield 76, 3) := by decide +kernel
theorem d_C_lookAtChoice_69 : decode b_C_lookAtChoice 69 = .ok (.invokevirtual 36, 3) := by decide +kernel
theorem d_C_lookAtChoice_72 : decode b_C_lookAtChoice 72 = .ok (.iload_n 3, 1) := by decide +kernel
theorem d_C_lookAtChoice_73 : decode b_C_lookAtChoice 73 = .ok (.ireturn, 1) := by decide +kernel
theorem d_C_lookAtBinding_0 : decode b_C_lookAtBinding 0 = .ok (.aload_n 0, 1) := by decide +kernel
theorem d_C_lookAtBinding_1 : decode b_C_lookAtBinding 1 = .ok (.aload_n 1, 1) := by decide +kernel
theorem d_C_lookAtBinding_2 : decode b_C_lookAtBinding 2 = .ok (.getfield 130, 3) := by decide +kernel
theorem d_C_lookAtBinding_5 : decode b_C_lookAtBinding 5 = .ok (.aload_n 1, 1) := by decide +kernel
theorem d_C_lookAtBinding_6 : decode b_C_lookAtBinding 6 = .ok (.getfield 133, 3) := by decide +kernel
theorem d_C_lookAtBinding_9 : decode b_C_lookAtBinding 9 = .ok (.invokevirtual 57, 3) := by decide +kernel
theorem d_C_lookAtBinding_12 : decode b_C_lookAtBinding 12 = .ok (.aload_n 0, 1) := by decide +kernel
theorem d_C_lookAtBinding_13 : decode b_C_lookAtBinding 13 = .ok (.aload_n 1, 1) := by decide +kernel
theorem d_C_lookAtBinding_14 : decode b_C_lookAtBinding 14 = .ok (.getfield 130, 3) := by decide +kernel
theorem d_C_lookAtBinding_17 : decode b_C_lookAtBinding 17 = .ok (.aload_n 0, 1) := by decide +kernel
theorem d_C_lookAtBinding_18 : decode b_C_lookAtBinding 18 = .ok (.aload_n 1, 1) := by decide +kernel
theorem d_C_lookAtBinding_19 : decode b_C_lookAtBinding 19 = .ok (.getfield 119, 3) := by decide +kernel
theorem d_C_lookAtBinding_22 : decode b_C_lookAtBinding 22 = .ok (.iconst 0, 1) := by decide +kernel
theorem d_C_lookAtBinding_23 : decode b_C_lookAtBinding 23 = .ok (.aaload, 1) := by decide +kernel
theorem d_C_lookAtBinding_24 : decode b_C_lookAtBinding 24 = .ok (.invokevirtual 69, 3) := by decide +kernel
theorem d_C_lookAtBinding_27 : decode b_C_lookAtBinding 27 = .ok (.invokevirtual 62, 3) := by decide +kernel
theorem d_C_lookAtBinding_30 : decode b_C_lookAtBinding 30 = .ok (.aload_n 0, 1) := by decide +kernel
theorem d_C_lookAtBinding_31 : decode b_C_lookAtBinding 31 = .ok (.aload_n 1, 1) := by decide +kernel
theorem d_C_lookAtBinding_32 : decode b_C_lookAtBinding 32 = .ok (.getfield 119, 3) := by decide +kernel
theorem d_C_lookAtBinding_35 : decode b_C_lookAtBinding 35 = .ok (.iconst 1, 1) := by decide +kernel
theorem d_C_lookAtBinding_36 : decode b_C_lookAtBinding 36 = .ok (.aaload, 1) := by decide +kernel
theorem d_C_lookAtBinding_37 : decode b_C_lookAtBinding 37 = .ok (.invokevirtual 69, 3) := by decide +kernel
theorem d_C_lookAtBinding_40 : decode b_C_lookAtBinding 40 = .ok (.istore_n 2, 1) := by decide +kernel
theorem d_C_lookAtBinding_41 : decode b_C_lookAtBinding 41 = .ok (.aload_n 0, 1) := by decide +kernel
theorem d_C_lookAtBinding_42 : decode b_C_lookAtBinding 42 = .ok (.aload_n 1, 1) := by decide +kernel
theorem d_C_lookAtBinding_43 : decode b_C_lookAtBinding 43 = .ok (.getfield 130, 3) := by decide +kernel
theorem d_C_lookAtBinding_46 : decode b_C_lookAtBinding 46 = .ok (.aload_n 1, 1) := by decide +kernel
theorem d_C_lookAtBinding_47 : decode b_C_lookAtBinding 47 = .ok (.getfield 133, 3) := by decide +kernel
theorem d_C_lookAtBinding_50 : decode b_C_lookAtBinding 50 = .ok (.invokevirtual 81, 3) := by decide +kernel
theorem d_C_lookAtBinding_53 : decode b_C_lookAtBinding 53 = .ok (.aload_n 0, 1) := by decide +kernel
theorem d_C_lookAtBinding_54 : decode b_C_lookAtBinding 54 = .ok (.getfield 9, 3) := by decide +kernel
theorem d_C_lookAtBinding_57 : decode b_C_lookAtBinding 57 = .ok (.aload_n 1, 1) := by decide +kernel
theorem d_C_lookAtBinding_58 : decode b_C_lookAtBinding 58 = .ok (.getfield 130, 3) := by decide +kernel
theorem d_C_lookAtBinding_61 : decode b_C_lookAtBinding 61 = .ok (.iconst (-1), 1) := by decide +kernel
theorem d_C_lookAtBinding_62 : decode b_C_lookAtBinding 62 = .ok (.iastore, 1) := by decide +kernel
theorem d_C_lookAtBinding_63 : decode b_C_lookAtBinding 63 = .ok (.iload_n 2, 1) := by decide +kernel
theorem d_C_lookAtBinding_64 : decode b_C_lookAtBinding 64 = .ok (.ireturn, 1) := by decide +kernel
section KLK
variable {G : zG} {l : Launch} {B N c F f d i : Nat} {σ : zS} {xs : mS} {xr : Int64} {xa : mA} {xl : mL} {xf : xF} {cl : Nat → Option cF} {s : cS}
theorem kSt_eq {e' : eN} (hB : 85 ≤ B) (hc : c = B + 2 * N) (hi : i < N) (hk : s.2.2 i = e') : kSt B N c F σ xs xr xa xl xf s (B + 2 * i) = eCell B i e' := (kSt_e hB hc hi).trans (by rw [hk])
theorem kSt_pq {e' : eN} (hB : 85 ≤ B) (hc : c = B + 2 * N) (hi : i < N) (hk : s.2.2 i = e') : kSt B N c F σ xs xr xa xl xf s (B + 2 * i + 1) = eParts B e' := (kSt_p hB hc hi).trans (by rw [hk])
theorem ck_sm {t : Int32} {s' : cS} (h : ck cl d i s = .inr (t, s')) : eSm s.2.2 s'.2.2 := by
  have k := ck_keep (cl := cl) d i s
  rw [h] at k
  exact k
theorem cPart_sm {t w : Int32} {s' : cS} (h : cPart (ck cl d) i w s = .inr (t, s')) : eSm s.2.2 s'.2.2 := by
  have k := cPart_keep (L := ck cl d) (ck_keep (cl := cl) d) (q := i) (w := w) (s := s)
  rw [h] at k
  exact k
theorem c_C_lookAtPart {q : Nat} (KX : kHyp G l d) (hp : kPre B N c F σ xf cl f) (hw : eWf N s.2.2) (hdp : eDp s.2.2 d q) (hq : q < N) (w : Int32) {mc ms : Nat} (hm : (∃ q', cPart (ck cl d) q w s = .inl q') → 1 ≤ mc ∧ 6 ≤ ms) :
    MetZ G l y_C_lookAtPart b_C_lookAtPart 3 none [] (8 + 3 * d + 1) mc ms [.ref c, .ref (B + 2 * q), .int w] (c + 2) (kSt B N c F σ xs xr xa xl xf s) (kPost B N c F σ xs xr xa xl xf kvN (cPart (ck cl d) q w s)) := by
  obtain ⟨res, hres⟩ : ∃ x, cPart (ck cl d) q w s = x := ⟨_, rfl⟩
  rw [hres] at hm ⊢
  have hp0 := hp
  obtain ⟨hF, hFB, hc, hc9, -⟩ := hp
  refine MetZ.of (by decide) (Nat.le_of_ble_eq_true rfl) (fun K hK hR hpo hmc hms C => ?_)
  subst hK
  have hmc' : (kR K).cells ≤ kmc K := by rw [hR, hmc]; exact Nat.le_refl _
  have hms' : (kR K).slots ≤ kms K := by rw [hR, hms]; exact Nat.le_refl _
  have hm' : (∃ q, res = .inl q) → 1 ≤ (kR K).cells ∧ 6 ≤ (kR K).slots := by rw [hR]; exact hm
  refine z_aload_n C 1 d_C_lookAtPart_0 rfl rfl ?_
  refine z_aload_n C 2 d_C_lookAtPart_1 rfl rfl ?_
  refine zk_sub C 5 (fun mc ms hm => KX B N c F f σ xs xr xa xl xf cl q s mc ms hp0 hw hdp hq hm) w_C_look ini_C d_C_lookAtPart_2 rfl (z_goV (As := [.ref (B + 2 * q)]) C l_C_69 w_C_look d_C_lookAtPart_2 (by omega) ((kSt_c (by omega))) rfl rfl) (Nat.le_of_ble_eq_true rfl) (by rw [hR]; simp only [zRm]; omega) (by rw [hR]; simp only [zRm]; omega) hmc' hms' hpo hm' (fun q' hq' => by rw [← hres]; unfold cPart; rw [hq']; rfl) (fun t s' hq => ?_)
  unfold cPart at hres
  rw [hq] at hres
  have hres : (if t = w then .inr (t, s') else .inl (s'.2.2 q).2.1) = res := hres
  refine z_iload_n C 6 d_C_lookAtPart_5 rfl rfl ?_
  by_cases q1 : t = w
  · rw [if_pos q1] at hres
    refine z_icmp_eq C 9 20 d_C_lookAtPart_6 rfl (by decide) (fun _ => ?_) (fun h9 => absurd q1 h9)
    exact z_vret C rfl d_C_lookAtPart_20 (by rw [hpo]; exact (by rw [← hres]; exact ⟨rfl, rfl, rfl⟩)) (by rw [hmc]; omega) (by rw [hms]; omega)
  · rw [if_neg q1] at hres
    have hb := hm ⟨_, hres.symm⟩
    refine z_icmp_eq C 9 20 d_C_lookAtPart_6 rfl (by decide) (fun h9 => absurd h9 q1) (fun _ => ?_)
    refine z_aload_n C 10 d_C_lookAtPart_9 rfl rfl ?_
    refine z_get C 13 f_C_27 d_C_lookAtPart_10 rfl (by omega) (kSt_c (by omega)) rfl ?_
    refine z_aload_n C 14 d_C_lookAtPart_13 rfl rfl ?_
    refine z_get C 17 f_C_76 d_C_lookAtPart_14 rfl (by omega) (kSt_e (by omega) hc (by omega)) rfl ?_
    refine z_call C 20 (c_T_wrong (by omega) (by omega) (s'.2.2 q).2.1) w_T_wrong ini_T d_C_lookAtPart_17 rfl (z_goV (As := [.int (s'.2.2 q).2.1]) C l_C_36 w_T_wrong d_C_lookAtPart_17 (by omega) (rfl) rfl rfl) (Nat.le_of_ble_eq_true rfl) (by rw [hR]; simp only [zRm]; omega) (by rw [hR]; simp only [zRm]; omega) (by rw [hR]; simp only [zRm]; omega) (by rw [hR]; simp only [zRm]; omega) (fun v n' σ' hv => ?_) (fun x n' σ' hv => ?_)
    · cases hv.1
    · obtain ⟨e0, rfl, rfl⟩ := hv
      cases e0
      exact zx_out C (fun h hh => nomatch hh) (by rw [hpo]; exact (by rw [← hres]; exact kIll_mk hc)) (by rw [hmc]; omega) (by rw [hms]; omega)
theorem c_C_lookAtNumbers {e : eN} (KX : kHyp G l d) (hp : kPre B N c F σ xf cl f) (hw : eWf N s.2.2) (hi : i < N) (he : s.2.2 i = e) (hdp : ∀ j, j < e.2.2.2.1 → eDp s.2.2 d (ePt e j)) {mc ms : Nat} (hm : (∃ q', cNum (ck cl d) e s = .inl q') → 1 ≤ mc ∧ 6 ≤ ms) :
    MetZ G l y_C_lookAtNumbers b_C_lookAtNumbers 3 none [] (8 + 3 * d + 2) mc ms [.ref c, .ref (B + 2 * i)] (c + 2) (kSt B N c F σ xs xr xa xl xf s) (kPost B N c F σ xs xr xa xl xf kvN (cNum (ck cl d) e s)) := by
  obtain ⟨res, hres⟩ : ∃ x, cNum (ck cl d) e s = x := ⟨_, rfl⟩
  rw [hres] at hm ⊢
  have hp0 := hp
  obtain ⟨hF, hFB, hc, hc9, -⟩ := hp
  have hwi := hw i hi
  rw [he] at hwi
  obtain ⟨-, hc4, -, -, hpt, -⟩ := hwi
  refine MetZ.of (by decide) (Nat.le_of_ble_eq_true rfl) (fun K hK hR hpo hmc hms C => ?_)
  subst hK
  have hmc' : (kR K).cells ≤ kmc K := by rw [hR, hmc]; exact Nat.le_refl _
  have hms' : (kR K).slots ≤ kms K := by rw [hR, hms]; exact Nat.le_refl _
  have hm' : (∃ q, res = .inl q) → 1 ≤ (kR K).cells ∧ 6 ≤ (kR K).slots := by rw [hR]; exact hm
  have loop : ∀ (m j : Nat) (s1 : cS), m + j = e.2.2.2.1 → eSm s.2.2 s1.2.2 → cAll (ck cl d) e (fun _ => 0) m j s1 = res → Z G K (c + 2) (kSt B N c F σ xs xr xa xl xf s1) 0 0 2 [(2, .int (nI j)), (0, .ref c), (1, .ref (B + 2 * i))] [] := fun m => by
    induction m with
    | zero =>
      intro j s1 hj hsm hr
      obtain ⟨k, hk⟩ := hsm i
      rw [he] at hk
      refine z_iload_n C 3 d_C_lookAtNumbers_2 rfl rfl ?_
      refine z_aload_n C 4 d_C_lookAtNumbers_3 rfl rfl ?_
      refine z_get C 7 f_C_113 d_C_lookAtNumbers_4 rfl (by omega) (kSt_eq (by omega) hc hi hk) rfl ?_
      refine z_icmp_ge C 10 27 d_C_lookAtNumbers_7 rfl (by decide) (fun _ => ?_) (fun h9 => absurd ((nI_leI (a := e.2.2.2.1) (b := j) (by omega) (by omega)).mpr (by omega)) h9)
      exact z_vret C rfl d_C_lookAtNumbers_27 (by rw [hpo]; exact (by rw [← hr]; exact ⟨rfl, rfl, rfl⟩)) (by rw [hmc]; omega) (by rw [hms]; omega)
    | succ m ih =>
      intro j s1 hj hsm hr
      obtain ⟨k, hk⟩ := hsm i
      rw [he] at hk
      obtain ⟨hpj, hpN⟩ := hpt j (by omega)
      refine z_iload_n C 3 d_C_lookAtNumbers_2 rfl rfl ?_
      refine z_aload_n C 4 d_C_lookAtNumbers_3 rfl rfl ?_
      refine z_get C 7 f_C_113 d_C_lookAtNumbers_4 rfl (by omega) (kSt_eq (by omega) hc hi hk) rfl ?_
      refine z_icmp_ge C 10 27 d_C_lookAtNumbers_7 rfl (by decide) (fun h9 => absurd h9 (fun q => absurd ((nI_leI (a := e.2.2.2.1) (b := j) (by omega) (by omega)).mp q) (by omega))) (fun _ => ?_)
      refine z_aload_n C 11 d_C_lookAtNumbers_10 rfl rfl ?_
      refine z_aload_n C 12 d_C_lookAtNumbers_11 rfl rfl ?_
      refine z_get C 15 f_C_119 d_C_lookAtNumbers_12 rfl (by omega) (kSt_eq (by omega) hc hi hk) rfl ?_
      refine z_iload_n C 16 d_C_lookAtNumbers_15 rfl rfl ?_
      refine z_aald C 17 (t := 5) j (some (B + 2 * ePt e j)) d_C_lookAtNumbers_16 rfl (by omega) (kSt_pq (by omega) hc hi hk) rfl rfl rfl (by omega) (by decide) (by show (e.2.2.1 j).map _ = _; rw [hpj]; rfl) ?_
      refine z_iconst C 18 d_C_lookAtNumbers_17 rfl 0 (by decide) ?_
      refine zk_sub C 21 (fun mc ms hm => c_C_lookAtPart (s := s1) KX hp0 (hw.sm hsm) ((hdp j (by omega)).sm hsm) hpN 0 hm) w_C_lookAtPart ini_C d_C_lookAtNumbers_18 rfl (z_goV (As := [.ref (B + 2 * ePt e j), .int 0]) C l_C_126 w_C_lookAtPart d_C_lookAtNumbers_18 (by omega) ((kSt_c (by omega))) rfl rfl) (Nat.le_of_ble_eq_true rfl) (by rw [hR]; simp only [zRm]; omega) (by rw [hR]; simp only [zRm]; omega) hmc' hms' hpo hm' (fun q' hq' => by rw [← hr]; show cB _ _ = _; rw [hq']; rfl) (fun t s' hq => ?_)
      have hr : cB (cPart (ck cl d) (ePt e j) 0 s1) _ = res := hr
      rw [hq] at hr
      refine z_iinc C 24 d_C_lookAtNumbers_21 rfl (nI (j + 1)) rfl (z_inc j) (by decide) ?_
      refine z_goto C 2 d_C_lookAtNumbers_24 (by decide) ?_
      exact ih (j + 1) s' (by omega) (hsm.trans (cPart_sm hq)) hr
  refine z_iconst C 1 d_C_lookAtNumbers_0 rfl 0 (by decide) ?_
  refine z_istore_n C 2 d_C_lookAtNumbers_1 rfl (by decide) ?_
  exact loop e.2.2.2.1 0 s (by omega) eSm.refl hres
theorem c_C_lookAtChoice {e : eN} (KX : kHyp G l d) (hp : kPre B N c F σ xf cl f) (hw : eWf N s.2.2) (hi : i < N) (he : s.2.2 i = e) (hk3 : e.1 = 3) (hdp : ∀ j, j < e.2.2.2.1 → eDp s.2.2 d (ePt e j)) {mc ms : Nat} (hm : (∃ q', cCho (ck cl d) e s = .inl q') → 1 ≤ mc ∧ 6 ≤ ms) :
    MetZ G l y_C_lookAtChoice b_C_lookAtChoice 5 (some .int) [] (8 + 3 * d + 2) mc ms [.ref c, .ref (B + 2 * i)] (c + 2) (kSt B N c F σ xs xr xa xl xf s) (kPost B N c F σ xs xr xa xl xf kvI (cCho (ck cl d) e s)) := by
  obtain ⟨res, hres⟩ : ∃ x, cCho (ck cl d) e s = x := ⟨_, rfl⟩
  rw [hres] at hm ⊢
  have hp0 := hp
  obtain ⟨hF, hFB, hc, hc9, -⟩ := hp
  have hwi := hw i hi
  rw [he] at hwi
  obtain ⟨-, hc4, -, -, hpt, hct⟩ := hwi
  have hc3 : e.2.2.2.1 = 3 := hct.2.2.2.1 hk3
  obtain ⟨hp0j, hp0N⟩ := hpt 0 (by omega)
  obtain ⟨hp1j, hp1N⟩ := hpt 1 (by omega)
  obtain ⟨hp2j, hp2N⟩ := hpt 2 (by omega)
  refine MetZ.of (by decide) (Nat.le_of_ble_eq_true rfl) (fun K hK hR hpo hmc hms C => ?_)
  subst hK
  have hmc' : (kR K).cells ≤ kmc K := by rw [hR, hmc]; exact Nat.le_refl _
  have hms' : (kR K).slots ≤ kms K := by rw [hR, hms]; exact Nat.le_refl _
  have hm' : (∃ q, res = .inl q) → 1 ≤ (kR K).cells ∧ 6 ≤ (kR K).slots := by rw [hR]; exact hm
  unfold cCho at hres
  refine z_aload_n C 1 d_C_lookAtChoice_0 rfl rfl ?_
  refine z_aload_n C 2 d_C_lookAtChoice_1 rfl rfl ?_
  refine z_get C 5 f_C_119 d_C_lookAtChoice_2 rfl (by omega) (kSt_eq (by omega) hc hi he) rfl ?_
  refine z_iconst C 6 d_C_lookAtChoice_5 rfl 0 (by decide) ?_
  refine z_aald C 7 (t := 5) 0 (some (B + 2 * ePt e 0)) d_C_lookAtChoice_6 rfl (by omega) (kSt_pq (by omega) hc hi he) rfl rfl rfl (by omega) (by decide) (by show (e.2.2.1 0).map _ = _; rw [hp0j]; rfl) ?_
  refine z_iconst C 8 d_C_lookAtChoice_7 rfl 0 (by decide) ?_
  refine zk_sub C 11 (fun mc ms hm => c_C_lookAtPart (s := s) KX hp0 hw (hdp 0 (by omega)) hp0N 0 hm) w_C_lookAtPart ini_C d_C_lookAtChoice_8 rfl (z_goV (As := [.ref (B + 2 * ePt e 0), .int 0]) C l_C_126 w_C_lookAtPart d_C_lookAtChoice_8 (by omega) ((kSt_c (by omega))) rfl rfl) (Nat.le_of_ble_eq_true rfl) (by rw [hR]; simp only [zRm]; omega) (by rw [hR]; simp only [zRm]; omega) hmc' hms' hpo hm' (fun q' hq' => by rw [← hres, hq']; rfl) (fun t1 s1 hq1 => ?_)
  rw [hq1] at hres
  have sm1 := cPart_sm hq1
  obtain ⟨k1, hk1⟩ := sm1 i
  rw [he] at hk1
  have hres : cB (ck cl d (ePt e 1) s1) _ = res := hres
  refine z_aload_n C 12 d_C_lookAtChoice_11 rfl rfl ?_
  refine z_get C 15 f_C_15 d_C_lookAtChoice_12 rfl (by omega) (kSt_c (by omega)) rfl ?_
  refine z_istore_n C 16 d_C_lookAtChoice_15 rfl (by decide) ?_
  refine z_aload_n C 17 d_C_lookAtChoice_16 rfl rfl ?_
  refine z_aload_n C 18 d_C_lookAtChoice_17 rfl rfl ?_
  refine z_get C 21 f_C_119 d_C_lookAtChoice_18 rfl (by omega) (kSt_eq (by omega) hc hi hk1) rfl ?_
  refine z_iconst C 22 d_C_lookAtChoice_21 rfl 1 (by decide) ?_
  refine z_aald C 23 (t := 5) 1 (some (B + 2 * ePt e 1)) d_C_lookAtChoice_22 rfl (by omega) (kSt_pq (by omega) hc hi hk1) rfl rfl rfl (by omega) (by decide) (by show (e.2.2.1 1).map _ = _; rw [hp1j]; rfl) ?_
  refine zk_sub C 26 (fun mc ms hm => KX B N c F f σ xs xr xa xl xf cl (ePt e 1) s1 mc ms hp0 (hw.sm sm1) ((hdp 1 (by omega)).sm sm1) hp1N hm) w_C_look ini_C d_C_lookAtChoice_23 rfl (z_goV (As := [.ref (B + 2 * ePt e 1)]) C l_C_69 w_C_look d_C_lookAtChoice_23 (by omega) ((kSt_c (by omega))) rfl rfl) (Nat.le_of_ble_eq_true rfl) (by rw [hR]; simp only [zRm]; omega) (by rw [hR]; simp only [zRm]; omega) hmc' hms' hpo hm' (fun q' hq' => by rw [← hres, hq']; rfl) (fun t2 s2 hq2 => ?_)
  rw [hq2] at hres
  have sm2 := sm1.trans (ck_sm hq2)
  obtain ⟨k2, hk2⟩ := sm2 i
  rw [he] at hk2
  have hres : cB (ck cl d (ePt e 2) (s2.1, s1.2.1, s2.2.2)) _ = res := hres
  refine z_istore_n C 27 d_C_lookAtChoice_26 rfl (by decide) ?_
  refine z_aload_n C 28 d_C_lookAtChoice_27 rfl rfl ?_
  refine z_get C 31 f_C_15 d_C_lookAtChoice_28 rfl (by omega) (kSt_c (by omega)) rfl ?_
  refine z_istore C 33 d_C_lookAtChoice_31 rfl (by decide) ?_
  refine z_aload_n C 34 d_C_lookAtChoice_33 rfl rfl ?_
  refine z_iload_n C 35 d_C_lookAtChoice_34 rfl rfl ?_
  refine z_put C 38 p_C_15 d_C_lookAtChoice_35 rfl (by omega) (kSt_c (by omega)) (z_ltb rfl) rfl rfl ?_
  show Z G K _ (va_up _ _ (kC c F s1.2.1)) _ _ _ _ _
  rw [kSt_own (by omega)]
  refine z_aload_n C 39 d_C_lookAtChoice_38 rfl rfl ?_
  refine z_aload_n C 40 d_C_lookAtChoice_39 rfl rfl ?_
  refine z_get C 43 f_C_119 d_C_lookAtChoice_40 rfl (by omega) (kSt_eq (by omega) hc hi hk2) rfl ?_
  refine z_iconst C 44 d_C_lookAtChoice_43 rfl 2 (by decide) ?_
  refine z_aald C 45 (t := 5) 2 (some (B + 2 * ePt e 2)) d_C_lookAtChoice_44 rfl (by omega) (kSt_pq (by omega) hc hi hk2) rfl rfl rfl (by omega) (by decide) (by show (e.2.2.1 2).map _ = _; rw [hp2j]; rfl) ?_
  refine zk_sub C 48 (fun mc ms hm => KX B N c F f σ xs xr xa xl xf cl (ePt e 2) (s2.1, s1.2.1, s2.2.2) mc ms hp0 (hw.sm sm2) ((hdp 2 (by omega)).sm sm2) hp2N hm) w_C_look ini_C d_C_lookAtChoice_45 rfl (z_goV (As := [.ref (B + 2 * ePt e 2)]) C l_C_69 w_C_look d_C_lookAtChoice_45 (by omega) ((kSt_c (by omega))) rfl rfl) (Nat.le_of_ble_eq_true rfl) (by rw [hR]; simp only [zRm]; omega) (by rw [hR]; simp only [zRm]; omega) hmc' hms' hpo hm' (fun q' hq' => by rw [← hres, hq']; rfl) (fun t3 s3 hq3 => ?_)
  rw [hq3] at hres
  have sm3 := sm2.trans (ck_sm (s := (s2.1, s1.2.1, s2.2.2)) hq3)
  obtain ⟨k3, hk3'⟩ := sm3 i
  rw [he] at hk3'
  have hres : (if t3 = t2 ∧ s3.2.1 = s2.2.1 then .inr (t2, s3) else .inl e.2.1) = res := hres
  have bad : ∀ lv, zl lv 0 = some (.ref c) → zl lv 1 = some (.ref (B + 2 * i)) → ¬ (t3 = t2 ∧ s3.2.1 = s2.2.1) → Z G K (c + 2) (kSt B N c F σ xs xr xa xl xf s3) 0 0 61 lv [] := fun lv l0 l1 hq => by
    rw [if_neg hq] at hres
    have hb := hm ⟨_, hres.symm⟩
    refine z_aload_n C 62 d_C_lookAtChoice_61 rfl l0 ?_
    refine z_get C 65 f_C_27 d_C_lookAtChoice_62 rfl (by omega) (kSt_c (by omega)) rfl ?_
    refine z_aload_n C 66 d_C_lookAtChoice_65 rfl l1 ?_
    refine z_get C 69 f_C_76 d_C_lookAtChoice_66 rfl (by omega) (kSt_eq (by omega) hc hi hk3') rfl ?_
    refine z_call C 72 (c_T_wrong (by omega) (by omega) e.2.1) w_T_wrong ini_T d_C_lookAtChoice_69 rfl (z_goV (As := [.int e.2.1]) C l_C_36 w_T_wrong d_C_lookAtChoice_69 (by omega) (rfl) rfl rfl) (Nat.le_of_ble_eq_true rfl) (by rw [hR]; simp only [zRm]; omega) (by rw [hR]; simp only [zRm]; omega) (by rw [hR]; simp only [zRm]; omega) (by rw [hR]; simp only [zRm]; omega) (fun v n' σ' hv => ?_) (fun x n' σ' hv => ?_)
    · cases hv.1
    · obtain ⟨e0, rfl, rfl⟩ := hv
      cases e0
      exact zx_out C (fun h hh => nomatch hh) (by rw [hpo]; exact (by rw [← hres]; exact kIll_mk hc)) (by rw [hmc]; omega) (by rw [hms]; omega)
  refine z_iload_n C 49 d_C_lookAtChoice_48 rfl rfl ?_
  by_cases q1 : t3 = t2
  · refine z_icmp_ne C 52 61 d_C_lookAtChoice_49 rfl (by decide) (fun h9 => absurd q1 h9) (fun _ => ?_)
    refine z_aload_n C 53 d_C_lookAtChoice_52 rfl rfl ?_
    refine z_get C 56 f_C_15 d_C_lookAtChoice_53 rfl (by omega) (kSt_c (by omega)) rfl ?_
    refine z_iload C 58 d_C_lookAtChoice_56 rfl rfl ?_
    by_cases q2 : s3.2.1 = s2.2.1
    · rw [if_pos ⟨q1, q2⟩] at hres
      refine z_icmp_eq C 61 72 d_C_lookAtChoice_58 rfl (by decide) (fun _ => ?_) (fun h9 => absurd q2 h9)
      refine z_iload_n C 73 d_C_lookAtChoice_72 rfl rfl ?_
      exact z_iret C rfl d_C_lookAtChoice_73 (by rw [hpo]; exact (by rw [← hres]; exact ⟨rfl, rfl, rfl⟩)) (by rw [hmc]; omega) (by rw [hms]; omega)
    · refine z_icmp_eq C 61 72 d_C_lookAtChoice_58 rfl (by decide) (fun h9 => absurd h9 q2) (fun _ => ?_)
      exact bad _ rfl rfl (fun w => q2 w.2)
  · refine z_icmp_ne C 52 61 d_C_lookAtChoice_49 rfl (by decide) (fun _ => ?_) (fun h9 => absurd h9 q1)
    exact bad _ rfl rfl (fun w => q1 w.1)
end KLK
