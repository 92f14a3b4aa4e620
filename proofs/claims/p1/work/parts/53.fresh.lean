section FRS
variable {G : zG} {l : Launch} {FR : rFR} {n : Nat} {σ : zS} {xs : mS} {xr : Int64} {xa : mA} {xl : mL} {xf : xF} {S : mS} {A : mA} {L : mL} {rn : Int64}
theorem MetZ.mono {y : MethodName} {cc : ByteArray} {nL : Nat} {ret : Option FieldType} {hs : List (Nat × Nat × Nat × Nat)} {d mc ms : Nat} {av : List Value} {post post' : zPost} (m : MetZ G l y cc nL ret hs d mc ms av n σ post) (h : ∀ o n' σ', post o n' σ' → post' o n' σ') : MetZ G l y cc nL ret hs d mc ms av n σ post' := by
  intro htr p e ha hc hk s mk args below hf happ hP hK
  obtain ⟨k, o, a, b, c, ⟨o', n', σ', e0, hq, hH⟩, q⟩ := m htr p e ha hc hk s mk args below hf happ hP hK
  exact ⟨k, o, a, b, c, ⟨o', n', σ', e0, h _ _ _ hq, hH⟩, q⟩
theorem mOv_up {i : Nat} (h : 113 ≤ i) (e : va_E) : va_up (mOv S A L rn σ) i e = mOv S A L rn (va_up σ i e) := by
  funext j
  by_cases q : j = i
  · subst q
    unfold mOv
    rw [va_up_self, if_neg (by omega), if_neg (by omega), if_pos h, va_up_self]
  · rw [va_up_ne _ _ q]
    unfold mOv
    rw [va_up_ne _ _ q]
theorem l_run_no (hO : rFRok FR) (hn : 114 ≤ n) (hn2 : n < 900000) (h : Rel FR n σ xs xr xa xl xf S A L rn) (c : Int32) (hx : xfn xf c = none) : lCall G l FR 5 y_S_run b_S_run 3 [.ref 0, .int c] y_M_run b_M_run 5 [.ref 85, .int c] n σ xs xr xa xl xf S A L rn := by
  refine ⟨6, 1, 6, 1, by omega, by omega, by omega, by omega, _, c_S_run_none (by omega) (by omega) c hx, fun o n' σ' hp => ?_⟩
  obtain ⟨rfl, rfl, rfl⟩ := hp
  refine ⟨by omega, by omega, xs, xr, xa, xl, xf, va_up σ n (.inr (9, [])), 1, 0, by rw [mOv_up (by omega)], va_up_ne _ _ (by omega), Or.inr ⟨n, 0, rfl, by omega, hn, by omega, rfl, va_up_self _ _ _⟩, fun σ2 τ hag => ?_⟩
  refine MetZ.mono (c_M_run_no (by omega) c (fun k hk ek => ?_)) (fun o n' σ' hp => ?_)
  · refine (h.2.2.1.2.1 k hk).mp ?_
    have hc : 65 ≤ c ∧ c ≤ 72 := by
      have e : c = nI (k + 65) := by
        rw [show nI (k + 65) = nI k + 65 from (nI_add _ 65).symm, ← ek, Int32.sub_add_cancel]
      rw [e]
      exact ⟨(nI_leI (a := 65) (by omega) (by omega)).mpr (by omega), (nI_leI (b := 72) (by omega) (by omega)).mpr (by omega)⟩
    rw [xfn, if_pos hc, ek, nI_clamp (by omega)] at hx
    exact hx
  · obtain ⟨rfl, rfl, rfl⟩ := hp
    obtain ⟨h1, h2, ⟨h3, h4, h5⟩, h6⟩ := h
    exact ⟨upd S 0 1, A, L, rn, 0, rfl, rfl, rfl, rfl, fun _ => rfl, h1, h2, ⟨h3, h4, hO.2.2.2 _ _ _ _ _ _ (by omega) (fun i a b => (hag i (by omega)).trans (va_up_ne _ _ (by omega))) h5⟩, h6⟩
theorem l_def_bad (hO : rFRok FR) (hn : 114 ≤ n) (hn2 : n < 900000) (h : Rel FR n σ xs xr xa xl xf S A L rn) {u z : Nat} (ht : rTx xs xa S A u z) (hb : xBad xa z) : lCall G l FR 2 y_S_define b_S_define 3 [.ref 0] y_M_define b_M_define 4 [.ref 85] n σ xs xr xa xl xf S A L rn := by
  obtain ⟨t1, t2, t3, t4, t5, t6, t7, t8, t9⟩ := ht
  have hl : mlk (upd (upd S 4 0) 5 0) A 0 z = xlk xa 0 z := by
    by_cases q : 0 < z
    · rw [mlk, if_pos ⟨rfl, q⟩, xlk, if_pos q, (t7 0 q).1]
    · rw [mlk, if_neg (fun w => q w.2), xlk, if_neg q]
  refine ⟨9, 3, 17, 4, by omega, by omega, by omega, by omega, _, c_S_define_bad (z := z) (by omega) (by omega) t2 (by omega) t9 hb, fun o n' σ' hp => ?_⟩
  obtain ⟨rfl, rfl, rfl⟩ := hp
  refine ⟨by omega, by omega, upd (upd (upd (upd xs 0 0) 1 0) 4 (-1)) 4 0, xr, xa, xl, xf, va_up (va_up (va_up σ n (rdC 0 z)) (n + 1) fnC0) (n + 2) (.inr (9, [])), 1, 0, by rw [mOv_up (by omega), mOv_up (by omega), mOv_up (by omega)], ?_, Or.inr ⟨n + 2, 0, rfl, by omega, by omega, by omega, rfl, va_up_self _ _ _⟩, fun σ2 τ hag => ?_⟩
  · rw [va_up_ne _ _ (by omega), va_up_ne _ _ (by omega), va_up_ne _ _ (by omega)]
  refine MetZ.mono (c_M_define_bad (z := z) (by omega) t4 (by omega) t8 (by rw [hl]; exact hb)) (fun o n' σ' hp => ?_)
  obtain ⟨rfl, rfl, rfl⟩ := hp
  obtain ⟨-, -, ⟨h3, h4, h5⟩, h6, h7, h8⟩ := h
  refine ⟨_, _, L, rn, 0, rfl, rfl, rfl, rfl, fun _ => rfl, ⟨0, 0, rfl, rfl, rfl, rfl, by omega, by omega, fun i hi => absurd hi (by omega), t8, t9⟩, rfl, ⟨?_, fun f hf => ?_, ?_⟩, h6, h7, h8⟩
  · exact h3
  · exact h4 f hf
  · refine hO.2.2.2 _ _ _ _ _ _ (by omega) (fun i a b => ?_) (hO.1 _ _ _ _ _ (fun a k hk => ?_) h5)
    · exact (hag i (by omega)).trans (by rw [va_up_ne _ _ (by omega), va_up_ne _ _ (by omega), va_up_ne _ _ (by omega)])
    · unfold mKept at hk
      by_cases q4 : a = 94
      · subst q4
        rw [va_up_self]
        show (if k = 8 then _ else _) = _
        rw [if_neg (by omega)]
      · rw [va_up_ne _ _ q4]
        by_cases q3 : a = 93
        · subst q3
          rw [va_up_self]
          show (if k = 8 then _ else _) = _
          rw [if_neg (by omega)]
        · rw [va_up_ne _ _ q3]
/-- FR for scripts of one call -/
def FR0 : rFR := fun _ _ _ _ => True
theorem FR0_ok : rFRok FR0 := ⟨fun _ _ _ _ _ _ _ => trivial, fun _ _ _ => trivial, fun _ _ _ _ _ => trivial, fun _ _ _ _ _ _ _ _ _ => trivial⟩
theorem HD_1 {Ls : Nat} (h4 : Ls ≤ 4) : lHD G l FR0 Ls := by
  intro t n σ xs xr xa xl xf S A L rn ht _ hz hn hn2 h
  obtain ⟨rfl, rfl, rfl, rfl, rfl, rfl, rfl, rfl, rfl, rfl⟩ := hz (by omega)
  refine l_def_bad FR0_ok (by omega) (by omega) h (u := 0) (z := 0) ⟨rfl, rfl, rfl, rfl, by omega, by omega, fun i hi => absurd hi (by omega), fun i _ => rfl, fun i _ => rfl⟩ (fun q => ?_)
  rw [xlk, if_neg (by omega)] at q
  exact absurd q.1 (by decide)
theorem HR_1 {Ls : Nat} (h4 : Ls ≤ 4) : lHR G l FR0 Ls := by
  intro t n σ xs xr xa xl xf S A L rn x ht _ hz hn hn2 h
  obtain ⟨rfl, rfl, rfl, rfl, rfl, rfl, rfl, rfl, rfl, rfl⟩ := hz (by omega)
  refine l_run_no FR0_ok (by omega) (by omega) h _ ?_
  unfold xfn
  split <;> rfl
end FRS
