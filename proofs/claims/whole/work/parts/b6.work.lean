theorem xB_assoc (x : xR) (f g : xT → Int64 → xR) : xB (xB x f) g = xB x fun s v => xB (f s v) g := by
  match x with
  | none => rfl
  | some (s, .inl q) => rfl
  | some (s, .inr v) => rfl
theorem xmk_free {xa : mA} {h w : Int64} {b : Nat} (hk : xmk xa h w = .inr b) : xa 18 b = 0 := by
  unfold xmk at hk
  split at hk
  · cases hk
  · split at hk
    · cases hk
    · cases hx : xff (xa 18) 8 0 with
      | none => rw [hx] at hk; cases hk
      | some c => rw [hx] at hk; cases hk; exact (xff_lt hx).2.2
section UWL
variable {G : zG} {l : Launch} {c d n B N i fr : Nat} {σ : zS} {xr : Int64} {xf : xF} {P : Nat → Option uF} {E : Nat → eN} {s : xT} {res : xT × (Nat ⊕ Int64)} {mc ms : Nat}
theorem c_U_call {e : eN} (UX : uHyp G l c d) (hU : uP n σ P B N E) (hi : i < N) (he : E i = e) (hcs : ∀ j, j < e.2.2.2.1 → eCs P E d (ePt e j)) (hfr : fr < 65) (hc7 : c ≤ 7) (WX : 0 < c → uHyp G l (c - 1) 8) (hk : e.1 = 13) (hcal : ∃ u, P (cIx (eNm e)) = some u ∧ e.2.2.2.2.2.2.2.2.2 = some u.1 ∧ e.2.2.2.1 = u.2.1) (hres : cvL P (cvC P c) (cvD P (cvC P c) E fr d) e s = some res) (hm : (∃ q, res.2 = .inl q) → 1 ≤ mc ∧ 6 ≤ ms) :
    MetZ G l y_U_call b_U_call 8 (some .long) [] (12 + 2 * d + 20 * c + 1) mc ms [.ref 5, .ref (B + 2 * i), .int (nI (8 - c)), .int (nI fr)] n (uSt σ xr xf s) (uPost n σ xr xf res) := by
  obtain ⟨⟨hn1, hn9, hP⟩, hB, hBN, hcell, hw⟩ := id hU
  have hwi := hw i hi
  rw [he] at hwi
  obtain ⟨hk14, hc4, ⟨v0, hv20, ev⟩, ⟨g, hg8, eg⟩, hpt, hct⟩ := hwi
  have hix : cIx (eVr e) = v0 := by rw [ev]; exact nI_clamp (by omega)
  have hce : σ (B + 2 * i) = eCell B i e := by rw [(hcell i hi).1, he]
  have hcl : ∀ s', uSt σ xr xf s' (B + 2 * i) = eCell B i e := fun s' => (xOv_at (by omega)).trans hce
  have hcp : ∀ s', uSt σ xr xf s' (B + 2 * i + 1) = eParts B e := fun s' => (xOv_at (by omega)).trans (by rw [(hcell i hi).2, he])
  obtain ⟨u, hPu, hca, hcn⟩ := hcal
  obtain ⟨hu1, hu2, hu4, hu5, ⟨uf, urt, hu6⟩, hu7, hu8, hu9, hu10, hu11⟩ := hP _ u hPu
  unfold cvL at hres
  rw [hPu] at hres
  obtain ⟨ft, hfe⟩ : ∃ x, cIx (s.1 7) = x := ⟨_, rfl⟩
  have hres : (if s.1 7 = nI (cIx (s.1 7)) ∧ cIx (s.1 7) < 65 then xB (cvA (cvD P (cvC P c) E fr d) e u.2.2.2.1 (cIx (s.1 7)) e.2.2.2.1 0 (upd s.1 7 (s.1 7 + 1), s.2)) fun s1 _ => xB (cvC P c (cIx (eNm e)) (cIx (s.1 7)) s1) fun s2 v => some ((upd s2.1 7 (s2.1 7 - 1), s2.2), .inr v) else none) = some res := hres
  rw [hfe] at hres
  by_cases q : s.1 7 = nI ft ∧ ft < 65
  rotate_left
  · rw [if_neg q] at hres
    cases hres
  rw [if_pos q] at hres
  obtain ⟨hft, hft65⟩ := q
  refine MetZ.of (by decide) (Nat.le_of_ble_eq_true rfl) (fun K hK hR hpo hmc hms C => ?_)
  subst hK
  have hmc' : (kR K).cells ≤ kmc K := by rw [hR, hmc]; exact Nat.le_refl _
  have hms' : (kR K).slots ≤ kms K := by rw [hR, hms]; exact Nat.le_refl _
  have hm' : (∃ q, res.2 = .inl q) → 1 ≤ (kR K).cells ∧ 6 ≤ (kR K).slots := by rw [hR]; exact hm
  have hcu : ∀ s', uSt σ xr xf s' u.1 = gF u.1 uf u.2.1 urt (some (u.1 + 4)) := fun s' => (xOv_at (by omega)).trans hu6
  have hcV : ∀ s', uSt σ xr xf s' (u.1 + 1) = .inl (0, 4, .inl u.2.2.2.1) := fun s' => (xOv_at (by omega)).trans hu7
  have fin : ∀ (s1 : xT) (lv : List (Nat × Value)), lv = [(6, .int (nI e.2.2.2.1)), (5, .int (nI ft)), (4, .ref u.1), (0, .ref 5), (1, .ref (B + 2 * i)), (2, .int (nI (8 - c))), (3, .int (nI fr))] → (xB (cvC P c (cIx (eNm e)) ft s1) fun s2 v => some ((upd s2.1 7 (s2.1 7 - 1), s2.2), .inr v)) = some res → Z G K n (uSt σ xr xf s1) 0 0 69 lv [] := fun s1 lv hlv hres => by
    subst hlv
    refine z_iload_n C 70 d_U_call_69 rfl rfl ?_
    refine z_bipush C 72 d_U_call_70 rfl 8 (by decide) ?_
    cases hc0 : c with
    | zero =>
      subst hc0
      cases hres
      have hb := hm ⟨_, rfl⟩
      refine z_icmp_lt C 75 85 d_U_call_72 rfl (by decide) (fun h9 => absurd h9 (show ¬ nI (8 - 0) < 8 by decide)) (fun _ => ?_)
      exact z_throwS C (ci := 13) (names := zNm) (text := "too many calls in one another") rfl (by decide) zNm_fit cl_U_53 ini_e5 (by decide) at_U_57 d_U_call_75 d_U_call_78 d_U_call_79 d_U_call_81 d_U_call_84 (fun h hh => nomatch hh) (by rw [hR]; show 2 + 3 < _; simp only [zRm]; omega) (by rw [hR]; show 0 + (13 * (2 + 1) + 43) ≤ _; simp only [zRm]; omega) (by omega) (by rw [hR]; simp only [zRm]; omega) (by rw [hR]; simp only [zRm]; omega) (by rw [hmc]; omega) (by rw [hms]; omega) (by rw [hpo]; exact ⟨rfl, rfl, xOv_up (by omega) _⟩)
    | succ c' =>
      have WX := WX (by omega)
      subst hc0
      unfold cvC at hres
      rw [hPu] at hres
      have hres : (xB (cvD P (cvC P c') u.2.2.2.2 ft 8 0 s1) fun s2 v => some ((upd s2.1 7 (s2.1 7 - 1), s2.2), .inr v)) = some res := hres
      refine z_icmp_lt C 75 85 d_U_call_72 rfl (by decide) (fun _ => ?_) (fun h9 => absurd (show nI (8 - (c' + 1)) < nI 8 from (nI_ltI (by omega) (by omega)).mpr (by omega)) h9)
      refine z_aload_n C 86 d_U_call_85 rfl rfl ?_
      refine z_aload C 88 d_U_call_86 rfl rfl ?_
      refine z_get (v := .ref (u.1 + 4)) C 91 f_U_45 d_U_call_88 rfl (by omega) (hcu _) rfl ?_
      refine z_iload_n C 92 d_U_call_91 rfl rfl ?_
      refine z_iconst C 93 d_U_call_92 rfl 1 (by decide) ?_
      refine z_iadd C 94 d_U_call_93 rfl ?_
      rw [show nI (8 - (c' + 1)) + 1 = nI (8 - c') from (nI_add (8 - (c' + 1)) 1).trans (by rw [show 8 - (c' + 1) + 1 = 8 - c' by omega])]
      refine z_iload C 96 d_U_call_94 rfl rfl ?_
      refine zu_sub C 99 hres (fun x0 hx0 mc ms hm => WX n σ xr xf P (u.1 + 4) u.2.2.1 u.2.2.2.2 0 ft _ x0 mc ms ⟨hU.1, by omega, by omega, hu8, hu9⟩ hu10 hu5 hft65 hx0 hm) w_U_work ini_U d_U_call_96 rfl (z_goV (As := [.ref (u.1 + 4), .int (nI (8 - c')), .int (nI ft)]) C l_U_49 w_U_work d_U_call_96 (by omega) rfl rfl rfl) (Nat.le_of_ble_eq_true rfl) (by rw [hR]; simp only [zRm]; omega) (by rw [hR]; simp only [zRm]; omega) hmc' hms' hpo hm' (fun s2 x2 hres => ?_)
      cases hres
      refine z_lstore C 101 d_U_call_99 rfl (by decide) ?_
      refine z_aload_n C 102 d_U_call_101 rfl rfl ?_
      refine z_dup C 103 d_U_call_102 rfl rfl ?_
      refine z_get C 106 f_U_30 d_U_call_103 rfl (by omega) rfl rfl ?_
      refine z_iconst C 107 d_U_call_106 rfl 1 (by decide) ?_
      refine z_isub C 108 d_U_call_107 rfl ?_
      refine zx_put5 C 111 7 p_U_30 d_U_call_108 rfl (by omega) (by decide) (by decide) (by decide) rfl ?_
      refine z_lload C 113 d_U_call_111 rfl rfl ?_
      exact z_lret C rfl d_U_call_113 (by rw [hpo]; exact ⟨rfl, rfl, rfl⟩) (by rw [hmc]; omega) (by rw [hms]; omega)
  have loop : ∀ (m j : Nat) (s1 : xT), m + j = e.2.2.2.1 → (xB (cvA (cvD P (cvC P c) E fr d) e u.2.2.2.1 ft m j s1) fun s1 _ => xB (cvC P c (cIx (eNm e)) ft s1) fun s2 v => some ((upd s2.1 7 (s2.1 7 - 1), s2.2), .inr v)) = some res → Z G K n (uSt σ xr xf s1) 0 0 25 [(6, .int (nI j)), (5, .int (nI ft)), (4, .ref u.1), (0, .ref 5), (1, .ref (B + 2 * i)), (2, .int (nI (8 - c))), (3, .int (nI fr))] [] := fun m => by
    induction m with
    | zero =>
      intro j s1 hj hres
      obtain rfl : j = e.2.2.2.1 := by omega
      refine z_iload C 27 d_U_call_25 rfl rfl ?_
      refine z_aload_n C 28 d_U_call_27 rfl rfl ?_
      refine z_get C 31 f_U_136 d_U_call_28 rfl (by omega) (hcl _) rfl ?_
      refine z_icmp_ge C 34 69 d_U_call_31 rfl (by decide) (fun _ => ?_) (fun h9 => absurd ((nI_leI (a := e.2.2.2.1) (b := e.2.2.2.1) (by omega) (by omega)).mpr (Nat.le_refl _)) h9)
      exact fin s1 _ rfl hres
    | succ m ih =>
      intro j s1 hj hres
      obtain ⟨vj, hvj, evj⟩ := hu11 j (by omega)
      have hxj : cIx (u.2.2.2.1 j) = vj := by rw [evj]; exact nI_clamp (by omega)
      unfold cvA at hres
      rw [hxj, xB_assoc] at hres
      refine z_iload C 27 d_U_call_25 rfl rfl ?_
      refine z_aload_n C 28 d_U_call_27 rfl rfl ?_
      refine z_get C 31 f_U_136 d_U_call_28 rfl (by omega) (hcl _) rfl ?_
      refine z_icmp_ge C 34 69 d_U_call_31 rfl (by decide) (fun h9 => absurd h9 (fun q => absurd ((nI_leI (a := e.2.2.2.1) (b := j) (by omega) (by omega)).mp q) (by omega))) (fun _ => ?_)
      refine z_aload_n C 35 d_U_call_34 rfl rfl ?_
      refine z_get C 38 f_U_27 d_U_call_35 rfl (by omega) rfl rfl ?_
      refine z_iload C 40 d_U_call_38 rfl rfl ?_
      refine z_aald C 41 ft (ty := .array .long) (some (20 + ft)) d_U_call_40 rfl (by omega) rfl rfl rfl rfl hft65 (by decide) (by rw [if_pos hft65]) ?_
      refine z_aload C 43 d_U_call_41 rfl rfl ?_
      refine z_get C 46 f_U_41 d_U_call_43 rfl (by omega) (hcu _) rfl ?_
      refine z_iload C 48 d_U_call_46 rfl rfl ?_
      refine z_iald C 49 j d_U_call_48 rfl (by omega) (hcV _) rfl (by omega) (by decide) ?_
      refine z_aload_n C 50 d_U_call_49 rfl rfl ?_
      refine z_aload_n C 51 d_U_call_50 rfl rfl ?_
      refine z_get C 54 f_U_88 d_U_call_51 rfl (by omega) (hcl _) rfl ?_
      refine z_iload C 56 d_U_call_54 rfl rfl ?_
      refine z_aald C 57 (t := 5) j (some (B + 2 * ePt e j)) d_U_call_56 rfl (by omega) (hcp _) rfl rfl rfl (by omega) (by decide) (by show (e.2.2.1 j).map _ = _; rw [(hpt j (by omega)).1]; rfl) ?_
      refine z_iload_n C 58 d_U_call_57 rfl rfl ?_
      refine z_iload_n C 59 d_U_call_58 rfl rfl ?_
      refine zu_sub C 62 hres (fun x0 hx0 mc ms hm => UX n σ xr xf P B N E (ePt e j) fr _ x0 mc ms hU (hcs j (by omega)) (hpt j (by omega)).2 hfr hx0 hm) w_U_work ini_U d_U_call_59 rfl (z_goV (As := [.ref (B + 2 * ePt e j), .int (nI (8 - c)), .int (nI fr)]) C l_U_49 w_U_work d_U_call_59 (by omega) rfl rfl rfl) (Nat.le_of_ble_eq_true rfl) (by rw [hR]; simp only [zRm]; omega) (by rw [hR]; simp only [zRm]; omega) hmc' hms' hpo hm' (fun s2 x2 hres => ?_)
      refine zx_last C 63 vj d_U_call_62 rfl (by omega) (by unfold xIsL; omega) evj (by rw [xLen_f hft65]; exact hvj) (by rw [xLen_f hft65]; decide) ?_
      refine z_iinc C 66 d_U_call_63 rfl (nI (j + 1)) rfl (z_inc j) (by decide) ?_
      refine z_goto C 25 d_U_call_66 (by decide) ?_
      exact ih (j + 1) (xSet ft vj x2 s2) (by omega) hres
  refine z_aload_n C 1 d_U_call_0 rfl rfl ?_
  refine z_get (v := .ref u.1) C 4 f_U_147 d_U_call_1 rfl (by omega) (hcl _) (by show some (va_rf e.2.2.2.2.2.2.2.2.2) = _; rw [hca]; rfl) ?_
  refine z_astore C 6 d_U_call_4 rfl (by decide) ?_
  refine z_aload_n C 7 d_U_call_6 rfl rfl ?_
  refine z_get (v := .int (nI ft)) C 10 f_U_30 d_U_call_7 rfl (by omega) rfl (by show some (Value.int (s.1 7)) = _; rw [hft]) ?_
  refine z_istore C 12 d_U_call_10 rfl (by decide) ?_
  refine z_aload_n C 13 d_U_call_12 rfl rfl ?_
  refine z_dup C 14 d_U_call_13 rfl rfl ?_
  refine z_get C 17 f_U_30 d_U_call_14 rfl (by omega) rfl rfl ?_
  refine z_iconst C 18 d_U_call_17 rfl 1 (by decide) ?_
  refine z_iadd C 19 d_U_call_18 rfl ?_
  refine zx_put5 C 22 7 p_U_30 d_U_call_19 rfl (by omega) (by decide) (by decide) (by decide) rfl ?_
  refine z_iconst C 23 d_U_call_22 rfl 0 (by decide) ?_
  refine z_istore C 25 d_U_call_23 rfl (by decide) ?_
  exact loop e.2.2.2.1 0 (upd s.1 7 (s.1 7 + 1), s.2) (by omega) hres
theorem cvS_0 {W : Nat → Nat → xT → xR} {L : Nat → xT → xR} {e : eN} (h : e.1 = 0) : cvS P W L fr e s = (some (s, .inr e.2.2.2.2.1)) := by
  unfold cvS
  rw [h]
  rfl
theorem cvS_1 {W : Nat → Nat → xT → xR} {L : Nat → xT → xR} {e : eN} (h : e.1 = 1) : cvS P W L fr e s = (some (s, .inr (s.2.2 (20 + fr) (cIx (eVr e))))) := by
  unfold cvS
  rw [h]
  rfl
theorem cvS_2 {W : Nat → Nat → xT → xR} {L : Nat → xT → xR} {e : eN} (h : e.1 = 2) : cvS P W L fr e s = (xB (L (ePt e 0) s) fun s x => xB (L (ePt e 1) s) fun s y => cvO e.2.2.2.2.2.1 x y s) := by
  unfold cvS
  rw [h]
  rfl
theorem cvS_3 {W : Nat → Nat → xT → xR} {L : Nat → xT → xR} {e : eN} (h : e.1 = 3) : cvS P W L fr e s = (xB (L (ePt e 0) s) fun s x => if x = 0 then L (ePt e 2) s else L (ePt e 1) s) := by
  unfold cvS
  rw [h]
  rfl
theorem cvS_4 {W : Nat → Nat → xT → xR} {L : Nat → xT → xR} {e : eN} (h : e.1 = 4) : cvS P W L fr e s = (xB (L (ePt e 0) s) fun s x => L (ePt e 1) (xSet fr (cIx (eVr e)) x s)) := by
  unfold cvS
  rw [h]
  rfl
theorem cvS_5 {W : Nat → Nat → xT → xR} {L : Nat → xT → xR} {e : eN} (h : e.1 = 5) : cvS P W L fr e s = (xB (L (ePt e 0) s) fun s h => xMk h 1 s) := by
  unfold cvS
  rw [h]
  rfl
theorem cvS_6 {W : Nat → Nat → xT → xR} {L : Nat → xT → xR} {e : eN} (h : e.1 = 6) : cvS P W L fr e s = (xB (L (ePt e 0) s) fun s h => xB (L (ePt e 1) s) fun s w => xMk h w s) := by
  unfold cvS
  rw [h]
  rfl
theorem cvS_7 {W : Nat → Nat → xT → xR} {L : Nat → xT → xR} {e : eN} (h : e.1 = 7) : cvS P W L fr e s = (xB (L (ePt e 0) s) fun s i => xB (if e.2.2.2.1 = 2 then L (ePt e 1) s else some (s, .inr 0)) fun s j => xArr (s.2.2 (20 + fr) (cIx (eVr e))) fun a => xRd a i j s) := by
  unfold cvS
  rw [h]
  rfl
theorem cvS_8 {W : Nat → Nat → xT → xR} {L : Nat → xT → xR} {e : eN} (h : e.1 = 8) : cvS P W L fr e s = (xB (L (ePt e 0) s) fun s i => xB (if e.2.2.2.1 = 3 then L (ePt e 1) s else some (s, .inr 0)) fun s j => xB (L (ePt e (e.2.2.2.1 - 1)) s) fun s x => xArr (s.2.2 (20 + fr) (cIx (eVr e))) fun a => xPu a i j x s) := by
  unfold cvS
  rw [h]
  rfl
theorem cvS_9 {W : Nat → Nat → xT → xR} {L : Nat → xT → xR} {e : eN} (h : e.1 = 9) : cvS P W L fr e s = (xArr (s.2.2 (20 + fr) (cIx (eVr e))) fun a => some (s, .inr (s.2.1 7 a).toInt64)) := by
  unfold cvS
  rw [h]
  rfl
theorem cvS_10 {W : Nat → Nat → xT → xR} {L : Nat → xT → xR} {e : eN} (h : e.1 = 10) : cvS P W L fr e s = (xArr (s.2.2 (20 + fr) (cIx (eVr e))) fun a => some (s, .inr (s.2.1 8 a).toInt64)) := by
  unfold cvS
  rw [h]
  rfl
theorem cvS_11 {W : Nat → Nat → xT → xR} {L : Nat → xT → xR} {e : eN} (h : e.1 = 11) : cvS P W L fr e s = (xArr (s.2.2 (20 + fr) (cIx (eVr e))) fun a => xCp a s) := by
  unfold cvS
  rw [h]
  rfl
theorem cvS_12 {W : Nat → Nat → xT → xR} {L : Nat → xT → xR} {e : eN} (h : e.1 = 12) : cvS P W L fr e s = (xArr (s.2.2 (20 + fr) (cIx (eVr e))) fun a => L (ePt e 0) (xGv a s)) := by
  unfold cvS
  rw [h]
  rfl
theorem cvS_13 {W : Nat → Nat → xT → xR} {L : Nat → xT → xR} {e : eN} (h : e.1 = 13) : cvS P W L fr e s = (cvL P W L e s) := by
  unfold cvS
  rw [h]
  rfl
theorem uHyp_s (hc7 : c ≤ 7) (WX : 0 < c → uHyp G l (c - 1) 8) (UX : uHyp G l c d) : uHyp G l c (d + 1) := by
  intro n σ xr xf P B N E i fr s0 res mc ms hU hcs0 hi hfr hres hm
  obtain ⟨e, he⟩ : ∃ x, E i = x := ⟨_, rfl⟩
  unfold eCs at hcs0
  rw [he] at hcs0
  obtain ⟨hcal, hcs⟩ := hcs0
  unfold cvD at hres
  rw [he] at hres
  obtain ⟨⟨hn1, hn9, hP⟩, hB, hBN, hcell, hw⟩ := id hU
  have hwi := hw i hi
  rw [he] at hwi
  obtain ⟨hk14, hc4, ⟨v0, hv20, ev⟩, ⟨g, hg8, eg⟩, hpt, hct⟩ := hwi
  have hix : cIx (eVr e) = v0 := by rw [ev]; exact nI_clamp (by omega)
  have hce : σ (B + 2 * i) = eCell B i e := by rw [(hcell i hi).1, he]
  have hcl : ∀ s', uSt σ xr xf s' (B + 2 * i) = eCell B i e := fun s' => (xOv_at (by omega)).trans hce
  have hcp : ∀ s', uSt σ xr xf s' (B + 2 * i + 1) = eParts B e := fun s' => (xOv_at (by omega)).trans (by rw [(hcell i hi).2, he])

  refine MetZ.of (by decide) (Nat.le_of_ble_eq_true rfl) (fun K hK hR hpo hmc hms C => ?_)
  subst hK
  have hmc' : (kR K).cells ≤ kmc K := by rw [hR, hmc]; exact Nat.le_refl _
  have hms' : (kR K).slots ≤ kms K := by rw [hR, hms]; exact Nat.le_refl _
  have hm' : (∃ q, res.2 = .inl q) → 1 ≤ (kR K).cells ∧ 6 ≤ (kR K).slots := by rw [hR]; exact hm
  refine z_aload_n C 1 d_U_work_0 rfl rfl ?_
  refine z_get C 4 f_U_18 d_U_work_1 rfl (by omega) rfl rfl ?_
  refine z_sipush C 7 d_U_work_4 rfl 400 (by decide) ?_
  by_cases q400 : 400 ≤ s0.1 5
  · rw [if_pos q400] at hres
    cases hres
    have hb := hm ⟨_, rfl⟩
    refine z_icmp_lt C 10 20 d_U_work_7 rfl (by decide) (fun h9 => absurd h9 (Int32.not_lt.mpr q400)) (fun _ => ?_)
    exact z_throwS C (ci := 13) (names := zNm) (text := "too many expressions") rfl (by decide) zNm_fit cl_U_53 ini_e5 (by decide) at_U_57 d_U_work_10 d_U_work_13 d_U_work_14 d_U_work_16 d_U_work_19 (fun h hh => nomatch hh) (by rw [hR]; show 2 + 3 < _; simp only [zRm]; omega) (by rw [hR]; show 0 + (13 * (2 + 1) + 43) ≤ _; simp only [zRm]; omega) (by omega) (by rw [hR]; simp only [zRm]; omega) (by rw [hR]; simp only [zRm]; omega) (by rw [hmc]; omega) (by rw [hms]; omega) (by rw [hpo]; exact ⟨rfl, rfl, xOv_up (by omega) _⟩)
  rw [if_neg q400] at hres
  refine z_icmp_lt C 10 20 d_U_work_7 rfl (by decide) (fun _ => ?_) (fun h9 => absurd (Int32.not_le.mp q400) h9)
  refine z_aload_n C 21 d_U_work_20 rfl rfl ?_
  refine z_dup C 22 d_U_work_21 rfl rfl ?_
  refine z_get C 25 f_U_18 d_U_work_22 rfl (by omega) rfl rfl ?_
  refine z_iconst C 26 d_U_work_25 rfl 1 (by decide) ?_
  refine z_iadd C 27 d_U_work_26 rfl ?_
  refine zx_put5 C 30 5 p_U_18 d_U_work_27 rfl (by omega) (by decide) (by decide) (by decide) rfl ?_
  show Z G K n (uSt σ xr xf (upd s0.1 5 (s0.1 5 + 1), s0.2)) _ _ _ _ _
  obtain ⟨s, hs⟩ : ∃ x : xT, (upd s0.1 5 (s0.1 5 + 1), s0.2) = x := ⟨_, rfl⟩
  rw [hs] at hres ⊢
  refine z_getsM C 33 sm_U_60 d_U_work_30 rfl ?_
  refine z_aload_n C 34 d_U_work_33 rfl rfl ?_
  refine z_get C 37 f_U_65 d_U_work_34 rfl (by omega) (hcl _) rfl ?_
  refine z_call C 40 (c_ord hk14) w_ord ini_Enum d_U_work_37 rfl (z_goU C hk14 lo_U_71 d_U_work_37) (Nat.le_of_ble_eq_true rfl) (by rw [hR]; simp only [zRm]; omega) (by rw [hR]; simp only [zRm]; omega) (by rw [hR]; simp only [zRm]; omega) (by rw [hR]; simp only [zRm]; omega) (fun v n' σ' hv => ?_) (fun x n' σ' hv => ?_)
  rotate_left
  · cases hv.1
  obtain ⟨e0, e1, rfl⟩ := hv
  cases e0
  obtain rfl : n = n' := e1.symm
  refine z_ialdM C 41 e.1 hk14 d_U_work_40 rfl ?_
  have hcase : e.1 = 0 ∨ e.1 = 1 ∨ e.1 = 2 ∨ e.1 = 3 ∨ e.1 = 4 ∨ e.1 = 5 ∨ e.1 = 6 ∨ e.1 = 7 ∨ e.1 = 8 ∨ e.1 = 9 ∨ e.1 = 10 ∨ e.1 = 11 ∨ e.1 = 12 ∨ e.1 = 13 := by omega
  rcases hcase with hk | hk | hk | hk | hk | hk | hk | hk | hk | hk | hk | hk | hk | hk
  · rw [cvS_0 hk] at hres
    rw [hk]
    refine z_tableIn C 112 d_U_work_41 (by decide) (by decide) (off := 71) (by decide) (by decide) ?_
    cases hres
    refine z_aload_n C 113 d_U_work_112 rfl rfl ?_
    refine z_get C 116 f_U_77 d_U_work_113 rfl (by omega) (hcl _) rfl ?_
    exact z_lret C rfl d_U_work_116 (by rw [hpo]; exact ⟨rfl, rfl, rfl⟩) (by rw [hmc]; omega) (by rw [hms]; omega)
  · rw [cvS_1 hk] at hres
    rw [hk]
    refine z_tableIn C 117 d_U_work_41 (by decide) (by decide) (off := 76) (by decide) (by decide) ?_
    rw [hix] at hres
    cases hres
    refine z_aload_n C 118 d_U_work_117 rfl rfl ?_
    refine z_get C 121 f_U_27 d_U_work_118 rfl (by omega) rfl rfl ?_
    refine z_iload_n C 122 d_U_work_121 rfl rfl ?_
    refine z_aald C 123 fr (ty := .array .long) (some (20 + fr)) d_U_work_122 rfl (by omega) rfl rfl rfl rfl hfr (by decide) (by rw [if_pos hfr]) ?_
    refine z_aload_n C 124 d_U_work_123 rfl rfl ?_
    refine z_get (v := .int (nI v0)) C 127 f_U_81 d_U_work_124 rfl (by omega) (hcl _) (by show some (Value.int (eVr e)) = _; rw [ev]) ?_
    refine zx_lald C 128 v0 d_U_work_127 rfl (by omega) (by unfold xIsL; omega) rfl (by rw [xLen_f hfr]; exact hv20) (by rw [xLen_f hfr]; decide) ?_
    exact z_lret C rfl d_U_work_128 (by rw [hpo]; exact ⟨rfl, rfl, rfl⟩) (by rw [hmc]; omega) (by rw [hms]; omega)
  · rw [cvS_2 hk] at hres
    rw [hk]
    refine z_tableIn C 129 d_U_work_41 (by decide) (by decide) (off := 88) (by decide) (by decide) ?_
    have hcn : e.2.2.2.1 = 2 := hct.2.2.1 hk
    refine z_aload_n C 130 d_U_work_129 rfl rfl ?_
    refine z_get C 133 f_U_84 d_U_work_130 rfl (by omega) (hcl _) rfl ?_
    refine z_aload_n C 134 d_U_work_133 rfl rfl ?_
    refine z_aload_n C 135 d_U_work_134 rfl rfl ?_
    refine z_get C 138 f_U_88 d_U_work_135 rfl (by omega) (hcl _) rfl ?_
    refine z_iconst C 139 d_U_work_138 rfl 0 (by decide) ?_
    refine z_aald C 140 (t := 5) 0 (some (B + 2 * ePt e 0)) d_U_work_139 rfl (by omega) (hcp _) rfl rfl rfl (by omega) (by decide) (by show (e.2.2.1 0).map _ = _; rw [(hpt 0 (by omega)).1]; rfl) ?_
    refine z_iload_n C 141 d_U_work_140 rfl rfl ?_
    refine z_iload_n C 142 d_U_work_141 rfl rfl ?_
    refine zu_sub C 145 hres (fun x0 hx0 mc ms hm => UX n σ xr xf P B N E (ePt e 0) fr _ x0 mc ms hU (hcs 0 (by omega)) (hpt 0 (by omega)).2 hfr hx0 hm) w_U_work ini_U d_U_work_142 rfl (z_goV (As := [.ref (B + 2 * ePt e 0), .int (nI (8 - c)), .int (nI fr)]) C l_U_49 w_U_work d_U_work_142 (by omega) rfl rfl rfl) (Nat.le_of_ble_eq_true rfl) (by rw [hR]; simp only [zRm]; omega) (by rw [hR]; simp only [zRm]; omega) hmc' hms' hpo hm' (fun s1 x1 hres => ?_)
    refine z_aload_n C 146 d_U_work_145 rfl rfl ?_
    refine z_aload_n C 147 d_U_work_146 rfl rfl ?_
    refine z_get C 150 f_U_88 d_U_work_147 rfl (by omega) (hcl _) rfl ?_
    refine z_iconst C 151 d_U_work_150 rfl 1 (by decide) ?_
    refine z_aald C 152 (t := 5) 1 (some (B + 2 * ePt e 1)) d_U_work_151 rfl (by omega) (hcp _) rfl rfl rfl (by omega) (by decide) (by show (e.2.2.1 1).map _ = _; rw [(hpt 1 (by omega)).1]; rfl) ?_
    refine z_iload_n C 153 d_U_work_152 rfl rfl ?_
    refine z_iload_n C 154 d_U_work_153 rfl rfl ?_
    refine zu_sub C 157 hres (fun x0 hx0 mc ms hm => UX n σ xr xf P B N E (ePt e 1) fr _ x0 mc ms hU (hcs 1 (by omega)) (hpt 1 (by omega)).2 hfr hx0 hm) w_U_work ini_U d_U_work_154 rfl (z_goV (As := [.ref (B + 2 * ePt e 1), .int (nI (8 - c)), .int (nI fr)]) C l_U_49 w_U_work d_U_work_154 (by omega) rfl rfl rfl) (Nat.le_of_ble_eq_true rfl) (by rw [hR]; simp only [zRm]; omega) (by rw [hR]; simp only [zRm]; omega) hmc' hms' hpo hm' (fun s2 x2 hres => ?_)
    have hres := (xB_P _).trans hres
    refine zu_sub C 160 hres (fun x0 hx0 mc ms hm => c_U_operate (by omega) (by omega) e.2.2.2.2.2.1 x1 x2 hx0 hm) w_U_operate ini_U d_U_work_157 rfl (z_goS (As := [.int e.2.2.2.2.2.1, .long x1, .long x2]) C l_U_92 w_U_operate nm_of d_U_work_157 rfl) (Nat.le_of_ble_eq_true rfl) (by rw [hR]; simp only [zRm]; omega) (by rw [hR]; simp only [zRm]; omega) hmc' hms' hpo hm' (fun s3 x3 hres => ?_)
    cases hres
    exact z_lret C rfl d_U_work_160 (by rw [hpo]; exact ⟨rfl, rfl, rfl⟩) (by rw [hmc]; omega) (by rw [hms]; omega)
  · rw [cvS_3 hk] at hres
    rw [hk]
    refine z_tableIn C 161 d_U_work_41 (by decide) (by decide) (off := 120) (by decide) (by decide) ?_
    have hcn : e.2.2.2.1 = 3 := hct.2.2.2.1 hk
    refine z_aload_n C 162 d_U_work_161 rfl rfl ?_
    refine z_aload_n C 163 d_U_work_162 rfl rfl ?_
    refine z_get C 166 f_U_88 d_U_work_163 rfl (by omega) (hcl _) rfl ?_
    refine z_iconst C 167 d_U_work_166 rfl 0 (by decide) ?_
    refine z_aald C 168 (t := 5) 0 (some (B + 2 * ePt e 0)) d_U_work_167 rfl (by omega) (hcp _) rfl rfl rfl (by omega) (by decide) (by show (e.2.2.1 0).map _ = _; rw [(hpt 0 (by omega)).1]; rfl) ?_
    refine z_iload_n C 169 d_U_work_168 rfl rfl ?_
    refine z_iload_n C 170 d_U_work_169 rfl rfl ?_
    refine zu_sub C 173 hres (fun x0 hx0 mc ms hm => UX n σ xr xf P B N E (ePt e 0) fr _ x0 mc ms hU (hcs 0 (by omega)) (hpt 0 (by omega)).2 hfr hx0 hm) w_U_work ini_U d_U_work_170 rfl (z_goV (As := [.ref (B + 2 * ePt e 0), .int (nI (8 - c)), .int (nI fr)]) C l_U_49 w_U_work d_U_work_170 (by omega) rfl rfl rfl) (Nat.le_of_ble_eq_true rfl) (by rw [hR]; simp only [zRm]; omega) (by rw [hR]; simp only [zRm]; omega) hmc' hms' hpo hm' (fun s1 x1 hres => ?_)
    refine z_lconst C 174 d_U_work_173 rfl 0 (by decide) ?_
    refine z_lcmp C 175 d_U_work_174 rfl ?_
    by_cases q : x1 = 0
    · rw [if_pos q] at hres
      have hres := (xB_P _).trans hres
      refine z_if_eq C 178 182 d_U_work_175 rfl (by decide) (fun _ => ?_) (fun h9 => absurd ((lg_cmp_eq _ _).mpr q) h9)
      refine z_iconst C 183 d_U_work_182 rfl 2 (by decide) ?_
      refine z_istore C 185 d_U_work_183 rfl (by decide) ?_
      refine z_aload_n C 186 d_U_work_185 rfl rfl ?_
      refine z_aload_n C 187 d_U_work_186 rfl rfl ?_
      refine z_get C 190 f_U_88 d_U_work_187 rfl (by omega) (hcl _) rfl ?_
      refine z_iload C 192 d_U_work_190 rfl rfl ?_
      refine z_aald C 193 (t := 5) 2 (some (B + 2 * ePt e 2)) d_U_work_192 rfl (by omega) (hcp _) rfl rfl rfl (by omega) (by decide) (by show (e.2.2.1 2).map _ = _; rw [(hpt 2 (by omega)).1]; rfl) ?_
      refine z_iload_n C 194 d_U_work_193 rfl rfl ?_
      refine z_iload_n C 195 d_U_work_194 rfl rfl ?_
      refine zu_sub C 198 hres (fun x0 hx0 mc ms hm => UX n σ xr xf P B N E (ePt e 2) fr _ x0 mc ms hU (hcs 2 (by omega)) (hpt 2 (by omega)).2 hfr hx0 hm) w_U_work ini_U d_U_work_195 rfl (z_goV (As := [.ref (B + 2 * ePt e 2), .int (nI (8 - c)), .int (nI fr)]) C l_U_49 w_U_work d_U_work_195 (by omega) rfl rfl rfl) (Nat.le_of_ble_eq_true rfl) (by rw [hR]; simp only [zRm]; omega) (by rw [hR]; simp only [zRm]; omega) hmc' hms' hpo hm' (fun s2 x2 hres => ?_)
      cases hres
      exact z_lret C rfl d_U_work_198 (by rw [hpo]; exact ⟨rfl, rfl, rfl⟩) (by rw [hmc]; omega) (by rw [hms]; omega)
    · rw [if_neg q] at hres
      have hres := (xB_P _).trans hres
      refine z_if_eq C 178 182 d_U_work_175 rfl (by decide) (fun h9 => absurd h9 (fun w => q ((lg_cmp_eq _ _).mp w))) (fun _ => ?_)
      refine z_iconst C 179 d_U_work_178 rfl 1 (by decide) ?_
      refine z_goto C 183 d_U_work_179 (by decide) ?_
      refine z_istore C 185 d_U_work_183 rfl (by decide) ?_
      refine z_aload_n C 186 d_U_work_185 rfl rfl ?_
      refine z_aload_n C 187 d_U_work_186 rfl rfl ?_
      refine z_get C 190 f_U_88 d_U_work_187 rfl (by omega) (hcl _) rfl ?_
      refine z_iload C 192 d_U_work_190 rfl rfl ?_
      refine z_aald C 193 (t := 5) 1 (some (B + 2 * ePt e 1)) d_U_work_192 rfl (by omega) (hcp _) rfl rfl rfl (by omega) (by decide) (by show (e.2.2.1 1).map _ = _; rw [(hpt 1 (by omega)).1]; rfl) ?_
      refine z_iload_n C 194 d_U_work_193 rfl rfl ?_
      refine z_iload_n C 195 d_U_work_194 rfl rfl ?_
      refine zu_sub C 198 hres (fun x0 hx0 mc ms hm => UX n σ xr xf P B N E (ePt e 1) fr _ x0 mc ms hU (hcs 1 (by omega)) (hpt 1 (by omega)).2 hfr hx0 hm) w_U_work ini_U d_U_work_195 rfl (z_goV (As := [.ref (B + 2 * ePt e 1), .int (nI (8 - c)), .int (nI fr)]) C l_U_49 w_U_work d_U_work_195 (by omega) rfl rfl rfl) (Nat.le_of_ble_eq_true rfl) (by rw [hR]; simp only [zRm]; omega) (by rw [hR]; simp only [zRm]; omega) hmc' hms' hpo hm' (fun s2 x2 hres => ?_)
      cases hres
      exact z_lret C rfl d_U_work_198 (by rw [hpo]; exact ⟨rfl, rfl, rfl⟩) (by rw [hmc]; omega) (by rw [hms]; omega)
  · rw [cvS_4 hk] at hres
    rw [hk]
    refine z_tableIn C 199 d_U_work_41 (by decide) (by decide) (off := 158) (by decide) (by decide) ?_
    have hcn : e.2.2.2.1 = 2 := hct.2.2.2.2.1 hk
    rw [hix] at hres
    refine z_aload_n C 200 d_U_work_199 rfl rfl ?_
    refine z_get C 203 f_U_27 d_U_work_200 rfl (by omega) rfl rfl ?_
    refine z_iload_n C 204 d_U_work_203 rfl rfl ?_
    refine z_aald C 205 fr (ty := .array .long) (some (20 + fr)) d_U_work_204 rfl (by omega) rfl rfl rfl rfl hfr (by decide) (by rw [if_pos hfr]) ?_
    refine z_aload_n C 206 d_U_work_205 rfl rfl ?_
    refine z_get (v := .int (nI v0)) C 209 f_U_81 d_U_work_206 rfl (by omega) (hcl _) (by show some (Value.int (eVr e)) = _; rw [ev]) ?_
    refine z_aload_n C 210 d_U_work_209 rfl rfl ?_
    refine z_aload_n C 211 d_U_work_210 rfl rfl ?_
    refine z_get C 214 f_U_88 d_U_work_211 rfl (by omega) (hcl _) rfl ?_
    refine z_iconst C 215 d_U_work_214 rfl 0 (by decide) ?_
    refine z_aald C 216 (t := 5) 0 (some (B + 2 * ePt e 0)) d_U_work_215 rfl (by omega) (hcp _) rfl rfl rfl (by omega) (by decide) (by show (e.2.2.1 0).map _ = _; rw [(hpt 0 (by omega)).1]; rfl) ?_
    refine z_iload_n C 217 d_U_work_216 rfl rfl ?_
    refine z_iload_n C 218 d_U_work_217 rfl rfl ?_
    refine zu_sub C 221 hres (fun x0 hx0 mc ms hm => UX n σ xr xf P B N E (ePt e 0) fr _ x0 mc ms hU (hcs 0 (by omega)) (hpt 0 (by omega)).2 hfr hx0 hm) w_U_work ini_U d_U_work_218 rfl (z_goV (As := [.ref (B + 2 * ePt e 0), .int (nI (8 - c)), .int (nI fr)]) C l_U_49 w_U_work d_U_work_218 (by omega) rfl rfl rfl) (Nat.le_of_ble_eq_true rfl) (by rw [hR]; simp only [zRm]; omega) (by rw [hR]; simp only [zRm]; omega) hmc' hms' hpo hm' (fun s1 x1 hres => ?_)
    have hres := (xB_P _).trans hres
    refine zx_last C 222 v0 d_U_work_221 rfl (by omega) (by unfold xIsL; omega) rfl (by rw [xLen_f hfr]; exact hv20) (by rw [xLen_f hfr]; decide) ?_
    show Z G K n (uSt σ xr xf (xSet fr v0 x1 s1)) _ _ _ _ _
    refine z_aload_n C 223 d_U_work_222 rfl rfl ?_
    refine z_aload_n C 224 d_U_work_223 rfl rfl ?_
    refine z_get C 227 f_U_88 d_U_work_224 rfl (by omega) (hcl _) rfl ?_
    refine z_iconst C 228 d_U_work_227 rfl 1 (by decide) ?_
    refine z_aald C 229 (t := 5) 1 (some (B + 2 * ePt e 1)) d_U_work_228 rfl (by omega) (hcp _) rfl rfl rfl (by omega) (by decide) (by show (e.2.2.1 1).map _ = _; rw [(hpt 1 (by omega)).1]; rfl) ?_
    refine z_iload_n C 230 d_U_work_229 rfl rfl ?_
    refine z_iload_n C 231 d_U_work_230 rfl rfl ?_
    refine zu_sub C 234 hres (fun x0 hx0 mc ms hm => UX n σ xr xf P B N E (ePt e 1) fr _ x0 mc ms hU (hcs 1 (by omega)) (hpt 1 (by omega)).2 hfr hx0 hm) w_U_work ini_U d_U_work_231 rfl (z_goV (As := [.ref (B + 2 * ePt e 1), .int (nI (8 - c)), .int (nI fr)]) C l_U_49 w_U_work d_U_work_231 (by omega) rfl rfl rfl) (Nat.le_of_ble_eq_true rfl) (by rw [hR]; simp only [zRm]; omega) (by rw [hR]; simp only [zRm]; omega) hmc' hms' hpo hm' (fun s2 x2 hres => ?_)
    cases hres
    exact z_lret C rfl d_U_work_234 (by rw [hpo]; exact ⟨rfl, rfl, rfl⟩) (by rw [hmc]; omega) (by rw [hms]; omega)
  · rw [cvS_5 hk] at hres
    rw [hk]
    refine z_tableIn C 235 d_U_work_41 (by decide) (by decide) (off := 194) (by decide) (by decide) ?_
    have hcn : e.2.2.2.1 = 1 := hct.2.2.2.2.2.1 hk
    refine z_aload_n C 236 d_U_work_235 rfl rfl ?_
    refine z_get C 239 f_U_12 d_U_work_236 rfl (by omega) rfl rfl ?_
    refine z_aload_n C 240 d_U_work_239 rfl rfl ?_
    refine z_aload_n C 241 d_U_work_240 rfl rfl ?_
    refine z_get C 244 f_U_88 d_U_work_241 rfl (by omega) (hcl _) rfl ?_
    refine z_iconst C 245 d_U_work_244 rfl 0 (by decide) ?_
    refine z_aald C 246 (t := 5) 0 (some (B + 2 * ePt e 0)) d_U_work_245 rfl (by omega) (hcp _) rfl rfl rfl (by omega) (by decide) (by show (e.2.2.1 0).map _ = _; rw [(hpt 0 (by omega)).1]; rfl) ?_
    refine z_iload_n C 247 d_U_work_246 rfl rfl ?_
    refine z_iload_n C 248 d_U_work_247 rfl rfl ?_
    refine zu_sub C 251 hres (fun x0 hx0 mc ms hm => UX n σ xr xf P B N E (ePt e 0) fr _ x0 mc ms hU (hcs 0 (by omega)) (hpt 0 (by omega)).2 hfr hx0 hm) w_U_work ini_U d_U_work_248 rfl (z_goV (As := [.ref (B + 2 * ePt e 0), .int (nI (8 - c)), .int (nI fr)]) C l_U_49 w_U_work d_U_work_248 (by omega) rfl rfl rfl) (Nat.le_of_ble_eq_true rfl) (by rw [hR]; simp only [zRm]; omega) (by rw [hR]; simp only [zRm]; omega) hmc' hms' hpo hm' (fun s1 x1 hres => ?_)
    refine z_lconst C 252 d_U_work_251 rfl 1 (by decide) ?_
    unfold xMk at hres
    cases hmk : xmk s1.2.1 x1 1 with
    | inl q =>
      rw [hmk] at hres
      cases hres
      have hb := hm ⟨_, rfl⟩
      refine z_call C 255 (c_O_make (by omega) (by omega) x1 1 (mc := 1) (ms := 6) (fun _ => ⟨by omega, by omega⟩)) w_O_make ini_O d_U_work_252 rfl (z_goV (As := [.long x1, .long 1]) C l_U_96 w_O_make d_U_work_252 (by omega) rfl rfl rfl) (Nat.le_of_ble_eq_true rfl) (by rw [hR]; simp only [zRm]; omega) (by rw [hR]; simp only [zRm]; omega) (by rw [hR]; simp only [zRm]; omega) (by rw [hR]; simp only [zRm]; omega) (fun v n' σ' hv => ?_) (fun x n' σ' hv => ?_)
      · rw [hmk] at hv
        cases hv.1
      · rw [hmk] at hv
        obtain ⟨e0, rfl, rfl⟩ := hv
        cases e0
        exact zx_out C (fun h hh => nomatch hh) (by rw [hpo]; exact ⟨rfl, rfl, rfl⟩) (by rw [hmc]; omega) (by rw [hms]; omega)
    | inr b =>
      rw [hmk] at hres
      cases hres
      refine z_call C 255 (c_O_make (by omega) (by omega) x1 1 (mc := 0) (ms := 0) (fun w => by rw [hmk] at w; obtain ⟨q, w⟩ := w; cases w)) w_O_make ini_O d_U_work_252 rfl (z_goV (As := [.long x1, .long 1]) C l_U_96 w_O_make d_U_work_252 (by omega) rfl rfl rfl) (Nat.le_of_ble_eq_true rfl) (by rw [hR]; simp only [zRm]; omega) (by rw [hR]; simp only [zRm]; omega) (by rw [hR]; simp only [zRm]; omega) (by rw [hR]; simp only [zRm]; omega) (fun v n' σ' hv => ?_) (fun x n' σ' hv => ?_)
      rotate_left
      · rw [hmk] at hv
        cases hv.1
      rw [hmk] at hv
      obtain ⟨e0, e1, rfl⟩ := hv
      obtain rfl : n = n' := e1.symm
      cases e0
      refine z_i2l C 256 d_U_work_255 rfl ?_
      exact z_lret C rfl d_U_work_256 (by rw [hpo]; exact ⟨rfl, rfl, rfl⟩) (by rw [hmc]; omega) (by rw [hms]; omega)
  · rw [cvS_6 hk] at hres
    rw [hk]
    refine z_tableIn C 257 d_U_work_41 (by decide) (by decide) (off := 216) (by decide) (by decide) ?_
    have hcn : e.2.2.2.1 = 2 := hct.2.2.2.2.2.2.1 hk
    refine z_aload_n C 258 d_U_work_257 rfl rfl ?_
    refine z_get C 261 f_U_12 d_U_work_258 rfl (by omega) rfl rfl ?_
    refine z_aload_n C 262 d_U_work_261 rfl rfl ?_
    refine z_aload_n C 263 d_U_work_262 rfl rfl ?_
    refine z_get C 266 f_U_88 d_U_work_263 rfl (by omega) (hcl _) rfl ?_
    refine z_iconst C 267 d_U_work_266 rfl 0 (by decide) ?_
    refine z_aald C 268 (t := 5) 0 (some (B + 2 * ePt e 0)) d_U_work_267 rfl (by omega) (hcp _) rfl rfl rfl (by omega) (by decide) (by show (e.2.2.1 0).map _ = _; rw [(hpt 0 (by omega)).1]; rfl) ?_
    refine z_iload_n C 269 d_U_work_268 rfl rfl ?_
    refine z_iload_n C 270 d_U_work_269 rfl rfl ?_
    refine zu_sub C 273 hres (fun x0 hx0 mc ms hm => UX n σ xr xf P B N E (ePt e 0) fr _ x0 mc ms hU (hcs 0 (by omega)) (hpt 0 (by omega)).2 hfr hx0 hm) w_U_work ini_U d_U_work_270 rfl (z_goV (As := [.ref (B + 2 * ePt e 0), .int (nI (8 - c)), .int (nI fr)]) C l_U_49 w_U_work d_U_work_270 (by omega) rfl rfl rfl) (Nat.le_of_ble_eq_true rfl) (by rw [hR]; simp only [zRm]; omega) (by rw [hR]; simp only [zRm]; omega) hmc' hms' hpo hm' (fun s1 x1 hres => ?_)
    refine z_aload_n C 274 d_U_work_273 rfl rfl ?_
    refine z_aload_n C 275 d_U_work_274 rfl rfl ?_
    refine z_get C 278 f_U_88 d_U_work_275 rfl (by omega) (hcl _) rfl ?_
    refine z_iconst C 279 d_U_work_278 rfl 1 (by decide) ?_
    refine z_aald C 280 (t := 5) 1 (some (B + 2 * ePt e 1)) d_U_work_279 rfl (by omega) (hcp _) rfl rfl rfl (by omega) (by decide) (by show (e.2.2.1 1).map _ = _; rw [(hpt 1 (by omega)).1]; rfl) ?_
    refine z_iload_n C 281 d_U_work_280 rfl rfl ?_
    refine z_iload_n C 282 d_U_work_281 rfl rfl ?_
    refine zu_sub C 285 hres (fun x0 hx0 mc ms hm => UX n σ xr xf P B N E (ePt e 1) fr _ x0 mc ms hU (hcs 1 (by omega)) (hpt 1 (by omega)).2 hfr hx0 hm) w_U_work ini_U d_U_work_282 rfl (z_goV (As := [.ref (B + 2 * ePt e 1), .int (nI (8 - c)), .int (nI fr)]) C l_U_49 w_U_work d_U_work_282 (by omega) rfl rfl rfl) (Nat.le_of_ble_eq_true rfl) (by rw [hR]; simp only [zRm]; omega) (by rw [hR]; simp only [zRm]; omega) hmc' hms' hpo hm' (fun s2 x2 hres => ?_)
    unfold xMk at hres
    cases hmk : xmk s2.2.1 x1 x2 with
    | inl q =>
      rw [hmk] at hres
      cases hres
      have hb := hm ⟨_, rfl⟩
      refine z_call C 288 (c_O_make (by omega) (by omega) x1 x2 (mc := 1) (ms := 6) (fun _ => ⟨by omega, by omega⟩)) w_O_make ini_O d_U_work_285 rfl (z_goV (As := [.long x1, .long x2]) C l_U_96 w_O_make d_U_work_285 (by omega) rfl rfl rfl) (Nat.le_of_ble_eq_true rfl) (by rw [hR]; simp only [zRm]; omega) (by rw [hR]; simp only [zRm]; omega) (by rw [hR]; simp only [zRm]; omega) (by rw [hR]; simp only [zRm]; omega) (fun v n' σ' hv => ?_) (fun x n' σ' hv => ?_)
      · rw [hmk] at hv
        cases hv.1
      · rw [hmk] at hv
        obtain ⟨e0, rfl, rfl⟩ := hv
        cases e0
        exact zx_out C (fun h hh => nomatch hh) (by rw [hpo]; exact ⟨rfl, rfl, rfl⟩) (by rw [hmc]; omega) (by rw [hms]; omega)
    | inr b =>
      rw [hmk] at hres
      cases hres
      refine z_call C 288 (c_O_make (by omega) (by omega) x1 x2 (mc := 0) (ms := 0) (fun w => by rw [hmk] at w; obtain ⟨q, w⟩ := w; cases w)) w_O_make ini_O d_U_work_285 rfl (z_goV (As := [.long x1, .long x2]) C l_U_96 w_O_make d_U_work_285 (by omega) rfl rfl rfl) (Nat.le_of_ble_eq_true rfl) (by rw [hR]; simp only [zRm]; omega) (by rw [hR]; simp only [zRm]; omega) (by rw [hR]; simp only [zRm]; omega) (by rw [hR]; simp only [zRm]; omega) (fun v n' σ' hv => ?_) (fun x n' σ' hv => ?_)
      rotate_left
      · rw [hmk] at hv
        cases hv.1
      rw [hmk] at hv
      obtain ⟨e0, e1, rfl⟩ := hv
      obtain rfl : n = n' := e1.symm
      cases e0
      refine z_i2l C 289 d_U_work_288 rfl ?_
      exact z_lret C rfl d_U_work_289 (by rw [hpo]; exact ⟨rfl, rfl, rfl⟩) (by rw [hmc]; omega) (by rw [hms]; omega)
  · rw [cvS_7 hk] at hres
    rw [hk]
    refine z_tableIn C 290 d_U_work_41 (by decide) (by decide) (off := 249) (by decide) (by decide) ?_
    have hres := (xB_P _).trans hres
    refine z_aload_n C 291 d_U_work_290 rfl rfl ?_
    refine z_aload_n C 292 d_U_work_291 rfl rfl ?_
    refine z_iload_n C 293 d_U_work_292 rfl rfl ?_
    refine z_iload_n C 294 d_U_work_293 rfl rfl ?_
    refine zu_sub C 297 hres (fun x0 hx0 mc ms hm => c_U_readNumber UX hU hi he hcs hfr hk hx0 hm) w_U_readNumber ini_U d_U_work_294 rfl (z_goV (As := [.ref (B + 2 * i), .int (nI (8 - c)), .int (nI fr)]) C l_U_100 w_U_readNumber d_U_work_294 (by omega) rfl rfl rfl) (Nat.le_of_ble_eq_true rfl) (by rw [hR]; simp only [zRm]; omega) (by rw [hR]; simp only [zRm]; omega) hmc' hms' hpo hm' (fun s2 x2 hres => ?_)
    cases hres
    exact z_lret C rfl d_U_work_297 (by rw [hpo]; exact ⟨rfl, rfl, rfl⟩) (by rw [hmc]; omega) (by rw [hms]; omega)
  · rw [cvS_8 hk] at hres
    rw [hk]
    refine z_tableIn C 298 d_U_work_41 (by decide) (by decide) (off := 257) (by decide) (by decide) ?_
    have hres := (xB_P _).trans hres
    refine z_aload_n C 299 d_U_work_298 rfl rfl ?_
    refine z_aload_n C 300 d_U_work_299 rfl rfl ?_
    refine z_iload_n C 301 d_U_work_300 rfl rfl ?_
    refine z_iload_n C 302 d_U_work_301 rfl rfl ?_
    refine zu_sub C 305 hres (fun x0 hx0 mc ms hm => c_U_update UX hU hi he hcs hfr hk hx0 hm) w_U_update ini_U d_U_work_302 rfl (z_goV (As := [.ref (B + 2 * i), .int (nI (8 - c)), .int (nI fr)]) C l_U_103 w_U_update d_U_work_302 (by omega) rfl rfl rfl) (Nat.le_of_ble_eq_true rfl) (by rw [hR]; simp only [zRm]; omega) (by rw [hR]; simp only [zRm]; omega) hmc' hms' hpo hm' (fun s2 x2 hres => ?_)
    cases hres
    exact z_lret C rfl d_U_work_305 (by rw [hpo]; exact ⟨rfl, rfl, rfl⟩) (by rw [hmc]; omega) (by rw [hms]; omega)
  · rw [cvS_9 hk] at hres
    rw [hk]
    refine z_tableIn C 306 d_U_work_41 (by decide) (by decide) (off := 265) (by decide) (by decide) ?_
    rw [hix] at hres
    refine z_aload_n C 307 d_U_work_306 rfl rfl ?_
    refine z_get C 310 f_U_12 d_U_work_307 rfl (by omega) rfl rfl ?_
    refine z_get C 313 f_U_106 d_U_work_310 rfl (by omega) rfl rfl ?_
    refine z_aload_n C 314 d_U_work_313 rfl rfl ?_
    refine z_aload_n C 315 d_U_work_314 rfl rfl ?_
    refine z_iload_n C 316 d_U_work_315 rfl rfl ?_
    refine z_call C 319 (c_U_arrayOf (xs := s.1) (xa := s.2.1) (xl := s.2.2) (xr := xr) (xf := xf) (σ := σ) (by omega) (e := B + 2 * i) (x := s.2.2 (20 + fr) v0) (by omega) (by omega) hce (by show some (Value.int (eVr e)) = _; rw [ev]) hv20 hfr rfl) w_U_arrayOf ini_U d_U_work_316 rfl (z_goV (As := [.ref (B + 2 * i), .int (nI fr)]) C l_U_109 w_U_arrayOf d_U_work_316 (by omega) rfl rfl rfl) (Nat.le_of_ble_eq_true rfl) (by rw [hR]; simp only [zRm]; omega) (by rw [hR]; simp only [zRm]; omega) (by rw [hR]; simp only [zRm]; omega) (by rw [hR]; simp only [zRm]; omega) (fun v n' σ' hv => ?_) (fun x n' σ' hv => ?_)
    rotate_left
    · cases hv.1
    obtain ⟨e0, e1, rfl⟩ := hv
    cases e0
    obtain rfl : n = n' := e1.symm
    obtain ⟨ha0, ha, hres⟩ := xArr_some hres
    rw [ha0]
    show Z G K n (uSt σ xr xf s) _ _ _ _ (.int (nI _) :: _)
    obtain ⟨a, hae⟩ : ∃ a, xIx (s.2.2 (20 + fr) v0) = a := ⟨_, rfl⟩
    rw [hae] at ha hres ⊢
    cases hres
    refine z_iald C 320 a d_U_work_319 rfl (by omega) rfl rfl (by show a < 8; exact ha) (by decide) ?_
    refine z_i2l C 321 d_U_work_320 rfl ?_
    exact z_lret C rfl d_U_work_321 (by rw [hpo]; exact ⟨rfl, rfl, rfl⟩) (by rw [hmc]; omega) (by rw [hms]; omega)
  · rw [cvS_10 hk] at hres
    rw [hk]
    refine z_tableIn C 322 d_U_work_41 (by decide) (by decide) (off := 281) (by decide) (by decide) ?_
    rw [hix] at hres
    refine z_aload_n C 323 d_U_work_322 rfl rfl ?_
    refine z_get C 326 f_U_12 d_U_work_323 rfl (by omega) rfl rfl ?_
    refine z_get C 329 f_U_113 d_U_work_326 rfl (by omega) rfl rfl ?_
    refine z_aload_n C 330 d_U_work_329 rfl rfl ?_
    refine z_aload_n C 331 d_U_work_330 rfl rfl ?_
    refine z_iload_n C 332 d_U_work_331 rfl rfl ?_
    refine z_call C 335 (c_U_arrayOf (xs := s.1) (xa := s.2.1) (xl := s.2.2) (xr := xr) (xf := xf) (σ := σ) (by omega) (e := B + 2 * i) (x := s.2.2 (20 + fr) v0) (by omega) (by omega) hce (by show some (Value.int (eVr e)) = _; rw [ev]) hv20 hfr rfl) w_U_arrayOf ini_U d_U_work_332 rfl (z_goV (As := [.ref (B + 2 * i), .int (nI fr)]) C l_U_109 w_U_arrayOf d_U_work_332 (by omega) rfl rfl rfl) (Nat.le_of_ble_eq_true rfl) (by rw [hR]; simp only [zRm]; omega) (by rw [hR]; simp only [zRm]; omega) (by rw [hR]; simp only [zRm]; omega) (by rw [hR]; simp only [zRm]; omega) (fun v n' σ' hv => ?_) (fun x n' σ' hv => ?_)
    rotate_left
    · cases hv.1
    obtain ⟨e0, e1, rfl⟩ := hv
    cases e0
    obtain rfl : n = n' := e1.symm
    obtain ⟨ha0, ha, hres⟩ := xArr_some hres
    rw [ha0]
    show Z G K n (uSt σ xr xf s) _ _ _ _ (.int (nI _) :: _)
    obtain ⟨a, hae⟩ : ∃ a, xIx (s.2.2 (20 + fr) v0) = a := ⟨_, rfl⟩
    rw [hae] at ha hres ⊢
    cases hres
    refine z_iald C 336 a d_U_work_335 rfl (by omega) rfl rfl (by show a < 8; exact ha) (by decide) ?_
    refine z_i2l C 337 d_U_work_336 rfl ?_
    exact z_lret C rfl d_U_work_337 (by rw [hpo]; exact ⟨rfl, rfl, rfl⟩) (by rw [hmc]; omega) (by rw [hms]; omega)
  · rw [cvS_11 hk] at hres
    rw [hk]
    refine z_tableIn C 338 d_U_work_41 (by decide) (by decide) (off := 297) (by decide) (by decide) ?_
    rw [hix] at hres
    refine z_aload_n C 339 d_U_work_338 rfl rfl ?_
    refine z_get C 342 f_U_12 d_U_work_339 rfl (by omega) rfl rfl ?_
    refine z_aload_n C 343 d_U_work_342 rfl rfl ?_
    refine z_aload_n C 344 d_U_work_343 rfl rfl ?_
    refine z_iload_n C 345 d_U_work_344 rfl rfl ?_
    refine z_call C 348 (c_U_arrayOf (xs := s.1) (xa := s.2.1) (xl := s.2.2) (xr := xr) (xf := xf) (σ := σ) (by omega) (e := B + 2 * i) (x := s.2.2 (20 + fr) v0) (by omega) (by omega) hce (by show some (Value.int (eVr e)) = _; rw [ev]) hv20 hfr rfl) w_U_arrayOf ini_U d_U_work_345 rfl (z_goV (As := [.ref (B + 2 * i), .int (nI fr)]) C l_U_109 w_U_arrayOf d_U_work_345 (by omega) rfl rfl rfl) (Nat.le_of_ble_eq_true rfl) (by rw [hR]; simp only [zRm]; omega) (by rw [hR]; simp only [zRm]; omega) (by rw [hR]; simp only [zRm]; omega) (by rw [hR]; simp only [zRm]; omega) (fun v n' σ' hv => ?_) (fun x n' σ' hv => ?_)
    rotate_left
    · cases hv.1
    obtain ⟨e0, e1, rfl⟩ := hv
    cases e0
    obtain rfl : n = n' := e1.symm
    obtain ⟨ha0, ha, hres⟩ := xArr_some hres
    rw [ha0]
    show Z G K n (uSt σ xr xf s) _ _ _ _ (.int (nI _) :: _)
    obtain ⟨a, hae⟩ : ∃ a, xIx (s.2.2 (20 + fr) v0) = a := ⟨_, rfl⟩
    rw [hae] at ha hres ⊢
    unfold xCp at hres
    by_cases qz : s.2.1 18 a = 0
    · rw [if_pos qz] at hres
      cases hres
    rw [if_neg qz] at hres
    cases hmk : xmk s.2.1 (s.2.1 7 a).toInt64 (s.2.1 8 a).toInt64 with
    | inl q =>
      rw [hmk] at hres
      cases hres
      have hb := hm ⟨_, rfl⟩
      refine z_call C 351 (c_O_copy (by omega) (by omega) ha (mc := 1) (ms := 6) (fun _ => ⟨by omega, by omega⟩) (fun b hb2 => by rw [hmk] at hb2; cases hb2)) w_O_copy ini_O d_U_work_348 rfl (z_goV (As := [.int (nI a)]) C l_U_116 w_O_copy d_U_work_348 (by omega) rfl rfl rfl) (Nat.le_of_ble_eq_true rfl) (by rw [hR]; simp only [zRm]; omega) (by rw [hR]; simp only [zRm]; omega) (by rw [hR]; simp only [zRm]; omega) (by rw [hR]; simp only [zRm]; omega) (fun v n' σ' hv => ?_) (fun x n' σ' hv => ?_)
      · rw [hmk] at hv
        cases hv.1
      · rw [hmk] at hv
        obtain ⟨e0, rfl, rfl⟩ := hv
        cases e0
        exact zx_out C (fun h hh => nomatch hh) (by rw [hpo]; exact ⟨rfl, rfl, rfl⟩) (by rw [hmc]; omega) (by rw [hms]; omega)
    | inr b =>
      rw [hmk] at hres
      cases hres
      refine z_call C 351 (c_O_copy (by omega) (by omega) ha (mc := 0) (ms := 0) (fun w => by rw [hmk] at w; obtain ⟨q, w⟩ := w; cases w) (fun b' hb2 => fun w => qz (by rw [← w]; exact xmk_free hb2))) w_O_copy ini_O d_U_work_348 rfl (z_goV (As := [.int (nI a)]) C l_U_116 w_O_copy d_U_work_348 (by omega) rfl rfl rfl) (Nat.le_of_ble_eq_true rfl) (by rw [hR]; simp only [zRm]; omega) (by rw [hR]; simp only [zRm]; omega) (by rw [hR]; simp only [zRm]; omega) (by rw [hR]; simp only [zRm]; omega) (fun v n' σ' hv => ?_) (fun x n' σ' hv => ?_)
      rotate_left
      · rw [hmk] at hv
        cases hv.1
      rw [hmk] at hv
      obtain ⟨e0, e1, rfl⟩ := hv
      obtain rfl : n = n' := e1.symm
      cases e0
      refine z_i2l C 352 d_U_work_351 rfl ?_
      exact z_lret C rfl d_U_work_352 (by rw [hpo]; exact ⟨rfl, rfl, rfl⟩) (by rw [hmc]; omega) (by rw [hms]; omega)
  · rw [cvS_12 hk] at hres
    rw [hk]
    refine z_tableIn C 353 d_U_work_41 (by decide) (by decide) (off := 312) (by decide) (by decide) ?_
    have hcn : e.2.2.2.1 = 1 := hct.2.2.2.2.2.2.2.2.2.2.2.2 hk
    rw [hix] at hres
    refine z_aload_n C 354 d_U_work_353 rfl rfl ?_
    refine z_get C 357 f_U_12 d_U_work_354 rfl (by omega) rfl rfl ?_
    refine z_aload_n C 358 d_U_work_357 rfl rfl ?_
    refine z_aload_n C 359 d_U_work_358 rfl rfl ?_
    refine z_iload_n C 360 d_U_work_359 rfl rfl ?_
    refine z_call C 363 (c_U_arrayOf (xs := s.1) (xa := s.2.1) (xl := s.2.2) (xr := xr) (xf := xf) (σ := σ) (by omega) (e := B + 2 * i) (x := s.2.2 (20 + fr) v0) (by omega) (by omega) hce (by show some (Value.int (eVr e)) = _; rw [ev]) hv20 hfr rfl) w_U_arrayOf ini_U d_U_work_360 rfl (z_goV (As := [.ref (B + 2 * i), .int (nI fr)]) C l_U_109 w_U_arrayOf d_U_work_360 (by omega) rfl rfl rfl) (Nat.le_of_ble_eq_true rfl) (by rw [hR]; simp only [zRm]; omega) (by rw [hR]; simp only [zRm]; omega) (by rw [hR]; simp only [zRm]; omega) (by rw [hR]; simp only [zRm]; omega) (fun v n' σ' hv => ?_) (fun x n' σ' hv => ?_)
    rotate_left
    · cases hv.1
    obtain ⟨e0, e1, rfl⟩ := hv
    cases e0
    obtain rfl : n = n' := e1.symm
    obtain ⟨ha0, ha, hres⟩ := xArr_some hres
    rw [ha0]
    show Z G K n (uSt σ xr xf s) _ _ _ _ (.int (nI _) :: _)
    obtain ⟨a, hae⟩ : ∃ a, xIx (s.2.2 (20 + fr) v0) = a := ⟨_, rfl⟩
    rw [hae] at ha hres ⊢
    have hres := (xB_P _).trans hres
    refine z_call C 366 (c_O_giveUp (by omega) ha) w_O_giveUp ini_O d_U_work_363 rfl (z_goV (As := [.int (nI a)]) C l_U_120 w_O_giveUp d_U_work_363 (by omega) rfl rfl rfl) (Nat.le_of_ble_eq_true rfl) (by rw [hR]; simp only [zRm]; omega) (by rw [hR]; simp only [zRm]; omega) (by rw [hR]; simp only [zRm]; omega) (by rw [hR]; simp only [zRm]; omega) (fun v n' σ' hv => ?_) (fun x n' σ' hv => ?_)
    rotate_left
    · cases hv.1
    obtain ⟨e0, e1, rfl⟩ := hv
    cases e0
    obtain rfl : n = n' := e1.symm
    show Z G K n (uSt σ xr xf (xGv a s)) _ _ _ _ _
    refine z_aload_n C 367 d_U_work_366 rfl rfl ?_
    refine z_aload_n C 368 d_U_work_367 rfl rfl ?_
    refine z_get C 371 f_U_88 d_U_work_368 rfl (by omega) (hcl _) rfl ?_
    refine z_iconst C 372 d_U_work_371 rfl 0 (by decide) ?_
    refine z_aald C 373 (t := 5) 0 (some (B + 2 * ePt e 0)) d_U_work_372 rfl (by omega) (hcp _) rfl rfl rfl (by omega) (by decide) (by show (e.2.2.1 0).map _ = _; rw [(hpt 0 (by omega)).1]; rfl) ?_
    refine z_iload_n C 374 d_U_work_373 rfl rfl ?_
    refine z_iload_n C 375 d_U_work_374 rfl rfl ?_
    refine zu_sub C 378 hres (fun x0 hx0 mc ms hm => UX n σ xr xf P B N E (ePt e 0) fr _ x0 mc ms hU (hcs 0 (by omega)) (hpt 0 (by omega)).2 hfr hx0 hm) w_U_work ini_U d_U_work_375 rfl (z_goV (As := [.ref (B + 2 * ePt e 0), .int (nI (8 - c)), .int (nI fr)]) C l_U_49 w_U_work d_U_work_375 (by omega) rfl rfl rfl) (Nat.le_of_ble_eq_true rfl) (by rw [hR]; simp only [zRm]; omega) (by rw [hR]; simp only [zRm]; omega) hmc' hms' hpo hm' (fun s2 x2 hres => ?_)
    cases hres
    exact z_lret C rfl d_U_work_378 (by rw [hpo]; exact ⟨rfl, rfl, rfl⟩) (by rw [hmc]; omega) (by rw [hms]; omega)
  · rw [cvS_13 hk] at hres
    rw [hk]
    refine z_tableIn C 379 d_U_work_41 (by decide) (by decide) (off := 338) (by decide) (by decide) ?_
    have hres := (xB_P _).trans hres
    refine z_aload_n C 380 d_U_work_379 rfl rfl ?_
    refine z_aload_n C 381 d_U_work_380 rfl rfl ?_
    refine z_iload_n C 382 d_U_work_381 rfl rfl ?_
    refine z_iload_n C 383 d_U_work_382 rfl rfl ?_
    refine zu_sub C 386 hres (fun x0 hx0 mc ms hm => c_U_call UX hU hi he hcs hfr hc7 WX hk (hcal hk) hx0 hm) w_U_call ini_U d_U_work_383 rfl (z_goV (As := [.ref (B + 2 * i), .int (nI (8 - c)), .int (nI fr)]) C l_U_124 w_U_call d_U_work_383 (by omega) rfl rfl rfl) (Nat.le_of_ble_eq_true rfl) (by rw [hR]; simp only [zRm]; omega) (by rw [hR]; simp only [zRm]; omega) hmc' hms' hpo hm' (fun s2 x2 hres => ?_)
    cases hres
    exact z_lret C rfl d_U_work_386 (by rw [hpo]; exact ⟨rfl, rfl, rfl⟩) (by rw [hmc]; omega) (by rw [hms]; omega)
theorem uHyp_all : ∀ c, c ≤ 7 → ∀ d, uHyp G l c d
  | 0, _ => fun d => by
    induction d with
    | zero => exact fun n σ xr xf P B N E i fr s res mc ms _ h => False.elim h
    | succ d ih => exact uHyp_s (by omega) (fun w => absurd w (by omega)) ih
  | c + 1, hc => fun d => by
    induction d with
    | zero => exact fun n σ xr xf P B N E i fr s res mc ms _ h => False.elim h
    | succ d ih => exact uHyp_s hc (fun _ => uHyp_all c (by omega) 8) ih
end UWL
