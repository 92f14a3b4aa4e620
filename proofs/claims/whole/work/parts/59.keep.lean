/-! what the reading leaves as it is: the expressions below i; an expression makes a node at least -/
def rKp (i : Nat) (s : rS) (r : rR) : Prop := match r with
  | .inl _ => True
  | .inr b => s.2.1 ≤ b.2.1 ∧ ∀ j, j < i → b.2.2.2 j = s.2.2.2 j
section RKP
variable {T : Nat → Int32} {z : Nat}
theorem rKp.of {i : Nat} {a b : rS} {r : rR} (h1 : a.2.1 ≤ b.2.1) (h2 : ∀ j, j < i → b.2.2.2 j = a.2.2.2 j) (g : rKp i b r) : rKp i a r := by
  cases r with
  | inl q => trivial
  | inr c => exact ⟨Nat.le_trans h1 g.1, fun j hj => (g.2 j hj).trans (h2 j hj)⟩
theorem rKp.mono {i k : Nat} {a : rS} {r : rR} (h : i ≤ k) (g : rKp k a r) : rKp i a r := by
  cases r with
  | inl q => trivial
  | inr c => exact ⟨g.1, fun j hj => g.2 j (Nat.lt_of_lt_of_le hj h)⟩
theorem rKp.bind {i : Nat} {a : rS} {x : rR} {f : rS → rR} (h : rKp i a x) (g : ∀ b, a.2.1 ≤ b.2.1 → rKp i b (f b)) : rKp i a (rB x f) := by
  cases x with
  | inl q => trivial
  | inr b => exact rKp.of h.1 h.2 (g b h.1)
theorem rTake_kp {i : Nat} {c : Int32} {s : rS} {f : rS → rR} (g : rKp i (s.1 + 1, s.2) (f (s.1 + 1, s.2))) : rKp i s (rTake T z c s f) := by
  unfold rTake
  split
  · exact rKp.of (b := (s.1 + 1, s.2)) (Nat.le_refl _) (fun _ _ => rfl) g
  · trivial
theorem rBeh_kp {K k i : Nat} {s : rS} {g f : rS → rR} (hg : ∀ b, s.2.1 ≤ b.2.1 → rKp i b (g b)) (hf : ∀ b, s.2.1 ≤ b.2.1 → rKp i b (f b)) : rKp i s (rBeh T z K k i s g f) := by
  have tk : ∀ (c : Int32) (w : rS → rR), (∀ b, s.2.1 ≤ b.2.1 → rKp i b (w b)) → rKp i s (rTake T z c s w) := fun c w hw => rTake_kp (hw _ (Nat.le_refl _))
  have cm : rKp i s (g (s.1 + 1, s.2)) := rKp.of (b := (s.1 + 1, s.2)) (Nat.le_refl _) (fun _ _ => rfl) (hg _ (Nat.le_refl _))
  have ff : rKp i s (f s) := hf s (Nat.le_refl _)
  unfold rBeh
  split
  · split
    · split
      · refine rKp.of (b := rOp i (rlk T z s.1) s) (Nat.le_refl _) (fun j hj => ?_) (hg _ (Nat.le_refl _))
        exact va_up_ne _ _ (by omega)
      · trivial
    · exact tk _ _ hf
  · split
    · split
      · exact tk _ _ hg
      · split
        · exact tk _ _ hg
        · exact tk _ _ hf
    · split
      · split
        · exact tk _ _ hg
        · exact ff
      · split
        · split
          · exact tk _ _ hg
          · exact ff
        · split
          · split
            · exact cm
            · exact tk _ _ hf
          · split
            · split
              · exact tk _ _ hg
              · split
                · exact cm
                · exact tk _ _ hf
            · split
              · split
                · exact cm
                · exact tk _ _ hf
              · exact ff
theorem rParts_kp {R : rS → rR} (hR : ∀ s, rKp s.2.1 s (R s)) {K i : Nat} {vw : Option (Int32 × Nat)} : ∀ (m k : Nat) (s : rS), i < s.2.1 → rKp i s (rParts T z R K i vw m k s)
  | 0, _, _, _ => trivial
  | m + 1, k, s, hs => by
    unfold rParts
    refine rKp.bind (rKp.mono (Nat.le_of_lt hs) (hR s)) (fun b hb => ?_)
    refine rKp.of (b := rAdd i s.2.1 b) (Nat.le_refl _) (fun j hj => va_up_ne _ _ (by omega)) ?_
    refine rBeh_kp (fun c hc => rParts_kp hR m (k + 1) c (Nat.lt_of_lt_of_le (Nat.lt_of_lt_of_le hs hb) hc)) (fun c hc => ⟨Nat.le_refl _, fun j hj => ?_⟩)
    cases vw with
    | none => rfl
    | some x => exact va_up_ne _ _ (by omega)
def rKs (s : rS) (r : rR) : Prop := match r with
  | .inl _ => True
  | .inr b => s.2.1 < b.2.1 ∧ ∀ j, j < s.2.1 → b.2.2.2 j = s.2.2.2 j
theorem rKs.kp {s : rS} {r : rR} (h : rKs s r) : rKp s.2.1 s r := by
  cases r with
  | inl q => trivial
  | inr b => exact ⟨Nat.le_of_lt h.1, h.2⟩
theorem rNode_ks {b s : rS} {r : rR} (h1 : b.2.1 = s.2.1 + 1) (h2 : ∀ j, j < s.2.1 → b.2.2.2 j = s.2.2.2 j) (g : rKp s.2.1 b r) : rKs s r := by
  cases r with
  | inl q => trivial
  | inr c => exact ⟨by have := g.1; omega, fun j hj => (g.2 j hj).trans (h2 j hj)⟩
theorem rdE_ks : ∀ (d : Nat) (s : rS), rKs s (rdE T z d s)
  | 0, s => trivial
  | d + 1, s => by
    have ih : ∀ (K i : Nat) (vw : Option (Int32 × Nat)) (s : rS), i < s.2.1 → rKp i s (rParts T z (rdE T z d) K i vw 4 0 s) := fun K i vw s hs => rParts_kp (fun s => (rdE_ks d s).kp) 4 0 s hs
    have nd : ∀ (k w q : Nat) (x : Int32) (e : eN), rKs s (.inr (rGo (rNode k x w e s) q)) := fun k w q x e => ⟨Nat.lt_succ_self _, fun j hj => va_up_ne _ _ (Nat.ne_of_lt hj)⟩
    have np : ∀ (k w q K : Nat) (x : Int32) (e : eN) (vw : Option (Int32 × Nat)), rKs s (rParts T z (rdE T z d) K s.2.1 vw 4 0 (rGo (rNode k x w e s) q)) := fun k w q K x e vw => rNode_ks (b := rGo (rNode k x w e s) q) rfl (fun j hj => va_up_ne _ _ (Nat.ne_of_lt hj)) (ih _ _ _ _ (Nat.lt_succ_self _))
    have lt : ∀ (c2 : Int32) (K : Nat) (e : Int32 → eN), rKs s (rLet T z 97 116 (rGo s (s.1 + 1)) fun v s1 => rTake T z c2 s1 fun s2 => rParts T z (rdE T z d) K s.2.1 none 4 0 (rNode K v s.1 (e v) s2)) := fun c2 K e => by
      unfold rLet rTake
      split
      · dsimp only [rGo]
        split
        · exact rNode_ks (b := rNode K _ s.1 (e _) (s.1 + 1 + 1 + 1, s.2)) rfl (fun j hj => va_up_ne _ _ (Nat.ne_of_lt hj)) (ih _ _ _ _ (Nat.lt_succ_self _))
        · trivial
      · trivial
    have lf : ∀ (K : Nat) (e : Int32 → eN), rKs s (rLet T z 97 116 (rGo s (s.1 + 1)) fun v s1 => .inr (rNode K v s.1 (e v) s1)) := fun K e => by
      unfold rLet
      split
      · exact ⟨Nat.lt_succ_self _, fun j hj => va_up_ne _ _ (Nat.ne_of_lt hj)⟩
      · trivial
    unfold rdE
    by_cases q : 48 ≤ rlk T z s.1 ∧ rlk T z s.1 ≤ 57
    · rw [if_pos q]; exact nd _ _ _ _ _
    rw [if_neg q]
    by_cases q : 97 ≤ rlk T z s.1 ∧ rlk T z s.1 ≤ 116
    · rw [if_pos q]
      by_cases c : rlk T z (s.1 + 1) = 91
      · rw [if_pos c]; exact np _ _ _ _ _ _ _
      rw [if_neg c]
      by_cases c : rlk T z (s.1 + 1) = 123
      · rw [if_pos c]; exact np _ _ _ _ _ _ _
      rw [if_neg c]; exact nd _ _ _ _ _
    rw [if_neg q]
    by_cases q : 65 ≤ rlk T z s.1 ∧ rlk T z s.1 ≤ 72
    · rw [if_pos q]
      by_cases c : rlk T z (s.1 + 1) = 40
      · rw [if_pos c]
        by_cases c' : rlk T z (s.1 + 2) = 41
        · rw [if_pos c']; exact nd _ _ _ _ _
        · rw [if_neg c']; exact np _ _ _ _ _ _ _
      · rw [if_neg c]; trivial
    rw [if_neg q]
    by_cases c : rlk T z s.1 = 40
    · rw [if_pos c]; exact np _ _ _ _ _ _ _
    rw [if_neg c]
    by_cases c : rlk T z s.1 = 63
    · rw [if_pos c]; exact np _ _ _ _ _ _ _
    rw [if_neg c]
    by_cases c : rlk T z s.1 = 64
    · rw [if_pos c]; exact np _ _ _ _ _ _ _
    rw [if_neg c]
    by_cases c : rlk T z s.1 = 37
    · rw [if_pos c]; exact np _ _ _ _ _ _ _
    rw [if_neg c]
    by_cases c : rlk T z s.1 = 38
    · rw [if_pos c]; exact lt 61 4 (fun v => eVar (rE0 4 s.1) v (nI (s.1 + 1)))
    rw [if_neg c]
    by_cases c : rlk T z s.1 = 126
    · rw [if_pos c]; exact lt 59 12 (fun v => eVar (rE0 12 s.1) v (nI (s.1 + 1)))
    rw [if_neg c]
    by_cases c : rlk T z s.1 = 35
    · rw [if_pos c]; exact lf 9 (fun v => eVar (rE0 9 s.1) v (nI (s.1 + 1)))
    rw [if_neg c]
    by_cases c : rlk T z s.1 = 94
    · rw [if_pos c]; exact lf 10 (fun v => eVar (rE0 10 s.1) v (nI (s.1 + 1)))
    rw [if_neg c]
    by_cases c : rlk T z s.1 = 36
    · rw [if_pos c]; exact lf 11 (fun v => eVar (rE0 11 s.1) v (nI (s.1 + 1)))
    rw [if_neg c]
    trivial
end RKP
