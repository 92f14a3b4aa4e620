/-! a reading's or update's variable, put when its parts are read -/
def rV (i : Nat) (v : Int32) (w : Nat) (r : rR) : rR := match r with
  | .inl q => .inl q
  | .inr s => .inr (s.1, s.2.1, s.2.2.1, va_up s.2.2.2 i (eVar (s.2.2.2 i) v (nI w)))
section RVW
variable {T : Nat → Int32} {z i : Nat} {v : Int32} {w : Nat}
theorem rTake_map {c : Int32} {s : rS} {f : rS → rR} : rV i v w (rTake T z c s f) = rTake T z c s (fun s => rV i v w (f s)) := by
  unfold rTake
  split <;> rfl
theorem rBeh_map {K k j : Nat} {s : rS} {g f : rS → rR} : rV i v w (rBeh T z K k j s g f) = rBeh T z K k j s (fun s => rV i v w (g s)) (fun s => rV i v w (f s)) := by
  unfold rBeh
  split
  · split
    · split <;> rfl
    · exact rTake_map
  · split
    · split
      · exact rTake_map
      · split <;> exact rTake_map
    · split
      · split
        · exact rTake_map
        · rfl
      · split
        · split
          · exact rTake_map
          · rfl
        · split
          · split
            · rfl
            · exact rTake_map
          · split
            · split
              · exact rTake_map
              · split
                · rfl
                · exact rTake_map
            · split
              · split
                · rfl
                · exact rTake_map
              · rfl
theorem rParts_vw {R : rS → rR} {K : Nat} : ∀ (m k : Nat) (s : rS), rParts T z R K i (some (v, w)) m k s = rV i v w (rParts T z R K i none m k s)
  | 0, _, _ => rfl
  | m + 1, k, s => by
    have e1 : rParts T z R K i (some (v, w)) (m + 1) k s = rB (R s) (fun s2 => rBeh T z K k i (rAdd i s.2.1 s2) (fun s3 => rParts T z R K i (some (v, w)) m (k + 1) s3) (fun s3 => .inr (rClose i (some (v, w)) s3))) := rfl
    have e2 : rParts T z R K i none (m + 1) k s = rB (R s) (fun s2 => rBeh T z K k i (rAdd i s.2.1 s2) (fun s3 => rParts T z R K i none m (k + 1) s3) (fun s3 => .inr (rClose i none s3))) := rfl
    rw [e1, e2]
    cases R s with
    | inl q => rfl
    | inr s2 =>
      show rBeh T z K k i (rAdd i s.2.1 s2) (fun s3 => rParts T z R K i (some (v, w)) m (k + 1) s3) (fun s3 => .inr (rClose i (some (v, w)) s3)) = rV i v w (rBeh T z K k i (rAdd i s.2.1 s2) (fun s3 => rParts T z R K i none m (k + 1) s3) (fun s3 => .inr (rClose i none s3)))
      rw [rBeh_map, show (fun s3 => rParts T z R K i (some (v, w)) m (k + 1) s3) = (fun s3 => rV i v w (rParts T z R K i none m (k + 1) s3)) from funext fun s3 => rParts_vw m (k + 1) s3]
      rfl
theorem rV_ce {p : Nat} {r : rR} : rCe p (rV i v w r) = rCe p r ∧ rSl p (rV i v w r) = rSl p r := by
  cases r <;> exact ⟨rfl, rfl⟩
end RVW
