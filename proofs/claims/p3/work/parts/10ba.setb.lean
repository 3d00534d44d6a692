/-! A block of symbols set anew. -/
def setB (g : GG) (b m : Nat) (f : Nat → Nat) : GG := (g.1, (fun i => match Nat.ble (2000 + b) i && Nat.blt i (2000 + (b + m)) with
  | true => f (i - (2000 + b))
  | false => g.2.1 i), g.2.2)
theorem setB_ext (g : GG) {b n : Nat} (m : Nat) (f : Nat → Nat) (h : n ≤ b) : ext g (setB g b m f) n := by
  refine ⟨rfl, rfl, fun i hi => ?_⟩
  have hb : Nat.ble (2000 + b) i = false := by
    cases hq : Nat.ble (2000 + b) i with
    | false => rfl
    | true => exact absurd (Nat.ble_eq.mp hq) (by omega)
  show (match Nat.ble (2000 + b) i && Nat.blt i (2000 + (b + m)) with | true => f (i - (2000 + b)) | false => g.2.1 i) = g.2.1 i
  rw [hb]
  rfl
theorem setB_at (g : GG) {b m j : Nat} (f : Nat → Nat) (h : j < m) : (setB g b m f).2.1 (2000 + (b + j)) = f j := by
  have h1 : Nat.ble (2000 + b) (2000 + (b + j)) = true := Nat.ble_eq.mpr (by omega)
  have h2 : Nat.blt (2000 + (b + j)) (2000 + (b + m)) = true := Nat.blt_eq.mpr (by omega)
  show (match Nat.ble (2000 + b) (2000 + (b + j)) && Nat.blt (2000 + (b + j)) (2000 + (b + m)) with | true => f (2000 + (b + j) - (2000 + b)) | false => g.2.1 (2000 + (b + j))) = f j
  rw [h1, h2]
  show f (2000 + (b + j) - (2000 + b)) = f j
  rw [show 2000 + (b + j) - (2000 + b) = j by omega]
