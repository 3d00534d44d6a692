/-! A template's row of unknown content: its block's symbols stand for what the row holds. -/
def kz (t : Nat) : Bool := Nat.ble 10 t && Nat.blt t 14
def blkC (c : AE) : Nat := match c with
  | .inl x => blk x.2.2
  | .inr _ => 0
def lenC (c : AE) : Nat := match c with
  | .inl x => x.2.1
  | .inr _ => 0
/-- what a row holds, as numbers that symbols can have -/
def contN (g : GG) (c : AE) (j : Nat) : Nat := match c with
  | .inl (t, m, u) => match t with
    | 0 => toN (cI g u j)
    | 1 => toN (cI g u j)
    | 2 => toN (cI g u j)
    | 3 => toN64 (cJ u j)
    | 13 => toN64 (cBL g (blk u) m j)
    | _ => toN (cB g (blk u) m j)
  | .inr _ => 0
def keysLt (m : Nat) (u : List (Nat × AV)) : Bool := u.all (fun q => Nat.blt q.1 m)
theorem keysLt_ok {m : Nat} {u : List (Nat × AV)} (h : keysLt m u = true) {j : Nat} (hj : m ≤ j) : alk u j = none := by
  cases ha : alk u j with
  | none => rfl
  | some v =>
    have h1 := List.all_eq_true.mp h (j, v) (alk_mem ha)
    have h2 : j < m := Nat.blt_eq.mp h1
    omega
def fitB (c2 c : AE) : Bool := match c2, c with
  | .inl (t2, m2, _), .inl (t, m, u) => Nat.beq m2 m && (kz t2 && ((Nat.beq t2 (t + 10) && keysLt m u) || Nat.beq t2 t))
  | _, _ => false
theorem fitB_ok {g G : GG} {c2 c : AE} (h : fitB c2 c = true) (hcl : ClsU g) (h22 : G.2.2 = g.2.2) (hG : ∀ j, j < lenC c2 → G.2.1 (2000 + (blkC c2 + j)) = contN g c j) : cE G c2 = cE g c := by
  rcases c2 with ⟨t2, m2, u2⟩ | c2
  · rcases c with ⟨t, m, u⟩ | c
    · simp only [fitB, Bool.and_eq_true, Bool.or_eq_true, kz] at h
      obtain ⟨hm, ⟨k1, k2⟩, hk⟩ := h
      have em := Nat.eq_of_beq_eq_true hm
      subst em
      have k1 : 10 ≤ t2 := Nat.ble_eq.mp k1
      have k2 : t2 < 14 := Nat.blt_eq.mp k2
      obtain ⟨c10, c11, c12, c13⟩ := hcl
      have hG : ∀ j, j < m2 → G.2.1 (2000 + (blk u2 + j)) = contN g (.inl (t, m2, u)) j := hG
      have sI : ∀ (f : Nat → Int32), (∀ j, j < m2 → contN g (.inl (t, m2, u)) j = toN (f j)) → (∀ j, m2 ≤ j → f j = 0) → cB G (blk u2) m2 = f := by
        intro f h1 h0
        funext j
        unfold cB
        cases hj : Nat.blt j m2 with
        | true =>
          have hj2 : j < m2 := Nat.blt_eq.mp hj
          show nI (G.2.1 (2000 + (blk u2 + j))) = f j
          rw [hG j hj2, h1 j hj2, nI_toN]
        | false =>
          have hj2 : m2 ≤ j := by
            rcases Nat.lt_or_ge j m2 with q | q
            · rw [Nat.blt_eq.mpr q] at hj; cases hj
            · exact q
          exact (h0 j hj2).symm
      have sL : ∀ (f : Nat → Int64), (∀ j, j < m2 → contN g (.inl (t, m2, u)) j = toN64 (f j)) → (∀ j, m2 ≤ j → f j = 0) → cBL G (blk u2) m2 = f := by
        intro f h1 h0
        funext j
        unfold cBL
        cases hj : Nat.blt j m2 with
        | true =>
          have hj2 : j < m2 := Nat.blt_eq.mp hj
          show lN (G.2.1 (2000 + (blk u2 + j))) = f j
          rw [hG j hj2, h1 j hj2, lN_toN]
        | false =>
          have hj2 : m2 ≤ j := by
            rcases Nat.lt_or_ge j m2 with q | q
            · rw [Nat.blt_eq.mpr q] at hj; cases hj
            · exact q
          exact (h0 j hj2).symm
      have zI : keysLt m2 u = true → ∀ j, m2 ≤ j → cI g u j = 0 := fun hu j hj => by
        unfold cI
        rw [keysLt_ok hu hj]
      have zJ : keysLt m2 u = true → ∀ j, m2 ≤ j → cJ u j = 0 := fun hu j hj => by
        unfold cJ
        rw [keysLt_ok hu hj]
      have nb : ∀ j, m2 ≤ j → Nat.blt j m2 = false := fun j hj => by
        cases q : Nat.blt j m2 with
        | false => rfl
        | true => exact absurd (Nat.blt_eq.mp q) (by omega)
      have zB : ∀ j, m2 ≤ j → cB g (blk u) m2 j = 0 := fun j hj => by
        unfold cB
        rw [nb j hj]
      have zBL : ∀ j, m2 ≤ j → cBL g (blk u) m2 j = 0 := fun j hj => by
        unfold cBL
        rw [nb j hj]
      show Sum.inl (G.2.2.2 t2, cC G t2 m2 u2) = Sum.inl (g.2.2.2 t, cC g t m2 u)
      rw [h22]
      rcases hk with ⟨hk, hu⟩ | hk
      · have ek := Nat.eq_of_beq_eq_true hk
        subst ek
        rcases (show t = 0 ∨ t = 1 ∨ t = 2 ∨ t = 3 by omega) with rfl | rfl | rfl | rfl
        · have e := sI (cI g u) (fun j hj => rfl) (zI hu)
          show Sum.inl (g.2.2.2 10, (m2, Sum.inl (cB G (blk u2) m2))) = Sum.inl (g.2.2.2 0, (m2, Sum.inl (cI g u)))
          rw [e, c10]
        · have e := sI (cI g u) (fun j hj => rfl) (zI hu)
          show Sum.inl (g.2.2.2 11, (m2, Sum.inl (cB G (blk u2) m2))) = Sum.inl (g.2.2.2 1, (m2, Sum.inl (cI g u)))
          rw [e, c11]
        · have e := sI (cI g u) (fun j hj => rfl) (zI hu)
          show Sum.inl (g.2.2.2 12, (m2, Sum.inl (cB G (blk u2) m2))) = Sum.inl (g.2.2.2 2, (m2, Sum.inl (cI g u)))
          rw [e, c12]
        · have e := sL (cJ u) (fun j hj => rfl) (zJ hu)
          show Sum.inl (g.2.2.2 13, (m2, Sum.inr (Sum.inl (cBL G (blk u2) m2)))) = Sum.inl (g.2.2.2 3, (m2, Sum.inr (Sum.inl (cJ u))))
          rw [e, c13]
      · have ek := Nat.eq_of_beq_eq_true hk
        subst ek
        rcases (show t2 = 10 ∨ t2 = 11 ∨ t2 = 12 ∨ t2 = 13 by omega) with rfl | rfl | rfl | rfl
        · have e := sI (cB g (blk u) m2) (fun j hj => rfl) zB
          show Sum.inl (g.2.2.2 10, (m2, Sum.inl (cB G (blk u2) m2))) = Sum.inl (g.2.2.2 10, (m2, Sum.inl (cB g (blk u) m2)))
          rw [e]
        · have e := sI (cB g (blk u) m2) (fun j hj => rfl) zB
          show Sum.inl (g.2.2.2 11, (m2, Sum.inl (cB G (blk u2) m2))) = Sum.inl (g.2.2.2 11, (m2, Sum.inl (cB g (blk u) m2)))
          rw [e]
        · have e := sI (cB g (blk u) m2) (fun j hj => rfl) zB
          show Sum.inl (g.2.2.2 12, (m2, Sum.inl (cB G (blk u2) m2))) = Sum.inl (g.2.2.2 12, (m2, Sum.inl (cB g (blk u) m2)))
          rw [e]
        · have e := sL (cBL g (blk u) m2) (fun j hj => rfl) zBL
          show Sum.inl (g.2.2.2 13, (m2, Sum.inr (Sum.inl (cBL G (blk u2) m2)))) = Sum.inl (g.2.2.2 13, (m2, Sum.inr (Sum.inl (cBL g (blk u) m2))))
          rw [e]
    · cases h
  · rcases c with ⟨t, m, u⟩ | c <;> cases h
