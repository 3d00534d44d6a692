/-! The same call twice answers the same; sums of sizes; who is there. -/
theorem Ct.det {l : Launch} {d : MD} {fr lo : Nat} {av : List V} {h : Hp} {P : Int → Hp → Prop} (c : Ct l d fr lo av h (RI (fun x H => h = H ∧ ((x = 0 ∨ x = 1) ∧ P x H)))) : ∃ x0 : Int, (x0 = 0 ∨ x0 = 1) ∧ P x0 h ∧ Ct l d fr lo av h (RI (fun x H => h = H ∧ (x = 0 ∨ x = 1) ∧ P x H ∧ x = x0)) := by
  obtain ⟨r, h', mc, ms, ⟨e1, e2, x, e3, hx, e4, hz, hP⟩, hE⟩ := c
  exact ⟨x, hz, by rw [e4]; exact hP, r, h', mc, ms, ⟨e1, e2, x, e3, hx, e4, hz, hP, rfl⟩, hE⟩
def ssum (h : Hp) (x : Int) : Int := sumN (h.2.2 64) x.toNat
theorem ssum_s {h : Hp} {x : Int} (h0 : 0 ≤ x) : ssum h (x + 1) = ssum h x + h.2.2 64 x.toNat := by
  unfold ssum
  rw [show (x + 1).toNat = x.toNat + 1 by omega]
  rfl
theorem ssum_mono {h : Hp} (hI : Inv h) {x y : Int} (hxy : x ≤ y) (hx : 0 ≤ x) : ssum h x ≤ ssum h y := by
  obtain ⟨n, rfl⟩ : ∃ n : Nat, y = x + n := ⟨(y - x).toNat, by omega⟩
  clear hxy
  induction n with
  | zero => simp
  | succ n ih =>
    have h1 := ssum_s (h := h) (x := x + n) (by omega)
    have h2 := (hI.atR (a := 64) (j := (x + n).toNat) rfl).1
    have e : x + ((n + 1 : Nat) : Int) = x + n + 1 := by omega
    rw [e]
    omega
theorem ssum0 {h : Hp} : ssum h 0 = 0 := rfl
theorem Cch.sum {H : Hp} {m : Int} (c : Cch H) (e : H.2.2 60 12 = m) (hm : 0 ≤ m) : sumN (W69 H) 4 ≤ 3 * H.2.2 64 m.toNat + 203 := by
  subst e
  rcases c with c | ⟨c1, c2, c3, c4⟩
  · omega
  · have h0 := c3 0 (by decide)
    have h1 := c3 1 (by decide)
    have h2 := c3 2 (by decide)
    show 0 + H.2.2 69 0 + H.2.2 69 1 + H.2.2 69 2 + H.2.2 69 3 ≤ _
    omega
/-- none beyond those that came is there -/
def IsOK (h : Hp) : Prop := ∀ i : Nat, h.2.2 60 4 ≤ (i : Int) → h.2.2 65 i = 0
def icol (S : List Nat) : Bool := !S.contains 65 && !S.contains 204
theorem IsOK_fr {S : List Nat} {h h' : Hp} (f : Fr S h h') (hI : Inv h) (hs : icol S = true) (k : IsOK h) : IsOK h' := by
  unfold icol at hs
  simp only [Bool.and_eq_true, Bool.not_eq_true'] at hs
  unfold IsOK
  rw [f.arr hI (a := 65) (by decide) (fun _ => hs.1), f.getF hI (a := 60) (j := 4) (by decide) hs.2]
  exact k
def iout (a j : Nat) : Bool := !(Nat.beq a 65) && !(Nat.beq a 60 && Nat.beq j 4)
theorem IsOK_wr {h : Hp} {a j : Nat} {x : Int} (hs : iout a j = true) (k : IsOK h) : IsOK (wr h a j x) := by
  unfold iout at hs
  rw [Bool.and_eq_true] at hs
  have e1 : (wr h a j x).2.2 65 = h.2.2 65 := funext fun i => wr_ne (beq_no hs.1)
  unfold IsOK
  rw [e1, beq_no2 hs.2]
  exact k
theorem W69_4 {R : Hp} (hI : Inv R) {k : Int} (hk : 0 ≤ k ∧ k < 4) : sumN (W69 R) k.toNat + W69 R k.toNat ≤ sumN (W69 R) 4 := by
  have g : ∀ i, 0 ≤ W69 R i := fun i => (hI.atR (a := 69) (j := i) rfl).1
  have g0 := g 0
  have g1 := g 1
  have g2 := g 2
  have g3 := g 3
  have e : sumN (W69 R) 4 = 0 + W69 R 0 + W69 R 1 + W69 R 2 + W69 R 3 := rfl
  rcases (show k = 0 ∨ k = 1 ∨ k = 2 ∨ k = 3 by omega) with rfl | rfl | rfl | rfl
  · show 0 + W69 R 0 ≤ _; omega
  · show 0 + W69 R 0 + W69 R 1 ≤ _; omega
  · show 0 + W69 R 0 + W69 R 1 + W69 R 2 ≤ _; omega
  · show 0 + W69 R 0 + W69 R 1 + W69 R 2 + W69 R 3 ≤ _; omega
/-- where a tag stands, if it is one and the message is there -/
def TG (d1 d2 n c x t g : Int) : Prop := d1 = 1 → d2 = 1 → 1 ≤ x ∧ x ≤ 12 ∧ 0 ≤ n ∧ n < c ∧ -1 - g ≤ t ∧ t < g
def TT (s d1 d2 o t g : Int) : Prop := s = 0 → d1 = 1 ∧ d2 = 1 ∧ (o = 1 → t < 0 → g ≤ 7)
