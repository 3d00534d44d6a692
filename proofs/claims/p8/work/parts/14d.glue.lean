/-! What single steps of reading tell of the functions in 14a. -/
def bi (b : Bool) : Int := match b with
  | true => 1
  | false => 0
theorem bi_in (b : Bool) : 0 ≤ bi b ∧ bi b ≤ 1 := by cases b <;> decide
theorem bi_z (b : Bool) : bi b = 0 ∨ bi b = 1 := by cases b <;> decide
theorem bi_t {b : Bool} (h : bi b ≠ 0) : b = true := by
  cases b with
  | true => rfl
  | false => exact absurd rfl h
theorem bi_f {b : Bool} (h : bi b = 0) : b = false := by
  cases b with
  | true => exact absurd h (by decide)
  | false => rfl
theorem bi_1 {b : Bool} (h : b = true) : bi b = 1 := by rw [h]; rfl
theorem bi_0 {b : Bool} (h : b = false) : bi b = 0 := by rw [h]; rfl
abbrev B8 (v : Int) : Prop := -128 ≤ v ∧ v ≤ 127
theorem isBl_of {v b : Int} (hv : B8 v) (e : b = v % 256) (h : b = 32 ∨ b = 9) : isBl v = true := by
  unfold isBl
  rw [Bool.or_eq_true, decide_eq_true_eq, decide_eq_true_eq]
  omega
theorem isBl_no {v b : Int} (hv : B8 v) (e : b = v % 256) (h : b ≠ 32 ∧ b ≠ 9) : isBl v = false := by
  unfold isBl
  rw [Bool.or_eq_false_iff, decide_eq_false_iff_not, decide_eq_false_iff_not]
  omega
theorem isDg_of {v b : Int} (hv : B8 v) (e : b = v % 256) (h : 48 ≤ b ∧ b ≤ 57) : isDg v = true := by
  unfold isDg
  rw [Bool.and_eq_true, decide_eq_true_eq, decide_eq_true_eq]
  omega
theorem isDg_no {v b : Int} (hv : B8 v) (e : b = v % 256) (h : b < 48 ∨ 57 < b) : isDg v = false := by
  unfold isDg
  rw [Bool.and_eq_false_iff, decide_eq_false_iff_not, decide_eq_false_iff_not]
  omega
theorem isDg_in {v : Int} (h : isDg v = true) : 48 ≤ v ∧ v ≤ 57 := by
  unfold isDg at h
  rw [Bool.and_eq_true, decide_eq_true_eq, decide_eq_true_eq] at h
  exact h
theorem noSg_is {v b : Int} (hv : B8 v) (e : b = v % 256) (h : b ≠ 32 ∧ b ≠ 9 ∧ b ≠ 40 ∧ b ≠ 41 ∧ b ≠ 34) : noSg v = true :=
  noSg_of (isBl_no hv e ⟨h.1, h.2.1⟩) (by omega) (by omega) (by omega)
theorem noSg_no {v b : Int} (hv : B8 v) (e : b = v % 256) (h : b = 32 ∨ b = 9 ∨ b = 40 ∨ b = 41 ∨ b = 34) : noSg v = false := by
  unfold noSg isSg isBl
  rw [Bool.not_eq_false', Bool.or_eq_true, Bool.or_eq_true, Bool.or_eq_true, Bool.or_eq_true]
  simp only [decide_eq_true_eq]
  omega
theorem noQu_is {v : Int} (h : v ≠ 34) : noQu v = true := by unfold noQu; simp [h]
theorem noQu_no {v : Int} (h : v = 34) : noQu v = false := by unfold noQu; simp [h]
section PHE
variable {r : QB} {n p : Nat}
theorem phE_more (h : p < n) (hq : r p ≠ 34) : phE r n p = phE r n (p + 1) := by
  rw [phE_eq]; unfold phE0
  rw [skp_more h (noQu_is hq)]
theorem phE_at (h : p < n) (hq : r p = 34) : phE r n p = (p : Int) := by
  rw [phE_eq]; unfold phE0
  rw [skp_end (Or.inr (noQu_no hq)), if_pos h]
theorem phE_none (h : n ≤ p) : phE r n p = -1 := by
  rw [phE_eq]; unfold phE0
  rw [skp_end (Or.inl h), if_neg (by omega)]
theorem mtA_of {w : List Int} (h : ∀ j : Nat, j < w.length → r (p + j) = w.getD j 0) : mtA r p w = true := by
  unfold mtA
  rw [List.all_eq_true]
  intro i hi
  exact decide_eq_true (h i (List.mem_range.mp hi))
theorem mtA_at {w : List Int} (h : mtA r p w = true) {j : Nat} (hj : j < w.length) : r (p + j) = w.getD j 0 := by
  unfold mtA at h
  rw [List.all_eq_true] at h
  exact of_decide_eq_true (h j (List.mem_range.mpr hj))
theorem mtA_no {w : List Int} {j : Nat} (hj : j < w.length) (h : r (p + j) ≠ w.getD j 0) : mtA r p w = false := by
  cases e : mtA r p w with
  | false => rfl
  | true => exact absurd (mtA_at e hj) h
end PHE
/-- the text w stands at p and ahead of n -/
def hasB (r : QB) (n p : Nat) (w : List Int) : Bool := Nat.ble (p + w.length) n && mtA r p w
theorem hasB_yes {r : QB} {n p : Nat} {w : List Int} (h1 : p + w.length ≤ n) (h : ∀ j : Nat, j < w.length → r (p + j) = w.getD j 0) : hasB r n p w = true := by
  unfold hasB
  rw [Nat.ble_eq.mpr h1, mtA_of h]
  rfl
theorem hasB_no1 {r : QB} {n p : Nat} {w : List Int} (h1 : n < p + w.length) : hasB r n p w = false := by
  unfold hasB
  rw [show Nat.ble (p + w.length) n = false by
    cases e : Nat.ble (p + w.length) n with
    | false => rfl
    | true => exact absurd (Nat.le_of_ble_eq_true e) (by omega)]
  rfl
theorem hasB_no2 {r : QB} {n p j : Nat} {w : List Int} (hj : j < w.length) (h : r (p + j) ≠ w.getD j 0) : hasB r n p w = false := by
  unfold hasB
  rw [mtA_no hj h, Bool.and_false]
theorem hasB_mt {r : QB} {n p : Nat} {w : List Int} (h1 : p + w.length ≤ n) : hasB r n p w = mtA r p w := by
  unfold hasB
  rw [Nat.ble_eq.mpr h1, Bool.true_and]
theorem isW_hasB {r : QB} {n p e : Nat} {w : List Int} (h0 : p ≤ e) (h1 : e ≤ n) (h2 : e - p = w.length) : isW r p e w = hasB r n p w := by
  unfold isW
  rw [hasB_mt (by omega), show Nat.beq (e - p) w.length = true by rw [h2]; exact Nat.beq_refl _, Bool.true_and]
theorem isW_no {r : QB} {p e : Nat} {w : List Int} (h2 : e - p ≠ w.length) : isW r p e w = false := by
  unfold isW
  rw [show Nat.beq (e - p) w.length = false by
    cases e' : Nat.beq (e - p) w.length with
    | false => rfl
    | true => exact absurd (Nat.eq_of_beq_eq_true e') h2]
  rfl
theorem nv_bd {r : QB} {a : Nat} : ∀ k : Nat, (∀ i, i < k → isDg (r (a + i)) = true) → 0 ≤ nv r a k ∧ nv r a k < 10 ^ k
  | 0, _ => ⟨Int.le_refl 0, (show (0 : Int) < 1 by decide)⟩
  | k + 1, h => by
    have h1 := nv_bd k (fun i hi => h i (by omega))
    have h2 := isDg_in (h k (by omega))
    have e : (10 : Int) ^ (k + 1) = 10 ^ k * 10 := Int.pow_succ _ _
    have e2 : nv r a (k + 1) = 10 * nv r a k + (r (a + k) - 48) := rfl
    rw [e, e2]
    omega
theorem nv_9 {r : QB} {a k : Nat} (hk : k ≤ 9) (h : ∀ i, i < k → isDg (r (a + i)) = true) : 0 ≤ nv r a k ∧ nv r a k ≤ 999999999 := by
  have h1 := nv_bd k h
  have h2 : (10 : Int) ^ k ≤ 10 ^ 9 := by
    rcases (show k = 0 ∨ k = 1 ∨ k = 2 ∨ k = 3 ∨ k = 4 ∨ k = 5 ∨ k = 6 ∨ k = 7 ∨ k = 8 ∨ k = 9 by omega) with rfl | rfl | rfl | rfl | rfl | rfl | rfl | rfl | rfl | rfl <;> decide
  have h3 : (10 : Int) ^ 9 = 1000000000 := by decide
  omega
/-- the number that [a, b) is, -1 if it is none -/
def numV0 (r : QB) (a b : Nat) : Int := match numOK r a b with
  | true => nv r a (b - a)
  | false => -1
theorem numVE : ∃ f : QB → Nat → Nat → Int, f = numV0 := ⟨_, rfl⟩
noncomputable def numV : QB → Nat → Nat → Int := Classical.choose numVE
theorem numV_eq : numV = numV0 := Classical.choose_spec numVE
theorem numOK_of {r : QB} {a b : Nat} (h1 : 1 ≤ b - a) (h2 : b - a ≤ 9) (h : ∀ i, i < b - a → isDg (r (a + i)) = true) : numOK r a b = true := by
  unfold numOK
  rw [Nat.ble_eq.mpr h1, Nat.ble_eq.mpr h2, Bool.true_and, Bool.true_and, List.all_eq_true]
  intro i hi
  exact h i (List.mem_range.mp hi)
theorem numOK_dg {r : QB} {a b : Nat} (h : numOK r a b = true) : (1 ≤ b - a ∧ b - a ≤ 9) ∧ ∀ i, i < b - a → isDg (r (a + i)) = true := by
  unfold numOK at h
  rw [Bool.and_eq_true, Bool.and_eq_true, List.all_eq_true] at h
  exact ⟨⟨Nat.le_of_ble_eq_true h.1, Nat.le_of_ble_eq_true h.2.1⟩, fun i hi => h.2.2 i (List.mem_range.mpr hi)⟩
theorem numV_of {r : QB} {a b : Nat} (h1 : 1 ≤ b - a) (h2 : b - a ≤ 9) (h : ∀ i, i < b - a → isDg (r (a + i)) = true) : numV r a b = nv r a (b - a) := by
  rw [numV_eq]; unfold numV0
  rw [numOK_of h1 h2 h]
theorem numOK_no1 {r : QB} {a b : Nat} (h1 : b - a < 1 ∨ 9 < b - a) : numOK r a b = false := by
  cases e : numOK r a b with
  | false => rfl
  | true => have := (numOK_dg e).1; omega
theorem numOK_no2 {r : QB} {a b i : Nat} (hi : i < b - a) (h : isDg (r (a + i)) = false) : numOK r a b = false := by
  cases e : numOK r a b with
  | false => rfl
  | true => have := (numOK_dg e).2 i hi; rw [h] at this; exact absurd this (by decide)
theorem numV_no {r : QB} {a b : Nat} (h : numOK r a b = false) : numV r a b = -1 := by
  rw [numV_eq]; unfold numV0
  rw [h]
theorem numV_in {r : QB} {a b : Nat} : (numV r a b = -1 ∧ numOK r a b = false) ∨ ((0 ≤ numV r a b ∧ numV r a b ≤ 999999999) ∧ numOK r a b = true) := by
  cases e : numOK r a b with
  | false => exact Or.inl ⟨numV_no e, rfl⟩
  | true =>
    obtain ⟨⟨h1, h2⟩, h3⟩ := numOK_dg e
    rw [numV_of h1 h2 h3]
    exact Or.inr ⟨nv_9 h2 h3, rfl⟩
theorem skp_far {P : Int → Bool} {r : QB} {n : Nat} : ∀ (k p q : Nat), q ≤ p + k → p ≤ q → q ≤ n → (∀ j, p ≤ j → j < q → P (r j) = true) → q ≤ skp P r n p
  | 0, p, q, h0, h1, _, _ => by
    have : p ≤ skp P r n p := skp_ge
    omega
  | k + 1, p, q, h0, h1, h2, h3 => by
    by_cases c : p = q
    · have : p ≤ skp P r n p := skp_ge
      omega
    · rw [skp_more (by omega) (h3 p (by omega) (by omega))]
      exact skp_far k (p + 1) q (by omega) (by omega) h2 (fun j a b => h3 j (by omega) b)
