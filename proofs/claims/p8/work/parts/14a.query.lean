/-! How a query is read: where it is refused, as a function of its bytes r, n of them. -/
abbrev QB : Type := Nat → Int
/-- the query as the class holds it -/
def qr (h : Hp) : QB := h.2.2 7
def qn (h : Hp) : Nat := (h.2.2 6 1).toNat
theorem qr_in {h : Hp} (hI : Inv h) (i : Nat) : -128 ≤ qr h i ∧ qr h i ≤ 127 := hI.atR (a := 7) (j := i) rfl
theorem qn_is {h : Hp} (hI : Inv h) : (qn h : Int) = h.2.2 6 1 ∧ 0 ≤ h.2.2 6 1 ∧ h.2.2 6 1 ≤ 1200 := by
  have z : 0 ≤ h.2.2 6 1 ∧ h.2.2 6 1 ≤ 1200 := hI.atR (a := 6) (j := 1) rfl
  unfold qn
  omega
theorem qr_fr {S : List Nat} {h h' : Hp} (f : Fr S h h') (hI : Inv h) (hs : S.contains 6 = false) : qr h' = qr h :=
  f.arr hI (a := 7) (by decide) (fun _ => hs)
theorem qn_fr {S : List Nat} {h h' : Hp} (f : Fr S h h') (hI : Inv h) (hs : S.contains 6 = false) : qn h' = qn h := by
  unfold qn
  rw [f.getF hI (a := 6) (j := 1) (by decide) hs]
theorem qr_wr {h : Hp} {a j : Nat} {x : Int} (hs : (!Nat.beq a 7) = true) : qr (wr h a j x) = qr h :=
  funext fun i => wr_ne (beq_no hs)
theorem qn_wr {h : Hp} {a j : Nat} {x : Int} (hs : (!Nat.beq a 6) = true) : qn (wr h a j x) = qn h := by
  unfold qn
  rw [wr_ne (beq_no hs)]
def isBl (b : Int) : Bool := decide (b = 32) || decide (b = 9)
def isSg (b : Int) : Bool := isBl b || (decide (b = 40) || (decide (b = 41) || decide (b = 34)))
def isDg (b : Int) : Bool := decide (48 ≤ b) && decide (b ≤ 57)
def noSg (b : Int) : Bool := !(isSg b)
def noQu (b : Int) : Bool := !(decide (b = 34))
/-- on while P holds -/
def skF (P : Int → Bool) (r : QB) (n : Nat) : Nat → Nat → Nat
  | 0, p => p
  | f + 1, p => match Nat.blt p n && P (r p) with
    | true => skF P r n f (p + 1)
    | false => p
def skp (P : Int → Bool) (r : QB) (n p : Nat) : Nat := skF P r n (n - p) p
section SKP
variable {P : Int → Bool} {r : QB} {n p : Nat}
theorem skp_more (h : p < n) (hP : P (r p) = true) : skp P r n p = skp P r n (p + 1) := by
  unfold skp
  rw [show n - p = n - (p + 1) + 1 by omega]
  show (match Nat.blt p n && P (r p) with | true => skF P r n (n - (p + 1)) (p + 1) | false => p) = _
  rw [Nat.blt_eq.mpr h, hP]
  rfl
theorem skp_end (h : n ≤ p ∨ P (r p) = false) : skp P r n p = p := by
  unfold skp
  cases hn : n - p with
  | zero => rfl
  | succ f =>
    show (match Nat.blt p n && P (r p) with | true => skF P r n f (p + 1) | false => p) = p
    rcases h with h | h
    · omega
    · rw [h, Bool.and_false]
theorem skF_ge : ∀ (f p : Nat), p ≤ skF P r n f p
  | 0, p => Nat.le_refl p
  | f + 1, p => by
    show p ≤ (match Nat.blt p n && P (r p) with | true => skF P r n f (p + 1) | false => p)
    cases Nat.blt p n && P (r p) with
    | true => exact Nat.le_trans (Nat.le_succ p) (skF_ge f (p + 1))
    | false => exact Nat.le_refl p
theorem skp_ge : p ≤ skp P r n p := skF_ge _ _
theorem skF_le : ∀ (f p : Nat), p ≤ n → skF P r n f p ≤ n
  | 0, p, h => h
  | f + 1, p, h => by
    show (match Nat.blt p n && P (r p) with | true => skF P r n f (p + 1) | false => p) ≤ n
    cases hb : Nat.blt p n && P (r p) with
    | true =>
      rw [Bool.and_eq_true] at hb
      exact skF_le f (p + 1) (Nat.blt_eq.mp hb.1)
    | false => exact h
theorem skp_le (h : p ≤ n) : skp P r n p ≤ n := skF_le _ _ h
theorem skF_stop : ∀ (f p : Nat), n ≤ p + f → skF P r n f p < n → P (r (skF P r n f p)) = false
  | 0, p, h, hl => by
    have hl : p < n := hl
    omega
  | f + 1, p, h, hl => by
    have e : skF P r n (f + 1) p = (match Nat.blt p n && P (r p) with | true => skF P r n f (p + 1) | false => p) := rfl
    rw [e] at hl ⊢
    cases hb : Nat.blt p n && P (r p) with
    | true =>
      rw [hb] at hl
      exact skF_stop f (p + 1) (by omega) hl
    | false =>
      rw [hb] at hl
      have hl : p < n := hl
      rw [Nat.blt_eq.mpr hl, Bool.true_and] at hb
      exact hb
theorem skp_stop (hl : skp P r n p < n) : P (r (skp P r n p)) = false := skF_stop _ _ (by omega) hl
theorem skF_in : ∀ (f p j : Nat), p ≤ j → j < skF P r n f p → P (r j) = true
  | 0, p, j, h1, h2 => by
    have h2 : j < p := h2
    omega
  | f + 1, p, j, h1, h2 => by
    have e : skF P r n (f + 1) p = (match Nat.blt p n && P (r p) with | true => skF P r n f (p + 1) | false => p) := rfl
    rw [e] at h2
    cases hb : Nat.blt p n && P (r p) with
    | true =>
      rw [hb] at h2
      by_cases hj : j = p
      · subst hj
        rw [Bool.and_eq_true] at hb
        exact hb.2
      · exact skF_in f (p + 1) j (by omega) h2
    | false =>
      rw [hb] at h2
      have h2 : j < p := h2
      omega
theorem skp_in {j : Nat} (h1 : p ≤ j) (h2 : j < skp P r n p) : P (r j) = true := skF_in _ _ j h1 h2
theorem skp_gt (h : p < n) (hP : P (r p) = true) : p < skp P r n p := by
  rw [skp_more h hP]
  have : p + 1 ≤ skp P r n (p + 1) := skp_ge
  omega
end SKP
/-- where a phrase stops that begins at p -/
def phE0 (r : QB) (n p : Nat) : Int := if skp noQu r n p < n then (skp noQu r n p : Int) else -1
theorem phEE : ∃ f : QB → Nat → Nat → Int, f = phE0 := ⟨_, rfl⟩
noncomputable def phE : QB → Nat → Nat → Int := Classical.choose phEE
theorem phE_eq : phE = phE0 := Classical.choose_spec phEE
theorem phE_in (r : QB) (n p : Nat) : phE r n p = -1 ∨ (p ≤ phE r n p ∧ phE r n p < n) := by
  rw [phE_eq]; unfold phE0
  have : p ≤ skp noQu r n p := skp_ge
  by_cases h : skp noQu r n p < n
  · rw [if_pos h]; exact Or.inr (by omega)
  · rw [if_neg h]; exact Or.inl rfl
/-- the fields' names -/
def FN (f : Nat) : List Int := match f with
  | 0 => [102, 114, 111, 109, 58]
  | 1 => [116, 111, 58]
  | 2 => [115, 117, 98, 106, 101, 99, 116, 58]
  | 3 => [98, 111, 100, 121, 58]
  | 4 => [116, 97, 103, 58]
  | 5 => [105, 100, 58]
  | 6 => [116, 104, 114, 101, 97, 100, 58]
  | 7 => [100, 97, 116, 101, 58]
  | _ => []
/-- the text w stands at p -/
def mtA (r : QB) (p : Nat) (w : List Int) : Bool := (List.range w.length).all fun i => decide (r (p + i) = w.getD i 0)
def fdF (r : QB) (p e : Nat) : Nat → Nat → Nat
  | 0, _ => 8
  | k + 1, f => match Nat.ble (p + (FN f).length) e && mtA r p (FN f) with
    | true => f
    | false => fdF r p e k (f + 1)
/-- the field named at p, in a word that ends at e; 8: none -/
def fld0 (r : QB) (p e : Nat) : Nat := fdF r p e 8 0
theorem fldE : ∃ f : QB → Nat → Nat → Nat, f = fld0 := ⟨_, rfl⟩
noncomputable def fld : QB → Nat → Nat → Nat := Classical.choose fldE
theorem fld_eq : fld = fld0 := Classical.choose_spec fldE
def isW (r : QB) (p e : Nat) (w : List Int) : Bool := Nat.beq (e - p) w.length && mtA r p w
def wOR : List Int := [111, 114]
def wAND : List Int := [97, 110, 100]
def wNOT : List Int := [110, 111, 116]
def numOK (r : QB) (a b : Nat) : Bool := Nat.ble 1 (b - a) && (Nat.ble (b - a) 9 && (List.range (b - a)).all fun i => isDg (r (a + i)))
/-- what k digits at a tell -/
def nv (r : QB) (a : Nat) : Nat → Int
  | 0 => 0
  | k + 1 => 10 * nv r a k + (r (a + k) - 48)
def mD (y m : Int) : Int := if m = 2 then (if y % 4 = 0 ∧ (y % 100 ≠ 0 ∨ y % 400 = 0) then 29 else 28) else if m = 4 ∨ m = 6 ∨ m = 9 ∨ m = 11 then 30 else 31
def dayOK (r : QB) (a : Nat) : Bool := (List.range 8).all (fun i => isDg (r (a + i))) && (decide (1 ≤ nv r (a + 4) 2 ∧ nv r (a + 4) 2 ≤ 12) && decide (1 ≤ nv r (a + 6) 2 ∧ nv r (a + 6) 2 ≤ mD (nv r a 4) (nv r (a + 4) 2)))
def wDD : List Int := [46, 46]
def datOK0 (r : QB) (a b : Nat) : Bool :=
  (Nat.beq (b - a) 10 && (mtA r a wDD && dayOK r (a + 2))) ||
  ((Nat.beq (b - a) 10 && (!(mtA r a wDD) && (mtA r (a + 8) wDD && dayOK r a))) ||
  (Nat.beq (b - a) 18 && (mtA r (a + 8) wDD && (dayOK r a && dayOK r (a + 10)))))
theorem datOKE : ∃ f : QB → Nat → Nat → Bool, f = datOK0 := ⟨_, rfl⟩
noncomputable def datOK : QB → Nat → Nat → Bool := Classical.choose datOKE
theorem datOK_eq : datOK = datOK0 := Classical.choose_spec datOKE
/-- a term at p, in a word that ends at e: where it stops, -1 if it is none -/
noncomputable def oneQ0 (r : QB) (n p e : Nat) : Int :=
  if r p = 34 then (if phE r n (p + 1) = -1 then -1 else phE r n (p + 1) + 1)
  else if fld r p e = 8 then e
  else if p + (FN (fld r p e)).length = e then (if fld r p e < 4 ∧ e < n ∧ r e = 34 then (if phE r n (e + 1) = -1 then -1 else phE r n (e + 1) + 1) else -1)
  else if (fld r p e = 6 ∧ numOK r (p + (FN (fld r p e)).length) e = false) ∨ (fld r p e = 7 ∧ datOK r (p + (FN (fld r p e)).length) e = false) then -1
  else e
theorem oneQE : ∃ f : QB → Nat → Nat → Nat → Int, f = oneQ0 := ⟨_, rfl⟩
noncomputable def oneQ : QB → Nat → Nat → Nat → Int := Classical.choose oneQE
theorem oneQ_eq : oneQ = oneQ0 := Classical.choose_spec oneQE
/-- where the query is refused that is read from p on, with o open, behind a term (b), any sign read (a); -1: nowhere -/
noncomputable def pqF (r : QB) (n : Nat) : Nat → Nat → Nat → Bool → Bool → Int
  | 0, _, o, b, a => if a = true ∧ (b = false ∨ 0 < o) then n else -1
  | k + 1, p, o, b, a =>
    if n ≤ p then (if a = true ∧ (b = false ∨ 0 < o) then n else -1)
    else if isBl (r p) = true then pqF r n k (p + 1) o b a
    else if r p = 41 then (if b = false ∨ o = 0 then p else pqF r n k (p + 1) (o - 1) true true)
    else if isW r p (skp noSg r n p) wOR = true ∨ isW r p (skp noSg r n p) wAND = true then (if b = false then p else pqF r n k (skp noSg r n p) o false true)
    else if r p = 40 then (if o = 20 then p else pqF r n k (p + 1) (o + 1) false true)
    else if isW r p (skp noSg r n p) wNOT = true then pqF r n k (skp noSg r n p) o false true
    else if oneQ r n p (skp noSg r n p) = -1 then p
    else pqF r n k (oneQ r n p (skp noSg r n p)).toNat o true true
theorem isW_len {r : QB} {p e : Nat} {w : List Int} (h : isW r p e w = true) : e - p = w.length := by
  unfold isW at h
  rw [Bool.and_eq_true] at h
  exact Nat.eq_of_beq_eq_true h.1
theorem noSg_of {b : Int} (h1 : isBl b = false) (h2 : b ≠ 40) (h3 : b ≠ 41) (h4 : b ≠ 34) : noSg b = true := by
  unfold noSg isSg
  rw [h1]
  simp [h2, h3, h4]
theorem oneQ_in {r : QB} {n p : Nat} (hp : p < n) (h1 : isBl (r p) = false) (h2 : r p ≠ 40) (h3 : r p ≠ 41) : oneQ r n p (skp noSg r n p) = -1 ∨ (p < oneQ r n p (skp noSg r n p) ∧ oneQ r n p (skp noSg r n p) ≤ n) := by
  rw [oneQ_eq]; unfold oneQ0
  have hle : skp noSg r n p ≤ n := skp_le (by omega)
  by_cases hq : r p = 34
  · rw [if_pos hq]
    have := phE_in r n (p + 1)
    by_cases h : phE r n (p + 1) = -1
    · rw [if_pos h]; exact Or.inl rfl
    · rw [if_neg h]; exact Or.inr (by omega)
  · rw [if_neg hq]
    have hgt : p < skp noSg r n p := skp_gt hp (noSg_of h1 h2 h3 hq)
    generalize skp noSg r n p = e at hle hgt
    split
    · exact Or.inr (by omega)
    · split
      · split
        · have := phE_in r n (e + 1)
          by_cases h : phE r n (e + 1) = -1
          · rw [if_pos h]; exact Or.inl rfl
          · rw [if_neg h]; exact Or.inr (by omega)
        · exact Or.inl rfl
      · split
        · exact Or.inl rfl
        · exact Or.inr (by omega)
/-- more turns than there are bytes left change nothing -/
theorem pqF_fuel {r : QB} {n : Nat} : ∀ (k k' p o : Nat) (b a : Bool), n + 1 ≤ p + k → n + 1 ≤ p + k' → pqF r n k p o b a = pqF r n k' p o b a
  | 0, k', p, o, b, a, h1, h2 => by
    cases k' with
    | zero => rfl
    | succ k' =>
      show (if a = true ∧ (b = false ∨ 0 < o) then (n : Int) else -1) = pqF r n (k' + 1) p o b a
      unfold pqF
      rw [if_pos (show n ≤ p by omega)]
  | k + 1, 0, p, o, b, a, h1, h2 => by
    show pqF r n (k + 1) p o b a = (if a = true ∧ (b = false ∨ 0 < o) then (n : Int) else -1)
    unfold pqF
    rw [if_pos (show n ≤ p by omega)]
  | k + 1, k' + 1, p, o, b, a, h1, h2 => by
    unfold pqF
    by_cases c1 : n ≤ p
    · rw [if_pos c1, if_pos c1]
    rw [if_neg c1, if_neg c1]
    by_cases c2 : isBl (r p) = true
    · rw [if_pos c2, if_pos c2]; exact pqF_fuel k k' _ _ _ _ (by omega) (by omega)
    rw [if_neg c2, if_neg c2]
    by_cases c3 : r p = 41
    · rw [if_pos c3, if_pos c3, pqF_fuel k k' (p + 1) (o - 1) true true (by omega) (by omega)]
    rw [if_neg c3, if_neg c3]
    have hge : p ≤ skp noSg r n p := skp_ge
    by_cases c4 : isW r p (skp noSg r n p) wOR = true ∨ isW r p (skp noSg r n p) wAND = true
    · have hl : 2 ≤ skp noSg r n p - p := by
        rcases c4 with c4 | c4
        · have := isW_len c4; have e : wOR.length = 2 := rfl; omega
        · have := isW_len c4; have e : wAND.length = 3 := rfl; omega
      rw [if_pos c4, if_pos c4, pqF_fuel k k' (skp noSg r n p) o false true (by omega) (by omega)]
    rw [if_neg c4, if_neg c4]
    by_cases c5 : r p = 40
    · rw [if_pos c5, if_pos c5, pqF_fuel k k' (p + 1) (o + 1) false true (by omega) (by omega)]
    rw [if_neg c5, if_neg c5]
    by_cases c6 : isW r p (skp noSg r n p) wNOT = true
    · have := isW_len c6
      have e : wNOT.length = 3 := rfl
      rw [if_pos c6, if_pos c6, pqF_fuel k k' (skp noSg r n p) o false true (by omega) (by omega)]
    rw [if_neg c6, if_neg c6]
    have ho := oneQ_in (by omega : p < n) (by simpa using c2) c5 c3
    by_cases c7 : oneQ r n p (skp noSg r n p) = -1
    · rw [if_pos c7, if_pos c7]
    · rw [if_neg c7, if_neg c7]
      exact pqF_fuel k k' _ _ _ _ (by omega) (by omega)
noncomputable def pq (r : QB) (n p o : Nat) (b a : Bool) : Int := pqF r n (n + 1 - p) p o b a
theorem pq_eq {r : QB} {n p o : Nat} {b a : Bool} : pq r n p o b a =
    if n ≤ p then (if a = true ∧ (b = false ∨ 0 < o) then (n : Int) else -1)
    else if isBl (r p) = true then pq r n (p + 1) o b a
    else if r p = 41 then (if b = false ∨ o = 0 then (p : Int) else pq r n (p + 1) (o - 1) true true)
    else if isW r p (skp noSg r n p) wOR = true ∨ isW r p (skp noSg r n p) wAND = true then (if b = false then (p : Int) else pq r n (skp noSg r n p) o false true)
    else if r p = 40 then (if o = 20 then (p : Int) else pq r n (p + 1) (o + 1) false true)
    else if isW r p (skp noSg r n p) wNOT = true then pq r n (skp noSg r n p) o false true
    else if oneQ r n p (skp noSg r n p) = -1 then (p : Int)
    else pq r n (oneQ r n p (skp noSg r n p)).toNat o true true := by
  have e : pq r n p o b a = pqF r n (n + 1) p o b a := pqF_fuel _ _ _ _ _ _ (by omega) (by omega)
  have f : ∀ p' o' b' a', p < p' → pqF r n n p' o' b' a' = pq r n p' o' b' a' := fun p' o' b' a' h => pqF_fuel _ _ _ _ _ _ (by omega) (by omega)
  rw [e]
  unfold pqF
  by_cases c1 : n ≤ p
  · rw [if_pos c1, if_pos c1]
  rw [if_neg c1, if_neg c1]
  by_cases c2 : isBl (r p) = true
  · rw [if_pos c2, if_pos c2]; exact f _ _ _ _ (by omega)
  rw [if_neg c2, if_neg c2]
  by_cases c3 : r p = 41
  · rw [if_pos c3, if_pos c3, f _ _ _ _ (by omega)]
  rw [if_neg c3, if_neg c3]
  have hge : p ≤ skp noSg r n p := skp_ge
  by_cases c4 : isW r p (skp noSg r n p) wOR = true ∨ isW r p (skp noSg r n p) wAND = true
  · have hl : 2 ≤ skp noSg r n p - p := by
      rcases c4 with c4 | c4
      · have := isW_len c4; have e : wOR.length = 2 := rfl; omega
      · have := isW_len c4; have e : wAND.length = 3 := rfl; omega
    rw [if_pos c4, if_pos c4, f _ _ _ _ (by omega)]
  rw [if_neg c4, if_neg c4]
  by_cases c5 : r p = 40
  · rw [if_pos c5, if_pos c5, f _ _ _ _ (by omega)]
  rw [if_neg c5, if_neg c5]
  by_cases c6 : isW r p (skp noSg r n p) wNOT = true
  · have := isW_len c6
    have e : wNOT.length = 3 := rfl
    rw [if_pos c6, if_pos c6, f _ _ _ _ (by omega)]
  rw [if_neg c6, if_neg c6]
  have ho := oneQ_in (by omega : p < n) (by simpa using c2) c5 c3
  by_cases c7 : oneQ r n p (skp noSg r n p) = -1
  · rw [if_pos c7, if_pos c7]
  · rw [if_neg c7, if_neg c7]
    exact f _ _ _ _ (by omega)
/-- blanks ahead change nothing -/
theorem pq_bl {r : QB} {n o : Nat} {b a : Bool} : ∀ (f p : Nat), n - p ≤ f → pq r n p o b a = pq r n (skp isBl r n p) o b a
  | 0, p, h => by rw [skp_end (Or.inl (by omega))]
  | f + 1, p, h => by
    by_cases c1 : p < n
    · by_cases c2 : isBl (r p) = true
      · rw [skp_more c1 c2, ← pq_bl f (p + 1) (by omega)]
        rw [pq_eq, if_neg (by omega), if_pos c2]
      · rw [skp_end (Or.inr (by simpa using c2))]
    · rw [skp_end (Or.inl (by omega))]
/-- only the bytes ahead of n count -/
theorem mtA_congr {r r' : QB} {p n : Nat} {w : List Int} (h : ∀ j, j < n → r j = r' j) (hp : p + w.length ≤ n) : mtA r p w = mtA r' p w := by
  unfold mtA
  rw [Bool.eq_iff_iff, List.all_eq_true, List.all_eq_true]
  constructor
  · intro q i hi
    have hi' := List.mem_range.mp hi
    rw [← h (p + i) (by omega)]
    exact q i hi
  · intro q i hi
    have hi' := List.mem_range.mp hi
    rw [h (p + i) (by omega)]
    exact q i hi
