/-! Linear inequalities over symbols, and their certificates: what the walk by templates knows of numbers that aren't known. -/
/-- const + sum of m * symbol, said to be 0 or more -/
abbrev LinC : Type := Int × List (Nat × Int)
def lev (ρ : Nat → Int) (t : List (Nat × Int)) : Int := match t with
  | [] => 0
  | q :: r => q.2 * ρ q.1 + lev ρ r
def lval (ρ : Nat → Int) (l : LinC) : Int := l.1 + lev ρ l.2
def lok (ρ : Nat → Int) (l : LinC) : Prop := 0 ≤ lval ρ l
def tins (c : Nat) (m : Int) (t : List (Nat × Int)) : List (Nat × Int) := match t with
  | [] => [(c, m)]
  | q :: r => match Nat.beq q.1 c with
    | true => (q.1, q.2 + m) :: r
    | false => match Nat.blt c q.1 with
      | true => (c, m) :: q :: r
      | false => q :: tins c m r
theorem tins_ok (ρ : Nat → Int) (c : Nat) (m : Int) : ∀ t : List (Nat × Int), lev ρ (tins c m t) = m * ρ c + lev ρ t
  | [] => rfl
  | q :: r => by
    unfold tins
    cases h : Nat.beq q.1 c with
    | true =>
      have e := Nat.eq_of_beq_eq_true h
      simp only [lev]
      rw [e, Int.add_mul]
      omega
    | false =>
      simp only
      cases Nat.blt c q.1 with
      | true => rfl
      | false =>
        simp only [lev]
        rw [tins_ok ρ c m r]
        omega
/-- a multiple put upon -/
def tadd (m : Int) (a t : List (Nat × Int)) : List (Nat × Int) := match a with
  | [] => t
  | q :: r => tins q.1 (m * q.2) (tadd m r t)
theorem tadd_ok (ρ : Nat → Int) (m : Int) (t : List (Nat × Int)) : ∀ a : List (Nat × Int), lev ρ (tadd m a t) = m * lev ρ a + lev ρ t
  | [] => by simp [tadd, lev]
  | q :: r => by
    unfold tadd
    rw [tins_ok, tadd_ok ρ m t r]
    simp only [lev]
    rw [Int.mul_add, Int.mul_assoc]
    omega
def ladd (m : Int) (a b : LinC) : LinC := (m * a.1 + b.1, tadd m a.2 b.2)
theorem ladd_ok (ρ : Nat → Int) (m : Int) (a b : LinC) : lval ρ (ladd m a b) = m * lval ρ a + lval ρ b := by
  unfold lval ladd
  simp only
  rw [tadd_ok, Int.mul_add]
  omega
/-- a certificate: which of the known ones, how often -/
abbrev Cert : Type := List (Nat × Nat)
def lcomb (ls : List LinC) (c : Cert) : LinC := match c with
  | [] => (0, [])
  | q :: r => match ls[q.1]? with
    | none => lcomb ls r
    | some l => ladd (Int.ofNat q.2) l (lcomb ls r)
theorem lcomb_ok {ρ : Nat → Int} {ls : List LinC} (h : ∀ l ∈ ls, lok ρ l) : ∀ c : Cert, lok ρ (lcomb ls c)
  | [] => by
    show (0 : Int) ≤ 0 + 0
    omega
  | q :: r => by
    unfold lcomb
    cases hq : ls[q.1]? with
    | none => exact lcomb_ok h r
    | some l =>
      show (0 : Int) ≤ lval ρ (ladd (Int.ofNat q.2) l (lcomb ls r))
      rw [ladd_ok]
      have h1 : 0 ≤ lval ρ l := h l (List.mem_of_getElem? hq)
      have h2 : 0 ≤ lval ρ (lcomb ls r) := lcomb_ok h r
      have h3 : 0 ≤ Int.ofNat q.2 * lval ρ l := Int.mul_nonneg (Int.natCast_nonneg q.2) h1
      omega
def isNN (n : Int) : Bool := match n with
  | .ofNat _ => true
  | .negSucc _ => false
def is0 (n : Int) : Bool := match n with
  | .ofNat k => Nat.beq k 0
  | .negSucc _ => false
theorem isNN_ok {n : Int} (h : isNN n = true) : 0 ≤ n := by
  cases n with
  | ofNat k => exact Int.natCast_nonneg k
  | negSucc k => cases h
theorem is0_ok {n : Int} (h : is0 n = true) : n = 0 := by
  cases n with
  | ofNat k => rw [Nat.eq_of_beq_eq_true h]; rfl
  | negSucc k => cases h
/-- one by the certificate no less than what is asked -/
def lcert (ls : List LinC) (c : Cert) (goal : LinC) : Bool := match ladd (-1) (lcomb ls c) goal with
  | (k, t) => isNN k && t.all (fun q => is0 q.2)
theorem lev0 (ρ : Nat → Int) : ∀ t : List (Nat × Int), t.all (fun q => is0 q.2) = true → lev ρ t = 0
  | [], _ => rfl
  | q :: r, h => by
    rw [List.all_cons, Bool.and_eq_true] at h
    simp only [lev]
    rw [is0_ok h.1, lev0 ρ r h.2]
    omega
theorem lcert_ok {ρ : Nat → Int} {ls : List LinC} (h : ∀ l ∈ ls, lok ρ l) {c : Cert} {goal : LinC} (hc : lcert ls c goal = true) : lok ρ goal := by
  have h1 : 0 ≤ lval ρ (lcomb ls c) := lcomb_ok h c
  have h2 := ladd_ok ρ (-1) (lcomb ls c) goal
  have h3 : 0 ≤ lval ρ (ladd (-1) (lcomb ls c) goal) := by
    unfold lcert at hc
    cases hl : ladd (-1) (lcomb ls c) goal with
    | mk k t =>
      rw [hl] at hc
      simp only at hc
      rw [Bool.and_eq_true] at hc
      have e1 := isNN_ok hc.1
      have e2 := lev0 ρ t hc.2
      unfold lval
      simp only
      rw [e2]
      omega
  show 0 ≤ lval ρ goal
  omega
/-- a list that can't be: 0 or more of it is less than 0 -/
theorem lcert_no {ρ : Nat → Int} {ls : List LinC} (h : ∀ l ∈ ls, lok ρ l) {c : Cert} (hc : lcert ls c (-1, []) = true) : False := by
  have h1 : 0 ≤ lval ρ (-1, []) := lcert_ok h hc
  have h2 : lval ρ (-1, []) = -1 := rfl
  omega
theorem lin_test : lcert [(3, [(0, 1), (2, -2)]), (0, [(2, 1)])] [(0, 1), (1, 2)] (5, [(0, 1)]) = true := by decide +kernel
