/-! A template fits: its inequalities, carried over to what its symbols stand for, follow from what is known. -/
def avL (a : AV) : LinC := match a with
  | .inl x => ((nI x).toInt, [])
  | .inr (.inl _) => (0, [])
  | .inr (.inr v) => match v with
    | .retAddr k => (0, [(k - 10, 1)])
    | _ => (0, [])
theorem avL_ok {g : GG} {a : AV} (h : isI a = true) : lval (rho g) (avL a) = (gI g a).toInt := by
  rcases a with x | x | v
  · show (nI x).toInt + 0 = (nI x).toInt
    omega
  · cases h
  · cases v <;> first | cases h | skip
    rename_i k
    show 0 + (1 * rho g (k - 10) + 0) = (gS g (k - 10)).toInt
    unfold rho
    omega
def lsubT (n : Nat) (sg : List AV) (t : List (Nat × Int)) : LinC := match t with
  | [] => (0, [])
  | q :: r => match lsubT n sg r with
    | (k, w) => match Nat.ble n q.1 with
      | false => (k, tins q.1 q.2 w)
      | true => match sg[q.1 - n]? with
        | none => (k, tins q.1 q.2 w)
        | some a => ladd q.2 (avL a) (k, w)
def lsub (n : Nat) (sg : List AV) (l : LinC) : LinC := match lsubT n sg l.2 with
  | (k, w) => (l.1 + k, w)
theorem rho_setL {g : GG} {n c : Nat} {sg : List AV} : rho (setL g n sg) c = (match Nat.ble n c with
    | false => rho g c
    | true => match sg[c - n]? with
      | none => rho g c
      | some a => (gI g a).toInt) := by
  cases hb : Nat.ble n c with
  | false =>
    have h1 : c < n := by
      rcases Nat.lt_or_ge c n with q | q
      · exact q
      · rw [Nat.ble_eq.mpr q] at hb; cases hb
    exact rho_ext (setL_ext g n sg) h1
  | true =>
    have h1 : n ≤ c := Nat.ble_eq.mp hb
    cases ha : sg[c - n]? with
    | some a => exact congrArg Int32.toInt (setL_at h1 ha)
    | none =>
      have hb2 : Nat.ble (2000 + n) (2000 + c) = true := Nat.ble_eq.mpr (Nat.add_le_add_left h1 2000)
      have e : (setL g n sg).2.1 (2000 + c) = g.2.1 (2000 + c) := by
        show (match Nat.ble (2000 + n) (2000 + c) with | false => g.2.1 (2000 + c) | true => match sg[2000 + c - (2000 + n)]? with | none => g.2.1 (2000 + c) | some a => toN (gI g a)) = g.2.1 (2000 + c)
        rw [hb2, show 2000 + c - (2000 + n) = c - n by omega, ha]
      have e2 : gS (setL g n sg) c = gS g c := congrArg nI e
      exact congrArg Int32.toInt e2
theorem lsubT_ok {g : GG} {n : Nat} {sg : List AV} (hs : ∀ a ∈ sg, isI a = true) : ∀ t : List (Nat × Int), lev (rho (setL g n sg)) t = lval (rho g) (lsubT n sg t)
  | [] => rfl
  | q :: r => by
    have ih := lsubT_ok (g := g) (n := n) hs r
    unfold lsubT
    cases hr : lsubT n sg r with
    | mk k w =>
      rw [hr] at ih
      simp only [lev]
      rw [ih, rho_setL]
      unfold lval
      simp only
      cases hb : Nat.ble n q.1 with
      | false =>
        simp only
        rw [tins_ok]
        omega
      | true =>
        simp only
        cases ha : sg[q.1 - n]? with
        | none =>
          simp only
          rw [tins_ok]
          omega
        | some a =>
          simp only
          have h1 := ladd_ok (rho g) q.2 (avL a) (k, w)
          have h2 := avL_ok (g := g) (hs a (List.mem_of_getElem? ha))
          rw [h2] at h1
          unfold lval at h1
          simp only at h1
          rw [h1]
theorem lsub_ok {g : GG} {n : Nat} {sg : List AV} (hs : ∀ a ∈ sg, isI a = true) (l : LinC) : lval (rho (setL g n sg)) l = lval (rho g) (lsub n sg l) := by
  have h1 := lsubT_ok (g := g) (n := n) hs l.2
  unfold lsub
  cases hr : lsubT n sg l.2 with
  | mk k w =>
    rw [hr] at h1
    unfold lval at h1 ⊢
    simp only at h1 ⊢
    rw [h1]
    omega
def fitK (n : Nat) (sg : List AV) (kn : List LinC) : List Cert → List LinC → Bool
  | _, [] => true
  | [], _ :: _ => false
  | c :: cs, l :: t => lcert kn c (lsub n sg l) && fitK n sg kn cs t
theorem fitK_ok {g : GG} {n : Nat} {sg : List AV} {kn : List LinC} (hs : ∀ a ∈ sg, isI a = true) (hk : okl g kn) : ∀ (ces : List Cert) (kn2 : List LinC), fitK n sg kn ces kn2 = true → okl (setL g n sg) kn2
  | _, [], _ => fun l hl => by cases hl
  | [], _ :: _, h => by cases h
  | c :: cs, l :: t, h => by
    unfold fitK at h
    rw [Bool.and_eq_true] at h
    intro x hx
    rcases List.mem_cons.mp hx with rfl | hx
    · have h1 : lok (rho g) (lsub n sg x) := lcert_ok hk h.1
      unfold lok at h1 ⊢
      rw [lsub_ok hs]
      exact h1
    · exact fitK_ok hs hk cs t h.2 x hx
def fitH (n : Nat) (sg : List AV) : List AE → List AE → Bool
  | [], [] => true
  | v :: t, w :: r => fitE n sg v w && fitH n sg t r
  | _, _ => false
theorem fitH_ok {g : GG} {n : Nat} {sg : List AV} : ∀ (h2 h : List AE) (b : Nat), fitH n sg h2 h = true → wsA (cE (setL g n sg)) b h2 = wsA (cE g) b h ∧ h2.length = h.length
  | [], [], _, _ => ⟨rfl, rfl⟩
  | [], _ :: _, _, h => by cases h
  | _ :: _, [], _, h => by cases h
  | v :: t, w :: r, b, h => by
    unfold fitH at h
    rw [Bool.and_eq_true] at h
    have ih := fitH_ok (g := g) t r (b + 1) h.2
    refine ⟨?_, ?_⟩
    · rw [wsA, wsA, fitE_ok (g := g) h.1, ih.1]
    · rw [List.length_cons, List.length_cons, ih.2]
def cEq (a b : Cnt) : Bool := Nat.beq a.1 b.1 && decide (a.2 = b.2)
/-- y fits the template x, whose symbols from n on are sg -/
def tfit (n : Nat) (sg : List AV) (ces : List Cert) (y x : NC) : Bool := match y, x with
  | (pc, L, st, h, k, z, kn, _), (pc2, L2, st2, h2, k2, z2, kn2, _) =>
    Nat.beq pc2 pc && (sg.all isI && (fitL n sg st2 st && (fitQ n sg L2 L && (fitH n sg h2 h && (cEq k2 k && (cEq z2 z && (cBel n k2 && (cBel n z2 && fitK n sg kn ces kn2))))))))
theorem cEq_ok {a b : Cnt} (h : cEq a b = true) : a = b := by
  unfold cEq at h
  rw [Bool.and_eq_true] at h
  obtain ⟨a1, a2⟩ := a
  obtain ⟨b1, b2⟩ := b
  have e1 := Nat.eq_of_beq_eq_true h.1
  have e2 := of_decide_eq_true h.2
  simp only at e1 e2
  rw [e1, e2]
def knOf (x : NC) : List LinC := x.2.2.2.2.2.2.1
theorem tfit_ok {HB : Heap} {u : NU} {n : Nat} {sg : List AV} {ces : List Cert} {y x : NC} (h : tfit n sg ces y x = true) {g : GG} (hk : okl g (knOf y)) : Fits HB u n y x g (setL g n sg) := by
  obtain ⟨pc, L, st, hh, k, z, kn, nn⟩ := y
  obtain ⟨pc2, L2, st2, h2, k2, z2, kn2, nn2⟩ := x
  have hk : okl g kn := hk
  simp only [tfit, Bool.and_eq_true] at h
  obtain ⟨w1, w2, w3, w4, w5, w6, w7, w8, w9, w10⟩ := h
  have hs : ∀ a ∈ sg, isI a = true := List.all_eq_true.mp w2
  have e6 := cEq_ok w6
  have e7 := cEq_ok w7
  subst e6 e7
  have he := setL_ext g n sg
  have c1 := cBel_ok w8 he
  have c2 := cBel_ok w9 he
  refine ⟨Nat.eq_of_beq_eq_true w1, he, fitK_ok hs hk ces kn2 w10, fitL_ok st2 st w3, fitQ_ok w4, Nat.le_of_eq c1.symm, Nat.le_of_eq c2.symm, Or.inr c1, Or.inr c2, fun H locs hR => ?_⟩
  obtain ⟨f1, f2⟩ := fitH_ok (g := g) h2 hh g.1 w5
  refine ⟨?_, hR.2.1, ?_, hR.2.2.2⟩
  · show szG g HB h2 H
    unfold szG
    rw [f2]
    exact hR.1
  · show va_P g.2.2.1 vwCl (wsA (cE (setL g n sg)) g.1 h2) H
    rw [f1]
    exact hR.2.2.1
