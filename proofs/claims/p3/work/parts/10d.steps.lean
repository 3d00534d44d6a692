/-! Steps of the run with leaves: the old ones, branches, sums. -/
def NFok (HB : Heap) (l : Launch) (cc : ByteArray) (nL : Nat) (own nm : String) (u : NU) (n0 pc : Nat) (f : NF) : Prop :=
  ∀ (s : List Item) (x : NC) (ls : List NC) (s' : List Item), x.1 = pc → f s x = some (ls, s') → ∀ n, n0 ≤ n → n ≤ nx x → NSnd HB l cc nL own nm u n x ls
def noCall : CallF := fun _ _ _ _ _ _ _ => none
def nilC (cs : CSL) : Bool := match cs with
  | [] => true
  | _ :: _ => false
/-- a step of the old kind, that makes nothing and asks nothing -/
def n_old (u : NU) (f : FF) : NF := fun s x => match x with
  | (pc, L, st, h, k, z, kn, nxt) => match f noCall u.2.2.1 u.2.2.2 (pc, L, st, h, k, z, [], []) with
    | none => none
    | some (pc', L', st', h', k', z', _, cs') => match nilC cs' && (cEq k' k && cEq z' z) with
      | true => some ([(pc', L', st', h', k, z, kn, nxt)], s)
      | false => none
/-- what a question tells -/
def dif (a b : AV) : LinC := ladd (-1) (avL b) (avL a)
def less1 (l : LinC) : LinC := (l.1 - 1, l.2)
def linF (f : Nat) (t : Bool) (a b : AV) : List LinC := match f with
  | 0 => match t with
    | true => [dif a b, dif b a]
    | false => []
  | 1 => match t with
    | true => []
    | false => [dif a b, dif b a]
  | 2 => match t with
    | true => [less1 (dif b a)]
    | false => [dif a b]
  | 3 => match t with
    | true => [dif a b]
    | false => [less1 (dif b a)]
  | 4 => match t with
    | true => [less1 (dif a b)]
    | false => [dif b a]
  | 5 => match t with
    | true => [dif b a]
    | false => [less1 (dif a b)]
  | _ => []
theorem dif_ok {g : GG} {a b : AV} (ha : isI a = true) (hb : isI b = true) : lval (rho g) (dif a b) = (gI g a).toInt - (gI g b).toInt := by
  unfold dif
  rw [ladd_ok, avL_ok ha, avL_ok hb]
  omega
theorem less1_ok {g : GG} {l : LinC} : lval (rho g) (less1 l) = lval (rho g) l - 1 := by
  show l.1 - 1 + lev (rho g) l.2 = l.1 + lev (rho g) l.2 - 1
  omega
theorem linF_ok {g : GG} {f : Nat} {t : Bool} {a b : AV} (ha : isI a = true) (hb : isI b = true) (h : cnd f (gI g a) (gI g b) = t) : okl g (linF f t a b) := by
  have d1 := dif_ok (g := g) ha hb
  have d2 := dif_ok (g := g) hb ha
  have one : ∀ l : LinC, 0 ≤ lval (rho g) l → okl g [l] := fun l hl x hx => by rw [List.mem_singleton.mp hx]; exact hl
  have two : ∀ l l' : LinC, 0 ≤ lval (rho g) l → 0 ≤ lval (rho g) l' → okl g [l, l'] := fun l l' hl hl' x hx => by
    rcases List.mem_cons.mp hx with rfl | hx
    · exact hl
    · rw [List.mem_singleton.mp hx]; exact hl'
  have no : okl g [] := fun x hx => by cases hx
  rcases f with _ | _ | _ | _ | _ | _ | f
  · cases t with
    | true =>
      have e : gI g a = gI g b := of_decide_eq_true h
      rw [e] at d1 d2
      exact two _ _ (by omega) (by omega)
    | false => exact no
  · cases t with
    | true => exact no
    | false =>
      have e : gI g a = gI g b := by
        have h : (!decide (gI g a = gI g b)) = false := h
        cases hd : decide (gI g a = gI g b) with
        | true => exact of_decide_eq_true hd
        | false => rw [hd] at h; cases h
      rw [e] at d1 d2
      exact two _ _ (by omega) (by omega)
  · cases t with
    | true =>
      have e : gI g a < gI g b := of_decide_eq_true h
      rw [Int32.lt_iff_toInt_lt] at e
      exact one _ (by rw [less1_ok]; omega)
    | false =>
      have e : ¬ gI g a < gI g b := of_decide_eq_false h
      rw [Int32.lt_iff_toInt_lt] at e
      exact one _ (by omega)
  · cases t with
    | true =>
      have e : gI g b ≤ gI g a := of_decide_eq_true h
      rw [Int32.le_iff_toInt_le] at e
      exact one _ (by omega)
    | false =>
      have e : ¬ gI g b ≤ gI g a := of_decide_eq_false h
      rw [Int32.le_iff_toInt_le] at e
      exact one _ (by rw [less1_ok]; omega)
  · cases t with
    | true =>
      have e : gI g b < gI g a := of_decide_eq_true h
      rw [Int32.lt_iff_toInt_lt] at e
      exact one _ (by rw [less1_ok]; omega)
    | false =>
      have e : ¬ gI g b < gI g a := of_decide_eq_false h
      rw [Int32.lt_iff_toInt_lt] at e
      exact one _ (by omega)
  · cases t with
    | true =>
      have e : gI g a ≤ gI g b := of_decide_eq_true h
      rw [Int32.le_iff_toInt_le] at e
      exact one _ (by omega)
    | false =>
      have e : ¬ gI g a ≤ gI g b := of_decide_eq_false h
      rw [Int32.le_iff_toInt_le] at e
      exact one _ (by rw [less1_ok]; omega)
  · exact no
theorem okl_app {g : GG} {a b : List LinC} (h1 : okl g a) (h2 : okl g b) : okl g (a ++ b) := fun x hx => (List.mem_append.mp hx).elim (h1 x) (h2 x)
/-- both ways of a branch, those that can't be cut by a certificate: it.1 = 1 the way taken, 2 the other one -/
def forkL (it : Item) (y1 y2 : NC) : Option (List NC) := match it.1 with
  | 0 => some [y1, y2]
  | 1 => match it.2.1 with
    | c :: _ => match lcert (knOf y1) c (-1, []) with
      | true => some [y2]
      | false => none
    | [] => none
  | _ => match it.2.1 with
    | c :: _ => match lcert (knOf y2) c (-1, []) with
      | true => some [y1]
      | false => none
    | [] => none
section STP
variable {HB : Heap} {l : Launch} {cc : ByteArray} {nL : Nat} {own nm : String} {u : NU} {n0 pc : Nat}
theorem n_old_ok {f : FF} (hS : ∀ g : GG, Snd g HB l noCall cc nL own nm pc f) : NFok HB l cc nL own nm u n0 pc (n_old u f) := by
  intro s x ls s' hpc hf n _ _
  obtain ⟨pc0, L, st, h, k, z, kn, nxt⟩ := x
  have hpc : pc0 = pc := hpc
  subst hpc
  simp only [n_old] at hf
  cases hr : f noCall u.2.2.1 u.2.2.2 (pc0, L, st, h, k, z, [], []) with
  | none => rw [hr] at hf; cases hf
  | some r =>
    obtain ⟨pc', L', st', h', k', z', o', cs'⟩ := r
    rw [hr] at hf
    simp only at hf
    cases hb : nilC cs' && (cEq k' k && cEq z' z) with
    | false => rw [hb] at hf; cases hf
    | true =>
      rw [hb] at hf
      cases hf
      rw [Bool.and_eq_true, Bool.and_eq_true] at hb
      have e1 := cEq_ok hb.2.1
      have e2 := cEq_ok hb.2.2
      subst e1 e2
      rcases cs' with _ | ⟨q, t⟩
      · exact NSnd.old hS hr
      · cases hb.1
theorem NSnd.cutOne {n : Nat} {x : NC} {c : Cert} (h : lcert (knOf x) c (-1, []) = true) : NSnd HB l cc nL own nm u n x [] := by
  obtain ⟨pc, L, st, hh, k, z, kn, nn⟩ := x
  exact NSnd.cut h
theorem forkL_ok {n : Nat} {it : Item} {x y1 y2 : NC} {ls : List NC} (h : NSnd HB l cc nL own nm u n x [y1, y2]) (hf : forkL it y1 y2 = some ls) : NSnd HB l cc nL own nm u n x ls := by
  unfold forkL at hf
  split at hf
  · cases hf; exact h
  · split at hf
    · split at hf
      · rename_i hc
        cases hf
        refine h.trans fun y hy => ?_
        rcases List.mem_cons.mp hy with rfl | hy
        · exact (NSnd.cutOne hc).sub fun z hz => by cases hz
        · rw [List.mem_singleton.mp hy]; exact NSnd.self
      · cases hf
    · cases hf
  · split at hf
    · split at hf
      · rename_i hc
        cases hf
        refine h.trans fun y hy => ?_
        rcases List.mem_cons.mp hy with rfl | hy
        · exact NSnd.self
        · rw [List.mem_singleton.mp hy]
          exact (NSnd.cutOne hc).sub fun z hz => by cases hz
      · cases hf
    · cases hf
end STP
/-- a branch on one int that isn't known -/
def n_br1 (u : NU) (f t n : Nat) : NF := fun s x => match x with
  | (pc, L, st, h, k, z, kn, nxt) => match st with
    | [] => none
    | a :: r => match a with
      | .inl _ => n_old u (s_br1 f t n) s x
      | .inr b => match isI (.inr b) with
        | false => none
        | true => match s with
          | [] => none
          | it :: s1 => match forkL it (t, L, r, h, k, z, linF f true (.inr b) (.inl 0) ++ kn, nxt) (n, L, r, h, k, z, linF f false (.inr b) (.inl 0) ++ kn, nxt) with
            | none => none
            | some ls => some (ls, s1)
theorem n_br1_ok {HB : Heap} {l : Launch} {cc : ByteArray} {nL : Nat} {own nm : String} {u : NU} {n0 pc f t n : Nat} (hS : ∀ g : GG, Snd g HB l noCall cc nL own nm pc (s_br1 f t n)) : NFok HB l cc nL own nm u n0 pc (n_br1 u f t n) := by
  intro s x ls s' hpc hf n9 h1 h2
  obtain ⟨pc0, L, st, h, k, z, kn, nxt⟩ := x
  have hpc : pc0 = pc := hpc
  subst hpc
  rcases st with _ | ⟨a, r⟩
  · cases hf
  rcases a with v | b
  · have hf : n_old u (s_br1 f t n) s (pc0, L, .inl v :: r, h, k, z, kn, nxt) = some (ls, s') := hf
    exact n_old_ok (u := u) (n0 := n0) hS s _ ls s' rfl hf n9 h1 h2
  · simp only [n_br1] at hf
    cases hi : isI (.inr b) with
    | false => rw [hi] at hf; cases hf
    | true =>
      rw [hi] at hf
      simp only at hf
      rcases s with _ | ⟨it, s1⟩
      · cases hf
      simp only at hf
      cases hk : forkL it (t, L, r, h, k, z, linF f true (.inr b) (.inl 0) ++ kn, nxt) (n, L, r, h, k, z, linF f false (.inr b) (.inl 0) ++ kn, nxt) with
      | none => rw [hk] at hf; cases hf
      | some l1 =>
        rw [hk] at hf
        cases hf
        have f1 : s_br1 f t n noCall u.2.2.1 u.2.2.2 (pc0, L, .inr b :: r, h, k, z, [true], []) = some (t, L, r, h, k, z, [], [(f, .inr b, .inl 0, true)]) := by
          simp only [s_br1, hi]
        have f2 : s_br1 f t n noCall u.2.2.1 u.2.2.2 (pc0, L, .inr b :: r, h, k, z, [false], []) = some (n, L, r, h, k, z, [], [(f, .inr b, .inl 0, false)]) := by
          simp only [s_br1, hi]
        exact forkL_ok (NSnd.fork (q := (f, .inr b, .inl 0)) hS f1 f2 (fun g hok hc => okl_app (linF_ok hi rfl hc) hok) (fun g hok hc => okl_app (linF_ok hi rfl hc) hok)) hk
