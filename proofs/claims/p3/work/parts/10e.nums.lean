/-! Branches on two ints, sums, and results of which bounds alone are known. -/
def isK (a : AV) : Bool := match a with
  | .inl _ => true
  | .inr _ => false
def n_br2 (u : NU) (f t n : Nat) : NF := fun s x => match x with
  | (pc, L, st, h, k, z, kn, nxt) => match st with
    | b :: a :: r => match isK a && isK b with
      | true => n_old u (s_br2 f t n) s x
      | false => match isI a && isI b with
        | false => none
        | true => match s with
          | [] => none
          | it :: s1 => match forkL it (t, L, r, h, k, z, linF f true a b ++ kn, nxt) (n, L, r, h, k, z, linF f false a b ++ kn, nxt) with
            | none => none
            | some ls => some (ls, s1)
    | _ => none
theorem n_br2_ok {HB : Heap} {l : Launch} {cc : ByteArray} {nL : Nat} {own nm : String} {u : NU} {n0 pc f t n : Nat} (hS : ∀ g : GG, Snd g HB l noCall cc nL own nm pc (s_br2 f t n)) : NFok HB l cc nL own nm u n0 pc (n_br2 u f t n) := by
  intro s x ls s' hpc hf n9 h1 h2
  obtain ⟨pc0, L, st, h, k, z, kn, nxt⟩ := x
  have hpc : pc0 = pc := hpc
  subst hpc
  rcases st with _ | ⟨b, _ | ⟨a, r⟩⟩
  · cases hf
  · cases hf
  simp only [n_br2] at hf
  cases hkk : isK a && isK b with
  | true =>
    rw [hkk] at hf
    exact n_old_ok (u := u) (n0 := n0) hS s _ ls s' rfl hf n9 h1 h2
  | false =>
    rw [hkk] at hf
    simp only at hf
    cases hi : isI a && isI b with
    | false => rw [hi] at hf; cases hf
    | true =>
      rw [hi] at hf
      simp only at hf
      rcases s with _ | ⟨it, s1⟩
      · cases hf
      simp only at hf
      cases hk : forkL it (t, L, r, h, k, z, linF f true a b ++ kn, nxt) (n, L, r, h, k, z, linF f false a b ++ kn, nxt) with
      | none => rw [hk] at hf; cases hf
      | some l1 =>
        rw [hk] at hf
        cases hf
        have e : ∀ (o : List Bool), s_br2 f t n noCall u.2.2.1 u.2.2.2 (pc0, L, b :: a :: r, h, k, z, o, []) = (match isI a && isI b with
            | false => none
            | true => match o with
              | [] => none
              | true :: o' => some (t, L, r, h, k, z, o', [(f, a, b, true)])
              | false :: o' => some (n, L, r, h, k, z, o', [(f, a, b, false)])) := by
          intro o
          rcases a with x | a <;> rcases b with y | b
          · cases hkk
          · rfl
          · rfl
          · rfl
        have f1 := e [true]
        have f2 := e [false]
        rw [hi] at f1 f2
        have hi2 := hi
        rw [Bool.and_eq_true] at hi2
        exact forkL_ok (NSnd.fork (q := (f, a, b)) hS f1 f2 (fun g hok hc => okl_app (linF_ok hi2.1 hi2.2 hc) hok) (fun g hok hc => okl_app (linF_ok hi2.1 hi2.2 hc) hok)) hk
/-- a sum or a difference: known, or a fresh symbol that is it (two certificates that it is no too great number), or one of which nothing is known -/
def n_sum (u : NU) (fo : FF) (m : Int) (n : Nat) : NF := fun s x => match x with
  | (pc, L, st, h, k, z, kn, nxt) => match st with
    | b :: a :: r => match isK a && isK b with
      | true => n_old u fo s x
      | false => match isI a && (isI b && xBel nxt L r h k z kn) with
        | false => none
        | true => match s with
          | [] => none
          | it :: s1 => match it.2.1 with
            | c1 :: c2 :: _ => match inInt kn c1 c2 (ladd m (avL b) (avL a)) && tBel nxt (ladd m (avL b) (avL a)).2 with
              | true => some ([(n, L, symA nxt :: r, h, k, z, eqF nxt (ladd m (avL b) (avL a)) ++ kn, nxt + 1)], s1)
              | false => none
            | _ => some ([(n, L, symA nxt :: r, h, k, z, rangeF nxt ++ kn, nxt + 1)], s1)
    | _ => none
theorem n_add_ok {HB : Heap} {l : Launch} {cc : ByteArray} {nL : Nat} {own nm : String} {u : NU} {n0 pc n : Nat} {fo : FF} (hK : Keeps HB n0) (hu : cBel n0 u.1 = true ∧ cBel n0 u.2.1 = true) (hS : ∀ g : GG, Snd g HB l noCall cc nL own nm pc fo) (hd : decode cc pc = .ok (.iadd, 1)) (hn : pc + 1 = n) : NFok HB l cc nL own nm u n0 pc (n_sum u fo 1 n) := by
  intro s x ls s' hpc hf n9 h1 h2
  obtain ⟨pc0, L, st, h, k, z, kn, nxt⟩ := x
  have hpc : pc0 = pc := hpc
  subst hpc
  rcases st with _ | ⟨b, _ | ⟨a, r⟩⟩
  · cases hf
  · cases hf
  simp only [n_sum] at hf
  cases hkk : isK a && isK b with
  | true =>
    rw [hkk] at hf
    exact n_old_ok (u := u) (n0 := n0) hS s _ ls s' rfl hf n9 h1 h2
  | false =>
    rw [hkk] at hf
    simp only at hf
    cases hi : isI a && (isI b && xBel nxt L r h k z kn) with
    | false => rw [hi] at hf; cases hf
    | true =>
      rw [hi] at hf
      simp only at hf
      rw [Bool.and_eq_true, Bool.and_eq_true] at hi
      rcases s with _ | ⟨it, s1⟩
      · cases hf
      simp only at hf
      have hP := pint_iadd (r := r) hi.1 hi.2.1 hd hn
      have hK9 := keeps_mono hK h1
      have hu9 : cBel n9 u.1 = true ∧ cBel n9 u.2.1 = true := ⟨cBel_mono hu.1 h1, cBel_mono hu.2 h1⟩
      have rg : NSnd HB l cc nL own nm u n9 (pc0, L, b :: a :: r, h, k, z, kn, nxt) [(n, L, symA nxt :: r, h, k, z, rangeF nxt ++ kn, nxt + 1)] := NSnd.int hP hK9 hu9 h2 hi.2.2 (fun g _ => rangeF_ok _ nxt)
      rcases hc : it.2.1 with _ | ⟨c1, _ | ⟨c2, cs⟩⟩
      · rw [hc] at hf; cases hf; exact rg
      · rw [hc] at hf; cases hf; exact rg
      · rw [hc] at hf
        simp only at hf
        cases hq : inInt kn c1 c2 (ladd 1 (avL b) (avL a)) && tBel nxt (ladd 1 (avL b) (avL a)).2 with
        | false => rw [hq] at hf; cases hf
        | true =>
          rw [hq] at hf
          cases hf
          rw [Bool.and_eq_true] at hq
          refine NSnd.int hP hK9 hu9 h2 hi.2.2 (fun g hok => ?_)
          have e : gI g a + gI g b = gI g b + gI g a := Int32.add_comm _ _
          show okl (setS g nxt (toN (gI g a + gI g b))) _
          rw [e]
          exact sumF_ok hi.2.1 hi.1 rfl hq.2 hok hq.1
theorem n_sub_ok {HB : Heap} {l : Launch} {cc : ByteArray} {nL : Nat} {own nm : String} {u : NU} {n0 pc n : Nat} {fo : FF} (hK : Keeps HB n0) (hu : cBel n0 u.1 = true ∧ cBel n0 u.2.1 = true) (hS : ∀ g : GG, Snd g HB l noCall cc nL own nm pc fo) (hd : decode cc pc = .ok (.isub, 1)) (hn : pc + 1 = n) : NFok HB l cc nL own nm u n0 pc (n_sum u fo (-1) n) := by
  intro s x ls s' hpc hf n9 h1 h2
  obtain ⟨pc0, L, st, h, k, z, kn, nxt⟩ := x
  have hpc : pc0 = pc := hpc
  subst hpc
  rcases st with _ | ⟨b, _ | ⟨a, r⟩⟩
  · cases hf
  · cases hf
  simp only [n_sum] at hf
  cases hkk : isK a && isK b with
  | true =>
    rw [hkk] at hf
    exact n_old_ok (u := u) (n0 := n0) hS s _ ls s' rfl hf n9 h1 h2
  | false =>
    rw [hkk] at hf
    simp only at hf
    cases hi : isI a && (isI b && xBel nxt L r h k z kn) with
    | false => rw [hi] at hf; cases hf
    | true =>
      rw [hi] at hf
      simp only at hf
      rw [Bool.and_eq_true, Bool.and_eq_true] at hi
      rcases s with _ | ⟨it, s1⟩
      · cases hf
      simp only at hf
      have hP := pint_isub (r := r) hi.1 hi.2.1 hd hn
      have hK9 := keeps_mono hK h1
      have hu9 : cBel n9 u.1 = true ∧ cBel n9 u.2.1 = true := ⟨cBel_mono hu.1 h1, cBel_mono hu.2 h1⟩
      have rg : NSnd HB l cc nL own nm u n9 (pc0, L, b :: a :: r, h, k, z, kn, nxt) [(n, L, symA nxt :: r, h, k, z, rangeF nxt ++ kn, nxt + 1)] := NSnd.int hP hK9 hu9 h2 hi.2.2 (fun g _ => rangeF_ok _ nxt)
      rcases hc : it.2.1 with _ | ⟨c1, _ | ⟨c2, cs⟩⟩
      · rw [hc] at hf; cases hf; exact rg
      · rw [hc] at hf; cases hf; exact rg
      · rw [hc] at hf
        simp only at hf
        cases hq : inInt kn c1 c2 (ladd (-1) (avL b) (avL a)) && tBel nxt (ladd (-1) (avL b) (avL a)).2 with
        | false => rw [hq] at hf; cases hf
        | true =>
          rw [hq] at hf
          cases hf
          rw [Bool.and_eq_true] at hq
          exact NSnd.int hP hK9 hu9 h2 hi.2.2 (fun g hok => difF_ok hi.1 hi.2.1 rfl hq.2 hok hq.1)
