/-! One step or another, tables, and operations of which the result's bounds alone are known. -/
def n_or (f f2 : NF) : NF := fun s x => match f s x with
  | some r => some r
  | none => f2 s x
section TBL
variable {HB : Heap} {l : Launch} {cc : ByteArray} {nL : Nat} {own nm : String} {u : NU} {n0 pc : Nat}
theorem n_or_ok {f f2 : NF} (h : NFok HB l cc nL own nm u n0 pc f) (h2 : NFok HB l cc nL own nm u n0 pc f2) : NFok HB l cc nL own nm u n0 pc (n_or f f2) := by
  intro s x ls s' hpc hf n h1 h3
  unfold n_or at hf
  cases hr : f s x with
  | some r =>
    rw [hr] at hf
    cases hf
    exact h s x ls s' hpc hr n h1 h3
  | none =>
    rw [hr] at hf
    exact h2 s x ls s' hpc hf n h1 h3
theorem tok_nil : TOK HB l cc nL own nm u n0 [] := fun q hq => by cases hq
theorem tok_cons {f : NF} {T : List (Nat × NF)} (h : NFok HB l cc nL own nm u n0 pc f) (t : TOK HB l cc nL own nm u n0 T) : TOK HB l cc nL own nm u n0 ((pc, f) :: T) := by
  intro q hq
  rcases List.mem_cons.mp hq with rfl | hq
  · exact h
  · exact t q hq
end TBL
/-- any operation of two ints: a fresh symbol of which nothing is known -/
def n_any2 (n : Nat) : NF := fun s x => match x with
  | (_, L, st, h, k, z, kn, nxt) => match st with
    | b :: a :: r => match isI a && (isI b && xBel nxt L r h k z kn) with
      | false => none
      | true => some ([(n, L, symA nxt :: r, h, k, z, rangeF nxt ++ kn, nxt + 1)], s)
    | _ => none
theorem n_any2_ok {HB : Heap} {l : Launch} {cc : ByteArray} {nL : Nat} {own nm : String} {u : NU} {n0 pc n : Nat} {f : Int32 → Int32 → Int32} (hK : Keeps HB n0) (hu : cBel n0 u.1 = true ∧ cBel n0 u.2.1 = true) (hn : pc + 1 = n)
    (row : ∀ (p : Program) (l : Launch) (e : Env) (R : Room) (s : State) (m : MethodId) (args : Array Value) (below : List Frame) (meth : Method) (c : Code) (H : Heap) (locs : List Loc) (cells slots : Nat) (Q : State → Prop) (ls : Array Slot) (rest : List Value) (x y : Int32), p.tables.exec = Jvm.exec → c.code = cc →
      W p l e R s m args below meth c H locs cells slots Q (F0 m (pc + 1) ls (.int (f x y) :: rest)) → W p l e R s m args below meth c H locs cells slots Q (F0 m pc ls (.int y :: .int x :: rest))) : NFok HB l cc nL own nm u n0 pc (n_any2 n) := by
  intro s x ls s' hpc hf n9 h1 h2
  obtain ⟨pc0, L, st, h, k, z, kn, nxt⟩ := x
  have hpc : pc0 = pc := hpc
  subst hpc hn
  rcases st with _ | ⟨b, _ | ⟨a, r⟩⟩
  · cases hf
  · cases hf
  simp only [n_any2] at hf
  cases hi : isI a && (isI b && xBel nxt L r h k z kn) with
  | false => rw [hi] at hf; cases hf
  | true =>
    rw [hi] at hf
    cases hf
    rw [Bool.and_eq_true, Bool.and_eq_true] at hi
    have hP : PInt cc pc0 (pc0 + 1) (b :: a :: r) r (fun g => f (gI g a) (gI g b)) := by
      intro g p l e R s m args below meth c H locs cells slots Q ls hx hb kk
      rw [List.map_cons, List.map_cons, cV_I hi.1, cV_I hi.2.1]
      exact row p l e R s m args below meth c H locs cells slots Q ls _ _ _ hx hb kk
    exact NSnd.int hP (keeps_mono hK h1) ⟨cBel_mono hu.1 h1, cBel_mono hu.2 h1⟩ h2 hi.2.2 (fun g _ => rangeF_ok _ nxt)
theorem n_mul_ok {HB : Heap} {l : Launch} {cc : ByteArray} {nL : Nat} {own nm : String} {u : NU} {n0 pc n : Nat} (hK : Keeps HB n0) (hu : cBel n0 u.1 = true ∧ cBel n0 u.2.1 = true) (hd : decode cc pc = .ok (.imul, 1)) (hn : pc + 1 = n) : NFok HB l cc nL own nm u n0 pc (n_any2 n) := n_any2_ok hK hu hn fun _ _ _ _ _ _ _ _ _ _ _ _ _ _ _ _ _ _ _ hx hb k => lv_imul hx hb hd k
/-- and with a known mask: between 0 and the mask -/
theorem and_between (x : Int32) {m : Nat} (hm : m < 2147483648) : 0 ≤ (x &&& nI m).toInt ∧ (x &&& nI m).toInt ≤ (m : Int) := by
  have e : (x &&& nI m).toBitVec.toNat = x.toBitVec.toNat &&& (nI m).toBitVec.toNat := by
    show (x.toBitVec &&& (nI m).toBitVec).toNat = _
    rw [BitVec.toNat_and]
  have e2 : (nI m).toBitVec.toNat = m := by
    show (BitVec.ofNat 32 m).toNat = m
    rw [BitVec.toNat_ofNat]
    omega
  have h1 : (x &&& nI m).toBitVec.toNat ≤ m := by
    rw [e, e2]
    exact Nat.and_le_right
  have h2 := BitVec.toInt_eq_toNat_cond (x &&& nI m).toBitVec
  have h3 : (x &&& nI m).toInt = (x &&& nI m).toBitVec.toInt := rfl
  rw [h3, h2]
  split <;> omega
def n_and (n : Nat) : NF := fun s x => match x with
  | (_, L, st, h, k, z, kn, nxt) => match st with
    | b :: a :: r => match b with
      | .inr _ => none
      | .inl m => match Nat.blt m 2147483648 && (isI a && xBel nxt L r h k z kn) with
        | false => none
        | true => some ([(n, L, symA nxt :: r, h, k, z, betF nxt 0 (m : Int) ++ kn, nxt + 1)], s)
    | _ => none
theorem n_and_ok {HB : Heap} {l : Launch} {cc : ByteArray} {nL : Nat} {own nm : String} {u : NU} {n0 pc n : Nat} (hK : Keeps HB n0) (hu : cBel n0 u.1 = true ∧ cBel n0 u.2.1 = true) (hd : decode cc pc = .ok (.iand, 1)) (hn : pc + 1 = n) : NFok HB l cc nL own nm u n0 pc (n_and n) := by
  intro s x ls s' hpc hf n9 h1 h2
  obtain ⟨pc0, L, st, h, k, z, kn, nxt⟩ := x
  have hpc : pc0 = pc := hpc
  subst hpc hn
  rcases st with _ | ⟨b, _ | ⟨a, r⟩⟩
  · cases hf
  · cases hf
  rcases b with m | b
  · simp only [n_and] at hf
    cases hi : Nat.blt m 2147483648 && (isI a && xBel nxt L r h k z kn) with
    | false => rw [hi] at hf; cases hf
    | true =>
      rw [hi] at hf
      cases hf
      rw [Bool.and_eq_true, Bool.and_eq_true] at hi
      have hm : m < 2147483648 := Nat.blt_eq.mp hi.1
      have hP : PInt cc pc0 (pc0 + 1) (.inl m :: a :: r) r (fun g => gI g a &&& nI m) := by
        intro g p l e R s m9 args below meth c H locs cells slots Q ls hx hb kk
        rw [List.map_cons, List.map_cons, cV_I hi.2.1]
        exact lv_iand hx hb hd kk
      refine NSnd.int hP (keeps_mono hK h1) ⟨cBel_mono hu.1 h1, cBel_mono hu.2 h1⟩ h2 hi.2.2 (fun g _ => ?_)
      have hv : gS (setS g nxt (toN (gI g a &&& nI m))) nxt = gI g a &&& nI m := by
        unfold gS
        rw [setS_at, nI_toN]
      have hbt := and_between (gI g a) hm
      exact betF_ok (by rw [hv]; exact hbt.1) (by rw [hv]; exact hbt.2)
  · cases hf
