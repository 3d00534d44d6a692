/-! An operation of one int whose result lies between two numbers. -/
def n_un (lo hi : Int) (n : Nat) : NF := fun s x => match x with
  | (_, L, st, h, k, z, kn, nxt) => match st with
    | [] => none
    | a :: r => match isI a && xBel nxt L r h k z kn with
      | false => none
      | true => some ([(n, L, symA nxt :: r, h, k, z, betF nxt lo hi ++ kn, nxt + 1)], s)
theorem n_un_ok {HB : Heap} {l : Launch} {cc : ByteArray} {nL : Nat} {own nm : String} {u : NU} {n0 pc n : Nat} {lo hi : Int} {f : Int32 → Int32} (hK : Keeps HB n0) (hu : cBel n0 u.1 = true ∧ cBel n0 u.2.1 = true) (hn : pc + 1 = n) (hf9 : ∀ x, lo ≤ (f x).toInt ∧ (f x).toInt ≤ hi)
    (row : ∀ (p : Program) (l : Launch) (e : Env) (R : Room) (s : State) (m : MethodId) (args : Array Value) (below : List Frame) (meth : Method) (c : Code) (H : Heap) (locs : List Loc) (cells slots : Nat) (Q : State → Prop) (ls : Array Slot) (rest : List Value) (x : Int32), p.tables.exec = Jvm.exec → c.code = cc →
      W p l e R s m args below meth c H locs cells slots Q (F0 m (pc + 1) ls (.int (f x) :: rest)) → W p l e R s m args below meth c H locs cells slots Q (F0 m pc ls (.int x :: rest))) : NFok HB l cc nL own nm u n0 pc (n_un lo hi n) := by
  intro s x ls s' hpc hf n9 h1 h2
  obtain ⟨pc0, L, st, h, k, z, kn, nxt⟩ := x
  have hpc : pc0 = pc := hpc
  subst hpc hn
  rcases st with _ | ⟨a, r⟩
  · cases hf
  simp only [n_un] at hf
  cases hi9 : isI a && xBel nxt L r h k z kn with
  | false => rw [hi9] at hf; cases hf
  | true =>
    rw [hi9] at hf
    cases hf
    rw [Bool.and_eq_true] at hi9
    have hP : PInt cc pc0 (pc0 + 1) (a :: r) r (fun g => f (gI g a)) := by
      intro g p l e R s m args below meth c H locs cells slots Q ls hx hb kk
      rw [List.map_cons, cV_I hi9.1]
      exact row p l e R s m args below meth c H locs cells slots Q ls _ _ hx hb kk
    refine NSnd.int hP (keeps_mono hK h1) ⟨cBel_mono hu.1 h1, cBel_mono hu.2 h1⟩ h2 hi9.2 (fun g _ => ?_)
    have hv : gS (setS g nxt (toN (f (gI g a)))) nxt = f (gI g a) := by
      unfold gS
      rw [setS_at, nI_toN]
    have hbt := hf9 (gI g a)
    exact betF_ok (by rw [hv]; exact hbt.1) (by rw [hv]; exact hbt.2)
