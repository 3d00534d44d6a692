/-! A reference into an array of Objects; a copy of no ints. -/
section REF
variable {g : GG} {HB : Heap} {l : Launch} {M : Nat → Option MD} {call : CallF} {cc : ByteArray} {nL : Nat} {own nm : String} {pc n id w np idx : Nat} {d : MD} {ci : Nat} {C : String} {T : u_T} {N : Nat}
def s_aast (ci n : Nat) : FF := fun _ _ _ c => match c with
  | (_, L, st, h, kk, z, o, cs) => match st with
    | w :: .inl j :: a :: r => match rOf a, rOf w with
      | some q, some qw => match h[q]?, h[qw]? with
        | some (.inl (t, m, u)), some (.inr (cj, _)) => match Nat.beq t 4 && (Nat.blt j m && (Nat.blt j 2147483648 && Nat.beq ci cj)) with
          | true => fzs (h.set q (.inl (4, m, (j, w) :: u))) (fun h' => some (n, L, r, h', kk, z, o, cs))
          | false => none
        | _, _ => none
      | _, _ => none
    | _ => none
theorem cQ_cons {j q : Nat} {v : AV} {u : List (Nat × AV)} : va_rf (cQ g ((j, v) :: u) q) = if q = j then va_rf (gQ g v) else va_rf (cQ g u q) := by
  unfold cQ
  rw [alk_cons]
  by_cases h : q = j
  · rw [if_pos h, if_pos h]
  · rw [if_neg h, if_neg h]
theorem h_aast (hc : vwCl[ci]? = some (C, T, N)) (hca : Cond.castable C "java/lang/Object" ∈ nwL) (hd : decode cc pc = .ok (.aastore, 1)) (hn : pc + 1 = n) : Snd g HB l call cc nL own nm pc (s_aast ci n) := by
  intro fr lo L st h kk z o cs pc' L' st' h' k' z' o' cs' hf
  subst hn
  rcases st with _ | ⟨w, _ | ⟨i, _ | ⟨a, r⟩⟩⟩
  · cases hf
  · cases hf
  · rcases i with i | i <;> cases hf
  rcases i with j | i
  · simp only [s_aast] at hf
    cases ha : rOf a with
    | none => rw [ha] at hf; cases hf
    | some q =>
      cases hw : rOf w with
      | none => rw [ha, hw] at hf; cases hf
      | some qw =>
        rw [ha, hw] at hf
        simp only at hf
        cases hq : h[q]? with
        | none => rw [hq] at hf; cases hf
        | some c1 =>
          cases hqw : h[qw]? with
          | none => rw [hq, hqw] at hf; rcases c1 with ⟨t, m, u⟩ | c1 <;> cases hf
          | some c2 =>
            rw [hq, hqw] at hf
            rcases c1 with ⟨t, m, u⟩ | c1
            · rcases c2 with c2 | ⟨cj, fs⟩
              · cases hf
              · simp only at hf
                cases hb0 : Nat.beq t 4 && (Nat.blt j m && (Nat.blt j 2147483648 && Nat.beq ci cj)) with
                | false => rw [hb0] at hf; cases hf
                | true =>
                  rw [hb0] at hf
                  simp only [fzs_eq] at hf
                  rw [Bool.and_eq_true, Bool.and_eq_true, Bool.and_eq_true] at hb0
                  have e1 := Nat.eq_of_beq_eq_true hb0.1
                  have e4 := Nat.eq_of_beq_eq_true hb0.2.2.2
                  have h1 : j < m := Nat.blt_eq.mp hb0.2.1
                  have h2 : j < 2147483648 := Nat.blt_eq.mp hb0.2.2.1
                  subst e1
                  subst e4
                  rw [rOf_eq ha, rOf_eq hw] at *
                  cases hf
                  refine ⟨⟨List.suffix_refl _, Nat.le_refl _, Nat.le_refl _⟩, fun _ p e R s m0 args below meth c Q H locs ls hC _ _ _ _ hR hl kk => ?_⟩
                  obtain ⟨⟨hx, hb, hml, hown, hts⟩, hA, -⟩ := hC
                  obtain ⟨r', hr', cellV, g1, g2, g3, -⟩ := hR.get hqw
                  have hcls := (hA.1.1 ci _ hc).2
                  obtain ⟨kA, comp, k1, k2, k3, -⟩ := (hA.1.2 4 _ rfl).2
                  obtain ⟨kE, hkE, -⟩ := Vm.findClass_spec k3
                  obtain ⟨c0, t1, f1, f2, f3⟩ := Cond.castable_spec (va_Nw.use (A := args) rfl (hA.2.1 _ hca))
                  cases hcls.1.symm.trans f1
                  cases k3.symm.trans f2
                  obtain ⟨kC, hkC, -⟩ := hcls.2
                  refine W.aast (j := nI j) hx hb (hR.get hq) (fun q h => by cases h) (fun h => by cases h) k1 k2 rfl hkE ⟨nI_pos (by omega), by show _ < (arrV _ _ _).slots.size; rw [arrV_size, nI_clamp (by omega)]; exact h1⟩ g1 (fun q h => by rw [g3] at h; cases h) (by rw [g2]; exact hkC) (by rw [g2]; exact f3) rfl rfl hd fun H1 e zz oq => ?_
                  rw [nI_clamp (by omega)] at e ⊢
                  refine kk H1 _ ls (hR.set hq ?_ zz oq) hl
                  show H1[g.1 + q]? = some (arrV (g.2.2.2 4) m (fun x => va_rf (cQ g ((j, .inr (.inr (.ref qw))) :: u) x)))
                  rw [e]
                  exact congrArg some (av_set fun x => by rw [cQ_cons]; rfl)
            · cases hf
  · cases hf
def mxF (x y : Int32) : Int32 := if x < y then y else x
def mnF (x y : Int32) : Int32 := if y < x then y else x
/-- Math.max, Math.min of known ints -/
def s_mm (f : Int32 → Int32 → Int32) (n : Nat) : FF := fun _ fr lo c => match c with
  | (_, L, st, h, kk, z, o, cs) => match st with
    | .inl y :: .inl x :: r => match Nat.ble 1 fr && Nat.ble (slen r + 13) lo with
      | true => fz (toN (f (nI x) (nI y))) (fun v => some (n, L, .inl v :: r, h, kk, z, o, cs))
      | false => none
    | _ => none
theorem s_mm_ok {f : Int32 → Int32 → Int32} (hn : pc + 3 = n)
    (row : ∀ (p : Program) (e : Env) (R : Room) (s : State) (m : MethodId) (args : Array Value) (below : List Frame) (meth : Method) (c : Code) (H : Heap) (locs : List Loc) (cells slots : Nat) (Q : State → Prop) (ls : Array Slot) (rest : List Value) (x y : Int32), p.tables.exec = Jvm.exec → c.code = cc → c.maxLocals = ls.size → s.vm.findClass own = some m.cls → (∀ w ∈ wsG, w.before args s = true) → 1 ≤ R.frames → (rest.map fun v => v.category).sum + 13 ≤ R.locals → cells ≤ R.cells → slots ≤ R.slots →
      W p l e R s m args below meth c H locs cells slots Q (F0 m (pc + 3) ls (.int (f x y) :: rest)) → W p l e R s m args below meth c H locs cells slots Q (F0 m pc ls (.int y :: .int x :: rest))) : Snd g HB l call cc nL own nm pc (s_mm f n) := by
  intro fr lo L st h kk z o cs pc' L' st' h' k' z' o' cs' hf
  subst hn
  rcases st with _ | ⟨b, _ | ⟨a, r⟩⟩
  · cases hf
  · rcases b with b | b <;> cases hf
  rcases b with y | b
  · rcases a with x | a
    · simp only [s_mm] at hf
      cases hb0 : Nat.ble 1 fr && Nat.ble (slen r + 13) lo with
      | false => rw [hb0] at hf; cases hf
      | true =>
        rw [hb0] at hf
        simp only [fz_eq] at hf
        rw [Bool.and_eq_true] at hb0
        have e1 : 1 ≤ fr := Nat.ble_eq.mp hb0.1
        have e2 : slen r + 13 ≤ lo := Nat.ble_eq.mp hb0.2
        cases hf
        refine ⟨⟨List.suffix_refl _, Nat.le_refl _, Nat.le_refl _⟩, fun _ p e R s m0 args below meth c Q H locs ls hC hfr hlo hk hz hR hl kk => ?_⟩
        obtain ⟨⟨hx, hb, hml, hown, hts⟩, hA, -⟩ := hC
        have h9 := kk H locs ls hR hl
        rw [List.map_cons] at h9
        have e4 : cV g (.inl (toN (f (nI x) (nI y)))) = .int (f (nI x) (nI y)) := by show Value.int (nI (toN _)) = _; rw [nI_toN]
        rw [e4] at h9
        exact row p e R s m0 args below meth c H locs _ _ Q ls _ (nI x) (nI y) hx hb (hml.trans hl.1.symm) hown hts (by omega) (by rw [slen_sum]; omega) hk hz h9
    · cases hf
  · cases hf
theorem m_mmax (h1 : Cond.methodLink own idx Lib.Math.max.name ∈ wsG) (h2 : Cond.static Lib.Math.max.name ∈ wsG) (h3 : Cond.initialized "java/lang/Math" ∈ wsG) (h4 : Cond.code Lib.Math.max.name Lib.Math.max.code 2 (some .int) ∈ wsG) (hd : decode cc pc = .ok (.invokestatic idx, 3)) (hn : pc + 3 = n) : Snd g HB l call cc nL own nm pc (s_mm mxF n) :=
  s_mm_ok hn fun _ _ _ _ _ _ _ _ _ _ _ _ _ _ _ _ _ _ hx hb hml hown hts hf hl hc hs k => va_mmax hx hb hml hown (hts _ h1) (hts _ h2) (hts _ h3) (hts _ h4) hf hl hc hs hd k
theorem m_mmin (h1 : Cond.methodLink own idx Lib.Math.min.name ∈ wsG) (h2 : Cond.static Lib.Math.min.name ∈ wsG) (h3 : Cond.initialized "java/lang/Math" ∈ wsG) (h4 : Cond.code Lib.Math.min.name Lib.Math.min.code 2 (some .int) ∈ wsG) (hd : decode cc pc = .ok (.invokestatic idx, 3)) (hn : pc + 3 = n) : Snd g HB l call cc nL own nm pc (s_mm mnF n) :=
  s_mm_ok hn fun _ _ _ _ _ _ _ _ _ _ _ _ _ _ _ _ _ _ hx hb hml hown hts hf hl hc hs k => va_mmin hx hb hml hown (hts _ h1) (hts _ h2) (hts _ h3) (hts _ h4) hf hl hc hs hd k
/-- System.arraycopy of no ints -/
def s_copy0 (n : Nat) : FF := fun _ fr lo c => match c with
  | (_, L, st, h, kk, z, o, cs) => match st with
    | .inl 0 :: .inl 0 :: a :: .inl 0 :: b :: r => match rOf a, rOf b with
      | some q, some qb => match h[q]?, h[qb]? with
        | some (.inl (0, _, _)), some (.inl (0, _, _)) => match Nat.ble 1 fr && Nat.ble (slen r + (nativeFrameWords "java/lang/System" "arraycopy" 5 + 11)) lo with
          | true => some (n, L, r, h, kk, z, o, cs)
          | false => none
        | _, _ => none
      | _, _ => none
    | _ => none
theorem m_copy0 (h1 : Cond.methodLink own idx arraycopyName ∈ wsG) (h2 : Cond.native arraycopyName ∈ wsG) (h3 : Cond.static arraycopyName ∈ wsG) (h4 : Cond.initialized "java/lang/System" ∈ wsG) (hd : decode cc pc = .ok (.invokestatic idx, 3)) (hn : pc + 3 = n) : Snd g HB l call cc nL own nm pc (s_copy0 n) := by
  intro fr lo L st h kk z o cs pc' L' st' h' k' z' o' cs' hf
  subst hn
  have key : ∃ (a b : AV) (r : List AV) (q qb m mb : Nat) (u ub : List (Nat × AV)), st = .inl 0 :: .inl 0 :: a :: .inl 0 :: b :: r ∧ rOf a = some q ∧ rOf b = some qb ∧ h[q]? = some (.inl (0, m, u)) ∧ h[qb]? = some (.inl (0, mb, ub)) ∧ 1 ≤ fr ∧ slen r + (nativeFrameWords "java/lang/System" "arraycopy" 5 + 11) ≤ lo ∧ some (pc + 3, L, r, h, kk, z, o, cs) = some (pc', L', st', h', k', z', o', cs') := by
    simp only [s_copy0] at hf
    split at hf
    · rename_i a b r
      split at hf
      · rename_i q qb ha hb
        split at hf
        · rename_i m u mb ub hq hqb
          split at hf
          · rename_i hb0
            rw [Bool.and_eq_true] at hb0
            exact ⟨a, b, r, q, qb, m, mb, u, ub, rfl, ha, hb, hq, hqb, Nat.ble_eq.mp hb0.1, Nat.ble_eq.mp hb0.2, hf⟩
          · cases hf
        · cases hf
      · cases hf
    · cases hf
  obtain ⟨a, b, r, q, qb, m, mb, u, ub, rfl, ha, hb9, hq, hqb, hfr1, hlo1, e0⟩ := key
  cases e0
  refine ⟨⟨List.suffix_refl _, Nat.le_refl _, Nat.le_refl _⟩, fun _ p e R s m0 args below meth c Q H locs ls hC hfr hlo _ _ hR hl kk => ?_⟩
  obtain ⟨⟨hx, hb, hml, hown, hts⟩, hA, -⟩ := hC
  rw [rOf_eq ha, rOf_eq hb9]
  intro T hT X
  have hc1 : H[g.1 + q]? = some (arrV (g.2.2.2 0) m (fun x => .int (cI g u x))) := hR.get hq
  have hc0 : H[g.1 + qb]? = some (arrV (g.2.2.2 0) mb (fun x => .int (cI g ub x))) := hR.get hqb
  obtain ⟨-, k0, hk0, cm0, hkk0⟩ := (hA.1.2 0 _ rfl).1 mb (fun j => .int (cI g ub j))
  obtain ⟨-, k1, hk1, cm1, hkk1⟩ := (hA.1.2 0 _ rfl).1 m (fun j => .int (cI g u j))
  have n0 : (nI 0).toInt = 0 := nI_toInt (n := 0) (by omega)
  have n1 : (nI 0).toNatClampNeg = 0 := nI_clamp (n := 0) (by omega)
  have n2 : ¬ nI 0 < 0 := nI_pos (n := 0) (by omega)
  obtain ⟨vm', X', step⟩ := X.arraycopy hx hown (hts _ h1) (hts _ h2) (hts _ h3) (hts _ h4) (src := g.1 + qb) (dst := g.1 + q) (cs := arrV (g.2.2.2 0) mb (fun x => .int (cI g ub x))) (cd := arrV (g.2.2.2 0) m (fun x => .int (cI g u x))) (srcPos := nI 0) (destPos := nI 0) (n := nI 0) (by rw [hT]; exact hc0) (by rw [hT]; exact hc1)
    (fun _ h => by cases h) (fun _ h => by cases h) (fun h => by cases h) (fun h => by cases h) hk0 hk1 hkk0 hkk1 rfl n2 n2 n2
    (by rw [n0]; show ¬ _ > ((arrV _ mb _).slots.size : Int); rw [arrV_size]; omega)
    (by rw [n0]; show ¬ _ > ((arrV _ m _).slots.size : Int); rw [arrV_size]; omega)
    (fun vm₁ _ i hi => by rw [n1] at hi; omega)
    (g := F0 m0 pc ls (.int (nI 0) :: .int (nI 0) :: .ref (g.1 + q) :: .int (nI 0) :: .ref (g.1 + qb) :: st'.map (cV g))) rfl (hl.1.trans hml.symm) (rest := st'.map (cV g)) rfl (by rw [hb]; exact hd) (by omega) (by rw [slen_sum]; show 2 * 0 + _ + _ ≤ _; omega)
  have e1 : copied (arrV (g.2.2.2 0) mb (fun x => .int (cI g ub x))) (arrV (g.2.2.2 0) m (fun x => .int (cI g u x))) (nI 0) (nI 0) (nI 0) = arrV (g.2.2.2 0) m (fun x => .int (cI g u x)) := by
    have e2 := va_copied (fun z => Value.int z) (g.2.2.2 0) (g.2.2.2 0) (n0 := mb) (n1 := m) (sp := 0) (dp := 0) (n := 0) (cI g ub) (cI g u) (by omega)
    have e3 : va_cpy (cI g ub) (cI g u) 0 0 0 = cI g u := by
      funext x
      unfold va_cpy
      rw [if_neg (by omega)]
    rw [e3] at e2
    unfold copied
    rw [n1]
    exact e2
  rw [e1] at X' step
  have hheap : ((T.setVm vm').setCell (g.1 + q) (arrV (g.2.2.2 0) m (fun x => .int (cI g u x)))).heap = H := by
    have e4 : ((T.setVm vm').setCell (g.1 + q) (arrV (g.2.2.2 0) m (fun x => .int (cI g u x)))).heap = H.setIfInBounds (g.1 + q) (arrV (g.2.2.2 0) m (fun x => .int (cI g u x))) := by rw [← hT]; rfl
    rw [e4]
    apply Array.ext_getElem?
    intro i
    by_cases hi : g.1 + q = i
    · subst hi
      have hlt := (Array.getElem?_eq_some_iff.mp hc1).1
      rw [hc1]
      simp [Array.getElem?_setIfInBounds, hlt]
    · simp [Array.getElem?_setIfInBounds, hi]
  obtain ⟨t, a1, b1⟩ := kk H _ ls (by
    refine ⟨hR.1, hR.2.1, hR.2.2.1, fun x hx9 => ?_⟩
    rcases List.mem_append.mp hx9 with h | h
    · exact hR.2.2.2 x h
    · obtain ⟨y, -, hy⟩ := List.mem_map.mp h
      rw [← hy]
      exact Nat.le_add_right _ _) hl _ hheap X'
  exact ⟨t, step t a1, b1⟩
end REF
