/-! Writing a row of ints at a place that isn't known: its content is a fresh block. -/
theorem arrV_congr {c : ClassId} {m : Nat} {F F' : Nat → Value} (h : ∀ j, j < m → F j = F' j) : arrV c m F = arrV c m F' := by
  have e : (fun j : Fin m => F j.val) = fun j : Fin m => F' j.val := funext fun j => h j.val j.isLt
  show ({ cls := c, slots := Array.ofFn (n := m) fun j => F j.val, vm := .none } : Cell) = { cls := c, slots := Array.ofFn (n := m) fun j => F' j.val, vm := .none }
  rw [e]
def n_iast (n : Nat) : NF := fun s x => match x with
  | (pc, L, st, h, k, z, kn, nxt) => match st with
    | w :: i :: a :: r => match rOf a with
      | none => none
      | some q => match h[q]? with
        | none => none
        | some ce => match ce with
          | .inr _ => none
          | .inl (t, m, u) => match s with
            | [] => none
            | it :: s1 => match it.2.1 with
              | c1 :: c2 :: _ => match okT false t && (isI w && (isI i && (inRow kn c1 c2 i m && xBel nxt L r h k z kn))) with
                | true => fzs (h.set q (.inl (10, m, [(nxt, .inl 0)]))) (fun h' => some ([(n, L, r, h', k, z, kn, nxt + m)], s1))
                | false => none
              | _ => none
    | _ => none
theorem n_iast_ok {HB : Heap} {l : Launch} {cc : ByteArray} {nL : Nat} {own nm : String} {u : NU} {n0 pc n : Nat} (hK : Keeps HB n0) (hu : cBel n0 u.1 = true ∧ cBel n0 u.2.1 = true) (hd : decode cc pc = .ok (.iastore, 1)) (hn : pc + 1 = n) : NFok HB l cc nL own nm u n0 pc (n_iast n) := by
  intro s x ls s' hpc hf n9 h1 h2
  obtain ⟨pc0, L, st, h, k, z, kn, nxt⟩ := x
  have hpc : pc0 = pc := hpc
  subst hpc hn
  rcases st with _ | ⟨w, _ | ⟨i, _ | ⟨a, r⟩⟩⟩
  · cases hf
  · cases hf
  · cases hf
  simp only [n_iast] at hf
  cases ha : rOf a with
  | none => rw [ha] at hf; cases hf
  | some q =>
    rw [ha] at hf
    have ea := rOf_eq ha
    subst ea
    simp only at hf
    cases hq : h[q]? with
    | none => rw [hq] at hf; cases hf
    | some ce =>
      rw [hq] at hf
      rcases ce with ⟨t, m, v⟩ | ce
      · simp only at hf
        rcases s with _ | ⟨it, s1⟩
        · cases hf
        simp only at hf
        rcases hc : it.2.1 with _ | ⟨c1, _ | ⟨c2, cs⟩⟩
        · rw [hc] at hf; cases hf
        · rw [hc] at hf; cases hf
        rw [hc] at hf
        simp only at hf
        cases hb : okT false t && (isI w && (isI i && (inRow kn c1 c2 i m && xBel nxt L r h k z kn))) with
        | false => rw [hb] at hf; cases hf
        | true =>
          rw [hb] at hf
          simp only [fzs_eq] at hf
          cases hf
          simp only [Bool.and_eq_true] at hb
          obtain ⟨ht, hw, hi, hin, hbel⟩ := hb
          unfold xBel at hbel
          simp only [Bool.and_eq_true] at hbel
          obtain ⟨b1, b2, b3, b4, b5, b6⟩ := hbel
          intro p e R s9 m0 args below meth c Q g hy hok hC hr hkz H locs ls9 hR hl
          obtain ⟨⟨hx, hbc, hml, hown, hts⟩, hA, hnm⟩ := id hC
          have hv := inRow_ok hok hi hin
          have hX := hA.2.2.2.2.2.2.2.2
          have hcell : H[g.1 + q]? = some (arrV (g.2.2.2 0) m (fun j => .int (contI g t m v j))) := by
            have h9 := hR.get hq
            simp only [okT, Bool.or_eq_true] at ht
            rcases ht with ht | ht
            · have ht := Nat.eq_of_beq_eq_true ht
              subst ht
              exact h9
            · have ht := Nat.eq_of_beq_eq_true ht
              subst ht
              have h9 : H[g.1 + q]? = some (arrV (g.2.2.2 10) m (fun j => .int (cB g (blk v) m j))) := h9
              rw [hX.2.1] at h9
              exact h9
          rw [List.map_cons, List.map_cons, cV_I hw, cV_I hi]
          refine W.iast (j := gI g i) hx hbc hcell ((hA.1.2 0 _ rfl).1 m (fun j => .int (contI g t m v j))) (fun q => by cases q) (by show ¬ (gI g i < 0 ∨ (arrV _ _ _).slots.size ≤ _); rw [arrV_size]; exact hv) rfl rfl hd fun H1 e9 zz oq => ?_
          let cf : Nat → Int32 := fun j => if j = (gI g i).toNatClampNeg then gI g w else contI g t m v j
          have he := setB_ext g (b := nxt) (n := nxt) m (fun j => toN (cf j)) (Nat.le_refl nxt)
          have hen := he.mono h2
          have e1 := sBel_ok b2 he
          have e2 := lBel_ok b1 he
          have e3 := cBel_ok b4 he
          have e4 := cBel_ok b5 he
          have hat : H1[g.1 + q]? = some (arrV (g.2.2.2 10) m (fun j => .int (cB (setB g nxt m (fun j => toN (cf j))) nxt m j))) := by
            rw [e9, hX.2.1, arrV_store]
            congr 1
            refine arrV_congr fun j hj => ?_
            have hcb : cB (setB g nxt m (fun j => toN (cf j))) nxt m j = cf j := by
              unfold cB
              rw [Nat.blt_eq.mpr hj]
              show gS _ (nxt + j) = cf j
              unfold gS
              rw [setB_at g _ hj, nI_toN]
            rw [hcb]
            show (if j = (gI g i).toNatClampNeg then Value.int (gI g w) else Value.int (contI g t m v j)) = Value.int (cf j)
            show _ = Value.int (if j = (gI g i).toNatClampNeg then gI g w else contI g t m v j)
            split <;> rfl
          have hR2 : Rh (setB g nxt m (fun j => toN (cf j))) HB (h.set q (.inl (10, m, [(nxt, .inl 0)]))) H1 (locs ++ [⟨g.1 + q, (gI g i).toNatClampNeg⟩]) :=
            (hBel_ok b3 he hR).set hq hat zz oq
          have hw9 := hy _ List.mem_cons_self (setB g nxt m (fun j => toN (cf j))) hen (kBel_ok b6 he hok) ⟨hC.1, hK g _ s9 (hen.mono h1) hC.2.1, hC.2.2⟩ ⟨by rw [cBel_ok hu.1 (hen.mono h1)]; exact hr.1, by rw [cBel_ok hu.2 (hen.mono h1)]; exact hr.2.1, hr.2.2⟩ ⟨by rw [e3]; exact hkz.1, by rw [e4]; exact hkz.2⟩ H1 _ ls9 hR2 (by rw [e2]; exact hl)
          rw [e3, e4, e1] at hw9
          exact hw9
      · cases hf
