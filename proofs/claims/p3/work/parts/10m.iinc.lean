/-! A local that isn't known counts on. -/
def addK (l : LinC) (d : Int) : LinC := (l.1 + d, l.2)
theorem addK_ok {ρ : Nat → Int} {l : LinC} {d : Int} : lval ρ (addK l d) = lval ρ l + d := by
  show l.1 + d + lev ρ l.2 = l.1 + lev ρ l.2 + d
  omega
def n_iinc (i : Nat) (d : Int) (nL n : Nat) : NF := fun s x => match x with
  | (_, L, st, h, k, z, kn, nxt) => match alk L i with
    | none => none
    | some v => match s with
      | [] => none
      | it :: s1 => match it.2.1 with
        | c1 :: c2 :: _ => match Nat.blt i nL && (isI v && (inInt kn c1 c2 (addK (avL v) d) && (tBel nxt (avL v).2 && xBel nxt L st h k z kn))) with
          | true => fzs (up1 i (symA nxt) L) (fun L' => some ([(n, L', st, h, k, z, eqF nxt (addK (avL v) d) ++ kn, nxt + 1)], s1))
          | false => none
        | _ => none
theorem n_iinc_ok {HB : Heap} {l : Launch} {cc : ByteArray} {nL : Nat} {own nm : String} {u : NU} {n0 pc n i : Nat} {d : Int} (hK : Keeps HB n0) (hu : cBel n0 u.1 = true ∧ cBel n0 u.2.1 = true) (hdr : (Int32.ofInt d).toInt = d) (hd : decode cc pc = .ok (.iinc i d, 3)) (hn : pc + 3 = n) : NFok HB l cc nL own nm u n0 pc (n_iinc i d nL n) := by
  intro s x ls s' hpc hf n9 h1 h2
  obtain ⟨pc0, L, st, h, k, z, kn, nxt⟩ := x
  have hpc : pc0 = pc := hpc
  subst hpc hn
  simp only [n_iinc] at hf
  cases ha : alk L i with
  | none => rw [ha] at hf; cases hf
  | some v =>
    rw [ha] at hf
    simp only at hf
    rcases s with _ | ⟨it, s1⟩
    · cases hf
    simp only at hf
    rcases hc : it.2.1 with _ | ⟨c1, _ | ⟨c2, cs⟩⟩
    · rw [hc] at hf; cases hf
    · rw [hc] at hf; cases hf
    rw [hc] at hf
    simp only at hf
    cases hb : Nat.blt i nL && (isI v && (inInt kn c1 c2 (addK (avL v) d) && (tBel nxt (avL v).2 && xBel nxt L st h k z kn))) with
    | false => rw [hb] at hf; cases hf
    | true =>
      rw [hb] at hf
      simp only [fzs_eq] at hf
      cases hf
      simp only [Bool.and_eq_true] at hb
      obtain ⟨bi, bv, bin, bt, bx⟩ := hb
      unfold xBel at bx
      simp only [Bool.and_eq_true] at bx
      obtain ⟨b1, b2, b3, b4, b5, b6⟩ := bx
      intro p e R s9 m args below meth c Q g hy hok hC hr hkz H locs ls9 hR hl
      have he := setS_ext g (c := nxt) (n := nxt) (toN (gI g v + Int32.ofInt d)) (Nat.le_refl nxt)
      have hen := he.mono h2
      have e1 := sBel_ok b2 he
      have e2 := lBel_ok b1 he
      have e3 := cBel_ok b4 he
      have e4 := cBel_ok b5 he
      have hv : gS (setS g nxt (toN (gI g v + Int32.ofInt d))) nxt = gI g v + Int32.ofInt d := by
        unfold gS
        rw [setS_at, nI_toN]
      have hm : (i, cV g v) ∈ cL g L := List.mem_map.mpr ⟨(i, v), alk_mem ha, rfl⟩
      obtain ⟨j, hj⟩ := List.getElem?_of_mem hm
      rw [cV_I bv] at hj
      have hfs : okl (setS g nxt (toN (gI g v + Int32.ofInt d))) (eqF nxt (addK (avL v) d)) := by
        apply eqF_ok
        have hbel : tBel nxt (addK (avL v) d).2 = true := bt
        rw [lval_ext hbel he, hv]
        obtain ⟨i1, i2⟩ := inInt_ok hok bin
        rw [addK_ok, avL_ok bv] at i1 i2 ⊢
        rw [add_lin (by rw [hdr]; omega) (by rw [hdr]; omega), hdr]
      refine lv_iinc hC.1.1 hC.1.2.1 hd hl hj rfl (Nat.blt_eq.mp bi) rfl fun ls' hl' => ?_
      have hlv : lv_has ls' nL (cL (setS g nxt (toN (gI g v + Int32.ofInt d))) (up1 i (symA nxt) L)) := by
        rw [← cL_up1, e2, symA_V, hv]
        exact hl'
      have hw := hy _ List.mem_cons_self (setS g nxt (toN (gI g v + Int32.ofInt d))) hen (fun x hx => by
        rcases List.mem_append.mp hx with hx | hx
        · exact hfs x hx
        · exact kBel_ok b6 he hok x hx) ⟨hC.1, hK g _ s9 (hen.mono h1) hC.2.1, hC.2.2⟩ ⟨by rw [cBel_ok hu.1 (hen.mono h1)]; exact hr.1, by rw [cBel_ok hu.2 (hen.mono h1)]; exact hr.2.1, hr.2.2⟩ ⟨by rw [e3]; exact hkz.1, by rw [e4]; exact hkz.2⟩ H locs ls' (hBel_ok b3 he hR) hlv
      rw [e3, e4, e1] at hw
      exact hw
