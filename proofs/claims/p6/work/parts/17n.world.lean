/-! What both sides hold alike: what is made ready, the tape, the tags. -/
def RD (h : Hp) : Prop := h.2.2 2 1 = 20 ∧ ∀ j : Nat, j < 20 → h.2.2 3 j = h.2.2 61 j
def TP (h : Hp) : Prop := ∀ j : Nat, (j : Int) < h.2.2 4 1 → h.2.2 5 j = h.2.2 62 j
def no2 (a b : Nat) (S : List Nat) : Bool := !S.contains a && !S.contains b
theorem no2_of {a b : Nat} {S : List Nat} (h : no2 a b S = true) : S.contains a = false ∧ S.contains b = false := by
  unfold no2 at h
  rw [Bool.and_eq_true, Bool.not_eq_true', Bool.not_eq_true'] at h
  exact h
theorem RD.fr {S : List Nat} {h H : Hp} (r : RD h) (hI : Inv h) (f : Fr S h H) (hs : no2 2 61 S = true) : RD H := by
  obtain ⟨s1, s2⟩ := no2_of hs
  refine ⟨(f.getF hI (a := 2) (j := 1) (by decide) s1).trans r.1, fun j hj => ?_⟩
  rw [f.arr hI (a := 3) (by decide) (fun _ => s1), f.arr hI (a := 61) (by decide) (fun _ => s2)]
  exact r.2 j hj
theorem TP.fr {S : List Nat} {h H : Hp} (r : TP h) (hI : Inv h) (f : Fr S h H) (hs : no2 4 62 S = true) : TP H := by
  obtain ⟨s1, s2⟩ := no2_of hs
  intro j hj
  rw [f.getF hI (a := 4) (j := 1) (by decide) s1] at hj
  rw [f.arr hI (a := 5) (by decide) (fun _ => s1), f.arr hI (a := 62) (by decide) (fun _ => s2)]
  exact r j hj
theorem TP.z {h : Hp} (h0 : h.2.2 4 1 = 0) : TP h := fun j hj => absurd hj (by omega)
theorem InR.mv {h H : Hp} {m : Int} (e68 : tcn H m = tcn h m) (eb : ∀ t : Int, 0 ≤ t → t < tcn h m → EqT (tb H (8 * m + t)) (ts H (8 * m + t)) (tb h (8 * m + t)) (ts h (8 * m + t))) (r : Nat → Int) (n : Int) : InR H m r n ↔ InR h m r n := ⟨fun ⟨t, t0, t1, e⟩ => ⟨t, t0, by omega, (eb t t0 (by omega)).sy.tr e⟩, fun ⟨t, t0, t1, e⟩ => ⟨t, t0, by omega, (eb t t0 t1).tr e⟩⟩
theorem SoT.mv {h H : Hp} {m : Int} (e68 : tcn H m = tcn h m) (eb : ∀ t : Int, 0 ≤ t → t < tcn h m → EqT (tb H (8 * m + t)) (ts H (8 * m + t)) (tb h (8 * m + t)) (ts h (8 * m + t))) (s : SoT h m) : SoT H m := fun t t' t0 tt t1 => ((s t t' t0 tt (by omega)).eqL (eb t t0 (by omega))).eqR (eb t' (by omega) (by omega))
/-- the message M of the class has the tags of the reference's message m -/
def TGM (h : Hp) (M : Nat) (m : Int) : Prop := T8 h M ∧ h.2.2 M 7 = tcn h m ∧ (∀ j : Int, 0 ≤ j → j < h.2.2 M 7 → 0 ≤ tgr h M j ∧ tgr h M j < bE h) ∧ (∀ j j' : Int, 0 ≤ j → j < j' → j' < h.2.2 M 7 → tgr h M j ≠ tgr h M j') ∧ (∀ (r : Nat → Int) (n : Int), (∃ j : Int, 0 ≤ j ∧ j < h.2.2 M 7 ∧ EqB h (tgr h M j) r n) ↔ InR h m r n) ∧ SoT h m
theorem TGM.mv {h H : Hp} {M : Nat} {m : Int} (t : TGM h M m) (e7 : H.2.2 M 7 = h.2.2 M 7) (t8 : T8 H M) (row : ∀ j : Int, tgr H M j = tgr h M j) (bx : BX h H) (e68 : tcn H m = tcn h m) (eb : ∀ t : Int, 0 ≤ t → t < tcn h m → EqT (tb H (8 * m + t)) (ts H (8 * m + t)) (tb h (8 * m + t)) (ts h (8 * m + t))) : TGM H M m := by
  obtain ⟨-, t1, t2, t3, t4, t5⟩ := t
  refine ⟨t8, by omega, fun j j0 j1 => ?_, fun j j' j0 jj j1 => ?_, fun r n => ?_, SoT.mv e68 eb t5⟩
  · rw [row]
    have := t2 j j0 (by omega)
    have := bx.1
    omega
  · rw [row, row]
    exact t3 j j' j0 jj (by omega)
  · rw [InR.mv e68 eb, ← t4]
    refine ⟨fun ⟨j, j0, j1, e⟩ => ⟨j, j0, by omega, ?_⟩, fun ⟨j, j0, j1, e⟩ => ⟨j, j0, by omega, ?_⟩⟩
    · rw [row] at e
      exact (bx.eq (t2 j j0 (by omega))).mp e
    · rw [row]
      exact (bx.eq (t2 j j0 j1)).mpr e
theorem TGM.fr {S : List Nat} {h H : Hp} {M : Nat} {m : Int} (t : TGM h M m) (f : Fr S h H) (hI : Inv h) (fm : full h M) (s2 : m6c S = true) (s3 : no2 66 67 S = true) (bx : BX h H) (e68 : tcn H m = tcn h m) : TGM H M m := by
  obtain ⟨e6, e7, t8, row⟩ := msg_fr f hI fm t.1 s2
  have e := tsb_same (f.arr hI (a := 66) (by decide) (fun _ => (no2_of s3).1)) (f.arr hI (a := 67) (by decide) (fun _ => (no2_of s3).2))
  exact t.mv e7 t8 row bx e68 (fun t _ _ => ⟨e.2 _, fun i _ => e.1 _ i⟩)
def TGW (h : Hp) : Prop := BI h ∧ (∀ (j M : Nat) (m : Int), j < (h.2.2 26 2).toNat → elS h j = (M : Int) → (nums h)[j]? = some m → TGM h M m) ∧ ∀ (j j' M M' : Nat), j < (h.2.2 26 2).toNat → j' < (h.2.2 26 2).toNat → j ≠ j' → elS h j = (M : Int) → elS h j' = (M' : Int) → h.2.2 M 6 ≠ h.2.2 M' 6
theorem full_at {h : Hp} (hI : Inv h) {j M : Nat} (hj : j < (h.2.2 26 2).toNat) (hM : elS h j = (M : Int)) : full h M := by
  obtain ⟨e, n, m, q, m1, m2⟩ := elS_full hI hj
  have : m = M := by have := m1.symm.trans hM; omega
  rw [← this]
  exact m2
theorem TGW.tgp {h : Hp} (t : TGW h) : TGP h := fun j M hj hM => (t.2.1 j M _ hj hM (nums_get hj)).1
def tgW (S : List Nat) : Bool := b20 S && (m6c S && (no2 66 67 S && (no2 68 26 S && no2 313 330 S)))
theorem TGW.fr {S : List Nat} {h H : Hp} (t : TGW h) (hI : Inv h) (f : Fr S h H) (hs : tgW S = true) : TGW H := by
  unfold tgW at hs
  rw [Bool.and_eq_true, Bool.and_eq_true, Bool.and_eq_true, Bool.and_eq_true] at hs
  obtain ⟨s1, s2, s3, s4, s5⟩ := hs
  obtain ⟨a68, a26⟩ := no2_of s4
  obtain ⟨a313, a330⟩ := no2_of s5
  have tp := t.tgp
  obtain ⟨b0, t1, t2⟩ := t
  obtain ⟨b1, bx⟩ := BI.fr f hI s1 b0
  have hl : (!S.contains 26 && !S.contains 313) = true := by rw [a26, a313]; rfl
  have hn : nums H = nums h := nums_fr f hI (by rw [a26, a313, a330]; rfl)
  have f26 : H.2.2 26 2 = h.2.2 26 2 := f.2.1 26 2 (hI.ltN (hI.atS (a := 26) rfl)) a26
  have e68 : H.2.2 68 = h.2.2 68 := f.arr hI (a := 68) (by decide) (fun _ => a68)
  refine ⟨b1, fun j M m hj hM hm => ?_, fun j j' M M' hj hj' hne hM hM' => ?_⟩
  · rw [f26] at hj
    rw [elS_fr f hI hl hj] at hM
    rw [hn] at hm
    exact (t1 j M m hj hM hm).fr f hI (full_at hI hj hM) s2 s3 bx (by unfold tcn; rw [e68])
  · rw [f26] at hj hj'
    rw [elS_fr f hI hl hj] at hM
    rw [elS_fr f hI hl hj'] at hM'
    rw [(msg_fr f hI (full_at hI hj hM) (tp j M hj hM) s2).1, (msg_fr f hI (full_at hI hj' hM') (tp j' M' hj' hM') s2).1]
    exact t2 j j' M M' hj hj' hne hM hM'
def tgA (S : List Nat) : Bool := b20 S && (m6c S && no2 66 67 S)
/-- a message came -/
theorem TGW.add {S1 S2 : List Nat} {h H1 H2 : Hp} {x : Int} (t : TGW h) (hI : Inv h) (i1 : Inv H1) (f1 : Fr S1 h H1) (f2 : Fr S2 H1 H2) (hs1 : tgA S1 = true) (hs2 : tgA S2 = true) (s68 : S1.contains 68 = false) (sl2 : (no2 26 313 S2 && no2 330 330 S2) = true) (nm : NMM h H1) (hn : nums H1 = nums h ++ [x]) (e0 : H2.2.2 68 x.toNat = 0) (eo : ∀ j : Nat, j ≠ x.toNat → H2.2.2 68 j = H1.2.2 68 j) (x0 : 0 ≤ x) (hx : ∀ y ∈ nums h, 0 ≤ y ∧ y ≠ x) : TGW H2 := by
  unfold tgA at hs1 hs2
  rw [Bool.and_eq_true, Bool.and_eq_true] at hs1 hs2
  obtain ⟨s1, s2, s3⟩ := hs1
  obtain ⟨u1, u2, u3⟩ := hs2
  rw [Bool.and_eq_true] at sl2
  obtain ⟨a26, a313⟩ := no2_of sl2.1
  obtain ⟨a330, -⟩ := no2_of sl2.2
  obtain ⟨n1, n2, N, m1, m2, ⟨T, T1, T2, T3⟩, m3⟩ := nm
  have tp := t.tgp
  obtain ⟨b0, t1, t2⟩ := t
  obtain ⟨b1, bx1⟩ := BI.fr f1 hI s1 b0
  obtain ⟨b2, bx2⟩ := BI.fr f2 i1 u1 b1
  have hl : (!S2.contains 26 && !S2.contains 313) = true := by rw [a26, a313]; rfl
  have hn2 : nums H2 = nums h ++ [x] := (nums_fr f2 i1 (by rw [a26, a313, a330]; rfl)).trans hn
  have f26 : H2.2.2 26 2 = H1.2.2 26 2 := f2.2.1 26 2 (i1.ltN (i1.atS (a := 26) rfl)) a26
  have e68 : H1.2.2 68 = h.2.2 68 := f1.arr hI (a := 68) (by decide) (fun _ => s68)
  have nl := nums_len h
  have h106 := hI.1.1
  have t8N : T8 H1 N := ⟨T, T2, by omega, T3⟩
  obtain ⟨k6, k7, t8', -⟩ := msg_fr f2 i1 m2 t8N u2
  have old : ∀ (j M : Nat), j < (h.2.2 26 2).toNat → elS H2 j = (M : Int) → elS h j = (M : Int) ∧ H2.2.2 M 6 = h.2.2 M 6 := by
    intro j M hj hM
    rw [elS_fr f2 i1 hl (by omega)] at hM
    have hM1 := hM
    rw [n2 j hj] at hM
    have q := msg_fr f1 hI (full_at hI hj hM) (tp j M hj hM) s2
    exact ⟨hM, (msg_fr f2 i1 (full_at i1 (by omega) hM1) q.2.2.1 u2).1.trans q.1⟩
  have new : ∀ M : Nat, elS H2 (h.2.2 26 2).toNat = (M : Int) → M = N := by
    intro M hM
    rw [elS_fr f2 i1 hl (by omega)] at hM
    have := hM.symm.trans m1
    omega
  have lowT : ∀ (j M : Nat), j < (h.2.2 26 2).toNat → elS h j = (M : Int) → h.2.2 M 6 < (h.1 : Int) := by
    intro j M hj hM
    obtain ⟨T', q1, -, q3⟩ := tp j M hj hM
    have := hI.ltN q3
    omega
  refine ⟨b2, fun j M m hj hM hm => ?_, fun j j' M M' hj hj' hne hM hM' => ?_⟩
  · rw [hn2] at hm
    by_cases c : j < (h.2.2 26 2).toNat
    · rw [List.getElem?_append_left (by omega)] at hm
      have q := hx m (List.mem_of_getElem? hm)
      have hM1 := hM
      rw [elS_fr f2 i1 hl (by omega)] at hM1
      have hM0 := (old j M c hM).1
      have z := (t1 j M m c hM0 hm).fr f1 hI (full_at hI c hM0) s2 s3 bx1 (by unfold tcn; rw [e68])
      exact z.fr f2 i1 (full_at i1 (by omega) hM1) u2 u3 bx2 (by unfold tcn; exact eo _ (by omega))
    · have ej : j = (h.2.2 26 2).toNat := by omega
      subst ej
      rw [new M hM]
      rw [List.getElem?_append_right (by omega), nl, Nat.sub_self] at hm
      have hm : x = m := by
        have q := hm
        simp only [List.getElem?_cons_zero, Option.some.injEq] at q
        exact q
      subst hm
      have c0 : tcn H2 x = 0 := e0
      refine ⟨t8', by omega, fun j j0 j1 => by omega, fun j j' j0 jj j1 => by omega, fun r n => ⟨fun ⟨j, j0, j1, _⟩ => by omega, fun ⟨s, q0, q1, _⟩ => by omega⟩, fun s s' q0 q1 q2 => by omega⟩
  · by_cases c : j < (h.2.2 26 2).toNat
    · obtain ⟨o1, o2⟩ := old j M c hM
      have l1 := lowT j M c o1
      by_cases c' : j' < (h.2.2 26 2).toNat
      · obtain ⟨o3, o4⟩ := old j' M' c' hM'
        rw [o2, o4]
        exact t2 j j' M M' c c' hne o1 o3
      · have ej : j' = (h.2.2 26 2).toNat := by omega
        rw [ej] at hM'
        rw [new M' hM', k6, T2, o2]
        omega
    · have ej : j = (h.2.2 26 2).toNat := by omega
      rw [ej] at hM
      obtain ⟨o3, o4⟩ := old j' M' (by omega) hM'
      have l1 := lowT j' M' (by omega) o3
      rw [new M hM, k6, T2, o4]
      omega
/-- a message went -/
theorem TGW.rem {S : List Nat} {h H : Hp} {n : Int} (t : TGW h) (hI : Inv h) (f : Fr S h H) (hs : tgA S = true) (s68 : S.contains 68 = false) (e2 : H.2.2 26 2 = h.2.2 26 2 - 1) (rm : RMM h H n) : TGW H := by
  unfold tgA at hs
  rw [Bool.and_eq_true, Bool.and_eq_true] at hs
  obtain ⟨s1, s2, s3⟩ := hs
  obtain ⟨i, r1, r2, r3⟩ := rm
  have tp := t.tgp
  obtain ⟨b0, t1, t2⟩ := t
  obtain ⟨b1, bx⟩ := BI.fr f hI s1 b0
  have e68 : H.2.2 68 = h.2.2 68 := f.arr hI (a := 68) (by decide) (fun _ => s68)
  refine ⟨b1, fun j M m hj hM hm => ?_, fun j j' M M' hj hj' hne hM hM' => ?_⟩
  · rw [r3 j (by omega)] at hM
    rw [r2, List.getElem?_eraseIdx] at hm
    have hj' : (if j < i then j else j + 1) < (h.2.2 26 2).toNat := by split <;> omega
    have hm' : (nums h)[if j < i then j else j + 1]? = some m := by
      by_cases c : j < i
      · rw [if_pos c] at hm ⊢
        exact hm
      · rw [if_neg c] at hm ⊢
        exact hm
    exact (t1 _ M m hj' hM hm').fr f hI (full_at hI hj' hM) s2 s3 bx (by unfold tcn; rw [e68])
  · rw [r3 j (by omega)] at hM
    rw [r3 j' (by omega)] at hM'
    have q : (if j < i then j else j + 1) < (h.2.2 26 2).toNat := by split <;> omega
    have q' : (if j' < i then j' else j' + 1) < (h.2.2 26 2).toNat := by split <;> omega
    rw [(msg_fr f hI (full_at hI q hM) (tp _ M q hM) s2).1, (msg_fr f hI (full_at hI q' hM') (tp _ M' q' hM') s2).1]
    exact t2 _ _ M M' q q' (by split <;> split <;> omega) hM hM'
