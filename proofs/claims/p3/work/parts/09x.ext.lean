/-! Grounds that agree below a number, and what a configuration mentions: the next turn of a loop is the same theorem at another ground. -/
def ext (g g' : GG) (n : Nat) : Prop := g'.1 = g.1 ∧ g'.2.2 = g.2.2 ∧ ∀ i, i < 2000 + n → g'.2.1 i = g.2.1 i
theorem ext.refl (g : GG) (n : Nat) : ext g g n := ⟨rfl, rfl, fun _ _ => rfl⟩
theorem ext.trans {g g' g2 : GG} {n m : Nat} (h : ext g g' n) (h2 : ext g' g2 m) (hnm : n ≤ m) : ext g g2 n :=
  ⟨h2.1.trans h.1, h2.2.1.trans h.2.1, fun i hi => (h2.2.2 i (by omega)).trans (h.2.2 i hi)⟩
theorem ext.mono {g g' : GG} {n m : Nat} (h : ext g g' m) (hnm : n ≤ m) : ext g g' n := ⟨h.1, h.2.1, fun i hi => h.2.2 i (by omega)⟩
/-- symbol c set anew -/
def setS (g : GG) (c : Nat) (v : Nat) : GG := (g.1, (fun i => match Nat.beq i (2000 + c) with | true => v | false => g.2.1 i), g.2.2)
theorem setS_ext (g : GG) {c n : Nat} (v : Nat) (h : n ≤ c) : ext g (setS g c v) n := by
  refine ⟨rfl, rfl, fun i hi => ?_⟩
  show (match Nat.beq i (2000 + c) with | true => v | false => g.2.1 i) = g.2.1 i
  cases hb : Nat.beq i (2000 + c) with
  | true => exact absurd (Nat.eq_of_beq_eq_true hb) (by omega)
  | false => rfl
theorem setS_at (g : GG) (c v : Nat) : (setS g c v).2.1 (2000 + c) = v := by
  show (match Nat.beq (2000 + c) (2000 + c) with | true => v | false => g.2.1 (2000 + c)) = v
  have h : Nat.beq (2000 + c) (2000 + c) = true := Nat.beq_refl _
  rw [h]
def vBel (n : Nat) (a : AV) : Bool := match a with
  | .inl _ => true
  | .inr (.inl _) => true
  | .inr (.inr v) => match v with
    | .retAddr k => match Nat.ble 10 k with
      | true => Nat.blt (k - 10) n
      | false => Nat.blt 0 n
    | .float k => Nat.blt k.toNat (2000 + n)
    | .double k => Nat.blt k.toNat n
    | _ => true
theorem vBel_ok {g g' : GG} {n : Nat} {a : AV} (h : vBel n a = true) (he : ext g g' n) : cV g' a = cV g a ∧ gI g' a = gI g a ∧ gR g' a = gR g a := by
  rcases a with x | x | v
  · exact ⟨rfl, rfl, rfl⟩
  · exact ⟨rfl, rfl, rfl⟩
  · cases v with
    | retAddr k =>
      simp only [vBel] at h
      cases hk : Nat.ble 10 k with
      | true =>
        rw [hk] at h
        have h1 : k - 10 < n := Nat.blt_eq.mp h
        have e : gS g' (k - 10) = gS g (k - 10) := by
          unfold gS
          rw [he.2.2 _ (by omega)]
        refine ⟨?_, e, rfl⟩
        simp only [cV, hk, e]
      | false =>
        rw [hk] at h
        have h0 : 0 < n := Nat.blt_eq.mp h
        have h1 : k < 10 := by
          rcases Nat.lt_or_ge k 10 with q | q
          · exact q
          · rw [Nat.ble_eq.mpr q] at hk; cases hk
        have e : g'.2.1 (1000 + k) = g.2.1 (1000 + k) := he.2.2 _ (by omega)
        have e2 : gS g' (k - 10) = gS g (k - 10) := by
          unfold gS
          rw [he.2.2 _ (by omega)]
        refine ⟨?_, e2, rfl⟩
        simp only [cV, hk, e]
    | float k =>
      have h1 : k.toNat < 2000 + n := Nat.blt_eq.mp h
      have e := he.2.2 _ h1
      refine ⟨?_, rfl, ?_⟩
      · simp only [cV, e]
      · simp only [gR, e]
    | double k =>
      have h1 : k.toNat < n := Nat.blt_eq.mp h
      have e := he.2.2 (2000 + k.toNat) (by omega)
      refine ⟨?_, rfl, rfl⟩
      simp only [cV, e]
    | ref k =>
      refine ⟨?_, rfl, ?_⟩
      · simp only [cV, he.1]
      · simp only [gR, he.1]
    | _ => exact ⟨rfl, rfl, rfl⟩
def lBel (n : Nat) (L : List (Nat × AV)) : Bool := L.all (fun q => vBel n q.2)
def sBel (n : Nat) (st : List AV) : Bool := st.all (vBel n)
def eBel (n : Nat) (c : AE) : Bool := match c with
  | .inl x => match Nat.ble 10 x.1 with
    | true => Nat.ble (blk x.2.2 + x.2.1) n && lBel n x.2.2
    | false => lBel n x.2.2
  | .inr x => sBel n x.2
def hBel (n : Nat) (h : List AE) : Bool := h.all (eBel n)
theorem sBel_ok {g g' : GG} {n : Nat} {st : List AV} (h : sBel n st = true) (he : ext g g' n) : st.map (cV g') = st.map (cV g) :=
  List.map_congr_left fun a ha => (vBel_ok (List.all_eq_true.mp h a ha) he).1
theorem lBel_ok {g g' : GG} {n : Nat} {L : List (Nat × AV)} (h : lBel n L = true) (he : ext g g' n) : cL g' L = cL g L :=
  List.map_congr_left fun q hq => by rw [(vBel_ok (List.all_eq_true.mp h q hq) he).1]
theorem cB_ext {g g' : GG} {n b m : Nat} (he : ext g g' n) (h : b + m ≤ n) : cB g' b m = cB g b m ∧ cBL g' b m = cBL g b m := by
  refine ⟨?_, ?_⟩
  · funext j
    unfold cB
    cases hj : Nat.blt j m with
    | false => rfl
    | true =>
      have h1 : j < m := Nat.blt_eq.mp hj
      have e := he.2.2 (2000 + (b + j)) (Nat.add_lt_add_left (by omega) 2000)
      exact congrArg nI e
  · funext j
    unfold cBL
    cases hj : Nat.blt j m with
    | false => rfl
    | true =>
      have h1 : j < m := Nat.blt_eq.mp hj
      have e := he.2.2 (2000 + (b + j)) (Nat.add_lt_add_left (by omega) 2000)
      exact congrArg lN e
theorem eBel_ok {g g' : GG} {n : Nat} {c : AE} (h : eBel n c = true) (he : ext g g' n) : cE g' c = cE g c := by
  rcases c with ⟨t, m, u⟩ | ⟨c, fs⟩
  · have hl : lBel n u = true ∧ (10 ≤ t → blk u + m ≤ n) := by
      simp only [eBel] at h
      cases ht : Nat.ble 10 t with
      | true =>
        rw [ht] at h
        simp only at h
        rw [Bool.and_eq_true] at h
        exact ⟨h.2, fun _ => Nat.ble_eq.mp h.1⟩
      | false =>
        rw [ht] at h
        exact ⟨h, fun h10 => by rw [Nat.ble_eq.mpr h10] at ht; cases ht⟩
    have hu : ∀ (j : Nat) (v : AV), alk u j = some v → vBel n v = true := fun j v hj => List.all_eq_true.mp hl.1 (j, v) (alk_mem hj)
    have e1 : cI g' u = cI g u := by
      funext j
      unfold cI
      cases hj : alk u j with
      | none => rfl
      | some v => exact (vBel_ok (hu j v hj) he).2.1
    have e2 : cQ g' u = cQ g u := by
      funext j
      unfold cQ
      cases hj : alk u j with
      | none => rfl
      | some v =>
        show gQ g' v = gQ g v
        unfold gQ
        rw [(vBel_ok (hu j v hj) he).2.2]
    show Sum.inl (g'.2.2.2 t, cC g' t m u) = Sum.inl (g.2.2.2 t, cC g t m u)
    rw [he.2.1]
    by_cases ht : 10 ≤ t
    · have e3 := cB_ext he (hl.2 ht)
      unfold cC
      rw [e1, e2, e3.1, e3.2]
    · unfold cC
      rw [e1, e2]
      have hc : ∀ t : Nat, ¬ 10 ≤ t → t ≠ 10 ∧ t ≠ 11 ∧ t ≠ 12 ∧ t ≠ 13 := fun t h => by omega
      obtain ⟨n0, n1, n2, n3⟩ := hc t ht
      split <;> first | rfl | contradiction
  · show Sum.inr (c, fs.map (cV g')) = Sum.inr (c, fs.map (cV g))
    rw [sBel_ok h he]
theorem wsA_congr {f f' : AE → va_E} : ∀ (h : List AE) (b : Nat), (∀ c ∈ h, f' c = f c) → wsA f' b h = wsA f b h
  | [], _, _ => rfl
  | c :: t, b, hh => by rw [wsA, wsA, hh c List.mem_cons_self, wsA_congr t (b + 1) (fun c hc => hh c (List.mem_cons_of_mem _ hc))]
theorem hBel_ok {g g' : GG} {n : Nat} {h : List AE} (hb : hBel n h = true) (he : ext g g' n) {HB H : Heap} {locs : List Loc} (hR : Rh g HB h H locs) : Rh g' HB h H locs := by
  have e : wsA (cE g') g'.1 h = wsA (cE g) g.1 h := by
    rw [he.1]
    exact wsA_congr h g.1 (fun c hc => eBel_ok (List.all_eq_true.mp hb c hc) he)
  refine ⟨?_, fun q hq => hR.2.1 q (by rw [← he.1]; exact hq), ?_, fun q hq => by rw [he.1]; exact hR.2.2.2 q hq⟩
  · unfold szG
    rw [he.1]
    exact hR.1
  · rw [e, he.2.1]
    exact hR.2.2.1
/-- what a symbol is as a number -/
def rho (g : GG) (c : Nat) : Int := (gS g c).toInt
def tBel (n : Nat) (t : List (Nat × Int)) : Bool := t.all (fun q => Nat.blt q.1 n)
theorem rho_ext {g g' : GG} {n c : Nat} (he : ext g g' n) (h : c < n) : rho g' c = rho g c := by
  have e := he.2.2 (2000 + c) (Nat.add_lt_add_left h 2000)
  have e2 : gS g' c = gS g c := congrArg nI e
  exact congrArg Int32.toInt e2
theorem lev_congr {ρ ρ' : Nat → Int} : ∀ (t : List (Nat × Int)), (∀ q ∈ t, ρ' q.1 = ρ q.1) → lev ρ' t = lev ρ t
  | [], _ => rfl
  | q :: r, h => by
    simp only [lev]
    rw [h q List.mem_cons_self, lev_congr r (fun x hx => h x (List.mem_cons_of_mem _ hx))]
theorem tBel_ok {g g' : GG} {n : Nat} (he : ext g g' n) (t : List (Nat × Int)) (h : tBel n t = true) : lev (rho g') t = lev (rho g) t :=
  lev_congr t fun q hq => rho_ext he (Nat.blt_eq.mp (List.all_eq_true.mp h q hq))
def kBel (n : Nat) (ls : List LinC) : Bool := ls.all (fun l => tBel n l.2)
/-- what is known holds -/
def okl (g : GG) (ls : List LinC) : Prop := ∀ l ∈ ls, lok (rho g) l
theorem kBel_ok {g g' : GG} {n : Nat} {ls : List LinC} (h : kBel n ls = true) (he : ext g g' n) (hk : okl g ls) : okl g' ls := by
  intro l hl
  have h1 := hk l hl
  unfold lok lval at h1 ⊢
  rw [tBel_ok he l.2 (List.all_eq_true.mp h l hl)]
  exact h1
/-- a ground that agrees knows the same of what was there before -/
theorem KX.ext {g g' : GG} {HB : Heap} {U : State} (he : ext g g' 400) (h : KX g HB U) : KX g' HB U := by
  have hL : g.2.1 91 ≤ 400 := h.2.2.2.2.2.2.1
  have hA : hiA g' = hiA g := by funext q; unfold hiA; rw [he.1]
  have f1 : ∀ x ∈ xOF, x.1 < 2000 ∧ vBel 400 x.2.2.2.2 = true := by decide +kernel
  have f2 : ∀ x ∈ xT, x.1 < 2000 := by decide +kernel
  have f3 : ∀ x ∈ xZ, vBel 400 x.2.2.2 = true := by decide +kernel
  have f4 : ∀ x ∈ xR, x.2.2.2 < 2000 := by decide +kernel
  have f5 : ∀ x ∈ xO, x.1 < 2000 := by decide +kernel
  have num : ∀ i : Nat, i < 2000 → g'.2.1 i = g.2.1 i := fun i hi => he.2.2 i (by omega)
  refine ⟨fun x hx => ?_, fun x hx => ?_, fun x hx => ?_, fun x hx => ?_, fun x hx => ?_, ?_, by rw [num 91 (by omega), he.2.1]; exact h.2.2.2.2.2.2⟩
  · rw [hA, num _ (f1 x hx).1, (vBel_ok (f1 x hx).2 he).1]; exact h.1 x hx
  · rw [hA, num _ (f2 x hx)]; exact h.2.1 x hx
  · rw [hA, (vBel_ok (f3 x hx) he).1]; exact h.2.2.1 x hx
  · rw [num _ (f4 x hx)]; exact h.2.2.2.1 x hx
  · rw [hA, num _ (f5 x hx)]; exact h.2.2.2.2.1 x hx
  · rw [hA, num 90 (by omega), num 91 (by omega)]
    obtain ⟨cell, h1, h2, h3, h4, h5, h6, h7⟩ := h.2.2.2.2.2.1
    refine ⟨cell, h1, h2, h3, h4, h5, fun j hj => ?_, h7⟩
    rw [h6 j hj]
    show some (Value.int (nI (g.2.1 (2000 + j)))) = some (Value.int (nI (g'.2.1 (2000 + j))))
    rw [he.2.2 (2000 + j) (by omega)]
theorem KA.ext {g g' : GG} {HB : Heap} {U : State} (he : ext g g' 400) (h : KA g HB U) : KA g' HB U := by
  refine ⟨?_, h.2.1, h.2.2.ext he⟩
  have e : tysG g' = tysG g := by unfold tysG; rw [he.2.1]
  rw [e, he.2.1]
  exact h.1
