/-! Templates: which symbol stands for what, and that it fits. -/
def avEq (a b : AV) : Bool := match a with
  | .inl x => match b with
    | .inl y => Nat.beq x y
    | .inr _ => false
  | .inr (.inl x) => match b with
    | .inr (.inl y) => Nat.beq x y
    | _ => false
  | .inr (.inr v) => match b with
    | .inr (.inr w) => match v, w with
      | .ref x, .ref y => Nat.beq x y
      | .retAddr x, .retAddr y => Nat.beq x y
      | .float x, .float y => Nat.beq x.toNat y.toNat
      | .double x, .double y => Nat.beq x.toNat y.toNat
      | .null, .null => true
      | _, _ => false
    | _ => false
theorem avEq_ok {a b : AV} (h : avEq a b = true) : a = b := by
  rcases a with x | x | v
  · rcases b with y | b
    · rw [Nat.eq_of_beq_eq_true h]
    · cases h
  · rcases b with y | y | b
    · cases h
    · rw [Nat.eq_of_beq_eq_true h]
    · cases h
  · rcases b with y | y | w
    · cases h
    · cases h
    · cases v <;> cases w <;> first | rfl | cases h | (rw [Nat.eq_of_beq_eq_true h]) | (rename_i x y; have e : x = y := UInt32.toNat_inj.mp (Nat.eq_of_beq_eq_true h); rw [e]) | (rename_i x y; have e : x = y := UInt64.toNat_inj.mp (Nat.eq_of_beq_eq_true h); rw [e])
/-- the ground at which the symbols from n on are the ints sg -/
def setL (g : GG) (n : Nat) (sg : List AV) : GG := (g.1, (fun i => match Nat.ble (2000 + n) i with
  | false => g.2.1 i
  | true => match sg[i - (2000 + n)]? with
    | none => g.2.1 i
    | some a => toN (gI g a)), g.2.2)
theorem setL_ext (g : GG) (n : Nat) (sg : List AV) : ext g (setL g n sg) n := by
  refine ⟨rfl, rfl, fun i hi => ?_⟩
  have hb : Nat.ble (2000 + n) i = false := by
    cases h : Nat.ble (2000 + n) i with
    | false => rfl
    | true => exact absurd (Nat.ble_eq.mp h) (by omega)
  show (match Nat.ble (2000 + n) i with | false => g.2.1 i | true => match sg[i - (2000 + n)]? with | none => g.2.1 i | some a => toN (gI g a)) = g.2.1 i
  rw [hb]
theorem setL_at {g : GG} {n c : Nat} {sg : List AV} {a : AV} (hc : n ≤ c) (ha : sg[c - n]? = some a) : gS (setL g n sg) c = gI g a := by
  have hb : Nat.ble (2000 + n) (2000 + c) = true := Nat.ble_eq.mpr (by omega)
  have e : (setL g n sg).2.1 (2000 + c) = toN (gI g a) := by
    show (match Nat.ble (2000 + n) (2000 + c) with | false => g.2.1 (2000 + c) | true => match sg[2000 + c - (2000 + n)]? with | none => g.2.1 (2000 + c) | some a => toN (gI g a)) = toN (gI g a)
    rw [hb, show 2000 + c - (2000 + n) = c - n by omega, ha]
  unfold gS
  rw [e, nI_toN]
/-- the template's value v is y's value w -/
def fitV (n : Nat) (sg : List AV) (v w : AV) : Bool := match v with
  | .inr (.inr (.retAddr k)) => match Nat.ble (10 + n) k with
    | true => match sg[k - (10 + n)]? with
      | none => false
      | some a => isI a && avEq a w
    | false => vBel n v && avEq v w
  | _ => vBel n v && avEq v w
theorem fitV_ok {g : GG} {n : Nat} {sg : List AV} {v w : AV} (h : fitV n sg v w = true) : cV (setL g n sg) v = cV g w ∧ gI (setL g n sg) v = gI g w ∧ gR (setL g n sg) v = gR g w := by
  have gen : (vBel n v && avEq v w) = true → cV (setL g n sg) v = cV g w ∧ gI (setL g n sg) v = gI g w ∧ gR (setL g n sg) v = gR g w := by
    intro h
    rw [Bool.and_eq_true] at h
    have e := avEq_ok h.2
    subst e
    exact vBel_ok h.1 (setL_ext g n sg)
  rcases v with x | x | v
  · exact gen h
  · exact gen h
  · cases v <;> first | exact gen h | skip
    rename_i k
    simp only [fitV] at h
    cases hk : Nat.ble (10 + n) k with
    | false => rw [hk] at h; exact gen h
    | true =>
      rw [hk] at h
      have h10 : 10 + n ≤ k := Nat.ble_eq.mp hk
      cases ha : sg[k - (10 + n)]? with
      | none => rw [ha] at h; cases h
      | some a =>
        rw [ha] at h
        simp only at h
        rw [Bool.and_eq_true] at h
        have e := avEq_ok h.2
        subst e
        have e1 : gS (setL g n sg) (k - 10) = gI g a := setL_at (by omega) (by rw [show k - 10 - n = k - (10 + n) by omega]; exact ha)
        have i2 : isI (.inr (.inr (.retAddr k))) = true := Nat.ble_eq.mpr (by omega)
        have e2 : gI (setL g n sg) (.inr (.inr (.retAddr k))) = gI g a := e1
        refine ⟨by rw [cV_I i2, cV_I h.1, e2], e2, ?_⟩
        have r2 : ∀ (g : GG) (a : AV), isI a = true → gR g a = 0 := by
          intro g a ha
          rcases a with x | x | v
          · rfl
          · cases ha
          · cases v <;> first | rfl | cases ha
        rw [r2 _ _ i2, r2 _ _ h.1]
def fitL (n : Nat) (sg : List AV) : List AV → List AV → Bool
  | [], [] => true
  | v :: t, w :: r => fitV n sg v w && fitL n sg t r
  | _, _ => false
theorem fitL_ok {g : GG} {n : Nat} {sg : List AV} : ∀ (st2 st : List AV), fitL n sg st2 st = true → st2.map (cV (setL g n sg)) = st.map (cV g)
  | [], [], _ => rfl
  | [], _ :: _, h => by cases h
  | _ :: _, [], h => by cases h
  | v :: t, w :: r, h => by
    unfold fitL at h
    rw [Bool.and_eq_true] at h
    rw [List.map_cons, List.map_cons, (fitV_ok h.1).1, fitL_ok t r h.2]
/-- the template's locals are among y's -/
def fitQ (n : Nat) (sg : List AV) (L2 L : List (Nat × AV)) : Bool := L2.all (fun q => match alk L q.1 with
  | none => false
  | some w => fitV n sg q.2 w)
theorem fitQ_ok {g : GG} {n : Nat} {sg : List AV} {L2 L : List (Nat × AV)} (h : fitQ n sg L2 L = true) : ∀ q ∈ cL (setL g n sg) L2, q ∈ cL g L := by
  intro q hq
  obtain ⟨q2, h2, rfl⟩ := List.mem_map.mp hq
  have h3 := List.all_eq_true.mp h q2 h2
  cases ha : alk L q2.1 with
  | none => rw [ha] at h3; cases h3
  | some w =>
    rw [ha] at h3
    have e := (fitV_ok (g := g) h3).1
    rw [e]
    exact List.mem_map.mpr ⟨(q2.1, w), alk_mem ha, rfl⟩
/-- contents: the same places told, one by one -/
def fitU (n : Nat) (sg : List AV) : List (Nat × AV) → List (Nat × AV) → Bool
  | [], [] => true
  | v :: t, w :: r => Nat.beq v.1 w.1 && (fitV n sg v.2 w.2 && fitU n sg t r)
  | _, _ => false
theorem fitU_alk {g : GG} {n : Nat} {sg : List AV} : ∀ (u2 u : List (Nat × AV)), fitU n sg u2 u = true → ∀ j : Nat, (alk u2 j = none ∧ alk u j = none) ∨ ∃ v w : AV, alk u2 j = some v ∧ alk u j = some w ∧ fitV n sg v w = true
  | [], [], _, _ => Or.inl ⟨rfl, rfl⟩
  | [], _ :: _, h, _ => by cases h
  | _ :: _, [], h, _ => by cases h
  | v :: t, w :: r, h, j => by
    unfold fitU at h
    rw [Bool.and_eq_true, Bool.and_eq_true] at h
    have e := Nat.eq_of_beq_eq_true h.1
    unfold alk
    rw [e]
    cases Nat.beq w.1 j with
    | true => exact Or.inr ⟨v.2, w.2, rfl, rfl, h.2.1⟩
    | false => exact fitU_alk (g := g) t r h.2.2 j
theorem avEq_refl_of {n : Nat} {sg : List AV} {v w : AV} (h : fitV n sg v w = true) : (∃ k, v = .inr (.inr (.retAddr k)) ∧ isI v = true ∧ isI w = true) ∨ v = w := by
  have gen : (vBel n v && avEq v w) = true → v = w := fun h => by
    rw [Bool.and_eq_true] at h
    exact avEq_ok h.2
  rcases v with x | x | v
  · exact Or.inr (gen h)
  · exact Or.inr (gen h)
  · cases v <;> first | exact Or.inr (gen h) | skip
    rename_i k
    simp only [fitV] at h
    cases hk : Nat.ble (10 + n) k with
    | false => rw [hk] at h; exact Or.inr (gen h)
    | true =>
      rw [hk] at h
      have h10 : 10 + n ≤ k := Nat.ble_eq.mp hk
      cases ha : sg[k - (10 + n)]? with
      | none => rw [ha] at h; cases h
      | some a =>
        rw [ha] at h
        simp only at h
        rw [Bool.and_eq_true] at h
        have e := avEq_ok h.2
        subst e
        exact Or.inl ⟨k, rfl, Nat.ble_eq.mpr (by omega), h.1⟩
theorem fitV_R {n : Nat} {sg : List AV} {v w : AV} (h : fitV n sg v w = true) : isR v = isR w := by
  rcases avEq_refl_of h with ⟨k, rfl, h1, h2⟩ | rfl
  · rcases w with x | x | w
    · rfl
    · rfl
    · cases w <;> first | rfl | cases h2
  · rfl
theorem fitV_L {n : Nat} {sg : List AV} {v w : AV} (h : fitV n sg v w = true) : gL v = gL w := by
  rcases avEq_refl_of h with ⟨k, rfl, h1, h2⟩ | rfl
  · rcases w with x | x | w
    · rfl
    · cases h2
    · cases w <;> first | rfl | cases h2
  · rfl
theorem fitU_J {n : Nat} {sg : List AV} {u2 u : List (Nat × AV)} (h : fitU n sg u2 u = true) : cJ u2 = cJ u := by
  funext j
  unfold cJ
  rcases fitU_alk (g := (0, fun _ => 0, (fun _ => 0, fun _ _ => 0), fun _ => 0)) u2 u h j with ⟨a1, a2⟩ | ⟨v, w, a1, a2, a3⟩
  · rw [a1, a2]
  · rw [a1, a2]; exact fitV_L a3
def fitE (n : Nat) (sg : List AV) (c2 c : AE) : Bool := match c2, c with
  | .inl x, .inl y => Nat.blt x.1 10 && (Nat.beq x.1 y.1 && (Nat.beq x.2.1 y.2.1 && fitU n sg x.2.2 y.2.2))
  | .inr x, .inr y => Nat.beq x.1 y.1 && fitL n sg x.2 y.2
  | _, _ => false
theorem fitE_ok {g : GG} {n : Nat} {sg : List AV} {c2 c : AE} (h : fitE n sg c2 c = true) : cE (setL g n sg) c2 = cE g c := by
  rcases c2 with ⟨t2, m2, u2⟩ | ⟨i2, f2⟩ <;> rcases c with ⟨t, m, u⟩ | ⟨i, f⟩
  · simp only [fitE, Bool.and_eq_true] at h
    obtain ⟨h0, h⟩ := h
    have h0 : t2 < 10 := Nat.blt_eq.mp h0
    have e1 := Nat.eq_of_beq_eq_true h.1
    have e2 := Nat.eq_of_beq_eq_true h.2.1
    subst e1 e2
    have key := fitU_alk (g := g) u2 u h.2.2
    have c1 : cI (setL g n sg) u2 = cI g u := by
      funext j
      unfold cI
      rcases key j with ⟨a1, a2⟩ | ⟨v, w, a1, a2, a3⟩
      · rw [a1, a2]
      · rw [a1, a2]; exact (fitV_ok a3).2.1
    have c3 : cQ (setL g n sg) u2 = cQ g u := by
      funext j
      unfold cQ
      rcases key j with ⟨a1, a2⟩ | ⟨v, w, a1, a2, a3⟩
      · rw [a1, a2]
      · rw [a1, a2]
        show gQ (setL g n sg) v = gQ g w
        have hr : isR v = isR w := fitV_R a3
        unfold gQ
        rw [(fitV_ok (g := g) a3).2.2, hr]
    have c2 : cJ u2 = cJ u := fitU_J h.2.2
    show Sum.inl ((setL g n sg).2.2.2 t2, cC (setL g n sg) t2 m2 u2) = Sum.inl (g.2.2.2 t2, cC g t2 m2 u)
    have hc : t2 ≠ 10 ∧ t2 ≠ 11 ∧ t2 ≠ 12 ∧ t2 ≠ 13 := by omega
    obtain ⟨n0, n1, n2, n3⟩ := hc
    have e5 : (setL g n sg).2.2.2 t2 = g.2.2.2 t2 := rfl
    rw [e5]
    unfold cC
    rw [c1, c2, c3]
    split <;> first | rfl | contradiction
  · cases h
  · cases h
  · simp only [fitE, Bool.and_eq_true] at h
    have e1 := Nat.eq_of_beq_eq_true h.1
    subst e1
    show Sum.inr (i2, f2.map (cV (setL g n sg))) = Sum.inr (i2, f.map (cV g))
    rw [fitL_ok f2 f h.2]
