/-! The tags of a message of the class: a row of eight numbers in the book of tags. -/
def T8 (h : Hp) (m : Nat) : Prop := ∃ T : Nat, h.2.2 m 6 = (T : Int) ∧ 106 ≤ T ∧ h.2.1 T = some (.inl (10, 8))
def tgr (h : Hp) (m : Nat) (j : Int) : Int := h.2.2 (h.2.2 m 6).toNat j.toNat
/-- message m has the number x -/
def InN (h : Hp) (m : Nat) (x : Int) : Prop := ∃ j : Int, 0 ≤ j ∧ j < h.2.2 m 7 ∧ tgr h m j = x
/-- nothing else has changed -/
def Only (h H : Hp) (m : Nat) : Prop := (∀ a i : Nat, a ≠ (h.2.2 m 6).toNat → (a ≠ m ∨ i ≠ 7) → H.2.2 a i = h.2.2 a i) ∧ H.2.1 = h.2.1 ∧ H.1 = h.1
def DRm (h H : Hp) (m : Nat) (x : Int) : Prop := ∃ p : Int, (0 ≤ p ∧ p < h.2.2 m 7) ∧ tgr h m p = x ∧ (∀ j : Int, 0 ≤ j → j < h.2.2 m 7 - 1 → H.2.2 (h.2.2 m 6).toNat j.toNat = if j < p then tgr h m j else tgr h m (j + 1)) ∧ H.2.2 m 7 = h.2.2 m 7 - 1 ∧ Only h H m
def PUm (h H : Hp) (m : Nat) (x : Int) : Prop := ∃ p : Int, (0 ≤ p ∧ p ≤ h.2.2 m 7) ∧ (∀ j : Int, 0 ≤ j → j ≤ h.2.2 m 7 → H.2.2 (h.2.2 m 6).toNat j.toNat = if j = p then x else if p < j then tgr h m (j - 1) else tgr h m j) ∧ H.2.2 m 7 = h.2.2 m 7 + 1 ∧ Only h H m
def TPl (h : Hp) (m : Nat) (n x : Int) : Prop := (0 ≤ x ∧ x < h.2.2 m 7 ∧ tgr h m x = n) ∨ (x = h.2.2 m 7 ∧ ∀ j : Int, 0 ≤ j → j < h.2.2 m 7 → tgr h m j ≠ n)
theorem TPl.in {h : Hp} {m : Nat} {n x : Int} (t : TPl h m n x) : (x < h.2.2 m 7 ∧ InN h m n) ∨ (x = h.2.2 m 7 ∧ ¬ InN h m n) := by
  rcases t with ⟨t1, t2, t3⟩ | ⟨t1, t2⟩
  · exact Or.inl ⟨t2, x, t1, t2, t3⟩
  · exact Or.inr ⟨t1, fun ⟨j, j1, j2, j3⟩ => t2 j j1 j2 j3⟩
/-- what the loop of dropTag knows -/
def DL (h H : Hp) (T : Nat) (p k c : Int) : Prop := ∀ j : Int, 0 ≤ j → j < c → H.2.2 T j.toNat = if p ≤ j ∧ j < k then h.2.2 T (j + 1).toNat else h.2.2 T j.toNat
theorem DL.s {h : Hp} {T : Nat} {p c : Int} : DL h h T p p c := fun j _ _ => by rw [if_neg (by omega)]
theorem DL.go {h h1 H : Hp} {T : Nat} {p k c x : Int} (d : DL h h1 T p k c) (hk : 0 ≤ p ∧ p ≤ k ∧ k + 1 < c) (hx : h1.2.2 T (Int.toNat (k + 1)) = x) (e : H = wr h1 T (Int.toNat k) x) : DL h H T p (k + 1) c := by
  intro j j0 j1
  have dk := d (k + 1) (by omega) hk.2.2
  rw [if_neg (by omega), hx] at dk
  rw [e]
  by_cases c1 : j = k
  · rw [c1, wr_eq, if_pos (by omega)]
    exact dk
  · rw [wr_ne2 (show j.toNat ≠ k.toNat by omega), d j j0 j1]
    by_cases c2 : p ≤ j ∧ j < k
    · rw [if_pos c2, if_pos (by omega)]
    · rw [if_neg c2, if_neg (by omega)]
def PLx (h H : Hp) (T : Nat) (k c : Int) : Prop := ∀ j : Int, 0 ≤ j → j ≤ c → H.2.2 T j.toNat = if k < j then h.2.2 T (j - 1).toNat else h.2.2 T j.toNat
theorem PLx.s {h : Hp} {T : Nat} {c : Int} : PLx h h T c c := fun j _ _ => by rw [if_neg (by omega)]
theorem PLx.go {h h1 H : Hp} {T : Nat} {k c x : Int} (d : PLx h h1 T k c) (hk : 0 < k ∧ k ≤ c) (hx : h1.2.2 T (Int.toNat (k - 1)) = x) (e : H = wr h1 T (Int.toNat k) x) : PLx h H T (k - 1) c := by
  intro j j0 j1
  have dk := d (k - 1) (by omega) (by omega)
  rw [if_neg (by omega), hx] at dk
  rw [e]
  by_cases c1 : j = k
  · rw [c1, wr_eq, if_pos (by omega)]
    exact dk
  · rw [wr_ne2 (show j.toNat ≠ k.toNat by omega), d j j0 j1]
    by_cases c2 : k < j
    · rw [if_pos c2, if_pos (by omega)]
    · rw [if_neg c2, if_neg (by omega)]
/-- only row T so far -/
def OnT (h H : Hp) (T : Nat) : Prop := (∀ a i : Nat, a ≠ T → H.2.2 a i = h.2.2 a i) ∧ H.2.1 = h.2.1 ∧ H.1 = h.1
theorem OnT.s {h : Hp} {T : Nat} : OnT h h T := ⟨fun _ _ _ => rfl, rfl, rfl⟩
theorem OnT.go {h h1 H : Hp} {T j : Nat} {x : Int} (o : OnT h h1 T) (e : H = wr h1 T j x) : OnT h H T := by
  refine ⟨fun a i ha => ?_, by rw [e]; exact o.2.1, by rw [e]; exact o.2.2⟩
  rw [e, wr_ne ha]
  exact o.1 a i ha
theorem OnT.fin {h h1 H : Hp} {T m : Nat} {y : Int} (o : OnT h h1 T) (hT : h.2.2 m 6 = (T : Int)) (e : H = wr h1 m 7 y) : Only h H m := by
  refine ⟨fun a i ha hi => ?_, by rw [e]; exact o.2.1, by rw [e]; exact o.2.2⟩
  rw [hT, Int.toNat_natCast] at ha
  rw [e]
  have : (wr h1 m 7 y).2.2 a i = h1.2.2 a i := by
    rcases hi with hi | hi
    · exact wr_ne hi
    · by_cases c : a = m
      · rw [c]; exact wr_ne2 hi
      · exact wr_ne c
  rw [this]
  exact o.1 a i ha
theorem DL.fin {h h1 H : Hp} {T m : Nat} {p k c n y : Int} (d : DL h h1 T p k c) (o : OnT h h1 T) (hT : h.2.2 m 6 = (T : Int)) (hm : m ≠ T) (ec : h.2.2 m 7 = c) (hp : 0 ≤ p ∧ p < c) (hn : tgr h m p = n) (hk : c - 1 ≤ k) (e : H = wr h1 m 7 y) (hy : y = c - 1) : DRm h H m n := by
  refine ⟨p, by omega, hn, fun j j0 j1 => ?_, by rw [e, wr_eq, hy, ec], o.fin hT e⟩
  have z := d j j0 (by omega)
  unfold tgr
  rw [hT, Int.toNat_natCast, e, wr_ne (fun q => hm q.symm), z]
  by_cases c1 : j < p
  · rw [if_pos c1, if_neg (by omega)]
  · rw [if_neg c1, if_pos (by omega)]
theorem PLx.fin {h h1 h2 H : Hp} {T m : Nat} {k c n y : Int} (d : PLx h h1 T k c) (o : OnT h h1 T) (hT : h.2.2 m 6 = (T : Int)) (hm : m ≠ T) (ec : h.2.2 m 7 = c) (hk : 0 ≤ k ∧ k ≤ c) (e2 : h2 = wr h1 T (Int.toNat k) n) (e : H = wr h2 m 7 y) (hy : y = c + 1) : PUm h H m n := by
  refine ⟨k, by omega, fun j j0 j1 => ?_, by rw [e, wr_eq, hy, ec], (o.go e2).fin hT e⟩
  unfold tgr
  rw [hT, Int.toNat_natCast, e, wr_ne (fun q => hm q.symm), e2]
  by_cases c1 : j = k
  · rw [if_pos c1, c1, wr_eq]
  · rw [if_neg c1, wr_ne2 (show j.toNat ≠ k.toNat by omega), d j j0 (by omega)]
