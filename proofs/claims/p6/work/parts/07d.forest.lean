/-! The forest of nodes. -/
theorem Cch.mk {H : Hp} {m s : Int} (e : H.2.2 60 12 = m) (hm : 0 ≤ m ∧ m < H.2.2 60 4) (es : H.2.2 64 m.toNat = s) (h0 : H.2.2 69 0 ≤ s + 1) (h1 : H.2.2 69 1 ≤ s + 1) (h2 : H.2.2 69 2 ≤ s + 1) (h3 : H.2.2 69 3 ≤ 200) : Cch H := by
  subst e es
  refine Or.inr ⟨hm.1, hm.2, fun i hi => ?_, h3⟩
  rcases (show i = 0 ∨ i = 1 ∨ i = 2 by omega) with rfl | rfl | rfl
  · exact h0
  · exact h1
  · exact h2
def ux (h : Hp) (k : Int) : Int := if k < 0 then k else h.2.2 85 k.toNat
def itU (h : Hp) (n : Nat) (a : Int) : Int := match n with
  | 0 => a
  | n + 1 => itU h n (ux h a)
/-- b stands at a or above it -/
def Abv (h : Hp) (a b : Int) : Prop := ∃ n, itU h n a = b
theorem Abv.rf {h : Hp} {a : Int} : Abv h a a := ⟨0, rfl⟩
theorem Abv.up {h : Hp} {a b : Int} (k : Abv h a b) (hne : a ≠ b) : Abv h (ux h a) b := by
  obtain ⟨n, hn⟩ := k
  cases n with
  | zero => exact absurd hn hne
  | succ n => exact ⟨n, hn⟩
theorem Abv.down {h : Hp} {a b : Int} (k : Abv h (ux h a) b) : Abv h a b := by
  obtain ⟨n, hn⟩ := k
  exact ⟨n + 1, hn⟩
theorem itU_neg {h : Hp} : ∀ n : Nat, itU h n (-1) = -1
  | 0 => rfl
  | n + 1 => by
    show itU h n (ux h (-1)) = -1
    have e : ux h (-1) = -1 := rfl
    rw [e]
    exact itU_neg n
theorem Abv.next {h : Hp} {k b x : Int} (q : Abv h k b) (hne : k ≠ b) (hk : 0 ≤ k) (e : h.2.2 85 k.toNat = x) : Abv h x b := by
  have h1 := q.up hne
  unfold ux at h1
  rw [if_neg (by omega), e] at h1
  exact h1
theorem Abv.no {h : Hp} {a b k : Int} (f : Abv h a b → Abv h k b) (hk : k = -1 ∨ k = b) (hne : k ≠ b) (hb : 0 ≤ b) : ¬ Abv h a b := fun q => by
  obtain ⟨n, hn⟩ := f q
  have e : k = -1 := hk.resolve_right hne
  rw [e, itU_neg] at hn
  omega
def FR (h : Hp) (rk : Nat → Nat) : Prop := ∀ k : Nat, (k : Int) < h.2.2 60 37 → h.2.2 85 k = -1 ∨ (0 ≤ h.2.2 85 k ∧ h.2.2 85 k < h.2.2 60 37 ∧ rk (h.2.2 85 k).toNat < rk k)
def Forest (h : Hp) : Prop := ∃ rk : Nat → Nat, FR h rk
noncomputable def rkOf (h : Hp) : Nat → Nat := Classical.epsilon (FR h)
theorem rkOf_spec {h : Hp} (hF : Forest h) : FR h (rkOf h) := Classical.epsilon_spec hF
noncomputable def rkM (h : Hp) (k : Int) : Int := if k < 0 then 0 else (rkOf h k.toNat : Int) + 1
noncomputable def rkN (h : Hp) (m : Int) : Int := if m < 0 then 0 else rkM h (h.2.2 87 m.toNat)
theorem rkM_ge {h : Hp} {k : Int} : 0 ≤ rkM h k := by
  unfold rkM
  split <;> omega
theorem Forest.step {h : Hp} (hF : Forest h) {k : Int} (hk : 0 ≤ k ∧ k < h.2.2 60 37) : (h.2.2 85 k.toNat = -1 ∨ (0 ≤ h.2.2 85 k.toNat ∧ h.2.2 85 k.toNat < h.2.2 60 37)) ∧ rkM h (h.2.2 85 k.toNat) < rkM h k ∧ 0 ≤ rkM h (h.2.2 85 k.toNat) := by
  have h1 := rkOf_spec hF k.toNat (by omega)
  refine ⟨?_, ?_, rkM_ge⟩
  · rcases h1 with h1 | h1
    · exact Or.inl h1
    · exact Or.inr ⟨h1.1, h1.2.1⟩
  · unfold rkM
    rw [if_neg (show ¬ k < 0 by omega)]
    rcases h1 with h1 | h1
    · rw [h1, if_pos (by decide)]; omega
    · rw [if_neg (by omega)]; omega
theorem Forest.fr_ {h H : Hp} (e1 : ∀ k : Nat, (k : Int) < h.2.2 60 37 → H.2.2 85 k = h.2.2 85 k) (e2 : H.2.2 60 37 = h.2.2 60 37) (k : Forest h) : Forest H := by
  obtain ⟨rk, hr⟩ := k
  refine ⟨rk, fun k hk => ?_⟩
  rw [e2] at hk ⊢
  rw [e1 k hk]
  exact hr k hk
theorem Forest.new {h H : Hp} (e1 : ∀ k : Nat, (k : Int) < h.2.2 60 37 → H.2.2 85 k = h.2.2 85 k) (e2 : H.2.2 60 37 = h.2.2 60 37 + 1) (e3 : H.2.2 85 (h.2.2 60 37).toNat = -1) (h0 : 0 ≤ h.2.2 60 37) (k : Forest h) : Forest H := by
  obtain ⟨rk, hr⟩ := k
  refine ⟨rk, fun k hk => ?_⟩
  rw [e2] at hk ⊢
  by_cases hn : (k : Int) < h.2.2 60 37
  · rw [e1 k hn]
    rcases hr k hn with h1 | h1
    · exact Or.inl h1
    · exact Or.inr ⟨h1.1, by omega, h1.2.2⟩
  · have e : k = (h.2.2 60 37).toNat := by omega
    subst e
    exact Or.inl e3
theorem Forest.hang {h : Hp} {a b : Int} (hF : Forest h) (ha : 0 ≤ a ∧ a < h.2.2 60 37) (hb : 0 ≤ b ∧ b < h.2.2 60 37) (hn : ¬ Abv h b a) : Forest (wr h 85 a.toNat b) := by
  classical
  obtain ⟨rk, hr⟩ := hF
  have e60 : (wr h 85 a.toNat b).2.2 60 37 = h.2.2 60 37 := wr_ne (by decide)
  refine ⟨fun x => if Abv h (x : Int) a then rk x + (rk b.toNat + 1) else rk x, fun k hk => ?_⟩
  rw [e60] at hk ⊢
  by_cases hka : k = a.toNat
  · subst hka
    rw [wr_eq]
    refine Or.inr ⟨hb.1, hb.2, ?_⟩
    have e1 : ((b.toNat : Nat) : Int) = b := by omega
    have e2 : ((a.toNat : Nat) : Int) = a := by omega
    simp only [e1, e2]
    rw [if_neg hn, if_pos Abv.rf]
    omega
  · rw [wr_ne2 hka]
    rcases hr k hk with h1 | ⟨h1, h2, h3⟩
    · exact Or.inl h1
    · refine Or.inr ⟨h1, h2, ?_⟩
      have e1 : (((h.2.2 85 k).toNat : Nat) : Int) = h.2.2 85 k := by omega
      have eu : ux h (k : Int) = h.2.2 85 k := by
        unfold ux
        rw [if_neg (by omega)]
        rfl
      simp only [e1]
      by_cases hA : Abv h (k : Int) a
      · have hA2 := hA.up (by omega)
        rw [eu] at hA2
        rw [if_pos hA, if_pos hA2]
        omega
      · have hA2 : ¬ Abv h (h.2.2 85 k) a := fun q => hA (Abv.down (by rw [eu]; exact q))
        rw [if_neg hA, if_neg hA2]
        exact h3
def OwnOK (h : Hp) (m : Int) : Prop := ∀ k : Nat, (k : Int) < h.2.2 60 37 → h.2.2 86 k = -1 ∨ (0 ≤ h.2.2 86 k ∧ h.2.2 86 k < m ∧ h.2.2 87 (h.2.2 86 k).toNat = (k : Int))
def NodOK (h : Hp) (m : Int) : Prop := ∀ i : Nat, (i : Int) < m → h.2.2 65 i = 0 ∨ h.2.2 87 i < h.2.2 60 37
/-- linked, all messages below m -/
def LkF (h : Hp) (m : Int) : Prop := Forest h ∧ OwnOK h m ∧ NodOK h m
def Lkd (h : Hp) : Prop := LkF h (h.2.2 60 4)
/-- a node is found, or a new one made -/
def NodeP (h H : Hp) (x : Int) : Prop := (H.2.2 60 37 = h.2.2 60 37 ∧ H.2.2 85 = h.2.2 85 ∧ H.2.2 86 = h.2.2 86) ∨ (x = h.2.2 60 37 ∧ H.2.2 60 37 = h.2.2 60 37 + 1 ∧ (∀ i, i ≠ x.toNat → H.2.2 85 i = h.2.2 85 i ∧ H.2.2 86 i = h.2.2 86 i) ∧ H.2.2 85 x.toNat = -1 ∧ H.2.2 86 x.toNat = -1)
theorem LkF.node {h H : Hp} {m x : Int} (k : LkF h m) (p : NodeP h H x) (h0 : 0 ≤ h.2.2 60 37) (e87 : H.2.2 87 = h.2.2 87) (e65 : H.2.2 65 = h.2.2 65) : LkF H m := by
  obtain ⟨k1, k2, k3⟩ := k
  rcases p with ⟨p1, p2, p3⟩ | ⟨p1, p2, p3, p4, p5⟩
  · refine ⟨k1.fr_ (fun k _ => by rw [p2]) p1, fun k hk => ?_, fun i hi => ?_⟩
    · rw [p3, e87]
      exact k2 k (by omega)
    · rw [e65, e87, p1]
      exact k3 i hi
  · subst p1
    refine ⟨k1.new (fun k hk => (p3 k (by omega)).1) p2 p4 h0, fun k hk => ?_, fun i hi => ?_⟩
    · rw [e87]
      by_cases hn : k = (h.2.2 60 37).toNat
      · subst hn
        exact Or.inl p5
      · rw [(p3 k hn).2]
        exact k2 k (by omega)
    · rw [e65, e87, p2]
      rcases k3 i hi with h1 | h1
      · exact Or.inl h1
      · exact Or.inr (by omega)
theorem LkF.own {h : Hp} {m x : Int} (k : LkF h m) (hm : 0 ≤ m) (hx : 0 ≤ x ∧ x < h.2.2 60 37) : LkF (wr (wr h 86 x.toNat m) 87 m.toNat x) (m + 1) := by
  obtain ⟨k1, k2, k3⟩ := k
  have e60 : (wr (wr h 86 x.toNat m) 87 m.toNat x).2.2 60 37 = h.2.2 60 37 := by rw [wr_ne (by decide), wr_ne (by decide)]
  have e85 : (wr (wr h 86 x.toNat m) 87 m.toNat x).2.2 85 = h.2.2 85 := funext fun i => by rw [wr_ne (by decide), wr_ne (by decide)]
  have e65 : ∀ i, (wr (wr h 86 x.toNat m) 87 m.toNat x).2.2 65 i = h.2.2 65 i := fun i => by rw [wr_ne (by decide), wr_ne (by decide)]
  have e86 : ∀ i, (wr (wr h 86 x.toNat m) 87 m.toNat x).2.2 86 i = (wr h 86 x.toNat m).2.2 86 i := fun i => wr_ne (by decide)
  have e87 : ∀ i, (wr h 86 x.toNat m).2.2 87 i = h.2.2 87 i := fun i => wr_ne (by decide)
  refine ⟨k1.fr_ (fun k _ => by rw [e85]) e60, fun k hk => ?_, fun i hi => ?_⟩
  · rw [e60] at hk
    rw [e86]
    by_cases hn : k = x.toNat
    · subst hn
      rw [wr_eq, wr_eq]
      exact Or.inr ⟨hm, by omega, by omega⟩
    · rw [wr_ne2 hn]
      rcases k2 k hk with h1 | ⟨h1, h2, h3⟩
      · exact Or.inl h1
      · refine Or.inr ⟨h1, by omega, ?_⟩
        rw [wr_ne2 (by omega), e87]
        exact h3
  · rw [e65, e60]
    by_cases hn : i = m.toNat
    · subst hn
      rw [wr_eq]
      exact Or.inr hx.2
    · rw [wr_ne2 hn, e87]
      exact k3 i (by omega)
theorem LkF.hang {h : Hp} {m a b : Int} (k : LkF h m) (ha : 0 ≤ a ∧ a < h.2.2 60 37) (hb : 0 ≤ b ∧ b < h.2.2 60 37) (hn : ¬ Abv h b a) : LkF (wr h 85 a.toNat b) m := by
  obtain ⟨k1, k2, k3⟩ := k
  have e60 : (wr h 85 a.toNat b).2.2 60 37 = h.2.2 60 37 := wr_ne (by decide)
  refine ⟨k1.hang ha hb hn, fun k hk => ?_, fun i hi => ?_⟩
  · rw [e60] at hk
    rw [wr_ne (by decide), wr_ne (by decide)]
    exact k2 k hk
  · rw [wr_ne (by decide), wr_ne (by decide), e60]
    exact k3 i hi
theorem LkF.same {h H : Hp} {m : Int} (k : LkF h m) (e85 : H.2.2 85 = h.2.2 85) (e86 : H.2.2 86 = h.2.2 86) (e87 : H.2.2 87 = h.2.2 87) (e65 : H.2.2 65 = h.2.2 65) (e : H.2.2 60 37 = h.2.2 60 37) : LkF H m := by
  obtain ⟨k1, k2, k3⟩ := k
  refine ⟨k1.fr_ (fun k _ => by rw [e85]) e, fun k hk => ?_, fun i hi => ?_⟩
  · rw [e86, e87]
    exact k2 k (by omega)
  · rw [e65, e87, e]
    exact k3 i hi
def fcol (S : List Nat) : Bool := !S.contains 85 && (!S.contains 86 && (!S.contains 87 && (!S.contains 65 && !S.contains 237)))
theorem LkF.fr {S : List Nat} {h h' : Hp} {m : Int} (f : Fr S h h') (hI : Inv h) (hs : fcol S = true) (k : LkF h m) : LkF h' m := by
  unfold fcol at hs
  simp only [Bool.and_eq_true, Bool.not_eq_true'] at hs
  obtain ⟨s1, s2, s3, s4, s5⟩ := hs
  exact k.same (f.arr hI (by decide) (fun _ => s1)) (f.arr hI (by decide) (fun _ => s2)) (f.arr hI (by decide) (fun _ => s3)) (f.arr hI (by decide) (fun _ => s4)) (f.getF hI (by decide) s5)
def lcol (S : List Nat) : Bool := fcol S && !S.contains 204
theorem Lkd_fr {S : List Nat} {h h' : Hp} (f : Fr S h h') (hI : Inv h) (hs : lcol S = true) (k : Lkd h) : Lkd h' := by
  unfold lcol at hs
  rw [Bool.and_eq_true] at hs
  have e := f.getF hI (a := 60) (j := 4) (by decide) (by have := hs.2; rw [Bool.not_eq_true'] at this; exact this)
  unfold Lkd
  rw [e]
  exact k.fr f hI hs.1
def fout (a j : Nat) : Bool := !(Nat.beq a 85) && (!(Nat.beq a 86) && (!(Nat.beq a 87) && (!(Nat.beq a 65) && (!(Nat.beq a 60 && Nat.beq j 37) && !(Nat.beq a 60 && Nat.beq j 4)))))
theorem LkF.wrt {h : Hp} {a j : Nat} {x m : Int} (hs : fout a j = true) (k : LkF h m) : LkF (wr h a j x) m := by
  unfold fout at hs
  simp only [Bool.and_eq_true] at hs
  obtain ⟨s1, s2, s3, s4, s5, s6⟩ := hs
  exact k.same (funext fun i => wr_ne (beq_no s1)) (funext fun i => wr_ne (beq_no s2)) (funext fun i => wr_ne (beq_no s3)) (funext fun i => wr_ne (beq_no s4)) (beq_no2 s5)
theorem Lkd_wr {h : Hp} {a j : Nat} {x : Int} (hs : fout a j = true) (k : Lkd h) : Lkd (wr h a j x) := by
  have hs0 := hs
  unfold fout at hs
  simp only [Bool.and_eq_true] at hs
  unfold Lkd
  rw [beq_no2 hs.2.2.2.2.2]
  exact LkF.wrt hs0 k
theorem LkF.zero {h : Hp} : LkF (wr h 60 37 0) 0 := by
  refine ⟨⟨fun _ => 0, fun k hk => ?_⟩, fun k hk => ?_, fun i hi => ?_⟩
  · rw [wr_eq] at hk; omega
  · rw [wr_eq] at hk; omega
  · omega
theorem LkF.mono {h : Hp} {m m' : Int} (k : LkF h m) (h0 : h.2.2 65 m.toNat = 0) (e : m' = m + 1) (hm : 0 ≤ m) : LkF h m' := by
  obtain ⟨k1, k2, k3⟩ := k
  refine ⟨k1, fun k hk => ?_, fun i hi => ?_⟩
  · rcases k2 k hk with h1 | ⟨h1, h2, h3⟩
    · exact Or.inl h1
    · exact Or.inr ⟨h1, by omega, h3⟩
  · by_cases hn : i = m.toNat
    · subst hn; exact Or.inl h0
    · exact k3 i (by omega)
theorem rkN_step {h : Hp} {m k x : Int} (hm : 0 ≤ m) (hk : 0 ≤ k) (hlt : rkM h k < rkM h (h.2.2 87 m.toNat)) (hx : 0 ≤ x) (e : h.2.2 87 x.toNat = k) : rkN h x < rkN h m := by
  unfold rkN
  rw [if_neg (by omega), if_neg (by omega), e]
  exact hlt
theorem rkN_end {h : Hp} {m : Int} (hm : 0 ≤ m) (hn : 0 ≤ h.2.2 87 m.toNat) : rkN h (-1) < rkN h m := by
  unfold rkN rkM
  rw [if_pos (by decide), if_neg (by omega), if_neg (by omega)]
  omega
theorem rkN_ge {h : Hp} {m : Int} : 0 ≤ rkN h m := by
  unfold rkN
  split
  · omega
  · exact rkM_ge
theorem NodeP.mk {h H0 H1 H2 H3 H : Hp} {n x X y : Int} (w1 : H1 = wr H0 84 x.toNat n) (w2 : H2 = wr H1 85 x.toNat (-1)) (w3 : H3 = wr H2 86 x.toNat (-1)) (w4 : H = wr H3 60 37 y) (e0 : H0.2.2 60 37 = x) (e85 : H0.2.2 85 = h.2.2 85) (e86 : H0.2.2 86 = h.2.2 86) (eo : h.2.2 60 37 = X) (hx : x = X ∧ y = x + 1 ∧ 0 ≤ x) : NodeP h H (y - 1) := by
  obtain ⟨h1, h2, h3⟩ := hx
  subst h1 h2
  rw [show x + 1 - 1 = x by omega]
  subst w1 w2 w3 w4
  refine Or.inr ⟨eo.symm, by rw [wr_eq, eo], fun i hi => ?_, ?_, ?_⟩
  · simp only [wr_if]
    simp [hi, e85, e86]
  · simp [wr_if]
  · simp [wr_if]
theorem to_iincA {l : Launch} {E : ME} {pc : Nat} {L : LL} {st : List V} {h : Hp} {k z : Nat} {F : Option V → Hp → Nat → Nat → Prop} {i : Nat} {d x : Int} {L' : Int → LL} (hd : decode E.1 pc = .ok (.iinc i d, 3)) (ha : alk L i = some (.inl x)) (hi : i < E.2.1) (hL : ∀ y : Int, ups i (.inl y) L = L' y) (k0 : ∀ y : Int, I32 y → To l E (pc + 3, L' y, st, h, k, z) F) : To l E (pc, L, st, h, k, z) F := by
  refine to_of (sx_pure (fun g HB p e R s m args below meth c Q H locs ls hC hl kk => ?_)) (k0 (Int32.ofInt (x + d)).toInt (i32_toInt _))
  have hm : (i, dv g (.inl x)) ∈ dL g L := List.mem_map.mpr ⟨(i, .inl x), alk_mem ha, rfl⟩
  obtain ⟨j, hj⟩ := List.getElem?_of_mem hm
  have e : Value.int (Int32.ofInt x + Int32.ofInt d) = dv g (.inl (Int32.ofInt (x + d)).toInt) := by
    rw [← Int32.ofInt_add]
    exact (congrArg Value.int (ofInt_toInt _)).symm
  exact lv_iinc hC.1.1 hC.1.2.1 hd hl hj rfl hi rfl (fun ls' h' => kk ls' (lv_less h' (by rw [← hL, e]; exact ups_sub)))
