/-! Sums that wrap, masks, exactly. -/
def mulq (x y : Int) : Int := (Int32.ofInt x * Int32.ofInt y).toInt
def addq (x y : Int) : Int := (Int32.ofInt x + Int32.ofInt y).toInt
def xorq (x y : Int) : Int := (Int32.ofInt x ^^^ Int32.ofInt y).toInt
def ushq (x y : Int) : Int := (((Int32.ofInt x).toUInt32 >>> ((Int32.ofInt y).toUInt32 &&& Int32.toUInt32 31)).toInt32).toInt
def andq (x y : Int) : Int := (Int32.ofInt x &&& Int32.ofInt y).toInt
section TOQ
variable {l : Launch} {E : ME} {pc : Nat} {L : LL} {st : List V} {h : Hp} {k z : Nat} {F : Option V → Hp → Nat → Nat → Prop}
theorem to_imulq {x y : Int} (hd : decode E.1 pc = .ok (.imul, 1)) (k0 : ∀ n : Int, I32 n → n = mulq x y → To l E (pc + 1, L, .inl n :: st, h, k, z) F) : To l E (pc, L, .inl y :: .inl x :: st, h, k, z) F :=
  to_someI (P := fun n => n = mulq x y) (Int32.ofInt x * Int32.ofInt y) rfl (fun g HB p e R s m args below meth c Q H locs ls hC hl kk => lv_imul hC.1.1 hC.1.2.1 hd kk) k0
theorem to_iaddq {x y : Int} (hd : decode E.1 pc = .ok (.iadd, 1)) (k0 : ∀ n : Int, I32 n → n = addq x y → To l E (pc + 1, L, .inl n :: st, h, k, z) F) : To l E (pc, L, .inl y :: .inl x :: st, h, k, z) F :=
  to_someI (P := fun n => n = addq x y) (Int32.ofInt x + Int32.ofInt y) rfl (fun g HB p e R s m args below meth c Q H locs ls hC hl kk => lv_iadd hC.1.1 hC.1.2.1 hd kk) k0
theorem to_ixorq {x y : Int} (hd : decode E.1 pc = .ok (.ixor, 1)) (k0 : ∀ n : Int, I32 n → n = xorq x y → To l E (pc + 1, L, .inl n :: st, h, k, z) F) : To l E (pc, L, .inl y :: .inl x :: st, h, k, z) F :=
  to_someI (P := fun n => n = xorq x y) (Int32.ofInt x ^^^ Int32.ofInt y) rfl (fun g HB p e R s m args below meth c Q H locs ls hC hl kk => lv_ixor hC.1.1 hC.1.2.1 hd kk) k0
theorem to_iushrq {x y : Int} (hd : decode E.1 pc = .ok (.iushr, 1)) (k0 : ∀ n : Int, I32 n → n = ushq x y → To l E (pc + 1, L, .inl n :: st, h, k, z) F) : To l E (pc, L, .inl y :: .inl x :: st, h, k, z) F :=
  to_someI (P := fun n => n = ushq x y) (((Int32.ofInt x).toUInt32 >>> ((Int32.ofInt y).toUInt32 &&& Int32.toUInt32 31)).toInt32) rfl (fun g HB p e R s m args below meth c Q H locs ls hC hl kk => lv_iushr hC.1.1 hC.1.2.1 hd rfl kk) k0
theorem to_iandq {x : Int} (m : Int) (n : Nat) (hd : decode E.1 pc = .ok (.iand, 1)) (hm : (Int32.ofInt m).toBitVec.toNat = n) (hn : n < 2147483648) (k0 : ∀ y : Int, I32 y → (y = andq x m ∧ 0 ≤ y ∧ y ≤ n) → To l E (pc + 1, L, .inl y :: st, h, k, z) F) : To l E (pc, L, .inl m :: .inl x :: st, h, k, z) F :=
  to_someI (P := fun y => y = andq x m ∧ 0 ≤ y ∧ y ≤ n) (Int32.ofInt x &&& Int32.ofInt m) ⟨rfl, and_low _ hm hn⟩ (fun g HB p e R s m args below meth c Q H locs ls hC hl kk => lv_iand hC.1.1 hC.1.2.1 hd kk) k0
end TOQ
/-- a text's slot -/
def smF (r : Nat → Int) : Nat → Int
  | 0 => 0
  | k + 1 => addq (mulq (smF r k) 31) (r k % 256)
def slF (r : Nat → Int) (n : Int) : Int := andq (xorq (smF r n.toNat) (ushq (smF r n.toNat) 10)) 1023
theorem smF_cg {r r' : Nat → Int} : ∀ k : Nat, (∀ i, i < k → r i = r' i) → smF r k = smF r' k
  | 0, _ => rfl
  | k + 1, h => by
    show addq (mulq (smF r k) 31) (r k % 256) = addq (mulq (smF r' k) 31) (r' k % 256)
    rw [smF_cg k (fun i hi => h i (by omega)), h k (by omega)]
theorem slF_cg {r r' : Nat → Int} {n n' : Int} (e : EqT r n r' n') : slF r n = slF r' n' := by
  obtain ⟨e1, e2⟩ := e
  subst e1
  unfold slF
  rw [smF_cg n.toNat (fun i hi => e2 i (by omega))]
/-! The book of tags (name 20): its rows. -/
def bE (h : Hp) : Int := h.2.2 20 5
def nx_ (h : Hp) (k : Int) : Int := h.2.2 (h.2.2 20 1).toNat k.toNat
def st_ (h : Hp) (k : Int) : Int := h.2.2 (h.2.2 20 2).toNat k.toNat
def by_ (h : Hp) (k : Int) : Int := h.2.2 (h.2.2 20 4).toNat k.toNat
def hd_ (h : Hp) (s : Int) : Int := h.2.2 21 s.toNat
/-- entry k: its bytes, their number, its slot -/
def tx (h : Hp) (k : Int) (i : Nat) : Int := by_ h (st_ h k + i)
def tn (h : Hp) (k : Int) : Int := st_ h (k + 1) - st_ h k
def EqB (h : Hp) (k : Int) (r : Nat → Int) (n : Int) : Prop := EqT (tx h k) (tn h k) r n
def slE (h : Hp) (k : Int) : Int := slF (tx h k) (tn h k)
def HdOK (h : Hp) (s : Int) : Prop := (-1 ≤ hd_ h s - 1 ∧ hd_ h s - 1 < bE h) ∧ (0 ≤ hd_ h s - 1 → slE h (hd_ h s - 1) = s) ∧ ∀ j : Int, hd_ h s - 1 < j → j < bE h → slE h j ≠ s
def NxOK (h : Hp) (k : Int) : Prop := (-1 ≤ nx_ h k ∧ nx_ h k < k) ∧ (0 ≤ nx_ h k → slE h (nx_ h k) = slE h k) ∧ ∀ j : Int, nx_ h k < j → j < k → slE h j ≠ slE h k
def BI (h : Hp) : Prop := (0 ≤ st_ h 0 ∧ ∀ k : Int, 0 ≤ k → k < bE h → st_ h k ≤ st_ h (k + 1)) ∧ st_ h (bE h) ≤ len h (h.2.2 20 4).toNat ∧ (∀ s : Int, 0 ≤ s → s < 1024 → HdOK h s) ∧ (∀ k : Int, 0 ≤ k → k < bE h → NxOK h k) ∧ ∀ a b : Int, 0 ≤ a → a < b → b < bE h → ¬ EqB h a (tx h b) (tn h b)
theorem BI.mono {h : Hp} (b : BI h) : ∀ (d : Nat) (k : Int), 0 ≤ k → k + d ≤ bE h → st_ h k ≤ st_ h (k + d)
  | 0, k, h0, hk => by
    have e : k + ((0 : Nat) : Int) = k := by omega
    rw [e]
    exact Int.le_refl _
  | d + 1, k, h0, hk => by
    have h1 := BI.mono b d k h0 (by omega)
    have h2 := b.1.2 (k + d) (by omega) (by omega)
    rw [show k + ((d + 1 : Nat) : Int) = k + (d : Int) + 1 by omega]
    omega
theorem BI.le {h : Hp} (b : BI h) {i j : Int} (hi : 0 ≤ i) (hij : i ≤ j) (hj : j ≤ bE h) : st_ h i ≤ st_ h j := by
  have := b.mono (j - i).toNat i hi (by omega)
  rw [show i + ((j - i).toNat : Int) = j by omega] at this
  exact this
theorem BI.ge0 {h : Hp} (b : BI h) {i : Int} (hi : 0 ≤ i) (hj : i ≤ bE h) : 0 ≤ st_ h i := by
  have := b.le (i := 0) (by decide) hi hj
  have := b.1.1
  omega
/-- one text, one entry -/
theorem BI.one {h : Hp} (b : BI h) {i j : Int} {r : Nat → Int} {n : Int} (hi : 0 ≤ i ∧ i < bE h) (hj : 0 ≤ j ∧ j < bE h) (ei : EqB h i r n) (ej : EqB h j r n) : i = j := by
  by_cases c1 : i < j
  · exact absurd (EqT.tr ei (EqT.sy ej)) (b.2.2.2.2 i j hi.1 c1 hj.2)
  · by_cases c2 : j < i
    · exact absurd (EqT.tr ej (EqT.sy ei)) (b.2.2.2.2 j i hj.1 c2 hi.2)
    · omega
/-- what find knows while it looks -/
def FI (h : Hp) (r : Nat → Int) (n k : Int) : Prop := (-1 ≤ k ∧ k < bE h) ∧ (0 ≤ k → slE h k = slF r n) ∧ ∀ j : Int, 0 ≤ j → k < j → j < bE h → ¬ EqB h j r n
theorem FI.s {h : Hp} (b : BI h) {r : Nat → Int} {n s : Int} (hs : s = slF r n) (h0 : 0 ≤ s ∧ s < 1024) : FI h r n (hd_ h s - 1) := by
  obtain ⟨q1, q2, q3⟩ := b.2.2.1 s h0.1 h0.2
  refine ⟨q1, fun h1 => (q2 h1).trans hs, fun j _ h1 h2 e => q3 j h1 h2 ?_⟩
  rw [hs]
  exact slF_cg e
theorem FI.go {h : Hp} (b : BI h) {r : Nat → Int} {n k : Int} (f : FI h r n k) (h0 : 0 ≤ k) (hn : ¬ EqB h k r n) : FI h r n (nx_ h k) := by
  obtain ⟨f1, f2, f3⟩ := f
  obtain ⟨q1, q2, q3⟩ := b.2.2.2.1 k h0 f1.2
  refine ⟨by omega, fun h1 => (q2 h1).trans (f2 h0), fun j hj h1 h2 e => ?_⟩
  by_cases c1 : k < j
  · exact f3 j hj c1 h2 e
  · by_cases c2 : j = k
    · subst c2
      exact hn e
    · exact q3 j h1 (by omega) ((slF_cg e).trans (f2 h0).symm)
theorem FI.none {h : Hp} {r : Nat → Int} {n k : Int} (f : FI h r n k) (hk : k < 0) : ∀ j : Int, 0 ≤ j → j < bE h → ¬ EqB h j r n := fun j h0 h1 => f.2.2 j h0 (by omega) h1
/-- a text begins an entry -/
def BG (h : Hp) (k : Int) (r : Nat → Int) (n : Int) : Prop := ∀ i : Nat, (i : Int) < n → tx h k i = r i
theorem BG.eq {h : Hp} {k : Int} {r : Nat → Int} {n : Int} (e : tn h k = n) : BG h k r n ↔ EqB h k r n := ⟨fun g => ⟨e, fun i hi => g i (by omega)⟩, fun g i hi => g.2 i (by omega)⟩
/-! The book takes an entry. -/
def BX (h H : Hp) : Prop := bE h ≤ bE H ∧ ∀ k : Int, 0 ≤ k → k < bE h → EqT (tx H k) (tn H k) (tx h k) (tn h k)
theorem BX.rf {h : Hp} : BX h h := ⟨Int.le_refl _, fun _ _ _ => EqT.rf⟩
theorem BX.tr {h h1 H : Hp} (a : BX h h1) (b : BX h1 H) : BX h H := ⟨by have := a.1; have := b.1; omega, fun k h0 hk => (b.2 k h0 (by have := a.1; omega)).tr (a.2 k h0 hk)⟩
theorem BX.eq {h H : Hp} (x : BX h H) {k : Int} (hk : 0 ≤ k ∧ k < bE h) {r : Nat → Int} {n : Int} : EqB H k r n ↔ EqB h k r n := ⟨fun e => (x.2 k hk.1 hk.2).sy.tr e, fun e => (x.2 k hk.1 hk.2).tr e⟩
theorem BI.enter {h H : Hp} {r : Nat → Int} {n s : Int} (b : BI h) (hE : 0 ≤ bE h) (hn : 0 ≤ n) (no : ∀ k : Int, 0 ≤ k → k < bE h → ¬ EqB h k r n) (eE : bE H = bE h + 1)
    (eo : ∀ i : Int, 0 ≤ i → i < st_ h (bE h) → by_ H i = by_ h i) (en : ∀ i : Nat, (i : Int) < n → by_ H (st_ h (bE h) + i) = r i)
    (es : ∀ k : Int, 0 ≤ k → k ≤ bE h → st_ H k = st_ h k) (es2 : st_ H (bE h + 1) = st_ h (bE h) + n)
    (ex : ∀ k : Int, 0 ≤ k → k < bE h → nx_ H k = nx_ h k) (ex2 : nx_ H (bE h) = hd_ h s - 1)
    (hs : s = slF r n) (h0 : 0 ≤ s ∧ s < 1024) (eh : ∀ q : Int, 0 ≤ q → q < 1024 → hd_ H q = if q = s then bE h + 1 else hd_ h q)
    (hl : st_ h (bE h) + n ≤ len H (H.2.2 20 4).toNat) : BI H ∧ BX h H ∧ EqB H (bE h) r n := by
  have old : ∀ k : Int, 0 ≤ k → k < bE h → EqT (tx H k) (tn H k) (tx h k) (tn h k) := fun k k0 k1 => by
    have m1 := b.le k0 (show k ≤ k + 1 by omega) (by omega)
    have m2 := b.le (show 0 ≤ k + 1 by omega) (show k + 1 ≤ bE h by omega) (Int.le_refl _)
    have m0 := b.ge0 k0 (by omega)
    have a1 := es k k0 (by omega)
    have a2 := es (k + 1) (by omega) (by omega)
    unfold tn
    refine ⟨by rw [a1, a2], fun i hi => ?_⟩
    rw [a1, a2] at hi
    unfold tx
    rw [a1]
    exact eo _ (by omega) (by omega)
  have new : EqB H (bE h) r n := by
    have a1 := es (bE h) hE (Int.le_refl _)
    unfold EqB tn
    refine ⟨by rw [a1, es2]; omega, fun i hi => ?_⟩
    rw [a1, es2] at hi
    unfold tx
    rw [a1]
    exact en i (by omega)
  have so : ∀ k : Int, 0 ≤ k → k < bE h → slE H k = slE h k := fun k k0 k1 => slF_cg (old k k0 k1)
  have sn : slE H (bE h) = s := (slF_cg new).trans hs.symm
  have hH := b.2.2.1 s h0.1 h0.2
  refine ⟨⟨⟨by rw [es 0 (by decide) hE]; exact b.1.1, fun k k0 k1 => ?_⟩, ?_, fun q q0 q1 => ?_, fun k k0 k1 => ?_, fun i j i0 ij j1 => ?_⟩, ⟨by omega, old⟩, new⟩
  · by_cases c : k < bE h
    · rw [es k k0 (by omega), es (k + 1) (by omega) (by omega)]
      exact b.1.2 k k0 c
    · obtain rfl : k = bE h := by omega
      rw [es _ k0 (Int.le_refl _), es2]
      omega
  · rw [eE, es2]
    exact hl
  · unfold HdOK
    rw [eE, eh q q0 q1]
    by_cases c : q = s
    · rw [if_pos c, show bE h + 1 - 1 = bE h by omega]
      exact ⟨by omega, fun _ => sn.trans c.symm, fun j j1 j2 => by omega⟩
    · rw [if_neg c]
      obtain ⟨p1, p2, p3⟩ := b.2.2.1 q q0 q1
      refine ⟨by omega, fun z => (so _ z (by omega)).trans (p2 z), fun j j1 j2 => ?_⟩
      by_cases c2 : j < bE h
      · rw [so j (by omega) c2]
        exact p3 j j1 c2
      · obtain rfl : j = bE h := by omega
        rw [sn]
        exact fun e => c e.symm
  · unfold NxOK
    by_cases c : k < bE h
    · rw [ex k k0 c]
      obtain ⟨p1, p2, p3⟩ := b.2.2.2.1 k k0 c
      refine ⟨p1, fun z => by rw [so _ z (by omega), so k k0 c]; exact p2 z, fun j j1 j2 => ?_⟩
      rw [so j (by omega) (by omega), so k k0 c]
      exact p3 j j1 j2
    · obtain rfl : k = bE h := by omega
      rw [ex2]
      obtain ⟨p1, p2, p3⟩ := hH
      refine ⟨p1, fun z => by rw [so _ z (by omega), sn]; exact p2 z, fun j j1 j2 => ?_⟩
      rw [so j (by omega) j2, sn]
      exact p3 j j1 j2
  · by_cases c : j < bE h
    · intro e
      have o1 := old i i0 (by omega)
      have o2 := old j (by omega) c
      exact b.2.2.2.2 i j i0 ij c ((o1.sy.tr e).tr o2)
    · obtain rfl : j = bE h := by omega
      intro e
      exact no i i0 ij (((old i i0 ij).sy.tr e).tr new)
