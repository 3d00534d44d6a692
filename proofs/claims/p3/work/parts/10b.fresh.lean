/-! Fresh symbols: what a step makes that isn't known. -/
def symA (c : Nat) : AV := .inr (.inr (.retAddr (10 + c)))
theorem symA_I (c : Nat) : isI (symA c) = true := Nat.ble_eq.mpr (Nat.le_add_right 10 c)
theorem symA_g (g : GG) (c : Nat) : gI g (symA c) = gS g c := by
  show gS g (10 + c - 10) = gS g c
  rw [Nat.add_sub_cancel_left]
theorem symA_V (g : GG) (c : Nat) : cV g (symA c) = .int (gS g c) := by
  rw [cV_I (symA_I c), symA_g]
/-- the machine puts an int there that the ground tells -/
def PInt (cc : ByteArray) (pc pc' : Nat) (st r : List AV) (v : GG → Int32) : Prop :=
  ∀ (g : GG) (p : Program) (l : Launch) (e : Env) (R : Room) (s : State) (m : MethodId) (args : Array Value) (below : List Frame) (meth : Method) (c : Code) (H : Heap) (locs : List Loc) (cells slots : Nat) (Q : State → Prop) (ls : Array Slot),
    p.tables.exec = Jvm.exec → c.code = cc → W p l e R s m args below meth c H locs cells slots Q (F0 m pc' ls (.int (v g) :: r.map (cV g))) → W p l e R s m args below meth c H locs cells slots Q (F0 m pc ls (st.map (cV g)))
def xBel (n : Nat) (L : LL) (st : List AV) (h : List AE) (k z : Cnt) (kn : List LinC) : Bool := lBel n L && (sBel n st && (hBel n h && (cBel n k && (cBel n z && kBel n kn))))
theorem NSnd.int {HB : Heap} {l : Launch} {cc : ByteArray} {nL : Nat} {own nm : String} {u : NU} {n pc pc' nxt : Nat} {L : LL} {st r : List AV} {h : List AE} {k z : Cnt} {kn fs : List LinC} {v : GG → Int32} (hP : PInt cc pc pc' st r v)
    (hK : Keeps HB n) (hu : cBel n u.1 = true ∧ cBel n u.2.1 = true) (hn : n ≤ nxt) (hb : xBel nxt L r h k z kn = true) (hf : ∀ g : GG, okl g kn → okl (setS g nxt (toN (v g))) fs) :
    NSnd HB l cc nL own nm u n (pc, L, st, h, k, z, kn, nxt) [(pc', L, symA nxt :: r, h, k, z, fs ++ kn, nxt + 1)] := by
  intro p e R s m args below meth c Q g hy hok hC hr hkz H locs ls hR hl
  unfold xBel at hb
  simp only [Bool.and_eq_true] at hb
  obtain ⟨b1, b2, b3, b4, b5, b6⟩ := hb
  refine hP g p l e R s m args below meth c H locs _ _ Q ls hC.1.1 hC.1.2.1 ?_
  have he := setS_ext g (c := nxt) (n := nxt) (toN (v g)) (Nat.le_refl nxt)
  have hen := he.mono hn
  have e1 := sBel_ok b2 he
  have e2 := lBel_ok b1 he
  have e3 := cBel_ok b4 he
  have e4 := cBel_ok b5 he
  have hv : gS (setS g nxt (toN (v g))) nxt = v g := by
    unfold gS
    rw [setS_at, nI_toN]
  have hw := hy _ List.mem_cons_self (setS g nxt (toN (v g))) hen (fun x hx => by
      rcases List.mem_append.mp hx with hx | hx
      · exact hf g hok x hx
      · exact kBel_ok b6 he hok x hx) ⟨hC.1, hK g _ s hen hC.2.1, hC.2.2⟩ ⟨by rw [cBel_ok hu.1 hen]; exact hr.1, by rw [cBel_ok hu.2 hen]; exact hr.2.1, hr.2.2⟩ ⟨by rw [e3]; exact hkz.1, by rw [e4]; exact hkz.2⟩ H locs ls (hBel_ok b3 he hR) (by rw [e2]; exact hl)
  rw [e3, e4, List.map_cons, e1, symA_V, hv] at hw
  exact hw
/-- an int lies between -2^31 and 2^31 - 1 -/
def rangeF (c : Nat) : List LinC := [(2147483648, [(c, 1)]), (2147483647, [(c, -1)])]
theorem rangeF_ok (g : GG) (c : Nat) : okl g (rangeF c) := by
  have h1 := Int32.le_toInt (gS g c)
  have h2 := Int32.toInt_lt (gS g c)
  intro x hx
  simp only [rangeF, List.mem_cons, List.not_mem_nil, or_false] at hx
  rcases hx with rfl | rfl
  · show (0 : Int) ≤ 2147483648 + (1 * (gS g c).toInt + 0)
    omega
  · show (0 : Int) ≤ 2147483647 + (-1 * (gS g c).toInt + 0)
    omega
/-- between two numbers -/
def betF (c : Nat) (lo hi : Int) : List LinC := [(-lo, [(c, 1)]), (hi, [(c, -1)])]
theorem betF_ok {g : GG} {c : Nat} {lo hi : Int} (h1 : lo ≤ (gS g c).toInt) (h2 : (gS g c).toInt ≤ hi) : okl g (betF c lo hi) := by
  intro x hx
  simp only [betF, List.mem_cons, List.not_mem_nil, or_false] at hx
  rcases hx with rfl | rfl
  · show (0 : Int) ≤ -lo + (1 * (gS g c).toInt + 0)
    omega
  · show (0 : Int) ≤ hi + (-1 * (gS g c).toInt + 0)
    omega
/-- equal to a linear form -/
def eqF (c : Nat) (l : LinC) : List LinC := [ladd (-1) l (0, [(c, 1)]), ladd 1 l (0, [(c, -1)])]
theorem eqF_ok {g : GG} {c : Nat} {l : LinC} (h : (gS g c).toInt = lval (rho g) l) : okl g (eqF c l) := by
  intro x hx
  simp only [eqF, List.mem_cons, List.not_mem_nil, or_false] at hx
  rcases hx with rfl | rfl
  · show 0 ≤ lval (rho g) _
    rw [ladd_ok]
    have h2 : lval (rho g) (0, [(c, 1)]) = 0 + (1 * (gS g c).toInt + 0) := rfl
    omega
  · show 0 ≤ lval (rho g) _
    rw [ladd_ok]
    have h2 : lval (rho g) (0, [(c, -1)]) = 0 + (-1 * (gS g c).toInt + 0) := rfl
    omega
theorem lval_ext {g g' : GG} {n : Nat} {l : LinC} (h : tBel n l.2 = true) (he : ext g g' n) : lval (rho g') l = lval (rho g) l := by
  unfold lval
  rw [tBel_ok he l.2 h]
/-- no number is too great: the sum is the sum -/
theorem add_lin {x y : Int32} (h1 : -2147483648 ≤ x.toInt + y.toInt) (h2 : x.toInt + y.toInt ≤ 2147483647) : (x + y).toInt = x.toInt + y.toInt := by
  rw [Int32.toInt_add]
  exact Int.bmod_eq_of_le (by omega) (by omega)
theorem sub_lin {x y : Int32} (h1 : -2147483648 ≤ x.toInt - y.toInt) (h2 : x.toInt - y.toInt ≤ 2147483647) : (x - y).toInt = x.toInt - y.toInt := by
  rw [Int32.toInt_sub]
  exact Int.bmod_eq_of_le (by omega) (by omega)
/-- a linear result that is between the bounds of an int: two certificates -/
def inInt (kn : List LinC) (c1 c2 : Cert) (l : LinC) : Bool := lcert kn c1 (l.1 + 2147483648, l.2) && lcert kn c2 (ladd (-1) l (2147483647, []))
theorem inInt_ok {g : GG} {kn : List LinC} {c1 c2 : Cert} {l : LinC} (hk : okl g kn) (h : inInt kn c1 c2 l = true) : -2147483648 ≤ lval (rho g) l ∧ lval (rho g) l ≤ 2147483647 := by
  unfold inInt at h
  rw [Bool.and_eq_true] at h
  have h1 : lok (rho g) (l.1 + 2147483648, l.2) := lcert_ok hk h.1
  have h2 : lok (rho g) (ladd (-1) l (2147483647, [])) := lcert_ok hk h.2
  unfold lok at h1 h2
  rw [ladd_ok] at h2
  have e1 : lval (rho g) (l.1 + 2147483648, l.2) = l.1 + 2147483648 + lev (rho g) l.2 := rfl
  have e2 : lval (rho g) l = l.1 + lev (rho g) l.2 := rfl
  have e3 : lval (rho g) ((2147483647, []) : LinC) = 2147483647 + 0 := rfl
  omega
theorem pint_iadd {cc : ByteArray} {pc pc' : Nat} {a b : AV} {r : List AV} (ha : isI a = true) (hb : isI b = true) (hd : decode cc pc = .ok (.iadd, 1)) (hn : pc + 1 = pc') : PInt cc pc pc' (b :: a :: r) r (fun g => gI g a + gI g b) := by
  intro g p l e R s m args below meth c H locs cells slots Q ls hx hbc k
  subst hn
  rw [List.map_cons, List.map_cons, cV_I ha, cV_I hb]
  exact lv_iadd hx hbc hd k
theorem pint_isub {cc : ByteArray} {pc pc' : Nat} {a b : AV} {r : List AV} (ha : isI a = true) (hb : isI b = true) (hd : decode cc pc = .ok (.isub, 1)) (hn : pc + 1 = pc') : PInt cc pc pc' (b :: a :: r) r (fun g => gI g a - gI g b) := by
  intro g p l e R s m args below meth c H locs cells slots Q ls hx hbc k
  subst hn
  rw [List.map_cons, List.map_cons, cV_I ha, cV_I hb]
  exact lv_isub hx hbc hd k
/-- what is known of a fresh sum -/
theorem sumF_ok {g : GG} {nxt : Nat} {a b : AV} {l : LinC} {kn : List LinC} {c1 c2 : Cert} (ha : isI a = true) (hb : isI b = true) (hl : ladd 1 (avL a) (avL b) = l) (hbel : tBel nxt l.2 = true) (hk : okl g kn) (hi : inInt kn c1 c2 l = true) :
    okl (setS g nxt (toN (gI g a + gI g b))) (eqF nxt l) := by
  subst hl
  apply eqF_ok
  have he := setS_ext g (c := nxt) (n := nxt) (toN (gI g a + gI g b)) (Nat.le_refl nxt)
  have hv : gS (setS g nxt (toN (gI g a + gI g b))) nxt = gI g a + gI g b := by
    unfold gS
    rw [setS_at, nI_toN]
  rw [lval_ext hbel he, hv]
  obtain ⟨i1, i2⟩ := inInt_ok hk hi
  rw [ladd_ok, avL_ok ha, avL_ok hb] at i1 i2 ⊢
  rw [add_lin (by omega) (by omega)]
  omega
theorem difF_ok {g : GG} {nxt : Nat} {a b : AV} {l : LinC} {kn : List LinC} {c1 c2 : Cert} (ha : isI a = true) (hb : isI b = true) (hl : ladd (-1) (avL b) (avL a) = l) (hbel : tBel nxt l.2 = true) (hk : okl g kn) (hi : inInt kn c1 c2 l = true) :
    okl (setS g nxt (toN (gI g a - gI g b))) (eqF nxt l) := by
  subst hl
  apply eqF_ok
  have he := setS_ext g (c := nxt) (n := nxt) (toN (gI g a - gI g b)) (Nat.le_refl nxt)
  have hv : gS (setS g nxt (toN (gI g a - gI g b))) nxt = gI g a - gI g b := by
    unfold gS
    rw [setS_at, nI_toN]
  rw [lval_ext hbel he, hv]
  obtain ⟨i1, i2⟩ := inInt_ok hk hi
  rw [ladd_ok, avL_ok ha, avL_ok hb] at i1 i2 ⊢
  rw [sub_lin (by omega) (by omega)]
  omega
