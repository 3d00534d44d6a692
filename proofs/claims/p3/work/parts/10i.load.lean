/-! Reading an array at a place, or of a content, that isn't known. -/
def PIntH (HB : Heap) (cc : ByteArray) (nL : Nat) (own nm : String) (pc pc' : Nat) (st r : List AV) (h : List AE) (kn : List LinC) (v : GG → Int32) : Prop :=
  ∀ (g : GG) (p : Program) (l : Launch) (e : Env) (R : Room) (s : State) (m : MethodId) (args : Array Value) (below : List Frame) (meth : Method) (c : Code) (H : Heap) (locs : List Loc) (cells slots : Nat) (Q : State → Prop) (ls : Array Slot),
    okl g kn → Cx g HB p s m args meth c cc nL own nm → Rh g HB h H locs → W p l e R s m args below meth c H locs cells slots Q (F0 m pc' ls (.int (v g) :: r.map (cV g))) → W p l e R s m args below meth c H locs cells slots Q (F0 m pc ls (st.map (cV g)))
theorem NSnd.intH {HB : Heap} {l : Launch} {cc : ByteArray} {nL : Nat} {own nm : String} {u : NU} {n pc pc' nxt : Nat} {L : LL} {st r : List AV} {h : List AE} {k z : Cnt} {kn fs : List LinC} {v : GG → Int32} (hP : PIntH HB cc nL own nm pc pc' st r h kn v)
    (hK : Keeps HB n) (hu : cBel n u.1 = true ∧ cBel n u.2.1 = true) (hn : n ≤ nxt) (hb : xBel nxt L r h k z kn = true) (hf : ∀ g : GG, okl g kn → okl (setS g nxt (toN (v g))) fs) :
    NSnd HB l cc nL own nm u n (pc, L, st, h, k, z, kn, nxt) [(pc', L, symA nxt :: r, h, k, z, fs ++ kn, nxt + 1)] := by
  intro p e R s m args below meth c Q g hy hok hC hr hkz H locs ls hR hl
  unfold xBel at hb
  simp only [Bool.and_eq_true] at hb
  obtain ⟨b1, b2, b3, b4, b5, b6⟩ := hb
  refine hP g p l e R s m args below meth c H locs _ _ Q ls hok hC hR ?_
  have he := setS_ext g (c := nxt) (n := nxt) (toN (v g)) (Nat.le_refl nxt)
  have hen := he.mono hn
  have e1 := sBel_ok b2 he
  have e2 := lBel_ok b1 he
  have e3 := cBel_ok b4 he
  have e4 := cBel_ok b5 he
  have hv : gS (setS g nxt (toN (v g))) nxt = v g := by
    unfold gS
    rw [setS_at, nI_toN]
  have hw := hy _ List.mem_cons_self (setS g nxt (toN (v g))) hen (fun x hx => by
      rcases List.mem_append.mp hx with hx | hx
      · exact hf g hok x hx
      · exact kBel_ok b6 he hok x hx) ⟨hC.1, hK g _ s hen hC.2.1, hC.2.2⟩ ⟨by rw [cBel_ok hu.1 hen]; exact hr.1, by rw [cBel_ok hu.2 hen]; exact hr.2.1, hr.2.2⟩ ⟨by rw [e3]; exact hkz.1, by rw [e4]; exact hkz.2⟩ H locs ls (hBel_ok b3 he hR) (by rw [e2]; exact hl)
  rw [e3, e4, List.map_cons, e1, symA_V, hv] at hw
  exact hw
/-- a place in a row, by two certificates -/
def inRow (kn : List LinC) (c1 c2 : Cert) (i : AV) (m : Nat) : Bool := lcert kn c1 (avL i) && lcert kn c2 (ladd (-1) (avL i) ((m : Int) - 1, []))
theorem inRow_ok {g : GG} {kn : List LinC} {c1 c2 : Cert} {i : AV} {m : Nat} (hk : okl g kn) (hi : isI i = true) (h : inRow kn c1 c2 i m = true) : vp_in (gI g i) m := by
  unfold inRow at h
  rw [Bool.and_eq_true] at h
  have h1 : lok (rho g) (avL i) := lcert_ok hk h.1
  have h2 : lok (rho g) (ladd (-1) (avL i) ((m : Int) - 1, [])) := lcert_ok hk h.2
  unfold lok at h1 h2
  rw [ladd_ok] at h2
  rw [avL_ok hi] at h1 h2
  have e3 : lval (rho g) (((m : Int) - 1, []) : LinC) = (m : Int) - 1 + 0 := rfl
  have e0 : (0 : Int32).toInt = 0 := by decide
  rintro (q | q)
  · rw [Int32.lt_iff_toInt_lt, e0] at q
    omega
  · have e4 : (gI g i).toNatClampNeg = (gI g i).toInt.toNat := rfl
    rw [e4] at q
    omega
/-- the content of a row of ints -/
def contI (g : GG) (t m : Nat) (u : List (Nat × AV)) : Nat → Int32 := match Nat.ble 10 t with
  | true => cB g (blk u) m
  | false => cI g u
/-- which kinds: iaload 0 and 10, baload 1, 2, 11, 12 -/
def okT (byte : Bool) (t : Nat) : Bool := match byte with
  | false => Nat.beq t 0 || Nat.beq t 10
  | true => Nat.beq t 1 || (Nat.beq t 2 || (Nat.beq t 11 || Nat.beq t 12))
def n_ald (byte : Bool) (n : Nat) : NF := fun s x => match x with
  | (pc, L, st, h, k, z, kn, nxt) => match st with
    | i :: a :: r => match rOf a with
      | none => none
      | some q => match h[q]? with
        | none => none
        | some ce => match ce with
          | .inr _ => none
          | .inl (t, m, w) => match s with
            | [] => none
            | it :: s1 => match it.2.1 with
              | c1 :: c2 :: _ => match okT byte t && (isI i && (inRow kn c1 c2 i m && xBel nxt L r h k z kn)) with
                | true => some ([(n, L, symA nxt :: r, h, k, z, rangeF nxt ++ kn, nxt + 1)], s1)
                | false => none
              | _ => none
    | _ => none
def ldOp (byte : Bool) : Instr := match byte with
  | true => .baload
  | false => .iaload
theorem pint_ald {HB : Heap} {cc : ByteArray} {nL : Nat} {own nm : String} {pc pc' q t m : Nat} {i : AV} {r : List AV} {h : List AE} {w : List (Nat × AV)} {kn : List LinC} {c1 c2 : Cert} {byte : Bool} (hq : h[q]? = some (.inl (t, m, w))) (ht : okT byte t = true) (hi : isI i = true) (hin : inRow kn c1 c2 i m = true)
    (hd : decode cc pc = .ok (ldOp byte, 1)) (hn : pc + 1 = pc') : PIntH HB cc nL own nm pc pc' (i :: .inr (.inr (.ref q)) :: r) r h kn (fun g => contI g t m w (gI g i).toNatClampNeg) := by
  intro g p l e R s m0 args below meth c H locs cells slots Q ls hok hC hR kk
  subst hn
  obtain ⟨⟨hx, hb, hml, hown, hts⟩, hA, -⟩ := hC
  have hv := inRow_ok hok hi hin
  have hX := hA.2.2.2.2.2.2.2.2
  rw [List.map_cons, List.map_cons, cV_I hi]
  have hws := Rh.ws (g := g) hq
  cases byte with
  | false =>
    simp only [okT, Bool.or_eq_true] at ht
    rcases ht with ht | ht
    · have ht := Nat.eq_of_beq_eq_true ht
      subst ht
      exact va_iald hx hb hA.1 hR.2.2.1 q 0 hws rfl hv hd kk
    · have ht := Nat.eq_of_beq_eq_true ht
      subst ht
      refine va_iald hx hb hA.1 hR.2.2.1 q 0 hws ?_ hv hd kk
      show (tysG g)[0]? = some (g.2.2.2 10, .int)
      rw [hX.2.1]
      rfl
  | true =>
    simp only [okT, Bool.or_eq_true] at ht
    rcases ht with ht | ht | ht | ht
    · have ht := Nat.eq_of_beq_eq_true ht
      subst ht
      exact va_bald hx hb hA.1 hR.2.2.1 q 1 hws rfl hv hd kk
    · have ht := Nat.eq_of_beq_eq_true ht
      subst ht
      exact va_zald hx hb hA.1 hR.2.2.1 q 2 hws rfl hv hd kk
    · have ht := Nat.eq_of_beq_eq_true ht
      subst ht
      refine va_bald hx hb hA.1 hR.2.2.1 q 1 hws ?_ hv hd kk
      show (tysG g)[1]? = some (g.2.2.2 11, .byte)
      rw [hX.2.2.1]
      rfl
    · have ht := Nat.eq_of_beq_eq_true ht
      subst ht
      refine va_zald hx hb hA.1 hR.2.2.1 q 2 hws ?_ hv hd kk
      show (tysG g)[2]? = some (g.2.2.2 12, .boolean)
      rw [hX.2.2.2.1]
      rfl
theorem n_ald_ok {HB : Heap} {l : Launch} {cc : ByteArray} {nL : Nat} {own nm : String} {u : NU} {n0 pc n : Nat} {byte : Bool} (hK : Keeps HB n0) (hu : cBel n0 u.1 = true ∧ cBel n0 u.2.1 = true) (hd : decode cc pc = .ok (ldOp byte, 1)) (hn : pc + 1 = n) : NFok HB l cc nL own nm u n0 pc (n_ald byte n) := by
  intro s x ls s' hpc hf n9 h1 h2
  obtain ⟨pc0, L, st, h, k, z, kn, nxt⟩ := x
  have hpc : pc0 = pc := hpc
  subst hpc
  rcases st with _ | ⟨i, _ | ⟨a, r⟩⟩
  · cases hf
  · cases hf
  simp only [n_ald] at hf
  cases ha : rOf a with
  | none => rw [ha] at hf; cases hf
  | some q =>
    rw [ha] at hf
    have ea := rOf_eq ha
    subst ea
    simp only at hf
    cases hq : h[q]? with
    | none => rw [hq] at hf; cases hf
    | some ce =>
      rw [hq] at hf
      rcases ce with ⟨t, m, w⟩ | ce
      · simp only at hf
        rcases s with _ | ⟨it, s1⟩
        · cases hf
        simp only at hf
        rcases hc : it.2.1 with _ | ⟨c1, _ | ⟨c2, cs⟩⟩
        · rw [hc] at hf; cases hf
        · rw [hc] at hf; cases hf
        rw [hc] at hf
        simp only at hf
        cases hb : okT byte t && (isI i && (inRow kn c1 c2 i m && xBel nxt L r h k z kn)) with
        | false => rw [hb] at hf; cases hf
        | true =>
          rw [hb] at hf
          cases hf
          simp only [Bool.and_eq_true] at hb
          exact NSnd.intH (pint_ald hq hb.1 hb.2.1 hb.2.2.1 hd hn) (keeps_mono hK h1) ⟨cBel_mono hu.1 h1, cBel_mono hu.2 h1⟩ h2 hb.2.2.2 (fun g _ => rangeF_ok _ nxt)
      · cases hf
