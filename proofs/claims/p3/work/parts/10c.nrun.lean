/-! The run with leaves: branches fork, loop heads take templates, and all of it is the machine's. -/
/-- what a stream tells: which kind, certificates, a template, what its symbols stand for, a measure -/
abbrev Item : Type := Nat × List Cert × List NC × List AV × LinC
abbrev NF : Type := List Item → NC → Option (List NC × List Item)
def memN (n : Nat) (l : List Nat) : Bool := match l with
  | [] => false
  | a :: t => match Nat.beq a n with
    | true => true
    | false => memN n t
def stepN (T : List (Nat × NF)) (s : List Item) (x : NC) : Option (List NC × List Item) := match alk T x.1 with
  | none => none
  | some f => match f s x with
    | none => none
    | some (ls, s') => match ls.all (fun y => Nat.ble (nx x) (nx y)) with
      | true => some (ls, s')
      | false => none
/-- leaves of a loop's body: those back at the head fit again, with less of the measure; the others go on -/
def backs (n : Nat) (tp : NC) (mu : LinC) : List Item → List NC → Option (List NC × List Item)
  | s, [] => some ([], s)
  | s, y :: t => match Nat.beq y.1 tp.1 with
    | false => match Nat.ble n (nx y) with
      | false => none
      | true => match backs n tp mu s t with
        | none => none
        | some (es, s') => some (y :: es, s')
    | true => match s with
      | [] => none
      | it :: s1 => match it.2.1 with
        | c1 :: c2 :: ces => match tfit2 n it.2.2.2.1 ces y tp && (tBel (n + it.2.2.2.1.length) mu.2 && (lcert (knOf y) c1 mu && lcert (knOf y) c2 (ladd (-1) (lsub n it.2.2.2.1 mu) (mu.1 - 1, mu.2)))) with
          | false => none
          | true => backs n tp mu s1 t
        | _ => none
def nrun (T : List (Nat × NF)) (LH : List Nat) : Nat → List Nat → List Item → List NC → Option (List NC × List Item)
  | 0 => fun _ _ _ => none
  | f + 1 => fun stops s xs => match xs with
    | [] => some ([], s)
    | x :: t => match memN x.1 stops with
      | true => match nrun T LH f stops s t with
        | none => none
        | some (ys, s') => some (x :: ys, s')
      | false => match memN x.1 LH with
        | false => match stepN T s x with
          | none => none
          | some (ls, s') => nrun T LH f stops s' (ls ++ t)
        | true => match s with
          | [] => none
          | it :: s1 => match it.2.2.1 with
            | [] => none
            | tp :: _ => match tfit2 (nx x) it.2.2.2.1 it.2.1 x tp && (Nat.ble (nx x) (nx tp) && tBel (nx tp) it.2.2.2.2.2) with
              | false => none
              | true => match stepN T s1 tp with
                | none => none
                | some (ls, s2) => match nrun T LH f (x.1 :: stops) s2 ls with
                  | none => none
                  | some (ys, s3) => match backs (nx x) tp it.2.2.2.2 s3 ys with
                    | none => none
                    | some (es, s4) => nrun T LH f stops s4 (es ++ t)
section NRUN
variable {HB : Heap} {l : Launch} {cc : ByteArray} {nL : Nat} {own nm : String} {u : NU} {n0 : Nat}
theorem NSnd.trans {n : Nat} {x : NC} {ls ys : List NC} (h : NSnd HB l cc nL own nm u n x ls) (h2 : ∀ y ∈ ls, NSnd HB l cc nL own nm u n y ys) : NSnd HB l cc nL own nm u n x ys :=
  fun p e R s m args below meth c Q g hy => h p e R s m args below meth c Q g fun y hm g' he => h2 y hm p e R s m args below meth c Q g' fun z hz g2 he2 => hy z hz g2 (he.trans he2 (Nat.le_refl n))
/-- a table's steps are the machine's -/
def TOK (HB : Heap) (l : Launch) (cc : ByteArray) (nL : Nat) (own nm : String) (u : NU) (n0 : Nat) (T : List (Nat × NF)) : Prop :=
  ∀ q ∈ T, ∀ (s : List Item) (x : NC) (ls : List NC) (s' : List Item), x.1 = q.1 → q.2 s x = some (ls, s') → ∀ n, n0 ≤ n → n ≤ nx x → NSnd HB l cc nL own nm u n x ls
theorem stepN_ok {T : List (Nat × NF)} (hT : TOK HB l cc nL own nm u n0 T) {s s' : List Item} {x : NC} {ls : List NC} (h : stepN T s x = some (ls, s')) : (∀ n, n0 ≤ n → n ≤ nx x → NSnd HB l cc nL own nm u n x ls) ∧ ∀ y ∈ ls, nx x ≤ nx y := by
  unfold stepN at h
  cases ha : alk T x.1 with
  | none => rw [ha] at h; cases h
  | some f =>
    rw [ha] at h
    simp only at h
    cases hf : f s x with
    | none => rw [hf] at h; cases h
    | some r =>
      obtain ⟨l1, s1⟩ := r
      rw [hf] at h
      simp only at h
      cases hb : l1.all (fun y => Nat.ble (nx x) (nx y)) with
      | false => rw [hb] at h; cases h
      | true =>
        rw [hb] at h
        cases h
        exact ⟨fun n h1 h2 => hT _ (alk_mem ha) s x ls s' rfl hf n h1 h2, fun y hy => Nat.ble_eq.mp (List.all_eq_true.mp hb y hy)⟩
theorem backs_ok {n : Nat} {tp : NC} {mu : LinC} : ∀ (ys : List NC) (s : List Item) (es : List NC) (s' : List Item), backs n tp mu s ys = some (es, s') →
    (∀ y ∈ es, n ≤ nx y) ∧ ∃ bs : List NC, (∀ y ∈ ys, y ∈ es ++ bs) ∧ ∀ y ∈ bs, ∃ (sg : List AV) (c1 c2 : Cert) (ces : List Cert), tfit2 n sg ces y tp = true ∧ tBel (n + sg.length) mu.2 = true ∧ lcert (knOf y) c1 mu = true ∧ lcert (knOf y) c2 (ladd (-1) (lsub n sg mu) (mu.1 - 1, mu.2)) = true
  | [], s, es, s', h => by
    cases h
    exact ⟨(fun y hy => by cases hy), [], (fun y hy => by cases hy), (fun y hy => by cases hy)⟩
  | y :: t, s, es, s', h => by
    unfold backs at h
    cases hb : Nat.beq y.1 tp.1 with
    | false =>
      rw [hb] at h
      simp only at h
      cases hn : Nat.ble n (nx y) with
      | false => rw [hn] at h; cases h
      | true =>
        rw [hn] at h
        simp only at h
        cases hr : backs n tp mu s t with
        | none => rw [hr] at h; cases h
        | some r =>
          obtain ⟨e1, s1⟩ := r
          rw [hr] at h
          cases h
          obtain ⟨g1, bs, g2, g3⟩ := backs_ok t s e1 s' hr
          refine ⟨fun z hz => ?_, bs, fun z hz => ?_, g3⟩
          · rcases List.mem_cons.mp hz with rfl | hz
            · exact Nat.ble_eq.mp hn
            · exact g1 z hz
          · rcases List.mem_cons.mp hz with rfl | hz
            · exact List.mem_cons_self
            · exact List.mem_cons_of_mem _ (g2 z hz)
    | true =>
      rw [hb] at h
      simp only at h
      rcases s with _ | ⟨it, s1⟩
      · cases h
      simp only at h
      rcases hc : it.2.1 with _ | ⟨c1, _ | ⟨c2, ces⟩⟩
      · rw [hc] at h; cases h
      · rw [hc] at h; cases h
      rw [hc] at h
      simp only at h
      cases hq : tfit2 n it.2.2.2.1 ces y tp && (tBel (n + it.2.2.2.1.length) mu.2 && (lcert (knOf y) c1 mu && lcert (knOf y) c2 (ladd (-1) (lsub n it.2.2.2.1 mu) (mu.1 - 1, mu.2)))) with
      | false => rw [hq] at h; cases h
      | true =>
        rw [hq] at h
        simp only at h
        rw [Bool.and_eq_true, Bool.and_eq_true, Bool.and_eq_true] at hq
        obtain ⟨g1, bs, g2, g3⟩ := backs_ok t s1 es s' h
        refine ⟨g1, y :: bs, fun z hz => ?_, fun z hz => ?_⟩
        · rcases List.mem_cons.mp hz with rfl | hz
          · exact List.mem_append_right _ List.mem_cons_self
          · rcases List.mem_append.mp (g2 z hz) with w | w
            · exact List.mem_append_left _ w
            · exact List.mem_append_right _ (List.mem_cons_of_mem _ w)
        · rcases List.mem_cons.mp hz with rfl | hz
          · exact ⟨it.2.2.2.1, c1, c2, ces, hq.1, hq.2.1, hq.2.2.1, hq.2.2.2⟩
          · exact g3 z hz
theorem okl_of {y : NC} {g : GG} (h : match y with | (_, _, _, _, _, _, kn, _) => okl g kn) : okl g (knOf y) := by
  obtain ⟨pc, L, st, hh, k, z, kn, nn⟩ := y
  exact h
theorem keeps_mono {n n' : Nat} (h : Keeps HB n) (hn : n ≤ n') : Keeps HB n' := fun g g2 U he hk => h g g2 U (he.mono hn) hk
theorem cBel_mono {n n' : Nat} {k : Cnt} (h : cBel n k = true) (hn : n ≤ n') : cBel n' k = true :=
  List.all_eq_true.mpr fun i hi => Nat.blt_eq.mpr (Nat.lt_of_lt_of_le (Nat.blt_eq.mp (List.all_eq_true.mp h i hi)) hn)
theorem nrun_ok {T : List (Nat × NF)} {LH : List Nat} (hT : TOK HB l cc nL own nm u n0 T) (hK : Keeps HB n0) (hu : cBel n0 u.1 = true ∧ cBel n0 u.2.1 = true) :
    ∀ (f : Nat) (stops : List Nat) (s : List Item) (xs ys : List NC) (s' : List Item), nrun T LH f stops s xs = some (ys, s') → ∀ n, n0 ≤ n → (∀ x ∈ xs, n ≤ nx x) → ∀ x ∈ xs, NSnd HB l cc nL own nm u n x ys := by
  intro f
  induction f with
  | zero => intro stops s xs ys s' h; cases h
  | succ f ih =>
    intro stops s xs ys s' h n hn hnx
    rcases xs with _ | ⟨x, t⟩
    · intro x hx; cases hx
    simp only [nrun] at h
    have hnt : ∀ y ∈ t, n ≤ nx y := fun y hy => hnx y (List.mem_cons_of_mem _ hy)
    have hn1 : n ≤ nx x := hnx x List.mem_cons_self
    cases hs : memN x.1 stops with
    | true =>
      rw [hs] at h
      simp only at h
      cases hr : nrun T LH f stops s t with
      | none => rw [hr] at h; cases h
      | some r =>
        obtain ⟨y1, s1⟩ := r
        rw [hr] at h
        cases h
        intro z hz
        rcases List.mem_cons.mp hz with rfl | hz
        · exact NSnd.self.sub fun y hy => by rw [List.mem_singleton.mp hy]; exact List.mem_cons_self
        · exact (ih stops s t y1 s' hr n hn hnt z hz).sub fun y hy => List.mem_cons_of_mem _ hy
    | false =>
      rw [hs] at h
      simp only at h
      cases hl : memN x.1 LH with
      | false =>
        rw [hl] at h
        simp only at h
        cases hst : stepN T s x with
        | none => rw [hst] at h; cases h
        | some r =>
          obtain ⟨ls, s1⟩ := r
          rw [hst] at h
          simp only at h
          obtain ⟨k1, k2⟩ := stepN_ok hT hst
          have hall : ∀ y ∈ ls ++ t, n ≤ nx y := fun y hy => by
            rcases List.mem_append.mp hy with w | w
            · exact Nat.le_trans hn1 (k2 y w)
            · exact hnt y w
          have hrec := ih stops s1 (ls ++ t) ys s' h n hn hall
          intro z hz
          rcases List.mem_cons.mp hz with rfl | hz
          · exact (k1 n hn hn1).trans fun y hy => hrec y (List.mem_append_left _ hy)
          · exact hrec z (List.mem_append_right _ hz)
      | true =>
        rw [hl] at h
        simp only at h
        rcases s with _ | ⟨it, s1⟩
        · cases h
        simp only at h
        rcases htp : it.2.2.1 with _ | ⟨tp, _⟩
        · rw [htp] at h; cases h
        rw [htp] at h
        simp only at h
        cases hq : tfit2 (nx x) it.2.2.2.1 it.2.1 x tp && (Nat.ble (nx x) (nx tp) && tBel (nx tp) it.2.2.2.2.2) with
        | false => rw [hq] at h; cases h
        | true =>
          rw [hq] at h
          simp only at h
          rw [Bool.and_eq_true, Bool.and_eq_true] at hq
          obtain ⟨q1, q2, q3⟩ := hq
          have q2 := Nat.ble_eq.mp q2
          cases hst : stepN T s1 tp with
          | none => rw [hst] at h; cases h
          | some r =>
            obtain ⟨ls, s2⟩ := r
            rw [hst] at h
            simp only at h
            cases hr : nrun T LH f (x.1 :: stops) s2 ls with
            | none => rw [hr] at h; cases h
            | some r =>
              obtain ⟨yb, s3⟩ := r
              rw [hr] at h
              simp only at h
              cases hbk : backs (nx x) tp it.2.2.2.2 s3 yb with
              | none => rw [hbk] at h; cases h
              | some r =>
                obtain ⟨es, s4⟩ := r
                rw [hbk] at h
                simp only at h
                have hnx0 : n0 ≤ nx x := Nat.le_trans hn hn1
                have hntp : n0 ≤ nx tp := Nat.le_trans hnx0 q2
                obtain ⟨k1, k2⟩ := stepN_ok hT hst
                obtain ⟨b1, bs, b2, b3⟩ := backs_ok yb s3 es s4 hbk
                have hKx := keeps_mono hK hnx0
                have hux : cBel (nx x) u.1 = true ∧ cBel (nx x) u.2.1 = true := ⟨cBel_mono hu.1 hnx0, cBel_mono hu.2 hnx0⟩
                have body : NSnd HB l cc nL own nm u (nx tp) tp (es ++ bs) :=
                  ((k1 (nx tp) hntp (Nat.le_refl _)).trans fun y hy => ih (x.1 :: stops) s2 ls yb s3 hr (nx tp) hntp (fun z hz => k2 z hz) y hy).sub b2
                have lp : NSnd HB l cc nL own nm u (nx x) tp es := NSnd.loop (mu := it.2.2.2.2) q2 hKx hux body q3 fun y hy g hcl hok => by
                  obtain ⟨sg, c1, c2, ces, e1, e0, e2, e3⟩ := b3 y hy
                  have hk := okl_of hok
                  obtain ⟨g2, hfit, hlv⟩ := tfit2_ok (HB := HB) (u := u) e1 hcl hk
                  refine ⟨g2, hfit, lcert_ok hk e2, ?_⟩
                  have h3 : lok (rho g) _ := lcert_ok hk e3
                  unfold lok at h3
                  rw [ladd_ok] at h3
                  rw [hlv _ e0]
                  have h4 : lval (rho g) ((it.2.2.2.2.1 - 1, it.2.2.2.2.2) : LinC) = it.2.2.2.2.1 - 1 + lev (rho g) it.2.2.2.2.2 := rfl
                  have h5 : lval (rho g) it.2.2.2.2 = it.2.2.2.2.1 + lev (rho g) it.2.2.2.2.2 := rfl
                  omega
                have wk : NSnd HB l cc nL own nm u (nx x) x [tp] := NSnd.weak hKx hux fun g hcl hok => by
                  obtain ⟨g2, hfit, -⟩ := tfit2_ok (HB := HB) (u := u) q1 hcl (okl_of hok)
                  exact ⟨g2, hfit⟩
                have hall : ∀ y ∈ es ++ t, n ≤ nx y := fun y hy => by
                  rcases List.mem_append.mp hy with w | w
                  · exact Nat.le_trans hn1 (b1 y w)
                  · exact hnt y w
                have hrec := ih stops s4 (es ++ t) ys s' h n hn hall
                intro z hz
                rcases List.mem_cons.mp hz with rfl | hz
                · exact ((wk.trans fun y hy => by rw [List.mem_singleton.mp hy]; exact lp).down hn1).trans fun y hy => hrec y (List.mem_append_left _ hy)
                · exact hrec z (List.mem_append_right _ hz)
end NRUN
