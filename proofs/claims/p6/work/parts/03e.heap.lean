/-! Steps that read and write cells, and make them. -/
def aval (g : GG) (k : Nat) (x : Int) : Value := match k with
  | 0 => .int (Int32.ofInt x)
  | 1 => .int (Int32.ofInt x)
  | 2 => .int (Int32.ofInt x)
  | 3 => .long (Int64.ofInt x)
  | _ => rv g x.toNat
theorem rf_rq (g : GG) (a : Nat) : va_rf (rq g a) = rv g a := by cases a <;> rfl
theorem ce_arr (g : GG) (k n : Nat) (f : Nat → Int) : vp_cell (g.2.2.2 k) (cC g k n f) = arrV (g.2.2.2 k) n (fun j => aval g k (f j)) := by
  rcases k with _ | _ | _ | _ | k
  · rfl
  · rfl
  · rfl
  · rfl
  · show arrV _ n (fun j => va_rf (rq g (f j).toNat)) = arrV _ n (fun j => rv g (f j).toNat)
    congr 1
    funext j
    exact rf_rq g _
theorem Rep.arr {g : GG} {HB H : Heap} {h : Hp} {locs : List Loc} (hR : Rep g HB h H locs) {a k n : Nat} (ht : h.2.1 a = some (.inl (k, n))) {q : Nat} (hq : k % 10 = q) : H[g.1 + a]? = some (arrV (g.2.2.2 q) n (fun j => aval g q (h.2.2 a j))) := by
  subst hq
  have h1 : H[g.1 + a]? = some (vp_cell (g.2.2.2 (k % 10)) (cC g (k % 10) n (h.2.2 a))) := (hR.2.2.1 a _ ht).2.2
  rw [ce_arr] at h1
  exact h1
/-- a field is read -/
def GetOK (own : String) (idx ci j : Nat) : Prop := ∀ (p : Program) (l : Launch) (e : Env) (R : Room) (s : State) (m : MethodId) (args : Array Value) (below : List Frame) (meth : Method) (c : Code) (cc : ByteArray) (nL : Nat) (H : Heap) (locs : List Loc) (cells slots : Nat) (Q : State → Prop) (g : GG) (HB : Heap) (pc : Nat) (ls : Array Slot) (rest fs : List Value) (a : Nat) (v : Value),
  CallFix p m c cc nL s args wsG own → KA g HB s → va_at g.2.2.1 vwCl (a, .inr (ci, fs)) H → fs[j]? = some v → decode cc pc = .ok (.getfield idx, 3) →
    W p l e R s m args below meth c H locs cells slots Q (F0 m (pc + 3) ls (v :: rest)) → W p l e R s m args below meth c H locs cells slots Q (F0 m pc ls (.ref a :: rest))
theorem va_P1 {D : va_G} {cl : List vw_C} {q : Nat × va_E} {H : Heap} (h : va_at D cl q H) : va_P D cl [q] H := fun k q' hk => by
  have hk1 : k < 1 := (List.getElem?_eq_some_iff.mp hk).1
  have e : k = 0 := by omega
  subst e
  cases hk
  exact h
section GETS
variable {own C : String} {T : u_T} {N ci idx : Nat}
theorem get_ok {j : Nat} (hc : vwCl[ci]? = some (C, T, N)) (hk : j < N) (hlink : Cond.fieldLink own idx (T j).1 (T j).2.1 (T j).2.2.1 ∈ wsG) : GetOK own idx ci j := by
  intro p l e R s m args below meth c cc nL H locs cells slots Q g HB pc ls rest fs a v hC hA hat hv hd kk
  obtain ⟨hx, hb, hml, hown, hts⟩ := hC
  exact va_get hx hb hts (cl_in hc) hown hA.1 (va_P1 hat) 0 rfl hc j hk (hts _ hlink) (fun _ h9 => h9) hv hd kk
theorem get_okS {j : Nat} {ref : String} (hc : vwCl[ci]? = some (C, T, N)) (hk : j < N) (hlink : Cond.fieldLink own idx ref (T j).2.1 (T j).2.2.1 ∈ wsG) (hsame : Cond.sameField ref (T j).1 (T j).2.1 (T j).2.2.1 ∈ wsG) : GetOK own idx ci j := by
  intro p l e R s m args below meth c cc nL H locs cells slots Q g HB pc ls rest fs a v hC hA hat hv hd kk
  obtain ⟨hx, hb, hml, hown, hts⟩ := hC
  exact va_get hx hb hts (cl_in hc) hown hA.1 (va_P1 hat) 0 rfl hc j hk (hts _ hlink) (u_same (hts _ hsame)) hv hd kk
theorem get_okN {j : Nat} {host : String} (hc : vwCl[ci]? = some (C, T, N)) (hk : j < N) (hlink : Cond.fieldLinkNest own idx (T j).1 (T j).2.1 (T j).2.2.1 host ∈ nwL) : GetOK own idx ci j := by
  intro p l e R s m args below meth c cc nL H locs cells slots Q g HB pc ls rest fs a v hC hA hat hv hd kk
  obtain ⟨hx, hb, hml, hown, hts⟩ := hC
  exact va_getN hx hb hts (cl_in hc) hown hA.1 (va_P1 hat) 0 rfl hc j hk (va_Nw.use rfl (hA.2.1 _ hlink)) (fun _ h9 => h9) hv hd kk
/-- a field is written -/
def PutOK (own nm : String) (idx ci j : Nat) : Prop := ∀ (p : Program) (l : Launch) (e : Env) (R : Room) (s : State) (m : MethodId) (args : Array Value) (below : List Frame) (meth : Method) (c : Code) (cc : ByteArray) (nL : Nat) (H : Heap) (locs : List Loc) (cells slots : Nat) (Q : State → Prop) (g : GG) (HB : Heap) (pc : Nat) (ls : Array Slot) (rest fs : List Value) (a : Nat) (v : Value),
  CallFix p m c cc nL s args wsG own → KA g HB s → meth.name = nm → va_at g.2.2.1 vwCl (a, .inr (ci, fs)) H → j < fs.length → narrow (tyOf (clT ci) j) v = v ∧ fits (tyOf (clT ci) j) v = true → decode cc pc = .ok (.putfield idx, 3) →
    (∀ (H1 : Heap) (i : Nat), va_at g.2.2.1 vwCl (a, .inr (ci, fs.set j v)) H1 → H1.size = H.size → (∀ q : Nat, q ≠ a → H1[q]? = H[q]?) → W p l e R s m args below meth c H1 (locs ++ [⟨a, i⟩]) cells slots Q (F0 m (pc + 3) ls rest)) →
      W p l e R s m args below meth c H locs cells slots Q (F0 m pc ls (v :: .ref a :: rest))
theorem put_core {g : GG} {j a : Nat} {fs : List Value} {v : Value} {H : Heap} (hc : vwCl[ci]? = some (C, T, N)) (hk : j < N) (hat : va_at g.2.2.1 vwCl (a, .inr (ci, fs)) H) (hl : j < fs.length) (hap : ∀ x y, x < N → y < N → x ≠ y → (g.2.2.1.2 ci) x ≠ (g.2.2.1.2 ci) y) :
    ∃ cell : Cell, H[a]? = some cell ∧ cell.vm = .none ∧ cell.cls = g.2.2.1.1 ci ∧ (g.2.2.1.2 ci j) < cell.slots.size ∧
      ∀ H1 : Heap, H1[a]? = some (cell.setSlot (g.2.2.1.2 ci j) v) → va_at g.2.2.1 vwCl (a, .inr (ci, fs.set j v)) H1 := by
  obtain ⟨r, h1, cell, q1, q2, q3, q4⟩ := hat
  have hr : r = (C, T, N) := Option.some.inj (h1.symm.trans hc)
  subst hr
  refine ⟨cell, q1, q3, q2, k2_hasslot (q4 j hk), fun H1 e1 => ⟨_, hc, ?_⟩⟩
  exact t_OB.to (V := updV (vp_V fs) j v) ⟨_, e1, q2, q3, t_set q4 hap hk v⟩ (fun i _ => vp_updV_set hl v i)
theorem clT_eq (hc : vwCl[ci]? = some (C, T, N)) : clT ci = T := by unfold clT; rw [hc]
theorem clN_eq (hc : vwCl[ci]? = some (C, T, N)) : clN ci = N := by unfold clN; rw [hc]
theorem put_ok {j : Nat} {nm : String} (hc : vwCl[ci]? = some (C, T, N)) (hk : j < N) (hfin : (T j).2.2.2 = false) (hlink : Cond.fieldLink own idx (T j).1 (T j).2.1 (T j).2.2.1 ∈ wsG) : PutOK own nm idx ci j := by
  intro p l e R s m args below meth c cc nL H locs cells slots Q g HB pc ls rest fs a v hC hA hnm hat hl hv hd kk
  rw [clT_eq hc] at hv
  obtain ⟨hx, hb, hml, hown, hts⟩ := hC
  have hap := va_apart (own := own) hts (cl_in hc) (tyOf T) (cl_ty hc) (cl_nm hc) hA.1 hc
  obtain ⟨hS, hfc, kC, hkC, hkind⟩ := hA.1.1 ci _ hc
  obtain ⟨cf, kf, fi, f, hi, hsl⟩ := hS j hk
  have hlay := hts _ (cl_in hc _ (u_in_lay hk))
  unfold u_lay at hlay
  rw [if_neg (by rw [hfin]; decide)] at hlay
  have hst := (u_facts hfc hkC (u_lays hts (cl_in hc) hk) hi).1
  have h6 := u_store hfc hkC hkind hlay hi (cl_ty hc j hk) hv.1 hv.2
  obtain ⟨cell, q1, q2, q3, q4, q5⟩ := put_core (v := v) hc hk hat hl hap
  refine W.putK hx hb (f := f) ⟨hown, hts _ hlink, ⟨_, _, _, hi⟩, hst⟩ (by rw [q3]; exact h6) q1 q2 (by rw [hsl]; exact q4) rfl rfl hd fun H' e1 e2 e3 => ?_
  rw [hsl] at e1 ⊢
  exact kk H' _ (q5 H' e1) e2 e3
theorem put_okS {j : Nat} {nm ref : String} (hc : vwCl[ci]? = some (C, T, N)) (hk : j < N) (hfin : (T j).2.2.2 = false) (hlink : Cond.fieldLink own idx ref (T j).2.1 (T j).2.2.1 ∈ wsG) (hsame : Cond.sameField ref (T j).1 (T j).2.1 (T j).2.2.1 ∈ wsG) : PutOK own nm idx ci j := by
  intro p l e R s m args below meth c cc nL H locs cells slots Q g HB pc ls rest fs a v hC hA hnm hat hl hv hd kk
  rw [clT_eq hc] at hv
  obtain ⟨hx, hb, hml, hown, hts⟩ := hC
  have hap := va_apart (own := own) hts (cl_in hc) (tyOf T) (cl_ty hc) (cl_nm hc) hA.1 hc
  obtain ⟨hS, hfc, kC, hkC, hkind⟩ := hA.1.1 ci _ hc
  obtain ⟨cf, kf, fi, f, hi, hsl⟩ := hS j hk
  have hlay := hts _ (cl_in hc _ (u_in_lay hk))
  unfold u_lay at hlay
  rw [if_neg (by rw [hfin]; decide)] at hlay
  have hst := (u_facts hfc hkC (u_lays hts (cl_in hc) hk) hi).1
  have h6 := u_store hfc hkC hkind hlay hi (cl_ty hc j hk) hv.1 hv.2
  obtain ⟨cell, q1, q2, q3, q4, q5⟩ := put_core (v := v) hc hk hat hl hap
  refine W.putK hx hb (f := f) ⟨hown, hts _ hlink, ⟨_, _, _, u_same (hts _ hsame) _ hi⟩, hst⟩ (by rw [q3]; exact h6) q1 q2 (by rw [hsl]; exact q4) rfl rfl hd fun H' e1 e2 e3 => ?_
  rw [hsl] at e1 ⊢
  exact kk H' _ (q5 H' e1) e2 e3
theorem put_okN {j : Nat} {nm host : String} (hc : vwCl[ci]? = some (C, T, N)) (hk : j < N) (hfin : (T j).2.2.2 = false) (hlink : Cond.fieldLinkNest own idx (T j).1 (T j).2.1 (T j).2.2.1 host ∈ nwL) : PutOK own nm idx ci j := by
  intro p l e R s m args below meth c cc nL H locs cells slots Q g HB pc ls rest fs a v hC hA hnm hat hl hv hd kk
  rw [clT_eq hc] at hv
  obtain ⟨hx, hb, hml, hown, hts⟩ := hC
  have hap := va_apart (own := own) hts (cl_in hc) (tyOf T) (cl_ty hc) (cl_nm hc) hA.1 hc
  obtain ⟨hS, hfc, kC, hkC, hkind⟩ := hA.1.1 ci _ hc
  obtain ⟨cf, kf, fi, f, hi, hsl⟩ := hS j hk
  have hlay := hts _ (cl_in hc _ (u_in_lay hk))
  unfold u_lay at hlay
  rw [if_neg (by rw [hfin]; decide)] at hlay
  have hst := (u_facts hfc hkC (u_lays hts (cl_in hc) hk) hi).1
  have h6 := u_store hfc hkC hkind hlay hi (cl_ty hc j hk) hv.1 hv.2
  obtain ⟨cell, q1, q2, q3, q4, q5⟩ := put_core (v := v) hc hk hat hl hap
  refine va_WputK hx hb (f := f) hown (va_Nw.use rfl (hA.2.1 _ hlink)) hi hst (by rw [q3]; exact h6) q1 q2 (by rw [hsl]; exact q4) rfl rfl hd fun H' e1 e2 e3 => ?_
  rw [hsl] at e1 ⊢
  exact kk H' _ (q5 H' e1) e2 e3
theorem put_okF {j : Nat} {nm : String} (hc : vwCl[ci]? = some (C, T, N)) (hk : j < N) (hfin : (T j).2.2.2 = true) (hnm : nm = "<init>") (hdecl : (T j).1 = own) (hlink : Cond.fieldLink own idx (T j).1 (T j).2.1 (T j).2.2.1 ∈ wsG) : PutOK own nm idx ci j := by
  intro p l e R s m args below meth c cc nL H locs cells slots Q g HB pc ls rest fs a v hC hA hmn hat hl hv hd kk
  rw [clT_eq hc] at hv
  obtain ⟨hx, hb, hml, hown, hts⟩ := hC
  have hap := va_apart (own := own) hts (cl_in hc) (tyOf T) (cl_ty hc) (cl_nm hc) hA.1 hc
  obtain ⟨hS, hfc, kC, hkC, hkind⟩ := hA.1.1 ci _ hc
  obtain ⟨cf, kf, fi, f, hi, hsl⟩ := hS j hk
  have hlay := hts _ (cl_in hc _ (u_in_lay hk))
  unfold u_lay at hlay
  rw [if_pos hfin] at hlay
  have hst := (u_facts hfc hkC (u_lays hts (cl_in hc) hk) hi).1
  have hcf : m.cls = cf := by
    obtain ⟨_, _, c', _, _, _, -, -, hf', -, -, -, hown2, -⟩ := Cond.laysFinal_spec hlay
    have e1 : c' = cf := by have := hi.symm.trans hf'; simp at this; exact this.1.symm
    rw [hdecl] at hown2
    rw [← e1]; exact Option.some.inj (hown.symm.trans hown2)
  have h6 := u_fits hfc hkC hkind (Or.inr hlay) hi (cl_ty hc j hk) hv.1 hv.2
  obtain ⟨cell, q1, q2, q3, q4, q5⟩ := put_core (v := v) hc hk hat hl hap
  refine W.putFinK hx hb hown (hts _ hlink) hi hst hcf (hmn.trans hnm) (by rw [q3]; exact h6) q1 q2 (by rw [hsl]; exact q4) rfl rfl hd fun H' e1 e2 e3 => ?_
  rw [hsl] at e1 ⊢
  exact kk H' _ (q5 H' e1) e2 e3
end GETS
/-- which kind of value a field has: 0 int, 1 long, 2 a reference, 3 boolean, 4 another -/
def fkOf (ty : FieldType) : Nat := match ty with
  | .int => 0
  | .long => 1
  | .object _ => 2
  | .array _ => 2
  | .boolean => 3
  | _ => 4
def fk (ci j : Nat) : Nat := fkOf (tyOf (clT ci) j)
theorem fv_I {g : GG} {ci j : Nat} {x : Int} (h : fk ci j = 0 ∨ fk ci j = 3) : fv g (tyOf (clT ci) j) x = .int (Int32.ofInt x) := by
  unfold fk at h
  generalize tyOf (clT ci) j = t at h
  cases t <;> first | rfl | (rcases h with h | h <;> cases h)
theorem fv_L {g : GG} {ci j : Nat} {x : Int} (h : fk ci j = 1) : fv g (tyOf (clT ci) j) x = .long (Int64.ofInt x) := by
  unfold fk at h
  generalize tyOf (clT ci) j = t at h
  cases t <;> first | rfl | cases h
theorem fv_R {g : GG} {ci j : Nat} {x : Int} (h : fk ci j = 2) : fv g (tyOf (clT ci) j) x = rv g x.toNat := by
  unfold fk at h
  generalize tyOf (clT ci) j = t at h
  cases t <;> first | rfl | cases h
theorem fs_at (g : GG) {ci j : Nat} (f : Nat → Int) (hj : j < clN ci) : ((List.range (clN ci)).map (fun j => fv g (tyOf (clT ci) j) (f j)))[j]? = some (fv g (tyOf (clT ci) j) (f j)) := by
  rw [List.getElem?_map, List.getElem?_range hj]
  rfl
theorem fs_set (g : GG) {ci j a : Nat} {v : Nat → Nat → Int} {x : Int} : ((List.range (clN ci)).map (fun i => fv g (tyOf (clT ci) i) (v a i))).set j (fv g (tyOf (clT ci) j) x) = (List.range (clN ci)).map (fun i => fv g (tyOf (clT ci) i) (up v a j x a i)) := by
  apply List.ext_getElem?
  intro i
  rw [List.getElem?_set, List.getElem?_map, List.getElem?_map, List.length_map, List.length_range]
  by_cases hij : j = i
  · subst hij
    rw [if_pos rfl]
    by_cases hl : j < clN ci
    · rw [if_pos hl, List.getElem?_range hl, Option.map_some, up_eq]
    · rw [if_neg hl, List.getElem?_eq_none (by rw [List.length_range]; omega), Option.map_none]
  · rw [if_neg hij]
    by_cases hl : i < clN ci
    · rw [List.getElem?_range hl, Option.map_some, Option.map_some, up_ne2 (fun h => hij h.symm)]
    · rw [List.getElem?_eq_none (by rw [List.length_range]; omega), Option.map_none, Option.map_none]
section TOH
variable {l : Launch} {E : ME} {pc : Nat} {L : LL} {st : List V} {h : Hp} {k z : Nat} {F : Option V → Hp → Nat → Nat → Prop}
theorem Rep.obj {g : GG} {HB H : Heap} {h : Hp} {locs : List Loc} (hR : Rep g HB h H locs) {a ci : Nat} (ht : h.2.1 a = some (.inr ci)) : va_at g.2.2.1 vwCl (g.1 + a, .inr (ci, (List.range (clN ci)).map (fun j => fv g (tyOf (clT ci) j) (h.2.2 a j)))) H := (hR.2.2.1 a _ ht).2.2
def GI (own : String) (idx ci j : Nat) : Prop := GetOK own idx ci j ∧ j < clN ci ∧ (fk ci j = 0 ∨ fk ci j = 3)
def GL (own : String) (idx ci j : Nat) : Prop := GetOK own idx ci j ∧ j < clN ci ∧ fk ci j = 1
def GR (own : String) (idx ci j : Nat) : Prop := GetOK own idx ci j ∧ j < clN ci ∧ fk ci j = 2
theorem to_getI {a idx ci j : Nat} (hg : GI E.2.2.1 idx ci j) (hd : decode E.1 pc = .ok (.getfield idx, 3)) (ht : h.2.1 a = some (.inr ci)) (k0 : To l E (pc + 3, L, .inl (h.2.2 a j) :: st, h, k, z) F) : To l E (pc, L, .inr (.inr a) :: st, h, k, z) F := by
  refine to_of ?_ k0
  refine ⟨⟨Nat.le_refl _, Nat.le_refl _⟩, fun g HB p e R s m args below meth c Q H locs ls hC _ _ _ _ hR hl kk => ?_⟩
  have h9 := kk H locs ls hR hl
  show W p l e R s m args below meth c H locs k z Q (F0 m pc ls (rv g a :: st.map (dv g)))
  rw [hR.rv ht]
  exact hg.1 p l e R s m args below meth c E.1 E.2.1 H locs k z Q g HB pc ls _ _ _ _ hC.1 hC.2.1 (hR.obj ht) ((fs_at g _ hg.2.1).trans (congrArg some (fv_I hg.2.2))) hd h9
theorem to_getL {a idx ci j : Nat} (hg : GL E.2.2.1 idx ci j) (hd : decode E.1 pc = .ok (.getfield idx, 3)) (ht : h.2.1 a = some (.inr ci)) (k0 : To l E (pc + 3, L, .inr (.inl (h.2.2 a j)) :: st, h, k, z) F) : To l E (pc, L, .inr (.inr a) :: st, h, k, z) F := by
  refine to_of ?_ k0
  refine ⟨⟨Nat.le_refl _, Nat.le_refl _⟩, fun g HB p e R s m args below meth c Q H locs ls hC _ _ _ _ hR hl kk => ?_⟩
  have h9 := kk H locs ls hR hl
  show W p l e R s m args below meth c H locs k z Q (F0 m pc ls (rv g a :: st.map (dv g)))
  rw [hR.rv ht]
  exact hg.1 p l e R s m args below meth c E.1 E.2.1 H locs k z Q g HB pc ls _ _ _ _ hC.1 hC.2.1 (hR.obj ht) ((fs_at g _ hg.2.1).trans (congrArg some (fv_L hg.2.2))) hd h9
theorem to_getR {a idx ci j : Nat} (b : Nat) (hg : GR E.2.2.1 idx ci j) (hd : decode E.1 pc = .ok (.getfield idx, 3)) (ht : h.2.1 a = some (.inr ci)) (hv : h.2.2 a j = (b : Int)) (k0 : To l E (pc + 3, L, .inr (.inr b) :: st, h, k, z) F) : To l E (pc, L, .inr (.inr a) :: st, h, k, z) F := by
  refine to_of ?_ k0
  refine ⟨⟨Nat.le_refl _, Nat.le_refl _⟩, fun g HB p e R s m args below meth c Q H locs ls hC _ _ _ _ hR hl kk => ?_⟩
  have h9 := kk H locs ls hR hl
  show W p l e R s m args below meth c H locs k z Q (F0 m pc ls (rv g a :: st.map (dv g)))
  rw [hR.rv ht]
  exact hg.1 p l e R s m args below meth c E.1 E.2.1 H locs k z Q g HB pc ls _ _ _ (rv g b) hC.1 hC.2.1 (hR.obj ht) ((fs_at g _ hg.2.1).trans (congrArg some ((fv_R hg.2.2).trans (congrArg (rv g) (congrArg Int.toNat hv))))) hd h9
def PI (own nm : String) (idx ci j : Nat) : Prop := PutOK own nm idx ci j ∧ j < clN ci ∧ fk ci j = 0
def PZ (own nm : String) (idx ci j : Nat) : Prop := PutOK own nm idx ci j ∧ j < clN ci ∧ fk ci j = 3
def PL (own nm : String) (idx ci j : Nat) : Prop := PutOK own nm idx ci j ∧ j < clN ci ∧ fk ci j = 1
def PR (own nm : String) (idx ci j : Nat) : Prop := PutOK own nm idx ci j ∧ j < clN ci ∧ fk ci j = 2
theorem to_put {a idx ci j : Nat} {v : V} {x : Int} (hg : PutOK E.2.2.1 E.2.2.2.1 idx ci j) (hj : j < clN ci) (hd : decode E.1 pc = .ok (.putfield idx, 3)) (ht : h.2.1 a = some (.inr ci)) (hv : ∀ g : GG, dv g v = fv g (tyOf (clT ci) j) x) (hn : ∀ g : GG, narrow (tyOf (clT ci) j) (dv g v) = dv g v ∧ fits (tyOf (clT ci) j) (dv g v) = true) (k0 : To l E (pc + 3, L, st, wr h a j x, k, z) F) : To l E (pc, L, v :: .inr (.inr a) :: st, h, k, z) F := by
  refine to_of ?_ k0
  refine ⟨⟨Nat.le_refl _, Nat.le_refl _⟩, fun g HB p e R s m args below meth c Q H locs ls hC _ _ _ _ hR hl kk => ?_⟩
  show W p l e R s m args below meth c H locs k z Q (F0 m pc ls (dv g v :: rv g a :: st.map (dv g)))
  rw [hR.rv ht]
  refine hg p l e R s m args below meth c E.1 E.2.1 H locs k z Q g HB pc ls _ _ _ _ hC.1 hC.2.1 hC.2.2.1 (hR.obj ht) (by rw [List.length_map, List.length_range]; exact hj) (hn g) hd fun H1 i e1 e2 e3 => ?_
  refine kk H1 _ ls (hR.set ht ?_ e2 e3) hl
  rw [hv g, fs_set] at e1
  exact e1
theorem to_putI {a idx ci j : Nat} {x : Int} (hg : PI E.2.2.1 E.2.2.2.1 idx ci j) (hd : decode E.1 pc = .ok (.putfield idx, 3)) (ht : h.2.1 a = some (.inr ci)) (k0 : To l E (pc + 3, L, st, wr h a j x, k, z) F) : To l E (pc, L, .inl x :: .inr (.inr a) :: st, h, k, z) F := by
  refine to_put hg.1 hg.2.1 hd ht (fun g => (fv_I (Or.inl hg.2.2)).symm) (fun g => ?_) k0
  have h3 := hg.2.2
  unfold fk at h3
  generalize tyOf (clT ci) j = t at h3
  cases t <;> first | exact ⟨rfl, rfl⟩ | cases h3
theorem to_putZ {a idx ci j : Nat} {x : Int} (hg : PZ E.2.2.1 E.2.2.2.1 idx ci j) (hd : decode E.1 pc = .ok (.putfield idx, 3)) (ht : h.2.1 a = some (.inr ci)) (hx : x = 0 ∨ x = 1) (k0 : To l E (pc + 3, L, st, wr h a j x, k, z) F) : To l E (pc, L, .inl x :: .inr (.inr a) :: st, h, k, z) F := by
  refine to_put hg.1 hg.2.1 hd ht (fun g => (fv_I (Or.inr hg.2.2)).symm) (fun g => ?_) k0
  have h3 := hg.2.2
  unfold fk at h3
  generalize tyOf (clT ci) j = t at h3
  cases t <;> first | cases h3 | skip
  rcases hx with rfl | rfl
  · constructor
    · show narrow .boolean (.int (Int32.ofInt 0)) = .int (Int32.ofInt 0)
      decide +kernel
    · show fits .boolean (.int (Int32.ofInt 0)) = true
      decide +kernel
  · constructor
    · show narrow .boolean (.int (Int32.ofInt 1)) = .int (Int32.ofInt 1)
      decide +kernel
    · show fits .boolean (.int (Int32.ofInt 1)) = true
      decide +kernel
theorem to_putL {a idx ci j : Nat} {x : Int} (hg : PL E.2.2.1 E.2.2.2.1 idx ci j) (hd : decode E.1 pc = .ok (.putfield idx, 3)) (ht : h.2.1 a = some (.inr ci)) (k0 : To l E (pc + 3, L, st, wr h a j x, k, z) F) : To l E (pc, L, .inr (.inl x) :: .inr (.inr a) :: st, h, k, z) F := by
  refine to_put hg.1 hg.2.1 hd ht (fun g => (fv_L hg.2.2).symm) (fun g => ?_) k0
  have h3 := hg.2.2
  unfold fk at h3
  generalize tyOf (clT ci) j = t at h3
  cases t <;> first | exact ⟨rfl, rfl⟩ | cases h3
theorem to_putR {a idx ci j b : Nat} (hg : PR E.2.2.1 E.2.2.2.1 idx ci j) (hd : decode E.1 pc = .ok (.putfield idx, 3)) (ht : h.2.1 a = some (.inr ci)) (k0 : To l E (pc + 3, L, st, wr h a j (b : Int), k, z) F) : To l E (pc, L, .inr (.inr b) :: .inr (.inr a) :: st, h, k, z) F := by
  refine to_put hg.1 hg.2.1 hd ht (fun g => by rw [fv_R hg.2.2]; rfl) (fun g => ?_) k0
  have h3 := hg.2.2
  unfold fk at h3
  generalize tyOf (clT ci) j = t at h3
  show narrow t (rv g b) = rv g b ∧ fits t (rv g b) = true
  cases t <;> first | (cases b <;> exact ⟨rfl, rfl⟩) | cases h3
-- arrays
theorem to_alen {a n q : Nat} (hd : decode E.1 pc = .ok (.arraylength, 1)) (ht : h.2.1 a = some (.inl (q, n))) (hq : q % 10 < 5) (k0 : To l E (pc + 1, L, .inl (n : Int) :: st, h, k, z) F) : To l E (pc, L, .inr (.inr a) :: st, h, k, z) F := by
  refine to_of ?_ k0
  refine ⟨⟨Nat.le_refl _, Nat.le_refl _⟩, fun g HB p e R s m args below meth c Q H locs ls hC _ _ _ _ hR hl kk => ?_⟩
  show W p l e R s m args below meth c H locs k z Q (F0 m pc ls (rv g a :: st.map (dv g)))
  rw [hR.rv ht]
  refine W.alen hC.1.1 hC.1.2.1 (hR.arr ht rfl) ((hC.2.1.1.2 (q % 10) _ (tysG_at g hq)).1 n _) ?_ rfl rfl hd (kk H locs ls hR hl)
  rw [arrV_size]
  rfl
theorem in_of {i : Int} {n : Nat} (hi : 0 ≤ i ∧ i < n) (hn : n ≤ 2147483647) : (Int32.ofInt i).toNatClampNeg = i.toNat ∧ ¬ Int32.ofInt i < 0 := by
  have h1 : (Int32.ofInt i).toInt = i := tI_of (by omega)
  constructor
  · show (Int32.ofInt i).toInt.toNat = i.toNat
    rw [h1]
  · rw [Int32.lt_iff_toInt_lt, h1]
    intro h9
    have h9 : i < 0 := h9
    omega
theorem vin_of {g : GG} {q n : Nat} {i : Int} {f : Nat → Int} (hi : 0 ≤ i ∧ i < n) (hn : n ≤ 2147483647) : ¬ (Int32.ofInt i < 0 ∨ (arrV (g.2.2.2 q) n (fun j => aval g q (f j))).slots.size ≤ (Int32.ofInt i).toNatClampNeg) := by
  obtain ⟨h1, h2⟩ := in_of hi hn
  rw [arrV_size, h1]
  rintro (q | q)
  · exact h2 q
  · omega
theorem vat_of {g : GG} {q n : Nat} {i : Int} {f : Nat → Int} (hi : 0 ≤ i ∧ i < n) (hn : n ≤ 2147483647) : (arrV (g.2.2.2 q) n (fun j => aval g q (f j))).slots[(Int32.ofInt i).toNatClampNeg]? = some (aval g q (f i.toNat)) := by
  obtain ⟨h1, h2⟩ := in_of hi hn
  rw [h1, arrV_read _ _ (by omega)]
theorem to_iald {a n w : Nat} {i : Int} (hd : decode E.1 pc = .ok (.iaload, 1)) (ht : h.2.1 a = some (.inl (w, n))) (hq : w % 10 = 0) (hn : n ≤ 2147483647) (hi : 0 ≤ i ∧ i < n) (k0 : To l E (pc + 1, L, .inl (h.2.2 a i.toNat) :: st, h, k, z) F) : To l E (pc, L, .inl i :: .inr (.inr a) :: st, h, k, z) F := by
  refine to_of ?_ k0
  refine ⟨⟨Nat.le_refl _, Nat.le_refl _⟩, fun g HB p e R s m args below meth c Q H locs ls hC _ _ _ _ hR hl kk => ?_⟩
  show W p l e R s m args below meth c H locs k z Q (F0 m pc ls (.int (Int32.ofInt i) :: rv g a :: st.map (dv g)))
  rw [hR.rv ht]
  exact W.iald hC.1.1 hC.1.2.1 (hR.arr ht hq) ((hC.2.1.1.2 0 _ rfl).1 n _) (fun q => by cases q) (vin_of hi hn) (vat_of hi hn) rfl rfl hd (kk H locs ls hR hl)
theorem to_bald {a n q w : Nat} {i : Int} (hd : decode E.1 pc = .ok (.baload, 1)) (hq : q = 1 ∨ q = 2) (ht : h.2.1 a = some (.inl (w, n))) (hw : w % 10 = q) (hn : n ≤ 2147483647) (hi : 0 ≤ i ∧ i < n) (k0 : To l E (pc + 1, L, .inl (h.2.2 a i.toNat) :: st, h, k, z) F) : To l E (pc, L, .inl i :: .inr (.inr a) :: st, h, k, z) F := by
  refine to_of ?_ k0
  refine ⟨⟨Nat.le_refl _, Nat.le_refl _⟩, fun g HB p e R s m args below meth c Q H locs ls hC _ _ _ _ hR hl kk => ?_⟩
  show W p l e R s m args below meth c H locs k z Q (F0 m pc ls (.int (Int32.ofInt i) :: rv g a :: st.map (dv g)))
  rw [hR.rv ht]
  rcases hq with rfl | rfl
  · exact W.bald hC.1.1 hC.1.2.1 (hR.arr ht hw) ((hC.2.1.1.2 1 _ rfl).1 n _) (fun q => by cases q) (vin_of hi hn) (vat_of hi hn) rfl rfl hd (kk H locs ls hR hl)
  · exact W.zald hC.1.1 hC.1.2.1 (hR.arr ht hw) ((hC.2.1.1.2 2 _ rfl).1 n _) (fun q => by cases q) (vin_of hi hn) (vat_of hi hn) rfl rfl hd (kk H locs ls hR hl)
theorem to_lald {a n w : Nat} {i : Int} (hd : decode E.1 pc = .ok (.laload, 1)) (ht : h.2.1 a = some (.inl (w, n))) (hq : w % 10 = 3) (hn : n ≤ 2147483647) (hi : 0 ≤ i ∧ i < n) (k0 : To l E (pc + 1, L, .inr (.inl (h.2.2 a i.toNat)) :: st, h, k, z) F) : To l E (pc, L, .inl i :: .inr (.inr a) :: st, h, k, z) F := by
  refine to_of ?_ k0
  refine ⟨⟨Nat.le_refl _, Nat.le_refl _⟩, fun g HB p e R s m args below meth c Q H locs ls hC _ _ _ _ hR hl kk => ?_⟩
  show W p l e R s m args below meth c H locs k z Q (F0 m pc ls (.int (Int32.ofInt i) :: rv g a :: st.map (dv g)))
  rw [hR.rv ht]
  exact W.lald hC.1.1 hC.1.2.1 (hR.arr ht hq) ((hC.2.1.1.2 3 _ rfl).1 n _) (fun q => by cases q) (vin_of hi hn) (vat_of hi hn) rfl rfl hd (kk H locs ls hR hl)
theorem to_aald {a n w : Nat} {i : Int} (b : Nat) (hd : decode E.1 pc = .ok (.aaload, 1)) (ht : h.2.1 a = some (.inl (w, n))) (hq : w % 10 = 4) (hn : n ≤ 2147483647) (hi : 0 ≤ i ∧ i < n) (hv : h.2.2 a i.toNat = (b : Int)) (k0 : To l E (pc + 1, L, .inr (.inr b) :: st, h, k, z) F) : To l E (pc, L, .inl i :: .inr (.inr a) :: st, h, k, z) F := by
  refine to_of ?_ k0
  refine ⟨⟨Nat.le_refl _, Nat.le_refl _⟩, fun g HB p e R s m args below meth c Q H locs ls hC _ _ _ _ hR hl kk => ?_⟩
  show W p l e R s m args below meth c H locs k z Q (F0 m pc ls (.int (Int32.ofInt i) :: rv g a :: st.map (dv g)))
  rw [hR.rv ht]
  have h9 := kk H locs ls hR hl
  refine W.aald (v := rv g b) hC.1.1 hC.1.2.1 (hR.arr ht hq) ((hC.2.1.1.2 4 _ rfl).1 n _) rfl (fun q => by cases q) (vin_of hi hn) ((vat_of hi hn).trans ?_) rfl rfl hd h9
  rw [hv]
  rfl
theorem st_of {g : GG} {q n a : Nat} {i : Int} {x : Int} {v : Nat → Nat → Int} {w : Value} (hi : 0 ≤ i ∧ i < n) (hn : n ≤ 2147483647) (hw : w = aval g q x) : (arrV (g.2.2.2 q) n (fun j => aval g q (v a j))).setSlot (Int32.ofInt i).toNatClampNeg w = arrV (g.2.2.2 q) n (fun j => aval g q (up v a i.toNat x a j)) := by
  rw [(in_of hi hn).1, arrV_store]
  congr 1
  funext j
  by_cases hj : j = i.toNat
  · subst hj; simp only [updV, if_pos, up_eq, hw]
  · rw [up_ne2 hj]; simp only [updV, if_neg hj]
theorem Rep.seta {g : GG} {HB H H1 : Heap} {h : Hp} {locs : List Loc} (hR : Rep g HB h H locs) {a j i q n k : Nat} {x : Int} (ht : h.2.1 a = some (.inl (k, n))) (hq : k % 10 = q) (he : H1[g.1 + a]? = some (arrV (g.2.2.2 q) n (fun i => aval g q (up h.2.2 a j x a i)))) (z : H1.size = H.size) (oq : ∀ q : Nat, q ≠ g.1 + a → H1[q]? = H[q]?) : Rep g HB (wr h a j x) H1 (locs ++ [⟨g.1 + a, i⟩]) := by
  subst hq
  refine hR.set ht ?_ z oq
  show H1[g.1 + a]? = some (vp_cell (g.2.2.2 (k % 10)) (cC g (k % 10) n _))
  rw [ce_arr]
  exact he
theorem to_iast {a n w : Nat} {i x : Int} (hd : decode E.1 pc = .ok (.iastore, 1)) (ht : h.2.1 a = some (.inl (w, n))) (hq : w % 10 = 0) (hn : n ≤ 2147483647) (hi : 0 ≤ i ∧ i < n) (k0 : To l E (pc + 1, L, st, wr h a i.toNat x, k, z) F) : To l E (pc, L, .inl x :: .inl i :: .inr (.inr a) :: st, h, k, z) F := by
  refine to_of ?_ k0
  refine ⟨⟨Nat.le_refl _, Nat.le_refl _⟩, fun g HB p e R s m args below meth c Q H locs ls hC _ _ _ _ hR hl kk => ?_⟩
  show W p l e R s m args below meth c H locs k z Q (F0 m pc ls (.int (Int32.ofInt x) :: .int (Int32.ofInt i) :: rv g a :: st.map (dv g)))
  rw [hR.rv ht]
  refine W.iast hC.1.1 hC.1.2.1 (hR.arr ht hq) ((hC.2.1.1.2 0 _ rfl).1 n _) (fun q => by cases q) (vin_of hi hn) rfl rfl hd fun H1 e1 z1 oq => ?_
  exact kk H1 _ ls (hR.seta ht hq (e1.trans (congrArg some (st_of (q := 0) (g := g) (a := a) (v := h.2.2) (x := x) hi hn rfl))) z1 oq) hl
theorem nb_of (x : Int) : narrow .byte (.int (Int32.ofInt x)) = .int (Int32.ofInt (b8 x)) := by
  show Value.int ((Int32.ofInt x).toInt8.toInt32) = _
  rw [i2b_of]
  unfold b8
  rw [Int32.toInt_ofInt]
  congr 2
  exact b8_wrap x
theorem nz_of {x : Int} (hx : x = 0 ∨ x = 1) : narrow .boolean (.int (Int32.ofInt x)) = .int (Int32.ofInt x) := by
  rcases hx with rfl | rfl <;> decide +kernel
theorem to_bast {a n w : Nat} {i x : Int} (hd : decode E.1 pc = .ok (.bastore, 1)) (ht : h.2.1 a = some (.inl (w, n))) (hq : w % 10 = 1) (hn : n ≤ 2147483647) (hi : 0 ≤ i ∧ i < n) (k0 : To l E (pc + 1, L, st, wr h a i.toNat (b8 x), k, z) F) : To l E (pc, L, .inl x :: .inl i :: .inr (.inr a) :: st, h, k, z) F := by
  refine to_of ?_ k0
  refine ⟨⟨Nat.le_refl _, Nat.le_refl _⟩, fun g HB p e R s m args below meth c Q H locs ls hC _ _ _ _ hR hl kk => ?_⟩
  show W p l e R s m args below meth c H locs k z Q (F0 m pc ls (.int (Int32.ofInt x) :: .int (Int32.ofInt i) :: rv g a :: st.map (dv g)))
  rw [hR.rv ht]
  refine W.bast hC.1.1 hC.1.2.1 (hR.arr ht hq) ((hC.2.1.1.2 1 _ rfl).1 n _) (fun q => by cases q) (vin_of hi hn) rfl rfl hd fun H1 e1 z1 oq => ?_
  exact kk H1 _ ls (hR.seta ht hq (e1.trans (congrArg some (st_of (q := 1) (g := g) (a := a) (v := h.2.2) (x := b8 x) hi hn (nb_of x)))) z1 oq) hl
theorem to_zast {a n w : Nat} {i x : Int} (hd : decode E.1 pc = .ok (.bastore, 1)) (ht : h.2.1 a = some (.inl (w, n))) (hq : w % 10 = 2) (hn : n ≤ 2147483647) (hi : 0 ≤ i ∧ i < n) (hx : x = 0 ∨ x = 1) (k0 : To l E (pc + 1, L, st, wr h a i.toNat x, k, z) F) : To l E (pc, L, .inl x :: .inl i :: .inr (.inr a) :: st, h, k, z) F := by
  refine to_of ?_ k0
  refine ⟨⟨Nat.le_refl _, Nat.le_refl _⟩, fun g HB p e R s m args below meth c Q H locs ls hC _ _ _ _ hR hl kk => ?_⟩
  show W p l e R s m args below meth c H locs k z Q (F0 m pc ls (.int (Int32.ofInt x) :: .int (Int32.ofInt i) :: rv g a :: st.map (dv g)))
  rw [hR.rv ht]
  refine W.zast hC.1.1 hC.1.2.1 (hR.arr ht hq) ((hC.2.1.1.2 2 _ rfl).1 n _) (fun q => by cases q) (vin_of hi hn) rfl rfl hd fun H1 e1 z1 oq => ?_
  exact kk H1 _ ls (hR.seta ht hq (e1.trans (congrArg some (st_of (q := 2) (g := g) (a := a) (v := h.2.2) (x := x) hi hn (nz_of hx)))) z1 oq) hl
theorem to_last {a n w : Nat} {i x : Int} (hd : decode E.1 pc = .ok (.lastore, 1)) (ht : h.2.1 a = some (.inl (w, n))) (hq : w % 10 = 3) (hn : n ≤ 2147483647) (hi : 0 ≤ i ∧ i < n) (k0 : To l E (pc + 1, L, st, wr h a i.toNat x, k, z) F) : To l E (pc, L, .inr (.inl x) :: .inl i :: .inr (.inr a) :: st, h, k, z) F := by
  refine to_of ?_ k0
  refine ⟨⟨Nat.le_refl _, Nat.le_refl _⟩, fun g HB p e R s m args below meth c Q H locs ls hC _ _ _ _ hR hl kk => ?_⟩
  show W p l e R s m args below meth c H locs k z Q (F0 m pc ls (.long (Int64.ofInt x) :: .int (Int32.ofInt i) :: rv g a :: st.map (dv g)))
  rw [hR.rv ht]
  refine W.last hC.1.1 hC.1.2.1 (hR.arr ht hq) ((hC.2.1.1.2 3 _ rfl).1 n _) (fun q => by cases q) (vin_of hi hn) rfl rfl hd fun H1 e1 z1 oq => ?_
  exact kk H1 _ ls (hR.seta ht hq (e1.trans (congrArg some (st_of (q := 3) (g := g) (a := a) (v := h.2.2) (x := x) hi hn rfl))) z1 oq) hl
end TOH
