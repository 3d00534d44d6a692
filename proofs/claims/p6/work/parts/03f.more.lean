/-! Cells made, casts, switches, constants, what stands outside, ends, calls. -/
section TOM
variable {l : Launch} {E : ME} {pc : Nat} {L : LL} {st : List V} {h : Hp} {k z : Nat} {F : Option V → Hp → Nat → Nat → Prop}
-- making
def ftOK (ty : FieldType) : Bool := match ty with
  | .float => false
  | .double => false
  | _ => true
theorem fv_zero (g : GG) {ty : FieldType} (h : ftOK ty = true) : fv g ty 0 = defaultValue ty := by
  cases ty <;> first | rfl | cases h
/-- a class that can be made -/
def NewOK (own : String) (idx ci : Nat) : Prop := ∃ (C : String) (T : u_T) (N : Nat), vwCl[ci]? = some (C, T, N) ∧ (List.range N).all (fun j => ftOK (tyOf T j)) = true ∧ Cond.classLink own idx C ∈ wsG ∧ Cond.instantiable C N ∈ wsG ∧ Cond.initialized C ∈ wsG
theorem to_new {idx ci : Nat} (hg : NewOK E.2.2.1 idx ci) (hd : decode E.1 pc = .ok (.new idx, 3)) (hlt : h.1 < 1000000) (k0 : To l E (pc + 3, L, .inr (.inr h.1) :: st, al h (.inr ci), k + 1, z + clN ci) F) : To l E (pc, L, st, h, k, z) F := by
  obtain ⟨C, T, N, hc, hall, hcl, hinst, hini⟩ := hg
  have hN : clN ci = N := clN_eq hc
  rw [hN] at k0
  refine to_of ?_ k0
  refine ⟨⟨Nat.le_add_right _ _, Nat.le_add_right _ _⟩, fun g HB p e R s m args below meth c Q H locs ls hC _ _ hcells hslots hR hl kk => ?_⟩
  obtain ⟨⟨hx, hb, hml, hown, hts⟩, hA, -⟩ := hC
  have hKn := hA.1.1 ci _ hc
  have hR1 := hR.1
  refine W.newcK hx hb hown (hts _ hcl) (hts _ hinst) (hts _ hini) rfl hd hcells hslots hKn.2.1 hR1.1 fun H1 kC hkC e1 z1 o1 => ?_
  have h9 := kk H1 locs ls (hR.app (t := .inr ci) hlt ?_ (by rw [z1]; omega) (fun q hq => o1 q (by omega))) hl
  · have e9 : dv g (.inr (.inr h.1)) = .ref (g.1 + h.1) := by
      show rv g h.1 = _
      rw [rv_pos g hR1.2.2.1, ad_in g hlt]
    have h9 : W p l e R s m args below meth c H1 locs (k + 1) (z + N) Q (F0 m (pc + 3) ls (dv g (.inr (.inr h.1)) :: st.map (dv g))) := h9
    rw [e9] at h9
    exact h9
  · refine ⟨_, hc, (u_born (tyOf T) hts (cl_in hc) hKn hkC e1 (cl_ty hc)).to (fun j hj => ?_)⟩
    have h1 := List.all_eq_true.mp hall j (List.mem_range.mpr hj)
    rw [← fv_zero g h1]
    unfold vp_V
    rw [List.getD_eq_getElem?_getD, List.getElem?_map, clN_eq hc, clT_eq hc, List.getElem?_range hj]
    rfl
theorem Rep.appa {g : GG} {HB H H1 : Heap} {h : Hp} {locs : List Loc} (hR : Rep g HB h H locs) {q n w : Nat} (hq : w % 10 = q) (hlt : h.1 < 1000000) (he : H1[g.1 + h.1]? = some (arrV (g.2.2.2 q) n (fun _ => aval g q 0))) (z : H1.size = H.size + 1) (oq : ∀ q : Nat, q < H.size → H1[q]? = H[q]?) : Rep g HB (al h (.inl (w, n))) H1 locs := by
  subst hq
  refine hR.app hlt ?_ z oq
  show H1[g.1 + h.1]? = some (vp_cell (g.2.2.2 (w % 10)) (cC g (w % 10) n _))
  rw [ce_arr]
  exact he
theorem dv_new {g : GG} {HB H : Heap} {h : Hp} {locs : List Loc} (hR : Rep g HB h H locs) (hlt : h.1 < 1000000) : dv g (.inr (.inr h.1)) = .ref (g.1 + h.1) := by
  show rv g h.1 = _
  rw [rv_pos g hR.1.2.2.1, ad_in g hlt]
theorem to_newarray {q : Nat} (w : Nat) {at9 : ArrayType} {i : Int} (hw : w % 10 = q) (hq : q < 4) (hty : newarray.typeOf at9 = tyA q) (harr : Cond.arrayClass (tyA q) ∈ wsG) (hd : decode E.1 pc = .ok (.newarray at9, 2)) (hi : 0 ≤ i ∧ i ≤ 67108864) (hlt : h.1 < 1000000) (k0 : To l E (pc + 2, L, .inr (.inr h.1) :: st, al h (.inl (w, i.toNat)), k + 1, z + i.toNat) F) : To l E (pc, L, .inl i :: st, h, k, z) F := by
  refine to_of ?_ k0
  refine ⟨⟨Nat.le_add_right _ _, Nat.le_add_right _ _⟩, fun g HB p e R s m args below meth c Q H locs ls hC _ _ hcells hslots hR hl kk => ?_⟩
  obtain ⟨⟨hx, hb, hml, hown, hts⟩, hA, -⟩ := hC
  have hR1 := hR.1
  have hcb : i.toNat * componentBytes (newarray.typeOf at9) ≤ 536870912 := by
    rw [hty]
    rcases (show q = 0 ∨ q = 1 ∨ q = 2 ∨ q = 3 by omega) with rfl | rfl | rfl | rfl <;> (simp only [tyA, componentBytes]; omega)
  have hin := in_of (i := i) (n := 67108865) (by omega) (by omega)
  refine va_newaK hx hb (by rw [hty]; exact hts _ harr) (g := F0 m pc ls (Value.int (Int32.ofInt i) :: st.map (dv g))) rfl hd (n := Int32.ofInt i) rfl hin.2 hin.1 hcb hcells hslots hR1.1 fun H1 cA e1 z1 o1 hAr hNm => ?_
  have hRA := (hA.1.2 q _ (tysG_at g (by omega))).2
  have hcA : g.2.2.2 q = cA := by
    have h3 : s.vm.findClass ("[" ++ (tyA q).toString) = some (g.2.2.2 q) := by
      rcases (show q = 0 ∨ q = 1 ∨ q = 2 ∨ q = 3 by omega) with rfl | rfl | rfl | rfl <;> exact hRA
    rw [hty] at hNm
    exact Option.some.inj (h3.symm.trans hNm)
  have h9 := kk H1 locs ls (hR.appa (q := q) (n := i.toNat) hw hlt (by
    rw [e1, hcA, hty]
    rcases (show q = 0 ∨ q = 1 ∨ q = 2 ∨ q = 3 by omega) with rfl | rfl | rfl | rfl <;> rfl) (by rw [z1]; omega) (fun q hq => o1 q (by omega))) hl
  have h9 : W p l e R s m args below meth c H1 locs (k + 1) (z + i.toNat) Q (F0 m (pc + 2) ls (dv g (.inr (.inr h.1)) :: st.map (dv g))) := h9
  rw [dv_new hR hlt] at h9
  exact h9
theorem to_anewarray {idx : Nat} (w : Nat) {i : Int} (hw : w % 10 = 4) (hcl : Cond.classLink E.2.2.1 idx "java/lang/Object" ∈ wsG) (hover : Cond.arrayOver (.object "java/lang/Object") ∈ nwL) (hd : decode E.1 pc = .ok (.anewarray idx, 3)) (hi : 0 ≤ i ∧ i ≤ 67108864) (hlt : h.1 < 1000000) (k0 : To l E (pc + 3, L, .inr (.inr h.1) :: st, al h (.inl (w, i.toNat)), k + 1, z + i.toNat) F) : To l E (pc, L, .inl i :: st, h, k, z) F := by
  refine to_of ?_ k0
  refine ⟨⟨Nat.le_add_right _ _, Nat.le_add_right _ _⟩, fun g HB p e R s m args below meth c Q H locs ls hC _ _ hcells hslots hR hl kk => ?_⟩
  obtain ⟨⟨hx, hb, hml, hown, hts⟩, hA, -⟩ := hC
  have hR1 := hR.1
  have hin := in_of (i := i) (n := 67108865) (by omega) (by omega)
  refine W.anew hx hb hown (hts _ hcl) (over_vm rfl (hA.2.1 _ hover)) (g := F0 m pc ls (Value.int (Int32.ofInt i) :: st.map (dv g))) rfl hd (n := Int32.ofInt i) rfl hin.2 (by rw [hin.1]; omega) hcells (by rw [hin.1]; exact hslots) fun cA kA comp f1 f2 f3 f4 => ?_
  rw [hin.1]
  obtain ⟨kA2, comp2, k1, k2, k3, k4⟩ := (hA.1.2 4 _ rfl).2
  have hcA : g.2.2.2 4 = cA := Option.some.inj (k4.symm.trans f1)
  generalize hH1 : H.push ({ cls := cA, slots := Array.replicate i.toNat .null, vm := .none } : Cell) = H1
  have z1 : H1.size = H.size + 1 := by rw [← hH1, Array.size_push]
  have e1 : H1[H.size]? = some (arrV cA i.toNat (fun _ => .null)) := by rw [← hH1, Array.getElem?_push_size, ← arrV_new]
  have o1 : ∀ q : Nat, q < H.size → H1[q]? = H[q]? := fun q hq => by rw [← hH1, Array.getElem?_push, if_neg (Nat.ne_of_lt hq)]
  have h9 := kk H1 locs ls (hR.appa (q := 4) (n := i.toNat) hw hlt (by rw [← hR1.1, e1, hcA]; rfl) z1 o1) hl
  have h9 : W p l e R s m args below meth c H1 locs (k + 1) (z + i.toNat) Q (F0 m (pc + 3) ls (dv g (.inr (.inr h.1)) :: st.map (dv g))) := h9
  rw [dv_new hR hlt, ← hR1.1] at h9
  exact h9
-- casts, stores of references
theorem to_castO {a ci idx : Nat} {C nm : String} {T : u_T} {N : Nat} (hc : vwCl[ci]? = some (C, T, N)) (hlink : Cond.classLink E.2.2.1 idx nm ∈ wsG) (hca : Cond.castable C nm ∈ nwL) (hd : decode E.1 pc = .ok (.checkcast idx, 3)) (ht : h.2.1 a = some (.inr ci)) (k0 : To l E (pc + 3, L, .inr (.inr a) :: st, h, k, z) F) : To l E (pc, L, .inr (.inr a) :: st, h, k, z) F := by
  refine to_of ?_ k0
  refine ⟨⟨Nat.le_refl _, Nat.le_refl _⟩, fun g HB p e R s m args below meth c Q H locs ls hC _ _ _ _ hR hl kk => ?_⟩
  have h9 : W p l e R s m args below meth c H locs k z Q (F0 m (pc + 3) ls (rv g a :: st.map (dv g))) := kk H locs ls hR hl
  show W p l e R s m args below meth c H locs k z Q (F0 m pc ls (rv g a :: st.map (dv g)))
  rw [hR.rv ht] at h9 ⊢
  obtain ⟨⟨hx, hb, hml, hown, hts⟩, hA, -⟩ := hC
  exact va_castY hx hb hown (hts _ hlink) (hA.2.1 _ hca) (va_recv (q0 := 0) hA.1 (va_P1 (hR.obj ht)) hc rfl) hd h9
theorem to_aast {a b ci n w : Nat} {i : Int} {C : String} {T : u_T} {N : Nat} (hc : vwCl[ci]? = some (C, T, N)) (hca : Cond.castable C "java/lang/Object" ∈ nwL) (hd : decode E.1 pc = .ok (.aastore, 1)) (ht : h.2.1 a = some (.inl (w, n))) (hq : w % 10 = 4) (hb0 : h.2.1 b = some (.inr ci)) (hn : n ≤ 2147483647) (hi : 0 ≤ i ∧ i < n) (k0 : To l E (pc + 1, L, st, wr h a i.toNat (b : Int), k, z) F) : To l E (pc, L, .inr (.inr b) :: .inl i :: .inr (.inr a) :: st, h, k, z) F := by
  refine to_of ?_ k0
  refine ⟨⟨Nat.le_refl _, Nat.le_refl _⟩, fun g HB p e R s m args below meth c Q H locs ls hC _ _ _ _ hR hl kk => ?_⟩
  show W p l e R s m args below meth c H locs k z Q (F0 m pc ls (rv g b :: .int (Int32.ofInt i) :: rv g a :: st.map (dv g)))
  rw [hR.rv ht, hR.rv hb0]
  obtain ⟨⟨hx, hb, hml, hown, hts⟩, hA, -⟩ := hC
  obtain ⟨r', hr', cellV, g1, g2, g3, -⟩ := hR.obj hb0
  have hcls := (hA.1.1 ci _ hc).2
  obtain ⟨kA, comp, k1, k2, k3, -⟩ := (hA.1.2 4 _ rfl).2
  obtain ⟨kE, hkE, -⟩ := Vm.findClass_spec k3
  obtain ⟨c0, t1, f1, f2, f3⟩ := Cond.castable_spec (va_Nw.use (A := args) rfl (hA.2.1 _ hca))
  cases hcls.1.symm.trans f1
  cases k3.symm.trans f2
  obtain ⟨kC, hkC, -⟩ := hcls.2
  have hin := in_of hi hn
  refine W.aast (j := Int32.ofInt i) hx hb (hR.arr ht hq) (fun q h => by cases h) (fun h => by cases h) k1 k2 rfl hkE ⟨hin.2, by show _ < (arrV _ _ _).slots.size; rw [arrV_size, hin.1]; omega⟩ g1 (fun q h => by rw [g3] at h; cases h) (by rw [g2]; exact hkC) (by rw [g2]; exact f3) rfl rfl hd fun H1 e1 zz oq => ?_
  refine kk H1 _ ls (hR.seta ht hq (e1.trans (congrArg some (st_of (q := 4) (g := g) (a := a) (v := h.2.2) (x := (b : Int)) hi hn ?_))) zz oq) hl
  exact (hR.rv hb0).symm
theorem to_aastN {a n w : Nat} {i : Int} (hd : decode E.1 pc = .ok (.aastore, 1)) (ht : h.2.1 a = some (.inl (w, n))) (hq : w % 10 = 4) (hn : n ≤ 2147483647) (hi : 0 ≤ i ∧ i < n) (k0 : To l E (pc + 1, L, st, wr h a i.toNat 0, k, z) F) : To l E (pc, L, .inr (.inr 0) :: .inl i :: .inr (.inr a) :: st, h, k, z) F := by
  refine to_of ?_ k0
  refine ⟨⟨Nat.le_refl _, Nat.le_refl _⟩, fun g HB p e R s m args below meth c Q H locs ls hC _ _ _ _ hR hl kk => ?_⟩
  show W p l e R s m args below meth c H locs k z Q (F0 m pc ls (.null :: .int (Int32.ofInt i) :: rv g a :: st.map (dv g)))
  rw [hR.rv ht]
  refine va_WaastN (C := "java/lang/Object") hC.1.1 hC.1.2.1 (hR.arr ht hq) ((hC.2.1.1.2 4 _ rfl).1 n _) (fun h => by cases h) (vin_of hi hn) rfl rfl hd fun H1 e1 zz oq => ?_
  exact kk H1 _ ls (hR.seta ht hq (e1.trans (congrArg some (st_of (q := 4) (g := g) (a := a) (v := h.2.2) (x := 0) hi hn rfl))) zz oq) hl
-- switches
def tabK (x lo : Int) (P : Nat → Prop) : List Nat → Prop
  | [] => True
  | t :: r => (x = lo → P t) ∧ tabK x (lo + 1) P r
theorem tabK_at {x : Int} {P : Nat → Prop} : ∀ {ts : List Nat} {lo : Int} {n t : Nat}, tabK x lo P ts → ts[n]? = some t → x = lo + n → P t
  | [], _, _, _, _, h, _ => by cases h
  | a :: r, lo, 0, t, hK, h, hx => by
    cases h
    exact hK.1 (by omega)
  | a :: r, lo, n + 1, t, hK, h, hx => tabK_at (lo := lo + 1) (n := n) hK.2 h (by push_cast at hx; omega)
theorem to_table {x dflt lo hi : Int} {offs : Array Int} {len d : Nat} {ts : List Nat} (hd : decode E.1 pc = .ok (.tableswitch dflt lo hi offs, len)) (hdf : (pc : Int) + dflt = (d : Int)) (hts : offs.toList.map (fun o => (pc : Int) + o) = ts.map (fun t : Nat => (t : Int))) (hlen : hi - lo + 1 = ts.length) (hx : I32 x)
    (kd : x < lo ∨ hi < x → To l E (d, L, st, h, k, z) F) (ki : tabK x lo (fun t => To l E (t, L, st, h, k, z) F) ts) : To l E (pc, L, .inl x :: st, h, k, z) F := by
  have hxi : (Int32.ofInt x).toInt = x := tI_of hx
  by_cases hc : x < lo ∨ hi < x
  · exact to_of (sx_pure fun g HB p e R s m args below meth c Q H locs ls hC hl kk => lv_tableOut (x := Int32.ofInt x) hC.1.1 hC.1.2.1 hd (by rw [hxi]; exact hc) hdf (kk ls hl)) (kd hc)
  · have hn : (x - lo).toNat < ts.length := by omega
    have ht : ts[(x - lo).toNat]? = some (ts[(x - lo).toNat]'hn) := List.getElem?_eq_getElem hn
    generalize ts[(x - lo).toNat]'hn = t at ht
    have h1 : (offs.toList.map (fun o => (pc : Int) + o))[(x - lo).toNat]? = some (t : Int) := by rw [hts, List.getElem?_map, ht]; rfl
    rw [List.getElem?_map] at h1
    cases ho : offs.toList[(x - lo).toNat]? with
    | none => rw [ho] at h1; cases h1
    | some o =>
      rw [ho] at h1
      have h2 : (pc : Int) + o = (t : Int) := Option.some.inj h1
      exact to_of (sx_pure fun g HB p e R s m args below meth c Q H locs ls hC hl kk => lv_tableIn (x := Int32.ofInt x) hC.1.1 hC.1.2.1 hd (by rw [hxi]; omega) (by rw [hxi]; omega) (by rw [hxi, ← Array.getElem?_toList]; exact ho) h2 (kk ls hl)) (tabK_at ki ht (by omega))
theorem off_find (ps : List (Int × Int)) (d x : Int) : Op.lookupswitch.offset ps d x = match ps.find? (fun q => decide (q.1 = x)) with | some q => q.2 | none => d := by
  induction ps with
  | nil => rfl
  | cons q t ih =>
    obtain ⟨a, o⟩ := q
    rw [Op.lookupswitch.offset_cons, List.find?_cons]
    by_cases h : a = x
    · subst h
      simp
    · rw [if_neg h, ih]
      simp [h]
def lookK (x : Int) (P : Nat → Prop) (D : Prop) : List (Int × Nat) → Prop
  | [] => D
  | q :: r => (x = q.1 → P q.2) ∧ (x ≠ q.1 → lookK x P D r)
theorem to_look {x dflt : Int} {pr : Array (Int × Int)} {len d : Nat} {ps : List (Int × Nat)} (hd : decode E.1 pc = .ok (.lookupswitch dflt pr, len)) (hp : (pr.toList.zip (pr.toList.drop 1)).all (fun (a, next) => a.1 < next.1) = true) (hdf : (pc : Int) + dflt = (d : Int)) (hps : pr.toList.map (fun o => (o.1, (pc : Int) + o.2)) = ps.map (fun t : Int × Nat => (t.1, (t.2 : Int)))) (hx : I32 x)
    (ki : lookK x (fun t => To l E (t, L, st, h, k, z) F) (To l E (d, L, st, h, k, z) F) ps) : To l E (pc, L, .inl x :: st, h, k, z) F := by
  have hxi : (Int32.ofInt x).toInt = x := tI_of hx
  have key : ∃ t : Nat, (pc : Int) + Op.lookupswitch.offset pr.toList dflt x = (t : Int) ∧ To l E (t, L, st, h, k, z) F := by
    rw [off_find]
    generalize pr.toList = pl at hps
    clear hp hd
    induction pl generalizing ps with
    | nil =>
      cases ps with
      | nil => exact ⟨d, hdf, ki⟩
      | cons a b => cases hps
    | cons q t ih =>
      cases ps with
      | nil => cases hps
      | cons a b =>
        rw [List.map_cons, List.map_cons] at hps
        have e1 := (List.cons.inj hps).1
        have e2 := (List.cons.inj hps).2
        have e3 : q.1 = a.1 := congrArg Prod.fst e1
        have e4 : (pc : Int) + q.2 = (a.2 : Int) := congrArg Prod.snd e1
        rw [List.find?_cons, e3]
        by_cases hz : a.1 = x
        · rw [decide_eq_true hz]
          exact ⟨a.2, e4, ki.1 hz.symm⟩
        · rw [decide_eq_false hz]
          exact ih (ki.2 (fun h => hz h.symm)) e2
  obtain ⟨t, h1, h2⟩ := key
  exact to_of (sx_pure fun g HB p e R s m args below meth c Q H locs ls hC hl kk => lv_lookup (x := Int32.ofInt x) hC.1.1 hC.1.2.1 hd hp rfl (by rw [hxi]; exact h1) (kk ls hl)) h2
-- constants and what stands outside
theorem to_ldc {idx : Nat} {v : Int} {x : Int32} (h1 : Cond.constant E.2.2.1 idx x ∈ wsG) (hv : x = Int32.ofInt v) (hd : decode E.1 pc = .ok (.ldc idx, 2)) (k0 : To l E (pc + 2, L, .inl v :: st, h, k, z) F) : To l E (pc, L, st, h, k, z) F :=
  to_of (sx_pure fun g HB p e R s m args below meth c Q H locs ls hC hl kk => by subst hv; exact lv_ldc hC.1.1 hC.1.2.1 hC.1.2.2.2.1 (hC.1.2.2.2.2 _ h1) hd (kk ls hl)) k0
theorem to_ldc2 {idx : Nat} {v : Int} {x : Int64} (h1 : Cond.constantLong E.2.2.1 idx x ∈ wsG) (hv : x = Int64.ofInt v) (hd : decode E.1 pc = .ok (.ldc2_w idx, 3)) (k0 : To l E (pc + 3, L, .inr (.inl v) :: st, h, k, z) F) : To l E (pc, L, st, h, k, z) F :=
  to_of (sx_pure fun g HB p e R s m args below meth c Q H locs ls hC hl kk => by subst hv; exact lv_ldc2 hC.1.1 hC.1.2.1 hC.1.2.2.2.1 (hC.1.2.2.2.2 _ h1) hd (kk ls hl)) k0
theorem rv_out (g : GG) (q : Nat) : rv g (1000000 + q) = .ref (g.2.1 q) := by
  rw [rv_pos g (by omega)]
  unfold ad
  cases hb : Nat.blt (1000000 + q) 1000000 with
  | true => have := Nat.blt_eq.mp hb; omega
  | false => rw [Nat.add_sub_cancel_left]
theorem to_ldcS {idx q : Nat} {tx : String} (h1 : (E.2.2.1, idx, tx, q) ∈ xR) (hd : decode E.1 pc = .ok (.ldc idx, 2)) (k0 : To l E (pc + 2, L, .inr (.inr (1000000 + q)) :: st, h, k, z) F) : To l E (pc, L, st, h, k, z) F :=
  to_of (sx_pure fun g HB p e R s m args below meth c Q H locs ls hC hl kk => by
    have hk : W p l e R s m args below meth c H locs k z Q (F0 m (pc + 2) ls (rv g (1000000 + q) :: st.map (dv g))) := kk ls hl
    rw [rv_out] at hk
    exact va_ldcS hC.1.1 hC.1.2.1 hC.1.2.2.2.1 (hC.2.1.2.2.2.2.2.1 _ h1) hd hk) k0
theorem to_gst {idx : Nat} {C f9 d9 : String} {v : V} (h1 : (C, f9, d9, v) ∈ xZ) (hlink : Cond.fieldLink E.2.2.1 idx C f9 d9 ∈ wsG) (hd : decode E.1 pc = .ok (.getstatic idx, 3)) (k0 : To l E (pc + 3, L, v :: st, h, k, z) F) : To l E (pc, L, st, h, k, z) F := by
  refine to_of ?_ k0
  refine ⟨⟨Nat.le_refl _, Nat.le_refl _⟩, fun g HB p e R s m args below meth c Q H locs ls hC _ _ _ _ hR hl kk => ?_⟩
  obtain ⟨⟨hx, hb, hml, hown, hts⟩, hA, -⟩ := hC
  obtain ⟨cf, kf, fi, f, a, cell, g1, g2, g3, g4, g5, g6, g7, g8⟩ := hA.2.2.2.2.1 _ h1
  have g8 : ¬ g.1 + 1 ≤ a := g8
  exact W.gets hx hb hown (hts _ hlink) g1 g2 g3 g4 (by rw [hR.2.1 a (by omega)]; exact g5) (fun e => by rw [e] at g6; cases g6) g7 rfl hd (kk H locs ls hR hl)
/-- a field of an outside object -/
theorem to_getX {idx q : Nat} {o9 f9 d9 : String} {v : V} (h1 : (q, o9, f9, d9, v) ∈ xOF) (hlink : Cond.fieldLink E.2.2.1 idx o9 f9 d9 ∈ wsG) (hd : decode E.1 pc = .ok (.getfield idx, 3)) (k0 : To l E (pc + 3, L, v :: st, h, k, z) F) : To l E (pc, L, .inr (.inr (1000000 + q)) :: st, h, k, z) F := by
  refine to_of ?_ k0
  refine ⟨⟨Nat.le_refl _, Nat.le_refl _⟩, fun g HB p e R s m args below meth c Q H locs ls hC _ _ _ _ hR hl kk => ?_⟩
  show W p l e R s m args below meth c H locs k z Q (F0 m pc ls (rv g (1000000 + q) :: st.map (dv g)))
  rw [rv_out]
  obtain ⟨⟨hx, hb, hml, hown, hts⟩, hA, -⟩ := hC
  obtain ⟨cf, k9, fi, f, cell, g1, g2, g3, g4, g5, g6⟩ := hA.2.2.1 _ h1
  have g6 : ¬ g.1 + 1 ≤ g.2.1 q := g6
  exact W.getf hx hb hown (hts _ hlink) g1 g2 (by rw [hR.2.1 _ (by omega)]; exact g3) g4 g5 rfl rfl hd (kk H locs ls hR hl)
theorem to_alenX {q n : Nat} {ty : FieldType} {cs : List Int} (h1 : (q, ty, n, cs) ∈ xT) (hd : decode E.1 pc = .ok (.arraylength, 1)) (k0 : To l E (pc + 1, L, .inl (n : Int) :: st, h, k, z) F) : To l E (pc, L, .inr (.inr (1000000 + q)) :: st, h, k, z) F := by
  refine to_of ?_ k0
  refine ⟨⟨Nat.le_refl _, Nat.le_refl _⟩, fun g HB p e R s m args below meth c Q H locs ls hC _ _ _ _ hR hl kk => ?_⟩
  show W p l e R s m args below meth c H locs k z Q (F0 m pc ls (rv g (1000000 + q) :: st.map (dv g)))
  rw [rv_out]
  obtain ⟨⟨hx, hb, hml, hown, hts⟩, hA, -⟩ := hC
  obtain ⟨cell, c1, c2, c3, c4, c5, c6, c7⟩ := hA.2.2.2.1 _ h1
  have c7 : ¬ g.1 + 1 ≤ g.2.1 q := c7
  exact W.alen hx hb (by rw [hR.2.1 _ (by omega)]; exact c1) c2 c5 rfl rfl hd (kk H locs ls hR hl)
theorem to_ialdX {q n : Nat} {cs : List Int} {i : Int} (h1 : (q, .int, n, cs) ∈ xT) (hd : decode E.1 pc = .ok (.iaload, 1)) (hn : n ≤ 2147483647) (hi : 0 ≤ i ∧ i < n) (k0 : To l E (pc + 1, L, .inl (cs.getD i.toNat 0) :: st, h, k, z) F) : To l E (pc, L, .inl i :: .inr (.inr (1000000 + q)) :: st, h, k, z) F := by
  refine to_of ?_ k0
  refine ⟨⟨Nat.le_refl _, Nat.le_refl _⟩, fun g HB p e R s m args below meth c Q H locs ls hC _ _ _ _ hR hl kk => ?_⟩
  show W p l e R s m args below meth c H locs k z Q (F0 m pc ls (.int (Int32.ofInt i) :: rv g (1000000 + q) :: st.map (dv g)))
  rw [rv_out]
  obtain ⟨⟨hx, hb, hml, hown, hts⟩, hA, -⟩ := hC
  obtain ⟨cell, c1, c2, c3, c4, c5, c6, c7⟩ := hA.2.2.2.1 _ h1
  simp only at c1 c2 c4 c5 c6
  have c7 : ¬ g.1 + 1 ≤ g.2.1 q := c7
  have hin := in_of hi hn
  exact W.iald (j := Int32.ofInt i) hx hb (by rw [hR.2.1 _ (by omega)]; exact c1) c2 c3 (by
    rintro (q | q)
    · exact hin.2 q
    · rw [hin.1] at q; omega) (by rw [hin.1]; exact c6 _ (by omega)) rfl rfl hd (kk H locs ls hR hl)
theorem to_baldX {q n : Nat} {cs : List Int} {i : Int} (h1 : (q, .byte, n, cs) ∈ xT) (hd : decode E.1 pc = .ok (.baload, 1)) (hn : n ≤ 2147483647) (hi : 0 ≤ i ∧ i < n) (k0 : To l E (pc + 1, L, .inl (cs.getD i.toNat 0) :: st, h, k, z) F) : To l E (pc, L, .inl i :: .inr (.inr (1000000 + q)) :: st, h, k, z) F := by
  refine to_of ?_ k0
  refine ⟨⟨Nat.le_refl _, Nat.le_refl _⟩, fun g HB p e R s m args below meth c Q H locs ls hC _ _ _ _ hR hl kk => ?_⟩
  show W p l e R s m args below meth c H locs k z Q (F0 m pc ls (.int (Int32.ofInt i) :: rv g (1000000 + q) :: st.map (dv g)))
  rw [rv_out]
  obtain ⟨⟨hx, hb, hml, hown, hts⟩, hA, -⟩ := hC
  obtain ⟨cell, c1, c2, c3, c4, c5, c6, c7⟩ := hA.2.2.2.1 _ h1
  simp only at c1 c2 c4 c5 c6
  have c7 : ¬ g.1 + 1 ≤ g.2.1 q := c7
  have hin := in_of hi hn
  exact W.bald (j := Int32.ofInt i) hx hb (by rw [hR.2.1 _ (by omega)]; exact c1) c2 c3 (by
    rintro (q | q)
    · exact hin.2 q
    · rw [hin.1] at q; omega) (by rw [hin.1]; exact c6 _ (by omega)) rfl rfl hd (kk H locs ls hR hl)
-- ends
theorem ends_of {r : Option V} (hF : F r h k z) (row : ∀ (g : GG) (HB : Heap) (p : Program) (e : Env) (R : Room) (s : State) (m : MethodId) (args : Array Value) (below : List Frame) (meth : Method) (c : Code) (H : Heap) (locs : List Loc) (ls : Array Slot), Cx g HB p s m args meth c E →
      (∀ t : State, t.heap = H → s.WarmedH t.vm → QR g HB r h args s (.returned (r.map (dv g))) t) → (∀ q ∈ locs, hiA g q.base) → W p l e R s m args below meth c H locs k z (MQ below (QR g HB r h) args s k z (hiA g)) (F0 m pc ls (st.map (dv g)))) : To l E (pc, L, st, h, k, z) F :=
  ⟨r, h, k, z, hF, ⟨Nat.le_refl _, Nat.le_refl _⟩, fun g HB p e R s m args below meth c H locs ls hC _ _ _ _ hR _ => row g HB p e R s m args below meth c H locs ls hC (fun t ht _ => ⟨rfl, by rw [ht]; exact Rep.nolocs hR⟩) hR.2.2.2.2⟩
theorem to_vret (hr : E.2.2.2.2.1 = none) (hd : decode E.1 pc = .ok (.return_, 1)) (hF : F none h k z) : To l E (pc, L, [], h, k, z) F :=
  ends_of hF fun g HB p e R s m args below meth c H locs ls hC hq hf => W.vret hC.1.1 hC.1.2.1 (hC.2.2.2.1.trans hr) hq hf hd hC.2.2.2.2
theorem to_iret {x : Int} (hr : E.2.2.2.2.1 = some .int) (hd : decode E.1 pc = .ok (.ireturn, 1)) (hF : F (some (.inl x)) h k z) : To l E (pc, L, [.inl x], h, k, z) F :=
  ends_of hF fun g HB p e R s m args below meth c H locs ls hC hq hf => W.iret hC.1.1 hC.1.2.1 (hC.2.2.2.1.trans hr) hq hf hd hC.2.2.2.2
theorem to_zret {x : Int} (hr : E.2.2.2.2.1 = some .boolean) (hd : decode E.1 pc = .ok (.ireturn, 1)) (hx : x = 0 ∨ x = 1) (hF : F (some (.inl x)) h k z) : To l E (pc, L, [.inl x], h, k, z) F :=
  ends_of hF fun g HB p e R s m args below meth c H locs ls hC hq hf => W.zret (v := Int32.ofInt x) hC.1.1 hC.1.2.1 (hC.2.2.2.1.trans hr) (nz_of hx) hq hf hd hC.2.2.2.2
theorem to_bret {x : Int} (hr : E.2.2.2.2.1 = some .byte) (hd : decode E.1 pc = .ok (.ireturn, 1)) (hx : -128 ≤ x ∧ x < 128) (hF : F (some (.inl x)) h k z) : To l E (pc, L, [.inl x], h, k, z) F :=
  ends_of hF fun g HB p e R s m args below meth c H locs ls hC hq hf => W.zret (v := Int32.ofInt x) hC.1.1 hC.1.2.1 (hC.2.2.2.1.trans hr) (by rw [nb_of, b8_id hx]) hq hf hd hC.2.2.2.2
theorem nc_of {x : Int} (hx : 0 ≤ x ∧ x < 65536) : narrow .char (.int (Int32.ofInt x)) = .int (Int32.ofInt x) := by
  have h1 : (Int32.ofInt x).toBitVec.toNat = x.toNat := by
    show (BitVec.ofInt 32 x).toNat = x.toNat
    rw [BitVec.toNat_ofInt]
    have h2 : x % ((2 ^ 32 : Nat) : Int) = x := Int.emod_eq_of_lt (by omega) (by omega)
    rw [h2]
  refine congrArg Value.int (Int32.toBitVec_inj.mp ?_)
  show ((Int32.ofInt x).toBitVec.setWidth 16).setWidth 32 = (Int32.ofInt x).toBitVec
  apply BitVec.eq_of_toNat_eq
  rw [BitVec.toNat_setWidth, BitVec.toNat_setWidth, h1]
  omega
theorem to_cret {x : Int} (hr : E.2.2.2.2.1 = some .char) (hd : decode E.1 pc = .ok (.ireturn, 1)) (hx : 0 ≤ x ∧ x < 65536) (hF : F (some (.inl x)) h k z) : To l E (pc, L, [.inl x], h, k, z) F :=
  ends_of hF fun g HB p e R s m args below meth c H locs ls hC hq hf => W.zret (v := Int32.ofInt x) hC.1.1 hC.1.2.1 (hC.2.2.2.1.trans hr) (nc_of hx) hq hf hd hC.2.2.2.2
theorem to_lret {x : Int} (hr : E.2.2.2.2.1 = some .long) (hd : decode E.1 pc = .ok (.lreturn, 1)) (hF : F (some (.inr (.inl x))) h k z) : To l E (pc, L, [.inr (.inl x)], h, k, z) F :=
  ends_of hF fun g HB p e R s m args below meth c H locs ls hC hq hf => W.lret hC.1.1 hC.1.2.1 (hC.2.2.2.1.trans hr) hq hf hd hC.2.2.2.2
theorem to_aret {b : Nat} {rt : FieldType} (hr : E.2.2.2.2.1 = some rt) (hrt : (∃ n, rt = .object n) ∨ ∃ t, rt = .array t) (hd : decode E.1 pc = .ok (.areturn, 1)) (hF : F (some (.inr (.inr b))) h k z) : To l E (pc, L, [.inr (.inr b)], h, k, z) F :=
  ends_of hF fun g HB p e R s m args below meth c H locs ls hC hq hf => W.aret hC.1.1 hC.1.2.1 (hC.2.2.2.1.trans hr) hrt (by cases b with | zero => exact Or.inl rfl | succ q => exact Or.inr ⟨_, rfl⟩) hq hf hd hC.2.2.2.2
end TOM
