/-! Steps that make cells, and those that read and write arrays. -/
section MAK
variable {g : GG} {HB : Heap} {l : Launch} {call : CallF} {cc : ByteArray} {nL : Nat} {own nm : String} {pc n : Nat} {ci : Nat} {C : String} {T : u_T} {N : Nat}
def dfl (ty : FieldType) : AV := match ty with
  | .long => .inr (.inl 0)
  | .object _ => .inr (.inr .null)
  | .array _ => .inr (.inr .null)
  | _ => .inl 0
def dflOK (ty : FieldType) : Bool := match ty with
  | .float => false
  | .double => false
  | _ => true
theorem dfl_ok {ty : FieldType} (h : dflOK ty = true) : cV g (dfl ty) = defaultValue ty := by
  cases ty <;> first | rfl | cases h
def s_new (ci N : Nat) (fs : List AV) (n : Nat) : FF := fun _ _ _ c => match c with
  | (_, L, st, h, k, z, o, cs) => fz h.length (fun q => fzs (h ++ [.inr (ci, fs)]) (fun h' => some (n, L, .inr (.inr (.ref q)) :: st, h', cInc k 1, cInc z N, o, cs)))
theorem h_new {idx : Nat} {fs : List AV} (hex : HB.size = g.1) (hc : vwCl[ci]? = some (C, T, N)) (hfs : (List.range N).map (fun j => dfl (tyOf T j)) = fs) (hdf : (List.range N).all (fun j => dflOK (tyOf T j)) = true) (hcl : Cond.classLink own idx C ∈ wsG) (hinst : Cond.instantiable C N ∈ wsG) (hini : Cond.initialized C ∈ wsG) (hd : decode cc pc = .ok (.new idx, 3)) (hn : pc + 3 = n) : Snd g HB l call cc nL own nm pc (s_new ci N fs n) := by
  intro fr lo L st h kk z o cs pc' L' st' h' k' z' o' cs' hf
  simp only [s_new, fz_eq, fzs_eq] at hf
  cases hf
  subst hn
  refine ⟨⟨List.suffix_refl _, by rw [cv_inc]; exact Nat.le_add_right _ _, by rw [cv_inc]; exact Nat.le_add_right _ _⟩, fun _ p e R s m args below meth c Q H locs ls hC _ _ hcells hslots hR hl kk => ?_⟩
  simp only [cv_inc] at hcells hslots kk
  obtain ⟨⟨hx, hb, hml, hown, hts⟩, hA, -⟩ := hC
  have hKn := hA.1.1 ci _ hc
  refine W.newcK hx hb hown (hts _ hcl) (hts _ hinst) (hts _ hini) rfl hd hcells hslots hKn.2.1 (hR.1.2 hex) fun H1 kC hkC e1 z1 o1 => ?_
  refine kk H1 locs ls (hR.app ?_ (by rw [z1, hR.1.2 hex]) (fun q hq => o1 q (by rw [← hR.1.2 hex]; exact hq))) hl
  refine ⟨_, hc, (u_born (tyOf T) hts (cl_in hc) hKn hkC e1 (cl_ty hc)).to (fun j hj => ?_)⟩
  have h1 := List.all_eq_true.mp hdf j (List.mem_range.mpr hj)
  rw [← dfl_ok (g := g) h1, ← hfs]
  unfold vp_V
  rw [List.getD_eq_getElem?_getD, List.map_map, List.getElem?_map, List.getElem?_range hj]
  rfl
-- arrays of numbers
def tyA (t : Nat) : FieldType := match t with
  | 0 => .int
  | 1 => .byte
  | 2 => .boolean
  | 3 => .long
  | _ => .object "java/lang/Object"
theorem tysG_at (g : GG) {t : Nat} (ht : t < 5) : (tysG g)[t]? = some (g.2.2.2 t, tyA t) := by
  rcases (show t = 0 ∨ t = 1 ∨ t = 2 ∨ t = 3 ∨ t = 4 by omega) with rfl | rfl | rfl | rfl | rfl <;> rfl
def s_newa (t n : Nat) : FF := fun _ _ _ c => match c with
  | (_, L, st, h, k, z, o, cs) => match st with
    | .inl x :: r => match Nat.ble x 67108864 with
      | true => fz h.length (fun q => fzs (h ++ [.inl (t, x, [])]) (fun h' => some (n, L, .inr (.inr (.ref q)) :: r, h', cInc k 1, cInc z x, o, cs)))
      | false => none
    | _ => none
theorem cC_new (g : GG) (t x : Nat) (cA : ClassId) (ht : t < 5) : vp_cell cA (cC g t x []) = arrV cA x (fun _ => defaultValue (tyA t)) := by
  rcases (show t = 0 ∨ t = 1 ∨ t = 2 ∨ t = 3 ∨ t = 4 by omega) with rfl | rfl | rfl | rfl | rfl <;> rfl
theorem h_newa {t : Nat} {at9 : ArrayType} (hex : HB.size = g.1) (ht : t < 4) (hty : newarray.typeOf at9 = tyA t) (harr : Cond.arrayClass (tyA t) ∈ wsG) (hd : decode cc pc = .ok (.newarray at9, 2)) (hn : pc + 2 = n) : Snd g HB l call cc nL own nm pc (s_newa t n) := by
  intro fr lo L st h kk z o cs pc' L' st' h' k' z' o' cs' hf
  rcases st with _ | ⟨a, r⟩
  · cases hf
  rcases a with x | a
  · simp only [s_newa] at hf
    cases hb0 : Nat.ble x 67108864 with
    | false => rw [hb0] at hf; cases hf
    | true =>
      rw [hb0] at hf
      simp only [fz_eq, fzs_eq] at hf
      cases hf
      subst hn
      have hx0 : x ≤ 67108864 := Nat.ble_eq.mp hb0
      refine ⟨⟨List.suffix_refl _, by rw [cv_inc]; exact Nat.le_add_right _ _, by rw [cv_inc]; exact Nat.le_add_right _ _⟩, fun _ p e R s m args below meth c Q H locs ls hC _ _ hcells hslots hR hl kk => ?_⟩
      simp only [cv_inc] at hcells hslots kk
      obtain ⟨⟨hx, hb, hml, hown, hts⟩, hA, -⟩ := hC
      have hcb : x * componentBytes (newarray.typeOf at9) ≤ 536870912 := by
        rw [hty]
        rcases (show t = 0 ∨ t = 1 ∨ t = 2 ∨ t = 3 by omega) with rfl | rfl | rfl | rfl <;> (simp only [tyA, componentBytes]; omega)
      refine va_newaK hx hb (by rw [hty]; exact hts _ harr) (g := F0 m pc ls (Value.int (nI x) :: r.map (cV g))) rfl hd (n := nI x) rfl (nI_pos (by omega)) (nI_clamp (by omega)) hcb hcells hslots (hR.1.2 hex) fun H1 cA e1 z1 o1 hAr hNm => ?_
      refine kk H1 locs ls (hR.app ?_ (by rw [z1, hR.1.2 hex]) (fun q hq => o1 q (by rw [← hR.1.2 hex]; exact hq))) hl
      have hRA := (hA.1.2 t _ (tysG_at g (by omega))).2
      have hcA : g.2.2.2 t = cA := by
        have h3 : s.vm.findClass ("[" ++ (tyA t).toString) = some (g.2.2.2 t) := by
          rcases (show t = 0 ∨ t = 1 ∨ t = 2 ∨ t = 3 by omega) with rfl | rfl | rfl | rfl <;> exact hRA
        rw [hty] at hNm
        exact Option.some.inj (h3.symm.trans hNm)
      show H1[g.1 + h.length]? = some (vp_cell (g.2.2.2 t) (cC g t x []))
      rw [cC_new g t x _ (by omega), hcA, ← hty]
      exact e1
  · cases hf
def s_newq (n : Nat) : FF := fun _ _ _ c => match c with
  | (_, L, st, h, k, z, o, cs) => match st with
    | .inl x :: r => match Nat.ble x 67108864 with
      | true => fz h.length (fun q => fzs (h ++ [.inl (4, x, [])]) (fun h' => some (n, L, .inr (.inr (.ref q)) :: r, h', cInc k 1, cInc z x, o, cs)))
      | false => none
    | _ => none
theorem h_newq {idx : Nat} (hex : HB.size = g.1) (hcl : Cond.classLink own idx "java/lang/Object" ∈ wsG) (hover : Cond.arrayOver (.object "java/lang/Object") ∈ nwL) (hd : decode cc pc = .ok (.anewarray idx, 3)) (hn : pc + 3 = n) : Snd g HB l call cc nL own nm pc (s_newq n) := by
  intro fr lo L st h kk z o cs pc' L' st' h' k' z' o' cs' hf
  rcases st with _ | ⟨a, r⟩
  · cases hf
  rcases a with x | a
  · simp only [s_newq] at hf
    cases hb0 : Nat.ble x 67108864 with
    | false => rw [hb0] at hf; cases hf
    | true =>
      rw [hb0] at hf
      simp only [fz_eq, fzs_eq] at hf
      cases hf
      subst hn
      have hx0 : x ≤ 67108864 := Nat.ble_eq.mp hb0
      have hcl0 : (nI x).toNatClampNeg = x := nI_clamp (by omega)
      refine ⟨⟨List.suffix_refl _, by rw [cv_inc]; exact Nat.le_add_right _ _, by rw [cv_inc]; exact Nat.le_add_right _ _⟩, fun _ p e R s m args below meth c Q H locs ls hC _ _ hcells hslots hR hl kk => ?_⟩
      simp only [cv_inc] at hcells hslots kk
      obtain ⟨⟨hx, hb, hml, hown, hts⟩, hA, -⟩ := hC
      refine W.anew hx hb hown (hts _ hcl) (over_vm rfl (hA.2.1 _ hover)) (g := F0 m pc ls (Value.int (nI x) :: r.map (cV g))) rfl hd (n := nI x) rfl (nI_pos (by omega)) (by rw [hcl0]; omega) hcells (by rw [hcl0]; exact hslots) fun cA kA comp f1 f2 f3 f4 => ?_
      rw [hcl0]
      obtain ⟨kA2, comp2, k1, k2, k3, k4⟩ := (hA.1.2 4 _ (tysG_at g (by omega))).2
      have hcA : g.2.2.2 4 = cA := Option.some.inj (k4.symm.trans f1)
      generalize hH1 : H.push ({ cls := cA, slots := Array.replicate x .null, vm := .none } : Cell) = H1
      have z1 : H1.size = H.size + 1 := by rw [← hH1, Array.size_push]
      have e1 : H1[H.size]? = some (arrV cA x (fun _ => .null)) := by rw [← hH1, Array.getElem?_push_size, ← arrV_new]
      have o1 : ∀ q : Nat, q < H.size → H1[q]? = H[q]? := fun q hq => by rw [← hH1, Array.getElem?_push, if_neg (Nat.ne_of_lt hq)]
      have hsz := hR.1.2 hex
      rw [hsz] at e1 ⊢
      refine kk H1 locs ls (hR.app ?_ z1 o1) hl
      show H1[g.1 + h.length]? = some (vp_cell (g.2.2.2 4) (cC g 4 x []))
      rw [cC_new g 4 x _ (by omega), hcA]
      exact e1
  · cases hf
-- lengths
def xTf (q : Nat) : Option (FieldType × Nat × List Int32) := alk xT q
theorem xTf_mem {q : Nat} {x : FieldType × Nat × List Int32} (h : xTf q = some x) : (q, x) ∈ xT := alk_mem h
def fOf (a : AV) : Option Nat := match a with
  | .inl _ => none
  | .inr (.inl _) => none
  | .inr (.inr v) => match v with
    | .float k => some k.toNat
    | _ => none
theorem fOf_eq {a : AV} {k : Nat} (h : fOf a = some k) : cV g a = .ref (g.2.1 k) := by
  rcases a with n | n | v
  · cases h
  · cases h
  · cases v <;> cases h
    rfl
def s_alen (n : Nat) : FF := fun _ _ _ c => match c with
  | (_, L, st, h, kk, z, o, cs) => match st with
    | [] => none
    | a :: r => match rOf a with
      | some q => match h[q]? with
        | some (.inl (t, m, _)) => match Nat.blt t 5 with
          | true => some (n, L, .inl m :: r, h, kk, z, o, cs)
          | false => none
        | _ => none
      | none => match fOf a with
        | none => none
        | some q => match xTf q with
          | none => none
          | some x => some (n, L, .inl x.2.1 :: r, h, kk, z, o, cs)
theorem h_alen (hd : decode cc pc = .ok (.arraylength, 1)) (hn : pc + 1 = n) : Snd g HB l call cc nL own nm pc (s_alen n) := by
  intro fr lo L st h kk z o cs pc' L' st' h' k' z' o' cs' hf
  subst hn
  rcases st with _ | ⟨a, r⟩
  · cases hf
  simp only [s_alen] at hf
  cases ha : rOf a with
  | some q =>
    rw [ha] at hf
    simp only at hf
    cases hq : h[q]? with
    | none => rw [hq] at hf; cases hf
    | some c =>
      rw [hq] at hf
      rcases c with ⟨t, m, u⟩ | c
      · simp only at hf
        cases ht : Nat.blt t 5 with
        | false => rw [ht] at hf; cases hf
        | true =>
          rw [ht] at hf
          cases hf
          refine ⟨⟨List.suffix_refl _, Nat.le_refl _, Nat.le_refl _⟩, fun _ p e R s m0 args below meth c Q H locs ls hC _ _ _ _ hR hl kk => ?_⟩
          obtain ⟨⟨hx, hb, hml, hown, hts⟩, hA, -⟩ := hC
          rw [rOf_eq ha]
          have ht5 : t < 5 := Nat.blt_eq.mp ht
          refine va_alen hx hb hA.1 hR.2.2.1 q t (Rh.ws hq) (tysG_at g ht5) (v := nI m) ?_ hd (kk H locs ls hR hl)
          rcases (show t = 0 ∨ t = 1 ∨ t = 2 ∨ t = 3 ∨ t = 4 by omega) with rfl | rfl | rfl | rfl | rfl <;> rfl
      · cases hf
  | none =>
    rw [ha] at hf
    simp only at hf
    cases hq : fOf a with
    | none => rw [hq] at hf; cases hf
    | some q =>
      rw [hq] at hf
      simp only at hf
      cases hxq : xTf q with
      | none => rw [hxq] at hf; cases hf
      | some x =>
        rw [hxq] at hf
        cases hf
        refine ⟨⟨List.suffix_refl _, Nat.le_refl _, Nat.le_refl _⟩, fun _ p e R s m0 args below meth c Q H locs ls hC _ _ _ _ hR hl kk => ?_⟩
        obtain ⟨⟨hx, hb, hml, hown, hts⟩, hA, -⟩ := hC
        obtain ⟨cell, c1, c2, c3, c4, c5, c6, c7⟩ := hA.2.2.2.1 _ (xTf_mem hxq)
        rw [List.map_cons, fOf_eq hq]
        exact W.alen hx hb (by rw [hR.2.1 _ (Nat.lt_of_not_le c7)]; exact c1) c2 c5 rfl rfl hd (kk H locs ls hR hl)
-- reading
def s_ald (ok : Nat → Bool) (test : AV → Bool) (d : AV) (n : Nat) : FF := fun _ _ _ c => match c with
  | (_, L, st, h, kk, z, o, cs) => match st with
    | .inl j :: a :: r => match rOf a with
      | some q => match h[q]? with
        | some (.inl (t, m, u)) => match ok t && (Nat.blt j m && Nat.blt j 2147483648) with
          | true => match (alk u j).getD d with
            | v => match test v with
              | true => some (n, L, v :: r, h, kk, z, o, cs)
              | false => none
          | false => none
        | _ => none
      | none => none
    | _ => none
theorem s_ald_ok {ok : Nat → Bool} {test : AV → Bool} {d : AV} {n fr lo pc : Nat} {call : CallF} {L : LL} {st : List AV} {h : List AE} {kk z : Cnt} {o : List Bool} {cs : CSL} {x : Cfg} (hf : s_ald ok test d n call fr lo (pc, L, st, h, kk, z, o, cs) = some x) : ∃ (q j t m : Nat) (u : List (Nat × AV)) (r : List AV), st = .inl j :: .inr (.inr (.ref q)) :: r ∧ h[q]? = some (.inl (t, m, u)) ∧ ok t = true ∧ j < m ∧ j < 2147483648 ∧ test ((alk u j).getD d) = true ∧ x = (n, L, (alk u j).getD d :: r, h, kk, z, o, cs) := by
  rcases st with _ | ⟨i, _ | ⟨a, r⟩⟩
  · cases hf
  · rcases i with i | i <;> cases hf
  rcases i with j | i
  · simp only [s_ald] at hf
    cases ha : rOf a with
    | none => rw [ha] at hf; cases hf
    | some q =>
      rw [ha] at hf
      simp only at hf
      cases hq : h[q]? with
      | none => rw [hq] at hf; cases hf
      | some c =>
        rw [hq] at hf
        rcases c with ⟨t, m, u⟩ | c
        · simp only at hf
          cases hb : ok t && (Nat.blt j m && Nat.blt j 2147483648) with
          | false => rw [hb] at hf; cases hf
          | true =>
            rw [hb] at hf
            simp only at hf
            cases ht : test ((alk u j).getD d) with
            | false => rw [ht] at hf; cases hf
            | true =>
              rw [ht] at hf
              cases hf
              rw [Bool.and_eq_true, Bool.and_eq_true] at hb
              exact ⟨q, j, t, m, u, r, by rw [rOf_eq ha], hq, hb.1, Nat.blt_eq.mp hb.2.1, Nat.blt_eq.mp hb.2.2, ht, rfl⟩
        · cases hf
  · cases hf
theorem cI_of {u : List (Nat × AV)} {j : Nat} (h : isI ((alk u j).getD (.inl 0)) = true) : cV g ((alk u j).getD (.inl 0)) = .int (cI g u j) := by
  rw [cV_I h]
  unfold cI
  cases alk u j <;> rfl
theorem cJ_of {u : List (Nat × AV)} {j : Nat} (h : isL ((alk u j).getD (.inr (.inl 0))) = true) : cV g ((alk u j).getD (.inr (.inl 0))) = .long (cJ u j) := by
  rw [cV_L h]
  unfold cJ
  cases alk u j <;> rfl
theorem vp_in_lt {j m : Nat} (h : j < m) (h2 : j < 2147483648) : vp_in (nI j) m := by
  rintro (q | q)
  · exact nI_pos (by omega) q
  · rw [nI_clamp (by omega)] at q
    omega
theorem h_iald (hd : decode cc pc = .ok (.iaload, 1)) (hn : pc + 1 = n) : Snd g HB l call cc nL own nm pc (s_ald (fun t => Nat.beq t 0) isI (.inl 0) n) := by
  intro fr lo L st h kk z o cs pc' L' st' h' k' z' o' cs' hf
  obtain ⟨q, j, t, m, u, r, rfl, hq, ht, h1, h2, hi, e⟩ := s_ald_ok hf
  cases e
  subst hn
  have ht := Nat.eq_of_beq_eq_true ht
  subst ht
  refine ⟨⟨List.suffix_refl _, Nat.le_refl _, Nat.le_refl _⟩, fun _ p e R s m0 args below meth c Q H locs ls hC _ _ _ _ hR hl kk => ?_⟩
  obtain ⟨⟨hx, hb, hml, hown, hts⟩, hA, -⟩ := hC
  have hk := kk H locs ls hR hl
  rw [List.map_cons, cI_of hi, ← nI_clamp (n := j) (by omega)] at hk
  exact va_iald hx hb hA.1 hR.2.2.1 q 0 (Rh.ws hq) rfl (vp_in_lt h1 h2) hd hk
theorem h_bald (hd : decode cc pc = .ok (.baload, 1)) (hn : pc + 1 = n) : Snd g HB l call cc nL own nm pc (s_ald (fun t => Nat.beq t 1 || Nat.beq t 2) isI (.inl 0) n) := by
  intro fr lo L st h kk z o cs pc' L' st' h' k' z' o' cs' hf
  obtain ⟨q, j, t, m, u, r, rfl, hq, ht, h1, h2, hi, e⟩ := s_ald_ok hf
  cases e
  subst hn
  refine ⟨⟨List.suffix_refl _, Nat.le_refl _, Nat.le_refl _⟩, fun _ p e R s m0 args below meth c Q H locs ls hC _ _ _ _ hR hl kk => ?_⟩
  obtain ⟨⟨hx, hb, hml, hown, hts⟩, hA, -⟩ := hC
  have hk := kk H locs ls hR hl
  rw [List.map_cons, cI_of hi, ← nI_clamp (n := j) (by omega)] at hk
  rw [Bool.or_eq_true] at ht
  rcases ht with ht | ht
  · have ht := Nat.eq_of_beq_eq_true ht
    subst ht
    exact va_bald hx hb hA.1 hR.2.2.1 q 1 (Rh.ws hq) rfl (vp_in_lt h1 h2) hd hk
  · have ht := Nat.eq_of_beq_eq_true ht
    subst ht
    exact va_zald hx hb hA.1 hR.2.2.1 q 2 (Rh.ws hq) rfl (vp_in_lt h1 h2) hd hk
theorem h_lald (hd : decode cc pc = .ok (.laload, 1)) (hn : pc + 1 = n) : Snd g HB l call cc nL own nm pc (s_ald (fun t => Nat.beq t 3) isL (.inr (.inl 0)) n) := by
  intro fr lo L st h kk z o cs pc' L' st' h' k' z' o' cs' hf
  obtain ⟨q, j, t, m, u, r, rfl, hq, ht, h1, h2, hi, e⟩ := s_ald_ok hf
  cases e
  subst hn
  have ht := Nat.eq_of_beq_eq_true ht
  subst ht
  refine ⟨⟨List.suffix_refl _, Nat.le_refl _, Nat.le_refl _⟩, fun _ p e R s m0 args below meth c Q H locs ls hC _ _ _ _ hR hl kk => ?_⟩
  obtain ⟨⟨hx, hb, hml, hown, hts⟩, hA, -⟩ := hC
  have hk := kk H locs ls hR hl
  rw [List.map_cons, cJ_of hi, ← nI_clamp (n := j) (by omega)] at hk
  exact va_lald hx hb hA.1 hR.2.2.1 q 3 (Rh.ws hq) rfl (vp_in_lt h1 h2) hd hk
-- writing
def s_ast (ok : Nat → Bool) (cv : Nat → AV → Option AV) (n : Nat) : FF := fun _ _ _ c => match c with
  | (_, L, st, h, kk, z, o, cs) => match st with
    | w :: .inl j :: a :: r => match rOf a with
      | some q => match h[q]? with
        | some (.inl (t, m, u)) => match ok t && (Nat.blt j m && Nat.blt j 2147483648) with
          | true => match cv t w with
            | some v => fzv v (fun v => fzs (h.set q (.inl (t, m, (j, v) :: u))) (fun h' => some (n, L, r, h', kk, z, o, cs)))
            | none => none
          | false => none
        | _ => none
      | none => none
    | _ => none
theorem s_ast_ok {ok : Nat → Bool} {cv : Nat → AV → Option AV} {n fr lo pc : Nat} {call : CallF} {L : LL} {st : List AV} {h : List AE} {kk z : Cnt} {o : List Bool} {cs : CSL} {x : Cfg} (hf : s_ast ok cv n call fr lo (pc, L, st, h, kk, z, o, cs) = some x) : ∃ (q j t m : Nat) (u : List (Nat × AV)) (w v : AV) (r : List AV), st = w :: .inl j :: .inr (.inr (.ref q)) :: r ∧ h[q]? = some (.inl (t, m, u)) ∧ ok t = true ∧ j < m ∧ j < 2147483648 ∧ cv t w = some v ∧ x = (n, L, r, h.set q (.inl (t, m, (j, v) :: u)), kk, z, o, cs) := by
  rcases st with _ | ⟨w, _ | ⟨i, _ | ⟨a, r⟩⟩⟩
  · cases hf
  · cases hf
  · rcases i with i | i <;> cases hf
  rcases i with j | i
  · simp only [s_ast] at hf
    cases ha : rOf a with
    | none => rw [ha] at hf; cases hf
    | some q =>
      rw [ha] at hf
      simp only at hf
      cases hq : h[q]? with
      | none => rw [hq] at hf; cases hf
      | some c =>
        rw [hq] at hf
        rcases c with ⟨t, m, u⟩ | c
        · simp only at hf
          cases hb : ok t && (Nat.blt j m && Nat.blt j 2147483648) with
          | false => rw [hb] at hf; cases hf
          | true =>
            rw [hb] at hf
            simp only at hf
            cases hv : cv t w with
            | none => rw [hv] at hf; cases hf
            | some v =>
              rw [hv] at hf
              simp only [fzv_eq, fzs_eq] at hf
              cases hf
              rw [Bool.and_eq_true, Bool.and_eq_true] at hb
              exact ⟨q, j, t, m, u, w, v, r, by rw [rOf_eq ha], hq, hb.1, Nat.blt_eq.mp hb.2.1, Nat.blt_eq.mp hb.2.2, hv, rfl⟩
        · cases hf
  · cases hf
theorem alk_cons {α : Type} (j : Nat) (v : α) (u : List (Nat × α)) (q : Nat) : alk ((j, v) :: u) q = if q = j then some v else alk u q := by
  rw [alk]
  by_cases h : q = j
  · subst h
    simp
  · rw [if_neg h]
    cases hb : Nat.beq (j, v).1 q with
    | false => rfl
    | true => exact absurd (Nat.eq_of_beq_eq_true hb).symm h
theorem av_set {cA : ClassId} {m j : Nat} {F F' : Nat → Value} {w : Value} (h : ∀ q, F' q = if q = j then w else F q) : (arrV cA m F).setSlot j w = arrV cA m F' := by
  rw [arrV_store]
  congr 1
  funext q
  rw [h q]
  rfl
theorem cI_cons {j q : Nat} {v : AV} {u : List (Nat × AV)} : Value.int (cI g ((j, v) :: u) q) = if q = j then .int (gI g v) else .int (cI g u q) := by
  unfold cI
  rw [alk_cons]
  by_cases h : q = j
  · rw [if_pos h, if_pos h]
  · rw [if_neg h, if_neg h]
theorem cJ_cons {j q : Nat} {v : AV} {u : List (Nat × AV)} : Value.long (cJ ((j, v) :: u) q) = if q = j then .long (gL v) else .long (cJ u q) := by
  unfold cJ
  rw [alk_cons]
  by_cases h : q = j
  · rw [if_pos h, if_pos h]
  · rw [if_neg h, if_neg h]
def cvI (_ : Nat) (w : AV) : Option AV := match isI w with
  | true => some w
  | false => none
theorem h_iast (hd : decode cc pc = .ok (.iastore, 1)) (hn : pc + 1 = n) : Snd g HB l call cc nL own nm pc (s_ast (fun t => Nat.beq t 0) cvI n) := by
  intro fr lo L st h kk z o cs pc' L' st' h' k' z' o' cs' hf
  obtain ⟨q, j, t, m, u, w, v, r, rfl, hq, ht, h1, h2, hv, e⟩ := s_ast_ok hf
  cases e
  subst hn
  have ht := Nat.eq_of_beq_eq_true ht
  subst ht
  simp only [cvI] at hv
  cases hw : isI w with
  | false => rw [hw] at hv; cases hv
  | true =>
    rw [hw] at hv
    cases hv
    refine ⟨⟨List.suffix_refl _, Nat.le_refl _, Nat.le_refl _⟩, fun _ p e R s m0 args below meth c Q H locs ls hC _ _ _ _ hR hl kk => ?_⟩
    obtain ⟨⟨hx, hb, hml, hown, hts⟩, hA, -⟩ := hC
    rw [List.map_cons, cV_I hw]
    refine W.iast (j := nI j) hx hb (hR.get hq) ((hA.1.2 0 _ rfl).1 m (fun j => .int (cI g u j))) (fun q => by cases q) (by show ¬ (nI j < 0 ∨ (arrV _ _ _).slots.size ≤ _); rw [arrV_size]; exact vp_in_lt h1 h2) rfl rfl hd fun H1 e zz oq => ?_
    rw [nI_clamp (by omega)] at e ⊢
    refine kk H1 _ ls (hR.set hq ?_ zz oq) hl
    show H1[g.1 + q]? = some (arrV (g.2.2.2 0) m (fun x => .int (cI g ((j, w) :: u) x)))
    rw [e]
    exact congrArg some (av_set fun x => cI_cons)
def cvL (_ : Nat) (w : AV) : Option AV := match isL w with
  | true => some w
  | false => none
theorem h_last (hd : decode cc pc = .ok (.lastore, 1)) (hn : pc + 1 = n) : Snd g HB l call cc nL own nm pc (s_ast (fun t => Nat.beq t 3) cvL n) := by
  intro fr lo L st h kk z o cs pc' L' st' h' k' z' o' cs' hf
  obtain ⟨q, j, t, m, u, w, v, r, rfl, hq, ht, h1, h2, hv, e⟩ := s_ast_ok hf
  cases e
  subst hn
  have ht := Nat.eq_of_beq_eq_true ht
  subst ht
  simp only [cvL] at hv
  cases hw : isL w with
  | false => rw [hw] at hv; cases hv
  | true =>
    rw [hw] at hv
    cases hv
    refine ⟨⟨List.suffix_refl _, Nat.le_refl _, Nat.le_refl _⟩, fun _ p e R s m0 args below meth c Q H locs ls hC _ _ _ _ hR hl kk => ?_⟩
    obtain ⟨⟨hx, hb, hml, hown, hts⟩, hA, -⟩ := hC
    rw [List.map_cons, cV_L hw]
    refine W.last (j := nI j) hx hb (hR.get hq) ((hA.1.2 3 _ rfl).1 m (fun j => .long (cJ u j))) (fun q => by cases q) (by show ¬ (nI j < 0 ∨ (arrV _ _ _).slots.size ≤ _); rw [arrV_size]; exact vp_in_lt h1 h2) rfl rfl hd fun H1 e zz oq => ?_
    rw [nI_clamp (by omega)] at e ⊢
    refine kk H1 _ ls (hR.set hq ?_ zz oq) hl
    show H1[g.1 + q]? = some (arrV (g.2.2.2 3) m (fun x => .long (cJ ((j, w) :: u) x)))
    rw [e]
    exact congrArg some (av_set fun x => cJ_cons)
def f_z (x : Int32) : Int32 := vp_nar .boolean x
def cvB (t : Nat) (w : AV) : Option AV := match t with
  | 1 => i2bA w
  | _ => iop1 f_z w
theorem h_bast (hd : decode cc pc = .ok (.bastore, 1)) (hn : pc + 1 = n) : Snd g HB l call cc nL own nm pc (s_ast (fun t => Nat.beq t 1 || Nat.beq t 2) cvB n) := by
  intro fr lo L st h kk z o cs pc' L' st' h' k' z' o' cs' hf
  obtain ⟨q, j, t, m, u, w, v, r, rfl, hq, ht, h1, h2, hv, e⟩ := s_ast_ok hf
  cases e
  subst hn
  refine ⟨⟨List.suffix_refl _, Nat.le_refl _, Nat.le_refl _⟩, fun _ p e R s m0 args below meth c Q H locs ls hC _ _ _ _ hR hl kk => ?_⟩
  obtain ⟨⟨hx, hb, hml, hown, hts⟩, hA, -⟩ := hC
  rw [Bool.or_eq_true] at ht
  rcases ht with ht | ht
  · have ht := Nat.eq_of_beq_eq_true ht
    subst ht
    obtain ⟨g1, g2, hgv⟩ := i2bA_ok (g := g) hv
    rw [List.map_cons, g1]
    refine W.bast (j := nI j) hx hb (hR.get hq) ((hA.1.2 1 _ rfl).1 m (fun j => .int (cI g u j))) (fun q => by cases q) (by show ¬ (nI j < 0 ∨ (arrV _ _ _).slots.size ≤ _); rw [arrV_size]; exact vp_in_lt h1 h2) rfl rfl hd fun H1 e zz oq => ?_
    rw [nI_clamp (by omega)] at e ⊢
    refine kk H1 _ ls (hR.set hq ?_ zz oq) hl
    show H1[g.1 + q]? = some (arrV (g.2.2.2 1) m (fun x => .int (cI g ((j, v) :: u) x)))
    rw [e]
    exact congrArg some (av_set fun x => by rw [cI_cons, hgv]; rfl)
  · have ht := Nat.eq_of_beq_eq_true ht
    subst ht
    obtain ⟨g1, g2, hgv⟩ := iop1_ok (g := g) hv
    rw [List.map_cons, g1]
    refine W.zast (j := nI j) hx hb (hR.get hq) ((hA.1.2 2 _ rfl).1 m (fun j => .int (cI g u j))) (fun q => by cases q) (by show ¬ (nI j < 0 ∨ (arrV _ _ _).slots.size ≤ _); rw [arrV_size]; exact vp_in_lt h1 h2) rfl rfl hd fun H1 e zz oq => ?_
    rw [nI_clamp (by omega)] at e ⊢
    refine kk H1 _ ls (hR.set hq ?_ zz oq) hl
    show H1[g.1 + q]? = some (arrV (g.2.2.2 2) m (fun x => .int (cI g ((j, v) :: u) x)))
    rw [e]
    exact congrArg some (av_set fun x => by rw [cI_cons, hgv]; rfl)
end MAK
