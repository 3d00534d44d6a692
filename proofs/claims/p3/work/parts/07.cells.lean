/-! Fields. -/
def rOf (a : AV) : Option Nat := match a with
  | .inl _ => none
  | .inr (.inl _) => none
  | .inr (.inr v) => match v with
    | .ref k => some k
    | _ => none
theorem rOf_eq {a : AV} {k : Nat} (h : rOf a = some k) : a = .inr (.inr (.ref k)) := by
  rcases a with n | n | v
  · cases h
  · cases h
  · cases v <;> cases h
    rfl
section CEL
variable {g : GG} {HB : Heap} {l : Launch} {call : CallF} {cc : ByteArray} {nL : Nat} {own nm : String} {pc n : Nat} {ci : Nat} {C : String} {T : u_T} {N : Nat}
def s_get (ci k n : Nat) : FF := fun _ _ _ c => match c with
  | (_, L, st, h, kk, z, o, cs) => match st with
    | [] => none
    | a :: r => match rOf a with
      | none => none
      | some q => match h[q]? with
        | some (.inr (cj, fs)) => match Nat.beq ci cj with
          | true => match fs[k]? with
            | some v => some (n, L, v :: r, h, kk, z, o, cs)
            | none => none
          | false => none
        | _ => none
theorem s_get_ok {ci k n fr lo pc : Nat} {call : CallF} {L : LL} {st : List AV} {h : List AE} {kk z : Cnt} {o : List Bool} {cs : CSL} {x : Cfg} (hf : s_get ci k n call fr lo (pc, L, st, h, kk, z, o, cs) = some x) : ∃ (q : Nat) (r : List AV) (fs : List AV) (v : AV), st = .inr (.inr (.ref q)) :: r ∧ h[q]? = some (.inr (ci, fs)) ∧ fs[k]? = some v ∧ x = (n, L, v :: r, h, kk, z, o, cs) := by
  rcases st with _ | ⟨a, r⟩
  · cases hf
  simp only [s_get] at hf
  cases ha : rOf a with
  | none => rw [ha] at hf; cases hf
  | some q =>
    rw [ha] at hf
    simp only at hf
    cases hq : h[q]? with
    | none => rw [hq] at hf; cases hf
    | some c =>
      rw [hq] at hf
      rcases c with c | ⟨cj, fs⟩
      · cases hf
      simp only at hf
      cases hb : Nat.beq ci cj with
      | false => rw [hb] at hf; cases hf
      | true =>
        rw [hb] at hf
        simp only at hf
        cases hv : fs[k]? with
        | none => rw [hv] at hf; cases hf
        | some v =>
          rw [hv] at hf
          cases hf
          have e := Nat.eq_of_beq_eq_true hb
          subst e
          exact ⟨q, r, fs, v, by rw [rOf_eq ha], hq, hv, rfl⟩
theorem h_get {k idx : Nat} (hc : vwCl[ci]? = some (C, T, N)) (hk : k < N) (hlink : Cond.fieldLink own idx (T k).1 (T k).2.1 (T k).2.2.1 ∈ wsG) (hd : decode cc pc = .ok (.getfield idx, 3)) (hn : pc + 3 = n) : Snd g HB l call cc nL own nm pc (s_get ci k n) := by
  intro fr lo L st h kk z o cs pc' L' st' h' k' z' o' cs' hf
  obtain ⟨q, r, fs, v, rfl, hq, hv, e⟩ := s_get_ok hf
  cases e
  subst hn
  refine ⟨⟨List.suffix_refl _, Nat.le_refl _, Nat.le_refl _⟩, fun _ p e R s m args below meth c Q H locs ls hC _ _ _ _ hR hl kk => ?_⟩
  obtain ⟨⟨hx, hb, hml, hown, hts⟩, hA, -⟩ := hC
  exact va_get hx hb hts (cl_in hc) hown hA.1 hR.2.2.1 q (Rh.ws hq) hc k hk (hts _ hlink) (fun _ h9 => h9) (by rw [List.getElem?_map, hv]; rfl) hd (kk H locs ls hR hl)
theorem h_getS {k idx : Nat} {ref : String} (hc : vwCl[ci]? = some (C, T, N)) (hk : k < N) (hlink : Cond.fieldLink own idx ref (T k).2.1 (T k).2.2.1 ∈ wsG) (hsame : Cond.sameField ref (T k).1 (T k).2.1 (T k).2.2.1 ∈ wsG) (hd : decode cc pc = .ok (.getfield idx, 3)) (hn : pc + 3 = n) : Snd g HB l call cc nL own nm pc (s_get ci k n) := by
  intro fr lo L st h kk z o cs pc' L' st' h' k' z' o' cs' hf
  obtain ⟨q, r, fs, v, rfl, hq, hv, e⟩ := s_get_ok hf
  cases e
  subst hn
  refine ⟨⟨List.suffix_refl _, Nat.le_refl _, Nat.le_refl _⟩, fun _ p e R s m args below meth c Q H locs ls hC _ _ _ _ hR hl kk => ?_⟩
  obtain ⟨⟨hx, hb, hml, hown, hts⟩, hA, -⟩ := hC
  exact va_get hx hb hts (cl_in hc) hown hA.1 hR.2.2.1 q (Rh.ws hq) hc k hk (hts _ hlink) (u_same (hts _ hsame)) (by rw [List.getElem?_map, hv]; rfl) hd (kk H locs ls hR hl)
theorem h_getN {k idx : Nat} {host : String} (hc : vwCl[ci]? = some (C, T, N)) (hk : k < N) (hlink : Cond.fieldLinkNest own idx (T k).1 (T k).2.1 (T k).2.2.1 host ∈ nwL) (hd : decode cc pc = .ok (.getfield idx, 3)) (hn : pc + 3 = n) : Snd g HB l call cc nL own nm pc (s_get ci k n) := by
  intro fr lo L st h kk z o cs pc' L' st' h' k' z' o' cs' hf
  obtain ⟨q, r, fs, v, rfl, hq, hv, e⟩ := s_get_ok hf
  cases e
  subst hn
  refine ⟨⟨List.suffix_refl _, Nat.le_refl _, Nat.le_refl _⟩, fun _ p e R s m args below meth c Q H locs ls hC _ _ _ _ hR hl kk => ?_⟩
  obtain ⟨⟨hx, hb, hml, hown, hts⟩, hA, -⟩ := hC
  exact va_getN hx hb hts (cl_in hc) hown hA.1 hR.2.2.1 q (Rh.ws hq) hc k hk (va_Nw.use rfl (hA.2.1 _ hlink)) (fun _ h9 => h9) (by rw [List.getElem?_map, hv]; rfl) hd (kk H locs ls hR hl)
-- fields written
def isN (v : AV) : Bool := match v with
  | .inl _ => false
  | .inr (.inl _) => false
  | .inr (.inr v) => match v with
    | .null => true
    | _ => false
def okV (kd : Nat) (v : AV) : Bool := match kd with
  | 0 => isI v
  | 1 => match v with
    | .inl n => Nat.blt n 2
    | .inr _ => false
  | 2 => isL v
  | _ => isR v || isN v
def kdOK (kd : Nat) (ty : FieldType) : Prop := match kd with
  | 0 => ty = .int
  | 1 => ty = .boolean
  | 2 => ty = .long
  | _ => (∃ n, ty = .object n) ∨ ∃ t, ty = .array t
theorem okV_ok {kd : Nat} {v : AV} {ty : FieldType} (h : okV kd v = true) (hk : kdOK kd ty) : narrow ty (cV g v) = cV g v ∧ fits ty (cV g v) = true := by
  have ref : (isR v || isN v) = true → ((∃ n, ty = .object n) ∨ ∃ t, ty = .array t) → narrow ty (cV g v) = cV g v ∧ fits ty (cV g v) = true := by
    intro h hk
    rw [Bool.or_eq_true] at h
    rcases h with h | h
    · rw [cV_R h]
      rcases hk with ⟨n, rfl⟩ | ⟨t, rfl⟩ <;> exact ⟨rfl, rfl⟩
    · rcases v with v | v | v
      · cases h
      · cases h
      · cases v <;> first | cases h | skip
        rcases hk with ⟨n, rfl⟩ | ⟨t, rfl⟩ <;> exact ⟨rfl, rfl⟩
  rcases kd with _ | _ | _ | kd
  · have hk : ty = .int := hk
    subst hk
    rw [cV_I h]
    exact ⟨rfl, rfl⟩
  · have hk : ty = .boolean := hk
    subst hk
    rcases v with v | v
    · have h : Nat.blt v 2 = true := h
      have h2 : v < 2 := Nat.blt_eq.mp h
      rcases (show v = 0 ∨ v = 1 by omega) with rfl | rfl
      · constructor
        · show narrow .boolean (.int (nI 0)) = .int (nI 0)
          decide +kernel
        · show fits .boolean (.int (nI 0)) = true
          decide +kernel
      · constructor
        · show narrow .boolean (.int (nI 1)) = .int (nI 1)
          decide +kernel
        · show fits .boolean (.int (nI 1)) = true
          decide +kernel
    · cases h
  · have hk : ty = .long := hk
    subst hk
    rw [cV_L h]
    exact ⟨rfl, rfl⟩
  · exact ref h hk
def s_put (ci k kd n : Nat) : FF := fun _ _ _ c => match c with
  | (_, L, st, h, kk, z, o, cs) => match st with
    | v :: a :: r => match rOf a with
      | none => none
      | some q => match h[q]? with
        | some (.inr (cj, fs)) => match Nat.beq ci cj && (okV kd v && Nat.blt k fs.length) with
          | true => fzs (fs.set k v) (fun fs' => fzs (h.set q (.inr (ci, fs'))) (fun h' => some (n, L, r, h', kk, z, o, cs)))
          | false => none
        | _ => none
    | _ => none
theorem s_put_ok {ci k kd n fr lo pc : Nat} {call : CallF} {L : LL} {st : List AV} {h : List AE} {kk z : Cnt} {o : List Bool} {cs : CSL} {x : Cfg} (hf : s_put ci k kd n call fr lo (pc, L, st, h, kk, z, o, cs) = some x) : ∃ (q : Nat) (r : List AV) (fs : List AV) (v : AV), st = v :: .inr (.inr (.ref q)) :: r ∧ h[q]? = some (.inr (ci, fs)) ∧ okV kd v = true ∧ k < fs.length ∧ x = (n, L, r, h.set q (.inr (ci, fs.set k v)), kk, z, o, cs) := by
  rcases st with _ | ⟨v, _ | ⟨a, r⟩⟩
  · cases hf
  · cases hf
  simp only [s_put] at hf
  cases ha : rOf a with
  | none => rw [ha] at hf; cases hf
  | some q =>
    rw [ha] at hf
    simp only at hf
    cases hq : h[q]? with
    | none => rw [hq] at hf; cases hf
    | some c =>
      rw [hq] at hf
      rcases c with c | ⟨cj, fs⟩
      · cases hf
      simp only at hf
      cases hb : Nat.beq ci cj && (okV kd v && Nat.blt k fs.length) with
      | false => rw [hb] at hf; cases hf
      | true =>
        rw [hb] at hf
        simp only [fzs_eq] at hf
        cases hf
        rw [Bool.and_eq_true, Bool.and_eq_true] at hb
        have e := Nat.eq_of_beq_eq_true hb.1
        subst e
        exact ⟨q, r, fs, v, by rw [rOf_eq ha], hq, hb.2.1, Nat.blt_eq.mp hb.2.2, rfl⟩
theorem put_core {k q : Nat} {fs : List AV} {v : AV} {H : Heap} {h : List AE} {locs : List Loc} (hc : vwCl[ci]? = some (C, T, N)) (hk : k < N) (hR : Rh g HB h H locs) (hq : h[q]? = some (.inr (ci, fs))) (hl : k < fs.length) (hap : ∀ x y, x < N → y < N → x ≠ y → (g.2.2.1.2 ci) x ≠ (g.2.2.1.2 ci) y) :
    ∃ cell : Cell, H[g.1 + q]? = some cell ∧ cell.vm = .none ∧ cell.cls = g.2.2.1.1 ci ∧ (g.2.2.1.2 ci k) < cell.slots.size ∧
      ∀ H1 : Heap, H1[g.1 + q]? = some (cell.setSlot (g.2.2.1.2 ci k) (cV g v)) → H1.size = H.size → (∀ x : Nat, x ≠ g.1 + q → H1[x]? = H[x]?) → Rh g HB (h.set q (.inr (ci, fs.set k v))) H1 (locs ++ [⟨g.1 + q, g.2.2.1.2 ci k⟩]) := by
  obtain ⟨r, h1, cell, q1, q2, q3, q4⟩ := hR.get hq
  have hr : r = (C, T, N) := Option.some.inj (h1.symm.trans hc)
  subst hr
  refine ⟨cell, q1, q3, q2, k2_hasslot (q4 k hk), fun H1 e1 e2 e3 => hR.set hq ?_ e2 e3⟩
  refine ⟨_, hc, ?_⟩
  have h2 : k < (fs.map (cV g)).length := by rw [List.length_map]; exact hl
  have h3 := t_OB.to (V := updV (vp_V (fs.map (cV g))) k (cV g v)) (V' := vp_V ((fs.map (cV g)).set k (cV g v))) ⟨_, e1, q2, q3, t_set q4 hap hk (cV g v)⟩ (fun j _ => vp_updV_set h2 (cV g v) j)
  show t_OB (g.1 + q) (g.2.2.1.1 ci) N (g.2.2.1.2 ci) H1 (vp_V ((fs.set k v).map (cV g)))
  rw [List.map_set]
  exact h3
theorem h_put {k kd idx : Nat} (hc : vwCl[ci]? = some (C, T, N)) (hk : k < N) (hfin : (T k).2.2.2 = false) (hkd : kdOK kd (tyOf T k)) (hlink : Cond.fieldLink own idx (T k).1 (T k).2.1 (T k).2.2.1 ∈ wsG) (hd : decode cc pc = .ok (.putfield idx, 3)) (hn : pc + 3 = n) : Snd g HB l call cc nL own nm pc (s_put ci k kd n) := by
  intro fr lo L st h kk z o cs pc' L' st' h' k' z' o' cs' hf
  obtain ⟨q, r, fs, v, rfl, hq, hv, hlt, e⟩ := s_put_ok hf
  cases e
  subst hn
  refine ⟨⟨List.suffix_refl _, Nat.le_refl _, Nat.le_refl _⟩, fun _ p e R s m args below meth c Q H locs ls hC _ _ _ _ hR hl kk => ?_⟩
  obtain ⟨⟨hx, hb, hml, hown, hts⟩, hA, -⟩ := hC
  have hap := va_apart (own := own) hts (cl_in hc) (tyOf T) (cl_ty hc) (cl_nm hc) hA.1 hc
  obtain ⟨hS, hfc, kC, hkC, hkind⟩ := hA.1.1 ci _ hc
  obtain ⟨cf, kf, fi, f, hi, hsl⟩ := hS k hk
  have hlay := hts _ (cl_in hc _ (u_in_lay hk))
  unfold u_lay at hlay
  rw [if_neg (by rw [hfin]; decide)] at hlay
  have hst := (u_facts hfc hkC (u_lays hts (cl_in hc) hk) hi).1
  obtain ⟨hnv, hft⟩ := okV_ok (g := g) hv hkd
  have h6 := u_store hfc hkC hkind hlay hi (cl_ty hc k hk) hnv hft
  obtain ⟨cell, q1, q2, q3, q4, q5⟩ := put_core (v := v) hc hk hR hq hlt hap
  refine W.putK hx hb (f := f) ⟨hown, hts _ hlink, ⟨_, _, _, hi⟩, hst⟩ (by rw [q3]; exact h6) q1 q2 (by rw [hsl]; exact q4) rfl rfl hd fun H' e1 e2 e3 => ?_
  rw [hsl] at e1 ⊢
  exact kk H' _ ls (q5 H' e1 e2 e3) hl
theorem h_putS {k kd idx : Nat} {ref : String} (hc : vwCl[ci]? = some (C, T, N)) (hk : k < N) (hfin : (T k).2.2.2 = false) (hkd : kdOK kd (tyOf T k)) (hlink : Cond.fieldLink own idx ref (T k).2.1 (T k).2.2.1 ∈ wsG) (hsame : Cond.sameField ref (T k).1 (T k).2.1 (T k).2.2.1 ∈ wsG) (hd : decode cc pc = .ok (.putfield idx, 3)) (hn : pc + 3 = n) : Snd g HB l call cc nL own nm pc (s_put ci k kd n) := by
  intro fr lo L st h kk z o cs pc' L' st' h' k' z' o' cs' hf
  obtain ⟨q, r, fs, v, rfl, hq, hv, hlt, e⟩ := s_put_ok hf
  cases e
  subst hn
  refine ⟨⟨List.suffix_refl _, Nat.le_refl _, Nat.le_refl _⟩, fun _ p e R s m args below meth c Q H locs ls hC _ _ _ _ hR hl kk => ?_⟩
  obtain ⟨⟨hx, hb, hml, hown, hts⟩, hA, -⟩ := hC
  have hap := va_apart (own := own) hts (cl_in hc) (tyOf T) (cl_ty hc) (cl_nm hc) hA.1 hc
  obtain ⟨hS, hfc, kC, hkC, hkind⟩ := hA.1.1 ci _ hc
  obtain ⟨cf, kf, fi, f, hi, hsl⟩ := hS k hk
  have hlay := hts _ (cl_in hc _ (u_in_lay hk))
  unfold u_lay at hlay
  rw [if_neg (by rw [hfin]; decide)] at hlay
  have hst := (u_facts hfc hkC (u_lays hts (cl_in hc) hk) hi).1
  obtain ⟨hnv, hft⟩ := okV_ok (g := g) hv hkd
  have h6 := u_store hfc hkC hkind hlay hi (cl_ty hc k hk) hnv hft
  obtain ⟨cell, q1, q2, q3, q4, q5⟩ := put_core (v := v) hc hk hR hq hlt hap
  refine W.putK hx hb (f := f) ⟨hown, hts _ hlink, ⟨_, _, _, u_same (hts _ hsame) _ hi⟩, hst⟩ (by rw [q3]; exact h6) q1 q2 (by rw [hsl]; exact q4) rfl rfl hd fun H' e1 e2 e3 => ?_
  rw [hsl] at e1 ⊢
  exact kk H' _ ls (q5 H' e1 e2 e3) hl
theorem h_putN {k kd idx : Nat} {host : String} (hc : vwCl[ci]? = some (C, T, N)) (hk : k < N) (hfin : (T k).2.2.2 = false) (hkd : kdOK kd (tyOf T k)) (hlink : Cond.fieldLinkNest own idx (T k).1 (T k).2.1 (T k).2.2.1 host ∈ nwL) (hd : decode cc pc = .ok (.putfield idx, 3)) (hn : pc + 3 = n) : Snd g HB l call cc nL own nm pc (s_put ci k kd n) := by
  intro fr lo L st h kk z o cs pc' L' st' h' k' z' o' cs' hf
  obtain ⟨q, r, fs, v, rfl, hq, hv, hlt, e⟩ := s_put_ok hf
  cases e
  subst hn
  refine ⟨⟨List.suffix_refl _, Nat.le_refl _, Nat.le_refl _⟩, fun _ p e R s m args below meth c Q H locs ls hC _ _ _ _ hR hl kk => ?_⟩
  obtain ⟨⟨hx, hb, hml, hown, hts⟩, hA, -⟩ := hC
  have hap := va_apart (own := own) hts (cl_in hc) (tyOf T) (cl_ty hc) (cl_nm hc) hA.1 hc
  obtain ⟨hS, hfc, kC, hkC, hkind⟩ := hA.1.1 ci _ hc
  obtain ⟨cf, kf, fi, f, hi, hsl⟩ := hS k hk
  have hlay := hts _ (cl_in hc _ (u_in_lay hk))
  unfold u_lay at hlay
  rw [if_neg (by rw [hfin]; decide)] at hlay
  have hst := (u_facts hfc hkC (u_lays hts (cl_in hc) hk) hi).1
  obtain ⟨hnv, hft⟩ := okV_ok (g := g) hv hkd
  have h6 := u_store hfc hkC hkind hlay hi (cl_ty hc k hk) hnv hft
  obtain ⟨cell, q1, q2, q3, q4, q5⟩ := put_core (v := v) hc hk hR hq hlt hap
  refine va_WputK hx hb (f := f) hown (va_Nw.use rfl (hA.2.1 _ hlink)) hi hst (by rw [q3]; exact h6) q1 q2 (by rw [hsl]; exact q4) rfl rfl hd fun H' e1 e2 e3 => ?_
  rw [hsl] at e1 ⊢
  exact kk H' _ ls (q5 H' e1 e2 e3) hl
theorem h_putF {k kd idx : Nat} (hc : vwCl[ci]? = some (C, T, N)) (hk : k < N) (hfin : (T k).2.2.2 = true) (hnm : nm = "<init>") (hdecl : (T k).1 = own) (hkd : kdOK kd (tyOf T k)) (hlink : Cond.fieldLink own idx (T k).1 (T k).2.1 (T k).2.2.1 ∈ wsG) (hd : decode cc pc = .ok (.putfield idx, 3)) (hn : pc + 3 = n) : Snd g HB l call cc nL own nm pc (s_put ci k kd n) := by
  intro fr lo L st h kk z o cs pc' L' st' h' k' z' o' cs' hf
  obtain ⟨q, r, fs, v, rfl, hq, hv, hlt, e⟩ := s_put_ok hf
  cases e
  subst hn
  refine ⟨⟨List.suffix_refl _, Nat.le_refl _, Nat.le_refl _⟩, fun _ p e R s m args below meth c Q H locs ls hC _ _ _ _ hR hl kk => ?_⟩
  obtain ⟨⟨hx, hb, hml, hown, hts⟩, hA, hmn⟩ := hC
  have hap := va_apart (own := own) hts (cl_in hc) (tyOf T) (cl_ty hc) (cl_nm hc) hA.1 hc
  obtain ⟨hS, hfc, kC, hkC, hkind⟩ := hA.1.1 ci _ hc
  obtain ⟨cf, kf, fi, f, hi, hsl⟩ := hS k hk
  have hlay := hts _ (cl_in hc _ (u_in_lay hk))
  unfold u_lay at hlay
  rw [if_pos hfin] at hlay
  have hst := (u_facts hfc hkC (u_lays hts (cl_in hc) hk) hi).1
  have hcf : m.cls = cf := by
    obtain ⟨_, _, c', _, _, _, -, -, hf', -, -, -, hown2, -⟩ := Cond.laysFinal_spec hlay
    have e1 : c' = cf := by have := hi.symm.trans hf'; simp at this; exact this.1.symm
    rw [hdecl] at hown2
    rw [← e1]; exact Option.some.inj (hown.symm.trans hown2)
  obtain ⟨hnv, hft⟩ := okV_ok (g := g) hv hkd
  have h6 := u_fits hfc hkC hkind (Or.inr hlay) hi (cl_ty hc k hk) hnv hft
  obtain ⟨cell, q1, q2, q3, q4, q5⟩ := put_core (v := v) hc hk hR hq hlt hap
  refine W.putFinK hx hb hown (hts _ hlink) hi hst hcf (hmn.trans hnm) (by rw [q3]; exact h6) q1 q2 (by rw [hsl]; exact q4) rfl rfl hd fun H' e1 e2 e3 => ?_
  rw [hsl] at e1 ⊢
  exact kk H' _ ls (q5 H' e1 e2 e3) hl
end CEL
