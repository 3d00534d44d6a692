/-! Branches: on a known number they are computed, on another one they are foretold, and what was asked is kept. -/
def s_br1 (f t n : Nat) : FF := fun _ _ _ c => match c with
  | (_, L, st, h, k, z, o, cs) => match st with
    | [] => none
    | a :: r => match a with
      | .inl x => match cnd f (nI x) (nI 0) with
        | true => some (t, L, r, h, k, z, o, cs)
        | false => some (n, L, r, h, k, z, o, cs)
      | .inr b => match isI (.inr b) with
        | false => none
        | true => match o with
          | [] => none
          | true :: o' => some (t, L, r, h, k, z, o', (f, .inr b, .inl 0, true) :: cs)
          | false :: o' => some (n, L, r, h, k, z, o', (f, .inr b, .inl 0, false) :: cs)
theorem s_br1_ok {g : GG} {HB : Heap} {l : Launch} {call : CallF} {cc : ByteArray} {nL : Nat} {own nm : String} {pc t n : Nat} {f : Nat}
    (row : ∀ (p : Program) (l : Launch) (e : Env) (R : Room) (s : State) (m : MethodId) (args : Array Value) (below : List Frame) (meth : Method) (c : Code) (H : Heap) (locs : List Loc) (cells slots : Nat) (Q : State → Prop) (ls : Array Slot) (rest : List Value) (x : Int32), p.tables.exec = Jvm.exec → c.code = cc → (cnd f x 0 = true → W p l e R s m args below meth c H locs cells slots Q (F0 m t ls rest)) → (cnd f x 0 = false → W p l e R s m args below meth c H locs cells slots Q (F0 m n ls rest)) → W p l e R s m args below meth c H locs cells slots Q (F0 m pc ls (.int x :: rest))) :
    Snd g HB l call cc nL own nm pc (s_br1 f t n) := by
  have z0 : nI 0 = 0 := nI_0
  intro fr lo L st h k z o cs pc' L' st' h' k' z' o' cs' hf
  rcases st with _ | ⟨a, r⟩
  · cases hf
  rcases a with x | b
  · simp only [s_br1] at hf
    cases hb : cnd f (nI x) (nI 0) with
    | true =>
      rw [hb] at hf
      cases hf
      refine ⟨⟨List.suffix_refl _, Nat.le_refl _, Nat.le_refl _⟩, fun _ p e R s m args below meth c Q H locs ls hC _ _ _ _ hR hl kk => ?_⟩
      rw [z0] at hb
      exact row p l e R s m args below meth c H locs (cv g k) (cv g z) Q ls _ (nI x) hC.1.1 hC.1.2.1 (fun _ => kk H locs ls hR hl) (fun h => by rw [hb] at h; cases h)
    | false =>
      rw [hb] at hf
      cases hf
      refine ⟨⟨List.suffix_refl _, Nat.le_refl _, Nat.le_refl _⟩, fun _ p e R s m args below meth c Q H locs ls hC _ _ _ _ hR hl kk => ?_⟩
      rw [z0] at hb
      exact row p l e R s m args below meth c H locs (cv g k) (cv g z) Q ls _ (nI x) hC.1.1 hC.1.2.1 (fun h => by rw [hb] at h; cases h) (fun _ => kk H locs ls hR hl)
  · simp only [s_br1] at hf
    cases hi : isI (.inr b) with
    | false => rw [hi] at hf; cases hf
    | true =>
      rw [hi] at hf
      rcases o with _ | ⟨q, o1⟩
      · cases hf
      cases q with
      | true =>
        cases hf
        refine ⟨⟨List.suffix_cons _ _, Nat.le_refl _, Nat.le_refl _⟩, fun hk p e R s m args below meth c Q H locs ls hC _ _ _ _ hR hl kk => ?_⟩
        have hb : cnd f (gI g (.inr b)) (nI 0) = true := hk _ List.mem_cons_self
        rw [z0] at hb
        rw [List.map_cons, cV_I hi]
        exact row p l e R s m args below meth c H locs (cv g k) (cv g z) Q ls _ _ hC.1.1 hC.1.2.1 (fun _ => kk H locs ls hR hl) (fun h => by rw [hb] at h; cases h)
      | false =>
        cases hf
        refine ⟨⟨List.suffix_cons _ _, Nat.le_refl _, Nat.le_refl _⟩, fun hk p e R s m args below meth c Q H locs ls hC _ _ _ _ hR hl kk => ?_⟩
        have hb : cnd f (gI g (.inr b)) (nI 0) = false := hk _ List.mem_cons_self
        rw [z0] at hb
        rw [List.map_cons, cV_I hi]
        exact row p l e R s m args below meth c H locs (cv g k) (cv g z) Q ls _ _ hC.1.1 hC.1.2.1 (fun h => by rw [hb] at h; cases h) (fun _ => kk H locs ls hR hl)
def s_br2 (f t n : Nat) : FF := fun _ _ _ c => match c with
  | (_, L, st, h, k, z, o, cs) => match st with
    | b :: a :: r => match a, b with
      | .inl x, .inl y => match cnd f (nI x) (nI y) with
        | true => some (t, L, r, h, k, z, o, cs)
        | false => some (n, L, r, h, k, z, o, cs)
      | a, b => match isI a && isI b with
        | false => none
        | true => match o with
          | [] => none
          | true :: o' => some (t, L, r, h, k, z, o', (f, a, b, true) :: cs)
          | false :: o' => some (n, L, r, h, k, z, o', (f, a, b, false) :: cs)
    | _ => none
theorem s_br2_ok {g : GG} {HB : Heap} {l : Launch} {call : CallF} {cc : ByteArray} {nL : Nat} {own nm : String} {pc t n : Nat} {f : Nat}
    (row : ∀ (p : Program) (l : Launch) (e : Env) (R : Room) (s : State) (m : MethodId) (args : Array Value) (below : List Frame) (meth : Method) (c : Code) (H : Heap) (locs : List Loc) (cells slots : Nat) (Q : State → Prop) (ls : Array Slot) (rest : List Value) (x y : Int32), p.tables.exec = Jvm.exec → c.code = cc → (cnd f x y = true → W p l e R s m args below meth c H locs cells slots Q (F0 m t ls rest)) → (cnd f x y = false → W p l e R s m args below meth c H locs cells slots Q (F0 m n ls rest)) → W p l e R s m args below meth c H locs cells slots Q (F0 m pc ls (.int y :: .int x :: rest))) :
    Snd g HB l call cc nL own nm pc (s_br2 f t n) := by
  have sym : ∀ (a b : AV) (r : List AV) (fr lo : Nat) (L : LL) (h : List AE) (k z : Cnt) (o : List Bool) (cs : CSL) (pc' : Nat) (L' : LL) (st' : List AV) (h' : List AE) (k' z' : Cnt) (o' : List Bool) (cs' : CSL),
      (match isI a && isI b with
        | false => none
        | true => match o with
          | [] => none
          | true :: o' => some (t, L, r, h, k, z, o', (f, a, b, true) :: cs)
          | false :: o' => some (n, L, r, h, k, z, o', (f, a, b, false) :: cs)) = some (pc', L', st', h', k', z', o', cs') →
      (cs <:+ cs' ∧ cv g k ≤ cv g k' ∧ cv g z ≤ cv g z') ∧
      (okc g cs' → ∀ (p : Program) (e : Env) (R : Room) (s : State) (m : MethodId) (args : Array Value) (below : List Frame) (meth : Method) (c : Code) (Q : State → Prop) (H : Heap) (locs : List Loc) (ls : Array Slot),
        Cx g HB p s m args meth c cc nL own nm → fr ≤ R.frames → lo ≤ R.locals → cv g k' ≤ R.cells → cv g z' ≤ R.slots → Rh g HB h H locs → lv_has ls nL (cL g L) →
        (∀ (H' : Heap) (locs' : List Loc) (ls' : Array Slot), Rh g HB h' H' locs' → lv_has ls' nL (cL g L') → W p l e R s m args below meth c H' locs' (cv g k') (cv g z') Q (F0 m pc' ls' (st'.map (cV g)))) →
        W p l e R s m args below meth c H locs (cv g k) (cv g z) Q (F0 m pc ls ((b :: a :: r).map (cV g)))) := by
    intro a b r fr lo L h k z o cs pc' L' st' h' k' z' o' cs' hf
    cases hi : isI a && isI b with
    | false => rw [hi] at hf; cases hf
    | true =>
      rw [hi] at hf
      rw [Bool.and_eq_true] at hi
      rcases o with _ | ⟨q, o1⟩
      · cases hf
      cases q with
      | true =>
        cases hf
        refine ⟨⟨List.suffix_cons _ _, Nat.le_refl _, Nat.le_refl _⟩, fun hk p e R s m args below meth c Q H locs ls hC _ _ _ _ hR hl kk => ?_⟩
        have hb : cnd f (gI g a) (gI g b) = true := hk _ List.mem_cons_self
        rw [List.map_cons, List.map_cons, cV_I hi.1, cV_I hi.2]
        exact row p l e R s m args below meth c H locs (cv g k) (cv g z) Q ls _ _ _ hC.1.1 hC.1.2.1 (fun _ => kk H locs ls hR hl) (fun h => by rw [hb] at h; cases h)
      | false =>
        cases hf
        refine ⟨⟨List.suffix_cons _ _, Nat.le_refl _, Nat.le_refl _⟩, fun hk p e R s m args below meth c Q H locs ls hC _ _ _ _ hR hl kk => ?_⟩
        have hb : cnd f (gI g a) (gI g b) = false := hk _ List.mem_cons_self
        rw [List.map_cons, List.map_cons, cV_I hi.1, cV_I hi.2]
        exact row p l e R s m args below meth c H locs (cv g k) (cv g z) Q ls _ _ _ hC.1.1 hC.1.2.1 (fun h => by rw [hb] at h; cases h) (fun _ => kk H locs ls hR hl)
  intro fr lo L st h k z o cs pc' L' st' h' k' z' o' cs' hf
  rcases st with _ | ⟨b, _ | ⟨a, r⟩⟩
  · cases hf
  · cases hf
  rcases a with x | a
  · rcases b with y | b
    · simp only [s_br2] at hf
      cases hb : cnd f (nI x) (nI y) with
      | true =>
        rw [hb] at hf
        cases hf
        refine ⟨⟨List.suffix_refl _, Nat.le_refl _, Nat.le_refl _⟩, fun _ p e R s m args below meth c Q H locs ls hC _ _ _ _ hR hl kk => ?_⟩
        exact row p l e R s m args below meth c H locs (cv g k) (cv g z) Q ls _ (nI x) (nI y) hC.1.1 hC.1.2.1 (fun _ => kk H locs ls hR hl) (fun h => by rw [hb] at h; cases h)
      | false =>
        rw [hb] at hf
        cases hf
        refine ⟨⟨List.suffix_refl _, Nat.le_refl _, Nat.le_refl _⟩, fun _ p e R s m args below meth c Q H locs ls hC _ _ _ _ hR hl kk => ?_⟩
        exact row p l e R s m args below meth c H locs (cv g k) (cv g z) Q ls _ (nI x) (nI y) hC.1.1 hC.1.2.1 (fun h => by rw [hb] at h; cases h) (fun _ => kk H locs ls hR hl)
    · exact sym _ _ _ _ _ _ _ _ _ _ _ _ _ _ _ _ _ _ _ hf
  · exact sym _ _ _ _ _ _ _ _ _ _ _ _ _ _ _ _ _ _ _ hf
section BRS
variable {g : GG} {HB : Heap} {l : Launch} {call : CallF} {cc : ByteArray} {nL : Nat} {own nm : String} {pc t n : Nat} {off : Int}
theorem b_eq (hd : decode cc pc = .ok (.ifCond .eq off, 3)) (ht : (pc : Int) + off = (t : Int)) (hn : pc + 3 = n) : Snd g HB l call cc nL own nm pc (s_br1 0 t n) :=
  s_br1_ok fun _ _ _ _ _ _ _ _ _ _ _ _ _ _ _ _ _ _ hx hb k1 k2 => lv_if_eq hx hb hd ht (fun h => k1 (decide_eq_true h)) (fun h => by rw [hn]; exact k2 (decide_eq_false h))
theorem b_ne (hd : decode cc pc = .ok (.ifCond .ne off, 3)) (ht : (pc : Int) + off = (t : Int)) (hn : pc + 3 = n) : Snd g HB l call cc nL own nm pc (s_br1 1 t n) :=
  s_br1_ok fun _ _ _ _ _ _ _ _ _ _ _ _ _ _ _ _ _ _ hx hb k1 k2 => lv_if_ne hx hb hd ht (fun h => k1 (by show (!decide _) = true; rw [decide_eq_false h]; rfl)) (fun h => by rw [hn]; exact k2 (by show (!decide _) = false; rw [decide_eq_true h]; rfl))
theorem b_lt (hd : decode cc pc = .ok (.ifCond .lt off, 3)) (ht : (pc : Int) + off = (t : Int)) (hn : pc + 3 = n) : Snd g HB l call cc nL own nm pc (s_br1 2 t n) :=
  s_br1_ok fun _ _ _ _ _ _ _ _ _ _ _ _ _ _ _ _ _ _ hx hb k1 k2 => lv_if_lt hx hb hd ht (fun h => k1 (decide_eq_true h)) (fun h => by rw [hn]; exact k2 (decide_eq_false h))
theorem b_ge (hd : decode cc pc = .ok (.ifCond .ge off, 3)) (ht : (pc : Int) + off = (t : Int)) (hn : pc + 3 = n) : Snd g HB l call cc nL own nm pc (s_br1 3 t n) :=
  s_br1_ok fun _ _ _ _ _ _ _ _ _ _ _ _ _ _ _ _ _ _ hx hb k1 k2 => lv_if_ge hx hb hd ht (fun h => k1 (decide_eq_true h)) (fun h => by rw [hn]; exact k2 (decide_eq_false h))
theorem b_gt (hd : decode cc pc = .ok (.ifCond .gt off, 3)) (ht : (pc : Int) + off = (t : Int)) (hn : pc + 3 = n) : Snd g HB l call cc nL own nm pc (s_br1 4 t n) :=
  s_br1_ok fun _ _ _ _ _ _ _ _ _ _ _ _ _ _ _ _ _ _ hx hb k1 k2 => lv_if_gt hx hb hd ht (fun h => k1 (decide_eq_true h)) (fun h => by rw [hn]; exact k2 (decide_eq_false h))
theorem b_le (hd : decode cc pc = .ok (.ifCond .le off, 3)) (ht : (pc : Int) + off = (t : Int)) (hn : pc + 3 = n) : Snd g HB l call cc nL own nm pc (s_br1 5 t n) :=
  s_br1_ok fun _ _ _ _ _ _ _ _ _ _ _ _ _ _ _ _ _ _ hx hb k1 k2 => lv_if_le hx hb hd ht (fun h => k1 (decide_eq_true h)) (fun h => by rw [hn]; exact k2 (decide_eq_false h))
theorem b_ieq (hd : decode cc pc = .ok (.if_icmp .eq off, 3)) (ht : (pc : Int) + off = (t : Int)) (hn : pc + 3 = n) : Snd g HB l call cc nL own nm pc (s_br2 0 t n) :=
  s_br2_ok fun _ _ _ _ _ _ _ _ _ _ _ _ _ _ _ _ _ _ _ hx hb k1 k2 => lv_icmp_eq hx hb hd ht (fun h => k1 (decide_eq_true h)) (fun h => by rw [hn]; exact k2 (decide_eq_false h))
theorem b_ine (hd : decode cc pc = .ok (.if_icmp .ne off, 3)) (ht : (pc : Int) + off = (t : Int)) (hn : pc + 3 = n) : Snd g HB l call cc nL own nm pc (s_br2 1 t n) :=
  s_br2_ok fun _ _ _ _ _ _ _ _ _ _ _ _ _ _ _ _ _ _ _ hx hb k1 k2 => lv_icmp_ne hx hb hd ht (fun h => k1 (by show (!decide _) = true; rw [decide_eq_false h]; rfl)) (fun h => by rw [hn]; exact k2 (by show (!decide _) = false; rw [decide_eq_true h]; rfl))
theorem b_ilt (hd : decode cc pc = .ok (.if_icmp .lt off, 3)) (ht : (pc : Int) + off = (t : Int)) (hn : pc + 3 = n) : Snd g HB l call cc nL own nm pc (s_br2 2 t n) :=
  s_br2_ok fun _ _ _ _ _ _ _ _ _ _ _ _ _ _ _ _ _ _ _ hx hb k1 k2 => lv_icmp_lt hx hb hd ht (fun h => k1 (decide_eq_true h)) (fun h => by rw [hn]; exact k2 (decide_eq_false h))
theorem b_ige (hd : decode cc pc = .ok (.if_icmp .ge off, 3)) (ht : (pc : Int) + off = (t : Int)) (hn : pc + 3 = n) : Snd g HB l call cc nL own nm pc (s_br2 3 t n) :=
  s_br2_ok fun _ _ _ _ _ _ _ _ _ _ _ _ _ _ _ _ _ _ _ hx hb k1 k2 => lv_icmp_ge hx hb hd ht (fun h => k1 (decide_eq_true h)) (fun h => by rw [hn]; exact k2 (decide_eq_false h))
theorem b_igt (hd : decode cc pc = .ok (.if_icmp .gt off, 3)) (ht : (pc : Int) + off = (t : Int)) (hn : pc + 3 = n) : Snd g HB l call cc nL own nm pc (s_br2 4 t n) :=
  s_br2_ok fun _ _ _ _ _ _ _ _ _ _ _ _ _ _ _ _ _ _ _ hx hb k1 k2 => lv_icmp_gt hx hb hd ht (fun h => k1 (decide_eq_true h)) (fun h => by rw [hn]; exact k2 (decide_eq_false h))
theorem b_ile (hd : decode cc pc = .ok (.if_icmp .le off, 3)) (ht : (pc : Int) + off = (t : Int)) (hn : pc + 3 = n) : Snd g HB l call cc nL own nm pc (s_br2 5 t n) :=
  s_br2_ok fun _ _ _ _ _ _ _ _ _ _ _ _ _ _ _ _ _ _ _ hx hb k1 k2 => lv_icmp_le hx hb hd ht (fun h => k1 (decide_eq_true h)) (fun h => by rw [hn]; exact k2 (decide_eq_false h))
end BRS
/-- a switch on a number that is not known: foretold to be outside -/
def s_table (hi : Nat) (d : Nat) (ts : List Nat) : FF := fun cl fr lc c => match c with
  | (pc, L, .inr b :: r, h, k, z, true :: o, cs) => match isI (.inr b) with
    | true => some (d, L, r, h, k, z, o, (6, .inr b, .inl hi, true) :: cs)
    | false => none
  | c => lf (q_table 0 (hi : Int) d ts) cl fr lc c
theorem b_table {g : GG} {HB : Heap} {l : Launch} {call : CallF} {cc : ByteArray} {nL : Nat} {own nm : String} {pc hi : Nat} {dflt : Int} {offs : Array Int} {len d : Nat} {ts : List Nat} (hhi : hi < 2147483648) (hd : decode cc pc = .ok (.tableswitch dflt 0 (hi : Int) offs, len)) (hdf : (pc : Int) + dflt = (d : Int)) (hts : offs.toList.map (fun o => (pc : Int) + o) = ts.map (fun t : Nat => (t : Int))) : Snd g HB l call cc nL own nm pc (s_table hi d ts) := by
  intro fr lc L st h k z o cs pc' L' st' h' k' z' o' cs' hf
  have base := lf_ok (HB := HB) (l := l) (call := call) (own := own) (nm := nm) (p_table (g := g) (nL := nL) hd hdf hts) fr lc L st h k z o cs pc' L' st' h' k' z' o' cs'
  rcases st with _ | ⟨a, r⟩
  · exact base hf
  rcases a with x | b
  · exact base hf
  rcases o with _ | ⟨q, o1⟩
  · exact base hf
  cases q with
  | false => exact base hf
  | true =>
    simp only [s_table] at hf
    cases hq9 : isI (.inr b) with
    | false => rw [hq9] at hf; cases hf
    | true =>
      rw [hq9] at hf
      cases hf
      refine ⟨⟨List.suffix_cons _ _, Nat.le_refl _, Nat.le_refl _⟩, fun hk p e R s m args below meth c Q H locs ls hC _ _ _ _ hR hl kk => ?_⟩
      have hb : (decide ((gI g (.inr b)).toInt < 0) || decide ((nI hi).toInt < (gI g (.inr b)).toInt)) = true := hk _ List.mem_cons_self
      rw [nI_toInt (by omega)] at hb
      simp only [Bool.or_eq_true, decide_eq_true_eq] at hb
      rw [List.map_cons, cV_I hq9]
      exact lv_tableOut hC.1.1 hC.1.2.1 hd hb hdf (kk H locs ls hR hl)
/-- one and the same object beside itself -/
def s_acmp (same : Nat) : FF := fun _ _ _ c => match c with
  | (_, L, .inr (.inr (.float a)) :: .inr (.inr (.float b)) :: r, h, k, z, o, cs) => match Nat.beq a.toNat b.toNat with
    | true => some (same, L, r, h, k, z, o, cs)
    | false => none
  | _ => none
theorem b_acmp {g : GG} {HB : Heap} {l : Launch} {call : CallF} {cc : ByteArray} {nL : Nat} {own nm : String} {pc same : Nat}
    (row : ∀ (p : Program) (l : Launch) (e : Env) (R : Room) (s : State) (m : MethodId) (args : Array Value) (below : List Frame) (meth : Method) (c : Code) (H : Heap) (locs : List Loc) (cells slots : Nat) (Q : State → Prop) (ls : Array Slot) (rest : List Value) (x : Nat), p.tables.exec = Jvm.exec → c.code = cc → W p l e R s m args below meth c H locs cells slots Q (F0 m same ls rest) → W p l e R s m args below meth c H locs cells slots Q (F0 m pc ls (.ref x :: .ref x :: rest))) : Snd g HB l call cc nL own nm pc (s_acmp same) := by
  intro fr lo L st h k z o cs pc' L' st' h' k' z' o' cs' hf
  rcases st with _ | ⟨a, _ | ⟨b, r⟩⟩
  · cases hf
  · rcases a with a | a | v
    · cases hf
    · cases hf
    · cases v <;> cases hf
  · rcases a with a | a | v
    · cases hf
    · cases hf
    · cases v <;> first | cases hf | skip
      rename_i fa
      rcases b with b | b | w
      · cases hf
      · cases hf
      · cases w <;> first | cases hf | skip
        rename_i fb
        simp only [s_acmp] at hf
        cases hb : Nat.beq fa.toNat fb.toNat with
        | false => rw [hb] at hf; cases hf
        | true =>
          rw [hb] at hf
          cases hf
          have he := Nat.eq_of_beq_eq_true hb
          refine ⟨⟨List.suffix_refl _, Nat.le_refl _, Nat.le_refl _⟩, fun _ p e R s m args below meth c Q H locs ls hC _ _ _ _ hR hl kk => ?_⟩
          have h2 := row p l e R s m args below meth c H locs (cv g k) (cv g z) Q ls _ (g.2.1 fb.toNat) hC.1.1 hC.1.2.1 (kk H locs ls hR hl)
          show W p l e R s m args below meth c H locs (cv g k) (cv g z) Q (F0 m pc ls (Value.ref (g.2.1 fa.toNat) :: Value.ref (g.2.1 fb.toNat) :: _))
          rw [he]
          exact h2
theorem b_acmp_eq {g : GG} {HB : Heap} {l : Launch} {call : CallF} {cc : ByteArray} {nL : Nat} {own nm : String} {pc t : Nat} {off : Int} (hd : decode cc pc = .ok (.if_acmp .eq off, 3)) (ht : (pc : Int) + off = (t : Int)) : Snd g HB l call cc nL own nm pc (s_acmp t) :=
  b_acmp fun _ _ _ _ _ _ _ _ _ _ _ _ _ _ _ _ _ x hx hb k => lv_acmp_eq (rx := some x) (ry := some x) hx hb hd ht (fun _ => k) (fun h => absurd rfl h)
theorem b_acmp_ne {g : GG} {HB : Heap} {l : Launch} {call : CallF} {cc : ByteArray} {nL : Nat} {own nm : String} {pc t n : Nat} {off : Int} (hd : decode cc pc = .ok (.if_acmp .ne off, 3)) (ht : (pc : Int) + off = (t : Int)) (hn : pc + 3 = n) : Snd g HB l call cc nL own nm pc (s_acmp n) :=
  b_acmp fun _ _ _ _ _ _ _ _ _ _ _ _ _ _ _ _ _ x hx hb k => lv_acmp_ne (rx := some x) (ry := some x) hx hb hd ht (fun h => absurd rfl h) (fun _ => by rw [hn]; exact k)
