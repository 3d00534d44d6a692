/-! Further steps: Object's constructor, constants of the pool, statics, outside objects, an empty copy. -/
section MOR
variable {g : GG} {HB : Heap} {l : Launch} {M : Nat → Option MD} {call : CallF} {cc : ByteArray} {nL : Nat} {own nm : String} {pc n id w np idx : Nat} {d : MD}
def s_obj (n : Nat) : FF := fun _ fr lo c => match c with
  | (_, L, st, h, k, z, o, cs) => match st with
    | [] => none
    | a :: r => match isR a && (Nat.ble 1 fr && Nat.ble (slen r + 12) lo) with
      | true => some (n, L, r, h, k, z, o, cs)
      | false => none
theorem m_obj (h1 : Cond.methodLink own idx objectInit ∈ wsG) (h2 : Cond.instanceMethod objectInit ∈ wsG) (h3 : Cond.code objectInit ⟨#[0xb1]⟩ 1 none ∈ wsG) (hd : decode cc pc = .ok (.invokespecial idx, 3)) (hn : pc + 3 = n) : Snd g HB l call cc nL own nm pc (s_obj n) := by
  intro fr lo L st h k z o cs pc' L' st' h' k' z' o' cs' hf
  rcases st with _ | ⟨a, r⟩
  · cases hf
  simp only [s_obj] at hf
  cases hb0 : isR a && (Nat.ble 1 fr && Nat.ble (slen r + 12) lo) with
  | false => rw [hb0] at hf; cases hf
  | true =>
    rw [hb0] at hf
    cases hf
    subst hn
    rw [Bool.and_eq_true, Bool.and_eq_true] at hb0
    have e1 : 1 ≤ fr := Nat.ble_eq.mp hb0.2.1
    have e2 : slen st' + 12 ≤ lo := Nat.ble_eq.mp hb0.2.2
    refine ⟨⟨List.suffix_refl _, Nat.le_refl _, Nat.le_refl _⟩, fun _ p e R s m args below meth c Q H locs ls hC hfr hlo _ _ hR hl kk => ?_⟩
    obtain ⟨⟨hx, hb, hml, hown, hts⟩, hA, -⟩ := hC
    rw [List.map_cons, cV_R hb0.1]
    refine W.objInit hx hb hown (hts _ h1) (hts _ h2) (hts _ h3) (g := F0 m pc ls (.ref (gR g a) :: st'.map (cV g))) rfl (hl.1.trans hml.symm) rfl hd (by omega) (by rw [slen_sum]; show 2 * 0 + slen st' + 12 ≤ R.locals; omega) ?_
    exact kk H locs ls hR hl
/-- a value of the pool, or a static that nobody writes -/
def s_val (v : AV) (n : Nat) : FF := fun _ _ _ c => match c with
  | (_, L, st, h, k, z, o, cs) => some (n, L, v :: st, h, k, z, o, cs)
theorem m_ldc {v : Nat} {x : Int32} (h1 : Cond.constant own idx x ∈ wsG) (hv : x = nI v) (hd : decode cc pc = .ok (.ldc idx, 2)) (hn : pc + 2 = n) : Snd g HB l call cc nL own nm pc (s_val (.inl v) n) := by
  intro fr lo L st h k z o cs pc' L' st' h' k' z' o' cs' hf
  cases hf
  subst hn
  subst hv
  refine ⟨⟨List.suffix_refl _, Nat.le_refl _, Nat.le_refl _⟩, fun _ p e R s m args below meth c Q H locs ls hC hfr hlo _ _ hR hl kk => ?_⟩
  obtain ⟨⟨hx, hb, hml, hown, hts⟩, hA, -⟩ := hC
  exact lv_ldc hx hb hown (hts _ h1) hd (kk H locs ls hR hl)
theorem m_ldc2 {v : Nat} {x : Int64} (h1 : Cond.constantLong own idx x ∈ wsG) (hv : x = lN v) (hd : decode cc pc = .ok (.ldc2_w idx, 3)) (hn : pc + 3 = n) : Snd g HB l call cc nL own nm pc (s_val (.inr (.inl v)) n) := by
  intro fr lo L st h k z o cs pc' L' st' h' k' z' o' cs' hf
  cases hf
  subst hn
  subst hv
  refine ⟨⟨List.suffix_refl _, Nat.le_refl _, Nat.le_refl _⟩, fun _ p e R s m args below meth c Q H locs ls hC hfr hlo _ _ hR hl kk => ?_⟩
  obtain ⟨⟨hx, hb, hml, hown, hts⟩, hA, -⟩ := hC
  exact lv_ldc2 hx hb hown (hts _ h1) hd (kk H locs ls hR hl)
theorem m_ldcS {tx : String} {q : Nat} (h1 : (own, idx, tx, q) ∈ xR) (hq : (UInt32.ofNat q).toNat = q) (hd : decode cc pc = .ok (.ldc idx, 2)) (hn : pc + 2 = n) : Snd g HB l call cc nL own nm pc (s_val (.inr (.inr (.float (UInt32.ofNat q)))) n) := by
  intro fr lo L st h k z o cs pc' L' st' h' k' z' o' cs' hf
  cases hf
  subst hn
  refine ⟨⟨List.suffix_refl _, Nat.le_refl _, Nat.le_refl _⟩, fun _ p e R s m args below meth c Q H locs ls hC hfr hlo _ _ hR hl kk => ?_⟩
  obtain ⟨⟨hx, hb, hml, hown, hts⟩, hA, -⟩ := hC
  have hZ : vk_R own idx tx (g.2.1 q) s := hA.2.2.2.2.2.1 _ h1
  have hk := kk H locs ls hR hl
  rw [List.map_cons] at hk
  have e1 : cV g (.inr (.inr (.float (UInt32.ofNat q)))) = .ref (g.2.1 q) := by
    show Value.ref (g.2.1 (UInt32.ofNat q).toNat) = _
    rw [hq]
  rw [e1] at hk
  exact va_ldcS hx hb hown hZ hd hk
theorem m_gst {C f9 d9 : String} {v : AV} (h1 : (C, f9, d9, v) ∈ xZ) (hlink : Cond.fieldLink own idx C f9 d9 ∈ wsG) (hd : decode cc pc = .ok (.getstatic idx, 3)) (hn : pc + 3 = n) : Snd g HB l call cc nL own nm pc (s_val v n) := by
  intro fr lo L st h k z o cs pc' L' st' h' k' z' o' cs' hf
  cases hf
  subst hn
  refine ⟨⟨List.suffix_refl _, Nat.le_refl _, Nat.le_refl _⟩, fun _ p e R s m args below meth c Q H locs ls hC hfr hlo _ _ hR hl kk => ?_⟩
  obtain ⟨⟨hx, hb, hml, hown, hts⟩, hA, -⟩ := hC
  obtain ⟨cf, kf, fi, f, a, cell, h1, h2, h3, h4, h5, h6, h7, h8⟩ := hA.2.2.2.2.1 _ h1
  exact W.gets hx hb hown (hts _ hlink) h1 h2 h3 h4 (by rw [hR.2.1 a (Nat.lt_of_not_le h8)]; exact h5) (fun e => by rw [e] at h6; cases h6) h7 rfl hd (kk H locs ls hR hl)
/-- a field of an outside object: vs tells it by the object -/
def s_getX (vs : List (Nat × AV)) (n : Nat) : FF := fun _ _ _ c => match c with
  | (_, L, st, h, k, z, o, cs) => match st with
    | [] => none
    | a :: r => match fOf a with
      | none => none
      | some q => match alk vs q with
        | none => none
        | some v => some (n, L, v :: r, h, k, z, o, cs)
theorem m_getX {o9 f9 d9 : String} {vs : List (Nat × AV)} (hvs : ∀ x ∈ vs, (x.1, o9, f9, d9, x.2) ∈ xOF) (hlink : Cond.fieldLink own idx o9 f9 d9 ∈ wsG) (hd : decode cc pc = .ok (.getfield idx, 3)) (hn : pc + 3 = n) : Snd g HB l call cc nL own nm pc (s_getX vs n) := by
  intro fr lo L st h k z o cs pc' L' st' h' k' z' o' cs' hf
  rcases st with _ | ⟨a, r⟩
  · cases hf
  simp only [s_getX] at hf
  cases ha : fOf a with
  | none => rw [ha] at hf; cases hf
  | some q =>
    rw [ha] at hf
    simp only at hf
    cases hv : alk vs q with
    | none => rw [hv] at hf; cases hf
    | some v =>
      rw [hv] at hf
      cases hf
      subst hn
      refine ⟨⟨List.suffix_refl _, Nat.le_refl _, Nat.le_refl _⟩, fun _ p e R s m args below meth c Q H locs ls hC hfr hlo _ _ hR hl kk => ?_⟩
      obtain ⟨⟨hx, hb, hml, hown, hts⟩, hA, -⟩ := hC
      obtain ⟨cf, k9, fi, f, cell, h1, h2, h3, h4, h5, h6⟩ := hA.2.2.1 _ (hvs _ (alk_mem hv))
      rw [List.map_cons, fOf_eq ha]
      exact W.getf hx hb hown (hts _ hlink) h1 h2 (by rw [hR.2.1 _ (Nat.lt_of_not_le h6)]; exact h3) h4 h5 rfl rfl hd (kk H locs ls hR hl)
/-- a byte of an outside array -/
def s_baldX (n : Nat) : FF := fun cl fr lo c => match c with
  | (pc, L, st, h, k, z, o, cs) => match st with
    | .inl j :: a :: r => match fOf a with
      | none => s_ald (fun t => Nat.beq t 1 || Nat.beq t 2) isI (.inl 0) n cl fr lo (pc, L, .inl j :: a :: r, h, k, z, o, cs)
      | some q => match xTf q with
        | none => none
        | some x => match Nat.blt j x.2.1 && (Nat.blt j 2147483648 && decide (x.1 = .byte)) with
          | false => none
          | true => fz (toN (x.2.2.getD j 0)) (fun v => some (n, L, .inl v :: r, h, k, z, o, cs))
    | _ => none
theorem m_baldX (hd : decode cc pc = .ok (.baload, 1)) (hn : pc + 1 = n) : Snd g HB l call cc nL own nm pc (s_baldX n) := by
  intro fr lo L st h k z o cs pc' L' st' h' k' z' o' cs' hf
  rcases st with _ | ⟨i, _ | ⟨a, r⟩⟩
  · cases hf
  · rcases i with i | i <;> cases hf
  rcases i with j | i
  · simp only [s_baldX] at hf
    cases ha : fOf a with
    | none => rw [ha] at hf; exact h_bald hd hn fr lo L _ h k z o cs pc' L' st' h' k' z' o' cs' hf
    | some q =>
      rw [ha] at hf
      simp only at hf
      cases hv : xTf q with
      | none => rw [hv] at hf; cases hf
      | some x =>
        rw [hv] at hf
        simp only at hf
        cases hb0 : Nat.blt j x.2.1 && (Nat.blt j 2147483648 && decide (x.1 = .byte)) with
        | false => rw [hb0] at hf; cases hf
        | true =>
          rw [hb0] at hf
          simp only [fz_eq] at hf
          cases hf
          subst hn
          rw [Bool.and_eq_true, Bool.and_eq_true] at hb0
          have e1 : j < x.2.1 := Nat.blt_eq.mp hb0.1
          have e2 : j < 2147483648 := Nat.blt_eq.mp hb0.2.1
          have e3 : x.1 = .byte := of_decide_eq_true hb0.2.2
          refine ⟨⟨List.suffix_refl _, Nat.le_refl _, Nat.le_refl _⟩, fun _ p e R s m args below meth c Q H locs ls hC hfr hlo _ _ hR hl kk => ?_⟩
          obtain ⟨⟨hx, hb, hml, hown, hts⟩, hA, -⟩ := hC
          obtain ⟨cell, c1, c2, c3, c4, c5, c6, c7⟩ := hA.2.2.2.1 _ (xTf_mem hv)
          simp only at c1 c2 c4 c6
          rw [e3] at c2
          rw [List.map_cons, List.map_cons, fOf_eq ha]
          have hk := kk H locs ls hR hl
          rw [List.map_cons] at hk
          have e4 : cV g (.inl (toN (x.2.2.getD j 0))) = .int (x.2.2.getD j 0) := by show Value.int (nI (toN _)) = _; rw [nI_toN]
          rw [e4] at hk
          exact W.bald (j := nI j) hx hb (by rw [hR.2.1 _ (Nat.lt_of_not_le c7)]; exact c1) c2 c3 (by
            rintro (q | q)
            · exact nI_pos (by omega) q
            · rw [nI_clamp (by omega)] at q
              omega) (by rw [nI_clamp (by omega)]; exact c6 j e1) rfl rfl hd hk
  · cases hf
/-- a call of an outside object's method -/
def s_cVX (vs : List Nat) (id np w n : Nat) : FF := fun call fr lo c => match c with
  | (_, L, st, h, k, z, o, cs) => match popN np st [] with
    | none => none
    | some (as, r0) => match r0 with
      | [] => none
      | a :: r => match fOf a with
        | none => none
        | some q => match vs.any (fun y => Nat.beq y q) with
          | true => goC call id fr lo w n L (a :: as) r h k z o cs
          | false => none
theorem m_cVX {C : String} {vs : List Nat} (hvs : ∀ x ∈ vs, (x, C) ∈ xO) (hC0 : SndC g HB l M call) (hM : M id = some d) (hd0 : MOK d np) (hw : w = mdL d + 19) (hcls : (mdY d).cls = C) (h1 : Cond.methodLink own idx (mdY d) ∈ wsG) (h2 : Cond.instanceMethod (mdY d) ∈ wsG) (h3 : Cond.selects C (mdY d) (mdY d) ∈ wsG) (h4 : Cond.initialized C ∈ wsG) (hd : decode cc pc = .ok (.invokevirtual idx, 3)) (hn : pc + 3 = n) : Snd g HB l call cc nL own nm pc (s_cVX vs id np w n) := by
  intro fr lo L st h k z o cs pc' L' st' h' k' z' o' cs' hf
  simp only [s_cVX] at hf
  cases hp : popN np st [] with
  | none => rw [hp] at hf; cases hf
  | some x =>
    obtain ⟨as, r0⟩ := x
    rw [hp] at hf
    rcases r0 with _ | ⟨a, r⟩
    · cases hf
    simp only at hf
    cases ha : fOf a with
    | none => rw [ha] at hf; cases hf
    | some q =>
      rw [ha] at hf
      simp only at hf
      cases hq : vs.any (fun y => Nat.beq y q) with
      | false => rw [hq] at hf; cases hf
      | true =>
        rw [hq] at hf
        obtain ⟨fr', rv, mc, ms, rfl, hlo, h8, hcall, rfl, rfl, rfl, rfl, rfl⟩ := goC_ok hf
        subst hn
        obtain ⟨y, hy, hyq⟩ := List.any_eq_true.mp hq
        have hyq := Nat.eq_of_beq_eq_true hyq
        subst hyq
        obtain ⟨d2, e2, hsuf, hmet⟩ := hC0 _ _ _ _ _ _ _ _ _ _ _ _ _ hcall
        cases hM.symm.trans e2
        refine ⟨⟨hsuf, Nat.le_add_right _ _, Nat.le_add_right _ _⟩, fun hok p e R s m args below meth c Q H locs ls hC hfr hlo2 hk hz hR hl kk => ?_⟩
        obtain ⟨⟨hx, hb, hml, hown, hts⟩, hA, -⟩ := hC
        obtain ⟨hst, hln⟩ := popN_st (g := g) hp
        rw [List.map_cons, fOf_eq ha] at hst
        have hG : GoodIn wsG (wsV own idx C (mdY d) (mdW d)) := fun w hw => by
          unfold wsV at hw
          rcases List.mem_append.mp hw with hw | hw
          · simp only [List.mem_cons, List.not_mem_nil, or_false] at hw
            rcases hw with rfl | rfl | rfl | rfl
            · exact wsG_good _ h1
            · exact wsG_good _ h2
            · exact wsG_good _ h3
            · exact wsG_good _ h4
          · exact mdW_good hd0.1 w hw
        have cw := cwV (R := R) (mc := mc) (ms := ms) (maxL := mdL d) (ret := mdR d) (bytes := mdC d) (ws' := wsG) (rm := { frames := fr', cells := mc, slots := ms, locals := lo - w }) np hts hG rfl rfl rfl ⟨hcls, hd0.2⟩ ⟨hfr, by show 8 + (mdL d + 11) + (lo - w) ≤ R.locals; omega⟩
        have hpre := pre_of (p := p) (av := a :: as) hA hR
        rw [List.map_cons, fOf_eq ha] at hpre
        obtain ⟨cell, o1, o2, o3, o4⟩ := hA.2.2.2.2.2.2.1 _ (hvs _ hy)
        refine sim_call (va_runV (g := F0 m pc ls (st.map (cV g))) (C := C) (b := g.2.1 y) (As := as.map (cV g)) (rest := r.map (cV g)) ⟨hx, hb, hml, hown, hts⟩ (hmet hok) cw ⟨PP.blind _ _ _ _, ⟨cell, by rw [hR.2.1 _ (Nat.lt_of_not_le o4)]; exact o1, o2, o3⟩, hpre⟩ rfl hln hl.1 hst (room8 g h8) hd ⟨hk, hz⟩) hR.2.2.2 fun H1 locs1 hR1 => ?_
        have hkk := kk H1 locs1 ls hR1 hl
        rw [List.map_append] at hkk
        cases rv <;> exact hkk
/-- the script's length, where it is L -/
def s_slen (L0 n : Nat) : FF := fun _ _ _ c => match c with
  | (_, L, st, h, k, z, o, cs) => match st with
    | [] => none
    | a :: r => match fOf a with
      | none => none
      | some q => match Nat.beq q 90 with
        | true => some (n, L, .inl L0 :: r, h, k, z, o, cs)
        | false => none
theorem m_slen {L0 : Nat} (hL : g.2.1 91 = L0) (hd : decode cc pc = .ok (.arraylength, 1)) (hn : pc + 1 = n) : Snd g HB l call cc nL own nm pc (s_slen L0 n) := by
  intro fr lo L st h k z o cs pc' L' st' h' k' z' o' cs' hf
  subst hn
  subst hL
  rcases st with _ | ⟨a, r⟩
  · cases hf
  simp only [s_slen] at hf
  cases ha : fOf a with
  | none => rw [ha] at hf; cases hf
  | some q =>
    rw [ha] at hf
    simp only at hf
    cases hq : Nat.beq q 90 with
    | false => rw [hq] at hf; cases hf
    | true =>
      rw [hq] at hf
      cases hf
      have hq := Nat.eq_of_beq_eq_true hq
      subst hq
      refine ⟨⟨List.suffix_refl _, Nat.le_refl _, Nat.le_refl _⟩, fun _ p e R s m args below meth c Q H locs ls hC hfr hlo _ _ hR hl kk => ?_⟩
      obtain ⟨⟨hx, hb, hml, hown, hts⟩, hA, -⟩ := hC
      obtain ⟨cell, c1, c2, c3, c4, c5, c6, c7⟩ := hA.2.2.2.2.2.2.2
      rw [List.map_cons, fOf_eq ha]
      exact W.alen hx hb (by rw [hR.2.1 _ (Nat.lt_of_not_le c7)]; exact c1) c2 c5 rfl rfl hd (kk H locs ls hR hl)
/-- an int of the script, as sc tells it -/
def s_sld (L0 : Nat) (sc : Nat → AV) (n : Nat) : FF := fun _ _ _ c => match c with
  | (_, L, st, h, k, z, o, cs) => match st with
    | .inl j :: a :: r => match fOf a with
      | none => none
      | some q => match Nat.beq q 90 && (Nat.blt j L0 && Nat.blt j 2147483648) with
        | true => fzv (sc j) (fun v => some (n, L, v :: r, h, k, z, o, cs))
        | false => none
    | _ => none
theorem m_sld {L0 : Nat} {sc : Nat → AV} (hL : g.2.1 91 = L0) (hsc : ∀ j, j < L0 → cV g (sc j) = .int (nI (g.2.1 (2000 + j)))) (hd : decode cc pc = .ok (.iaload, 1)) (hn : pc + 1 = n) : Snd g HB l call cc nL own nm pc (s_sld L0 sc n) := by
  intro fr lo L st h k z o cs pc' L' st' h' k' z' o' cs' hf
  subst hn
  subst hL
  rcases st with _ | ⟨i, _ | ⟨a, r⟩⟩
  · cases hf
  · rcases i with i | i <;> cases hf
  rcases i with j | i
  · simp only [s_sld] at hf
    cases ha : fOf a with
    | none => rw [ha] at hf; cases hf
    | some q =>
      rw [ha] at hf
      simp only at hf
      cases hq : Nat.beq q 90 && (Nat.blt j (g.2.1 91) && Nat.blt j 2147483648) with
      | false => rw [hq] at hf; cases hf
      | true =>
        rw [hq] at hf
        simp only [fzv_eq] at hf
        cases hf
        rw [Bool.and_eq_true, Bool.and_eq_true] at hq
        have hq90 := Nat.eq_of_beq_eq_true hq.1
        subst hq90
        have e1 : j < g.2.1 91 := Nat.blt_eq.mp hq.2.1
        have e2 : j < 2147483648 := Nat.blt_eq.mp hq.2.2
        refine ⟨⟨List.suffix_refl _, Nat.le_refl _, Nat.le_refl _⟩, fun _ p e R s m args below meth c Q H locs ls hC hfr hlo _ _ hR hl kk => ?_⟩
        obtain ⟨⟨hx, hb, hml, hown, hts⟩, hA, -⟩ := hC
        obtain ⟨cell, c1, c2, c3, c4, c5, c6, c7⟩ := hA.2.2.2.2.2.2.2
        rw [List.map_cons, List.map_cons, fOf_eq ha]
        have hk := kk H locs ls hR hl
        rw [List.map_cons, hsc j e1] at hk
        exact W.iald (j := nI j) hx hb (by rw [hR.2.1 _ (Nat.lt_of_not_le c7)]; exact c1) c2 c3 (by
          rintro (q | q)
          · exact nI_pos (by omega) q
          · rw [nI_clamp (by omega)] at q
            omega) (by rw [nI_clamp (by omega)]; exact c6 j e1) rfl rfl hd hk
  · cases hf
end MOR
