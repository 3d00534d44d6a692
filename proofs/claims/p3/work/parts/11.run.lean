/-! A method's run, computed, is what the machine does. -/
/-- an end of a method, in its code -/
def endOK (cc : ByteArray) (ret : Option FieldType) (pc kd : Nat) : Prop := match kd with
  | 0 => ret = none ∧ decode cc pc = .ok (.return_, 1)
  | 1 => ret = some .int ∧ decode cc pc = .ok (.ireturn, 1)
  | 2 => decode cc pc = .ok (.ireturn, 1)
  | 3 => (∃ rt, ret = some rt ∧ ((∃ n, rt = .object n) ∨ ∃ t, rt = .array t)) ∧ decode cc pc = .ok (.areturn, 1)
  | 4 => ret = some .long ∧ decode cc pc = .ok (.lreturn, 1)
  | _ => False
/-- a method whose steps and ends are the machine's -/
def MSnd (g : GG) (HB : Heap) (l : Launch) (M : Nat → Option MD) (d : MD) : Prop :=
  plainName (mdY d).cls = true ∧
  (∀ call, SndC g HB l M call → ∀ x ∈ mdP d, Snd g HB l call (mdC d) (mdL d) (mdY d).cls (mdY d).name x.1 x.2) ∧
  ∀ x ∈ mdE d, endOK (mdC d) (mdR d) x.1 x.2
theorem okc_suffix {g : GG} {a b : CSL} (h : a <:+ b) (hb : okc g b) : okc g a := fun q hq => hb q (h.subset hq)
theorem run_step {g : GG} {HB : Heap} {l : Launch} {M : Nat → Option MD} {n : Nat} (hcall : SndC g HB l M (cMth M (run M n)))
    (ih : ∀ (P : List (Nat × FF)) (cc : ByteArray) (nL : Nat) (own nm : String), (∀ call, SndC g HB l M call → ∀ x ∈ P, Snd g HB l call cc nL own nm x.1 x.2) → ∀ (pc : Nat), Snd g HB l (cMth M (run M n)) cc nL own nm pc (fun _ fr lo c => run M n P fr lo c))
    (P : List (Nat × FF)) (cc : ByteArray) (nL : Nat) (own nm : String) (hP : ∀ call, SndC g HB l M call → ∀ x ∈ P, Snd g HB l call cc nL own nm x.1 x.2) (pc : Nat) : Snd g HB l (cMth M (run M n)) cc nL own nm pc (fun _ fr lo c => run M (n + 1) P fr lo c) := by
  intro fr lo L st h k z o cs pc' L' st' h' k' z' o' cs' hf
  simp only [run] at hf
  cases hp : alk P pc with
  | none =>
    rw [hp] at hf
    cases hf
    exact ⟨⟨List.suffix_refl _, Nat.le_refl _, Nat.le_refl _⟩, fun _ p e R s m args below meth c Q H locs ls hC _ _ _ _ hR hl kk => kk H locs ls hR hl⟩
  | some f =>
    rw [hp] at hf
    simp only at hf
    cases h1 : f (cMth M (run M n)) fr lo (pc, L, st, h, k, z, o, cs) with
    | none => rw [h1] at hf; cases hf
    | some c1 =>
      obtain ⟨pc1, L1, st1, h1', k1, z1, o1, cs1⟩ := c1
      rw [h1] at hf
      have hs := hP _ hcall _ (alk_mem hp) fr lo L st h k z o cs pc1 L1 st1 h1' k1 z1 o1 cs1 h1
      have hr := ih P cc nL own nm hP pc1 fr lo L1 st1 h1' k1 z1 o1 cs1 pc' L' st' h' k' z' o' cs' hf
      refine ⟨⟨hs.1.1.trans hr.1.1, Nat.le_trans hs.1.2.1 hr.1.2.1, Nat.le_trans hs.1.2.2 hr.1.2.2⟩, fun hok p e R s m args below meth c Q H locs ls hC hfr hlo hk hz hR hl kk => ?_⟩
      refine hs.2 (okc_suffix hr.1.1 hok) p e R s m args below meth c Q H locs ls hC hfr hlo (Nat.le_trans hr.1.2.1 hk) (Nat.le_trans hr.1.2.2 hz) hR hl (fun H1 locs1 ls1 hR1 hl1 => ?_)
      exact hr.2 hok p e R s m args below meth c Q H1 locs1 ls1 hC hfr hlo hk hz hR1 hl1 kk
theorem run_call {g : GG} {HB : Heap} {l : Launch} {M : Nat → Option MD} {n : Nat} (hM : ∀ id d, M id = some d → MSnd g HB l M d)
    (hrun : ∀ (P : List (Nat × FF)) (cc : ByteArray) (nL : Nat) (own nm : String), (∀ call, SndC g HB l M call → ∀ x ∈ P, Snd g HB l call cc nL own nm x.1 x.2) → ∀ (pc : Nat), Snd g HB l (cMth M (run M n)) cc nL own nm pc (fun _ fr lo c => run M n P fr lo c)) :
    SndC g HB l M (cMth M (run M n)) := by
  intro id fr lo av h o cs rv h' mc ms o' cs' hf
  simp only [cMth] at hf
  cases hd : M id with
  | none => rw [hd] at hf; cases hf
  | some d =>
    rw [hd] at hf
    simp only at hf
    cases hb0 : Nat.ble (slen av) (mdL d) with
    | false => rw [hb0] at hf; cases hf
    | true =>
      rw [hb0] at hf
      simp only at hf
      cases hr : run M n (mdP d) fr lo (0, argsA 0 av, [], h, 0, 0, o, cs) with
      | none => rw [hr] at hf; cases hf
      | some c1 =>
        obtain ⟨pc1, L1, st1, h1, k1, z1, o1, cs1⟩ := c1
        rw [hr] at hf
        simp only at hf
        cases he : alk (mdE d) pc1 with
        | none => rw [he] at hf; cases hf
        | some kd =>
          rw [he] at hf
          simp only at hf
          cases hrv : retv (mdR d) kd st1 with
          | none => rw [hrv] at hf; cases hf
          | some rv1 =>
            rw [hrv] at hf
            cases hf
            obtain ⟨hpl, hP, hE⟩ := hM id d hd
            have hs := hrun (mdP d) (mdC d) (mdL d) (mdY d).cls (mdY d).name hP 0 fr lo (argsA 0 av) [] h 0 0 o cs pc1 L1 st1 h' mc ms o' cs' hr
            refine ⟨d, rfl, hs.1.1, fun hok => ?_⟩
            refine Met.ofW (cc := mdC d) (maxL := mdL d) (ret := mdR d) hpl rfl ?_
            intro p e s m args below meth c s₁ B hml hv
            obtain ⟨rfl, hR0, hKA⟩ := hv
            have hts0 := atoms_spec (ws := mdW d) B.pre
            have hC : Cx g HB p s m (av.map (cV g)).toArray meth c (mdC d) (mdL d) (mdY d).cls (mdY d).name :=
              ⟨⟨B.exec, B.bytes, hml, findClass_of_methodNamed B.named, fun w hw => hts0 w (List.mem_cons_of_mem _ hw)⟩, hKA, (name_of_methodNamed B.named B.method).1⟩
            have hle : (lg_sl (av.map (cV g))).length ≤ mdL d := by rw [slen_eq]; exact Nat.ble_eq.mp hb0
            have hl := lv_entry (av.map (cV g)) hle
            rw [lg_entry_eq]
            generalize (lg_sl (av.map (cV g)) ++ List.replicate (mdL d - (lg_sl (av.map (cV g))).length) Slot.unset).toArray = ls at hl ⊢
            rw [← argsA_eq] at hl
            refine hs.2 hok p e _ s m _ below meth c _ s.heap [] ls hC (Nat.le_refl fr) (Nat.le_refl lo) (Nat.le_refl mc) (Nat.le_refl ms) hR0 hl (fun H1 locs1 ls1 hR1 hl1 => ?_)
            have hq : ∀ v : Option Value, rv.map (cV g) = v → ∀ t : State, t.heap = H1 → s.WarmedH t.vm → QQ g HB rv h' (av.map (cV g)).toArray s (.returned v) t := fun v hv t ht _ => ⟨by rw [hv], by rw [ht]; exact hR1.nolocs⟩
            have hE1 := hE _ (alk_mem he)
            have hx := B.exec
            have hb := B.bytes
            have hret := B.returns
            have hlocks := B.notSynchronized
            rcases st1 with _ | ⟨a, _ | ⟨a2, r⟩⟩
            · rcases kd with _ | kd
              · cases hrv
                exact W.vret hx hb (hret.trans hE1.1) (hq none rfl) hR1.2.2.2 hE1.2 hlocks
              · cases hrv
            · rcases kd with _ | _ | _ | _ | _ | kd
              · cases hrv
              · simp only [retv] at hrv
                cases hi : isI a with
                | false => rw [hi] at hrv; cases hrv
                | true =>
                  rw [hi] at hrv
                  cases hrv
                  rw [List.map_cons, cV_I hi]
                  exact W.iret hx hb (hret.trans hE1.1) (hq _ (congrArg some (cV_I hi))) hR1.2.2.2 hE1.2 hlocks
              · rcases a with x | a
                · simp only [retv] at hrv
                  cases hty : mdR d with
                  | none => rw [hty] at hrv; cases hrv
                  | some ty =>
                    rw [hty] at hrv
                    simp only at hrv
                    cases hn : decide (narrow ty (.int (nI x)) = .int (nI x)) with
                    | false => rw [hn] at hrv; cases hrv
                    | true =>
                      rw [hn] at hrv
                      cases hrv
                      exact W.zret (v := nI x) hx hb (hret.trans hty) (of_decide_eq_true hn) (hq _ rfl) hR1.2.2.2 hE1 hlocks
                · cases hrv
              · simp only [retv] at hrv
                cases hi : isR a || isN a with
                | false => rw [hi] at hrv; cases hrv
                | true =>
                  rw [hi] at hrv
                  cases hrv
                  obtain ⟨⟨rt, hrt, hrt2⟩, hdg⟩ := hE1
                  have hv : cV g a = .null ∨ ∃ q, cV g a = .ref q := by
                    rw [Bool.or_eq_true] at hi
                    rcases hi with hi | hi
                    · exact Or.inr ⟨_, cV_R hi⟩
                    · rcases a with a | a | v
                      · cases hi
                      · cases hi
                      · cases v <;> first | cases hi | skip
                        exact Or.inl rfl
                  exact W.aret hx hb (hret.trans hrt) hrt2 hv (hq _ rfl) hR1.2.2.2 hdg hlocks
              · simp only [retv] at hrv
                cases hi : isL a with
                | false => rw [hi] at hrv; cases hrv
                | true =>
                  rw [hi] at hrv
                  cases hrv
                  rw [List.map_cons, cV_L hi]
                  exact W.lret hx hb (hret.trans hE1.1) (hq _ (congrArg some (cV_L hi))) hR1.2.2.2 hE1.2 hlocks
              · cases hrv
            · cases hrv
theorem run_ok {g : GG} {HB : Heap} {l : Launch} {M : Nat → Option MD} (hM : ∀ id d, M id = some d → MSnd g HB l M d) : ∀ (n : Nat) (P : List (Nat × FF)) (cc : ByteArray) (nL : Nat) (own nm : String), (∀ call, SndC g HB l M call → ∀ x ∈ P, Snd g HB l call cc nL own nm x.1 x.2) → ∀ (pc : Nat), Snd g HB l (cMth M (run M n)) cc nL own nm pc (fun _ fr lo c => run M n P fr lo c) := by
  intro n
  induction n with
  | zero =>
    intro P cc nL own nm hP pc fr lo L st h k z o cs pc' L' st' h' k' z' o' cs' hf
    cases hf
  | succ n ih =>
    intro P cc nL own nm hP pc fr lo L st h k z o cs pc' L' st' h' k' z' o' cs' hf
    exact run_step (run_call hM ih) ih P cc nL own nm hP pc fr lo L st h k z o cs pc' L' st' h' k' z' o' cs' hf
theorem call_ok {g : GG} {HB : Heap} {l : Launch} {M : Nat → Option MD} (hM : ∀ id d, M id = some d → MSnd g HB l M d) (n : Nat) : SndC g HB l M (cMth M (run M n)) := run_call hM (run_ok hM n)
