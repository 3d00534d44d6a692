/-! The law's runs, put together. -/
def lw_P (b : Addr) (xs : List Int32) (args : Array Value) (s : State) : Prop := args = #[.ref b] ∧ s.IntsAt b xs ∧ xs.length ≤ 6 ∧ (Jvm.Cond.and given_1 narrow_1).before args s = true
def lw_Q (_ : Array Value) (s : State) (o : Outcome) (t : State) : Prop := o = .returned (some (.int 1)) ∧ Framed s o t [] 600002 7302232
def lw_Z (below : List Frame) (a : Array Value) (s : State) : State → Prop := fun t => ∃ o, t.status = .running ∧ Ended t below o ∧ lw_Q a s o t
/-- the law's own end, with 1 on the stack, nothing written that was there before, its room as the claim has it -/
theorem lw_ret {p : Program} {l : Launch} {e : Env} {s : State} {m : MethodId} {below : List Frame} {meth : Method} {c : Code} {b : Nat} (hx : p.tables.exec = Jvm.exec) (hb : c.code = code) (hr : meth.sig.returnType = ret) (hlocks : meth.locks = false) {pc : Nat} {H : Heap} {ls : Array Slot} (hdg : decode code pc = .ok (.ireturn, 1)) : W p l e room_1 s m #[Value.ref b] below meth c H [] 600002 7302232 (lw_Z below #[Value.ref b] s) (F0 m pc ls [.int 1]) := by
  intro T hT X
  obtain ⟨fs, hret, hrun, hended, hW, hframe⟩ := X.leave (v := some (.int 1)) (hlocks := hlocks) (fun h => by rw [hr] at h; cases h)
  have hmeth' : T.vm.method? m = some meth := X.method'
  refine ⟨T.setFrames fs, ?_, .returned (some (.int 1)), hrun, hended, rfl, ⟨_, rfl⟩, hW, hframe⟩
  jvm_step X.here [X.here.top, hx, hb, hdg, hmeth', hr, ret, narrow_b1]
  (try refine ⟨rfl, ?_⟩); (try refine ⟨rfl, ?_⟩)
  first | (intro acts; rw [hret _ acts rfl rfl rfl]) | rw [hret _ _ rfl rfl rfl]
  exact Steps.refl _
theorem law_go {g : GG} {HB : Heap} {l : Launch} {M : Nat → Option MD} (hM : ∀ id d, M id = some d → MSnd g HB l M d) {P : List (Nat × FF)} (hP : ∀ call, SndC g HB l M call → ∀ x ∈ P, Snd g HB l call cL_law 7 yL_law.cls yL_law.name x.1 x.2)
    {A : List (Nat × Nat × Nat × Bool)} (hA : ∀ x ∈ A, cnd x.1 (gS g x.2.1) (nI x.2.2.1) = x.2.2.2) {pc : Nat} {Lo : LL} {st : List AV} {h : List AE} {k z : Nat} {o : List Bool} {cs : CSL}
    (hfin : fin A (run M NF P 15 592 (pc, Lo, st, h, k, z, o, cs)) = true)
    {p : Program} {e : Env} {s : State} {m : MethodId} {below : List Frame} {meth : Method} {c : Code} {b : Nat} (hC : Cx g HB p s m #[Value.ref b] meth c cL_law 7 yL_law.cls yL_law.name) (hg1 : g.1 = s.heap.size) (hr : meth.sig.returnType = ret) (hlocks : meth.locks = false)
    {H : Heap} {locs : List Loc} {ls : Array Slot} (hR : Rh g HB h H locs) (hl : lv_has ls 7 (cL g Lo)) :
    W p l e room_1 s m #[Value.ref b] below meth c H locs k z (lw_Z below #[Value.ref b] s) (F0 m pc ls (st.map (cV g))) ∧ (∀ q ∈ cs, cnd q.1 (gI g q.2.1) (gI g q.2.2.1) = q.2.2.2) ∧ k ≤ 600002 ∧ z ≤ 7302232 := by
  obtain ⟨L9, H9, k9, z9, o9, cs9, e9, hk9, hz9, hcs⟩ := fin_spec hfin
  have hs := run_ok hM NF P cL_law 7 yL_law.cls yL_law.name hP pc 15 592 Lo st h k z o cs 625 L9 [.inl 1] H9 k9 z9 o9 cs9 e9
  have hok : okc g cs9 := fun q hq => csM_ok hA (hcs q hq)
  refine ⟨?_, okc_suffix hs.1.1 hok, Nat.le_trans hs.1.2.1 hk9, Nat.le_trans hs.1.2.2 hz9⟩
  refine hs.2 hok p e room_1 s m _ below meth c _ H locs ls hC (Nat.le_refl 15) (Nat.le_refl 592) hk9 hz9 hR hl (fun H1 locs1 ls1 hR1 hl1 => ?_)
  refine va_forget (fun q hq => by rw [← hg1]; exact hR1.2.2.2 q hq) (W.widen hk9 hz9 ?_)
  exact lw_ret hC.1.1 hC.1.2.1 hr hlocks (by decide +kernel : decode code 625 = .ok (.ireturn, 1))
theorem plw_ok {g : GG} {HB : Heap} {l : Launch} {L0 k : Nat} {sc : Nat → AV} (hM : ∀ id d, MM id = some d → MSnd g HB l MM d) (hex : HB.size = g.1) (hL : g.2.1 91 = L0) (hsc : ∀ j, j < L0 → cV g (sc j) = .int (nI (g.2.1 (2000 + j)))) (hk : nI (g.2.1 2000) &&& 15 = nI k) :
    ∀ call, SndC g HB l MM call → ∀ x ∈ PLW L0 sc k, Snd g HB l call cL_law 7 yL_law.cls yL_law.name x.1 x.2 := by
  intro call hC x hx
  unfold PLW at hx
  rcases List.mem_append.mp hx with hx | hx
  · exact la_ok hex hL hsc hC x hx
  rcases List.mem_cons.mp hx with rfl | hx
  · exact lf_ok (p_and15 hk (by decide +kernel : decode cL_law 39 = .ok (.iand, 1)) rfl)
  rcases List.mem_cons.mp hx with rfl | hx
  · exact m_hlp (y := yL_add) (cy := cL_add) (idx := 44) (hh := [(0, 8, 11, 13)]) hM (fun _ hC => h_add_ok hC) (by decide +kernel) (by decide +kernel : decode cL_add 15 = .ok (.ireturn, 1)) (tin 3 76 (by decide +kernel) rfl) ⟨by decide +kernel, by decide +kernel, by decide +kernel⟩ rfl (tin 3 74 (by decide +kernel) rfl) (tin 3 75 (by decide +kernel) rfl) (tin 1 0 (by decide +kernel) rfl) (by decide +kernel : decode cL_law 206 = .ok (.invokestatic 44, 3)) rfl
  rcases List.mem_cons.mp hx with rfl | hx
  · exact m_hlp (y := yL_search) (cy := cL_search) (idx := 61) (hh := [(0, 8, 11, 25)]) hM (fun _ hC => h_search_ok hC) (by decide +kernel) (by decide +kernel : decode cL_search 15 = .ok (.ireturn, 1)) (tin 5 237 (by decide +kernel) rfl) ⟨by decide +kernel, by decide +kernel, by decide +kernel⟩ rfl (tin 5 235 (by decide +kernel) rfl) (tin 5 236 (by decide +kernel) rfl) (tin 1 0 (by decide +kernel) rfl) (by decide +kernel : decode cL_law 377 = .ok (.invokestatic 61, 3)) rfl
  · exact lb_ok hL hsc hC x hx
theorem remT_spec {A : List (Nat × Nat × Nat × Bool)} {c1 : Option Cfg} {pcL np ml : Nat} {PH : List (Nat × FF)} {pcC npx mlx : Nat} {PX : List (Nat × FF)} {pcT : Nat} (h : remT A c1 pcL np ml PH pcC npx mlx PX pcT = true) :
    ∃ (L1 : LL) (st1 : List AV) (h1 : List AE) (k1 z1 : Nat) (o1 : List Bool) (cs1 : CSL) (as1 r1 : List AV) (L2 : LL) (st2 : List AV) (h2 : List AE) (k2 z2 : Nat) (o2 : List Bool) (cs2 : CSL) (as2 : List AV) (q : Nat) (r3 fs : List AV) (L3 : LL) (h3 : List AE) (k3 z3 : Nat) (o3 : List Bool) (cs3 : CSL),
      c1 = some (pcL, L1, st1, h1, k1, z1, o1, cs1) ∧ popN np st1 [] = some (as1, r1) ∧ run MM NF PH 14 (573 - ml) (0, argsA 0 as1, [], h1, 0, 0, o1, cs1) = some (pcC, L2, st2, h2, k2, z2, o2, cs2) ∧ popN npx st2 [] = some (as2, .inr (.inr (.ref q)) :: r3) ∧ h2[q]? = some (.inr (9, fs)) ∧
      run MM NF PX 13 (554 - ml - mlx) (0, argsA 0 (.inr (.inr (.ref q)) :: as2), [], h2, 0, 0, o2, cs2) = some (pcT, L3, [], h3, k3, z3, o3, cs3) ∧ slen r1 ≤ 8 ∧ slen as1 ≤ ml ∧ slen r3 ≤ 8 ∧ slen (.inr (.inr (.ref q)) :: as2) ≤ mlx ∧ h2.length ≤ h3.length ∧
      fin A (run MM2 NF (PLC 6 scS) 15 592 (pcL + 3, L1, .inl 1 :: r1, h3, k1 + (k2 + (k3 + 1)), z1 + (z2 + (z3 + 6)), o3, cs3)) = true := by
  cases c1 with
  | none => cases h
  | some x =>
    obtain ⟨p1, L1, st1, h1, k1, z1, o1, cs1⟩ := x
    simp only [remT] at h
    cases e1 : popN np st1 [] with
    | none => rw [e1] at h; cases h
    | some x =>
      obtain ⟨as1, r1⟩ := x
      rw [e1] at h
      simp only at h
      cases e2 : run MM NF PH 14 (573 - ml) (0, argsA 0 as1, [], h1, 0, 0, o1, cs1) with
      | none => rw [e2] at h; cases h
      | some x =>
        obtain ⟨p2, L2, st2, h2, k2, z2, o2, cs2⟩ := x
        rw [e2] at h
        simp only at h
        cases e3 : popN npx st2 [] with
        | none => rw [e3] at h; cases h
        | some x =>
          obtain ⟨as2, r2⟩ := x
          rw [e3] at h
          rcases r2 with _ | ⟨a, r3⟩
          · cases h
          simp only at h
          cases e4 : rOf a with
          | none => rw [e4] at h; cases h
          | some q =>
            rw [e4] at h
            have ea := rOf_eq e4
            subst ea
            simp only at h
            cases e5 : h2[q]? with
            | none => rw [e5] at h; cases h
            | some ce =>
              rw [e5] at h
              rcases ce with ce | ⟨ci, fs⟩
              · cases h
              simp only at h
              cases e6 : run MM NF PX 13 (554 - ml - mlx) (0, argsA 0 (.inr (.inr (.ref q)) :: as2), [], h2, 0, 0, o2, cs2) with
              | none => rw [e6] at h; cases h
              | some x =>
                obtain ⟨p3, L3, st3, h3, k3, z3, o3, cs3⟩ := x
                rw [e6] at h
                simp only [Bool.and_eq_true] at h
                obtain ⟨w1, w2, w3, w4, w5, w6, w7, w8, w9, w10, w11⟩ := h
                have f1 := Nat.eq_of_beq_eq_true w1
                have f2 := Nat.eq_of_beq_eq_true w2
                have f5 := Nat.eq_of_beq_eq_true w5
                have f8 := Nat.eq_of_beq_eq_true w8
                subst f1 f2 f5 f8
                rcases st3 with _ | ⟨a3, t3⟩
                · exact ⟨L1, st1, h1, k1, z1, o1, cs1, as1, r1, L2, st2, h2, k2, z2, o2, cs2, as2, q, r3, fs, L3, h3, k3, z3, o3, cs3, rfl, e1, e2, e3, e5, e6, Nat.ble_eq.mp w3, Nat.ble_eq.mp w4, Nat.ble_eq.mp w6, Nat.ble_eq.mp w7, Nat.ble_eq.mp w10, w11⟩
                · cases w9
/-- the law, where a helper catches what the class throws -/
theorem rem_ok {g : GG} {HB : Heap} {l : Launch} {sa : Nat} (hst0 : l.stackTraces = false) (hbs : HB.size = g.1) (hM : ∀ id d, MM id = some d → MSnd g HB l MM d) (hM2 : ∀ id d, MM2 id = some d → MSnd g (HB.push junk) l MM2 d)
    {PL : List (Nat × FF)} (hPL : ∀ call, SndC g HB l MM call → ∀ x ∈ PL, Snd g HB l call cL_law 7 yL_law.cls yL_law.name x.1 x.2) (hPC : ∀ call, SndC g (HB.push junk) l MM2 call → ∀ x ∈ PLC 6 scS, Snd g (HB.push junk) l call cL_law 7 yL_law.cls yL_law.name x.1 x.2)
    {A : List (Nat × Nat × Nat × Bool)} (hA : ∀ x ∈ A, cnd x.1 (gS g x.2.1) (nI x.2.2.1) = x.2.2.2)
    {y : MethodName} {cy : ByteArray} {ml pcC np pcL idx0 : Nat} {hh : List (Nat × Nat × Nat × Nat)} {PH : List (Nat × FF)} (hPH : ∀ call, SndC g HB l MM call → ∀ x ∈ PH, Snd g HB l call cy ml y.cls y.name x.1 x.2) (hown : y.cls = "MailArchiveLaw") (hy : plainName y.cls = true)
    (hcw : Cond.codeWith y cy ml (some .int) hh ∈ wsG) (hn0 : y.cls ≠ "java/lang/invoke/MethodHandle" ∧ y.cls ≠ "java/lang/invoke/VarHandle" ∧ (parseMethodDescriptor y.desc).map (fun d => d.parameters.length) = some np)
    (g1 : Cond.methodLink "MailArchiveLaw" idx0 y ∈ wsG) (g2 : Cond.static y ∈ wsG) (g3 : Cond.initialized y.cls ∈ wsG) (hd0 : decode cL_law pcL = .ok (.invokestatic idx0, 3))
    {x0 : ExceptionTableEntry} {suf : List ExceptionTableEntry} (htab : tableOf hh = x0 :: suf) (hcov : covers x0 pcC = true) (h0 : x0.catchType ≠ 0) (hlk : Cond.classLink "MailArchiveLaw" x0.catchType IOOBE ∈ wsG)
    {pcR : Nat} (hde : decode cy pcR = .ok (.ireturn, 1)) (hH : ∀ (p : Program) (e : Env) (R : Room) (s : State) (m : MethodId) (args : Array Value) (below : List Frame) (meth : Method) (c : Code) (H : Heap) (locs : List Loc) (cells slots : Nat) (Q : State → Prop) (ls : Array Slot) (lv : List (Nat × Value)) (q : Nat), p.tables.exec = Jvm.exec → c.code = cy → lv_has ls ml lv →
      (∀ ls' : Array Slot, W p l e R s m args below meth c H locs cells slots Q (F0 m pcR ls' [.int (nI 1)])) → W p l e R s m args below meth c H locs cells slots Q (F0 m x0.handlerPc ls [.ref q]))
    {yx : MethodName} {cx : ByteArray} {mlx idx npx pcT : Nat} {retx : Option FieldType} {PX : List (Nat × FF)} (hPX : ∀ call, SndC g HB l MM call → ∀ x ∈ PX, Snd g HB l call cx mlx yx.cls yx.name x.1 x.2) (hyx : plainName yx.cls = true) (hdx : Cond.code yx cx mlx retx ∈ wsG) (hclx : yx.cls = "MailArchive") (hnx : yx.cls ≠ "java/lang/invoke/MethodHandle" ∧ yx.cls ≠ "java/lang/invoke/VarHandle" ∧ (parseMethodDescriptor yx.desc).map (fun d => d.parameters.length) = some npx)
    (h1 : Cond.methodLink "MailArchiveLaw" idx yx ∈ wsG) (h2 : Cond.instanceMethod yx ∈ wsG) (h3 : Cond.selects "MailArchive" yx yx ∈ wsG) (h4 : Cond.initialized "MailArchive" ∈ wsG) (hd : decode cy pcC = .ok (.invokevirtual idx, 3))
    (d0 : decode cx pcT = .ok (.new 123, 3)) (d3 : decode cx (pcT + 3) = .ok (.dup, 1)) (d4 : decode cx (pcT + 4) = .ok (.ldc 125, 2)) (d6 : decode cx (pcT + 6) = .ok (.invokespecial 127, 3)) (d9 : decode cx (pcT + 9) = .ok (.athrow, 1))
    (hml : ml ≤ 20) (hmlx : mlx ≤ 20) {o : List Bool} (hT : remT A (run MM NF PL 15 592 (lawC o)) pcL np ml PH pcC npx mlx PX pcT = true)
    {p : Program} {e : Env} {s : State} {m : MethodId} {below : List Frame} {meth : Method} {c : Code} {b : Nat} (hC : Cx g HB p s m #[Value.ref b] meth c cL_law 7 yL_law.cls yL_law.name) (hTX : TX g HB sa s) (hg1 : g.1 = s.heap.size) (hr : meth.sig.returnType = ret) (hlocks : meth.locks = false)
    {H : Heap} {ls : Array Slot} (hR : Rh g HB [] H []) (hl : lv_has ls 7 (cL g [(0, .inr (.inr (.float 90)))])) :
    W p l e room_1 s m #[Value.ref b] below meth c H [] 0 0 (lw_Z below #[Value.ref b] s) (F0 m 0 ls []) := by
  obtain ⟨L1, st1, h1', k1, z1, o1, cs1, as1, r1, L2, st2, h2', k2, z2, o2, cs2, as2, q, r3, fs, L3, h3', k3, z3, o3, cs3, e1, e2, e3, e4, e5, e6, w1, w2, w3, w4, w5, hfin⟩ := remT_spec hT
  have s1 := run_ok hM NF PL cL_law 7 yL_law.cls yL_law.name hPL 0 15 592 _ [] [] 0 0 o [] pcL L1 st1 h1' k1 z1 o1 cs1 e1
  have s2 := run_ok hM NF PH cy ml y.cls y.name hPH 0 14 (573 - ml) (argsA 0 as1) [] h1' 0 0 o1 cs1 pcC L2 st2 h2' k2 z2 o2 cs2 e3
  have s3 := run_ok hM NF PX cx mlx yx.cls yx.name hPX 0 13 (554 - ml - mlx) _ [] h2' 0 0 o2 cs2 pcT L3 [] h3' k3 z3 o3 cs3 e6
  obtain ⟨L9, H9, k9, z9, o9, cs9, e9, hk9, hz9, hcs⟩ := fin_spec hfin
  have s4 := run_ok hM2 NF (PLC 6 scS) cL_law 7 yL_law.cls yL_law.name hPC (pcL + 3) 15 592 L1 _ h3' _ _ o3 cs3 625 L9 [.inl 1] H9 k9 z9 o9 cs9 e9
  have hok9 : okc g cs9 := fun q hq => csM_ok hA (hcs q hq)
  have hok3 := okc_suffix s4.1.1 hok9
  have hok2 := okc_suffix s3.1.1 hok3
  have hok1 := okc_suffix s2.1.1 hok2
  have hkz := s4.1.2
  have hK1 : k1 + (k2 + (k3 + 1)) ≤ 600002 := Nat.le_trans hkz.1 hk9
  have hZ1 : z1 + (z2 + (z3 + 6)) ≤ 7302232 := Nat.le_trans hkz.2 hz9
  refine s1.2 hok1 p e room_1 s m _ below meth c _ H [] ls hC (Nat.le_refl 15) (Nat.le_refl 592) (by show k1 ≤ 600002; omega) (by show z1 ≤ 7302232; omega) hR hl (fun H1 locs1 ls1 hR1 hl1 => ?_)
  have hmx := xthrow (sa := sa) (ret := retx) hst0 hbs hM hPX hclx hyx d0 d3 d4 d6 d9 e6 w4 w5 hok3 (by omega) (by omega)
  have hmh := hthrow (sa := sa) (hh := hh) (w := mlx + 19) (fr := 13) (lo := 573 - ml) hM hPH hown hy htab hcov h0 hlk hde hH hdx hclx hnx h1 h2 h3 h4 hd e3 w2 hok2 e4 w3 e5 rfl (by omega) (by rw [show 573 - ml - (mlx + 19) = 554 - ml - mlx by omega]; exact hmx)
  obtain ⟨⟨hx, hb, hml7, hownL, hts⟩, hKA, hnm⟩ := hC
  obtain ⟨hst, hln⟩ := popN_st (g := g) e2
  have hG : GoodIn wsG (va_wsS "MailArchiveLaw" idx0 y (.codeWith y cy ml (some .int) hh :: wsG)) := fun w hw => by
    unfold va_wsS at hw
    rcases List.mem_append.mp hw with hw | hw
    · simp only [List.mem_cons, List.not_mem_nil, or_false] at hw
      rcases hw with rfl | rfl | rfl
      · exact wsG_good _ g1
      · exact wsG_good _ g2
      · exact wsG_good _ g3
    · rcases List.mem_cons.mp hw with rfl | hw
      · exact wsG_good _ hcw
      · exact wsG_good _ hw
  have cw := vx_cwSW (R := room_1) (mc := k2 + (k3 + 1)) (ms := z2 + (z3 + 6)) (maxL := ml) (ret := some .int) (bytes := cy) (hh := hh) (ws' := wsG) (rm := { frames := 14, cells := k2 + (k3 + 1), slots := z2 + (z3 + 6), locals := 573 - ml }) np hts hG rfl rfl rfl hn0 ⟨Nat.le_refl 15, by show 8 + (ml + 11) + (573 - ml) ≤ 592; omega⟩
  have hpre : ∀ U : State, U.heap = H1 → s.WarmedH U.vm → PT g HB sa as1 h1' (as1.map (cV g)).toArray U := fun U hU hW => ⟨pre_of (p := p) hKA hR1 U hU hW, hTX.warm hW⟩
  refine sim_call (HB := HB.push junk) (rv := some (.inl 1)) (h' := h3') (mc := k2 + (k3 + 1)) (ms := z2 + (z3 + 6)) (vx_runSW (g := F0 m pcL ls1 (st1.map (cV g))) (As := as1.map (cV g)) (rest := r1.map (cV g)) ⟨hx, hb, hml7, hownL, hts⟩ hmh cw ⟨PT.blind _ _ _ _ _, hpre⟩ rfl hln hl1.1 hst (room8 g w1) hd0 ⟨hK1, hZ1⟩) hR1.2.2.2 fun H2 locs2 hR2 => ?_
  have hC' : Cx g (HB.push junk) p s m #[Value.ref b] meth c cL_law 7 yL_law.cls yL_law.name := ⟨⟨hx, hb, hml7, hownL, hts⟩, hKA.push, hnm⟩
  exact (law_go (l := l) (e := e) (below := below) hM2 hPC hA hfin hC' hg1 hr hlocks hR2 hl1).1
