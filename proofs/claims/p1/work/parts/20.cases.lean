/-! From every script the law comes to its end: which run it is, by the script's first three ints. -/
theorem and15 (w : Int32) : ∃ k, k < 16 ∧ w &&& 15 = nI k := by
  refine ⟨toN (w &&& 15), ?_, (nI_toN _).symm⟩
  show (w.toBitVec &&& (15 : Int32).toBitVec).toNat < 16
  rw [BitVec.toNat_and]
  exact Nat.lt_of_le_of_lt Nat.and_le_right (by decide)
theorem between {x : Int32} {n : Nat} (hn : (nI n).toInt = (n : Int)) (h0 : ¬ x < nI 0) (h1 : ¬ nI n < x) : ∃ j, j ≤ n ∧ x = nI j := by
  refine ⟨toN x, ?_, (nI_toN x).symm⟩
  rw [Int32.lt_iff_toInt_lt] at h0 h1
  rw [hn] at h1
  have e0 : (nI 0).toInt = 0 := by decide
  rw [e0] at h0
  have e : x.toInt = x.toBitVec.toInt := rfl
  have h2 := BitVec.toInt_eq_toNat_cond x.toBitVec
  have h3 := x.toBitVec.isLt
  show x.toBitVec.toNat ≤ n
  rw [e] at h0 h1
  rw [h2] at h0 h1
  split at h0 <;> split at h1 <;> omega
theorem scS_ok (g : GG) : ∀ j, j < 6 → cV g (scS j) = .int (nI (g.2.1 (2000 + j))) := by
  intro j hj
  rcases (show j = 0 ∨ j = 1 ∨ j = 2 ∨ j = 3 ∨ j = 4 ∨ j = 5 by omega) with rfl | rfl | rfl | rfl | rfl | rfl <;> rfl
theorem scK_ok {g : GG} {k : Nat} (h : nI (g.2.1 2001) = nI k) : ∀ j, j < 6 → cV g (scK k j) = .int (nI (g.2.1 (2000 + j))) := by
  intro j hj
  rcases (show j = 0 ∨ j = 1 ∨ j = 2 ∨ j = 3 ∨ j = 4 ∨ j = 5 by omega) with rfl | rfl | rfl | rfl | rfl | rfl
  · rfl
  · exact congrArg Value.int h.symm
  · rfl
  · rfl
  · rfl
  · rfl
def AOK (g : GG) (A : List (Nat × Nat × Nat × Bool)) : Prop := ∀ x ∈ A, cnd x.1 (gS g x.2.1) (nI x.2.2.1) = x.2.2.2
theorem AOK.nil {g : GG} : AOK g [] := fun _ h => nomatch h
theorem AOK.cons {g : GG} {x : Nat × Nat × Nat × Bool} {A : List (Nat × Nat × Nat × Bool)} (h : cnd x.1 (gS g x.2.1) (nI x.2.2.1) = x.2.2.2) (t : AOK g A) : AOK g (x :: A) := List.forall_mem_cons.mpr ⟨h, t⟩
theorem a_lt {g : GG} (h : nI (g.2.1 2001) < nI 0) : cnd 2 (gS g 1) (nI 0) = true := decide_eq_true h
theorem a_nlt {g : GG} (h : ¬ nI (g.2.1 2001) < nI 0) : cnd 2 (gS g 1) (nI 0) = false := decide_eq_false h
theorem a_ge {g : GG} (h : ¬ nI (g.2.1 2001) < nI 0) : cnd 3 (gS g 1) (nI 0) = true := decide_eq_true (Int32.not_lt.mp h)
theorem a_gt {g : GG} {n : Nat} (h : nI n < nI (g.2.1 2001)) : cnd 4 (gS g 1) (nI n) = true := decide_eq_true h
theorem a_eq {g : GG} (h : nI (g.2.1 2002) = nI 0) : cnd 0 (gS g 2) (nI 0) = true := decide_eq_true h
theorem a_ne {g : GG} (h : ¬ nI (g.2.1 2002) = nI 0) : cnd 0 (gS g 2) (nI 0) = false := decide_eq_false h
theorem a_out {g : GG} (h : nI (g.2.1 2001) < nI 0 ∨ nI 5 < nI (g.2.1 2001)) : cnd 6 (gS g 1) (nI 5) = true := by
  show (decide ((nI (g.2.1 2001)).toInt < 0) || decide ((nI 5).toInt < (nI (g.2.1 2001)).toInt)) = true
  rw [Bool.or_eq_true, decide_eq_true_eq, decide_eq_true_eq]
  rcases h with h | h
  · exact Or.inl (by rw [Int32.lt_iff_toInt_lt] at h; exact h)
  · exact Or.inr (by rw [Int32.lt_iff_toInt_lt] at h; exact h)
theorem start_lv {g : GG} {b : Nat} (h90 : g.2.1 90 = b) : cL g [(0, .inr (.inr (.float 90)))] = lv_args 0 [Value.ref b] := by
  show [(0, Value.ref (g.2.1 90))] = [(0, Value.ref b)]
  rw [h90]
theorem whole_start {p : Program} {e : Env} {s : State} {m : MethodId} {below : List Frame} {meth : Method} {c : Code} (l : Launch) {b L : Nat} {xs : Nat → Int32} (hL : L ≤ 6) (C0 : lw_At l p s m meth c b L xs) : W p l e room_1 s m #[Value.ref b] below meth c s.heap [] 0 0 (lw_Z below #[Value.ref b] s) (entryFrame m ([Value.ref b] : List Value).toArray 7) := by
  obtain ⟨g, sa, hg1, hKA, hTX, h90, h91, h2k⟩ := whole_g hL C0
  obtain ⟨hx, hb, hr, hml, hown, hts, hX, hbl, hlocks, hgv, hnm, hst0⟩ := C0
  have hM : ∀ id d, MM id = some d → MSnd g s.heap l MM d := fun id d h => all_ok hg1.symm id d h
  have hM2 : ∀ id d, MM2 id = some d → MSnd g (s.heap.push junk) l MM2 d := fun id d h => all2_ok id d h
  have htg : ∀ w ∈ wsG, w.before #[Value.ref b] s = true := fun w hw => hts w (List.mem_filter.mp hw).1
  have hC : Cx g s.heap p s m #[Value.ref b] meth c cL_law 7 yL_law.cls yL_law.name := ⟨⟨hx, hb, hml, hown, htg⟩, hKA, hnm⟩
  have hR : Rh g s.heap [] s.heap [] := ⟨⟨Nat.le_of_eq hg1, fun _ => hg1.symm⟩, fun q _ => rfl, (fun k q hq => by cases hq), (fun q hq => by cases hq)⟩
  rw [lg_entry_eq]
  have hl := lv_entry [Value.ref b] (n := 7) (by show (1 : Nat) ≤ 7; decide)
  generalize (lg_sl [Value.ref b] ++ List.replicate (7 - (lg_sl [Value.ref b]).length) Slot.unset).toArray = ls at hl ⊢
  rw [← start_lv h90] at hl
  by_cases hL6 : L < 6
  · rcases (show L = 0 ∨ L = 1 ∨ L = 2 ∨ L = 3 ∨ L = 4 ∨ L = 5 by omega) with rfl | rfl | rfl | rfl | rfl | rfl
    · exact (law_go hM (fun call hC => la_ok hg1.symm h91 (fun j hj => scS_ok g j (by omega)) hC) AOK.nil f_s0 hC hg1 hr hlocks hR hl).1
    · exact (law_go hM (fun call hC => la_ok hg1.symm h91 (fun j hj => scS_ok g j (by omega)) hC) AOK.nil f_s1 hC hg1 hr hlocks hR hl).1
    · exact (law_go hM (fun call hC => la_ok hg1.symm h91 (fun j hj => scS_ok g j (by omega)) hC) AOK.nil f_s2 hC hg1 hr hlocks hR hl).1
    · exact (law_go hM (fun call hC => la_ok hg1.symm h91 (fun j hj => scS_ok g j (by omega)) hC) AOK.nil f_s3 hC hg1 hr hlocks hR hl).1
    · exact (law_go hM (fun call hC => la_ok hg1.symm h91 (fun j hj => scS_ok g j (by omega)) hC) AOK.nil f_s4 hC hg1 hr hlocks hR hl).1
    · exact (law_go hM (fun call hC => la_ok hg1.symm h91 (fun j hj => scS_ok g j (by omega)) hC) AOK.nil f_s5 hC hg1 hr hlocks hR hl).1
  have e6 : L = 6 := by omega
  subst e6
  obtain ⟨k, hk, hkk⟩ := and15 (nI (g.2.1 2000))
  have go : ∀ (sc : Nat → AV), (∀ j, j < 6 → cV g (sc j) = .int (nI (g.2.1 (2000 + j)))) → ∀ (A : List (Nat × Nat × Nat × Bool)), AOK g A → ∀ o : List Bool, fin A (run MM NF (PLW 6 sc k) 15 592 (lawC o)) = true →
      W p l e room_1 s m #[Value.ref b] below meth c s.heap [] 0 0 (lw_Z below #[Value.ref b] s) (F0 m 0 ls []) := fun sc hsc A hA o hf => (law_go hM (plw_ok hM hg1.symm h91 hsc hkk) hA hf hC hg1 hr hlocks hR hl).1
  have hPL := plw_ok (sc := scS) hM hg1.symm h91 (scS_ok g) hkk
  have hPC : ∀ call, SndC g (s.heap.push junk) l MM2 call → ∀ x ∈ PLC 6 scS, Snd g (s.heap.push junk) l call cL_law 7 yL_law.cls yL_law.name x.1 x.2 := fun call hC => z_ok h91 (scS_ok g) hC
  have goR : ∀ A : List (Nat × Nat × Nat × Bool), AOK g A → ∀ o : List Bool, remT A (run MM NF (PLW 6 scS k) 15 592 (lawC o)) 255 2 3 PH_remove 2 1 3 P_71 21 = true →
      W p l e room_1 s m #[Value.ref b] below meth c s.heap [] 0 0 (lw_Z below #[Value.ref b] s) (F0 m 0 ls []) := fun A hA o hf =>
    rem_ok (y := yL_remove) (cy := cL_remove) (hh := [(0, 5, 8, 19)]) (x0 := ⟨0, 5, 8, 19⟩) (suf := []) (pcR := 10) (idx0 := 53) (yx := yX11_remove) (cx := cX11_remove) (retx := none) (idx := 15) hst0 hg1.symm hM hM2 hPL hPC hA (fun _ hC => h_remove_ok hC) rfl (by decide +kernel)
      (tin 5 146 (by decide +kernel) rfl) ⟨by decide +kernel, by decide +kernel, by decide +kernel⟩ (tin 5 144 (by decide +kernel) rfl) (tin 5 145 (by decide +kernel) rfl) (tin 1 0 (by decide +kernel) rfl) (by decide +kernel) rfl (by decide +kernel) (by decide) (tin 5 147 (by decide +kernel) rfl)
      (by decide +kernel) (fun p e R s m args below meth c H locs cells slots Q ls lv q hx hb hl kk => lv_astore_n hx hb (i := 2) (by decide +kernel : decode cL_remove 8 = .ok (.astore_n 2, 1)) rfl hl (by decide) rfl (fun ls' _ => lv_iconst hx hb (by decide +kernel : decode cL_remove 9 = .ok (.iconst 1, 1)) rfl (kk ls')))
      (fun _ hC => ok_71 hg1.symm hC) (by decide +kernel) (tin 5 151 (by decide +kernel) rfl) rfl ⟨by decide +kernel, by decide +kernel, by decide +kernel⟩ (tin 5 148 (by decide +kernel) rfl) (tin 5 149 (by decide +kernel) rfl) (tin 5 150 (by decide +kernel) rfl) (tin 1 1 (by decide +kernel) rfl) (by decide +kernel)
      (by decide +kernel) (by decide +kernel) (by decide +kernel) (by decide +kernel) (by decide +kernel) (by decide) (by decide) hf hC hTX hg1 hr hlocks hR hl
  have goT : ∀ A : List (Nat × Nat × Nat × Bool), AOK g A → ∀ o : List Bool, remT A (run MM NF (PLW 6 scS k) 15 592 (lawC o)) 306 4 5 PH_tag 5 2 6 P_73 25 = true →
      W p l e room_1 s m #[Value.ref b] below meth c s.heap [] 0 0 (lw_Z below #[Value.ref b] s) (F0 m 0 ls []) := fun A hA o hf =>
    rem_ok (y := yL_tag) (cy := cL_tag) (hh := [(0, 17, 20, 19), (0, 17, 24, 25), (0, 17, 28, 13)]) (x0 := ⟨0, 17, 20, 19⟩) (suf := [⟨0, 17, 24, 25⟩, ⟨0, 17, 28, 13⟩]) (pcR := 23) (idx0 := 57) (yx := yX11_tag) (cx := cX11_tag) (retx := some .boolean) (idx := 21) hst0 hg1.symm hM hM2 hPL hPC hA (fun _ hC => h_tag_ok hC) rfl (by decide +kernel)
      (tin 5 179 (by decide +kernel) rfl) ⟨by decide +kernel, by decide +kernel, by decide +kernel⟩ (tin 5 177 (by decide +kernel) rfl) (tin 5 178 (by decide +kernel) rfl) (tin 1 0 (by decide +kernel) rfl) (by decide +kernel) rfl (by decide +kernel) (by decide) (tin 5 147 (by decide +kernel) rfl)
      (by decide +kernel) (fun p e R s m args below meth c H locs cells slots Q ls lv q hx hb hl kk => lv_astore hx hb (i := 4) (by decide +kernel : decode cL_tag 20 = .ok (.astore 4, 2)) hl (by decide) rfl (fun ls' _ => lv_iconst hx hb (by decide +kernel : decode cL_tag 22 = .ok (.iconst 1, 1)) rfl (kk ls')))
      (fun _ hC => ok_73 hg1.symm hC) (by decide +kernel) (tin 5 184 (by decide +kernel) rfl) rfl ⟨by decide +kernel, by decide +kernel, by decide +kernel⟩ (tin 5 181 (by decide +kernel) rfl) (tin 5 182 (by decide +kernel) rfl) (tin 5 183 (by decide +kernel) rfl) (tin 1 1 (by decide +kernel) rfl) (by decide +kernel)
      (by decide +kernel) (by decide +kernel) (by decide +kernel) (by decide +kernel) (by decide +kernel) (by decide) (by decide) hf hC hTX hg1 hr hlocks hR hl
  clear hPL
  by_cases h0 : nI (g.2.1 2001) < nI 0
  · rcases (show k = 0 ∨ k = 1 ∨ k = 2 ∨ k = 3 ∨ k = 4 ∨ k = 5 ∨ k = 6 ∨ k = 7 ∨ k = 8 ∨ k = 9 ∨ k = 10 ∨ k = 11 ∨ k = 12 ∨ k = 13 ∨ k = 14 ∨ k = 15 by omega) with rfl | rfl | rfl | rfl | rfl | rfl | rfl | rfl | rfl | rfl | rfl | rfl | rfl | rfl | rfl | rfl
    · exact go scS (scS_ok g) _ AOK.nil _ f_0
    · exact go scS (scS_ok g) _ (AOK.cons (a_lt h0) AOK.nil) _ f_1_lt
    · exact go scS (scS_ok g) _ AOK.nil _ f_2
    · exact goR _ (AOK.cons (a_lt h0) AOK.nil) _ r_lt
    · by_cases hz : nI (g.2.1 2002) = nI 0
      · exact goT _ (AOK.cons (a_eq hz) (AOK.cons (a_lt h0) AOK.nil)) _ t_z_lt
      · exact goT _ (AOK.cons (a_ne hz) (AOK.cons (a_lt h0) AOK.nil)) _ t_n_lt
    · exact go scS (scS_ok g) _ AOK.nil _ f_5
    · exact go scS (scS_ok g) _ AOK.nil _ f_6
    · exact go scS (scS_ok g) _ (AOK.cons (a_lt h0) AOK.nil) _ f_7_lt
    · exact go scS (scS_ok g) _ AOK.nil _ f_8
    · exact go scS (scS_ok g) _ (AOK.cons (a_lt h0) AOK.nil) _ f_9_lt
    · exact go scS (scS_ok g) _ (AOK.cons (a_lt h0) AOK.nil) _ f_10_lt
    · exact go scS (scS_ok g) _ (AOK.cons (a_lt h0) AOK.nil) _ f_11_lt
    · exact go scS (scS_ok g) _ (AOK.cons (a_out (Or.inl h0)) AOK.nil) _ f_12_out
    · exact go scS (scS_ok g) _ AOK.nil _ f_13
    · exact go scS (scS_ok g) _ AOK.nil _ f_14
    · exact go scS (scS_ok g) _ AOK.nil _ f_15
  · rcases (show k = 0 ∨ k = 1 ∨ k = 2 ∨ k = 3 ∨ k = 4 ∨ k = 5 ∨ k = 6 ∨ k = 7 ∨ k = 8 ∨ k = 9 ∨ k = 10 ∨ k = 11 ∨ k = 12 ∨ k = 13 ∨ k = 14 ∨ k = 15 by omega) with rfl | rfl | rfl | rfl | rfl | rfl | rfl | rfl | rfl | rfl | rfl | rfl | rfl | rfl | rfl | rfl
    · exact go scS (scS_ok g) _ AOK.nil _ f_0
    · by_cases h1 : nI 20 < nI (g.2.1 2001)
      · exact go scS (scS_ok g) _ (AOK.cons (a_nlt h0) (AOK.cons (a_gt h1) AOK.nil)) _ f_1_gt
      obtain ⟨j, hj, hje⟩ := between (by decide) h0 h1
      rcases (show j = 0 ∨ j = 1 ∨ j = 2 ∨ j = 3 ∨ j = 4 ∨ j = 5 ∨ j = 6 ∨ j = 7 ∨ j = 8 ∨ j = 9 ∨ j = 10 ∨ j = 11 ∨ j = 12 ∨ j = 13 ∨ j = 14 ∨ j = 15 ∨ j = 16 ∨ j = 17 ∨ j = 18 ∨ j = 19 ∨ j = 20 by omega) with rfl | rfl | rfl | rfl | rfl | rfl | rfl | rfl | rfl | rfl | rfl | rfl | rfl | rfl | rfl | rfl | rfl | rfl | rfl | rfl | rfl
      · exact go (scK 0) (scK_ok hje) _ AOK.nil _ f_1_0
      · exact go (scK 1) (scK_ok hje) _ AOK.nil _ f_1_1
      · exact go (scK 2) (scK_ok hje) _ AOK.nil _ f_1_2
      · exact go (scK 3) (scK_ok hje) _ AOK.nil _ f_1_3
      · exact go (scK 4) (scK_ok hje) _ AOK.nil _ f_1_4
      · exact go (scK 5) (scK_ok hje) _ AOK.nil _ f_1_5
      · exact go (scK 6) (scK_ok hje) _ AOK.nil _ f_1_6
      · exact go (scK 7) (scK_ok hje) _ AOK.nil _ f_1_7
      · exact go (scK 8) (scK_ok hje) _ AOK.nil _ f_1_8
      · exact go (scK 9) (scK_ok hje) _ AOK.nil _ f_1_9
      · exact go (scK 10) (scK_ok hje) _ AOK.nil _ f_1_10
      · exact go (scK 11) (scK_ok hje) _ AOK.nil _ f_1_11
      · exact go (scK 12) (scK_ok hje) _ AOK.nil _ f_1_12
      · exact go (scK 13) (scK_ok hje) _ AOK.nil _ f_1_13
      · exact go (scK 14) (scK_ok hje) _ AOK.nil _ f_1_14
      · exact go (scK 15) (scK_ok hje) _ AOK.nil _ f_1_15
      · exact go (scK 16) (scK_ok hje) _ AOK.nil _ f_1_16
      · exact go (scK 17) (scK_ok hje) _ AOK.nil _ f_1_17
      · exact go (scK 18) (scK_ok hje) _ AOK.nil _ f_1_18
      · exact go (scK 19) (scK_ok hje) _ AOK.nil _ f_1_19
      · exact go (scK 20) (scK_ok hje) _ AOK.nil _ f_1_20
    · exact go scS (scS_ok g) _ AOK.nil _ f_2
    · exact goR _ (AOK.cons (a_ge h0) (AOK.cons (a_nlt h0) AOK.nil)) _ r_ge
    · by_cases hz : nI (g.2.1 2002) = nI 0
      · exact goT _ (AOK.cons (a_eq hz) (AOK.cons (a_ge h0) (AOK.cons (a_nlt h0) AOK.nil))) _ t_z_ge
      · exact goT _ (AOK.cons (a_ne hz) (AOK.cons (a_ge h0) (AOK.cons (a_nlt h0) AOK.nil))) _ t_n_ge
    · exact go scS (scS_ok g) _ AOK.nil _ f_5
    · exact go scS (scS_ok g) _ AOK.nil _ f_6
    · exact go scS (scS_ok g) _ (AOK.cons (a_ge h0) (AOK.cons (a_nlt h0) AOK.nil)) _ f_7_ge
    · exact go scS (scS_ok g) _ AOK.nil _ f_8
    · exact go scS (scS_ok g) _ (AOK.cons (a_ge h0) (AOK.cons (a_nlt h0) AOK.nil)) _ f_9_ge
    · exact go scS (scS_ok g) _ (AOK.cons (a_ge h0) (AOK.cons (a_nlt h0) AOK.nil)) _ f_10_ge
    · exact go scS (scS_ok g) _ (AOK.cons (a_ge h0) (AOK.cons (a_nlt h0) AOK.nil)) _ f_11_ge
    · by_cases h1 : nI 5 < nI (g.2.1 2001)
      · exact go scS (scS_ok g) _ (AOK.cons (a_out (Or.inr h1)) AOK.nil) _ f_12_out
      obtain ⟨j, hj, hje⟩ := between (by decide) h0 h1
      rcases (show j = 0 ∨ j = 1 ∨ j = 2 ∨ j = 3 ∨ j = 4 ∨ j = 5 by omega) with rfl | rfl | rfl | rfl | rfl | rfl
      · exact go (scK 0) (scK_ok hje) _ AOK.nil _ f_12_0
      · exact go (scK 1) (scK_ok hje) _ AOK.nil _ f_12_1
      · exact go (scK 2) (scK_ok hje) _ AOK.nil _ f_12_2
      · exact go (scK 3) (scK_ok hje) _ AOK.nil _ f_12_3
      · exact go (scK 4) (scK_ok hje) _ AOK.nil _ f_12_4
      · exact go (scK 5) (scK_ok hje) _ AOK.nil _ f_12_5
    · exact go scS (scS_ok g) _ AOK.nil _ f_13
    · exact go scS (scS_ok g) _ AOK.nil _ f_14
    · exact go scS (scS_ok g) _ AOK.nil _ f_15
