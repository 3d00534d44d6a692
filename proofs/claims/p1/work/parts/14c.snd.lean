/-! Each reached instruction does what its step computes. -/
theorem fa2 {α : Type} {p : α → Prop} {a : α} {l : List α} (h : p a) (t : ∀ x ∈ l, p x) : ∀ x ∈ a :: l, p x := List.forall_mem_cons.mpr ⟨h, t⟩
theorem fn2 {α : Type} {p : α → Prop} : ∀ x ∈ ([] : List α), p x := fun _ h => absurd h List.not_mem_nil
section PR2
variable {g : GG} {HB : Heap} {l : Launch} {call : CallF}
set_option maxRecDepth 100000 in
theorem s_24_0 (hC : SndC g HB l MM call) : Snd g HB l call cX4_readLines 10 yX4_readLines.cls yX4_readLines.name 0 (lf (q_load isR 0 1)) := lf_ok (p_aload_n (by decide +kernel : decode cX4_readLines 0 = .ok (.aload_n 0, 1)) rfl rfl)
set_option maxRecDepth 100000 in
theorem s_24_1 (hC : SndC g HB l MM call) : Snd g HB l call cX4_readLines 10 yX4_readLines.cls yX4_readLines.name 1 (lf (q_load isI 2 2)) := lf_ok (p_iload_n (by decide +kernel : decode cX4_readLines 1 = .ok (.iload_n 2, 1)) rfl rfl)
set_option maxRecDepth 100000 in
theorem s_24_2 (hC : SndC g HB l MM call) : Snd g HB l call cX4_readLines 10 yX4_readLines.cls yX4_readLines.name 2 (s_put 3 4 0 5) := h_put (k := 4) (C := RX4) (T := TX4) (N := 5) (ci := 3) rfl (by decide) rfl rfl (tin 1 156 (by decide +kernel) rfl)  (by decide +kernel : decode cX4_readLines 2 = .ok (.putfield 22, 3)) rfl
set_option maxRecDepth 100000 in
theorem s_24_5 (hC : SndC g HB l MM call) : Snd g HB l call cX4_readLines 10 yX4_readLines.cls yX4_readLines.name 5 (lf (q_load isR 0 6)) := lf_ok (p_aload_n (by decide +kernel : decode cX4_readLines 5 = .ok (.aload_n 0, 1)) rfl rfl)
set_option maxRecDepth 100000 in
theorem s_24_6 (hC : SndC g HB l MM call) : Snd g HB l call cX4_readLines 10 yX4_readLines.cls yX4_readLines.name 6 (s_get 3 1 9) := h_get (k := 1) (C := RX4) (T := TX4) (N := 5) (ci := 3) rfl (by decide) (tin 1 152 (by decide +kernel) rfl)  (by decide +kernel : decode cX4_readLines 6 = .ok (.getfield 11, 3)) rfl
set_option maxRecDepth 100000 in
theorem s_24_9 (hC : SndC g HB l MM call) : Snd g HB l call cX4_readLines 10 yX4_readLines.cls yX4_readLines.name 9 (lf (q_push (.inl 0) 10)) := lf_ok (p_iconst (by decide +kernel : decode cX4_readLines 9 = .ok (.iconst 0, 1)) (by decide +kernel) rfl)
set_option maxRecDepth 100000 in
theorem s_24_10 (hC : SndC g HB l MM call) : Snd g HB l call cX4_readLines 10 yX4_readLines.cls yX4_readLines.name 10 (s_cS 25 2 23 13) := c_S hC (M := MM) (id := 25) (d := D_25) rfl mok_25 rfl (tin 3 158 (by decide +kernel) rfl) (tin 3 159 (by decide +kernel) rfl) (tin 1 17 (by decide +kernel) rfl) (by decide +kernel : decode cX4_readLines 10 = .ok (.invokestatic 26, 3)) rfl
set_option maxRecDepth 100000 in
theorem s_24_13 (hC : SndC g HB l MM call) : Snd g HB l call cX4_readLines 10 yX4_readLines.cls yX4_readLines.name 13 (lf (q_load isR 0 14)) := lf_ok (p_aload_n (by decide +kernel : decode cX4_readLines 13 = .ok (.aload_n 0, 1)) rfl rfl)
set_option maxRecDepth 100000 in
theorem s_24_14 (hC : SndC g HB l MM call) : Snd g HB l call cX4_readLines 10 yX4_readLines.cls yX4_readLines.name 14 (s_get 3 2 17) := h_get (k := 2) (C := RX4) (T := TX4) (N := 5) (ci := 3) rfl (by decide) (tin 1 153 (by decide +kernel) rfl)  (by decide +kernel : decode cX4_readLines 14 = .ok (.getfield 15, 3)) rfl
set_option maxRecDepth 100000 in
theorem s_24_17 (hC : SndC g HB l MM call) : Snd g HB l call cX4_readLines 10 yX4_readLines.cls yX4_readLines.name 17 (lf (q_push (.inl 0) 18)) := lf_ok (p_iconst (by decide +kernel : decode cX4_readLines 17 = .ok (.iconst 0, 1)) (by decide +kernel) rfl)
set_option maxRecDepth 100000 in
theorem s_24_18 (hC : SndC g HB l MM call) : Snd g HB l call cX4_readLines 10 yX4_readLines.cls yX4_readLines.name 18 (s_cS 25 2 23 21) := c_S hC (M := MM) (id := 25) (d := D_25) rfl mok_25 rfl (tin 3 158 (by decide +kernel) rfl) (tin 3 159 (by decide +kernel) rfl) (tin 1 17 (by decide +kernel) rfl) (by decide +kernel : decode cX4_readLines 18 = .ok (.invokestatic 26, 3)) rfl
set_option maxRecDepth 100000 in
theorem s_24_21 (hC : SndC g HB l MM call) : Snd g HB l call cX4_readLines 10 yX4_readLines.cls yX4_readLines.name 21 (lf (q_load isR 0 22)) := lf_ok (p_aload_n (by decide +kernel : decode cX4_readLines 21 = .ok (.aload_n 0, 1)) rfl rfl)
set_option maxRecDepth 100000 in
theorem s_24_22 (hC : SndC g HB l MM call) : Snd g HB l call cX4_readLines 10 yX4_readLines.cls yX4_readLines.name 22 (lf (q_load isI 1 23)) := lf_ok (p_iload_n (by decide +kernel : decode cX4_readLines 22 = .ok (.iload_n 1, 1)) rfl rfl)
set_option maxRecDepth 100000 in
theorem s_24_23 (hC : SndC g HB l MM call) : Snd g HB l call cX4_readLines 10 yX4_readLines.cls yX4_readLines.name 23 (s_put 3 3 0 26) := h_put (k := 3) (C := RX4) (T := TX4) (N := 5) (ci := 3) rfl (by decide) rfl rfl (tin 1 154 (by decide +kernel) rfl)  (by decide +kernel : decode cX4_readLines 23 = .ok (.putfield 32, 3)) rfl
set_option maxRecDepth 100000 in
theorem s_24_26 (hC : SndC g HB l MM call) : Snd g HB l call cX4_readLines 10 yX4_readLines.cls yX4_readLines.name 26 (lf (q_push (.inl 4294967295) 27)) := lf_ok (p_iconst (by decide +kernel : decode cX4_readLines 26 = .ok (.iconst (-1), 1)) (by decide +kernel) rfl)
set_option maxRecDepth 100000 in
theorem s_24_27 (hC : SndC g HB l MM call) : Snd g HB l call cX4_readLines 10 yX4_readLines.cls yX4_readLines.name 27 (lf (q_store isI up1 0 3 10 28)) := lf_ok (p_istore_n (by decide +kernel : decode cX4_readLines 27 = .ok (.istore_n 3, 1)) rfl rfl)
set_option maxRecDepth 100000 in
theorem s_24_28 (hC : SndC g HB l MM call) : Snd g HB l call cX4_readLines 10 yX4_readLines.cls yX4_readLines.name 28 (lf (q_push (.inl 0) 29)) := lf_ok (p_iconst (by decide +kernel : decode cX4_readLines 28 = .ok (.iconst 0, 1)) (by decide +kernel) rfl)
set_option maxRecDepth 100000 in
theorem s_24_29 (hC : SndC g HB l MM call) : Snd g HB l call cX4_readLines 10 yX4_readLines.cls yX4_readLines.name 29 (lf (q_store isI up1 0 4 10 31)) := lf_ok (p_istore (by decide +kernel : decode cX4_readLines 29 = .ok (.istore 4, 2)) rfl)
set_option maxRecDepth 100000 in
theorem s_24_31 (hC : SndC g HB l MM call) : Snd g HB l call cX4_readLines 10 yX4_readLines.cls yX4_readLines.name 31 (lf (q_load isI 1 32)) := lf_ok (p_iload_n (by decide +kernel : decode cX4_readLines 31 = .ok (.iload_n 1, 1)) rfl rfl)
set_option maxRecDepth 100000 in
theorem s_24_32 (hC : SndC g HB l MM call) : Snd g HB l call cX4_readLines 10 yX4_readLines.cls yX4_readLines.name 32 (lf (q_store isI up1 0 5 10 34)) := lf_ok (p_istore (by decide +kernel : decode cX4_readLines 32 = .ok (.istore 5, 2)) rfl)
set_option maxRecDepth 100000 in
theorem s_24_34 (hC : SndC g HB l MM call) : Snd g HB l call cX4_readLines 10 yX4_readLines.cls yX4_readLines.name 34 (lf (q_load isI 5 36)) := lf_ok (p_iload (by decide +kernel : decode cX4_readLines 34 = .ok (.iload 5, 2)) rfl)
set_option maxRecDepth 100000 in
theorem s_24_36 (hC : SndC g HB l MM call) : Snd g HB l call cX4_readLines 10 yX4_readLines.cls yX4_readLines.name 36 (lf (q_load isR 0 37)) := lf_ok (p_aload_n (by decide +kernel : decode cX4_readLines 36 = .ok (.aload_n 0, 1)) rfl rfl)
set_option maxRecDepth 100000 in
theorem s_24_37 (hC : SndC g HB l MM call) : Snd g HB l call cX4_readLines 10 yX4_readLines.cls yX4_readLines.name 37 (s_get 3 4 40) := h_get (k := 4) (C := RX4) (T := TX4) (N := 5) (ci := 3) rfl (by decide) (tin 1 156 (by decide +kernel) rfl)  (by decide +kernel : decode cX4_readLines 37 = .ok (.getfield 22, 3)) rfl
set_option maxRecDepth 100000 in
theorem s_24_40 (hC : SndC g HB l MM call) : Snd g HB l call cX4_readLines 10 yX4_readLines.cls yX4_readLines.name 40 (s_br2 3 205 43) := b_ige (by decide +kernel : decode cX4_readLines 40 = .ok (.if_icmp .ge 165, 3)) (by decide) rfl
set_option maxRecDepth 100000 in
theorem ok_24 (hex : HB.size = g.1) (hC : SndC g HB l MM call) : ∀ x ∈ P_24, Snd g HB l call cX4_readLines 10 yX4_readLines.cls yX4_readLines.name x.1 x.2 := fa2 (s_24_0 hC) (fa2 (s_24_1 hC) (fa2 (s_24_2 hC) (fa2 (s_24_5 hC) (fa2 (s_24_6 hC) (fa2 (s_24_9 hC) (fa2 (s_24_10 hC) (fa2 (s_24_13 hC) (fa2 (s_24_14 hC) (fa2 (s_24_17 hC) (fa2 (s_24_18 hC) (fa2 (s_24_21 hC) (fa2 (s_24_22 hC) (fa2 (s_24_23 hC) (fa2 (s_24_26 hC) (fa2 (s_24_27 hC) (fa2 (s_24_28 hC) (fa2 (s_24_29 hC) (fa2 (s_24_31 hC) (fa2 (s_24_32 hC) (fa2 (s_24_34 hC) (fa2 (s_24_36 hC) (fa2 (s_24_37 hC) (fa2 (s_24_40 hC) (fn2))))))))))))))))))))))))
set_option maxRecDepth 100000 in
theorem ms_24 (hex : HB.size = g.1) : MSnd g HB l MM D_24 := ⟨by decide +kernel, fun _ hC => ok_24 hex hC, fa2 (show endOK cX4_readLines none 205 0 from ⟨rfl, (by decide +kernel : decode cX4_readLines 205 = .ok (.return_, 1))⟩) (fn2)⟩
set_option maxRecDepth 100000 in
theorem s_25_0 (hC : SndC g HB l MM call) : Snd g HB l call cJ7_fill_53178 4 yJ7_fill_53178.cls yJ7_fill_53178.name 0 (lf (q_push (.inl 0) 1)) := lf_ok (p_iconst (by decide +kernel : decode cJ7_fill_53178 0 = .ok (.iconst 0, 1)) (by decide +kernel) rfl)
set_option maxRecDepth 100000 in
theorem s_25_1 (hC : SndC g HB l MM call) : Snd g HB l call cJ7_fill_53178 4 yJ7_fill_53178.cls yJ7_fill_53178.name 1 (lf (q_store isI up1 0 2 4 2)) := lf_ok (p_istore_n (by decide +kernel : decode cJ7_fill_53178 1 = .ok (.istore_n 2, 1)) rfl rfl)
set_option maxRecDepth 100000 in
theorem s_25_2 (hC : SndC g HB l MM call) : Snd g HB l call cJ7_fill_53178 4 yJ7_fill_53178.cls yJ7_fill_53178.name 2 (lf (q_load isR 0 3)) := lf_ok (p_aload_n (by decide +kernel : decode cJ7_fill_53178 2 = .ok (.aload_n 0, 1)) rfl rfl)
set_option maxRecDepth 100000 in
theorem s_25_3 (hC : SndC g HB l MM call) : Snd g HB l call cJ7_fill_53178 4 yJ7_fill_53178.cls yJ7_fill_53178.name 3 (s_alen 4) := h_alen (by decide +kernel : decode cJ7_fill_53178 3 = .ok (.arraylength, 1)) rfl
set_option maxRecDepth 100000 in
theorem s_25_4 (hC : SndC g HB l MM call) : Snd g HB l call cJ7_fill_53178 4 yJ7_fill_53178.cls yJ7_fill_53178.name 4 (lf (q_store isI up1 0 3 4 5)) := lf_ok (p_istore_n (by decide +kernel : decode cJ7_fill_53178 4 = .ok (.istore_n 3, 1)) rfl rfl)
set_option maxRecDepth 100000 in
theorem s_25_5 (hC : SndC g HB l MM call) : Snd g HB l call cJ7_fill_53178 4 yJ7_fill_53178.cls yJ7_fill_53178.name 5 (lf (q_load isI 2 6)) := lf_ok (p_iload_n (by decide +kernel : decode cJ7_fill_53178 5 = .ok (.iload_n 2, 1)) rfl rfl)
set_option maxRecDepth 100000 in
theorem s_25_6 (hC : SndC g HB l MM call) : Snd g HB l call cJ7_fill_53178 4 yJ7_fill_53178.cls yJ7_fill_53178.name 6 (lf (q_load isI 3 7)) := lf_ok (p_iload_n (by decide +kernel : decode cJ7_fill_53178 6 = .ok (.iload_n 3, 1)) rfl rfl)
set_option maxRecDepth 100000 in
theorem s_25_7 (hC : SndC g HB l MM call) : Snd g HB l call cJ7_fill_53178 4 yJ7_fill_53178.cls yJ7_fill_53178.name 7 (s_br2 3 20 10) := b_ige (by decide +kernel : decode cJ7_fill_53178 7 = .ok (.if_icmp .ge 13, 3)) (by decide) rfl
set_option maxRecDepth 100000 in
theorem s_25_10 (hC : SndC g HB l MM call) : Snd g HB l call cJ7_fill_53178 4 yJ7_fill_53178.cls yJ7_fill_53178.name 10 (lf (q_load isR 0 11)) := lf_ok (p_aload_n (by decide +kernel : decode cJ7_fill_53178 10 = .ok (.aload_n 0, 1)) rfl rfl)
set_option maxRecDepth 100000 in
theorem s_25_11 (hC : SndC g HB l MM call) : Snd g HB l call cJ7_fill_53178 4 yJ7_fill_53178.cls yJ7_fill_53178.name 11 (lf (q_load isI 2 12)) := lf_ok (p_iload_n (by decide +kernel : decode cJ7_fill_53178 11 = .ok (.iload_n 2, 1)) rfl rfl)
set_option maxRecDepth 100000 in
theorem s_25_12 (hC : SndC g HB l MM call) : Snd g HB l call cJ7_fill_53178 4 yJ7_fill_53178.cls yJ7_fill_53178.name 12 (lf (q_load isI 1 13)) := lf_ok (p_iload_n (by decide +kernel : decode cJ7_fill_53178 12 = .ok (.iload_n 1, 1)) rfl rfl)
set_option maxRecDepth 100000 in
theorem s_25_13 (hC : SndC g HB l MM call) : Snd g HB l call cJ7_fill_53178 4 yJ7_fill_53178.cls yJ7_fill_53178.name 13 (s_ast (fun t => Nat.beq t 0) cvI 14) := h_iast (by decide +kernel : decode cJ7_fill_53178 13 = .ok (.iastore, 1)) rfl
set_option maxRecDepth 100000 in
theorem s_25_14 (hC : SndC g HB l MM call) : Snd g HB l call cJ7_fill_53178 4 yJ7_fill_53178.cls yJ7_fill_53178.name 14 (lf (q_iinc 2 1 4 17)) := lf_ok (p_iinc (by decide +kernel : decode cJ7_fill_53178 14 = .ok (.iinc 2 1, 3)) rfl)
set_option maxRecDepth 100000 in
theorem s_25_17 (hC : SndC g HB l MM call) : Snd g HB l call cJ7_fill_53178 4 yJ7_fill_53178.cls yJ7_fill_53178.name 17 (lf (q_goto 5)) := lf_ok (p_goto (by decide +kernel : decode cJ7_fill_53178 17 = .ok (.goto (-12), 3)) (by decide))
set_option maxRecDepth 100000 in
theorem ok_25 (hex : HB.size = g.1) (hC : SndC g HB l MM call) : ∀ x ∈ P_25, Snd g HB l call cJ7_fill_53178 4 yJ7_fill_53178.cls yJ7_fill_53178.name x.1 x.2 := fa2 (s_25_0 hC) (fa2 (s_25_1 hC) (fa2 (s_25_2 hC) (fa2 (s_25_3 hC) (fa2 (s_25_4 hC) (fa2 (s_25_5 hC) (fa2 (s_25_6 hC) (fa2 (s_25_7 hC) (fa2 (s_25_10 hC) (fa2 (s_25_11 hC) (fa2 (s_25_12 hC) (fa2 (s_25_13 hC) (fa2 (s_25_14 hC) (fa2 (s_25_17 hC) (fn2))))))))))))))
set_option maxRecDepth 100000 in
theorem ms_25 (hex : HB.size = g.1) : MSnd g HB l MM D_25 := ⟨by decide +kernel, fun _ hC => ok_25 hex hC, fa2 (show endOK cJ7_fill_53178 none 20 0 from ⟨rfl, (by decide +kernel : decode cJ7_fill_53178 20 = .ok (.return_, 1))⟩) (fn2)⟩
set_option maxRecDepth 100000 in
theorem s_26_0 (hC : SndC g HB l MM call) : Snd g HB l call cX7_readDate 1 yX7_readDate.cls yX7_readDate.name 0 (lf (q_load isR 0 1)) := lf_ok (p_aload_n (by decide +kernel : decode cX7_readDate 0 = .ok (.aload_n 0, 1)) rfl rfl)
set_option maxRecDepth 100000 in
theorem s_26_1 (hC : SndC g HB l MM call) : Snd g HB l call cX7_readDate 1 yX7_readDate.cls yX7_readDate.name 1 (s_get 6 3 4) := h_get (k := 3) (C := RX7) (T := TX7) (N := 15) (ci := 6) rfl (by decide) (tin 1 172 (by decide +kernel) rfl)  (by decide +kernel : decode cX7_readDate 1 = .ok (.getfield 60, 3)) rfl
set_option maxRecDepth 100000 in
theorem s_26_4 (hC : SndC g HB l MM call) : Snd g HB l call cX7_readDate 1 yX7_readDate.cls yX7_readDate.name 4 (lf (q_push (.inl 3) 5)) := lf_ok (p_iconst (by decide +kernel : decode cX7_readDate 4 = .ok (.iconst 3, 1)) (by decide +kernel) rfl)
set_option maxRecDepth 100000 in
theorem s_26_5 (hC : SndC g HB l MM call) : Snd g HB l call cX7_readDate 1 yX7_readDate.cls yX7_readDate.name 5 (lf (q_load isR 0 6)) := lf_ok (p_aload_n (by decide +kernel : decode cX7_readDate 5 = .ok (.aload_n 0, 1)) rfl rfl)
set_option maxRecDepth 100000 in
theorem s_26_6 (hC : SndC g HB l MM call) : Snd g HB l call cX7_readDate 1 yX7_readDate.cls yX7_readDate.name 6 (s_get 6 4 9) := h_get (k := 4) (C := RX7) (T := TX7) (N := 15) (ci := 6) rfl (by decide) (tin 1 173 (by decide +kernel) rfl)  (by decide +kernel : decode cX7_readDate 6 = .ok (.getfield 14, 3)) rfl
set_option maxRecDepth 100000 in
theorem s_26_9 (hC : SndC g HB l MM call) : Snd g HB l call cX7_readDate 1 yX7_readDate.cls yX7_readDate.name 9 (s_cV 3 27 2 25 12) := c_V (C := RX4) (T := TX4) (N := 5) (ci := 3) rfl hC (M := MM) (id := 27) (d := D_27) rfl mok_27 rfl rfl (tin 4 31 (by decide +kernel) rfl) (tin 4 32 (by decide +kernel) rfl) (tin 4 33 (by decide +kernel) rfl) (tin 1 9 (by decide +kernel) rfl) (by decide +kernel : decode cX7_readDate 9 = .ok (.invokevirtual 86, 3)) rfl
set_option maxRecDepth 100000 in
theorem s_26_12 (hC : SndC g HB l MM call) : Snd g HB l call cX7_readDate 1 yX7_readDate.cls yX7_readDate.name 12 (lf (q_load isR 0 13)) := lf_ok (p_aload_n (by decide +kernel : decode cX7_readDate 12 = .ok (.aload_n 0, 1)) rfl rfl)
set_option maxRecDepth 100000 in
theorem s_26_13 (hC : SndC g HB l MM call) : Snd g HB l call cX7_readDate 1 yX7_readDate.cls yX7_readDate.name 13 (s_get 6 4 16) := h_get (k := 4) (C := RX7) (T := TX7) (N := 15) (ci := 6) rfl (by decide) (tin 1 173 (by decide +kernel) rfl)  (by decide +kernel : decode cX7_readDate 13 = .ok (.getfield 14, 3)) rfl
set_option maxRecDepth 100000 in
theorem s_26_16 (hC : SndC g HB l MM call) : Snd g HB l call cX7_readDate 1 yX7_readDate.cls yX7_readDate.name 16 (s_cS 29 1 27 19) := c_S hC (M := MM) (id := 29) (d := D_29) rfl mok_29 rfl (tin 4 43 (by decide +kernel) rfl) (tin 4 44 (by decide +kernel) rfl) (tin 1 24 (by decide +kernel) rfl) (by decide +kernel : decode cX7_readDate 16 = .ok (.invokestatic 217, 3)) rfl
set_option maxRecDepth 100000 in
theorem ok_26 (hex : HB.size = g.1) (hC : SndC g HB l MM call) : ∀ x ∈ P_26, Snd g HB l call cX7_readDate 1 yX7_readDate.cls yX7_readDate.name x.1 x.2 := fa2 (s_26_0 hC) (fa2 (s_26_1 hC) (fa2 (s_26_4 hC) (fa2 (s_26_5 hC) (fa2 (s_26_6 hC) (fa2 (s_26_9 hC) (fa2 (s_26_12 hC) (fa2 (s_26_13 hC) (fa2 (s_26_16 hC) (fn2)))))))))
set_option maxRecDepth 100000 in
theorem ms_26 (hex : HB.size = g.1) : MSnd g HB l MM D_26 := ⟨by decide +kernel, fun _ hC => ok_26 hex hC, fa2 (show endOK cX7_readDate (some .int) 19 1 from ⟨rfl, (by decide +kernel : decode cX7_readDate 19 = .ok (.ireturn, 1))⟩) (fn2)⟩
set_option maxRecDepth 100000 in
theorem s_27_0 (hC : SndC g HB l MM call) : Snd g HB l call cX4_writeValue 6 yX4_writeValue.cls yX4_writeValue.name 0 (lf (q_load isR 2 1)) := lf_ok (p_aload_n (by decide +kernel : decode cX4_writeValue 0 = .ok (.aload_n 2, 1)) rfl rfl)
set_option maxRecDepth 100000 in
theorem s_27_1 (hC : SndC g HB l MM call) : Snd g HB l call cX4_writeValue 6 yX4_writeValue.cls yX4_writeValue.name 1 (s_cV 2 12 0 20 4) := c_V (C := RX1) (T := TX1) (N := 2) (ci := 2) rfl hC (M := MM) (id := 12) (d := D_12) rfl mok_12 rfl rfl (tin 4 35 (by decide +kernel) rfl) (tin 2 84 (by decide +kernel) rfl) (tin 2 85 (by decide +kernel) rfl) (tin 1 2 (by decide +kernel) rfl) (by decide +kernel : decode cX4_writeValue 1 = .ok (.invokevirtual 73, 3)) rfl
set_option maxRecDepth 100000 in
theorem s_27_4 (hC : SndC g HB l MM call) : Snd g HB l call cX4_writeValue 6 yX4_writeValue.cls yX4_writeValue.name 4 (lf (q_load isI 1 5)) := lf_ok (p_iload_n (by decide +kernel : decode cX4_writeValue 4 = .ok (.iload_n 1, 1)) rfl rfl)
set_option maxRecDepth 100000 in
theorem s_27_5 (hC : SndC g HB l MM call) : Snd g HB l call cX4_writeValue 6 yX4_writeValue.cls yX4_writeValue.name 5 (s_br1 2 14 8) := b_lt (by decide +kernel : decode cX4_writeValue 5 = .ok (.ifCond .lt 9, 3)) (by decide) rfl
set_option maxRecDepth 100000 in
theorem s_27_8 (hC : SndC g HB l MM call) : Snd g HB l call cX4_writeValue 6 yX4_writeValue.cls yX4_writeValue.name 8 (lf (q_load isI 1 9)) := lf_ok (p_iload_n (by decide +kernel : decode cX4_writeValue 8 = .ok (.iload_n 1, 1)) rfl rfl)
set_option maxRecDepth 100000 in
theorem s_27_9 (hC : SndC g HB l MM call) : Snd g HB l call cX4_writeValue 6 yX4_writeValue.cls yX4_writeValue.name 9 (lf (q_push (.inl 9) 11)) := lf_ok (p_bipush (by decide +kernel : decode cX4_writeValue 9 = .ok (.bipush 9, 2)) (by decide +kernel) rfl)
set_option maxRecDepth 100000 in
theorem s_27_11 (hC : SndC g HB l MM call) : Snd g HB l call cX4_writeValue 6 yX4_writeValue.cls yX4_writeValue.name 11 (s_br2 2 15 14) := b_ilt (by decide +kernel : decode cX4_writeValue 11 = .ok (.if_icmp .lt 4, 3)) (by decide) rfl
set_option maxRecDepth 100000 in
theorem s_27_15 (hC : SndC g HB l MM call) : Snd g HB l call cX4_writeValue 6 yX4_writeValue.cls yX4_writeValue.name 15 (lf (q_push (.inl 1) 16)) := lf_ok (p_iconst (by decide +kernel : decode cX4_writeValue 15 = .ok (.iconst 1, 1)) (by decide +kernel) rfl)
set_option maxRecDepth 100000 in
theorem s_27_16 (hC : SndC g HB l MM call) : Snd g HB l call cX4_writeValue 6 yX4_writeValue.cls yX4_writeValue.name 16 (lf (q_store isI up1 0 3 6 17)) := lf_ok (p_istore_n (by decide +kernel : decode cX4_writeValue 16 = .ok (.istore_n 3, 1)) rfl rfl)
set_option maxRecDepth 100000 in
theorem s_27_17 (hC : SndC g HB l MM call) : Snd g HB l call cX4_writeValue 6 yX4_writeValue.cls yX4_writeValue.name 17 (lf (q_load isR 0 18)) := lf_ok (p_aload_n (by decide +kernel : decode cX4_writeValue 17 = .ok (.aload_n 0, 1)) rfl rfl)
set_option maxRecDepth 100000 in
theorem s_27_18 (hC : SndC g HB l MM call) : Snd g HB l call cX4_writeValue 6 yX4_writeValue.cls yX4_writeValue.name 18 (s_get 3 1 21) := h_get (k := 1) (C := RX4) (T := TX4) (N := 5) (ci := 3) rfl (by decide) (tin 1 152 (by decide +kernel) rfl)  (by decide +kernel : decode cX4_writeValue 18 = .ok (.getfield 11, 3)) rfl
set_option maxRecDepth 100000 in
theorem s_27_21 (hC : SndC g HB l MM call) : Snd g HB l call cX4_writeValue 6 yX4_writeValue.cls yX4_writeValue.name 21 (lf (q_load isI 1 22)) := lf_ok (p_iload_n (by decide +kernel : decode cX4_writeValue 21 = .ok (.iload_n 1, 1)) rfl rfl)
set_option maxRecDepth 100000 in
theorem s_27_22 (hC : SndC g HB l MM call) : Snd g HB l call cX4_writeValue 6 yX4_writeValue.cls yX4_writeValue.name 22 (s_ald (fun t => Nat.beq t 0) isI (.inl 0) 23) := h_iald (by decide +kernel : decode cX4_writeValue 22 = .ok (.iaload, 1)) rfl
set_option maxRecDepth 100000 in
theorem s_27_23 (hC : SndC g HB l MM call) : Snd g HB l call cX4_writeValue 6 yX4_writeValue.cls yX4_writeValue.name 23 (lf (q_store isI up1 0 4 6 25)) := lf_ok (p_istore (by decide +kernel : decode cX4_writeValue 23 = .ok (.istore 4, 2)) rfl)
set_option maxRecDepth 100000 in
theorem s_27_25 (hC : SndC g HB l MM call) : Snd g HB l call cX4_writeValue 6 yX4_writeValue.cls yX4_writeValue.name 25 (lf (q_load isI 4 27)) := lf_ok (p_iload (by decide +kernel : decode cX4_writeValue 25 = .ok (.iload 4, 2)) rfl)
set_option maxRecDepth 100000 in
theorem s_27_27 (hC : SndC g HB l MM call) : Snd g HB l call cX4_writeValue 6 yX4_writeValue.cls yX4_writeValue.name 27 (lf (q_load isR 0 28)) := lf_ok (p_aload_n (by decide +kernel : decode cX4_writeValue 27 = .ok (.aload_n 0, 1)) rfl rfl)
set_option maxRecDepth 100000 in
theorem s_27_28 (hC : SndC g HB l MM call) : Snd g HB l call cX4_writeValue 6 yX4_writeValue.cls yX4_writeValue.name 28 (s_get 3 2 31) := h_get (k := 2) (C := RX4) (T := TX4) (N := 5) (ci := 3) rfl (by decide) (tin 1 153 (by decide +kernel) rfl)  (by decide +kernel : decode cX4_writeValue 28 = .ok (.getfield 15, 3)) rfl
set_option maxRecDepth 100000 in
theorem s_27_31 (hC : SndC g HB l MM call) : Snd g HB l call cX4_writeValue 6 yX4_writeValue.cls yX4_writeValue.name 31 (lf (q_load isI 1 32)) := lf_ok (p_iload_n (by decide +kernel : decode cX4_writeValue 31 = .ok (.iload_n 1, 1)) rfl rfl)
set_option maxRecDepth 100000 in
theorem s_27_32 (hC : SndC g HB l MM call) : Snd g HB l call cX4_writeValue 6 yX4_writeValue.cls yX4_writeValue.name 32 (s_ald (fun t => Nat.beq t 0) isI (.inl 0) 33) := h_iald (by decide +kernel : decode cX4_writeValue 32 = .ok (.iaload, 1)) rfl
set_option maxRecDepth 100000 in
theorem s_27_33 (hC : SndC g HB l MM call) : Snd g HB l call cX4_writeValue 6 yX4_writeValue.cls yX4_writeValue.name 33 (s_br2 3 121 36) := b_ige (by decide +kernel : decode cX4_writeValue 33 = .ok (.if_icmp .ge 88, 3)) (by decide) rfl
set_option maxRecDepth 100000 in
theorem s_27_121 (hC : SndC g HB l MM call) : Snd g HB l call cX4_writeValue 6 yX4_writeValue.cls yX4_writeValue.name 121 (lf (q_load isR 2 122)) := lf_ok (p_aload_n (by decide +kernel : decode cX4_writeValue 121 = .ok (.aload_n 2, 1)) rfl rfl)
set_option maxRecDepth 100000 in
theorem s_27_122 (hC : SndC g HB l MM call) : Snd g HB l call cX4_writeValue 6 yX4_writeValue.cls yX4_writeValue.name 122 (s_cV 2 28 0 20 125) := c_V (C := RX1) (T := TX1) (N := 2) (ci := 2) rfl hC (M := MM) (id := 28) (d := D_28) rfl mok_28 rfl rfl (tin 4 38 (by decide +kernel) rfl) (tin 4 39 (by decide +kernel) rfl) (tin 4 40 (by decide +kernel) rfl) (tin 1 2 (by decide +kernel) rfl) (by decide +kernel : decode cX4_writeValue 122 = .ok (.invokevirtual 84, 3)) rfl
set_option maxRecDepth 100000 in
theorem ok_27 (hex : HB.size = g.1) (hC : SndC g HB l MM call) : ∀ x ∈ P_27, Snd g HB l call cX4_writeValue 6 yX4_writeValue.cls yX4_writeValue.name x.1 x.2 := fa2 (s_27_0 hC) (fa2 (s_27_1 hC) (fa2 (s_27_4 hC) (fa2 (s_27_5 hC) (fa2 (s_27_8 hC) (fa2 (s_27_9 hC) (fa2 (s_27_11 hC) (fa2 (s_27_15 hC) (fa2 (s_27_16 hC) (fa2 (s_27_17 hC) (fa2 (s_27_18 hC) (fa2 (s_27_21 hC) (fa2 (s_27_22 hC) (fa2 (s_27_23 hC) (fa2 (s_27_25 hC) (fa2 (s_27_27 hC) (fa2 (s_27_28 hC) (fa2 (s_27_31 hC) (fa2 (s_27_32 hC) (fa2 (s_27_33 hC) (fa2 (s_27_121 hC) (fa2 (s_27_122 hC) (fn2))))))))))))))))))))))
set_option maxRecDepth 100000 in
theorem ms_27 (hex : HB.size = g.1) : MSnd g HB l MM D_27 := ⟨by decide +kernel, fun _ hC => ok_27 hex hC, fa2 (show endOK cX4_writeValue none 125 0 from ⟨rfl, (by decide +kernel : decode cX4_writeValue 125 = .ok (.return_, 1))⟩) (fn2)⟩
set_option maxRecDepth 100000 in
theorem s_28_0 (hC : SndC g HB l MM call) : Snd g HB l call cX1_cutBlanksAtEnd 1 yX1_cutBlanksAtEnd.cls yX1_cutBlanksAtEnd.name 0 (lf (q_load isR 0 1)) := lf_ok (p_aload_n (by decide +kernel : decode cX1_cutBlanksAtEnd 0 = .ok (.aload_n 0, 1)) rfl rfl)
set_option maxRecDepth 100000 in
theorem s_28_1 (hC : SndC g HB l MM call) : Snd g HB l call cX1_cutBlanksAtEnd 1 yX1_cutBlanksAtEnd.cls yX1_cutBlanksAtEnd.name 1 (s_get 2 1 4) := h_get (k := 1) (C := RX1) (T := TX1) (N := 2) (ci := 2) rfl (by decide) (tin 1 47 (by decide +kernel) rfl)  (by decide +kernel : decode cX1_cutBlanksAtEnd 1 = .ok (.getfield 15, 3)) rfl
set_option maxRecDepth 100000 in
theorem s_28_4 (hC : SndC g HB l MM call) : Snd g HB l call cX1_cutBlanksAtEnd 1 yX1_cutBlanksAtEnd.cls yX1_cutBlanksAtEnd.name 4 (s_br1 5 36 7) := b_le (by decide +kernel : decode cX1_cutBlanksAtEnd 4 = .ok (.ifCond .le 32, 3)) (by decide) rfl
set_option maxRecDepth 100000 in
theorem ok_28 (hex : HB.size = g.1) (hC : SndC g HB l MM call) : ∀ x ∈ P_28, Snd g HB l call cX1_cutBlanksAtEnd 1 yX1_cutBlanksAtEnd.cls yX1_cutBlanksAtEnd.name x.1 x.2 := fa2 (s_28_0 hC) (fa2 (s_28_1 hC) (fa2 (s_28_4 hC) (fn2)))
set_option maxRecDepth 100000 in
theorem ms_28 (hex : HB.size = g.1) : MSnd g HB l MM D_28 := ⟨by decide +kernel, fun _ hC => ok_28 hex hC, fa2 (show endOK cX1_cutBlanksAtEnd none 36 0 from ⟨rfl, (by decide +kernel : decode cX1_cutBlanksAtEnd 36 = .ok (.return_, 1))⟩) (fn2)⟩
set_option maxRecDepth 100000 in
theorem s_29_0 (hC : SndC g HB l MM call) : Snd g HB l call cX3_minutes 8 yX3_minutes.cls yX3_minutes.name 0 (lf (q_load isR 0 1)) := lf_ok (p_aload_n (by decide +kernel : decode cX3_minutes 0 = .ok (.aload_n 0, 1)) rfl rfl)
set_option maxRecDepth 100000 in
theorem s_29_1 (hC : SndC g HB l MM call) : Snd g HB l call cX3_minutes 8 yX3_minutes.cls yX3_minutes.name 1 (lf (q_push (.inl 0) 2)) := lf_ok (p_iconst (by decide +kernel : decode cX3_minutes 1 = .ok (.iconst 0, 1)) (by decide +kernel) rfl)
set_option maxRecDepth 100000 in
theorem s_29_2 (hC : SndC g HB l MM call) : Snd g HB l call cX3_minutes 8 yX3_minutes.cls yX3_minutes.name 2 (s_cS 30 2 22 5) := c_S hC (M := MM) (id := 30) (d := D_30) rfl mok_30 rfl (tin 4 46 (by decide +kernel) rfl) (tin 4 47 (by decide +kernel) rfl) (tin 1 24 (by decide +kernel) rfl) (by decide +kernel : decode cX3_minutes 2 = .ok (.invokestatic 26, 3)) rfl
set_option maxRecDepth 100000 in
theorem s_29_5 (hC : SndC g HB l MM call) : Snd g HB l call cX3_minutes 8 yX3_minutes.cls yX3_minutes.name 5 (lf (q_store isI up1 0 1 8 6)) := lf_ok (p_istore_n (by decide +kernel : decode cX3_minutes 5 = .ok (.istore_n 1, 1)) rfl rfl)
set_option maxRecDepth 100000 in
theorem s_29_6 (hC : SndC g HB l MM call) : Snd g HB l call cX3_minutes 8 yX3_minutes.cls yX3_minutes.name 6 (lf (q_load isR 0 7)) := lf_ok (p_aload_n (by decide +kernel : decode cX3_minutes 6 = .ok (.aload_n 0, 1)) rfl rfl)
set_option maxRecDepth 100000 in
theorem s_29_7 (hC : SndC g HB l MM call) : Snd g HB l call cX3_minutes 8 yX3_minutes.cls yX3_minutes.name 7 (lf (q_load isI 1 8)) := lf_ok (p_iload_n (by decide +kernel : decode cX3_minutes 7 = .ok (.iload_n 1, 1)) rfl rfl)
set_option maxRecDepth 100000 in
theorem s_29_8 (hC : SndC g HB l MM call) : Snd g HB l call cX3_minutes 8 yX3_minutes.cls yX3_minutes.name 8 (s_cS 31 2 22 11) := c_S hC (M := MM) (id := 31) (d := D_31) rfl mok_31 rfl (tin 4 55 (by decide +kernel) rfl) (tin 4 56 (by decide +kernel) rfl) (tin 1 24 (by decide +kernel) rfl) (by decide +kernel : decode cX3_minutes 8 = .ok (.invokestatic 30, 3)) rfl
set_option maxRecDepth 100000 in
theorem s_29_11 (hC : SndC g HB l MM call) : Snd g HB l call cX3_minutes 8 yX3_minutes.cls yX3_minutes.name 11 (lf (q_store isI up1 0 2 8 12)) := lf_ok (p_istore_n (by decide +kernel : decode cX3_minutes 11 = .ok (.istore_n 2, 1)) rfl rfl)
set_option maxRecDepth 100000 in
theorem s_29_12 (hC : SndC g HB l MM call) : Snd g HB l call cX3_minutes 8 yX3_minutes.cls yX3_minutes.name 12 (lf (q_load isR 0 13)) := lf_ok (p_aload_n (by decide +kernel : decode cX3_minutes 12 = .ok (.aload_n 0, 1)) rfl rfl)
set_option maxRecDepth 100000 in
theorem s_29_13 (hC : SndC g HB l MM call) : Snd g HB l call cX3_minutes 8 yX3_minutes.cls yX3_minutes.name 13 (lf (q_load isI 1 14)) := lf_ok (p_iload_n (by decide +kernel : decode cX3_minutes 13 = .ok (.iload_n 1, 1)) rfl rfl)
set_option maxRecDepth 100000 in
theorem s_29_14 (hC : SndC g HB l MM call) : Snd g HB l call cX3_minutes 8 yX3_minutes.cls yX3_minutes.name 14 (lf (q_load isI 2 15)) := lf_ok (p_iload_n (by decide +kernel : decode cX3_minutes 14 = .ok (.iload_n 2, 1)) rfl rfl)
set_option maxRecDepth 100000 in
theorem s_29_15 (hC : SndC g HB l MM call) : Snd g HB l call cX3_minutes 8 yX3_minutes.cls yX3_minutes.name 15 (s_cS 32 3 23 18) := c_S hC (M := MM) (id := 32) (d := D_32) rfl mok_32 rfl (tin 4 58 (by decide +kernel) rfl) (tin 4 59 (by decide +kernel) rfl) (tin 1 24 (by decide +kernel) rfl) (by decide +kernel : decode cX3_minutes 15 = .ok (.invokestatic 33, 3)) rfl
set_option maxRecDepth 100000 in
theorem s_29_18 (hC : SndC g HB l MM call) : Snd g HB l call cX3_minutes 8 yX3_minutes.cls yX3_minutes.name 18 (s_br1 0 33 21) := b_eq (by decide +kernel : decode cX3_minutes 18 = .ok (.ifCond .eq 15, 3)) (by decide) rfl
set_option maxRecDepth 100000 in
theorem s_29_33 (hC : SndC g HB l MM call) : Snd g HB l call cX3_minutes 8 yX3_minutes.cls yX3_minutes.name 33 (lf (q_load isI 2 34)) := lf_ok (p_iload_n (by decide +kernel : decode cX3_minutes 33 = .ok (.iload_n 2, 1)) rfl rfl)
set_option maxRecDepth 100000 in
theorem s_29_34 (hC : SndC g HB l MM call) : Snd g HB l call cX3_minutes 8 yX3_minutes.cls yX3_minutes.name 34 (lf (q_load isI 1 35)) := lf_ok (p_iload_n (by decide +kernel : decode cX3_minutes 34 = .ok (.iload_n 1, 1)) rfl rfl)
set_option maxRecDepth 100000 in
theorem s_29_35 (hC : SndC g HB l MM call) : Snd g HB l call cX3_minutes 8 yX3_minutes.cls yX3_minutes.name 35 (lf (q_bin (iop2 (fun x y => x - y)) 36)) := lf_ok (p_isub (by decide +kernel : decode cX3_minutes 35 = .ok (.isub, 1)) rfl)
set_option maxRecDepth 100000 in
theorem s_29_36 (hC : SndC g HB l MM call) : Snd g HB l call cX3_minutes 8 yX3_minutes.cls yX3_minutes.name 36 (lf (q_push (.inl 2) 37)) := lf_ok (p_iconst (by decide +kernel : decode cX3_minutes 36 = .ok (.iconst 2, 1)) (by decide +kernel) rfl)
set_option maxRecDepth 100000 in
theorem s_29_37 (hC : SndC g HB l MM call) : Snd g HB l call cX3_minutes 8 yX3_minutes.cls yX3_minutes.name 37 (s_br2 4 49 40) := b_igt (by decide +kernel : decode cX3_minutes 37 = .ok (.if_icmp .gt 12, 3)) (by decide) rfl
set_option maxRecDepth 100000 in
theorem s_29_40 (hC : SndC g HB l MM call) : Snd g HB l call cX3_minutes 8 yX3_minutes.cls yX3_minutes.name 40 (lf (q_load isR 0 41)) := lf_ok (p_aload_n (by decide +kernel : decode cX3_minutes 40 = .ok (.aload_n 0, 1)) rfl rfl)
set_option maxRecDepth 100000 in
theorem s_29_41 (hC : SndC g HB l MM call) : Snd g HB l call cX3_minutes 8 yX3_minutes.cls yX3_minutes.name 41 (lf (q_load isI 1 42)) := lf_ok (p_iload_n (by decide +kernel : decode cX3_minutes 41 = .ok (.iload_n 1, 1)) rfl rfl)
set_option maxRecDepth 100000 in
theorem s_29_42 (hC : SndC g HB l MM call) : Snd g HB l call cX3_minutes 8 yX3_minutes.cls yX3_minutes.name 42 (lf (q_load isI 2 43)) := lf_ok (p_iload_n (by decide +kernel : decode cX3_minutes 42 = .ok (.iload_n 2, 1)) rfl rfl)
set_option maxRecDepth 100000 in
theorem s_29_43 (hC : SndC g HB l MM call) : Snd g HB l call cX3_minutes 8 yX3_minutes.cls yX3_minutes.name 43 (s_cV 2 33 2 24 46) := c_V (C := RX1) (T := TX1) (N := 2) (ci := 2) rfl hC (M := MM) (id := 33) (d := D_33) rfl mok_33 rfl rfl (tin 4 62 (by decide +kernel) rfl) (tin 4 63 (by decide +kernel) rfl) (tin 4 64 (by decide +kernel) rfl) (tin 1 2 (by decide +kernel) rfl) (by decide +kernel : decode cX3_minutes 43 = .ok (.invokevirtual 17, 3)) rfl
set_option maxRecDepth 100000 in
theorem s_29_46 (hC : SndC g HB l MM call) : Snd g HB l call cX3_minutes 8 yX3_minutes.cls yX3_minutes.name 46 (lf (q_goto 50)) := lf_ok (p_goto (by decide +kernel : decode cX3_minutes 46 = .ok (.goto 4, 3)) (by decide))
set_option maxRecDepth 100000 in
theorem s_29_50 (hC : SndC g HB l MM call) : Snd g HB l call cX3_minutes 8 yX3_minutes.cls yX3_minutes.name 50 (lf (q_store isI up1 0 3 8 51)) := lf_ok (p_istore_n (by decide +kernel : decode cX3_minutes 50 = .ok (.istore_n 3, 1)) rfl rfl)
set_option maxRecDepth 100000 in
theorem s_29_51 (hC : SndC g HB l MM call) : Snd g HB l call cX3_minutes 8 yX3_minutes.cls yX3_minutes.name 51 (lf (q_load isR 0 52)) := lf_ok (p_aload_n (by decide +kernel : decode cX3_minutes 51 = .ok (.aload_n 0, 1)) rfl rfl)
set_option maxRecDepth 100000 in
theorem s_29_52 (hC : SndC g HB l MM call) : Snd g HB l call cX3_minutes 8 yX3_minutes.cls yX3_minutes.name 52 (lf (q_load isI 2 53)) := lf_ok (p_iload_n (by decide +kernel : decode cX3_minutes 52 = .ok (.iload_n 2, 1)) rfl rfl)
set_option maxRecDepth 100000 in
theorem s_29_53 (hC : SndC g HB l MM call) : Snd g HB l call cX3_minutes 8 yX3_minutes.cls yX3_minutes.name 53 (s_cS 30 2 22 56) := c_S hC (M := MM) (id := 30) (d := D_30) rfl mok_30 rfl (tin 4 46 (by decide +kernel) rfl) (tin 4 47 (by decide +kernel) rfl) (tin 1 24 (by decide +kernel) rfl) (by decide +kernel : decode cX3_minutes 53 = .ok (.invokestatic 26, 3)) rfl
set_option maxRecDepth 100000 in
theorem s_29_56 (hC : SndC g HB l MM call) : Snd g HB l call cX3_minutes 8 yX3_minutes.cls yX3_minutes.name 56 (lf (q_store isI up1 0 1 8 57)) := lf_ok (p_istore_n (by decide +kernel : decode cX3_minutes 56 = .ok (.istore_n 1, 1)) rfl rfl)
set_option maxRecDepth 100000 in
theorem s_29_57 (hC : SndC g HB l MM call) : Snd g HB l call cX3_minutes 8 yX3_minutes.cls yX3_minutes.name 57 (lf (q_load isR 0 58)) := lf_ok (p_aload_n (by decide +kernel : decode cX3_minutes 57 = .ok (.aload_n 0, 1)) rfl rfl)
set_option maxRecDepth 100000 in
theorem s_29_58 (hC : SndC g HB l MM call) : Snd g HB l call cX3_minutes 8 yX3_minutes.cls yX3_minutes.name 58 (lf (q_load isI 1 59)) := lf_ok (p_iload_n (by decide +kernel : decode cX3_minutes 58 = .ok (.iload_n 1, 1)) rfl rfl)
set_option maxRecDepth 100000 in
theorem s_29_59 (hC : SndC g HB l MM call) : Snd g HB l call cX3_minutes 8 yX3_minutes.cls yX3_minutes.name 59 (s_cS 31 2 22 62) := c_S hC (M := MM) (id := 31) (d := D_31) rfl mok_31 rfl (tin 4 55 (by decide +kernel) rfl) (tin 4 56 (by decide +kernel) rfl) (tin 1 24 (by decide +kernel) rfl) (by decide +kernel : decode cX3_minutes 59 = .ok (.invokestatic 30, 3)) rfl
set_option maxRecDepth 100000 in
theorem s_29_62 (hC : SndC g HB l MM call) : Snd g HB l call cX3_minutes 8 yX3_minutes.cls yX3_minutes.name 62 (lf (q_store isI up1 0 2 8 63)) := lf_ok (p_istore_n (by decide +kernel : decode cX3_minutes 62 = .ok (.istore_n 2, 1)) rfl rfl)
set_option maxRecDepth 100000 in
theorem s_29_63 (hC : SndC g HB l MM call) : Snd g HB l call cX3_minutes 8 yX3_minutes.cls yX3_minutes.name 63 (lf (q_load isR 0 64)) := lf_ok (p_aload_n (by decide +kernel : decode cX3_minutes 63 = .ok (.aload_n 0, 1)) rfl rfl)
set_option maxRecDepth 100000 in
theorem s_29_64 (hC : SndC g HB l MM call) : Snd g HB l call cX3_minutes 8 yX3_minutes.cls yX3_minutes.name 64 (lf (q_load isI 1 65)) := lf_ok (p_iload_n (by decide +kernel : decode cX3_minutes 64 = .ok (.iload_n 1, 1)) rfl rfl)
set_option maxRecDepth 100000 in
theorem s_29_65 (hC : SndC g HB l MM call) : Snd g HB l call cX3_minutes 8 yX3_minutes.cls yX3_minutes.name 65 (s_cS 34 2 22 68) := c_S hC (M := MM) (id := 34) (d := D_34) rfl mok_34 rfl (tin 4 67 (by decide +kernel) rfl) (tin 4 68 (by decide +kernel) rfl) (tin 1 24 (by decide +kernel) rfl) (by decide +kernel : decode cX3_minutes 65 = .ok (.invokestatic 37, 3)) rfl
set_option maxRecDepth 100000 in
theorem s_29_68 (hC : SndC g HB l MM call) : Snd g HB l call cX3_minutes 8 yX3_minutes.cls yX3_minutes.name 68 (lf (q_store isI up1 0 4 8 70)) := lf_ok (p_istore (by decide +kernel : decode cX3_minutes 68 = .ok (.istore 4, 2)) rfl)
set_option maxRecDepth 100000 in
theorem s_29_70 (hC : SndC g HB l MM call) : Snd g HB l call cX3_minutes 8 yX3_minutes.cls yX3_minutes.name 70 (lf (q_load isR 0 71)) := lf_ok (p_aload_n (by decide +kernel : decode cX3_minutes 70 = .ok (.aload_n 0, 1)) rfl rfl)
set_option maxRecDepth 100000 in
theorem s_29_71 (hC : SndC g HB l MM call) : Snd g HB l call cX3_minutes 8 yX3_minutes.cls yX3_minutes.name 71 (lf (q_load isI 2 72)) := lf_ok (p_iload_n (by decide +kernel : decode cX3_minutes 71 = .ok (.iload_n 2, 1)) rfl rfl)
set_option maxRecDepth 100000 in
theorem s_29_72 (hC : SndC g HB l MM call) : Snd g HB l call cX3_minutes 8 yX3_minutes.cls yX3_minutes.name 72 (s_cS 30 2 22 75) := c_S hC (M := MM) (id := 30) (d := D_30) rfl mok_30 rfl (tin 4 46 (by decide +kernel) rfl) (tin 4 47 (by decide +kernel) rfl) (tin 1 24 (by decide +kernel) rfl) (by decide +kernel : decode cX3_minutes 72 = .ok (.invokestatic 26, 3)) rfl
set_option maxRecDepth 100000 in
theorem s_29_75 (hC : SndC g HB l MM call) : Snd g HB l call cX3_minutes 8 yX3_minutes.cls yX3_minutes.name 75 (lf (q_store isI up1 0 1 8 76)) := lf_ok (p_istore_n (by decide +kernel : decode cX3_minutes 75 = .ok (.istore_n 1, 1)) rfl rfl)
set_option maxRecDepth 100000 in
theorem s_29_76 (hC : SndC g HB l MM call) : Snd g HB l call cX3_minutes 8 yX3_minutes.cls yX3_minutes.name 76 (lf (q_load isR 0 77)) := lf_ok (p_aload_n (by decide +kernel : decode cX3_minutes 76 = .ok (.aload_n 0, 1)) rfl rfl)
set_option maxRecDepth 100000 in
theorem s_29_77 (hC : SndC g HB l MM call) : Snd g HB l call cX3_minutes 8 yX3_minutes.cls yX3_minutes.name 77 (lf (q_load isI 1 78)) := lf_ok (p_iload_n (by decide +kernel : decode cX3_minutes 77 = .ok (.iload_n 1, 1)) rfl rfl)
set_option maxRecDepth 100000 in
theorem s_29_78 (hC : SndC g HB l MM call) : Snd g HB l call cX3_minutes 8 yX3_minutes.cls yX3_minutes.name 78 (s_cS 31 2 22 81) := c_S hC (M := MM) (id := 31) (d := D_31) rfl mok_31 rfl (tin 4 55 (by decide +kernel) rfl) (tin 4 56 (by decide +kernel) rfl) (tin 1 24 (by decide +kernel) rfl) (by decide +kernel : decode cX3_minutes 78 = .ok (.invokestatic 30, 3)) rfl
set_option maxRecDepth 100000 in
theorem s_29_81 (hC : SndC g HB l MM call) : Snd g HB l call cX3_minutes 8 yX3_minutes.cls yX3_minutes.name 81 (lf (q_store isI up1 0 2 8 82)) := lf_ok (p_istore_n (by decide +kernel : decode cX3_minutes 81 = .ok (.istore_n 2, 1)) rfl rfl)
set_option maxRecDepth 100000 in
theorem s_29_82 (hC : SndC g HB l MM call) : Snd g HB l call cX3_minutes 8 yX3_minutes.cls yX3_minutes.name 82 (lf (q_load isR 0 83)) := lf_ok (p_aload_n (by decide +kernel : decode cX3_minutes 82 = .ok (.aload_n 0, 1)) rfl rfl)
set_option maxRecDepth 100000 in
theorem s_29_83 (hC : SndC g HB l MM call) : Snd g HB l call cX3_minutes 8 yX3_minutes.cls yX3_minutes.name 83 (lf (q_load isI 1 84)) := lf_ok (p_iload_n (by decide +kernel : decode cX3_minutes 83 = .ok (.iload_n 1, 1)) rfl rfl)
set_option maxRecDepth 100000 in
theorem s_29_84 (hC : SndC g HB l MM call) : Snd g HB l call cX3_minutes 8 yX3_minutes.cls yX3_minutes.name 84 (lf (q_load isI 2 85)) := lf_ok (p_iload_n (by decide +kernel : decode cX3_minutes 84 = .ok (.iload_n 2, 1)) rfl rfl)
set_option maxRecDepth 100000 in
theorem s_29_85 (hC : SndC g HB l MM call) : Snd g HB l call cX3_minutes 8 yX3_minutes.cls yX3_minutes.name 85 (s_cS 44 3 23 88) := c_S hC (M := MM) (id := 44) (d := D_44) rfl mok_44 rfl (tin 4 77 (by decide +kernel) rfl) (tin 4 78 (by decide +kernel) rfl) (tin 1 24 (by decide +kernel) rfl) (by decide +kernel : decode cX3_minutes 85 = .ok (.invokestatic 40, 3)) rfl
set_option maxRecDepth 100000 in
theorem s_29_88 (hC : SndC g HB l MM call) : Snd g HB l call cX3_minutes 8 yX3_minutes.cls yX3_minutes.name 88 (lf (q_store isI up1 0 5 8 90)) := lf_ok (p_istore (by decide +kernel : decode cX3_minutes 88 = .ok (.istore 5, 2)) rfl)
set_option maxRecDepth 100000 in
theorem s_29_90 (hC : SndC g HB l MM call) : Snd g HB l call cX3_minutes 8 yX3_minutes.cls yX3_minutes.name 90 (lf (q_load isR 0 91)) := lf_ok (p_aload_n (by decide +kernel : decode cX3_minutes 90 = .ok (.aload_n 0, 1)) rfl rfl)
set_option maxRecDepth 100000 in
theorem s_29_91 (hC : SndC g HB l MM call) : Snd g HB l call cX3_minutes 8 yX3_minutes.cls yX3_minutes.name 91 (lf (q_load isI 2 92)) := lf_ok (p_iload_n (by decide +kernel : decode cX3_minutes 91 = .ok (.iload_n 2, 1)) rfl rfl)
set_option maxRecDepth 100000 in
theorem s_29_92 (hC : SndC g HB l MM call) : Snd g HB l call cX3_minutes 8 yX3_minutes.cls yX3_minutes.name 92 (s_cS 30 2 22 95) := c_S hC (M := MM) (id := 30) (d := D_30) rfl mok_30 rfl (tin 4 46 (by decide +kernel) rfl) (tin 4 47 (by decide +kernel) rfl) (tin 1 24 (by decide +kernel) rfl) (by decide +kernel : decode cX3_minutes 92 = .ok (.invokestatic 26, 3)) rfl
set_option maxRecDepth 100000 in
theorem s_29_95 (hC : SndC g HB l MM call) : Snd g HB l call cX3_minutes 8 yX3_minutes.cls yX3_minutes.name 95 (lf (q_store isI up1 0 1 8 96)) := lf_ok (p_istore_n (by decide +kernel : decode cX3_minutes 95 = .ok (.istore_n 1, 1)) rfl rfl)
set_option maxRecDepth 100000 in
theorem s_29_96 (hC : SndC g HB l MM call) : Snd g HB l call cX3_minutes 8 yX3_minutes.cls yX3_minutes.name 96 (lf (q_load isR 0 97)) := lf_ok (p_aload_n (by decide +kernel : decode cX3_minutes 96 = .ok (.aload_n 0, 1)) rfl rfl)
set_option maxRecDepth 100000 in
theorem s_29_97 (hC : SndC g HB l MM call) : Snd g HB l call cX3_minutes 8 yX3_minutes.cls yX3_minutes.name 97 (lf (q_load isI 1 98)) := lf_ok (p_iload_n (by decide +kernel : decode cX3_minutes 97 = .ok (.iload_n 1, 1)) rfl rfl)
set_option maxRecDepth 100000 in
theorem s_29_98 (hC : SndC g HB l MM call) : Snd g HB l call cX3_minutes 8 yX3_minutes.cls yX3_minutes.name 98 (s_cS 31 2 22 101) := c_S hC (M := MM) (id := 31) (d := D_31) rfl mok_31 rfl (tin 4 55 (by decide +kernel) rfl) (tin 4 56 (by decide +kernel) rfl) (tin 1 24 (by decide +kernel) rfl) (by decide +kernel : decode cX3_minutes 98 = .ok (.invokestatic 30, 3)) rfl
set_option maxRecDepth 100000 in
theorem s_29_101 (hC : SndC g HB l MM call) : Snd g HB l call cX3_minutes 8 yX3_minutes.cls yX3_minutes.name 101 (lf (q_store isI up1 0 2 8 102)) := lf_ok (p_istore_n (by decide +kernel : decode cX3_minutes 101 = .ok (.istore_n 2, 1)) rfl rfl)
set_option maxRecDepth 100000 in
theorem s_29_102 (hC : SndC g HB l MM call) : Snd g HB l call cX3_minutes 8 yX3_minutes.cls yX3_minutes.name 102 (lf (q_load isR 0 103)) := lf_ok (p_aload_n (by decide +kernel : decode cX3_minutes 102 = .ok (.aload_n 0, 1)) rfl rfl)
set_option maxRecDepth 100000 in
theorem s_29_103 (hC : SndC g HB l MM call) : Snd g HB l call cX3_minutes 8 yX3_minutes.cls yX3_minutes.name 103 (lf (q_load isI 1 104)) := lf_ok (p_iload_n (by decide +kernel : decode cX3_minutes 103 = .ok (.iload_n 1, 1)) rfl rfl)
set_option maxRecDepth 100000 in
theorem s_29_104 (hC : SndC g HB l MM call) : Snd g HB l call cX3_minutes 8 yX3_minutes.cls yX3_minutes.name 104 (lf (q_load isI 2 105)) := lf_ok (p_iload_n (by decide +kernel : decode cX3_minutes 104 = .ok (.iload_n 2, 1)) rfl rfl)
set_option maxRecDepth 100000 in
theorem s_29_105 (hC : SndC g HB l MM call) : Snd g HB l call cX3_minutes 8 yX3_minutes.cls yX3_minutes.name 105 (s_cS 45 3 23 108) := c_S hC (M := MM) (id := 45) (d := D_45) rfl mok_45 rfl (tin 4 80 (by decide +kernel) rfl) (tin 4 81 (by decide +kernel) rfl) (tin 1 24 (by decide +kernel) rfl) (by decide +kernel : decode cX3_minutes 105 = .ok (.invokestatic 44, 3)) rfl
set_option maxRecDepth 100000 in
theorem s_29_108 (hC : SndC g HB l MM call) : Snd g HB l call cX3_minutes 8 yX3_minutes.cls yX3_minutes.name 108 (lf (q_store isI up1 0 6 8 110)) := lf_ok (p_istore (by decide +kernel : decode cX3_minutes 108 = .ok (.istore 6, 2)) rfl)
set_option maxRecDepth 100000 in
theorem s_29_110 (hC : SndC g HB l MM call) : Snd g HB l call cX3_minutes 8 yX3_minutes.cls yX3_minutes.name 110 (lf (q_load isR 0 111)) := lf_ok (p_aload_n (by decide +kernel : decode cX3_minutes 110 = .ok (.aload_n 0, 1)) rfl rfl)
set_option maxRecDepth 100000 in
theorem s_29_111 (hC : SndC g HB l MM call) : Snd g HB l call cX3_minutes 8 yX3_minutes.cls yX3_minutes.name 111 (lf (q_load isI 2 112)) := lf_ok (p_iload_n (by decide +kernel : decode cX3_minutes 111 = .ok (.iload_n 2, 1)) rfl rfl)
set_option maxRecDepth 100000 in
theorem s_29_112 (hC : SndC g HB l MM call) : Snd g HB l call cX3_minutes 8 yX3_minutes.cls yX3_minutes.name 112 (s_cS 30 2 22 115) := c_S hC (M := MM) (id := 30) (d := D_30) rfl mok_30 rfl (tin 4 46 (by decide +kernel) rfl) (tin 4 47 (by decide +kernel) rfl) (tin 1 24 (by decide +kernel) rfl) (by decide +kernel : decode cX3_minutes 112 = .ok (.invokestatic 26, 3)) rfl
set_option maxRecDepth 100000 in
theorem s_29_115 (hC : SndC g HB l MM call) : Snd g HB l call cX3_minutes 8 yX3_minutes.cls yX3_minutes.name 115 (lf (q_store isI up1 0 1 8 116)) := lf_ok (p_istore_n (by decide +kernel : decode cX3_minutes 115 = .ok (.istore_n 1, 1)) rfl rfl)
set_option maxRecDepth 100000 in
theorem s_29_116 (hC : SndC g HB l MM call) : Snd g HB l call cX3_minutes 8 yX3_minutes.cls yX3_minutes.name 116 (lf (q_load isR 0 117)) := lf_ok (p_aload_n (by decide +kernel : decode cX3_minutes 116 = .ok (.aload_n 0, 1)) rfl rfl)
set_option maxRecDepth 100000 in
theorem s_29_117 (hC : SndC g HB l MM call) : Snd g HB l call cX3_minutes 8 yX3_minutes.cls yX3_minutes.name 117 (lf (q_load isI 1 118)) := lf_ok (p_iload_n (by decide +kernel : decode cX3_minutes 117 = .ok (.iload_n 1, 1)) rfl rfl)
set_option maxRecDepth 100000 in
theorem s_29_118 (hC : SndC g HB l MM call) : Snd g HB l call cX3_minutes 8 yX3_minutes.cls yX3_minutes.name 118 (s_cS 31 2 22 121) := c_S hC (M := MM) (id := 31) (d := D_31) rfl mok_31 rfl (tin 4 55 (by decide +kernel) rfl) (tin 4 56 (by decide +kernel) rfl) (tin 1 24 (by decide +kernel) rfl) (by decide +kernel : decode cX3_minutes 118 = .ok (.invokestatic 30, 3)) rfl
set_option maxRecDepth 100000 in
theorem s_29_121 (hC : SndC g HB l MM call) : Snd g HB l call cX3_minutes 8 yX3_minutes.cls yX3_minutes.name 121 (lf (q_store isI up1 0 2 8 122)) := lf_ok (p_istore_n (by decide +kernel : decode cX3_minutes 121 = .ok (.istore_n 2, 1)) rfl rfl)
set_option maxRecDepth 100000 in
theorem s_29_122 (hC : SndC g HB l MM call) : Snd g HB l call cX3_minutes 8 yX3_minutes.cls yX3_minutes.name 122 (lf (q_load isI 5 124)) := lf_ok (p_iload (by decide +kernel : decode cX3_minutes 122 = .ok (.iload 5, 2)) rfl)
set_option maxRecDepth 100000 in
theorem s_29_124 (hC : SndC g HB l MM call) : Snd g HB l call cX3_minutes 8 yX3_minutes.cls yX3_minutes.name 124 (lf (q_load isI 4 126)) := lf_ok (p_iload (by decide +kernel : decode cX3_minutes 124 = .ok (.iload 4, 2)) rfl)
set_option maxRecDepth 100000 in
theorem s_29_126 (hC : SndC g HB l MM call) : Snd g HB l call cX3_minutes 8 yX3_minutes.cls yX3_minutes.name 126 (lf (q_load isI 3 127)) := lf_ok (p_iload_n (by decide +kernel : decode cX3_minutes 126 = .ok (.iload_n 3, 1)) rfl rfl)
set_option maxRecDepth 100000 in
theorem s_29_127 (hC : SndC g HB l MM call) : Snd g HB l call cX3_minutes 8 yX3_minutes.cls yX3_minutes.name 127 (s_cS 46 3 25 130) := c_S hC (M := MM) (id := 46) (d := D_46) rfl mok_46 rfl (tin 4 89 (by decide +kernel) rfl) (tin 4 90 (by decide +kernel) rfl) (tin 1 24 (by decide +kernel) rfl) (by decide +kernel : decode cX3_minutes 127 = .ok (.invokestatic 22, 3)) rfl
set_option maxRecDepth 100000 in
theorem s_29_130 (hC : SndC g HB l MM call) : Snd g HB l call cX3_minutes 8 yX3_minutes.cls yX3_minutes.name 130 (lf (q_store isI up1 0 7 8 132)) := lf_ok (p_istore (by decide +kernel : decode cX3_minutes 130 = .ok (.istore 7, 2)) rfl)
set_option maxRecDepth 100000 in
theorem s_29_132 (hC : SndC g HB l MM call) : Snd g HB l call cX3_minutes 8 yX3_minutes.cls yX3_minutes.name 132 (lf (q_load isI 7 134)) := lf_ok (p_iload (by decide +kernel : decode cX3_minutes 132 = .ok (.iload 7, 2)) rfl)
set_option maxRecDepth 100000 in
theorem s_29_134 (hC : SndC g HB l MM call) : Snd g HB l call cX3_minutes 8 yX3_minutes.cls yX3_minutes.name 134 (s_val (.inl 4293967296) 136) := m_ldc (x := -1000000) (tin 4 97 (by decide +kernel) rfl) (by decide +kernel) (by decide +kernel : decode cX3_minutes 134 = .ok (.ldc 15, 2)) rfl
set_option maxRecDepth 100000 in
theorem s_29_136 (hC : SndC g HB l MM call) : Snd g HB l call cX3_minutes 8 yX3_minutes.cls yX3_minutes.name 136 (s_br2 0 161 139) := b_ieq (by decide +kernel : decode cX3_minutes 136 = .ok (.if_icmp .eq 25, 3)) (by decide) rfl
set_option maxRecDepth 100000 in
theorem s_29_161 (hC : SndC g HB l MM call) : Snd g HB l call cX3_minutes 8 yX3_minutes.cls yX3_minutes.name 161 (lf (q_push (.inl 0) 162)) := lf_ok (p_iconst (by decide +kernel : decode cX3_minutes 161 = .ok (.iconst 0, 1)) (by decide +kernel) rfl)
set_option maxRecDepth 100000 in
theorem ok_29 (hex : HB.size = g.1) (hC : SndC g HB l MM call) : ∀ x ∈ P_29, Snd g HB l call cX3_minutes 8 yX3_minutes.cls yX3_minutes.name x.1 x.2 := fa2 (s_29_0 hC) (fa2 (s_29_1 hC) (fa2 (s_29_2 hC) (fa2 (s_29_5 hC) (fa2 (s_29_6 hC) (fa2 (s_29_7 hC) (fa2 (s_29_8 hC) (fa2 (s_29_11 hC) (fa2 (s_29_12 hC) (fa2 (s_29_13 hC) (fa2 (s_29_14 hC) (fa2 (s_29_15 hC) (fa2 (s_29_18 hC) (fa2 (s_29_33 hC) (fa2 (s_29_34 hC) (fa2 (s_29_35 hC) (fa2 (s_29_36 hC) (fa2 (s_29_37 hC) (fa2 (s_29_40 hC) (fa2 (s_29_41 hC) (fa2 (s_29_42 hC) (fa2 (s_29_43 hC) (fa2 (s_29_46 hC) (fa2 (s_29_50 hC) (fa2 (s_29_51 hC) (fa2 (s_29_52 hC) (fa2 (s_29_53 hC) (fa2 (s_29_56 hC) (fa2 (s_29_57 hC) (fa2 (s_29_58 hC) (fa2 (s_29_59 hC) (fa2 (s_29_62 hC) (fa2 (s_29_63 hC) (fa2 (s_29_64 hC) (fa2 (s_29_65 hC) (fa2 (s_29_68 hC) (fa2 (s_29_70 hC) (fa2 (s_29_71 hC) (fa2 (s_29_72 hC) (fa2 (s_29_75 hC) (fa2 (s_29_76 hC) (fa2 (s_29_77 hC) (fa2 (s_29_78 hC) (fa2 (s_29_81 hC) (fa2 (s_29_82 hC) (fa2 (s_29_83 hC) (fa2 (s_29_84 hC) (fa2 (s_29_85 hC) (fa2 (s_29_88 hC) (fa2 (s_29_90 hC) (fa2 (s_29_91 hC) (fa2 (s_29_92 hC) (fa2 (s_29_95 hC) (fa2 (s_29_96 hC) (fa2 (s_29_97 hC) (fa2 (s_29_98 hC) (fa2 (s_29_101 hC) (fa2 (s_29_102 hC) (fa2 (s_29_103 hC) (fa2 (s_29_104 hC) (fa2 (s_29_105 hC) (fa2 (s_29_108 hC) (fa2 (s_29_110 hC) (fa2 (s_29_111 hC) (fa2 (s_29_112 hC) (fa2 (s_29_115 hC) (fa2 (s_29_116 hC) (fa2 (s_29_117 hC) (fa2 (s_29_118 hC) (fa2 (s_29_121 hC) (fa2 (s_29_122 hC) (fa2 (s_29_124 hC) (fa2 (s_29_126 hC) (fa2 (s_29_127 hC) (fa2 (s_29_130 hC) (fa2 (s_29_132 hC) (fa2 (s_29_134 hC) (fa2 (s_29_136 hC) (fa2 (s_29_161 hC) (fn2)))))))))))))))))))))))))))))))))))))))))))))))))))))))))))))))))))))))))))))))
set_option maxRecDepth 100000 in
theorem ms_29 (hex : HB.size = g.1) : MSnd g HB l MM D_29 := ⟨by decide +kernel, fun _ hC => ok_29 hex hC, fa2 (show endOK cX3_minutes (some .int) 162 1 from ⟨rfl, (by decide +kernel : decode cX3_minutes 162 = .ok (.ireturn, 1))⟩) (fn2)⟩
set_option maxRecDepth 100000 in
theorem s_30_0 (hC : SndC g HB l MM call) : Snd g HB l call cX3_wordStart 3 yX3_wordStart.cls yX3_wordStart.name 0 (lf (q_load isI 1 1)) := lf_ok (p_iload_n (by decide +kernel : decode cX3_wordStart 0 = .ok (.iload_n 1, 1)) rfl rfl)
set_option maxRecDepth 100000 in
theorem s_30_1 (hC : SndC g HB l MM call) : Snd g HB l call cX3_wordStart 3 yX3_wordStart.cls yX3_wordStart.name 1 (lf (q_store isI up1 0 2 3 2)) := lf_ok (p_istore_n (by decide +kernel : decode cX3_wordStart 1 = .ok (.istore_n 2, 1)) rfl rfl)
set_option maxRecDepth 100000 in
theorem s_30_2 (hC : SndC g HB l MM call) : Snd g HB l call cX3_wordStart 3 yX3_wordStart.cls yX3_wordStart.name 2 (lf (q_load isI 2 3)) := lf_ok (p_iload_n (by decide +kernel : decode cX3_wordStart 2 = .ok (.iload_n 2, 1)) rfl rfl)
set_option maxRecDepth 100000 in
theorem s_30_3 (hC : SndC g HB l MM call) : Snd g HB l call cX3_wordStart 3 yX3_wordStart.cls yX3_wordStart.name 3 (lf (q_load isR 0 4)) := lf_ok (p_aload_n (by decide +kernel : decode cX3_wordStart 3 = .ok (.aload_n 0, 1)) rfl rfl)
set_option maxRecDepth 100000 in
theorem s_30_4 (hC : SndC g HB l MM call) : Snd g HB l call cX3_wordStart 3 yX3_wordStart.cls yX3_wordStart.name 4 (s_cV 2 18 0 20 7) := c_V (C := RX1) (T := TX1) (N := 2) (ci := 2) rfl hC (M := MM) (id := 18) (d := D_18) rfl mok_18 rfl rfl (tin 4 49 (by decide +kernel) rfl) (tin 2 156 (by decide +kernel) rfl) (tin 2 157 (by decide +kernel) rfl) (tin 1 2 (by decide +kernel) rfl) (by decide +kernel : decode cX3_wordStart 4 = .ok (.invokevirtual 60, 3)) rfl
set_option maxRecDepth 100000 in
theorem s_30_7 (hC : SndC g HB l MM call) : Snd g HB l call cX3_wordStart 3 yX3_wordStart.cls yX3_wordStart.name 7 (s_br2 3 27 10) := b_ige (by decide +kernel : decode cX3_wordStart 7 = .ok (.if_icmp .ge 20, 3)) (by decide) rfl
set_option maxRecDepth 100000 in
theorem s_30_27 (hC : SndC g HB l MM call) : Snd g HB l call cX3_wordStart 3 yX3_wordStart.cls yX3_wordStart.name 27 (lf (q_load isI 2 28)) := lf_ok (p_iload_n (by decide +kernel : decode cX3_wordStart 27 = .ok (.iload_n 2, 1)) rfl rfl)
set_option maxRecDepth 100000 in
theorem ok_30 (hex : HB.size = g.1) (hC : SndC g HB l MM call) : ∀ x ∈ P_30, Snd g HB l call cX3_wordStart 3 yX3_wordStart.cls yX3_wordStart.name x.1 x.2 := fa2 (s_30_0 hC) (fa2 (s_30_1 hC) (fa2 (s_30_2 hC) (fa2 (s_30_3 hC) (fa2 (s_30_4 hC) (fa2 (s_30_7 hC) (fa2 (s_30_27 hC) (fn2)))))))
set_option maxRecDepth 100000 in
theorem ms_30 (hex : HB.size = g.1) : MSnd g HB l MM D_30 := ⟨by decide +kernel, fun _ hC => ok_30 hex hC, fa2 (show endOK cX3_wordStart (some .int) 28 1 from ⟨rfl, (by decide +kernel : decode cX3_wordStart 28 = .ok (.ireturn, 1))⟩) (fn2)⟩
set_option maxRecDepth 100000 in
theorem s_31_0 (hC : SndC g HB l MM call) : Snd g HB l call cX3_wordStop 3 yX3_wordStop.cls yX3_wordStop.name 0 (lf (q_load isI 1 1)) := lf_ok (p_iload_n (by decide +kernel : decode cX3_wordStop 0 = .ok (.iload_n 1, 1)) rfl rfl)
set_option maxRecDepth 100000 in
theorem s_31_1 (hC : SndC g HB l MM call) : Snd g HB l call cX3_wordStop 3 yX3_wordStop.cls yX3_wordStop.name 1 (lf (q_store isI up1 0 2 3 2)) := lf_ok (p_istore_n (by decide +kernel : decode cX3_wordStop 1 = .ok (.istore_n 2, 1)) rfl rfl)
set_option maxRecDepth 100000 in
theorem s_31_2 (hC : SndC g HB l MM call) : Snd g HB l call cX3_wordStop 3 yX3_wordStop.cls yX3_wordStop.name 2 (lf (q_load isI 2 3)) := lf_ok (p_iload_n (by decide +kernel : decode cX3_wordStop 2 = .ok (.iload_n 2, 1)) rfl rfl)
set_option maxRecDepth 100000 in
theorem s_31_3 (hC : SndC g HB l MM call) : Snd g HB l call cX3_wordStop 3 yX3_wordStop.cls yX3_wordStop.name 3 (lf (q_load isR 0 4)) := lf_ok (p_aload_n (by decide +kernel : decode cX3_wordStop 3 = .ok (.aload_n 0, 1)) rfl rfl)
set_option maxRecDepth 100000 in
theorem s_31_4 (hC : SndC g HB l MM call) : Snd g HB l call cX3_wordStop 3 yX3_wordStop.cls yX3_wordStop.name 4 (s_cV 2 18 0 20 7) := c_V (C := RX1) (T := TX1) (N := 2) (ci := 2) rfl hC (M := MM) (id := 18) (d := D_18) rfl mok_18 rfl rfl (tin 4 49 (by decide +kernel) rfl) (tin 2 156 (by decide +kernel) rfl) (tin 2 157 (by decide +kernel) rfl) (tin 1 2 (by decide +kernel) rfl) (by decide +kernel : decode cX3_wordStop 4 = .ok (.invokevirtual 60, 3)) rfl
set_option maxRecDepth 100000 in
theorem s_31_7 (hC : SndC g HB l MM call) : Snd g HB l call cX3_wordStop 3 yX3_wordStop.cls yX3_wordStop.name 7 (s_br2 3 27 10) := b_ige (by decide +kernel : decode cX3_wordStop 7 = .ok (.if_icmp .ge 20, 3)) (by decide) rfl
set_option maxRecDepth 100000 in
theorem s_31_27 (hC : SndC g HB l MM call) : Snd g HB l call cX3_wordStop 3 yX3_wordStop.cls yX3_wordStop.name 27 (lf (q_load isI 2 28)) := lf_ok (p_iload_n (by decide +kernel : decode cX3_wordStop 27 = .ok (.iload_n 2, 1)) rfl rfl)
set_option maxRecDepth 100000 in
theorem ok_31 (hex : HB.size = g.1) (hC : SndC g HB l MM call) : ∀ x ∈ P_31, Snd g HB l call cX3_wordStop 3 yX3_wordStop.cls yX3_wordStop.name x.1 x.2 := fa2 (s_31_0 hC) (fa2 (s_31_1 hC) (fa2 (s_31_2 hC) (fa2 (s_31_3 hC) (fa2 (s_31_4 hC) (fa2 (s_31_7 hC) (fa2 (s_31_27 hC) (fn2)))))))
set_option maxRecDepth 100000 in
theorem ms_31 (hex : HB.size = g.1) : MSnd g HB l MM D_31 := ⟨by decide +kernel, fun _ hC => ok_31 hex hC, fa2 (show endOK cX3_wordStop (some .int) 28 1 from ⟨rfl, (by decide +kernel : decode cX3_wordStop 28 = .ok (.ireturn, 1))⟩) (fn2)⟩
set_option maxRecDepth 100000 in
theorem s_32_0 (hC : SndC g HB l MM call) : Snd g HB l call cX3_isOfLetters 4 yX3_isOfLetters.cls yX3_isOfLetters.name 0 (lf (q_load isI 1 1)) := lf_ok (p_iload_n (by decide +kernel : decode cX3_isOfLetters 0 = .ok (.iload_n 1, 1)) rfl rfl)
set_option maxRecDepth 100000 in
theorem s_32_1 (hC : SndC g HB l MM call) : Snd g HB l call cX3_isOfLetters 4 yX3_isOfLetters.cls yX3_isOfLetters.name 1 (lf (q_store isI up1 0 3 4 2)) := lf_ok (p_istore_n (by decide +kernel : decode cX3_isOfLetters 1 = .ok (.istore_n 3, 1)) rfl rfl)
set_option maxRecDepth 100000 in
theorem s_32_2 (hC : SndC g HB l MM call) : Snd g HB l call cX3_isOfLetters 4 yX3_isOfLetters.cls yX3_isOfLetters.name 2 (lf (q_load isI 3 3)) := lf_ok (p_iload_n (by decide +kernel : decode cX3_isOfLetters 2 = .ok (.iload_n 3, 1)) rfl rfl)
set_option maxRecDepth 100000 in
theorem s_32_3 (hC : SndC g HB l MM call) : Snd g HB l call cX3_isOfLetters 4 yX3_isOfLetters.cls yX3_isOfLetters.name 3 (lf (q_load isI 2 4)) := lf_ok (p_iload_n (by decide +kernel : decode cX3_isOfLetters 3 = .ok (.iload_n 2, 1)) rfl rfl)
set_option maxRecDepth 100000 in
theorem s_32_4 (hC : SndC g HB l MM call) : Snd g HB l call cX3_isOfLetters 4 yX3_isOfLetters.cls yX3_isOfLetters.name 4 (s_br2 3 26 7) := b_ige (by decide +kernel : decode cX3_isOfLetters 4 = .ok (.if_icmp .ge 22, 3)) (by decide) rfl
set_option maxRecDepth 100000 in
theorem s_32_26 (hC : SndC g HB l MM call) : Snd g HB l call cX3_isOfLetters 4 yX3_isOfLetters.cls yX3_isOfLetters.name 26 (lf (q_load isI 2 27)) := lf_ok (p_iload_n (by decide +kernel : decode cX3_isOfLetters 26 = .ok (.iload_n 2, 1)) rfl rfl)
set_option maxRecDepth 100000 in
theorem s_32_27 (hC : SndC g HB l MM call) : Snd g HB l call cX3_isOfLetters 4 yX3_isOfLetters.cls yX3_isOfLetters.name 27 (lf (q_load isI 1 28)) := lf_ok (p_iload_n (by decide +kernel : decode cX3_isOfLetters 27 = .ok (.iload_n 1, 1)) rfl rfl)
set_option maxRecDepth 100000 in
theorem s_32_28 (hC : SndC g HB l MM call) : Snd g HB l call cX3_isOfLetters 4 yX3_isOfLetters.cls yX3_isOfLetters.name 28 (s_br2 5 35 31) := b_ile (by decide +kernel : decode cX3_isOfLetters 28 = .ok (.if_icmp .le 7, 3)) (by decide) rfl
set_option maxRecDepth 100000 in
theorem s_32_35 (hC : SndC g HB l MM call) : Snd g HB l call cX3_isOfLetters 4 yX3_isOfLetters.cls yX3_isOfLetters.name 35 (lf (q_push (.inl 0) 36)) := lf_ok (p_iconst (by decide +kernel : decode cX3_isOfLetters 35 = .ok (.iconst 0, 1)) (by decide +kernel) rfl)
set_option maxRecDepth 100000 in
theorem ok_32 (hex : HB.size = g.1) (hC : SndC g HB l MM call) : ∀ x ∈ P_32, Snd g HB l call cX3_isOfLetters 4 yX3_isOfLetters.cls yX3_isOfLetters.name x.1 x.2 := fa2 (s_32_0 hC) (fa2 (s_32_1 hC) (fa2 (s_32_2 hC) (fa2 (s_32_3 hC) (fa2 (s_32_4 hC) (fa2 (s_32_26 hC) (fa2 (s_32_27 hC) (fa2 (s_32_28 hC) (fa2 (s_32_35 hC) (fn2)))))))))
set_option maxRecDepth 100000 in
theorem ms_32 (hex : HB.size = g.1) : MSnd g HB l MM D_32 := ⟨by decide +kernel, fun _ hC => ok_32 hex hC, fa2 (show endOK cX3_isOfLetters (some .boolean) 36 2 from (by decide +kernel : decode cX3_isOfLetters 36 = .ok (.ireturn, 1))) (fn2)⟩
set_option maxRecDepth 100000 in
theorem s_33_0 (hC : SndC g HB l MM call) : Snd g HB l call cX1_numberIn 5 yX1_numberIn.cls yX1_numberIn.name 0 (lf (q_load isI 2 1)) := lf_ok (p_iload_n (by decide +kernel : decode cX1_numberIn 0 = .ok (.iload_n 2, 1)) rfl rfl)
set_option maxRecDepth 100000 in
theorem s_33_1 (hC : SndC g HB l MM call) : Snd g HB l call cX1_numberIn 5 yX1_numberIn.cls yX1_numberIn.name 1 (lf (q_load isI 1 2)) := lf_ok (p_iload_n (by decide +kernel : decode cX1_numberIn 1 = .ok (.iload_n 1, 1)) rfl rfl)
set_option maxRecDepth 100000 in
theorem s_33_2 (hC : SndC g HB l MM call) : Snd g HB l call cX1_numberIn 5 yX1_numberIn.cls yX1_numberIn.name 2 (lf (q_bin (iop2 (fun x y => x - y)) 3)) := lf_ok (p_isub (by decide +kernel : decode cX1_numberIn 2 = .ok (.isub, 1)) rfl)
set_option maxRecDepth 100000 in
theorem s_33_3 (hC : SndC g HB l MM call) : Snd g HB l call cX1_numberIn 5 yX1_numberIn.cls yX1_numberIn.name 3 (lf (q_push (.inl 1) 4)) := lf_ok (p_iconst (by decide +kernel : decode cX1_numberIn 3 = .ok (.iconst 1, 1)) (by decide +kernel) rfl)
set_option maxRecDepth 100000 in
theorem s_33_4 (hC : SndC g HB l MM call) : Snd g HB l call cX1_numberIn 5 yX1_numberIn.cls yX1_numberIn.name 4 (s_br2 2 15 7) := b_ilt (by decide +kernel : decode cX1_numberIn 4 = .ok (.if_icmp .lt 11, 3)) (by decide) rfl
set_option maxRecDepth 100000 in
theorem s_33_15 (hC : SndC g HB l MM call) : Snd g HB l call cX1_numberIn 5 yX1_numberIn.cls yX1_numberIn.name 15 (lf (q_push (.inl 4294967295) 16)) := lf_ok (p_iconst (by decide +kernel : decode cX1_numberIn 15 = .ok (.iconst (-1), 1)) (by decide +kernel) rfl)
set_option maxRecDepth 100000 in
theorem ok_33 (hex : HB.size = g.1) (hC : SndC g HB l MM call) : ∀ x ∈ P_33, Snd g HB l call cX1_numberIn 5 yX1_numberIn.cls yX1_numberIn.name x.1 x.2 := fa2 (s_33_0 hC) (fa2 (s_33_1 hC) (fa2 (s_33_2 hC) (fa2 (s_33_3 hC) (fa2 (s_33_4 hC) (fa2 (s_33_15 hC) (fn2))))))
set_option maxRecDepth 100000 in
theorem ms_33 (hex : HB.size = g.1) : MSnd g HB l MM D_33 := ⟨by decide +kernel, fun _ hC => ok_33 hex hC, fa2 (show endOK cX1_numberIn (some .int) 16 1 from ⟨rfl, (by decide +kernel : decode cX1_numberIn 16 = .ok (.ireturn, 1))⟩) (fn2)⟩
set_option maxRecDepth 100000 in
theorem s_34_0 (hC : SndC g HB l MM call) : Snd g HB l call cX3_monthAt 3 yX3_monthAt.cls yX3_monthAt.name 0 (lf (q_push (.inl 0) 1)) := lf_ok (p_iconst (by decide +kernel : decode cX3_monthAt 0 = .ok (.iconst 0, 1)) (by decide +kernel) rfl)
set_option maxRecDepth 100000 in
theorem s_34_1 (hC : SndC g HB l MM call) : Snd g HB l call cX3_monthAt 3 yX3_monthAt.cls yX3_monthAt.name 1 (lf (q_store isI up1 0 2 3 2)) := lf_ok (p_istore_n (by decide +kernel : decode cX3_monthAt 1 = .ok (.istore_n 2, 1)) rfl rfl)
set_option maxRecDepth 100000 in
theorem s_34_2 (hC : SndC g HB l MM call) : Snd g HB l call cX3_monthAt 3 yX3_monthAt.cls yX3_monthAt.name 2 (lf (q_load isI 2 3)) := lf_ok (p_iload_n (by decide +kernel : decode cX3_monthAt 2 = .ok (.iload_n 2, 1)) rfl rfl)
set_option maxRecDepth 100000 in
theorem s_34_3 (hC : SndC g HB l MM call) : Snd g HB l call cX3_monthAt 3 yX3_monthAt.cls yX3_monthAt.name 3 (lf (q_push (.inl 12) 5)) := lf_ok (p_bipush (by decide +kernel : decode cX3_monthAt 3 = .ok (.bipush 12, 2)) (by decide +kernel) rfl)
set_option maxRecDepth 100000 in
theorem s_34_5 (hC : SndC g HB l MM call) : Snd g HB l call cX3_monthAt 3 yX3_monthAt.cls yX3_monthAt.name 5 (s_br2 3 29 8) := b_ige (by decide +kernel : decode cX3_monthAt 5 = .ok (.if_icmp .ge 24, 3)) (by decide) rfl
set_option maxRecDepth 100000 in
theorem s_34_8 (hC : SndC g HB l MM call) : Snd g HB l call cX3_monthAt 3 yX3_monthAt.cls yX3_monthAt.name 8 (lf (q_load isR 0 9)) := lf_ok (p_aload_n (by decide +kernel : decode cX3_monthAt 8 = .ok (.aload_n 0, 1)) rfl rfl)
set_option maxRecDepth 100000 in
theorem s_34_9 (hC : SndC g HB l MM call) : Snd g HB l call cX3_monthAt 3 yX3_monthAt.cls yX3_monthAt.name 9 (lf (q_load isI 1 10)) := lf_ok (p_iload_n (by decide +kernel : decode cX3_monthAt 9 = .ok (.iload_n 1, 1)) rfl rfl)
set_option maxRecDepth 100000 in
theorem s_34_10 (hC : SndC g HB l MM call) : Snd g HB l call cX3_monthAt 3 yX3_monthAt.cls yX3_monthAt.name 10 (lf (q_load isI 2 11)) := lf_ok (p_iload_n (by decide +kernel : decode cX3_monthAt 10 = .ok (.iload_n 2, 1)) rfl rfl)
set_option maxRecDepth 100000 in
theorem s_34_11 (hC : SndC g HB l MM call) : Snd g HB l call cX3_monthAt 3 yX3_monthAt.cls yX3_monthAt.name 11 (lf (q_push (.inl 3) 12)) := lf_ok (p_iconst (by decide +kernel : decode cX3_monthAt 11 = .ok (.iconst 3, 1)) (by decide +kernel) rfl)
set_option maxRecDepth 100000 in
theorem s_34_12 (hC : SndC g HB l MM call) : Snd g HB l call cX3_monthAt 3 yX3_monthAt.cls yX3_monthAt.name 12 (lf (q_bin (iop2 (fun x y => x * y)) 13)) := lf_ok (p_imul (by decide +kernel : decode cX3_monthAt 12 = .ok (.imul, 1)) rfl)
set_option maxRecDepth 100000 in
theorem s_34_13 (hC : SndC g HB l MM call) : Snd g HB l call cX3_monthAt 3 yX3_monthAt.cls yX3_monthAt.name 13 (s_cS 35 3 23 16) := c_S hC (M := MM) (id := 35) (d := D_35) rfl mok_35 rfl (tin 4 70 (by decide +kernel) rfl) (tin 4 71 (by decide +kernel) rfl) (tin 1 24 (by decide +kernel) rfl) (by decide +kernel : decode cX3_monthAt 13 = .ok (.invokestatic 74, 3)) rfl
set_option maxRecDepth 100000 in
theorem s_34_16 (hC : SndC g HB l MM call) : Snd g HB l call cX3_monthAt 3 yX3_monthAt.cls yX3_monthAt.name 16 (s_br1 0 23 19) := b_eq (by decide +kernel : decode cX3_monthAt 16 = .ok (.ifCond .eq 7, 3)) (by decide) rfl
set_option maxRecDepth 100000 in
theorem s_34_23 (hC : SndC g HB l MM call) : Snd g HB l call cX3_monthAt 3 yX3_monthAt.cls yX3_monthAt.name 23 (lf (q_iinc 2 1 3 26)) := lf_ok (p_iinc (by decide +kernel : decode cX3_monthAt 23 = .ok (.iinc 2 1, 3)) rfl)
set_option maxRecDepth 100000 in
theorem s_34_26 (hC : SndC g HB l MM call) : Snd g HB l call cX3_monthAt 3 yX3_monthAt.cls yX3_monthAt.name 26 (lf (q_goto 2)) := lf_ok (p_goto (by decide +kernel : decode cX3_monthAt 26 = .ok (.goto (-24), 3)) (by decide))
set_option maxRecDepth 100000 in
theorem s_34_29 (hC : SndC g HB l MM call) : Snd g HB l call cX3_monthAt 3 yX3_monthAt.cls yX3_monthAt.name 29 (lf (q_push (.inl 4294967295) 30)) := lf_ok (p_iconst (by decide +kernel : decode cX3_monthAt 29 = .ok (.iconst (-1), 1)) (by decide +kernel) rfl)
set_option maxRecDepth 100000 in
theorem ok_34 (hex : HB.size = g.1) (hC : SndC g HB l MM call) : ∀ x ∈ P_34, Snd g HB l call cX3_monthAt 3 yX3_monthAt.cls yX3_monthAt.name x.1 x.2 := fa2 (s_34_0 hC) (fa2 (s_34_1 hC) (fa2 (s_34_2 hC) (fa2 (s_34_3 hC) (fa2 (s_34_5 hC) (fa2 (s_34_8 hC) (fa2 (s_34_9 hC) (fa2 (s_34_10 hC) (fa2 (s_34_11 hC) (fa2 (s_34_12 hC) (fa2 (s_34_13 hC) (fa2 (s_34_16 hC) (fa2 (s_34_23 hC) (fa2 (s_34_26 hC) (fa2 (s_34_29 hC) (fn2)))))))))))))))
set_option maxRecDepth 100000 in
theorem ms_34 (hex : HB.size = g.1) : MSnd g HB l MM D_34 := ⟨by decide +kernel, fun _ hC => ok_34 hex hC, fa2 (show endOK cX3_monthAt (some .int) 30 1 from ⟨rfl, (by decide +kernel : decode cX3_monthAt 30 = .ok (.ireturn, 1))⟩) (fn2)⟩
set_option maxRecDepth 100000 in
theorem s_35_0 (hC : SndC g HB l MM call) : Snd g HB l call cX3_isMonthAt 4 yX3_isMonthAt.cls yX3_isMonthAt.name 0 (lf (q_push (.inl 0) 1)) := lf_ok (p_iconst (by decide +kernel : decode cX3_isMonthAt 0 = .ok (.iconst 0, 1)) (by decide +kernel) rfl)
set_option maxRecDepth 100000 in
theorem s_35_1 (hC : SndC g HB l MM call) : Snd g HB l call cX3_isMonthAt 4 yX3_isMonthAt.cls yX3_isMonthAt.name 1 (lf (q_store isI up1 0 3 4 2)) := lf_ok (p_istore_n (by decide +kernel : decode cX3_isMonthAt 1 = .ok (.istore_n 3, 1)) rfl rfl)
set_option maxRecDepth 100000 in
theorem s_35_2 (hC : SndC g HB l MM call) : Snd g HB l call cX3_isMonthAt 4 yX3_isMonthAt.cls yX3_isMonthAt.name 2 (lf (q_load isI 3 3)) := lf_ok (p_iload_n (by decide +kernel : decode cX3_isMonthAt 2 = .ok (.iload_n 3, 1)) rfl rfl)
set_option maxRecDepth 100000 in
theorem s_35_3 (hC : SndC g HB l MM call) : Snd g HB l call cX3_isMonthAt 4 yX3_isMonthAt.cls yX3_isMonthAt.name 3 (lf (q_push (.inl 3) 4)) := lf_ok (p_iconst (by decide +kernel : decode cX3_isMonthAt 3 = .ok (.iconst 3, 1)) (by decide +kernel) rfl)
set_option maxRecDepth 100000 in
theorem s_35_4 (hC : SndC g HB l MM call) : Snd g HB l call cX3_isMonthAt 4 yX3_isMonthAt.cls yX3_isMonthAt.name 4 (s_br2 3 47 7) := b_ige (by decide +kernel : decode cX3_isMonthAt 4 = .ok (.if_icmp .ge 43, 3)) (by decide) rfl
set_option maxRecDepth 100000 in
theorem s_35_7 (hC : SndC g HB l MM call) : Snd g HB l call cX3_isMonthAt 4 yX3_isMonthAt.cls yX3_isMonthAt.name 7 (lf (q_load isI 2 8)) := lf_ok (p_iload_n (by decide +kernel : decode cX3_isMonthAt 7 = .ok (.iload_n 2, 1)) rfl rfl)
set_option maxRecDepth 100000 in
theorem s_35_8 (hC : SndC g HB l MM call) : Snd g HB l call cX3_isMonthAt 4 yX3_isMonthAt.cls yX3_isMonthAt.name 8 (lf (q_load isI 3 9)) := lf_ok (p_iload_n (by decide +kernel : decode cX3_isMonthAt 8 = .ok (.iload_n 3, 1)) rfl rfl)
set_option maxRecDepth 100000 in
theorem s_35_9 (hC : SndC g HB l MM call) : Snd g HB l call cX3_isMonthAt 4 yX3_isMonthAt.cls yX3_isMonthAt.name 9 (lf (q_bin (iop2 (fun x y => x + y)) 10)) := lf_ok (p_iadd (by decide +kernel : decode cX3_isMonthAt 9 = .ok (.iadd, 1)) rfl)
set_option maxRecDepth 100000 in
theorem s_35_10 (hC : SndC g HB l MM call) : Snd g HB l call cX3_isMonthAt 4 yX3_isMonthAt.cls yX3_isMonthAt.name 10 (s_val (.inr (.inr (.float (UInt32.ofNat 1)))) 12) := m_ldcS (tx := "janfebmaraprmayjunjulaugsepoctnovdec") (q := 1) (List.mem_of_getElem? (i := 0) rfl) (by decide +kernel) (by decide +kernel : decode cX3_isMonthAt 10 = .ok (.ldc 77, 2)) rfl
set_option maxRecDepth 100000 in
theorem s_35_12 (hC : SndC g HB l MM call) : Snd g HB l call cX3_isMonthAt 4 yX3_isMonthAt.cls yX3_isMonthAt.name 12 (s_cVX [1, 3, 5] 36 0 20 15) := m_cVX (C := "java/lang/String") vso_ok hC (M := MM) (id := 36) (d := D_36) rfl mok_36 rfl rfl (tin 4 74 (by decide +kernel) rfl) (tin 3 203 (by decide +kernel) rfl) (tin 3 204 (by decide +kernel) rfl) (tin 1 20 (by decide +kernel) rfl) (by decide +kernel : decode cX3_isMonthAt 12 = .ok (.invokevirtual 79, 3)) rfl
set_option maxRecDepth 100000 in
theorem s_35_15 (hC : SndC g HB l MM call) : Snd g HB l call cX3_isMonthAt 4 yX3_isMonthAt.cls yX3_isMonthAt.name 15 (s_br2 3 47 18) := b_ige (by decide +kernel : decode cX3_isMonthAt 15 = .ok (.if_icmp .ge 32, 3)) (by decide) rfl
set_option maxRecDepth 100000 in
theorem s_35_18 (hC : SndC g HB l MM call) : Snd g HB l call cX3_isMonthAt 4 yX3_isMonthAt.cls yX3_isMonthAt.name 18 (lf (q_load isR 0 19)) := lf_ok (p_aload_n (by decide +kernel : decode cX3_isMonthAt 18 = .ok (.aload_n 0, 1)) rfl rfl)
set_option maxRecDepth 100000 in
theorem s_35_19 (hC : SndC g HB l MM call) : Snd g HB l call cX3_isMonthAt 4 yX3_isMonthAt.cls yX3_isMonthAt.name 19 (lf (q_load isI 1 20)) := lf_ok (p_iload_n (by decide +kernel : decode cX3_isMonthAt 19 = .ok (.iload_n 1, 1)) rfl rfl)
set_option maxRecDepth 100000 in
theorem s_35_20 (hC : SndC g HB l MM call) : Snd g HB l call cX3_isMonthAt 4 yX3_isMonthAt.cls yX3_isMonthAt.name 20 (lf (q_load isI 3 21)) := lf_ok (p_iload_n (by decide +kernel : decode cX3_isMonthAt 20 = .ok (.iload_n 3, 1)) rfl rfl)
set_option maxRecDepth 100000 in
theorem s_35_21 (hC : SndC g HB l MM call) : Snd g HB l call cX3_isMonthAt 4 yX3_isMonthAt.cls yX3_isMonthAt.name 21 (lf (q_bin (iop2 (fun x y => x + y)) 22)) := lf_ok (p_iadd (by decide +kernel : decode cX3_isMonthAt 21 = .ok (.iadd, 1)) rfl)
set_option maxRecDepth 100000 in
theorem s_35_22 (hC : SndC g HB l MM call) : Snd g HB l call cX3_isMonthAt 4 yX3_isMonthAt.cls yX3_isMonthAt.name 22 (s_cV 2 20 1 21 25) := c_V (C := RX1) (T := TX1) (N := 2) (ci := 2) rfl hC (M := MM) (id := 20) (d := D_20) rfl mok_20 rfl rfl (tin 4 50 (by decide +kernel) rfl) (tin 2 164 (by decide +kernel) rfl) (tin 2 165 (by decide +kernel) rfl) (tin 1 2 (by decide +kernel) rfl) (by decide +kernel : decode cX3_isMonthAt 22 = .ok (.invokevirtual 64, 3)) rfl
set_option maxRecDepth 100000 in
theorem s_35_25 (hC : SndC g HB l MM call) : Snd g HB l call cX3_isMonthAt 4 yX3_isMonthAt.cls yX3_isMonthAt.name 25 (s_cS 38 1 20 28) := c_S hC (M := MM) (id := 38) (d := D_38) rfl mok_38 rfl (tin 4 75 (by decide +kernel) rfl) (tin 3 218 (by decide +kernel) rfl) (tin 1 19 (by decide +kernel) rfl) (by decide +kernel : decode cX3_isMonthAt 25 = .ok (.invokestatic 84, 3)) rfl
set_option maxRecDepth 100000 in
theorem s_35_28 (hC : SndC g HB l MM call) : Snd g HB l call cX3_isMonthAt 4 yX3_isMonthAt.cls yX3_isMonthAt.name 28 (s_val (.inr (.inr (.float (UInt32.ofNat 1)))) 30) := m_ldcS (tx := "janfebmaraprmayjunjulaugsepoctnovdec") (q := 1) (List.mem_of_getElem? (i := 0) rfl) (by decide +kernel) (by decide +kernel : decode cX3_isMonthAt 28 = .ok (.ldc 77, 2)) rfl
set_option maxRecDepth 100000 in
theorem s_35_30 (hC : SndC g HB l MM call) : Snd g HB l call cX3_isMonthAt 4 yX3_isMonthAt.cls yX3_isMonthAt.name 30 (lf (q_load isI 2 31)) := lf_ok (p_iload_n (by decide +kernel : decode cX3_isMonthAt 30 = .ok (.iload_n 2, 1)) rfl rfl)
set_option maxRecDepth 100000 in
theorem s_35_31 (hC : SndC g HB l MM call) : Snd g HB l call cX3_isMonthAt 4 yX3_isMonthAt.cls yX3_isMonthAt.name 31 (lf (q_load isI 3 32)) := lf_ok (p_iload_n (by decide +kernel : decode cX3_isMonthAt 31 = .ok (.iload_n 3, 1)) rfl rfl)
set_option maxRecDepth 100000 in
theorem s_35_32 (hC : SndC g HB l MM call) : Snd g HB l call cX3_isMonthAt 4 yX3_isMonthAt.cls yX3_isMonthAt.name 32 (lf (q_bin (iop2 (fun x y => x + y)) 33)) := lf_ok (p_iadd (by decide +kernel : decode cX3_isMonthAt 32 = .ok (.iadd, 1)) rfl)
set_option maxRecDepth 100000 in
theorem s_35_33 (hC : SndC g HB l MM call) : Snd g HB l call cX3_isMonthAt 4 yX3_isMonthAt.cls yX3_isMonthAt.name 33 (s_cVX [1, 3, 5] 39 1 21 36) := m_cVX (C := "java/lang/String") vso_ok hC (M := MM) (id := 39) (d := D_39) rfl mok_39 rfl rfl (tin 4 76 (by decide +kernel) rfl) (tin 3 221 (by decide +kernel) rfl) (tin 3 222 (by decide +kernel) rfl) (tin 1 20 (by decide +kernel) rfl) (by decide +kernel : decode cX3_isMonthAt 33 = .ok (.invokevirtual 87, 3)) rfl
set_option maxRecDepth 100000 in
theorem s_35_36 (hC : SndC g HB l MM call) : Snd g HB l call cX3_isMonthAt 4 yX3_isMonthAt.cls yX3_isMonthAt.name 36 (s_br2 0 41 39) := b_ieq (by decide +kernel : decode cX3_isMonthAt 36 = .ok (.if_icmp .eq 5, 3)) (by decide) rfl
set_option maxRecDepth 100000 in
theorem s_35_39 (hC : SndC g HB l MM call) : Snd g HB l call cX3_isMonthAt 4 yX3_isMonthAt.cls yX3_isMonthAt.name 39 (lf (q_push (.inl 0) 40)) := lf_ok (p_iconst (by decide +kernel : decode cX3_isMonthAt 39 = .ok (.iconst 0, 1)) (by decide +kernel) rfl)
set_option maxRecDepth 100000 in
theorem ok_35 (hex : HB.size = g.1) (hC : SndC g HB l MM call) : ∀ x ∈ P_35, Snd g HB l call cX3_isMonthAt 4 yX3_isMonthAt.cls yX3_isMonthAt.name x.1 x.2 := fa2 (s_35_0 hC) (fa2 (s_35_1 hC) (fa2 (s_35_2 hC) (fa2 (s_35_3 hC) (fa2 (s_35_4 hC) (fa2 (s_35_7 hC) (fa2 (s_35_8 hC) (fa2 (s_35_9 hC) (fa2 (s_35_10 hC) (fa2 (s_35_12 hC) (fa2 (s_35_15 hC) (fa2 (s_35_18 hC) (fa2 (s_35_19 hC) (fa2 (s_35_20 hC) (fa2 (s_35_21 hC) (fa2 (s_35_22 hC) (fa2 (s_35_25 hC) (fa2 (s_35_28 hC) (fa2 (s_35_30 hC) (fa2 (s_35_31 hC) (fa2 (s_35_32 hC) (fa2 (s_35_33 hC) (fa2 (s_35_36 hC) (fa2 (s_35_39 hC) (fn2))))))))))))))))))))))))
set_option maxRecDepth 100000 in
theorem ms_35 (hex : HB.size = g.1) : MSnd g HB l MM D_35 := ⟨by decide +kernel, fun _ hC => ok_35 hex hC, fa2 (show endOK cX3_isMonthAt (some .boolean) 40 2 from (by decide +kernel : decode cX3_isMonthAt 40 = .ok (.ireturn, 1))) (fn2)⟩
set_option maxRecDepth 100000 in
theorem s_36_0 (hC : SndC g HB l MM call) : Snd g HB l call cJ0_length_8abf5 1 yJ0_length_8abf5.cls yJ0_length_8abf5.name 0 (lf (q_load isR 0 1)) := lf_ok (p_aload_n (by decide +kernel : decode cJ0_length_8abf5 0 = .ok (.aload_n 0, 1)) rfl rfl)
set_option maxRecDepth 100000 in
theorem s_36_1 (hC : SndC g HB l MM call) : Snd g HB l call cJ0_length_8abf5 1 yJ0_length_8abf5.cls yJ0_length_8abf5.name 1 (s_getX [(1, .inr (.inr (.float 2))), (3, .inr (.inr (.float 4))), (5, .inr (.inr (.float 6)))] 4) := m_getX (o9 := "java/lang/String") (f9 := "value") (d9 := "[B") vsv_ok (tin 9 60 (by decide +kernel) rfl) (by decide +kernel : decode cJ0_length_8abf5 1 = .ok (.getfield 9, 3)) rfl
set_option maxRecDepth 100000 in
theorem s_36_4 (hC : SndC g HB l MM call) : Snd g HB l call cJ0_length_8abf5 1 yJ0_length_8abf5.cls yJ0_length_8abf5.name 4 (s_alen 5) := h_alen (by decide +kernel : decode cJ0_length_8abf5 4 = .ok (.arraylength, 1)) rfl
set_option maxRecDepth 100000 in
theorem s_36_5 (hC : SndC g HB l MM call) : Snd g HB l call cJ0_length_8abf5 1 yJ0_length_8abf5.cls yJ0_length_8abf5.name 5 (lf (q_load isR 0 6)) := lf_ok (p_aload_n (by decide +kernel : decode cJ0_length_8abf5 5 = .ok (.aload_n 0, 1)) rfl rfl)
set_option maxRecDepth 100000 in
theorem s_36_6 (hC : SndC g HB l MM call) : Snd g HB l call cJ0_length_8abf5 1 yJ0_length_8abf5.cls yJ0_length_8abf5.name 6 (s_cVX [1, 3, 5] 37 0 20 9) := m_cVX (C := "java/lang/String") vso_ok hC (M := MM) (id := 37) (d := D_37) rfl mok_37 rfl rfl (tin 3 206 (by decide +kernel) rfl) (tin 3 207 (by decide +kernel) rfl) (tin 3 208 (by decide +kernel) rfl) (tin 1 20 (by decide +kernel) rfl) (by decide +kernel : decode cJ0_length_8abf5 6 = .ok (.invokevirtual 335, 3)) rfl
set_option maxRecDepth 100000 in
theorem s_36_9 (hC : SndC g HB l MM call) : Snd g HB l call cJ0_length_8abf5 1 yJ0_length_8abf5.cls yJ0_length_8abf5.name 9 (lf (q_bin shrA 10)) := lf_ok (p_ishr (by decide +kernel : decode cJ0_length_8abf5 9 = .ok (.ishr, 1)) rfl)
set_option maxRecDepth 100000 in
theorem ok_36 (hex : HB.size = g.1) (hC : SndC g HB l MM call) : ∀ x ∈ P_36, Snd g HB l call cJ0_length_8abf5 1 yJ0_length_8abf5.cls yJ0_length_8abf5.name x.1 x.2 := fa2 (s_36_0 hC) (fa2 (s_36_1 hC) (fa2 (s_36_4 hC) (fa2 (s_36_5 hC) (fa2 (s_36_6 hC) (fa2 (s_36_9 hC) (fn2))))))
set_option maxRecDepth 100000 in
theorem ms_36 (hex : HB.size = g.1) : MSnd g HB l MM D_36 := ⟨by decide +kernel, fun _ hC => ok_36 hex hC, fa2 (show endOK cJ0_length_8abf5 (some .int) 10 1 from ⟨rfl, (by decide +kernel : decode cJ0_length_8abf5 10 = .ok (.ireturn, 1))⟩) (fn2)⟩
set_option maxRecDepth 100000 in
theorem s_37_0 (hC : SndC g HB l MM call) : Snd g HB l call cJ0_coder_7d493 1 yJ0_coder_7d493.cls yJ0_coder_7d493.name 0 (s_val (.inl 1) 3) := m_gst (C := "java/lang/String") (f9 := "COMPACT_STRINGS") (d9 := "Z") (List.mem_of_getElem? (i := 1) rfl) (tin 3 210 (by decide +kernel) rfl) (by decide +kernel : decode cJ0_coder_7d493 0 = .ok (.getstatic 38, 3)) rfl
set_option maxRecDepth 100000 in
theorem s_37_3 (hC : SndC g HB l MM call) : Snd g HB l call cJ0_coder_7d493 1 yJ0_coder_7d493.cls yJ0_coder_7d493.name 3 (s_br1 0 13 6) := b_eq (by decide +kernel : decode cJ0_coder_7d493 3 = .ok (.ifCond .eq 10, 3)) (by decide) rfl
set_option maxRecDepth 100000 in
theorem s_37_6 (hC : SndC g HB l MM call) : Snd g HB l call cJ0_coder_7d493 1 yJ0_coder_7d493.cls yJ0_coder_7d493.name 6 (lf (q_load isR 0 7)) := lf_ok (p_aload_n (by decide +kernel : decode cJ0_coder_7d493 6 = .ok (.aload_n 0, 1)) rfl rfl)
set_option maxRecDepth 100000 in
theorem s_37_7 (hC : SndC g HB l MM call) : Snd g HB l call cJ0_coder_7d493 1 yJ0_coder_7d493.cls yJ0_coder_7d493.name 7 (s_getX [(1, .inl 0), (3, .inl 0), (5, .inl 0)] 10) := m_getX (o9 := "java/lang/String") (f9 := "coder") (d9 := "B") vsc_ok (tin 9 61 (by decide +kernel) rfl) (by decide +kernel : decode cJ0_coder_7d493 7 = .ok (.getfield 15, 3)) rfl
set_option maxRecDepth 100000 in
theorem s_37_10 (hC : SndC g HB l MM call) : Snd g HB l call cJ0_coder_7d493 1 yJ0_coder_7d493.cls yJ0_coder_7d493.name 10 (lf (q_goto 14)) := lf_ok (p_goto (by decide +kernel : decode cJ0_coder_7d493 10 = .ok (.goto 4, 3)) (by decide))
set_option maxRecDepth 100000 in
theorem ok_37 (hex : HB.size = g.1) (hC : SndC g HB l MM call) : ∀ x ∈ P_37, Snd g HB l call cJ0_coder_7d493 1 yJ0_coder_7d493.cls yJ0_coder_7d493.name x.1 x.2 := fa2 (s_37_0 hC) (fa2 (s_37_3 hC) (fa2 (s_37_6 hC) (fa2 (s_37_7 hC) (fa2 (s_37_10 hC) (fn2)))))
set_option maxRecDepth 100000 in
theorem ms_37 (hex : HB.size = g.1) : MSnd g HB l MM D_37 := ⟨by decide +kernel, fun _ hC => ok_37 hex hC, fa2 (show endOK cJ0_coder_7d493 (some .byte) 14 2 from (by decide +kernel : decode cJ0_coder_7d493 14 = .ok (.ireturn, 1))) (fn2)⟩
set_option maxRecDepth 100000 in
theorem s_38_0 (hC : SndC g HB l MM call) : Snd g HB l call cX9_small 1 yX9_small.cls yX9_small.name 0 (lf (q_load isI 0 1)) := lf_ok (p_iload_n (by decide +kernel : decode cX9_small 0 = .ok (.iload_n 0, 1)) rfl rfl)
set_option maxRecDepth 100000 in
theorem s_38_1 (hC : SndC g HB l MM call) : Snd g HB l call cX9_small 1 yX9_small.cls yX9_small.name 1 (lf (q_push (.inl 65) 3)) := lf_ok (p_bipush (by decide +kernel : decode cX9_small 1 = .ok (.bipush 65, 2)) (by decide +kernel) rfl)
set_option maxRecDepth 100000 in
theorem s_38_3 (hC : SndC g HB l MM call) : Snd g HB l call cX9_small 1 yX9_small.cls yX9_small.name 3 (s_br2 2 19 6) := b_ilt (by decide +kernel : decode cX9_small 3 = .ok (.if_icmp .lt 16, 3)) (by decide) rfl
set_option maxRecDepth 100000 in
theorem s_38_19 (hC : SndC g HB l MM call) : Snd g HB l call cX9_small 1 yX9_small.cls yX9_small.name 19 (lf (q_load isI 0 20)) := lf_ok (p_iload_n (by decide +kernel : decode cX9_small 19 = .ok (.iload_n 0, 1)) rfl rfl)
set_option maxRecDepth 100000 in
theorem ok_38 (hex : HB.size = g.1) (hC : SndC g HB l MM call) : ∀ x ∈ P_38, Snd g HB l call cX9_small 1 yX9_small.cls yX9_small.name x.1 x.2 := fa2 (s_38_0 hC) (fa2 (s_38_1 hC) (fa2 (s_38_3 hC) (fa2 (s_38_19 hC) (fn2))))
set_option maxRecDepth 100000 in
theorem ms_38 (hex : HB.size = g.1) : MSnd g HB l MM D_38 := ⟨by decide +kernel, fun _ hC => ok_38 hex hC, fa2 (show endOK cX9_small (some .int) 20 1 from ⟨rfl, (by decide +kernel : decode cX9_small 20 = .ok (.ireturn, 1))⟩) (fn2)⟩
set_option maxRecDepth 100000 in
theorem s_39_0 (hC : SndC g HB l MM call) : Snd g HB l call cJ0_charAt_5068e 2 yJ0_charAt_5068e.cls yJ0_charAt_5068e.name 0 (lf (q_load isR 0 1)) := lf_ok (p_aload_n (by decide +kernel : decode cJ0_charAt_5068e 0 = .ok (.aload_n 0, 1)) rfl rfl)
set_option maxRecDepth 100000 in
theorem s_39_1 (hC : SndC g HB l MM call) : Snd g HB l call cJ0_charAt_5068e 2 yJ0_charAt_5068e.cls yJ0_charAt_5068e.name 1 (s_cVX [1, 3, 5] 40 0 20 4) := m_cVX (C := "java/lang/String") vso_ok hC (M := MM) (id := 40) (d := D_40) rfl mok_40 rfl rfl (tin 3 224 (by decide +kernel) rfl) (tin 3 225 (by decide +kernel) rfl) (tin 3 226 (by decide +kernel) rfl) (tin 1 20 (by decide +kernel) rfl) (by decide +kernel : decode cJ0_charAt_5068e 1 = .ok (.invokevirtual 492, 3)) rfl
set_option maxRecDepth 100000 in
theorem s_39_4 (hC : SndC g HB l MM call) : Snd g HB l call cJ0_charAt_5068e 2 yJ0_charAt_5068e.cls yJ0_charAt_5068e.name 4 (s_br1 0 16 7) := b_eq (by decide +kernel : decode cJ0_charAt_5068e 4 = .ok (.ifCond .eq 12, 3)) (by decide) rfl
set_option maxRecDepth 100000 in
theorem s_39_7 (hC : SndC g HB l MM call) : Snd g HB l call cJ0_charAt_5068e 2 yJ0_charAt_5068e.cls yJ0_charAt_5068e.name 7 (lf (q_load isR 0 8)) := lf_ok (p_aload_n (by decide +kernel : decode cJ0_charAt_5068e 7 = .ok (.aload_n 0, 1)) rfl rfl)
set_option maxRecDepth 100000 in
theorem s_39_8 (hC : SndC g HB l MM call) : Snd g HB l call cJ0_charAt_5068e 2 yJ0_charAt_5068e.cls yJ0_charAt_5068e.name 8 (s_getX [(1, .inr (.inr (.float 2))), (3, .inr (.inr (.float 4))), (5, .inr (.inr (.float 6)))] 11) := m_getX (o9 := "java/lang/String") (f9 := "value") (d9 := "[B") vsv_ok (tin 9 60 (by decide +kernel) rfl) (by decide +kernel : decode cJ0_charAt_5068e 8 = .ok (.getfield 9, 3)) rfl
set_option maxRecDepth 100000 in
theorem s_39_11 (hC : SndC g HB l MM call) : Snd g HB l call cJ0_charAt_5068e 2 yJ0_charAt_5068e.cls yJ0_charAt_5068e.name 11 (lf (q_load isI 1 12)) := lf_ok (p_iload_n (by decide +kernel : decode cJ0_charAt_5068e 11 = .ok (.iload_n 1, 1)) rfl rfl)
set_option maxRecDepth 100000 in
theorem s_39_12 (hC : SndC g HB l MM call) : Snd g HB l call cJ0_charAt_5068e 2 yJ0_charAt_5068e.cls yJ0_charAt_5068e.name 12 (s_cS 41 2 21 15) := c_S hC (M := MM) (id := 41) (d := D_41) rfl mok_41 rfl (tin 3 228 (by decide +kernel) rfl) (tin 3 229 (by decide +kernel) rfl) (tin 1 21 (by decide +kernel) rfl) (by decide +kernel : decode cJ0_charAt_5068e 12 = .ok (.invokestatic 495, 3)) rfl
set_option maxRecDepth 100000 in
theorem ok_39 (hex : HB.size = g.1) (hC : SndC g HB l MM call) : ∀ x ∈ P_39, Snd g HB l call cJ0_charAt_5068e 2 yJ0_charAt_5068e.cls yJ0_charAt_5068e.name x.1 x.2 := fa2 (s_39_0 hC) (fa2 (s_39_1 hC) (fa2 (s_39_4 hC) (fa2 (s_39_7 hC) (fa2 (s_39_8 hC) (fa2 (s_39_11 hC) (fa2 (s_39_12 hC) (fn2)))))))
set_option maxRecDepth 100000 in
theorem ms_39 (hex : HB.size = g.1) : MSnd g HB l MM D_39 := ⟨by decide +kernel, fun _ hC => ok_39 hex hC, fa2 (show endOK cJ0_charAt_5068e (some .char) 15 2 from (by decide +kernel : decode cJ0_charAt_5068e 15 = .ok (.ireturn, 1))) (fn2)⟩
set_option maxRecDepth 100000 in
theorem s_40_0 (hC : SndC g HB l MM call) : Snd g HB l call cJ0_isLatin1_aae02 1 yJ0_isLatin1_aae02.cls yJ0_isLatin1_aae02.name 0 (s_val (.inl 1) 3) := m_gst (C := "java/lang/String") (f9 := "COMPACT_STRINGS") (d9 := "Z") (List.mem_of_getElem? (i := 1) rfl) (tin 3 210 (by decide +kernel) rfl) (by decide +kernel : decode cJ0_isLatin1_aae02 0 = .ok (.getstatic 38, 3)) rfl
set_option maxRecDepth 100000 in
theorem s_40_3 (hC : SndC g HB l MM call) : Snd g HB l call cJ0_isLatin1_aae02 1 yJ0_isLatin1_aae02.cls yJ0_isLatin1_aae02.name 3 (s_br1 0 17 6) := b_eq (by decide +kernel : decode cJ0_isLatin1_aae02 3 = .ok (.ifCond .eq 14, 3)) (by decide) rfl
set_option maxRecDepth 100000 in
theorem s_40_6 (hC : SndC g HB l MM call) : Snd g HB l call cJ0_isLatin1_aae02 1 yJ0_isLatin1_aae02.cls yJ0_isLatin1_aae02.name 6 (lf (q_load isR 0 7)) := lf_ok (p_aload_n (by decide +kernel : decode cJ0_isLatin1_aae02 6 = .ok (.aload_n 0, 1)) rfl rfl)
set_option maxRecDepth 100000 in
theorem s_40_7 (hC : SndC g HB l MM call) : Snd g HB l call cJ0_isLatin1_aae02 1 yJ0_isLatin1_aae02.cls yJ0_isLatin1_aae02.name 7 (s_getX [(1, .inl 0), (3, .inl 0), (5, .inl 0)] 10) := m_getX (o9 := "java/lang/String") (f9 := "coder") (d9 := "B") vsc_ok (tin 9 61 (by decide +kernel) rfl) (by decide +kernel : decode cJ0_isLatin1_aae02 7 = .ok (.getfield 15, 3)) rfl
set_option maxRecDepth 100000 in
theorem s_40_10 (hC : SndC g HB l MM call) : Snd g HB l call cJ0_isLatin1_aae02 1 yJ0_isLatin1_aae02.cls yJ0_isLatin1_aae02.name 10 (s_br1 1 17 13) := b_ne (by decide +kernel : decode cJ0_isLatin1_aae02 10 = .ok (.ifCond .ne 7, 3)) (by decide) rfl
set_option maxRecDepth 100000 in
theorem s_40_13 (hC : SndC g HB l MM call) : Snd g HB l call cJ0_isLatin1_aae02 1 yJ0_isLatin1_aae02.cls yJ0_isLatin1_aae02.name 13 (lf (q_push (.inl 1) 14)) := lf_ok (p_iconst (by decide +kernel : decode cJ0_isLatin1_aae02 13 = .ok (.iconst 1, 1)) (by decide +kernel) rfl)
set_option maxRecDepth 100000 in
theorem s_40_14 (hC : SndC g HB l MM call) : Snd g HB l call cJ0_isLatin1_aae02 1 yJ0_isLatin1_aae02.cls yJ0_isLatin1_aae02.name 14 (lf (q_goto 18)) := lf_ok (p_goto (by decide +kernel : decode cJ0_isLatin1_aae02 14 = .ok (.goto 4, 3)) (by decide))
set_option maxRecDepth 100000 in
theorem ok_40 (hex : HB.size = g.1) (hC : SndC g HB l MM call) : ∀ x ∈ P_40, Snd g HB l call cJ0_isLatin1_aae02 1 yJ0_isLatin1_aae02.cls yJ0_isLatin1_aae02.name x.1 x.2 := fa2 (s_40_0 hC) (fa2 (s_40_3 hC) (fa2 (s_40_6 hC) (fa2 (s_40_7 hC) (fa2 (s_40_10 hC) (fa2 (s_40_13 hC) (fa2 (s_40_14 hC) (fn2)))))))
set_option maxRecDepth 100000 in
theorem ms_40 (hex : HB.size = g.1) : MSnd g HB l MM D_40 := ⟨by decide +kernel, fun _ hC => ok_40 hex hC, fa2 (show endOK cJ0_isLatin1_aae02 (some .boolean) 18 2 from (by decide +kernel : decode cJ0_isLatin1_aae02 18 = .ok (.ireturn, 1))) (fn2)⟩
set_option maxRecDepth 100000 in
theorem s_41_0 (hC : SndC g HB l MM call) : Snd g HB l call cJ1_charAt_3b067 2 yJ1_charAt_3b067.cls yJ1_charAt_3b067.name 0 (lf (q_load isI 1 1)) := lf_ok (p_iload_n (by decide +kernel : decode cJ1_charAt_3b067 0 = .ok (.iload_n 1, 1)) rfl rfl)
set_option maxRecDepth 100000 in
theorem s_41_1 (hC : SndC g HB l MM call) : Snd g HB l call cJ1_charAt_3b067 2 yJ1_charAt_3b067.cls yJ1_charAt_3b067.name 1 (lf (q_load isR 0 2)) := lf_ok (p_aload_n (by decide +kernel : decode cJ1_charAt_3b067 1 = .ok (.aload_n 0, 1)) rfl rfl)
set_option maxRecDepth 100000 in
theorem s_41_2 (hC : SndC g HB l MM call) : Snd g HB l call cJ1_charAt_3b067 2 yJ1_charAt_3b067.cls yJ1_charAt_3b067.name 2 (s_alen 3) := h_alen (by decide +kernel : decode cJ1_charAt_3b067 2 = .ok (.arraylength, 1)) rfl
set_option maxRecDepth 100000 in
theorem s_41_3 (hC : SndC g HB l MM call) : Snd g HB l call cJ1_charAt_3b067 2 yJ1_charAt_3b067.cls yJ1_charAt_3b067.name 3 (s_cS 42 2 21 6) := c_S hC (M := MM) (id := 42) (d := D_42) rfl mok_42 rfl (tin 3 231 (by decide +kernel) rfl) (tin 3 232 (by decide +kernel) rfl) (tin 1 20 (by decide +kernel) rfl) (by decide +kernel : decode cJ1_charAt_3b067 3 = .ok (.invokestatic 9, 3)) rfl
set_option maxRecDepth 100000 in
theorem s_41_6 (hC : SndC g HB l MM call) : Snd g HB l call cJ1_charAt_3b067 2 yJ1_charAt_3b067.cls yJ1_charAt_3b067.name 6 (lf (q_load isR 0 7)) := lf_ok (p_aload_n (by decide +kernel : decode cJ1_charAt_3b067 6 = .ok (.aload_n 0, 1)) rfl rfl)
set_option maxRecDepth 100000 in
theorem s_41_7 (hC : SndC g HB l MM call) : Snd g HB l call cJ1_charAt_3b067 2 yJ1_charAt_3b067.cls yJ1_charAt_3b067.name 7 (lf (q_load isI 1 8)) := lf_ok (p_iload_n (by decide +kernel : decode cJ1_charAt_3b067 7 = .ok (.iload_n 1, 1)) rfl rfl)
set_option maxRecDepth 100000 in
theorem s_41_8 (hC : SndC g HB l MM call) : Snd g HB l call cJ1_charAt_3b067 2 yJ1_charAt_3b067.cls yJ1_charAt_3b067.name 8 (s_baldX 9) := m_baldX (by decide +kernel : decode cJ1_charAt_3b067 8 = .ok (.baload, 1)) rfl
set_option maxRecDepth 100000 in
theorem s_41_9 (hC : SndC g HB l MM call) : Snd g HB l call cJ1_charAt_3b067 2 yJ1_charAt_3b067.cls yJ1_charAt_3b067.name 9 (lf (q_push (.inl 255) 12)) := lf_ok (p_sipush (by decide +kernel : decode cJ1_charAt_3b067 9 = .ok (.sipush 255, 3)) (by decide +kernel) rfl)
set_option maxRecDepth 100000 in
theorem s_41_12 (hC : SndC g HB l MM call) : Snd g HB l call cJ1_charAt_3b067 2 yJ1_charAt_3b067.cls yJ1_charAt_3b067.name 12 (lf (q_bin (iop2 (fun x y => x &&& y)) 13)) := lf_ok (p_iand (by decide +kernel : decode cJ1_charAt_3b067 12 = .ok (.iand, 1)) rfl)
set_option maxRecDepth 100000 in
theorem s_41_13 (hC : SndC g HB l MM call) : Snd g HB l call cJ1_charAt_3b067 2 yJ1_charAt_3b067.cls yJ1_charAt_3b067.name 13 (lf (q_un (iop1 f_i2c) 14)) := lf_ok (p_i2c (by decide +kernel : decode cJ1_charAt_3b067 13 = .ok (.i2c, 1)) rfl)
set_option maxRecDepth 100000 in
theorem ok_41 (hex : HB.size = g.1) (hC : SndC g HB l MM call) : ∀ x ∈ P_41, Snd g HB l call cJ1_charAt_3b067 2 yJ1_charAt_3b067.cls yJ1_charAt_3b067.name x.1 x.2 := fa2 (s_41_0 hC) (fa2 (s_41_1 hC) (fa2 (s_41_2 hC) (fa2 (s_41_3 hC) (fa2 (s_41_6 hC) (fa2 (s_41_7 hC) (fa2 (s_41_8 hC) (fa2 (s_41_9 hC) (fa2 (s_41_12 hC) (fa2 (s_41_13 hC) (fn2))))))))))
set_option maxRecDepth 100000 in
theorem ms_41 (hex : HB.size = g.1) : MSnd g HB l MM D_41 := ⟨by decide +kernel, fun _ hC => ok_41 hex hC, fa2 (show endOK cJ1_charAt_3b067 (some .char) 14 2 from (by decide +kernel : decode cJ1_charAt_3b067 14 = .ok (.ireturn, 1))) (fn2)⟩
set_option maxRecDepth 100000 in
theorem s_42_0 (hC : SndC g HB l MM call) : Snd g HB l call cJ0_checkIndex_df160 2 yJ0_checkIndex_df160.cls yJ0_checkIndex_df160.name 0 (lf (q_load isI 0 1)) := lf_ok (p_iload_n (by decide +kernel : decode cJ0_checkIndex_df160 0 = .ok (.iload_n 0, 1)) rfl rfl)
set_option maxRecDepth 100000 in
theorem s_42_1 (hC : SndC g HB l MM call) : Snd g HB l call cJ0_checkIndex_df160 2 yJ0_checkIndex_df160.cls yJ0_checkIndex_df160.name 1 (lf (q_load isI 1 2)) := lf_ok (p_iload_n (by decide +kernel : decode cJ0_checkIndex_df160 1 = .ok (.iload_n 1, 1)) rfl rfl)
set_option maxRecDepth 100000 in
theorem s_42_2 (hC : SndC g HB l MM call) : Snd g HB l call cJ0_checkIndex_df160 2 yJ0_checkIndex_df160.cls yJ0_checkIndex_df160.name 2 (s_val (.inr (.inr (.retAddr 0))) 5) := m_gst (C := "jdk/internal/util/Preconditions") (f9 := "SIOOBE_FORMATTER") (d9 := "Ljava/util/function/BiFunction;") (List.mem_of_getElem? (i := 2) rfl) (tin 3 234 (by decide +kernel) rfl) (by decide +kernel : decode cJ0_checkIndex_df160 2 = .ok (.getstatic 1053, 3)) rfl
set_option maxRecDepth 100000 in
theorem s_42_5 (hC : SndC g HB l MM call) : Snd g HB l call cJ0_checkIndex_df160 2 yJ0_checkIndex_df160.cls yJ0_checkIndex_df160.name 5 (s_cS 43 3 22 8) := c_S hC (M := MM) (id := 43) (d := D_43) rfl mok_43 rfl (tin 3 236 (by decide +kernel) rfl) (tin 2 199 (by decide +kernel) rfl) (tin 1 22 (by decide +kernel) rfl) (by decide +kernel : decode cJ0_checkIndex_df160 5 = .ok (.invokestatic 1059, 3)) rfl
set_option maxRecDepth 100000 in
theorem s_42_8 (hC : SndC g HB l MM call) : Snd g HB l call cJ0_checkIndex_df160 2 yJ0_checkIndex_df160.cls yJ0_checkIndex_df160.name 8 (lf (q_pop 9)) := lf_ok (p_pop (by decide +kernel : decode cJ0_checkIndex_df160 8 = .ok (.pop, 1)) rfl)
set_option maxRecDepth 100000 in
theorem ok_42 (hex : HB.size = g.1) (hC : SndC g HB l MM call) : ∀ x ∈ P_42, Snd g HB l call cJ0_checkIndex_df160 2 yJ0_checkIndex_df160.cls yJ0_checkIndex_df160.name x.1 x.2 := fa2 (s_42_0 hC) (fa2 (s_42_1 hC) (fa2 (s_42_2 hC) (fa2 (s_42_5 hC) (fa2 (s_42_8 hC) (fn2)))))
set_option maxRecDepth 100000 in
theorem ms_42 (hex : HB.size = g.1) : MSnd g HB l MM D_42 := ⟨by decide +kernel, fun _ hC => ok_42 hex hC, fa2 (show endOK cJ0_checkIndex_df160 none 9 0 from ⟨rfl, (by decide +kernel : decode cJ0_checkIndex_df160 9 = .ok (.return_, 1))⟩) (fn2)⟩
set_option maxRecDepth 100000 in
theorem s_43_0 (hC : SndC g HB l MM call) : Snd g HB l call cJ3_checkIndex_8e157 3 yJ3_checkIndex_8e157.cls yJ3_checkIndex_8e157.name 0 (lf (q_load isI 0 1)) := lf_ok (p_iload_n (by decide +kernel : decode cJ3_checkIndex_8e157 0 = .ok (.iload_n 0, 1)) rfl rfl)
set_option maxRecDepth 100000 in
theorem s_43_1 (hC : SndC g HB l MM call) : Snd g HB l call cJ3_checkIndex_8e157 3 yJ3_checkIndex_8e157.cls yJ3_checkIndex_8e157.name 1 (s_br1 2 9 4) := b_lt (by decide +kernel : decode cJ3_checkIndex_8e157 1 = .ok (.ifCond .lt 8, 3)) (by decide) rfl
set_option maxRecDepth 100000 in
theorem s_43_4 (hC : SndC g HB l MM call) : Snd g HB l call cJ3_checkIndex_8e157 3 yJ3_checkIndex_8e157.cls yJ3_checkIndex_8e157.name 4 (lf (q_load isI 0 5)) := lf_ok (p_iload_n (by decide +kernel : decode cJ3_checkIndex_8e157 4 = .ok (.iload_n 0, 1)) rfl rfl)
set_option maxRecDepth 100000 in
theorem s_43_5 (hC : SndC g HB l MM call) : Snd g HB l call cJ3_checkIndex_8e157 3 yJ3_checkIndex_8e157.cls yJ3_checkIndex_8e157.name 5 (lf (q_load isI 1 6)) := lf_ok (p_iload_n (by decide +kernel : decode cJ3_checkIndex_8e157 5 = .ok (.iload_n 1, 1)) rfl rfl)
set_option maxRecDepth 100000 in
theorem s_43_6 (hC : SndC g HB l MM call) : Snd g HB l call cJ3_checkIndex_8e157 3 yJ3_checkIndex_8e157.cls yJ3_checkIndex_8e157.name 6 (s_br2 2 16 9) := b_ilt (by decide +kernel : decode cJ3_checkIndex_8e157 6 = .ok (.if_icmp .lt 10, 3)) (by decide) rfl
set_option maxRecDepth 100000 in
theorem s_43_16 (hC : SndC g HB l MM call) : Snd g HB l call cJ3_checkIndex_8e157 3 yJ3_checkIndex_8e157.cls yJ3_checkIndex_8e157.name 16 (lf (q_load isI 0 17)) := lf_ok (p_iload_n (by decide +kernel : decode cJ3_checkIndex_8e157 16 = .ok (.iload_n 0, 1)) rfl rfl)
set_option maxRecDepth 100000 in
theorem ok_43 (hex : HB.size = g.1) (hC : SndC g HB l MM call) : ∀ x ∈ P_43, Snd g HB l call cJ3_checkIndex_8e157 3 yJ3_checkIndex_8e157.cls yJ3_checkIndex_8e157.name x.1 x.2 := fa2 (s_43_0 hC) (fa2 (s_43_1 hC) (fa2 (s_43_4 hC) (fa2 (s_43_5 hC) (fa2 (s_43_6 hC) (fa2 (s_43_16 hC) (fn2))))))
set_option maxRecDepth 100000 in
theorem ms_43 (hex : HB.size = g.1) : MSnd g HB l MM D_43 := ⟨by decide +kernel, fun _ hC => ok_43 hex hC, fa2 (show endOK cJ3_checkIndex_8e157 (some .int) 17 1 from ⟨rfl, (by decide +kernel : decode cJ3_checkIndex_8e157 17 = .ok (.ireturn, 1))⟩) (fn2)⟩
set_option maxRecDepth 100000 in
theorem s_44_0 (hC : SndC g HB l MM call) : Snd g HB l call cX3_yearIn 4 yX3_yearIn.cls yX3_yearIn.name 0 (lf (q_load isR 0 1)) := lf_ok (p_aload_n (by decide +kernel : decode cX3_yearIn 0 = .ok (.aload_n 0, 1)) rfl rfl)
set_option maxRecDepth 100000 in
theorem s_44_1 (hC : SndC g HB l MM call) : Snd g HB l call cX3_yearIn 4 yX3_yearIn.cls yX3_yearIn.name 1 (lf (q_load isI 1 2)) := lf_ok (p_iload_n (by decide +kernel : decode cX3_yearIn 1 = .ok (.iload_n 1, 1)) rfl rfl)
set_option maxRecDepth 100000 in
theorem s_44_2 (hC : SndC g HB l MM call) : Snd g HB l call cX3_yearIn 4 yX3_yearIn.cls yX3_yearIn.name 2 (lf (q_load isI 2 3)) := lf_ok (p_iload_n (by decide +kernel : decode cX3_yearIn 2 = .ok (.iload_n 2, 1)) rfl rfl)
set_option maxRecDepth 100000 in
theorem s_44_3 (hC : SndC g HB l MM call) : Snd g HB l call cX3_yearIn 4 yX3_yearIn.cls yX3_yearIn.name 3 (s_cV 2 33 2 24 6) := c_V (C := RX1) (T := TX1) (N := 2) (ci := 2) rfl hC (M := MM) (id := 33) (d := D_33) rfl mok_33 rfl rfl (tin 4 62 (by decide +kernel) rfl) (tin 4 63 (by decide +kernel) rfl) (tin 4 64 (by decide +kernel) rfl) (tin 1 2 (by decide +kernel) rfl) (by decide +kernel : decode cX3_yearIn 3 = .ok (.invokevirtual 17, 3)) rfl
set_option maxRecDepth 100000 in
theorem s_44_6 (hC : SndC g HB l MM call) : Snd g HB l call cX3_yearIn 4 yX3_yearIn.cls yX3_yearIn.name 6 (lf (q_store isI up1 0 3 4 7)) := lf_ok (p_istore_n (by decide +kernel : decode cX3_yearIn 6 = .ok (.istore_n 3, 1)) rfl rfl)
set_option maxRecDepth 100000 in
theorem s_44_7 (hC : SndC g HB l MM call) : Snd g HB l call cX3_yearIn 4 yX3_yearIn.cls yX3_yearIn.name 7 (lf (q_load isI 2 8)) := lf_ok (p_iload_n (by decide +kernel : decode cX3_yearIn 7 = .ok (.iload_n 2, 1)) rfl rfl)
set_option maxRecDepth 100000 in
theorem s_44_8 (hC : SndC g HB l MM call) : Snd g HB l call cX3_yearIn 4 yX3_yearIn.cls yX3_yearIn.name 8 (lf (q_load isI 1 9)) := lf_ok (p_iload_n (by decide +kernel : decode cX3_yearIn 8 = .ok (.iload_n 1, 1)) rfl rfl)
set_option maxRecDepth 100000 in
theorem s_44_9 (hC : SndC g HB l MM call) : Snd g HB l call cX3_yearIn 4 yX3_yearIn.cls yX3_yearIn.name 9 (lf (q_bin (iop2 (fun x y => x - y)) 10)) := lf_ok (p_isub (by decide +kernel : decode cX3_yearIn 9 = .ok (.isub, 1)) rfl)
set_option maxRecDepth 100000 in
theorem s_44_10 (hC : SndC g HB l MM call) : Snd g HB l call cX3_yearIn 4 yX3_yearIn.cls yX3_yearIn.name 10 (lf (q_push (.inl 4) 11)) := lf_ok (p_iconst (by decide +kernel : decode cX3_yearIn 10 = .ok (.iconst 4, 1)) (by decide +kernel) rfl)
set_option maxRecDepth 100000 in
theorem s_44_11 (hC : SndC g HB l MM call) : Snd g HB l call cX3_yearIn 4 yX3_yearIn.cls yX3_yearIn.name 11 (s_br2 0 19 14) := b_ieq (by decide +kernel : decode cX3_yearIn 11 = .ok (.if_icmp .eq 8, 3)) (by decide) rfl
set_option maxRecDepth 100000 in
theorem s_44_14 (hC : SndC g HB l MM call) : Snd g HB l call cX3_yearIn 4 yX3_yearIn.cls yX3_yearIn.name 14 (lf (q_load isI 3 15)) := lf_ok (p_iload_n (by decide +kernel : decode cX3_yearIn 14 = .ok (.iload_n 3, 1)) rfl rfl)
set_option maxRecDepth 100000 in
theorem s_44_15 (hC : SndC g HB l MM call) : Snd g HB l call cX3_yearIn 4 yX3_yearIn.cls yX3_yearIn.name 15 (lf (q_push (.inl 4294967295) 16)) := lf_ok (p_iconst (by decide +kernel : decode cX3_yearIn 15 = .ok (.iconst (-1), 1)) (by decide +kernel) rfl)
set_option maxRecDepth 100000 in
theorem s_44_16 (hC : SndC g HB l MM call) : Snd g HB l call cX3_yearIn 4 yX3_yearIn.cls yX3_yearIn.name 16 (s_br2 1 21 19) := b_ine (by decide +kernel : decode cX3_yearIn 16 = .ok (.if_icmp .ne 5, 3)) (by decide) rfl
set_option maxRecDepth 100000 in
theorem s_44_19 (hC : SndC g HB l MM call) : Snd g HB l call cX3_yearIn 4 yX3_yearIn.cls yX3_yearIn.name 19 (lf (q_load isI 3 20)) := lf_ok (p_iload_n (by decide +kernel : decode cX3_yearIn 19 = .ok (.iload_n 3, 1)) rfl rfl)
set_option maxRecDepth 100000 in
theorem ok_44 (hex : HB.size = g.1) (hC : SndC g HB l MM call) : ∀ x ∈ P_44, Snd g HB l call cX3_yearIn 4 yX3_yearIn.cls yX3_yearIn.name x.1 x.2 := fa2 (s_44_0 hC) (fa2 (s_44_1 hC) (fa2 (s_44_2 hC) (fa2 (s_44_3 hC) (fa2 (s_44_6 hC) (fa2 (s_44_7 hC) (fa2 (s_44_8 hC) (fa2 (s_44_9 hC) (fa2 (s_44_10 hC) (fa2 (s_44_11 hC) (fa2 (s_44_14 hC) (fa2 (s_44_15 hC) (fa2 (s_44_16 hC) (fa2 (s_44_19 hC) (fn2))))))))))))))
set_option maxRecDepth 100000 in
theorem ms_44 (hex : HB.size = g.1) : MSnd g HB l MM D_44 := ⟨by decide +kernel, fun _ hC => ok_44 hex hC, fa2 (show endOK cX3_yearIn (some .int) 20 1 from ⟨rfl, (by decide +kernel : decode cX3_yearIn 20 = .ok (.ireturn, 1))⟩) (fn2)⟩
set_option maxRecDepth 100000 in
theorem s_45_0 (hC : SndC g HB l MM call) : Snd g HB l call cX3_timeIn 4 yX3_timeIn.cls yX3_timeIn.name 0 (lf (q_load isI 2 1)) := lf_ok (p_iload_n (by decide +kernel : decode cX3_timeIn 0 = .ok (.iload_n 2, 1)) rfl rfl)
set_option maxRecDepth 100000 in
theorem s_45_1 (hC : SndC g HB l MM call) : Snd g HB l call cX3_timeIn 4 yX3_timeIn.cls yX3_timeIn.name 1 (lf (q_load isI 1 2)) := lf_ok (p_iload_n (by decide +kernel : decode cX3_timeIn 1 = .ok (.iload_n 1, 1)) rfl rfl)
set_option maxRecDepth 100000 in
theorem s_45_2 (hC : SndC g HB l MM call) : Snd g HB l call cX3_timeIn 4 yX3_timeIn.cls yX3_timeIn.name 2 (lf (q_bin (iop2 (fun x y => x - y)) 3)) := lf_ok (p_isub (by decide +kernel : decode cX3_timeIn 2 = .ok (.isub, 1)) rfl)
set_option maxRecDepth 100000 in
theorem s_45_3 (hC : SndC g HB l MM call) : Snd g HB l call cX3_timeIn 4 yX3_timeIn.cls yX3_timeIn.name 3 (lf (q_store isI up1 0 3 4 4)) := lf_ok (p_istore_n (by decide +kernel : decode cX3_timeIn 3 = .ok (.istore_n 3, 1)) rfl rfl)
set_option maxRecDepth 100000 in
theorem s_45_4 (hC : SndC g HB l MM call) : Snd g HB l call cX3_timeIn 4 yX3_timeIn.cls yX3_timeIn.name 4 (lf (q_load isI 3 5)) := lf_ok (p_iload_n (by decide +kernel : decode cX3_timeIn 4 = .ok (.iload_n 3, 1)) rfl rfl)
set_option maxRecDepth 100000 in
theorem s_45_5 (hC : SndC g HB l MM call) : Snd g HB l call cX3_timeIn 4 yX3_timeIn.cls yX3_timeIn.name 5 (lf (q_push (.inl 5) 6)) := lf_ok (p_iconst (by decide +kernel : decode cX3_timeIn 5 = .ok (.iconst 5, 1)) (by decide +kernel) rfl)
set_option maxRecDepth 100000 in
theorem s_45_6 (hC : SndC g HB l MM call) : Snd g HB l call cX3_timeIn 4 yX3_timeIn.cls yX3_timeIn.name 6 (s_br2 0 15 9) := b_ieq (by decide +kernel : decode cX3_timeIn 6 = .ok (.if_icmp .eq 9, 3)) (by decide) rfl
set_option maxRecDepth 100000 in
theorem s_45_9 (hC : SndC g HB l MM call) : Snd g HB l call cX3_timeIn 4 yX3_timeIn.cls yX3_timeIn.name 9 (lf (q_load isI 3 10)) := lf_ok (p_iload_n (by decide +kernel : decode cX3_timeIn 9 = .ok (.iload_n 3, 1)) rfl rfl)
set_option maxRecDepth 100000 in
theorem s_45_10 (hC : SndC g HB l MM call) : Snd g HB l call cX3_timeIn 4 yX3_timeIn.cls yX3_timeIn.name 10 (lf (q_push (.inl 8) 12)) := lf_ok (p_bipush (by decide +kernel : decode cX3_timeIn 10 = .ok (.bipush 8, 2)) (by decide +kernel) rfl)
set_option maxRecDepth 100000 in
theorem s_45_12 (hC : SndC g HB l MM call) : Snd g HB l call cX3_timeIn 4 yX3_timeIn.cls yX3_timeIn.name 12 (s_br2 1 27 15) := b_ine (by decide +kernel : decode cX3_timeIn 12 = .ok (.if_icmp .ne 15, 3)) (by decide) rfl
set_option maxRecDepth 100000 in
theorem s_45_27 (hC : SndC g HB l MM call) : Snd g HB l call cX3_timeIn 4 yX3_timeIn.cls yX3_timeIn.name 27 (lf (q_push (.inl 4294967295) 28)) := lf_ok (p_iconst (by decide +kernel : decode cX3_timeIn 27 = .ok (.iconst (-1), 1)) (by decide +kernel) rfl)
set_option maxRecDepth 100000 in
theorem ok_45 (hex : HB.size = g.1) (hC : SndC g HB l MM call) : ∀ x ∈ P_45, Snd g HB l call cX3_timeIn 4 yX3_timeIn.cls yX3_timeIn.name x.1 x.2 := fa2 (s_45_0 hC) (fa2 (s_45_1 hC) (fa2 (s_45_2 hC) (fa2 (s_45_3 hC) (fa2 (s_45_4 hC) (fa2 (s_45_5 hC) (fa2 (s_45_6 hC) (fa2 (s_45_9 hC) (fa2 (s_45_10 hC) (fa2 (s_45_12 hC) (fa2 (s_45_27 hC) (fn2)))))))))))
set_option maxRecDepth 100000 in
theorem ms_45 (hex : HB.size = g.1) : MSnd g HB l MM D_45 := ⟨by decide +kernel, fun _ hC => ok_45 hex hC, fa2 (show endOK cX3_timeIn (some .int) 28 1 from ⟨rfl, (by decide +kernel : decode cX3_timeIn 28 = .ok (.ireturn, 1))⟩) (fn2)⟩
set_option maxRecDepth 100000 in
theorem s_46_0 (hC : SndC g HB l MM call) : Snd g HB l call cX3_dayNumber 6 yX3_dayNumber.cls yX3_dayNumber.name 0 (lf (q_load isI 0 1)) := lf_ok (p_iload_n (by decide +kernel : decode cX3_dayNumber 0 = .ok (.iload_n 0, 1)) rfl rfl)
set_option maxRecDepth 100000 in
theorem s_46_1 (hC : SndC g HB l MM call) : Snd g HB l call cX3_dayNumber 6 yX3_dayNumber.cls yX3_dayNumber.name 1 (s_br1 2 25 4) := b_lt (by decide +kernel : decode cX3_dayNumber 1 = .ok (.ifCond .lt 24, 3)) (by decide) rfl
set_option maxRecDepth 100000 in
theorem s_46_25 (hC : SndC g HB l MM call) : Snd g HB l call cX3_dayNumber 6 yX3_dayNumber.cls yX3_dayNumber.name 25 (s_val (.inl 4293967296) 27) := m_ldc (x := -1000000) (tin 4 97 (by decide +kernel) rfl) (by decide +kernel) (by decide +kernel : decode cX3_dayNumber 25 = .ok (.ldc 15, 2)) rfl
set_option maxRecDepth 100000 in
theorem ok_46 (hex : HB.size = g.1) (hC : SndC g HB l MM call) : ∀ x ∈ P_46, Snd g HB l call cX3_dayNumber 6 yX3_dayNumber.cls yX3_dayNumber.name x.1 x.2 := fa2 (s_46_0 hC) (fa2 (s_46_1 hC) (fa2 (s_46_25 hC) (fn2)))
set_option maxRecDepth 100000 in
theorem ms_46 (hex : HB.size = g.1) : MSnd g HB l MM D_46 := ⟨by decide +kernel, fun _ hC => ok_46 hex hC, fa2 (show endOK cX3_dayNumber (some .int) 27 1 from ⟨rfl, (by decide +kernel : decode cX3_dayNumber 27 = .ok (.ireturn, 1))⟩) (fn2)⟩
set_option maxRecDepth 100000 in
theorem s_47_0 (hC : SndC g HB l MM call) : Snd g HB l call cX7_readId 3 yX7_readId.cls yX7_readId.name 0 (lf (q_load isR 0 1)) := lf_ok (p_aload_n (by decide +kernel : decode cX7_readId 0 = .ok (.aload_n 0, 1)) rfl rfl)
set_option maxRecDepth 100000 in
theorem s_47_1 (hC : SndC g HB l MM call) : Snd g HB l call cX7_readId 3 yX7_readId.cls yX7_readId.name 1 (s_get 6 3 4) := h_get (k := 3) (C := RX7) (T := TX7) (N := 15) (ci := 6) rfl (by decide) (tin 1 172 (by decide +kernel) rfl)  (by decide +kernel : decode cX7_readId 1 = .ok (.getfield 60, 3)) rfl
set_option maxRecDepth 100000 in
theorem s_47_4 (hC : SndC g HB l MM call) : Snd g HB l call cX7_readId 3 yX7_readId.cls yX7_readId.name 4 (lf (q_push (.inl 4) 5)) := lf_ok (p_iconst (by decide +kernel : decode cX7_readId 4 = .ok (.iconst 4, 1)) (by decide +kernel) rfl)
set_option maxRecDepth 100000 in
theorem s_47_5 (hC : SndC g HB l MM call) : Snd g HB l call cX7_readId 3 yX7_readId.cls yX7_readId.name 5 (lf (q_load isR 0 6)) := lf_ok (p_aload_n (by decide +kernel : decode cX7_readId 5 = .ok (.aload_n 0, 1)) rfl rfl)
set_option maxRecDepth 100000 in
theorem s_47_6 (hC : SndC g HB l MM call) : Snd g HB l call cX7_readId 3 yX7_readId.cls yX7_readId.name 6 (s_get 6 4 9) := h_get (k := 4) (C := RX7) (T := TX7) (N := 15) (ci := 6) rfl (by decide) (tin 1 173 (by decide +kernel) rfl)  (by decide +kernel : decode cX7_readId 6 = .ok (.getfield 14, 3)) rfl
set_option maxRecDepth 100000 in
theorem s_47_9 (hC : SndC g HB l MM call) : Snd g HB l call cX7_readId 3 yX7_readId.cls yX7_readId.name 9 (s_cV 3 27 2 25 12) := c_V (C := RX4) (T := TX4) (N := 5) (ci := 3) rfl hC (M := MM) (id := 27) (d := D_27) rfl mok_27 rfl rfl (tin 4 31 (by decide +kernel) rfl) (tin 4 32 (by decide +kernel) rfl) (tin 4 33 (by decide +kernel) rfl) (tin 1 9 (by decide +kernel) rfl) (by decide +kernel : decode cX7_readId 9 = .ok (.invokevirtual 86, 3)) rfl
set_option maxRecDepth 100000 in
theorem s_47_12 (hC : SndC g HB l MM call) : Snd g HB l call cX7_readId 3 yX7_readId.cls yX7_readId.name 12 (lf (q_load isR 0 13)) := lf_ok (p_aload_n (by decide +kernel : decode cX7_readId 12 = .ok (.aload_n 0, 1)) rfl rfl)
set_option maxRecDepth 100000 in
theorem s_47_13 (hC : SndC g HB l MM call) : Snd g HB l call cX7_readId 3 yX7_readId.cls yX7_readId.name 13 (s_get 6 4 16) := h_get (k := 4) (C := RX7) (T := TX7) (N := 15) (ci := 6) rfl (by decide) (tin 1 173 (by decide +kernel) rfl)  (by decide +kernel : decode cX7_readId 13 = .ok (.getfield 14, 3)) rfl
set_option maxRecDepth 100000 in
theorem s_47_16 (hC : SndC g HB l MM call) : Snd g HB l call cX7_readId 3 yX7_readId.cls yX7_readId.name 16 (lf (q_push (.inl 60) 18)) := lf_ok (p_bipush (by decide +kernel : decode cX7_readId 16 = .ok (.bipush 60, 2)) (by decide +kernel) rfl)
set_option maxRecDepth 100000 in
theorem s_47_18 (hC : SndC g HB l MM call) : Snd g HB l call cX7_readId 3 yX7_readId.cls yX7_readId.name 18 (lf (q_push (.inl 0) 19)) := lf_ok (p_iconst (by decide +kernel : decode cX7_readId 18 = .ok (.iconst 0, 1)) (by decide +kernel) rfl)
set_option maxRecDepth 100000 in
theorem s_47_19 (hC : SndC g HB l MM call) : Snd g HB l call cX7_readId 3 yX7_readId.cls yX7_readId.name 19 (lf (q_load isR 0 20)) := lf_ok (p_aload_n (by decide +kernel : decode cX7_readId 19 = .ok (.aload_n 0, 1)) rfl rfl)
set_option maxRecDepth 100000 in
theorem s_47_20 (hC : SndC g HB l MM call) : Snd g HB l call cX7_readId 3 yX7_readId.cls yX7_readId.name 20 (s_get 6 4 23) := h_get (k := 4) (C := RX7) (T := TX7) (N := 15) (ci := 6) rfl (by decide) (tin 1 173 (by decide +kernel) rfl)  (by decide +kernel : decode cX7_readId 20 = .ok (.getfield 14, 3)) rfl
set_option maxRecDepth 100000 in
theorem s_47_23 (hC : SndC g HB l MM call) : Snd g HB l call cX7_readId 3 yX7_readId.cls yX7_readId.name 23 (s_cV 2 18 0 20 26) := c_V (C := RX1) (T := TX1) (N := 2) (ci := 2) rfl hC (M := MM) (id := 18) (d := D_18) rfl mok_18 rfl rfl (tin 3 153 (by decide +kernel) rfl) (tin 2 156 (by decide +kernel) rfl) (tin 2 157 (by decide +kernel) rfl) (tin 1 2 (by decide +kernel) rfl) (by decide +kernel : decode cX7_readId 23 = .ok (.invokevirtual 64, 3)) rfl
set_option maxRecDepth 100000 in
theorem s_47_26 (hC : SndC g HB l MM call) : Snd g HB l call cX7_readId 3 yX7_readId.cls yX7_readId.name 26 (s_cV 2 48 3 24 29) := c_V (C := RX1) (T := TX1) (N := 2) (ci := 2) rfl hC (M := MM) (id := 48) (d := D_48) rfl mok_48 rfl rfl (tin 4 106 (by decide +kernel) rfl) (tin 4 107 (by decide +kernel) rfl) (tin 4 108 (by decide +kernel) rfl) (tin 1 2 (by decide +kernel) rfl) (by decide +kernel : decode cX7_readId 26 = .ok (.invokevirtual 143, 3)) rfl
set_option maxRecDepth 100000 in
theorem s_47_29 (hC : SndC g HB l MM call) : Snd g HB l call cX7_readId 3 yX7_readId.cls yX7_readId.name 29 (lf (q_store isI up1 0 1 3 30)) := lf_ok (p_istore_n (by decide +kernel : decode cX7_readId 29 = .ok (.istore_n 1, 1)) rfl rfl)
set_option maxRecDepth 100000 in
theorem s_47_30 (hC : SndC g HB l MM call) : Snd g HB l call cX7_readId 3 yX7_readId.cls yX7_readId.name 30 (lf (q_load isI 1 31)) := lf_ok (p_iload_n (by decide +kernel : decode cX7_readId 30 = .ok (.iload_n 1, 1)) rfl rfl)
set_option maxRecDepth 100000 in
theorem s_47_31 (hC : SndC g HB l MM call) : Snd g HB l call cX7_readId 3 yX7_readId.cls yX7_readId.name 31 (lf (q_push (.inl 4294967295) 32)) := lf_ok (p_iconst (by decide +kernel : decode cX7_readId 31 = .ok (.iconst (-1), 1)) (by decide +kernel) rfl)
set_option maxRecDepth 100000 in
theorem s_47_32 (hC : SndC g HB l MM call) : Snd g HB l call cX7_readId 3 yX7_readId.cls yX7_readId.name 32 (s_br2 1 39 35) := b_ine (by decide +kernel : decode cX7_readId 32 = .ok (.if_icmp .ne 7, 3)) (by decide) rfl
set_option maxRecDepth 100000 in
theorem s_47_35 (hC : SndC g HB l MM call) : Snd g HB l call cX7_readId 3 yX7_readId.cls yX7_readId.name 35 (lf (q_push (.inl 4294967295) 36)) := lf_ok (p_iconst (by decide +kernel : decode cX7_readId 35 = .ok (.iconst (-1), 1)) (by decide +kernel) rfl)
set_option maxRecDepth 100000 in
theorem s_47_36 (hC : SndC g HB l MM call) : Snd g HB l call cX7_readId 3 yX7_readId.cls yX7_readId.name 36 (lf (q_goto 56)) := lf_ok (p_goto (by decide +kernel : decode cX7_readId 36 = .ok (.goto 20, 3)) (by decide))
set_option maxRecDepth 100000 in
theorem s_47_56 (hC : SndC g HB l MM call) : Snd g HB l call cX7_readId 3 yX7_readId.cls yX7_readId.name 56 (lf (q_store isI up1 0 2 3 57)) := lf_ok (p_istore_n (by decide +kernel : decode cX7_readId 56 = .ok (.istore_n 2, 1)) rfl rfl)
set_option maxRecDepth 100000 in
theorem s_47_57 (hC : SndC g HB l MM call) : Snd g HB l call cX7_readId 3 yX7_readId.cls yX7_readId.name 57 (lf (q_load isR 0 58)) := lf_ok (p_aload_n (by decide +kernel : decode cX7_readId 57 = .ok (.aload_n 0, 1)) rfl rfl)
set_option maxRecDepth 100000 in
theorem s_47_58 (hC : SndC g HB l MM call) : Snd g HB l call cX7_readId 3 yX7_readId.cls yX7_readId.name 58 (lf (q_load isI 1 59)) := lf_ok (p_iload_n (by decide +kernel : decode cX7_readId 58 = .ok (.iload_n 1, 1)) rfl rfl)
set_option maxRecDepth 100000 in
theorem s_47_59 (hC : SndC g HB l MM call) : Snd g HB l call cX7_readId 3 yX7_readId.cls yX7_readId.name 59 (lf (q_load isI 2 60)) := lf_ok (p_iload_n (by decide +kernel : decode cX7_readId 59 = .ok (.iload_n 2, 1)) rfl rfl)
set_option maxRecDepth 100000 in
theorem s_47_60 (hC : SndC g HB l MM call) : Snd g HB l call cX7_readId 3 yX7_readId.cls yX7_readId.name 60 (s_cV 6 49 2 23 63) := c_V (C := RX7) (T := TX7) (N := 15) (ci := 6) rfl hC (M := MM) (id := 49) (d := D_49) rfl mok_49 rfl rfl (tin 4 110 (by decide +kernel) rfl) (tin 4 112 (by decide +kernel) rfl) (tinP (y := mdY D_49) (n := 15) 18 (by decide +kernel)) (tin 1 8 (by decide +kernel) rfl) (by decide +kernel : decode cX7_readId 60 = .ok (.invokevirtual 223, 3)) rfl
set_option maxRecDepth 100000 in
theorem s_47_63 (hC : SndC g HB l MM call) : Snd g HB l call cX7_readId 3 yX7_readId.cls yX7_readId.name 63 (s_br1 0 84 66) := b_eq (by decide +kernel : decode cX7_readId 63 = .ok (.ifCond .eq 21, 3)) (by decide) rfl
set_option maxRecDepth 100000 in
theorem s_47_84 (hC : SndC g HB l MM call) : Snd g HB l call cX7_readId 3 yX7_readId.cls yX7_readId.name 84 (lf (q_push (.inl 4294967295) 85)) := lf_ok (p_iconst (by decide +kernel : decode cX7_readId 84 = .ok (.iconst (-1), 1)) (by decide +kernel) rfl)
set_option maxRecDepth 100000 in
theorem ok_47 (hex : HB.size = g.1) (hC : SndC g HB l MM call) : ∀ x ∈ P_47, Snd g HB l call cX7_readId 3 yX7_readId.cls yX7_readId.name x.1 x.2 := fa2 (s_47_0 hC) (fa2 (s_47_1 hC) (fa2 (s_47_4 hC) (fa2 (s_47_5 hC) (fa2 (s_47_6 hC) (fa2 (s_47_9 hC) (fa2 (s_47_12 hC) (fa2 (s_47_13 hC) (fa2 (s_47_16 hC) (fa2 (s_47_18 hC) (fa2 (s_47_19 hC) (fa2 (s_47_20 hC) (fa2 (s_47_23 hC) (fa2 (s_47_26 hC) (fa2 (s_47_29 hC) (fa2 (s_47_30 hC) (fa2 (s_47_31 hC) (fa2 (s_47_32 hC) (fa2 (s_47_35 hC) (fa2 (s_47_36 hC) (fa2 (s_47_56 hC) (fa2 (s_47_57 hC) (fa2 (s_47_58 hC) (fa2 (s_47_59 hC) (fa2 (s_47_60 hC) (fa2 (s_47_63 hC) (fa2 (s_47_84 hC) (fn2)))))))))))))))))))))))))))
set_option maxRecDepth 100000 in
theorem ms_47 (hex : HB.size = g.1) : MSnd g HB l MM D_47 := ⟨by decide +kernel, fun _ hC => ok_47 hex hC, fa2 (show endOK cX7_readId (some .int) 85 1 from ⟨rfl, (by decide +kernel : decode cX7_readId 85 = .ok (.ireturn, 1))⟩) (fn2)⟩
set_option maxRecDepth 100000 in
theorem s_48_0 (hC : SndC g HB l MM call) : Snd g HB l call cX1_seek 5 yX1_seek.cls yX1_seek.name 0 (lf (q_load isI 2 1)) := lf_ok (p_iload_n (by decide +kernel : decode cX1_seek 0 = .ok (.iload_n 2, 1)) rfl rfl)
set_option maxRecDepth 100000 in
theorem s_48_1 (hC : SndC g HB l MM call) : Snd g HB l call cX1_seek 5 yX1_seek.cls yX1_seek.name 1 (lf (q_store isI up1 0 4 5 3)) := lf_ok (p_istore (by decide +kernel : decode cX1_seek 1 = .ok (.istore 4, 2)) rfl)
set_option maxRecDepth 100000 in
theorem s_48_3 (hC : SndC g HB l MM call) : Snd g HB l call cX1_seek 5 yX1_seek.cls yX1_seek.name 3 (lf (q_load isI 4 5)) := lf_ok (p_iload (by decide +kernel : decode cX1_seek 3 = .ok (.iload 4, 2)) rfl)
set_option maxRecDepth 100000 in
theorem s_48_5 (hC : SndC g HB l MM call) : Snd g HB l call cX1_seek 5 yX1_seek.cls yX1_seek.name 5 (lf (q_load isI 3 6)) := lf_ok (p_iload_n (by decide +kernel : decode cX1_seek 5 = .ok (.iload_n 3, 1)) rfl rfl)
set_option maxRecDepth 100000 in
theorem s_48_6 (hC : SndC g HB l MM call) : Snd g HB l call cX1_seek 5 yX1_seek.cls yX1_seek.name 6 (s_br2 3 28 9) := b_ige (by decide +kernel : decode cX1_seek 6 = .ok (.if_icmp .ge 22, 3)) (by decide) rfl
set_option maxRecDepth 100000 in
theorem s_48_28 (hC : SndC g HB l MM call) : Snd g HB l call cX1_seek 5 yX1_seek.cls yX1_seek.name 28 (lf (q_push (.inl 4294967295) 29)) := lf_ok (p_iconst (by decide +kernel : decode cX1_seek 28 = .ok (.iconst (-1), 1)) (by decide +kernel) rfl)
set_option maxRecDepth 100000 in
theorem ok_48 (hex : HB.size = g.1) (hC : SndC g HB l MM call) : ∀ x ∈ P_48, Snd g HB l call cX1_seek 5 yX1_seek.cls yX1_seek.name x.1 x.2 := fa2 (s_48_0 hC) (fa2 (s_48_1 hC) (fa2 (s_48_3 hC) (fa2 (s_48_5 hC) (fa2 (s_48_6 hC) (fa2 (s_48_28 hC) (fn2))))))
set_option maxRecDepth 100000 in
theorem ms_48 (hex : HB.size = g.1) : MSnd g HB l MM D_48 := ⟨by decide +kernel, fun _ hC => ok_48 hex hC, fa2 (show endOK cX1_seek (some .int) 29 1 from ⟨rfl, (by decide +kernel : decode cX1_seek 29 = .ok (.ireturn, 1))⟩) (fn2)⟩
set_option maxRecDepth 100000 in
theorem s_49_0 (hC : SndC g HB l MM call) : Snd g HB l call cX7_isId 4 yX7_isId.cls yX7_isId.name 0 (lf (q_load isI 1 1)) := lf_ok (p_iload_n (by decide +kernel : decode cX7_isId 0 = .ok (.iload_n 1, 1)) rfl rfl)
set_option maxRecDepth 100000 in
theorem s_49_1 (hC : SndC g HB l MM call) : Snd g HB l call cX7_isId 4 yX7_isId.cls yX7_isId.name 1 (lf (q_push (.inl 4294967295) 2)) := lf_ok (p_iconst (by decide +kernel : decode cX7_isId 1 = .ok (.iconst (-1), 1)) (by decide +kernel) rfl)
set_option maxRecDepth 100000 in
theorem s_49_2 (hC : SndC g HB l MM call) : Snd g HB l call cX7_isId 4 yX7_isId.cls yX7_isId.name 2 (s_br2 0 25 5) := b_ieq (by decide +kernel : decode cX7_isId 2 = .ok (.if_icmp .eq 23, 3)) (by decide) rfl
set_option maxRecDepth 100000 in
theorem s_49_25 (hC : SndC g HB l MM call) : Snd g HB l call cX7_isId 4 yX7_isId.cls yX7_isId.name 25 (lf (q_push (.inl 0) 26)) := lf_ok (p_iconst (by decide +kernel : decode cX7_isId 25 = .ok (.iconst 0, 1)) (by decide +kernel) rfl)
set_option maxRecDepth 100000 in
theorem ok_49 (hex : HB.size = g.1) (hC : SndC g HB l MM call) : ∀ x ∈ P_49, Snd g HB l call cX7_isId 4 yX7_isId.cls yX7_isId.name x.1 x.2 := fa2 (s_49_0 hC) (fa2 (s_49_1 hC) (fa2 (s_49_2 hC) (fa2 (s_49_25 hC) (fn2))))
set_option maxRecDepth 100000 in
theorem ms_49 (hex : HB.size = g.1) : MSnd g HB l MM D_49 := ⟨by decide +kernel, fun _ hC => ok_49 hex hC, fa2 (show endOK cX7_isId (some .boolean) 26 2 from (by decide +kernel : decode cX7_isId 26 = .ok (.ireturn, 1))) (fn2)⟩
end PR2
