/-! Each reached instruction does what its step computes. -/
theorem fa3 {α : Type} {p : α → Prop} {a : α} {l : List α} (h : p a) (t : ∀ x ∈ l, p x) : ∀ x ∈ a :: l, p x := List.forall_mem_cons.mpr ⟨h, t⟩
theorem fn3 {α : Type} {p : α → Prop} : ∀ x ∈ ([] : List α), p x := fun _ h => absurd h List.not_mem_nil
section PR3
variable {g : GG} {HB : Heap} {l : Launch} {call : CallF}
set_option maxRecDepth 100000 in
theorem s_50_0 (hC : SndC g HB l MM call) : Snd g HB l call cX7_readReferences 2 yX7_readReferences.cls yX7_readReferences.name 0 (lf (q_load isR 0 1)) := lf_ok (p_aload_n (by decide +kernel : decode cX7_readReferences 0 = .ok (.aload_n 0, 1)) rfl rfl)
set_option maxRecDepth 100000 in
theorem s_50_1 (hC : SndC g HB l MM call) : Snd g HB l call cX7_readReferences 2 yX7_readReferences.cls yX7_readReferences.name 1 (s_get 6 3 4) := h_get (k := 3) (C := RX7) (T := TX7) (N := 15) (ci := 6) rfl (by decide) (tin 1 172 (by decide +kernel) rfl)  (by decide +kernel : decode cX7_readReferences 1 = .ok (.getfield 60, 3)) rfl
set_option maxRecDepth 100000 in
theorem s_50_4 (hC : SndC g HB l MM call) : Snd g HB l call cX7_readReferences 2 yX7_readReferences.cls yX7_readReferences.name 4 (lf (q_push (.inl 5) 5)) := lf_ok (p_iconst (by decide +kernel : decode cX7_readReferences 4 = .ok (.iconst 5, 1)) (by decide +kernel) rfl)
set_option maxRecDepth 100000 in
theorem s_50_5 (hC : SndC g HB l MM call) : Snd g HB l call cX7_readReferences 2 yX7_readReferences.cls yX7_readReferences.name 5 (lf (q_load isR 0 6)) := lf_ok (p_aload_n (by decide +kernel : decode cX7_readReferences 5 = .ok (.aload_n 0, 1)) rfl rfl)
set_option maxRecDepth 100000 in
theorem s_50_6 (hC : SndC g HB l MM call) : Snd g HB l call cX7_readReferences 2 yX7_readReferences.cls yX7_readReferences.name 6 (s_get 6 4 9) := h_get (k := 4) (C := RX7) (T := TX7) (N := 15) (ci := 6) rfl (by decide) (tin 1 173 (by decide +kernel) rfl)  (by decide +kernel : decode cX7_readReferences 6 = .ok (.getfield 14, 3)) rfl
set_option maxRecDepth 100000 in
theorem s_50_9 (hC : SndC g HB l MM call) : Snd g HB l call cX7_readReferences 2 yX7_readReferences.cls yX7_readReferences.name 9 (s_cV 3 27 2 25 12) := c_V (C := RX4) (T := TX4) (N := 5) (ci := 3) rfl hC (M := MM) (id := 27) (d := D_27) rfl mok_27 rfl rfl (tin 4 31 (by decide +kernel) rfl) (tin 4 32 (by decide +kernel) rfl) (tin 4 33 (by decide +kernel) rfl) (tin 1 9 (by decide +kernel) rfl) (by decide +kernel : decode cX7_readReferences 9 = .ok (.invokevirtual 86, 3)) rfl
set_option maxRecDepth 100000 in
theorem s_50_12 (hC : SndC g HB l MM call) : Snd g HB l call cX7_readReferences 2 yX7_readReferences.cls yX7_readReferences.name 12 (lf (q_load isR 0 13)) := lf_ok (p_aload_n (by decide +kernel : decode cX7_readReferences 12 = .ok (.aload_n 0, 1)) rfl rfl)
set_option maxRecDepth 100000 in
theorem s_50_13 (hC : SndC g HB l MM call) : Snd g HB l call cX7_readReferences 2 yX7_readReferences.cls yX7_readReferences.name 13 (lf (q_push (.inl 16) 15)) := lf_ok (p_bipush (by decide +kernel : decode cX7_readReferences 13 = .ok (.bipush 16, 2)) (by decide +kernel) rfl)
set_option maxRecDepth 100000 in
theorem s_50_15 (hC : SndC g HB l MM call) : Snd g HB l call cX7_readReferences 2 yX7_readReferences.cls yX7_readReferences.name 15 (s_cV 6 51 1 26 18) := c_V (C := RX7) (T := TX7) (N := 15) (ci := 6) rfl hC (M := MM) (id := 51) (d := D_51) rfl mok_51 rfl rfl (tin 4 162 (by decide +kernel) rfl) (tin 4 164 (by decide +kernel) rfl) (tinP (y := mdY D_51) (n := 15) 21 (by decide +kernel)) (tin 1 8 (by decide +kernel) rfl) (by decide +kernel : decode cX7_readReferences 15 = .ok (.invokevirtual 227, 3)) rfl
set_option maxRecDepth 100000 in
theorem s_50_18 (hC : SndC g HB l MM call) : Snd g HB l call cX7_readReferences 2 yX7_readReferences.cls yX7_readReferences.name 18 (lf (q_store isI up1 0 1 2 19)) := lf_ok (p_istore_n (by decide +kernel : decode cX7_readReferences 18 = .ok (.istore_n 1, 1)) rfl rfl)
set_option maxRecDepth 100000 in
theorem s_50_19 (hC : SndC g HB l MM call) : Snd g HB l call cX7_readReferences 2 yX7_readReferences.cls yX7_readReferences.name 19 (lf (q_load isI 1 20)) := lf_ok (p_iload_n (by decide +kernel : decode cX7_readReferences 19 = .ok (.iload_n 1, 1)) rfl rfl)
set_option maxRecDepth 100000 in
theorem s_50_20 (hC : SndC g HB l MM call) : Snd g HB l call cX7_readReferences 2 yX7_readReferences.cls yX7_readReferences.name 20 (s_br1 1 42 23) := b_ne (by decide +kernel : decode cX7_readReferences 20 = .ok (.ifCond .ne 22, 3)) (by decide) rfl
set_option maxRecDepth 100000 in
theorem s_50_23 (hC : SndC g HB l MM call) : Snd g HB l call cX7_readReferences 2 yX7_readReferences.cls yX7_readReferences.name 23 (lf (q_load isR 0 24)) := lf_ok (p_aload_n (by decide +kernel : decode cX7_readReferences 23 = .ok (.aload_n 0, 1)) rfl rfl)
set_option maxRecDepth 100000 in
theorem s_50_24 (hC : SndC g HB l MM call) : Snd g HB l call cX7_readReferences 2 yX7_readReferences.cls yX7_readReferences.name 24 (s_get 6 3 27) := h_get (k := 3) (C := RX7) (T := TX7) (N := 15) (ci := 6) rfl (by decide) (tin 1 172 (by decide +kernel) rfl)  (by decide +kernel : decode cX7_readReferences 24 = .ok (.getfield 60, 3)) rfl
set_option maxRecDepth 100000 in
theorem s_50_27 (hC : SndC g HB l MM call) : Snd g HB l call cX7_readReferences 2 yX7_readReferences.cls yX7_readReferences.name 27 (lf (q_push (.inl 6) 29)) := lf_ok (p_bipush (by decide +kernel : decode cX7_readReferences 27 = .ok (.bipush 6, 2)) (by decide +kernel) rfl)
set_option maxRecDepth 100000 in
theorem s_50_29 (hC : SndC g HB l MM call) : Snd g HB l call cX7_readReferences 2 yX7_readReferences.cls yX7_readReferences.name 29 (lf (q_load isR 0 30)) := lf_ok (p_aload_n (by decide +kernel : decode cX7_readReferences 29 = .ok (.aload_n 0, 1)) rfl rfl)
set_option maxRecDepth 100000 in
theorem s_50_30 (hC : SndC g HB l MM call) : Snd g HB l call cX7_readReferences 2 yX7_readReferences.cls yX7_readReferences.name 30 (s_get 6 4 33) := h_get (k := 4) (C := RX7) (T := TX7) (N := 15) (ci := 6) rfl (by decide) (tin 1 173 (by decide +kernel) rfl)  (by decide +kernel : decode cX7_readReferences 30 = .ok (.getfield 14, 3)) rfl
set_option maxRecDepth 100000 in
theorem s_50_33 (hC : SndC g HB l MM call) : Snd g HB l call cX7_readReferences 2 yX7_readReferences.cls yX7_readReferences.name 33 (s_cV 3 27 2 25 36) := c_V (C := RX4) (T := TX4) (N := 5) (ci := 3) rfl hC (M := MM) (id := 27) (d := D_27) rfl mok_27 rfl rfl (tin 4 31 (by decide +kernel) rfl) (tin 4 32 (by decide +kernel) rfl) (tin 4 33 (by decide +kernel) rfl) (tin 1 9 (by decide +kernel) rfl) (by decide +kernel : decode cX7_readReferences 33 = .ok (.invokevirtual 86, 3)) rfl
set_option maxRecDepth 100000 in
theorem s_50_36 (hC : SndC g HB l MM call) : Snd g HB l call cX7_readReferences 2 yX7_readReferences.cls yX7_readReferences.name 36 (lf (q_load isR 0 37)) := lf_ok (p_aload_n (by decide +kernel : decode cX7_readReferences 36 = .ok (.aload_n 0, 1)) rfl rfl)
set_option maxRecDepth 100000 in
theorem s_50_37 (hC : SndC g HB l MM call) : Snd g HB l call cX7_readReferences 2 yX7_readReferences.cls yX7_readReferences.name 37 (lf (q_push (.inl 1) 38)) := lf_ok (p_iconst (by decide +kernel : decode cX7_readReferences 37 = .ok (.iconst 1, 1)) (by decide +kernel) rfl)
set_option maxRecDepth 100000 in
theorem s_50_38 (hC : SndC g HB l MM call) : Snd g HB l call cX7_readReferences 2 yX7_readReferences.cls yX7_readReferences.name 38 (s_cV 6 51 1 26 41) := c_V (C := RX7) (T := TX7) (N := 15) (ci := 6) rfl hC (M := MM) (id := 51) (d := D_51) rfl mok_51 rfl rfl (tin 4 162 (by decide +kernel) rfl) (tin 4 164 (by decide +kernel) rfl) (tinP (y := mdY D_51) (n := 15) 21 (by decide +kernel)) (tin 1 8 (by decide +kernel) rfl) (by decide +kernel : decode cX7_readReferences 38 = .ok (.invokevirtual 227, 3)) rfl
set_option maxRecDepth 100000 in
theorem s_50_41 (hC : SndC g HB l MM call) : Snd g HB l call cX7_readReferences 2 yX7_readReferences.cls yX7_readReferences.name 41 (lf (q_store isI up1 0 1 2 42)) := lf_ok (p_istore_n (by decide +kernel : decode cX7_readReferences 41 = .ok (.istore_n 1, 1)) rfl rfl)
set_option maxRecDepth 100000 in
theorem s_50_42 (hC : SndC g HB l MM call) : Snd g HB l call cX7_readReferences 2 yX7_readReferences.cls yX7_readReferences.name 42 (lf (q_load isR 0 43)) := lf_ok (p_aload_n (by decide +kernel : decode cX7_readReferences 42 = .ok (.aload_n 0, 1)) rfl rfl)
set_option maxRecDepth 100000 in
theorem s_50_43 (hC : SndC g HB l MM call) : Snd g HB l call cX7_readReferences 2 yX7_readReferences.cls yX7_readReferences.name 43 (s_get 6 9 46) := h_get (k := 9) (C := RX7) (T := TX7) (N := 15) (ci := 6) rfl (by decide) (tin 1 178 (by decide +kernel) rfl)  (by decide +kernel : decode cX7_readReferences 43 = .ok (.getfield 33, 3)) rfl
set_option maxRecDepth 100000 in
theorem s_50_46 (hC : SndC g HB l MM call) : Snd g HB l call cX7_readReferences 2 yX7_readReferences.cls yX7_readReferences.name 46 (lf (q_load isI 1 47)) := lf_ok (p_iload_n (by decide +kernel : decode cX7_readReferences 46 = .ok (.iload_n 1, 1)) rfl rfl)
set_option maxRecDepth 100000 in
theorem s_50_47 (hC : SndC g HB l MM call) : Snd g HB l call cX7_readReferences 2 yX7_readReferences.cls yX7_readReferences.name 47 (s_cS 52 2 21 50) := c_S hC (M := MM) (id := 52) (d := D_52) rfl mok_52 rfl (tin 4 166 (by decide +kernel) rfl) (tin 4 167 (by decide +kernel) rfl) (tin 1 8 (by decide +kernel) rfl) (by decide +kernel : decode cX7_readReferences 47 = .ok (.invokestatic 107, 3)) rfl
set_option maxRecDepth 100000 in
theorem ok_50 (hex : HB.size = g.1) (hC : SndC g HB l MM call) : ∀ x ∈ P_50, Snd g HB l call cX7_readReferences 2 yX7_readReferences.cls yX7_readReferences.name x.1 x.2 := fa3 (s_50_0 hC) (fa3 (s_50_1 hC) (fa3 (s_50_4 hC) (fa3 (s_50_5 hC) (fa3 (s_50_6 hC) (fa3 (s_50_9 hC) (fa3 (s_50_12 hC) (fa3 (s_50_13 hC) (fa3 (s_50_15 hC) (fa3 (s_50_18 hC) (fa3 (s_50_19 hC) (fa3 (s_50_20 hC) (fa3 (s_50_23 hC) (fa3 (s_50_24 hC) (fa3 (s_50_27 hC) (fa3 (s_50_29 hC) (fa3 (s_50_30 hC) (fa3 (s_50_33 hC) (fa3 (s_50_36 hC) (fa3 (s_50_37 hC) (fa3 (s_50_38 hC) (fa3 (s_50_41 hC) (fa3 (s_50_42 hC) (fa3 (s_50_43 hC) (fa3 (s_50_46 hC) (fa3 (s_50_47 hC) (fn3))))))))))))))))))))))))))
set_option maxRecDepth 100000 in
theorem ms_50 (hex : HB.size = g.1) : MSnd g HB l MM D_50 := ⟨by decide +kernel, fun _ hC => ok_50 hex hC, fa3 (show endOK cX7_readReferences (some (.array .int)) 50 3 from ⟨⟨_, rfl, Or.inr ⟨_, rfl⟩⟩, (by decide +kernel : decode cX7_readReferences 50 = .ok (.areturn, 1))⟩) (fn3)⟩
set_option maxRecDepth 100000 in
theorem s_51_0 (hC : SndC g HB l MM call) : Snd g HB l call cX7_takeReferences 7 yX7_takeReferences.cls yX7_takeReferences.name 0 (lf (q_push (.inl 0) 1)) := lf_ok (p_iconst (by decide +kernel : decode cX7_takeReferences 0 = .ok (.iconst 0, 1)) (by decide +kernel) rfl)
set_option maxRecDepth 100000 in
theorem s_51_1 (hC : SndC g HB l MM call) : Snd g HB l call cX7_takeReferences 7 yX7_takeReferences.cls yX7_takeReferences.name 1 (lf (q_store isI up1 0 2 7 2)) := lf_ok (p_istore_n (by decide +kernel : decode cX7_takeReferences 1 = .ok (.istore_n 2, 1)) rfl rfl)
set_option maxRecDepth 100000 in
theorem s_51_2 (hC : SndC g HB l MM call) : Snd g HB l call cX7_takeReferences 7 yX7_takeReferences.cls yX7_takeReferences.name 2 (lf (q_push (.inl 0) 3)) := lf_ok (p_iconst (by decide +kernel : decode cX7_takeReferences 2 = .ok (.iconst 0, 1)) (by decide +kernel) rfl)
set_option maxRecDepth 100000 in
theorem s_51_3 (hC : SndC g HB l MM call) : Snd g HB l call cX7_takeReferences 7 yX7_takeReferences.cls yX7_takeReferences.name 3 (lf (q_store isI up1 0 3 7 4)) := lf_ok (p_istore_n (by decide +kernel : decode cX7_takeReferences 3 = .ok (.istore_n 3, 1)) rfl rfl)
set_option maxRecDepth 100000 in
theorem s_51_4 (hC : SndC g HB l MM call) : Snd g HB l call cX7_takeReferences 7 yX7_takeReferences.cls yX7_takeReferences.name 4 (lf (q_push (.inl 0) 5)) := lf_ok (p_iconst (by decide +kernel : decode cX7_takeReferences 4 = .ok (.iconst 0, 1)) (by decide +kernel) rfl)
set_option maxRecDepth 100000 in
theorem s_51_5 (hC : SndC g HB l MM call) : Snd g HB l call cX7_takeReferences 7 yX7_takeReferences.cls yX7_takeReferences.name 5 (lf (q_store isI up1 0 4 7 7)) := lf_ok (p_istore (by decide +kernel : decode cX7_takeReferences 5 = .ok (.istore 4, 2)) rfl)
set_option maxRecDepth 100000 in
theorem s_51_7 (hC : SndC g HB l MM call) : Snd g HB l call cX7_takeReferences 7 yX7_takeReferences.cls yX7_takeReferences.name 7 (lf (q_load isI 4 9)) := lf_ok (p_iload (by decide +kernel : decode cX7_takeReferences 7 = .ok (.iload 4, 2)) rfl)
set_option maxRecDepth 100000 in
theorem s_51_9 (hC : SndC g HB l MM call) : Snd g HB l call cX7_takeReferences 7 yX7_takeReferences.cls yX7_takeReferences.name 9 (lf (q_load isR 0 10)) := lf_ok (p_aload_n (by decide +kernel : decode cX7_takeReferences 9 = .ok (.aload_n 0, 1)) rfl rfl)
set_option maxRecDepth 100000 in
theorem s_51_10 (hC : SndC g HB l MM call) : Snd g HB l call cX7_takeReferences 7 yX7_takeReferences.cls yX7_takeReferences.name 10 (s_get 6 4 13) := h_get (k := 4) (C := RX7) (T := TX7) (N := 15) (ci := 6) rfl (by decide) (tin 1 173 (by decide +kernel) rfl)  (by decide +kernel : decode cX7_takeReferences 10 = .ok (.getfield 14, 3)) rfl
set_option maxRecDepth 100000 in
theorem s_51_13 (hC : SndC g HB l MM call) : Snd g HB l call cX7_takeReferences 7 yX7_takeReferences.cls yX7_takeReferences.name 13 (s_cV 2 18 0 20 16) := c_V (C := RX1) (T := TX1) (N := 2) (ci := 2) rfl hC (M := MM) (id := 18) (d := D_18) rfl mok_18 rfl rfl (tin 3 153 (by decide +kernel) rfl) (tin 2 156 (by decide +kernel) rfl) (tin 2 157 (by decide +kernel) rfl) (tin 1 2 (by decide +kernel) rfl) (by decide +kernel : decode cX7_takeReferences 13 = .ok (.invokevirtual 64, 3)) rfl
set_option maxRecDepth 100000 in
theorem s_51_16 (hC : SndC g HB l MM call) : Snd g HB l call cX7_takeReferences 7 yX7_takeReferences.cls yX7_takeReferences.name 16 (s_br2 3 138 19) := b_ige (by decide +kernel : decode cX7_takeReferences 16 = .ok (.if_icmp .ge 122, 3)) (by decide) rfl
set_option maxRecDepth 100000 in
theorem s_51_138 (hC : SndC g HB l MM call) : Snd g HB l call cX7_takeReferences 7 yX7_takeReferences.cls yX7_takeReferences.name 138 (lf (q_load isI 2 139)) := lf_ok (p_iload_n (by decide +kernel : decode cX7_takeReferences 138 = .ok (.iload_n 2, 1)) rfl rfl)
set_option maxRecDepth 100000 in
theorem ok_51 (hex : HB.size = g.1) (hC : SndC g HB l MM call) : ∀ x ∈ P_51, Snd g HB l call cX7_takeReferences 7 yX7_takeReferences.cls yX7_takeReferences.name x.1 x.2 := fa3 (s_51_0 hC) (fa3 (s_51_1 hC) (fa3 (s_51_2 hC) (fa3 (s_51_3 hC) (fa3 (s_51_4 hC) (fa3 (s_51_5 hC) (fa3 (s_51_7 hC) (fa3 (s_51_9 hC) (fa3 (s_51_10 hC) (fa3 (s_51_13 hC) (fa3 (s_51_16 hC) (fa3 (s_51_138 hC) (fn3))))))))))))
set_option maxRecDepth 100000 in
theorem ms_51 (hex : HB.size = g.1) : MSnd g HB l MM D_51 := ⟨by decide +kernel, fun _ hC => ok_51 hex hC, fa3 (show endOK cX7_takeReferences (some .int) 139 1 from ⟨rfl, (by decide +kernel : decode cX7_takeReferences 139 = .ok (.ireturn, 1))⟩) (fn3)⟩
set_option maxRecDepth 100000 in
theorem s_52_0 (hC : SndC g HB l MM call) : Snd g HB l call cX7_firstOf 2 yX7_firstOf.cls yX7_firstOf.name 0 (lf (q_load isR 0 1)) := lf_ok (p_aload_n (by decide +kernel : decode cX7_firstOf 0 = .ok (.aload_n 0, 1)) rfl rfl)
set_option maxRecDepth 100000 in
theorem s_52_1 (hC : SndC g HB l MM call) : Snd g HB l call cX7_firstOf 2 yX7_firstOf.cls yX7_firstOf.name 1 (lf (q_load isI 1 2)) := lf_ok (p_iload_n (by decide +kernel : decode cX7_firstOf 1 = .ok (.iload_n 1, 1)) rfl rfl)
set_option maxRecDepth 100000 in
theorem s_52_2 (hC : SndC g HB l MM call) : Snd g HB l call cX7_firstOf 2 yX7_firstOf.cls yX7_firstOf.name 2 (s_br1 2 15 5) := b_lt (by decide +kernel : decode cX7_firstOf 2 = .ok (.ifCond .lt 13, 3)) (by decide) rfl
set_option maxRecDepth 100000 in
theorem s_52_5 (hC : SndC g HB l MM call) : Snd g HB l call cX7_firstOf 2 yX7_firstOf.cls yX7_firstOf.name 5 (lf (q_load isI 1 6)) := lf_ok (p_iload_n (by decide +kernel : decode cX7_firstOf 5 = .ok (.iload_n 1, 1)) rfl rfl)
set_option maxRecDepth 100000 in
theorem s_52_6 (hC : SndC g HB l MM call) : Snd g HB l call cX7_firstOf 2 yX7_firstOf.cls yX7_firstOf.name 6 (lf (q_load isR 0 7)) := lf_ok (p_aload_n (by decide +kernel : decode cX7_firstOf 6 = .ok (.aload_n 0, 1)) rfl rfl)
set_option maxRecDepth 100000 in
theorem s_52_7 (hC : SndC g HB l MM call) : Snd g HB l call cX7_firstOf 2 yX7_firstOf.cls yX7_firstOf.name 7 (s_alen 8) := h_alen (by decide +kernel : decode cX7_firstOf 7 = .ok (.arraylength, 1)) rfl
set_option maxRecDepth 100000 in
theorem s_52_8 (hC : SndC g HB l MM call) : Snd g HB l call cX7_firstOf 2 yX7_firstOf.cls yX7_firstOf.name 8 (s_br2 4 15 11) := b_igt (by decide +kernel : decode cX7_firstOf 8 = .ok (.if_icmp .gt 7, 3)) (by decide) rfl
set_option maxRecDepth 100000 in
theorem s_52_11 (hC : SndC g HB l MM call) : Snd g HB l call cX7_firstOf 2 yX7_firstOf.cls yX7_firstOf.name 11 (lf (q_load isI 1 12)) := lf_ok (p_iload_n (by decide +kernel : decode cX7_firstOf 11 = .ok (.iload_n 1, 1)) rfl rfl)
set_option maxRecDepth 100000 in
theorem s_52_12 (hC : SndC g HB l MM call) : Snd g HB l call cX7_firstOf 2 yX7_firstOf.cls yX7_firstOf.name 12 (lf (q_goto 16)) := lf_ok (p_goto (by decide +kernel : decode cX7_firstOf 12 = .ok (.goto 4, 3)) (by decide))
set_option maxRecDepth 100000 in
theorem s_52_16 (hC : SndC g HB l MM call) : Snd g HB l call cX7_firstOf 2 yX7_firstOf.cls yX7_firstOf.name 16 (s_cS 53 2 22 19) := c_S hC (M := MM) (id := 53) (d := D_53) rfl mok_53 rfl (tin 4 169 (by decide +kernel) rfl) (tin 4 151 (by decide +kernel) rfl) (tin 1 17 (by decide +kernel) rfl) (by decide +kernel : decode cX7_firstOf 16 = .ok (.invokestatic 230, 3)) rfl
set_option maxRecDepth 100000 in
theorem ok_52 (hex : HB.size = g.1) (hC : SndC g HB l MM call) : ∀ x ∈ P_52, Snd g HB l call cX7_firstOf 2 yX7_firstOf.cls yX7_firstOf.name x.1 x.2 := fa3 (s_52_0 hC) (fa3 (s_52_1 hC) (fa3 (s_52_2 hC) (fa3 (s_52_5 hC) (fa3 (s_52_6 hC) (fa3 (s_52_7 hC) (fa3 (s_52_8 hC) (fa3 (s_52_11 hC) (fa3 (s_52_12 hC) (fa3 (s_52_16 hC) (fn3))))))))))
set_option maxRecDepth 100000 in
theorem ms_52 (hex : HB.size = g.1) : MSnd g HB l MM D_52 := ⟨by decide +kernel, fun _ hC => ok_52 hex hC, fa3 (show endOK cX7_firstOf (some (.array .int)) 19 3 from ⟨⟨_, rfl, Or.inr ⟨_, rfl⟩⟩, (by decide +kernel : decode cX7_firstOf 19 = .ok (.areturn, 1))⟩) (fn3)⟩
set_option maxRecDepth 100000 in
theorem s_53_0 (hC : SndC g HB l MM call) : Snd g HB l call cJ7_copyOf_59c91 3 yJ7_copyOf_59c91.cls yJ7_copyOf_59c91.name 0 (lf (q_load isI 1 1)) := lf_ok (p_iload_n (by decide +kernel : decode cJ7_copyOf_59c91 0 = .ok (.iload_n 1, 1)) rfl rfl)
set_option maxRecDepth 100000 in
theorem s_53_1 (hC : SndC g HB l MM call) : Snd g HB l call cJ7_copyOf_59c91 3 yJ7_copyOf_59c91.cls yJ7_copyOf_59c91.name 1 (lf (q_load isR 0 2)) := lf_ok (p_aload_n (by decide +kernel : decode cJ7_copyOf_59c91 1 = .ok (.aload_n 0, 1)) rfl rfl)
set_option maxRecDepth 100000 in
theorem s_53_2 (hC : SndC g HB l MM call) : Snd g HB l call cJ7_copyOf_59c91 3 yJ7_copyOf_59c91.cls yJ7_copyOf_59c91.name 2 (s_alen 3) := h_alen (by decide +kernel : decode cJ7_copyOf_59c91 2 = .ok (.arraylength, 1)) rfl
set_option maxRecDepth 100000 in
theorem s_53_3 (hC : SndC g HB l MM call) : Snd g HB l call cJ7_copyOf_59c91 3 yJ7_copyOf_59c91.cls yJ7_copyOf_59c91.name 3 (s_br2 1 14 6) := b_ine (by decide +kernel : decode cJ7_copyOf_59c91 3 = .ok (.if_icmp .ne 11, 3)) (by decide) rfl
set_option maxRecDepth 100000 in
theorem s_53_14 (hC : SndC g HB l MM call) : Snd g HB l call cJ7_copyOf_59c91 3 yJ7_copyOf_59c91.cls yJ7_copyOf_59c91.name 14 (lf (q_load isI 1 15)) := lf_ok (p_iload_n (by decide +kernel : decode cJ7_copyOf_59c91 14 = .ok (.iload_n 1, 1)) rfl rfl)
set_option maxRecDepth 100000 in
theorem s_53_15 (hC : SndC g HB l MM call) (hex : HB.size = g.1) : Snd g HB l call cJ7_copyOf_59c91 3 yJ7_copyOf_59c91.cls yJ7_copyOf_59c91.name 15 (s_newa 0 17) := h_newa hex (t := 0) (by decide) rfl (tin 1 82 (by decide +kernel) rfl) (by decide +kernel : decode cJ7_copyOf_59c91 15 = .ok (.newarray .int, 2)) rfl
set_option maxRecDepth 100000 in
theorem s_53_17 (hC : SndC g HB l MM call) : Snd g HB l call cJ7_copyOf_59c91 3 yJ7_copyOf_59c91.cls yJ7_copyOf_59c91.name 17 (lf (q_store isR up1 0 2 3 18)) := lf_ok (p_astore_n (by decide +kernel : decode cJ7_copyOf_59c91 17 = .ok (.astore_n 2, 1)) rfl rfl)
set_option maxRecDepth 100000 in
theorem s_53_18 (hC : SndC g HB l MM call) : Snd g HB l call cJ7_copyOf_59c91 3 yJ7_copyOf_59c91.cls yJ7_copyOf_59c91.name 18 (lf (q_load isR 0 19)) := lf_ok (p_aload_n (by decide +kernel : decode cJ7_copyOf_59c91 18 = .ok (.aload_n 0, 1)) rfl rfl)
set_option maxRecDepth 100000 in
theorem s_53_19 (hC : SndC g HB l MM call) : Snd g HB l call cJ7_copyOf_59c91 3 yJ7_copyOf_59c91.cls yJ7_copyOf_59c91.name 19 (lf (q_push (.inl 0) 20)) := lf_ok (p_iconst (by decide +kernel : decode cJ7_copyOf_59c91 19 = .ok (.iconst 0, 1)) (by decide +kernel) rfl)
set_option maxRecDepth 100000 in
theorem s_53_20 (hC : SndC g HB l MM call) : Snd g HB l call cJ7_copyOf_59c91 3 yJ7_copyOf_59c91.cls yJ7_copyOf_59c91.name 20 (lf (q_load isR 2 21)) := lf_ok (p_aload_n (by decide +kernel : decode cJ7_copyOf_59c91 20 = .ok (.aload_n 2, 1)) rfl rfl)
set_option maxRecDepth 100000 in
theorem s_53_21 (hC : SndC g HB l MM call) : Snd g HB l call cJ7_copyOf_59c91 3 yJ7_copyOf_59c91.cls yJ7_copyOf_59c91.name 21 (lf (q_push (.inl 0) 22)) := lf_ok (p_iconst (by decide +kernel : decode cJ7_copyOf_59c91 21 = .ok (.iconst 0, 1)) (by decide +kernel) rfl)
set_option maxRecDepth 100000 in
theorem s_53_22 (hC : SndC g HB l MM call) : Snd g HB l call cJ7_copyOf_59c91 3 yJ7_copyOf_59c91.cls yJ7_copyOf_59c91.name 22 (lf (q_load isR 0 23)) := lf_ok (p_aload_n (by decide +kernel : decode cJ7_copyOf_59c91 22 = .ok (.aload_n 0, 1)) rfl rfl)
set_option maxRecDepth 100000 in
theorem s_53_23 (hC : SndC g HB l MM call) : Snd g HB l call cJ7_copyOf_59c91 3 yJ7_copyOf_59c91.cls yJ7_copyOf_59c91.name 23 (s_alen 24) := h_alen (by decide +kernel : decode cJ7_copyOf_59c91 23 = .ok (.arraylength, 1)) rfl
set_option maxRecDepth 100000 in
theorem s_53_24 (hC : SndC g HB l MM call) : Snd g HB l call cJ7_copyOf_59c91 3 yJ7_copyOf_59c91.cls yJ7_copyOf_59c91.name 24 (lf (q_load isI 1 25)) := lf_ok (p_iload_n (by decide +kernel : decode cJ7_copyOf_59c91 24 = .ok (.iload_n 1, 1)) rfl rfl)
set_option maxRecDepth 100000 in
theorem s_53_25 (hC : SndC g HB l MM call) : Snd g HB l call cJ7_copyOf_59c91 3 yJ7_copyOf_59c91.cls yJ7_copyOf_59c91.name 25 (s_mm mnF 28) := m_mmin (tin 4 146 (by decide +kernel) rfl) (tin 3 170 (by decide +kernel) rfl) (tin 1 18 (by decide +kernel) rfl) (tin 3 171 (by decide +kernel) rfl) (by decide +kernel : decode cJ7_copyOf_59c91 25 = .ok (.invokestatic 304, 3)) rfl
set_option maxRecDepth 100000 in
theorem s_53_28 (hC : SndC g HB l MM call) : Snd g HB l call cJ7_copyOf_59c91 3 yJ7_copyOf_59c91.cls yJ7_copyOf_59c91.name 28 (s_copy0 31) := m_copy0 (tin 4 147 (by decide +kernel) rfl) (tin 4 149 (by decide +kernel) rfl) (tin 4 148 (by decide +kernel) rfl) (tin 1 25 (by decide +kernel) rfl) (by decide +kernel : decode cJ7_copyOf_59c91 28 = .ok (.invokestatic 150, 3)) rfl
set_option maxRecDepth 100000 in
theorem s_53_31 (hC : SndC g HB l MM call) : Snd g HB l call cJ7_copyOf_59c91 3 yJ7_copyOf_59c91.cls yJ7_copyOf_59c91.name 31 (lf (q_load isR 2 32)) := lf_ok (p_aload_n (by decide +kernel : decode cJ7_copyOf_59c91 31 = .ok (.aload_n 2, 1)) rfl rfl)
set_option maxRecDepth 100000 in
theorem ok_53 (hex : HB.size = g.1) (hC : SndC g HB l MM call) : ∀ x ∈ P_53, Snd g HB l call cJ7_copyOf_59c91 3 yJ7_copyOf_59c91.cls yJ7_copyOf_59c91.name x.1 x.2 := fa3 (s_53_0 hC) (fa3 (s_53_1 hC) (fa3 (s_53_2 hC) (fa3 (s_53_3 hC) (fa3 (s_53_14 hC) (fa3 (s_53_15 hC hex) (fa3 (s_53_17 hC) (fa3 (s_53_18 hC) (fa3 (s_53_19 hC) (fa3 (s_53_20 hC) (fa3 (s_53_21 hC) (fa3 (s_53_22 hC) (fa3 (s_53_23 hC) (fa3 (s_53_24 hC) (fa3 (s_53_25 hC) (fa3 (s_53_28 hC) (fa3 (s_53_31 hC) (fn3)))))))))))))))))
set_option maxRecDepth 100000 in
theorem ms_53 (hex : HB.size = g.1) : MSnd g HB l MM D_53 := ⟨by decide +kernel, fun _ hC => ok_53 hex hC, fa3 (show endOK cJ7_copyOf_59c91 (some (.array .int)) 32 3 from ⟨⟨_, rfl, Or.inr ⟨_, rfl⟩⟩, (by decide +kernel : decode cJ7_copyOf_59c91 32 = .ok (.areturn, 1))⟩) (fn3)⟩
set_option maxRecDepth 100000 in
theorem s_54_0 (hC : SndC g HB l MM call) : Snd g HB l call cX2_encodedWords 6 yX2_encodedWords.cls yX2_encodedWords.name 0 (lf (q_push (.inl 0) 1)) := lf_ok (p_iconst (by decide +kernel : decode cX2_encodedWords 0 = .ok (.iconst 0, 1)) (by decide +kernel) rfl)
set_option maxRecDepth 100000 in
theorem s_54_1 (hC : SndC g HB l MM call) : Snd g HB l call cX2_encodedWords 6 yX2_encodedWords.cls yX2_encodedWords.name 1 (lf (q_store isI up1 0 2 6 2)) := lf_ok (p_istore_n (by decide +kernel : decode cX2_encodedWords 1 = .ok (.istore_n 2, 1)) rfl rfl)
set_option maxRecDepth 100000 in
theorem s_54_2 (hC : SndC g HB l MM call) : Snd g HB l call cX2_encodedWords 6 yX2_encodedWords.cls yX2_encodedWords.name 2 (lf (q_push (.inl 0) 3)) := lf_ok (p_iconst (by decide +kernel : decode cX2_encodedWords 2 = .ok (.iconst 0, 1)) (by decide +kernel) rfl)
set_option maxRecDepth 100000 in
theorem s_54_3 (hC : SndC g HB l MM call) : Snd g HB l call cX2_encodedWords 6 yX2_encodedWords.cls yX2_encodedWords.name 3 (lf (q_store isI up1 0 3 6 4)) := lf_ok (p_istore_n (by decide +kernel : decode cX2_encodedWords 3 = .ok (.istore_n 3, 1)) rfl rfl)
set_option maxRecDepth 100000 in
theorem s_54_4 (hC : SndC g HB l MM call) : Snd g HB l call cX2_encodedWords 6 yX2_encodedWords.cls yX2_encodedWords.name 4 (lf (q_load isI 3 5)) := lf_ok (p_iload_n (by decide +kernel : decode cX2_encodedWords 4 = .ok (.iload_n 3, 1)) rfl rfl)
set_option maxRecDepth 100000 in
theorem s_54_5 (hC : SndC g HB l MM call) : Snd g HB l call cX2_encodedWords 6 yX2_encodedWords.cls yX2_encodedWords.name 5 (lf (q_load isR 0 6)) := lf_ok (p_aload_n (by decide +kernel : decode cX2_encodedWords 5 = .ok (.aload_n 0, 1)) rfl rfl)
set_option maxRecDepth 100000 in
theorem s_54_6 (hC : SndC g HB l MM call) : Snd g HB l call cX2_encodedWords 6 yX2_encodedWords.cls yX2_encodedWords.name 6 (s_cV 2 18 0 20 9) := c_V (C := RX1) (T := TX1) (N := 2) (ci := 2) rfl hC (M := MM) (id := 18) (d := D_18) rfl mok_18 rfl rfl (tin 4 174 (by decide +kernel) rfl) (tin 2 156 (by decide +kernel) rfl) (tin 2 157 (by decide +kernel) rfl) (tin 1 2 (by decide +kernel) rfl) (by decide +kernel : decode cX2_encodedWords 6 = .ok (.invokevirtual 41, 3)) rfl
set_option maxRecDepth 100000 in
theorem s_54_9 (hC : SndC g HB l MM call) : Snd g HB l call cX2_encodedWords 6 yX2_encodedWords.cls yX2_encodedWords.name 9 (s_br2 3 92 12) := b_ige (by decide +kernel : decode cX2_encodedWords 9 = .ok (.if_icmp .ge 83, 3)) (by decide) rfl
set_option maxRecDepth 100000 in
theorem ok_54 (hex : HB.size = g.1) (hC : SndC g HB l MM call) : ∀ x ∈ P_54, Snd g HB l call cX2_encodedWords 6 yX2_encodedWords.cls yX2_encodedWords.name x.1 x.2 := fa3 (s_54_0 hC) (fa3 (s_54_1 hC) (fa3 (s_54_2 hC) (fa3 (s_54_3 hC) (fa3 (s_54_4 hC) (fa3 (s_54_5 hC) (fa3 (s_54_6 hC) (fa3 (s_54_9 hC) (fn3))))))))
set_option maxRecDepth 100000 in
theorem ms_54 (hex : HB.size = g.1) : MSnd g HB l MM D_54 := ⟨by decide +kernel, fun _ hC => ok_54 hex hC, fa3 (show endOK cX2_encodedWords none 92 0 from ⟨rfl, (by decide +kernel : decode cX2_encodedWords 92 = .ok (.return_, 1))⟩) (fn3)⟩
set_option maxRecDepth 100000 in
theorem s_55_0 (hC : SndC g HB l MM call) : Snd g HB l call cX7_takeWords 4 yX7_takeWords.cls yX7_takeWords.name 0 (lf (q_push (.inl 0) 1)) := lf_ok (p_iconst (by decide +kernel : decode cX7_takeWords 0 = .ok (.iconst 0, 1)) (by decide +kernel) rfl)
set_option maxRecDepth 100000 in
theorem s_55_1 (hC : SndC g HB l MM call) : Snd g HB l call cX7_takeWords 4 yX7_takeWords.cls yX7_takeWords.name 1 (lf (q_store isI up1 0 2 4 2)) := lf_ok (p_istore_n (by decide +kernel : decode cX7_takeWords 1 = .ok (.istore_n 2, 1)) rfl rfl)
set_option maxRecDepth 100000 in
theorem s_55_2 (hC : SndC g HB l MM call) : Snd g HB l call cX7_takeWords 4 yX7_takeWords.cls yX7_takeWords.name 2 (lf (q_push (.inl 0) 3)) := lf_ok (p_iconst (by decide +kernel : decode cX7_takeWords 2 = .ok (.iconst 0, 1)) (by decide +kernel) rfl)
set_option maxRecDepth 100000 in
theorem s_55_3 (hC : SndC g HB l MM call) : Snd g HB l call cX7_takeWords 4 yX7_takeWords.cls yX7_takeWords.name 3 (lf (q_store isI up1 0 3 4 4)) := lf_ok (p_istore_n (by decide +kernel : decode cX7_takeWords 3 = .ok (.istore_n 3, 1)) rfl rfl)
set_option maxRecDepth 100000 in
theorem s_55_4 (hC : SndC g HB l MM call) : Snd g HB l call cX7_takeWords 4 yX7_takeWords.cls yX7_takeWords.name 4 (lf (q_load isI 3 5)) := lf_ok (p_iload_n (by decide +kernel : decode cX7_takeWords 4 = .ok (.iload_n 3, 1)) rfl rfl)
set_option maxRecDepth 100000 in
theorem s_55_5 (hC : SndC g HB l MM call) : Snd g HB l call cX7_takeWords 4 yX7_takeWords.cls yX7_takeWords.name 5 (lf (q_load isI 1 6)) := lf_ok (p_iload_n (by decide +kernel : decode cX7_takeWords 5 = .ok (.iload_n 1, 1)) rfl rfl)
set_option maxRecDepth 100000 in
theorem s_55_6 (hC : SndC g HB l MM call) : Snd g HB l call cX7_takeWords 4 yX7_takeWords.cls yX7_takeWords.name 6 (s_br2 3 96 9) := b_ige (by decide +kernel : decode cX7_takeWords 6 = .ok (.if_icmp .ge 90, 3)) (by decide) rfl
set_option maxRecDepth 100000 in
theorem s_55_9 (hC : SndC g HB l MM call) : Snd g HB l call cX7_takeWords 4 yX7_takeWords.cls yX7_takeWords.name 9 (lf (q_load isR 0 10)) := lf_ok (p_aload_n (by decide +kernel : decode cX7_takeWords 9 = .ok (.aload_n 0, 1)) rfl rfl)
set_option maxRecDepth 100000 in
theorem s_55_10 (hC : SndC g HB l MM call) : Snd g HB l call cX7_takeWords 4 yX7_takeWords.cls yX7_takeWords.name 10 (s_get 6 13 13) := h_get (k := 13) (C := RX7) (T := TX7) (N := 15) (ci := 6) rfl (by decide) (tin 1 182 (by decide +kernel) rfl)  (by decide +kernel : decode cX7_takeWords 10 = .ok (.getfield 82, 3)) rfl
set_option maxRecDepth 100000 in
theorem s_55_13 (hC : SndC g HB l MM call) : Snd g HB l call cX7_takeWords 4 yX7_takeWords.cls yX7_takeWords.name 13 (lf (q_load isR 0 14)) := lf_ok (p_aload_n (by decide +kernel : decode cX7_takeWords 13 = .ok (.aload_n 0, 1)) rfl rfl)
set_option maxRecDepth 100000 in
theorem s_55_14 (hC : SndC g HB l MM call) : Snd g HB l call cX7_takeWords 4 yX7_takeWords.cls yX7_takeWords.name 14 (s_get 6 8 17) := h_get (k := 8) (C := RX7) (T := TX7) (N := 15) (ci := 6) rfl (by decide) (tin 1 177 (by decide +kernel) rfl)  (by decide +kernel : decode cX7_takeWords 14 = .ok (.getfield 29, 3)) rfl
set_option maxRecDepth 100000 in
theorem s_55_17 (hC : SndC g HB l MM call) : Snd g HB l call cX7_takeWords 4 yX7_takeWords.cls yX7_takeWords.name 17 (s_alen 18) := h_alen (by decide +kernel : decode cX7_takeWords 17 = .ok (.arraylength, 1)) rfl
set_option maxRecDepth 100000 in
theorem s_55_18 (hC : SndC g HB l MM call) : Snd g HB l call cX7_takeWords 4 yX7_takeWords.cls yX7_takeWords.name 18 (s_br2 3 96 21) := b_ige (by decide +kernel : decode cX7_takeWords 18 = .ok (.if_icmp .ge 78, 3)) (by decide) rfl
set_option maxRecDepth 100000 in
theorem s_55_21 (hC : SndC g HB l MM call) : Snd g HB l call cX7_takeWords 4 yX7_takeWords.cls yX7_takeWords.name 21 (lf (q_load isR 0 22)) := lf_ok (p_aload_n (by decide +kernel : decode cX7_takeWords 21 = .ok (.aload_n 0, 1)) rfl rfl)
set_option maxRecDepth 100000 in
theorem s_55_22 (hC : SndC g HB l MM call) : Snd g HB l call cX7_takeWords 4 yX7_takeWords.cls yX7_takeWords.name 22 (s_get 6 5 25) := h_get (k := 5) (C := RX7) (T := TX7) (N := 15) (ci := 6) rfl (by decide) (tin 1 174 (by decide +kernel) rfl)  (by decide +kernel : decode cX7_takeWords 22 = .ok (.getfield 20, 3)) rfl
set_option maxRecDepth 100000 in
theorem s_55_25 (hC : SndC g HB l MM call) : Snd g HB l call cX7_takeWords 4 yX7_takeWords.cls yX7_takeWords.name 25 (lf (q_load isI 2 26)) := lf_ok (p_iload_n (by decide +kernel : decode cX7_takeWords 25 = .ok (.iload_n 2, 1)) rfl rfl)
set_option maxRecDepth 100000 in
theorem s_55_26 (hC : SndC g HB l MM call) : Snd g HB l call cX7_takeWords 4 yX7_takeWords.cls yX7_takeWords.name 26 (lf (q_load isR 0 27)) := lf_ok (p_aload_n (by decide +kernel : decode cX7_takeWords 26 = .ok (.aload_n 0, 1)) rfl rfl)
set_option maxRecDepth 100000 in
theorem s_55_27 (hC : SndC g HB l MM call) : Snd g HB l call cX7_takeWords 4 yX7_takeWords.cls yX7_takeWords.name 27 (s_get 6 5 30) := h_get (k := 5) (C := RX7) (T := TX7) (N := 15) (ci := 6) rfl (by decide) (tin 1 174 (by decide +kernel) rfl)  (by decide +kernel : decode cX7_takeWords 27 = .ok (.getfield 20, 3)) rfl
set_option maxRecDepth 100000 in
theorem s_55_30 (hC : SndC g HB l MM call) : Snd g HB l call cX7_takeWords 4 yX7_takeWords.cls yX7_takeWords.name 30 (s_cV 2 18 0 20 33) := c_V (C := RX1) (T := TX1) (N := 2) (ci := 2) rfl hC (M := MM) (id := 18) (d := D_18) rfl mok_18 rfl rfl (tin 3 153 (by decide +kernel) rfl) (tin 2 156 (by decide +kernel) rfl) (tin 2 157 (by decide +kernel) rfl) (tin 1 2 (by decide +kernel) rfl) (by decide +kernel : decode cX7_takeWords 30 = .ok (.invokevirtual 64, 3)) rfl
set_option maxRecDepth 100000 in
theorem s_55_33 (hC : SndC g HB l MM call) : Snd g HB l call cX7_takeWords 4 yX7_takeWords.cls yX7_takeWords.name 33 (lf (q_load isR 0 34)) := lf_ok (p_aload_n (by decide +kernel : decode cX7_takeWords 33 = .ok (.aload_n 0, 1)) rfl rfl)
set_option maxRecDepth 100000 in
theorem s_55_34 (hC : SndC g HB l MM call) : Snd g HB l call cX7_takeWords 4 yX7_takeWords.cls yX7_takeWords.name 34 (s_get 6 6 37) := h_get (k := 6) (C := RX7) (T := TX7) (N := 15) (ci := 6) rfl (by decide) (tin 1 175 (by decide +kernel) rfl)  (by decide +kernel : decode cX7_takeWords 34 = .ok (.getfield 23, 3)) rfl
set_option maxRecDepth 100000 in
theorem s_55_37 (hC : SndC g HB l MM call) : Snd g HB l call cX7_takeWords 4 yX7_takeWords.cls yX7_takeWords.name 37 (s_cV 2 56 3 24 40) := c_V (C := RX1) (T := TX1) (N := 2) (ci := 2) rfl hC (M := MM) (id := 56) (d := D_56) rfl mok_56 rfl rfl (tin 4 210 (by decide +kernel) rfl) (tin 4 211 (by decide +kernel) rfl) (tin 4 212 (by decide +kernel) rfl) (tin 1 2 (by decide +kernel) rfl) (by decide +kernel : decode cX7_takeWords 37 = .ok (.invokevirtual 114, 3)) rfl
set_option maxRecDepth 100000 in
theorem s_55_40 (hC : SndC g HB l MM call) : Snd g HB l call cX7_takeWords 4 yX7_takeWords.cls yX7_takeWords.name 40 (lf (q_store isI up1 0 2 4 41)) := lf_ok (p_istore_n (by decide +kernel : decode cX7_takeWords 40 = .ok (.istore_n 2, 1)) rfl rfl)
set_option maxRecDepth 100000 in
theorem s_55_41 (hC : SndC g HB l MM call) : Snd g HB l call cX7_takeWords 4 yX7_takeWords.cls yX7_takeWords.name 41 (lf (q_load isR 0 42)) := lf_ok (p_aload_n (by decide +kernel : decode cX7_takeWords 41 = .ok (.aload_n 0, 1)) rfl rfl)
set_option maxRecDepth 100000 in
theorem s_55_42 (hC : SndC g HB l MM call) : Snd g HB l call cX7_takeWords 4 yX7_takeWords.cls yX7_takeWords.name 42 (s_get 6 6 45) := h_get (k := 6) (C := RX7) (T := TX7) (N := 15) (ci := 6) rfl (by decide) (tin 1 175 (by decide +kernel) rfl)  (by decide +kernel : decode cX7_takeWords 42 = .ok (.getfield 23, 3)) rfl
set_option maxRecDepth 100000 in
theorem s_55_45 (hC : SndC g HB l MM call) : Snd g HB l call cX7_takeWords 4 yX7_takeWords.cls yX7_takeWords.name 45 (s_cV 2 18 0 20 48) := c_V (C := RX1) (T := TX1) (N := 2) (ci := 2) rfl hC (M := MM) (id := 18) (d := D_18) rfl mok_18 rfl rfl (tin 3 153 (by decide +kernel) rfl) (tin 2 156 (by decide +kernel) rfl) (tin 2 157 (by decide +kernel) rfl) (tin 1 2 (by decide +kernel) rfl) (by decide +kernel : decode cX7_takeWords 45 = .ok (.invokevirtual 64, 3)) rfl
set_option maxRecDepth 100000 in
theorem s_55_48 (hC : SndC g HB l MM call) : Snd g HB l call cX7_takeWords 4 yX7_takeWords.cls yX7_takeWords.name 48 (s_br1 1 52 51) := b_ne (by decide +kernel : decode cX7_takeWords 48 = .ok (.ifCond .ne 4, 3)) (by decide) rfl
set_option maxRecDepth 100000 in
theorem ok_55 (hex : HB.size = g.1) (hC : SndC g HB l MM call) : ∀ x ∈ P_55, Snd g HB l call cX7_takeWords 4 yX7_takeWords.cls yX7_takeWords.name x.1 x.2 := fa3 (s_55_0 hC) (fa3 (s_55_1 hC) (fa3 (s_55_2 hC) (fa3 (s_55_3 hC) (fa3 (s_55_4 hC) (fa3 (s_55_5 hC) (fa3 (s_55_6 hC) (fa3 (s_55_9 hC) (fa3 (s_55_10 hC) (fa3 (s_55_13 hC) (fa3 (s_55_14 hC) (fa3 (s_55_17 hC) (fa3 (s_55_18 hC) (fa3 (s_55_21 hC) (fa3 (s_55_22 hC) (fa3 (s_55_25 hC) (fa3 (s_55_26 hC) (fa3 (s_55_27 hC) (fa3 (s_55_30 hC) (fa3 (s_55_33 hC) (fa3 (s_55_34 hC) (fa3 (s_55_37 hC) (fa3 (s_55_40 hC) (fa3 (s_55_41 hC) (fa3 (s_55_42 hC) (fa3 (s_55_45 hC) (fa3 (s_55_48 hC) (fn3)))))))))))))))))))))))))))
set_option maxRecDepth 100000 in
theorem ms_55 (hex : HB.size = g.1) : MSnd g HB l MM D_55 := ⟨by decide +kernel, fun _ hC => ok_55 hex hC, fa3 (show endOK cX7_takeWords none 51 0 from ⟨rfl, (by decide +kernel : decode cX7_takeWords 51 = .ok (.return_, 1))⟩) (fn3)⟩
set_option maxRecDepth 100000 in
theorem s_56_0 (hC : SndC g HB l MM call) : Snd g HB l call cX1_nextWord 5 yX1_nextWord.cls yX1_nextWord.name 0 (lf (q_load isR 3 1)) := lf_ok (p_aload_n (by decide +kernel : decode cX1_nextWord 0 = .ok (.aload_n 3, 1)) rfl rfl)
set_option maxRecDepth 100000 in
theorem s_56_1 (hC : SndC g HB l MM call) : Snd g HB l call cX1_nextWord 5 yX1_nextWord.cls yX1_nextWord.name 1 (s_cV 2 12 0 20 4) := c_V (C := RX1) (T := TX1) (N := 2) (ci := 2) rfl hC (M := MM) (id := 12) (d := D_12) rfl mok_12 rfl rfl (tin 4 214 (by decide +kernel) rfl) (tin 2 84 (by decide +kernel) rfl) (tin 2 85 (by decide +kernel) rfl) (tin 1 2 (by decide +kernel) rfl) (by decide +kernel : decode cX1_nextWord 1 = .ok (.invokevirtual 52, 3)) rfl
set_option maxRecDepth 100000 in
theorem s_56_4 (hC : SndC g HB l MM call) : Snd g HB l call cX1_nextWord 5 yX1_nextWord.cls yX1_nextWord.name 4 (lf (q_load isI 1 5)) := lf_ok (p_iload_n (by decide +kernel : decode cX1_nextWord 4 = .ok (.iload_n 1, 1)) rfl rfl)
set_option maxRecDepth 100000 in
theorem s_56_5 (hC : SndC g HB l MM call) : Snd g HB l call cX1_nextWord 5 yX1_nextWord.cls yX1_nextWord.name 5 (lf (q_store isI up1 0 4 5 7)) := lf_ok (p_istore (by decide +kernel : decode cX1_nextWord 5 = .ok (.istore 4, 2)) rfl)
set_option maxRecDepth 100000 in
theorem s_56_7 (hC : SndC g HB l MM call) : Snd g HB l call cX1_nextWord 5 yX1_nextWord.cls yX1_nextWord.name 7 (lf (q_load isI 4 9)) := lf_ok (p_iload (by decide +kernel : decode cX1_nextWord 7 = .ok (.iload 4, 2)) rfl)
set_option maxRecDepth 100000 in
theorem s_56_9 (hC : SndC g HB l MM call) : Snd g HB l call cX1_nextWord 5 yX1_nextWord.cls yX1_nextWord.name 9 (lf (q_load isI 2 10)) := lf_ok (p_iload_n (by decide +kernel : decode cX1_nextWord 9 = .ok (.iload_n 2, 1)) rfl rfl)
set_option maxRecDepth 100000 in
theorem s_56_10 (hC : SndC g HB l MM call) : Snd g HB l call cX1_nextWord 5 yX1_nextWord.cls yX1_nextWord.name 10 (s_br2 3 31 13) := b_ige (by decide +kernel : decode cX1_nextWord 10 = .ok (.if_icmp .ge 21, 3)) (by decide) rfl
set_option maxRecDepth 100000 in
theorem s_56_13 (hC : SndC g HB l MM call) : Snd g HB l call cX1_nextWord 5 yX1_nextWord.cls yX1_nextWord.name 13 (lf (q_load isR 0 14)) := lf_ok (p_aload_n (by decide +kernel : decode cX1_nextWord 13 = .ok (.aload_n 0, 1)) rfl rfl)
set_option maxRecDepth 100000 in
theorem s_56_14 (hC : SndC g HB l MM call) : Snd g HB l call cX1_nextWord 5 yX1_nextWord.cls yX1_nextWord.name 14 (lf (q_load isI 4 16)) := lf_ok (p_iload (by decide +kernel : decode cX1_nextWord 14 = .ok (.iload 4, 2)) rfl)
set_option maxRecDepth 100000 in
theorem s_56_16 (hC : SndC g HB l MM call) : Snd g HB l call cX1_nextWord 5 yX1_nextWord.cls yX1_nextWord.name 16 (s_cV 2 20 1 21 19) := c_V (C := RX1) (T := TX1) (N := 2) (ci := 2) rfl hC (M := MM) (id := 20) (d := D_20) rfl mok_20 rfl rfl (tin 2 163 (by decide +kernel) rfl) (tin 2 164 (by decide +kernel) rfl) (tin 2 165 (by decide +kernel) rfl) (tin 1 2 (by decide +kernel) rfl) (by decide +kernel : decode cX1_nextWord 16 = .ok (.invokevirtual 23, 3)) rfl
set_option maxRecDepth 100000 in
theorem s_56_19 (hC : SndC g HB l MM call) : Snd g HB l call cX1_nextWord 5 yX1_nextWord.cls yX1_nextWord.name 19 (s_cS 62 1 20 22) := c_S hC (M := MM) (id := 62) (d := D_62) rfl mok_62 rfl (tin 4 215 (by decide +kernel) rfl) (tin 4 216 (by decide +kernel) rfl) (tin 1 19 (by decide +kernel) rfl) (by decide +kernel : decode cX1_nextWord 19 = .ok (.invokestatic 55, 3)) rfl
set_option maxRecDepth 100000 in
theorem s_56_22 (hC : SndC g HB l MM call) : Snd g HB l call cX1_nextWord 5 yX1_nextWord.cls yX1_nextWord.name 22 (s_br1 1 31 25) := b_ne (by decide +kernel : decode cX1_nextWord 22 = .ok (.ifCond .ne 9, 3)) (by decide) rfl
set_option maxRecDepth 100000 in
theorem s_56_25 (hC : SndC g HB l MM call) : Snd g HB l call cX1_nextWord 5 yX1_nextWord.cls yX1_nextWord.name 25 (lf (q_iinc 4 1 5 28)) := lf_ok (p_iinc (by decide +kernel : decode cX1_nextWord 25 = .ok (.iinc 4 1, 3)) rfl)
set_option maxRecDepth 100000 in
theorem s_56_28 (hC : SndC g HB l MM call) : Snd g HB l call cX1_nextWord 5 yX1_nextWord.cls yX1_nextWord.name 28 (lf (q_goto 7)) := lf_ok (p_goto (by decide +kernel : decode cX1_nextWord 28 = .ok (.goto (-21), 3)) (by decide))
set_option maxRecDepth 100000 in
theorem s_56_31 (hC : SndC g HB l MM call) : Snd g HB l call cX1_nextWord 5 yX1_nextWord.cls yX1_nextWord.name 31 (lf (q_load isI 4 33)) := lf_ok (p_iload (by decide +kernel : decode cX1_nextWord 31 = .ok (.iload 4, 2)) rfl)
set_option maxRecDepth 100000 in
theorem s_56_33 (hC : SndC g HB l MM call) : Snd g HB l call cX1_nextWord 5 yX1_nextWord.cls yX1_nextWord.name 33 (lf (q_load isI 2 34)) := lf_ok (p_iload_n (by decide +kernel : decode cX1_nextWord 33 = .ok (.iload_n 2, 1)) rfl rfl)
set_option maxRecDepth 100000 in
theorem s_56_34 (hC : SndC g HB l MM call) : Snd g HB l call cX1_nextWord 5 yX1_nextWord.cls yX1_nextWord.name 34 (s_br2 3 68 37) := b_ige (by decide +kernel : decode cX1_nextWord 34 = .ok (.if_icmp .ge 34, 3)) (by decide) rfl
set_option maxRecDepth 100000 in
theorem s_56_68 (hC : SndC g HB l MM call) : Snd g HB l call cX1_nextWord 5 yX1_nextWord.cls yX1_nextWord.name 68 (lf (q_load isI 4 70)) := lf_ok (p_iload (by decide +kernel : decode cX1_nextWord 68 = .ok (.iload 4, 2)) rfl)
set_option maxRecDepth 100000 in
theorem ok_56 (hex : HB.size = g.1) (hC : SndC g HB l MM call) : ∀ x ∈ P_56, Snd g HB l call cX1_nextWord 5 yX1_nextWord.cls yX1_nextWord.name x.1 x.2 := fa3 (s_56_0 hC) (fa3 (s_56_1 hC) (fa3 (s_56_4 hC) (fa3 (s_56_5 hC) (fa3 (s_56_7 hC) (fa3 (s_56_9 hC) (fa3 (s_56_10 hC) (fa3 (s_56_13 hC) (fa3 (s_56_14 hC) (fa3 (s_56_16 hC) (fa3 (s_56_19 hC) (fa3 (s_56_22 hC) (fa3 (s_56_25 hC) (fa3 (s_56_28 hC) (fa3 (s_56_31 hC) (fa3 (s_56_33 hC) (fa3 (s_56_34 hC) (fa3 (s_56_68 hC) (fn3))))))))))))))))))
set_option maxRecDepth 100000 in
theorem ms_56 (hex : HB.size = g.1) : MSnd g HB l MM D_56 := ⟨by decide +kernel, fun _ hC => ok_56 hex hC, fa3 (show endOK cX1_nextWord (some .int) 70 1 from ⟨rfl, (by decide +kernel : decode cX1_nextWord 70 = .ok (.ireturn, 1))⟩) (fn3)⟩
set_option maxRecDepth 100000 in
theorem s_57_0 (hC : SndC g HB l MM call) : Snd g HB l call cX7_writeText 2 yX7_writeText.cls yX7_writeText.name 0 (lf (q_load isR 0 1)) := lf_ok (p_aload_n (by decide +kernel : decode cX7_writeText 0 = .ok (.aload_n 0, 1)) rfl rfl)
set_option maxRecDepth 100000 in
theorem s_57_1 (hC : SndC g HB l MM call) : Snd g HB l call cX7_writeText 2 yX7_writeText.cls yX7_writeText.name 1 (s_get 6 5 4) := h_get (k := 5) (C := RX7) (T := TX7) (N := 15) (ci := 6) rfl (by decide) (tin 1 174 (by decide +kernel) rfl)  (by decide +kernel : decode cX7_writeText 1 = .ok (.getfield 20, 3)) rfl
set_option maxRecDepth 100000 in
theorem s_57_4 (hC : SndC g HB l MM call) : Snd g HB l call cX7_writeText 2 yX7_writeText.cls yX7_writeText.name 4 (s_cV 2 12 0 20 7) := c_V (C := RX1) (T := TX1) (N := 2) (ci := 2) rfl hC (M := MM) (id := 12) (d := D_12) rfl mok_12 rfl rfl (tin 4 170 (by decide +kernel) rfl) (tin 2 84 (by decide +kernel) rfl) (tin 2 85 (by decide +kernel) rfl) (tin 1 2 (by decide +kernel) rfl) (by decide +kernel : decode cX7_writeText 4 = .ok (.invokevirtual 90, 3)) rfl
set_option maxRecDepth 100000 in
theorem s_57_7 (hC : SndC g HB l MM call) : Snd g HB l call cX7_writeText 2 yX7_writeText.cls yX7_writeText.name 7 (lf (q_load isR 0 8)) := lf_ok (p_aload_n (by decide +kernel : decode cX7_writeText 7 = .ok (.aload_n 0, 1)) rfl rfl)
set_option maxRecDepth 100000 in
theorem s_57_8 (hC : SndC g HB l MM call) : Snd g HB l call cX7_writeText 2 yX7_writeText.cls yX7_writeText.name 8 (lf (q_push (.inl 0) 9)) := lf_ok (p_iconst (by decide +kernel : decode cX7_writeText 8 = .ok (.iconst 0, 1)) (by decide +kernel) rfl)
set_option maxRecDepth 100000 in
theorem s_57_9 (hC : SndC g HB l MM call) : Snd g HB l call cX7_writeText 2 yX7_writeText.cls yX7_writeText.name 9 (s_put 6 14 0 12) := h_put (k := 14) (C := RX7) (T := TX7) (N := 15) (ci := 6) rfl (by decide) rfl rfl (tin 1 183 (by decide +kernel) rfl)  (by decide +kernel : decode cX7_writeText 9 = .ok (.putfield 124, 3)) rfl
set_option maxRecDepth 100000 in
theorem s_57_12 (hC : SndC g HB l MM call) : Snd g HB l call cX7_writeText 2 yX7_writeText.cls yX7_writeText.name 12 (lf (q_load isR 0 13)) := lf_ok (p_aload_n (by decide +kernel : decode cX7_writeText 12 = .ok (.aload_n 0, 1)) rfl rfl)
set_option maxRecDepth 100000 in
theorem s_57_13 (hC : SndC g HB l MM call) : Snd g HB l call cX7_writeText 2 yX7_writeText.cls yX7_writeText.name 13 (lf (q_push (.inl 0) 14)) := lf_ok (p_iconst (by decide +kernel : decode cX7_writeText 13 = .ok (.iconst 0, 1)) (by decide +kernel) rfl)
set_option maxRecDepth 100000 in
theorem s_57_14 (hC : SndC g HB l MM call) : Snd g HB l call cX7_writeText 2 yX7_writeText.cls yX7_writeText.name 14 (lf (q_load isR 0 15)) := lf_ok (p_aload_n (by decide +kernel : decode cX7_writeText 14 = .ok (.aload_n 0, 1)) rfl rfl)
set_option maxRecDepth 100000 in
theorem s_57_15 (hC : SndC g HB l MM call) : Snd g HB l call cX7_writeText 2 yX7_writeText.cls yX7_writeText.name 15 (s_get 6 0 18) := h_get (k := 0) (C := RX7) (T := TX7) (N := 15) (ci := 6) rfl (by decide) (tin 1 169 (by decide +kernel) rfl)  (by decide +kernel : decode cX7_writeText 15 = .ok (.getfield 45, 3)) rfl
set_option maxRecDepth 100000 in
theorem s_57_18 (hC : SndC g HB l MM call) : Snd g HB l call cX7_writeText 2 yX7_writeText.cls yX7_writeText.name 18 (s_cV 2 18 0 20 21) := c_V (C := RX1) (T := TX1) (N := 2) (ci := 2) rfl hC (M := MM) (id := 18) (d := D_18) rfl mok_18 rfl rfl (tin 3 153 (by decide +kernel) rfl) (tin 2 156 (by decide +kernel) rfl) (tin 2 157 (by decide +kernel) rfl) (tin 1 2 (by decide +kernel) rfl) (by decide +kernel : decode cX7_writeText 18 = .ok (.invokevirtual 64, 3)) rfl
set_option maxRecDepth 100000 in
theorem s_57_21 (hC : SndC g HB l MM call) : Snd g HB l call cX7_writeText 2 yX7_writeText.cls yX7_writeText.name 21 (lf (q_push (.inl 1) 22)) := lf_ok (p_iconst (by decide +kernel : decode cX7_writeText 21 = .ok (.iconst 1, 1)) (by decide +kernel) rfl)
set_option maxRecDepth 100000 in
theorem s_57_22 (hC : SndC g HB l MM call) : Snd g HB l call cX7_writeText 2 yX7_writeText.cls yX7_writeText.name 22 (s_cV 6 58 3 23 25) := c_V (C := RX7) (T := TX7) (N := 15) (ci := 6) rfl hC (M := MM) (id := 58) (d := D_58) rfl mok_58 rfl rfl (tin 4 222 (by decide +kernel) rfl) (tin 4 224 (by decide +kernel) rfl) (tinP (y := mdY D_58) (n := 15) 24 (by decide +kernel)) (tin 1 8 (by decide +kernel) rfl) (by decide +kernel : decode cX7_writeText 22 = .ok (.invokevirtual 127, 3)) rfl
set_option maxRecDepth 100000 in
theorem s_57_25 (hC : SndC g HB l MM call) : Snd g HB l call cX7_writeText 2 yX7_writeText.cls yX7_writeText.name 25 (lf (q_push (.inl 0) 26)) := lf_ok (p_iconst (by decide +kernel : decode cX7_writeText 25 = .ok (.iconst 0, 1)) (by decide +kernel) rfl)
set_option maxRecDepth 100000 in
theorem s_57_26 (hC : SndC g HB l MM call) : Snd g HB l call cX7_writeText 2 yX7_writeText.cls yX7_writeText.name 26 (lf (q_store isI up1 0 1 2 27)) := lf_ok (p_istore_n (by decide +kernel : decode cX7_writeText 26 = .ok (.istore_n 1, 1)) rfl rfl)
set_option maxRecDepth 100000 in
theorem s_57_27 (hC : SndC g HB l MM call) : Snd g HB l call cX7_writeText 2 yX7_writeText.cls yX7_writeText.name 27 (lf (q_load isI 1 28)) := lf_ok (p_iload_n (by decide +kernel : decode cX7_writeText 27 = .ok (.iload_n 1, 1)) rfl rfl)
set_option maxRecDepth 100000 in
theorem s_57_28 (hC : SndC g HB l MM call) : Snd g HB l call cX7_writeText 2 yX7_writeText.cls yX7_writeText.name 28 (lf (q_push (.inl 401) 31)) := lf_ok (p_sipush (by decide +kernel : decode cX7_writeText 28 = .ok (.sipush 401, 3)) (by decide +kernel) rfl)
set_option maxRecDepth 100000 in
theorem s_57_31 (hC : SndC g HB l MM call) : Snd g HB l call cX7_writeText 2 yX7_writeText.cls yX7_writeText.name 31 (s_br2 3 114 34) := b_ige (by decide +kernel : decode cX7_writeText 31 = .ok (.if_icmp .ge 83, 3)) (by decide) rfl
set_option maxRecDepth 100000 in
theorem s_57_34 (hC : SndC g HB l MM call) : Snd g HB l call cX7_writeText 2 yX7_writeText.cls yX7_writeText.name 34 (lf (q_load isR 0 35)) := lf_ok (p_aload_n (by decide +kernel : decode cX7_writeText 34 = .ok (.aload_n 0, 1)) rfl rfl)
set_option maxRecDepth 100000 in
theorem s_57_35 (hC : SndC g HB l MM call) : Snd g HB l call cX7_writeText 2 yX7_writeText.cls yX7_writeText.name 35 (s_get 6 14 38) := h_get (k := 14) (C := RX7) (T := TX7) (N := 15) (ci := 6) rfl (by decide) (tin 1 183 (by decide +kernel) rfl)  (by decide +kernel : decode cX7_writeText 35 = .ok (.getfield 124, 3)) rfl
set_option maxRecDepth 100000 in
theorem s_57_38 (hC : SndC g HB l MM call) : Snd g HB l call cX7_writeText 2 yX7_writeText.cls yX7_writeText.name 38 (s_br1 5 114 41) := b_le (by decide +kernel : decode cX7_writeText 38 = .ok (.ifCond .le 76, 3)) (by decide) rfl
set_option maxRecDepth 100000 in
theorem s_57_41 (hC : SndC g HB l MM call) : Snd g HB l call cX7_writeText 2 yX7_writeText.cls yX7_writeText.name 41 (lf (q_load isR 0 42)) := lf_ok (p_aload_n (by decide +kernel : decode cX7_writeText 41 = .ok (.aload_n 0, 1)) rfl rfl)
set_option maxRecDepth 100000 in
theorem s_57_42 (hC : SndC g HB l MM call) : Snd g HB l call cX7_writeText 2 yX7_writeText.cls yX7_writeText.name 42 (s_get 6 14 45) := h_get (k := 14) (C := RX7) (T := TX7) (N := 15) (ci := 6) rfl (by decide) (tin 1 183 (by decide +kernel) rfl)  (by decide +kernel : decode cX7_writeText 42 = .ok (.getfield 124, 3)) rfl
set_option maxRecDepth 100000 in
theorem s_57_45 (hC : SndC g HB l MM call) : Snd g HB l call cX7_writeText 2 yX7_writeText.cls yX7_writeText.name 45 (lf (q_push (.inl 401) 48)) := lf_ok (p_sipush (by decide +kernel : decode cX7_writeText 45 = .ok (.sipush 401, 3)) (by decide +kernel) rfl)
set_option maxRecDepth 100000 in
theorem s_57_48 (hC : SndC g HB l MM call) : Snd g HB l call cX7_writeText 2 yX7_writeText.cls yX7_writeText.name 48 (s_br2 4 114 51) := b_igt (by decide +kernel : decode cX7_writeText 48 = .ok (.if_icmp .gt 66, 3)) (by decide) rfl
set_option maxRecDepth 100000 in
theorem s_57_51 (hC : SndC g HB l MM call) : Snd g HB l call cX7_writeText 2 yX7_writeText.cls yX7_writeText.name 51 (lf (q_load isR 0 52)) := lf_ok (p_aload_n (by decide +kernel : decode cX7_writeText 51 = .ok (.aload_n 0, 1)) rfl rfl)
set_option maxRecDepth 100000 in
theorem s_57_52 (hC : SndC g HB l MM call) : Snd g HB l call cX7_writeText 2 yX7_writeText.cls yX7_writeText.name 52 (lf (q_dup 53)) := lf_ok (p_dup (by decide +kernel : decode cX7_writeText 52 = .ok (.dup, 1)) rfl)
set_option maxRecDepth 100000 in
theorem s_57_53 (hC : SndC g HB l MM call) : Snd g HB l call cX7_writeText 2 yX7_writeText.cls yX7_writeText.name 53 (s_get 6 14 56) := h_get (k := 14) (C := RX7) (T := TX7) (N := 15) (ci := 6) rfl (by decide) (tin 1 183 (by decide +kernel) rfl)  (by decide +kernel : decode cX7_writeText 53 = .ok (.getfield 124, 3)) rfl
set_option maxRecDepth 100000 in
theorem s_57_56 (hC : SndC g HB l MM call) : Snd g HB l call cX7_writeText 2 yX7_writeText.cls yX7_writeText.name 56 (lf (q_push (.inl 1) 57)) := lf_ok (p_iconst (by decide +kernel : decode cX7_writeText 56 = .ok (.iconst 1, 1)) (by decide +kernel) rfl)
set_option maxRecDepth 100000 in
theorem s_57_57 (hC : SndC g HB l MM call) : Snd g HB l call cX7_writeText 2 yX7_writeText.cls yX7_writeText.name 57 (lf (q_bin (iop2 (fun x y => x - y)) 58)) := lf_ok (p_isub (by decide +kernel : decode cX7_writeText 57 = .ok (.isub, 1)) rfl)
set_option maxRecDepth 100000 in
theorem s_57_58 (hC : SndC g HB l MM call) : Snd g HB l call cX7_writeText 2 yX7_writeText.cls yX7_writeText.name 58 (s_put 6 14 0 61) := h_put (k := 14) (C := RX7) (T := TX7) (N := 15) (ci := 6) rfl (by decide) rfl rfl (tin 1 183 (by decide +kernel) rfl)  (by decide +kernel : decode cX7_writeText 58 = .ok (.putfield 124, 3)) rfl
set_option maxRecDepth 100000 in
theorem s_57_61 (hC : SndC g HB l MM call) : Snd g HB l call cX7_writeText 2 yX7_writeText.cls yX7_writeText.name 61 (lf (q_load isR 0 62)) := lf_ok (p_aload_n (by decide +kernel : decode cX7_writeText 61 = .ok (.aload_n 0, 1)) rfl rfl)
set_option maxRecDepth 100000 in
theorem s_57_62 (hC : SndC g HB l MM call) : Snd g HB l call cX7_writeText 2 yX7_writeText.cls yX7_writeText.name 62 (s_get 6 3 65) := h_get (k := 3) (C := RX7) (T := TX7) (N := 15) (ci := 6) rfl (by decide) (tin 1 172 (by decide +kernel) rfl)  (by decide +kernel : decode cX7_writeText 62 = .ok (.getfield 60, 3)) rfl
set_option maxRecDepth 100000 in
theorem s_57_65 (hC : SndC g HB l MM call) : Snd g HB l call cX7_writeText 2 yX7_writeText.cls yX7_writeText.name 65 (lf (q_load isR 0 66)) := lf_ok (p_aload_n (by decide +kernel : decode cX7_writeText 65 = .ok (.aload_n 0, 1)) rfl rfl)
set_option maxRecDepth 100000 in
theorem s_57_66 (hC : SndC g HB l MM call) : Snd g HB l call cX7_writeText 2 yX7_writeText.cls yX7_writeText.name 66 (s_get 6 10 69) := h_get (k := 10) (C := RX7) (T := TX7) (N := 15) (ci := 6) rfl (by decide) (tin 1 179 (by decide +kernel) rfl)  (by decide +kernel : decode cX7_writeText 66 = .ok (.getfield 36, 3)) rfl
set_option maxRecDepth 100000 in
theorem s_57_69 (hC : SndC g HB l MM call) : Snd g HB l call cX7_writeText 2 yX7_writeText.cls yX7_writeText.name 69 (lf (q_load isR 0 70)) := lf_ok (p_aload_n (by decide +kernel : decode cX7_writeText 69 = .ok (.aload_n 0, 1)) rfl rfl)
set_option maxRecDepth 100000 in
theorem s_57_70 (hC : SndC g HB l MM call) : Snd g HB l call cX7_writeText 2 yX7_writeText.cls yX7_writeText.name 70 (s_get 6 14 73) := h_get (k := 14) (C := RX7) (T := TX7) (N := 15) (ci := 6) rfl (by decide) (tin 1 183 (by decide +kernel) rfl)  (by decide +kernel : decode cX7_writeText 70 = .ok (.getfield 124, 3)) rfl
set_option maxRecDepth 100000 in
theorem s_57_73 (hC : SndC g HB l MM call) : Snd g HB l call cX7_writeText 2 yX7_writeText.cls yX7_writeText.name 73 (s_ald (fun t => Nat.beq t 0) isI (.inl 0) 74) := h_iald (by decide +kernel : decode cX7_writeText 73 = .ok (.iaload, 1)) rfl
set_option maxRecDepth 100000 in
theorem s_57_74 (hC : SndC g HB l MM call) : Snd g HB l call cX7_writeText 2 yX7_writeText.cls yX7_writeText.name 74 (lf (q_load isR 0 75)) := lf_ok (p_aload_n (by decide +kernel : decode cX7_writeText 74 = .ok (.aload_n 0, 1)) rfl rfl)
set_option maxRecDepth 100000 in
theorem s_57_75 (hC : SndC g HB l MM call) : Snd g HB l call cX7_writeText 2 yX7_writeText.cls yX7_writeText.name 75 (s_get 6 11 78) := h_get (k := 11) (C := RX7) (T := TX7) (N := 15) (ci := 6) rfl (by decide) (tin 1 180 (by decide +kernel) rfl)  (by decide +kernel : decode cX7_writeText 75 = .ok (.getfield 39, 3)) rfl
set_option maxRecDepth 100000 in
theorem s_57_78 (hC : SndC g HB l MM call) : Snd g HB l call cX7_writeText 2 yX7_writeText.cls yX7_writeText.name 78 (lf (q_load isR 0 79)) := lf_ok (p_aload_n (by decide +kernel : decode cX7_writeText 78 = .ok (.aload_n 0, 1)) rfl rfl)
set_option maxRecDepth 100000 in
theorem s_57_79 (hC : SndC g HB l MM call) : Snd g HB l call cX7_writeText 2 yX7_writeText.cls yX7_writeText.name 79 (s_get 6 14 82) := h_get (k := 14) (C := RX7) (T := TX7) (N := 15) (ci := 6) rfl (by decide) (tin 1 183 (by decide +kernel) rfl)  (by decide +kernel : decode cX7_writeText 79 = .ok (.getfield 124, 3)) rfl
set_option maxRecDepth 100000 in
theorem s_57_82 (hC : SndC g HB l MM call) : Snd g HB l call cX7_writeText 2 yX7_writeText.cls yX7_writeText.name 82 (s_ald (fun t => Nat.beq t 0) isI (.inl 0) 83) := h_iald (by decide +kernel : decode cX7_writeText 82 = .ok (.iaload, 1)) rfl
set_option maxRecDepth 100000 in
theorem s_57_83 (hC : SndC g HB l MM call) : Snd g HB l call cX7_writeText 2 yX7_writeText.cls yX7_writeText.name 83 (s_cV 3 24 2 29 86) := c_V (C := RX4) (T := TX4) (N := 5) (ci := 3) rfl hC (M := MM) (id := 24) (d := D_24) rfl mok_24 rfl rfl (tin 3 154 (by decide +kernel) rfl) (tin 3 155 (by decide +kernel) rfl) (tin 3 156 (by decide +kernel) rfl) (tin 1 9 (by decide +kernel) rfl) (by decide +kernel : decode cX7_writeText 83 = .ok (.invokevirtual 68, 3)) rfl
set_option maxRecDepth 100000 in
theorem s_57_86 (hC : SndC g HB l MM call) : Snd g HB l call cX7_writeText 2 yX7_writeText.cls yX7_writeText.name 86 (lf (q_load isR 0 87)) := lf_ok (p_aload_n (by decide +kernel : decode cX7_writeText 86 = .ok (.aload_n 0, 1)) rfl rfl)
set_option maxRecDepth 100000 in
theorem s_57_87 (hC : SndC g HB l MM call) : Snd g HB l call cX7_writeText 2 yX7_writeText.cls yX7_writeText.name 87 (lf (q_load isR 0 88)) := lf_ok (p_aload_n (by decide +kernel : decode cX7_writeText 87 = .ok (.aload_n 0, 1)) rfl rfl)
set_option maxRecDepth 100000 in
theorem s_57_88 (hC : SndC g HB l MM call) : Snd g HB l call cX7_writeText 2 yX7_writeText.cls yX7_writeText.name 88 (s_get 6 12 91) := h_get (k := 12) (C := RX7) (T := TX7) (N := 15) (ci := 6) rfl (by decide) (tin 1 181 (by decide +kernel) rfl)  (by decide +kernel : decode cX7_writeText 88 = .ok (.getfield 42, 3)) rfl
set_option maxRecDepth 100000 in
theorem s_57_91 (hC : SndC g HB l MM call) : Snd g HB l call cX7_writeText 2 yX7_writeText.cls yX7_writeText.name 91 (lf (q_load isR 0 92)) := lf_ok (p_aload_n (by decide +kernel : decode cX7_writeText 91 = .ok (.aload_n 0, 1)) rfl rfl)
set_option maxRecDepth 100000 in
theorem s_57_92 (hC : SndC g HB l MM call) : Snd g HB l call cX7_writeText 2 yX7_writeText.cls yX7_writeText.name 92 (s_get 6 14 95) := h_get (k := 14) (C := RX7) (T := TX7) (N := 15) (ci := 6) rfl (by decide) (tin 1 183 (by decide +kernel) rfl)  (by decide +kernel : decode cX7_writeText 92 = .ok (.getfield 124, 3)) rfl
set_option maxRecDepth 100000 in
theorem s_57_95 (hC : SndC g HB l MM call) : Snd g HB l call cX7_writeText 2 yX7_writeText.cls yX7_writeText.name 95 (s_ald (fun t => Nat.beq t 0) isI (.inl 0) 96) := h_iald (by decide +kernel : decode cX7_writeText 95 = .ok (.iaload, 1)) rfl
set_option maxRecDepth 100000 in
theorem s_57_96 (hC : SndC g HB l MM call) : Snd g HB l call cX7_writeText 2 yX7_writeText.cls yX7_writeText.name 96 (s_cV 6 59 1 24 99) := c_V (C := RX7) (T := TX7) (N := 15) (ci := 6) rfl hC (M := MM) (id := 59) (d := D_59) rfl mok_59 rfl rfl (tin 4 227 (by decide +kernel) rfl) (tin 4 229 (by decide +kernel) rfl) (tinP (y := mdY D_59) (n := 15) 25 (by decide +kernel)) (tin 1 8 (by decide +kernel) rfl) (by decide +kernel : decode cX7_writeText 96 = .ok (.invokevirtual 131, 3)) rfl
set_option maxRecDepth 100000 in
theorem s_57_99 (hC : SndC g HB l MM call) : Snd g HB l call cX7_writeText 2 yX7_writeText.cls yX7_writeText.name 99 (lf (q_load isR 0 100)) := lf_ok (p_aload_n (by decide +kernel : decode cX7_writeText 99 = .ok (.aload_n 0, 1)) rfl rfl)
set_option maxRecDepth 100000 in
theorem s_57_100 (hC : SndC g HB l MM call) : Snd g HB l call cX7_writeText 2 yX7_writeText.cls yX7_writeText.name 100 (s_get 6 5 103) := h_get (k := 5) (C := RX7) (T := TX7) (N := 15) (ci := 6) rfl (by decide) (tin 1 174 (by decide +kernel) rfl)  (by decide +kernel : decode cX7_writeText 100 = .ok (.getfield 20, 3)) rfl
set_option maxRecDepth 100000 in
theorem s_57_103 (hC : SndC g HB l MM call) : Snd g HB l call cX7_writeText 2 yX7_writeText.cls yX7_writeText.name 103 (lf (q_push (.inl 10) 105)) := lf_ok (p_bipush (by decide +kernel : decode cX7_writeText 103 = .ok (.bipush 10, 2)) (by decide +kernel) rfl)
set_option maxRecDepth 100000 in
theorem s_57_105 (hC : SndC g HB l MM call) : Snd g HB l call cX7_writeText 2 yX7_writeText.cls yX7_writeText.name 105 (s_cV 2 14 1 21 108) := c_V (C := RX1) (T := TX1) (N := 2) (ci := 2) rfl hC (M := MM) (id := 14) (d := D_14) rfl mok_14 rfl rfl (tin 5 42 (by decide +kernel) rfl) (tin 2 92 (by decide +kernel) rfl) (tin 2 93 (by decide +kernel) rfl) (tin 1 2 (by decide +kernel) rfl) (by decide +kernel : decode cX7_writeText 105 = .ok (.invokevirtual 134, 3)) rfl
set_option maxRecDepth 100000 in
theorem s_57_108 (hC : SndC g HB l MM call) : Snd g HB l call cX7_writeText 2 yX7_writeText.cls yX7_writeText.name 108 (lf (q_iinc 1 1 2 111)) := lf_ok (p_iinc (by decide +kernel : decode cX7_writeText 108 = .ok (.iinc 1 1, 3)) rfl)
set_option maxRecDepth 100000 in
theorem s_57_111 (hC : SndC g HB l MM call) : Snd g HB l call cX7_writeText 2 yX7_writeText.cls yX7_writeText.name 111 (lf (q_goto 27)) := lf_ok (p_goto (by decide +kernel : decode cX7_writeText 111 = .ok (.goto (-84), 3)) (by decide))
set_option maxRecDepth 100000 in
theorem ok_57 (hex : HB.size = g.1) (hC : SndC g HB l MM call) : ∀ x ∈ P_57, Snd g HB l call cX7_writeText 2 yX7_writeText.cls yX7_writeText.name x.1 x.2 := fa3 (s_57_0 hC) (fa3 (s_57_1 hC) (fa3 (s_57_4 hC) (fa3 (s_57_7 hC) (fa3 (s_57_8 hC) (fa3 (s_57_9 hC) (fa3 (s_57_12 hC) (fa3 (s_57_13 hC) (fa3 (s_57_14 hC) (fa3 (s_57_15 hC) (fa3 (s_57_18 hC) (fa3 (s_57_21 hC) (fa3 (s_57_22 hC) (fa3 (s_57_25 hC) (fa3 (s_57_26 hC) (fa3 (s_57_27 hC) (fa3 (s_57_28 hC) (fa3 (s_57_31 hC) (fa3 (s_57_34 hC) (fa3 (s_57_35 hC) (fa3 (s_57_38 hC) (fa3 (s_57_41 hC) (fa3 (s_57_42 hC) (fa3 (s_57_45 hC) (fa3 (s_57_48 hC) (fa3 (s_57_51 hC) (fa3 (s_57_52 hC) (fa3 (s_57_53 hC) (fa3 (s_57_56 hC) (fa3 (s_57_57 hC) (fa3 (s_57_58 hC) (fa3 (s_57_61 hC) (fa3 (s_57_62 hC) (fa3 (s_57_65 hC) (fa3 (s_57_66 hC) (fa3 (s_57_69 hC) (fa3 (s_57_70 hC) (fa3 (s_57_73 hC) (fa3 (s_57_74 hC) (fa3 (s_57_75 hC) (fa3 (s_57_78 hC) (fa3 (s_57_79 hC) (fa3 (s_57_82 hC) (fa3 (s_57_83 hC) (fa3 (s_57_86 hC) (fa3 (s_57_87 hC) (fa3 (s_57_88 hC) (fa3 (s_57_91 hC) (fa3 (s_57_92 hC) (fa3 (s_57_95 hC) (fa3 (s_57_96 hC) (fa3 (s_57_99 hC) (fa3 (s_57_100 hC) (fa3 (s_57_103 hC) (fa3 (s_57_105 hC) (fa3 (s_57_108 hC) (fa3 (s_57_111 hC) (fn3)))))))))))))))))))))))))))))))))))))))))))))))))))))))))
set_option maxRecDepth 100000 in
theorem ms_57 (hex : HB.size = g.1) : MSnd g HB l MM D_57 := ⟨by decide +kernel, fun _ hC => ok_57 hex hC, fa3 (show endOK cX7_writeText none 114 0 from ⟨rfl, (by decide +kernel : decode cX7_writeText 114 = .ok (.return_, 1))⟩) (fn3)⟩
set_option maxRecDepth 100000 in
theorem s_58_0 (hC : SndC g HB l MM call) : Snd g HB l call cX7_putPart 4 yX7_putPart.cls yX7_putPart.name 0 (lf (q_load isI 1 1)) := lf_ok (p_iload_n (by decide +kernel : decode cX7_putPart 0 = .ok (.iload_n 1, 1)) rfl rfl)
set_option maxRecDepth 100000 in
theorem s_58_1 (hC : SndC g HB l MM call) : Snd g HB l call cX7_putPart 4 yX7_putPart.cls yX7_putPart.name 1 (lf (q_push (.inl 4294967295) 2)) := lf_ok (p_iconst (by decide +kernel : decode cX7_putPart 1 = .ok (.iconst (-1), 1)) (by decide +kernel) rfl)
set_option maxRecDepth 100000 in
theorem s_58_2 (hC : SndC g HB l MM call) : Snd g HB l call cX7_putPart 4 yX7_putPart.cls yX7_putPart.name 2 (s_br2 0 71 5) := b_ieq (by decide +kernel : decode cX7_putPart 2 = .ok (.if_icmp .eq 69, 3)) (by decide) rfl
set_option maxRecDepth 100000 in
theorem s_58_5 (hC : SndC g HB l MM call) : Snd g HB l call cX7_putPart 4 yX7_putPart.cls yX7_putPart.name 5 (lf (q_load isR 0 6)) := lf_ok (p_aload_n (by decide +kernel : decode cX7_putPart 5 = .ok (.aload_n 0, 1)) rfl rfl)
set_option maxRecDepth 100000 in
theorem s_58_6 (hC : SndC g HB l MM call) : Snd g HB l call cX7_putPart 4 yX7_putPart.cls yX7_putPart.name 6 (s_get 6 14 9) := h_get (k := 14) (C := RX7) (T := TX7) (N := 15) (ci := 6) rfl (by decide) (tin 1 183 (by decide +kernel) rfl)  (by decide +kernel : decode cX7_putPart 6 = .ok (.getfield 124, 3)) rfl
set_option maxRecDepth 100000 in
theorem s_58_9 (hC : SndC g HB l MM call) : Snd g HB l call cX7_putPart 4 yX7_putPart.cls yX7_putPart.name 9 (s_br1 2 71 12) := b_lt (by decide +kernel : decode cX7_putPart 9 = .ok (.ifCond .lt 62, 3)) (by decide) rfl
set_option maxRecDepth 100000 in
theorem s_58_12 (hC : SndC g HB l MM call) : Snd g HB l call cX7_putPart 4 yX7_putPart.cls yX7_putPart.name 12 (lf (q_load isR 0 13)) := lf_ok (p_aload_n (by decide +kernel : decode cX7_putPart 12 = .ok (.aload_n 0, 1)) rfl rfl)
set_option maxRecDepth 100000 in
theorem s_58_13 (hC : SndC g HB l MM call) : Snd g HB l call cX7_putPart 4 yX7_putPart.cls yX7_putPart.name 13 (s_get 6 14 16) := h_get (k := 14) (C := RX7) (T := TX7) (N := 15) (ci := 6) rfl (by decide) (tin 1 183 (by decide +kernel) rfl)  (by decide +kernel : decode cX7_putPart 13 = .ok (.getfield 124, 3)) rfl
set_option maxRecDepth 100000 in
theorem s_58_16 (hC : SndC g HB l MM call) : Snd g HB l call cX7_putPart 4 yX7_putPart.cls yX7_putPart.name 16 (lf (q_push (.inl 401) 19)) := lf_ok (p_sipush (by decide +kernel : decode cX7_putPart 16 = .ok (.sipush 401, 3)) (by decide +kernel) rfl)
set_option maxRecDepth 100000 in
theorem s_58_19 (hC : SndC g HB l MM call) : Snd g HB l call cX7_putPart 4 yX7_putPart.cls yX7_putPart.name 19 (s_br2 3 71 22) := b_ige (by decide +kernel : decode cX7_putPart 19 = .ok (.if_icmp .ge 52, 3)) (by decide) rfl
set_option maxRecDepth 100000 in
theorem s_58_22 (hC : SndC g HB l MM call) : Snd g HB l call cX7_putPart 4 yX7_putPart.cls yX7_putPart.name 22 (lf (q_load isI 3 23)) := lf_ok (p_iload_n (by decide +kernel : decode cX7_putPart 22 = .ok (.iload_n 3, 1)) rfl rfl)
set_option maxRecDepth 100000 in
theorem s_58_23 (hC : SndC g HB l MM call) : Snd g HB l call cX7_putPart 4 yX7_putPart.cls yX7_putPart.name 23 (lf (q_push (.inl 4) 24)) := lf_ok (p_iconst (by decide +kernel : decode cX7_putPart 23 = .ok (.iconst 4, 1)) (by decide +kernel) rfl)
set_option maxRecDepth 100000 in
theorem s_58_24 (hC : SndC g HB l MM call) : Snd g HB l call cX7_putPart 4 yX7_putPart.cls yX7_putPart.name 24 (s_br2 4 71 27) := b_igt (by decide +kernel : decode cX7_putPart 24 = .ok (.if_icmp .gt 47, 3)) (by decide) rfl
set_option maxRecDepth 100000 in
theorem s_58_27 (hC : SndC g HB l MM call) : Snd g HB l call cX7_putPart 4 yX7_putPart.cls yX7_putPart.name 27 (lf (q_load isR 0 28)) := lf_ok (p_aload_n (by decide +kernel : decode cX7_putPart 27 = .ok (.aload_n 0, 1)) rfl rfl)
set_option maxRecDepth 100000 in
theorem s_58_28 (hC : SndC g HB l MM call) : Snd g HB l call cX7_putPart 4 yX7_putPart.cls yX7_putPart.name 28 (s_get 6 10 31) := h_get (k := 10) (C := RX7) (T := TX7) (N := 15) (ci := 6) rfl (by decide) (tin 1 179 (by decide +kernel) rfl)  (by decide +kernel : decode cX7_putPart 28 = .ok (.getfield 36, 3)) rfl
set_option maxRecDepth 100000 in
theorem s_58_31 (hC : SndC g HB l MM call) : Snd g HB l call cX7_putPart 4 yX7_putPart.cls yX7_putPart.name 31 (lf (q_load isR 0 32)) := lf_ok (p_aload_n (by decide +kernel : decode cX7_putPart 31 = .ok (.aload_n 0, 1)) rfl rfl)
set_option maxRecDepth 100000 in
theorem s_58_32 (hC : SndC g HB l MM call) : Snd g HB l call cX7_putPart 4 yX7_putPart.cls yX7_putPart.name 32 (s_get 6 14 35) := h_get (k := 14) (C := RX7) (T := TX7) (N := 15) (ci := 6) rfl (by decide) (tin 1 183 (by decide +kernel) rfl)  (by decide +kernel : decode cX7_putPart 32 = .ok (.getfield 124, 3)) rfl
set_option maxRecDepth 100000 in
theorem s_58_35 (hC : SndC g HB l MM call) : Snd g HB l call cX7_putPart 4 yX7_putPart.cls yX7_putPart.name 35 (lf (q_load isI 1 36)) := lf_ok (p_iload_n (by decide +kernel : decode cX7_putPart 35 = .ok (.iload_n 1, 1)) rfl rfl)
set_option maxRecDepth 100000 in
theorem s_58_36 (hC : SndC g HB l MM call) : Snd g HB l call cX7_putPart 4 yX7_putPart.cls yX7_putPart.name 36 (lf (q_load isI 2 37)) := lf_ok (p_iload_n (by decide +kernel : decode cX7_putPart 36 = .ok (.iload_n 2, 1)) rfl rfl)
set_option maxRecDepth 100000 in
theorem s_58_37 (hC : SndC g HB l MM call) : Snd g HB l call cX7_putPart 4 yX7_putPart.cls yX7_putPart.name 37 (s_mm mnF 40) := m_mmin (tin 4 226 (by decide +kernel) rfl) (tin 3 170 (by decide +kernel) rfl) (tin 1 18 (by decide +kernel) rfl) (tin 3 171 (by decide +kernel) rfl) (by decide +kernel : decode cX7_putPart 37 = .ok (.invokestatic 137, 3)) rfl
set_option maxRecDepth 100000 in
theorem s_58_40 (hC : SndC g HB l MM call) : Snd g HB l call cX7_putPart 4 yX7_putPart.cls yX7_putPart.name 40 (s_ast (fun t => Nat.beq t 0) cvI 41) := h_iast (by decide +kernel : decode cX7_putPart 40 = .ok (.iastore, 1)) rfl
set_option maxRecDepth 100000 in
theorem s_58_41 (hC : SndC g HB l MM call) : Snd g HB l call cX7_putPart 4 yX7_putPart.cls yX7_putPart.name 41 (lf (q_load isR 0 42)) := lf_ok (p_aload_n (by decide +kernel : decode cX7_putPart 41 = .ok (.aload_n 0, 1)) rfl rfl)
set_option maxRecDepth 100000 in
theorem s_58_42 (hC : SndC g HB l MM call) : Snd g HB l call cX7_putPart 4 yX7_putPart.cls yX7_putPart.name 42 (s_get 6 11 45) := h_get (k := 11) (C := RX7) (T := TX7) (N := 15) (ci := 6) rfl (by decide) (tin 1 180 (by decide +kernel) rfl)  (by decide +kernel : decode cX7_putPart 42 = .ok (.getfield 39, 3)) rfl
set_option maxRecDepth 100000 in
theorem s_58_45 (hC : SndC g HB l MM call) : Snd g HB l call cX7_putPart 4 yX7_putPart.cls yX7_putPart.name 45 (lf (q_load isR 0 46)) := lf_ok (p_aload_n (by decide +kernel : decode cX7_putPart 45 = .ok (.aload_n 0, 1)) rfl rfl)
set_option maxRecDepth 100000 in
theorem s_58_46 (hC : SndC g HB l MM call) : Snd g HB l call cX7_putPart 4 yX7_putPart.cls yX7_putPart.name 46 (s_get 6 14 49) := h_get (k := 14) (C := RX7) (T := TX7) (N := 15) (ci := 6) rfl (by decide) (tin 1 183 (by decide +kernel) rfl)  (by decide +kernel : decode cX7_putPart 46 = .ok (.getfield 124, 3)) rfl
set_option maxRecDepth 100000 in
theorem s_58_49 (hC : SndC g HB l MM call) : Snd g HB l call cX7_putPart 4 yX7_putPart.cls yX7_putPart.name 49 (lf (q_load isI 2 50)) := lf_ok (p_iload_n (by decide +kernel : decode cX7_putPart 49 = .ok (.iload_n 2, 1)) rfl rfl)
set_option maxRecDepth 100000 in
theorem s_58_50 (hC : SndC g HB l MM call) : Snd g HB l call cX7_putPart 4 yX7_putPart.cls yX7_putPart.name 50 (s_ast (fun t => Nat.beq t 0) cvI 51) := h_iast (by decide +kernel : decode cX7_putPart 50 = .ok (.iastore, 1)) rfl
set_option maxRecDepth 100000 in
theorem s_58_51 (hC : SndC g HB l MM call) : Snd g HB l call cX7_putPart 4 yX7_putPart.cls yX7_putPart.name 51 (lf (q_load isR 0 52)) := lf_ok (p_aload_n (by decide +kernel : decode cX7_putPart 51 = .ok (.aload_n 0, 1)) rfl rfl)
set_option maxRecDepth 100000 in
theorem s_58_52 (hC : SndC g HB l MM call) : Snd g HB l call cX7_putPart 4 yX7_putPart.cls yX7_putPart.name 52 (s_get 6 12 55) := h_get (k := 12) (C := RX7) (T := TX7) (N := 15) (ci := 6) rfl (by decide) (tin 1 181 (by decide +kernel) rfl)  (by decide +kernel : decode cX7_putPart 52 = .ok (.getfield 42, 3)) rfl
set_option maxRecDepth 100000 in
theorem s_58_55 (hC : SndC g HB l MM call) : Snd g HB l call cX7_putPart 4 yX7_putPart.cls yX7_putPart.name 55 (lf (q_load isR 0 56)) := lf_ok (p_aload_n (by decide +kernel : decode cX7_putPart 55 = .ok (.aload_n 0, 1)) rfl rfl)
set_option maxRecDepth 100000 in
theorem s_58_56 (hC : SndC g HB l MM call) : Snd g HB l call cX7_putPart 4 yX7_putPart.cls yX7_putPart.name 56 (s_get 6 14 59) := h_get (k := 14) (C := RX7) (T := TX7) (N := 15) (ci := 6) rfl (by decide) (tin 1 183 (by decide +kernel) rfl)  (by decide +kernel : decode cX7_putPart 56 = .ok (.getfield 124, 3)) rfl
set_option maxRecDepth 100000 in
theorem s_58_59 (hC : SndC g HB l MM call) : Snd g HB l call cX7_putPart 4 yX7_putPart.cls yX7_putPart.name 59 (lf (q_load isI 3 60)) := lf_ok (p_iload_n (by decide +kernel : decode cX7_putPart 59 = .ok (.iload_n 3, 1)) rfl rfl)
set_option maxRecDepth 100000 in
theorem s_58_60 (hC : SndC g HB l MM call) : Snd g HB l call cX7_putPart 4 yX7_putPart.cls yX7_putPart.name 60 (s_ast (fun t => Nat.beq t 0) cvI 61) := h_iast (by decide +kernel : decode cX7_putPart 60 = .ok (.iastore, 1)) rfl
set_option maxRecDepth 100000 in
theorem s_58_61 (hC : SndC g HB l MM call) : Snd g HB l call cX7_putPart 4 yX7_putPart.cls yX7_putPart.name 61 (lf (q_load isR 0 62)) := lf_ok (p_aload_n (by decide +kernel : decode cX7_putPart 61 = .ok (.aload_n 0, 1)) rfl rfl)
set_option maxRecDepth 100000 in
theorem s_58_62 (hC : SndC g HB l MM call) : Snd g HB l call cX7_putPart 4 yX7_putPart.cls yX7_putPart.name 62 (lf (q_dup 63)) := lf_ok (p_dup (by decide +kernel : decode cX7_putPart 62 = .ok (.dup, 1)) rfl)
set_option maxRecDepth 100000 in
theorem s_58_63 (hC : SndC g HB l MM call) : Snd g HB l call cX7_putPart 4 yX7_putPart.cls yX7_putPart.name 63 (s_get 6 14 66) := h_get (k := 14) (C := RX7) (T := TX7) (N := 15) (ci := 6) rfl (by decide) (tin 1 183 (by decide +kernel) rfl)  (by decide +kernel : decode cX7_putPart 63 = .ok (.getfield 124, 3)) rfl
set_option maxRecDepth 100000 in
theorem s_58_66 (hC : SndC g HB l MM call) : Snd g HB l call cX7_putPart 4 yX7_putPart.cls yX7_putPart.name 66 (lf (q_push (.inl 1) 67)) := lf_ok (p_iconst (by decide +kernel : decode cX7_putPart 66 = .ok (.iconst 1, 1)) (by decide +kernel) rfl)
set_option maxRecDepth 100000 in
theorem s_58_67 (hC : SndC g HB l MM call) : Snd g HB l call cX7_putPart 4 yX7_putPart.cls yX7_putPart.name 67 (lf (q_bin (iop2 (fun x y => x + y)) 68)) := lf_ok (p_iadd (by decide +kernel : decode cX7_putPart 67 = .ok (.iadd, 1)) rfl)
set_option maxRecDepth 100000 in
theorem s_58_68 (hC : SndC g HB l MM call) : Snd g HB l call cX7_putPart 4 yX7_putPart.cls yX7_putPart.name 68 (s_put 6 14 0 71) := h_put (k := 14) (C := RX7) (T := TX7) (N := 15) (ci := 6) rfl (by decide) rfl rfl (tin 1 183 (by decide +kernel) rfl)  (by decide +kernel : decode cX7_putPart 68 = .ok (.putfield 124, 3)) rfl
set_option maxRecDepth 100000 in
theorem ok_58 (hex : HB.size = g.1) (hC : SndC g HB l MM call) : ∀ x ∈ P_58, Snd g HB l call cX7_putPart 4 yX7_putPart.cls yX7_putPart.name x.1 x.2 := fa3 (s_58_0 hC) (fa3 (s_58_1 hC) (fa3 (s_58_2 hC) (fa3 (s_58_5 hC) (fa3 (s_58_6 hC) (fa3 (s_58_9 hC) (fa3 (s_58_12 hC) (fa3 (s_58_13 hC) (fa3 (s_58_16 hC) (fa3 (s_58_19 hC) (fa3 (s_58_22 hC) (fa3 (s_58_23 hC) (fa3 (s_58_24 hC) (fa3 (s_58_27 hC) (fa3 (s_58_28 hC) (fa3 (s_58_31 hC) (fa3 (s_58_32 hC) (fa3 (s_58_35 hC) (fa3 (s_58_36 hC) (fa3 (s_58_37 hC) (fa3 (s_58_40 hC) (fa3 (s_58_41 hC) (fa3 (s_58_42 hC) (fa3 (s_58_45 hC) (fa3 (s_58_46 hC) (fa3 (s_58_49 hC) (fa3 (s_58_50 hC) (fa3 (s_58_51 hC) (fa3 (s_58_52 hC) (fa3 (s_58_55 hC) (fa3 (s_58_56 hC) (fa3 (s_58_59 hC) (fa3 (s_58_60 hC) (fa3 (s_58_61 hC) (fa3 (s_58_62 hC) (fa3 (s_58_63 hC) (fa3 (s_58_66 hC) (fa3 (s_58_67 hC) (fa3 (s_58_68 hC) (fn3)))))))))))))))))))))))))))))))))))))))
set_option maxRecDepth 100000 in
theorem ms_58 (hex : HB.size = g.1) : MSnd g HB l MM D_58 := ⟨by decide +kernel, fun _ hC => ok_58 hex hC, fa3 (show endOK cX7_putPart none 71 0 from ⟨rfl, (by decide +kernel : decode cX7_putPart 71 = .ok (.return_, 1))⟩) (fn3)⟩
set_option maxRecDepth 100000 in
theorem s_59_0 (hC : SndC g HB l MM call) : Snd g HB l call cX7_writePart 5 yX7_writePart.cls yX7_writePart.name 0 (lf (q_load isR 0 1)) := lf_ok (p_aload_n (by decide +kernel : decode cX7_writePart 0 = .ok (.aload_n 0, 1)) rfl rfl)
set_option maxRecDepth 100000 in
theorem s_59_1 (hC : SndC g HB l MM call) : Snd g HB l call cX7_writePart 5 yX7_writePart.cls yX7_writePart.name 1 (s_get 6 3 4) := h_get (k := 3) (C := RX7) (T := TX7) (N := 15) (ci := 6) rfl (by decide) (tin 1 172 (by decide +kernel) rfl)  (by decide +kernel : decode cX7_writePart 1 = .ok (.getfield 60, 3)) rfl
set_option maxRecDepth 100000 in
theorem s_59_4 (hC : SndC g HB l MM call) : Snd g HB l call cX7_writePart 5 yX7_writePart.cls yX7_writePart.name 4 (lf (q_push (.inl 7) 6)) := lf_ok (p_bipush (by decide +kernel : decode cX7_writePart 4 = .ok (.bipush 7, 2)) (by decide +kernel) rfl)
set_option maxRecDepth 100000 in
theorem s_59_6 (hC : SndC g HB l MM call) : Snd g HB l call cX7_writePart 5 yX7_writePart.cls yX7_writePart.name 6 (lf (q_load isR 0 7)) := lf_ok (p_aload_n (by decide +kernel : decode cX7_writePart 6 = .ok (.aload_n 0, 1)) rfl rfl)
set_option maxRecDepth 100000 in
theorem s_59_7 (hC : SndC g HB l MM call) : Snd g HB l call cX7_writePart 5 yX7_writePart.cls yX7_writePart.name 7 (s_get 6 4 10) := h_get (k := 4) (C := RX7) (T := TX7) (N := 15) (ci := 6) rfl (by decide) (tin 1 173 (by decide +kernel) rfl)  (by decide +kernel : decode cX7_writePart 7 = .ok (.getfield 14, 3)) rfl
set_option maxRecDepth 100000 in
theorem s_59_10 (hC : SndC g HB l MM call) : Snd g HB l call cX7_writePart 5 yX7_writePart.cls yX7_writePart.name 10 (s_cV 3 27 2 25 13) := c_V (C := RX4) (T := TX4) (N := 5) (ci := 3) rfl hC (M := MM) (id := 27) (d := D_27) rfl mok_27 rfl rfl (tin 4 31 (by decide +kernel) rfl) (tin 4 32 (by decide +kernel) rfl) (tin 4 33 (by decide +kernel) rfl) (tin 1 9 (by decide +kernel) rfl) (by decide +kernel : decode cX7_writePart 10 = .ok (.invokevirtual 86, 3)) rfl
set_option maxRecDepth 100000 in
theorem s_59_13 (hC : SndC g HB l MM call) : Snd g HB l call cX7_writePart 5 yX7_writePart.cls yX7_writePart.name 13 (lf (q_load isR 0 14)) := lf_ok (p_aload_n (by decide +kernel : decode cX7_writePart 13 = .ok (.aload_n 0, 1)) rfl rfl)
set_option maxRecDepth 100000 in
theorem s_59_14 (hC : SndC g HB l MM call) : Snd g HB l call cX7_writePart 5 yX7_writePart.cls yX7_writePart.name 14 (s_get 6 4 17) := h_get (k := 4) (C := RX7) (T := TX7) (N := 15) (ci := 6) rfl (by decide) (tin 1 173 (by decide +kernel) rfl)  (by decide +kernel : decode cX7_writePart 14 = .ok (.getfield 14, 3)) rfl
set_option maxRecDepth 100000 in
theorem s_59_17 (hC : SndC g HB l MM call) : Snd g HB l call cX7_writePart 5 yX7_writePart.cls yX7_writePart.name 17 (lf (q_push (.inl 59) 19)) := lf_ok (p_bipush (by decide +kernel : decode cX7_writePart 17 = .ok (.bipush 59, 2)) (by decide +kernel) rfl)
set_option maxRecDepth 100000 in
theorem s_59_19 (hC : SndC g HB l MM call) : Snd g HB l call cX7_writePart 5 yX7_writePart.cls yX7_writePart.name 19 (lf (q_push (.inl 0) 20)) := lf_ok (p_iconst (by decide +kernel : decode cX7_writePart 19 = .ok (.iconst 0, 1)) (by decide +kernel) rfl)
set_option maxRecDepth 100000 in
theorem s_59_20 (hC : SndC g HB l MM call) : Snd g HB l call cX7_writePart 5 yX7_writePart.cls yX7_writePart.name 20 (lf (q_load isR 0 21)) := lf_ok (p_aload_n (by decide +kernel : decode cX7_writePart 20 = .ok (.aload_n 0, 1)) rfl rfl)
set_option maxRecDepth 100000 in
theorem s_59_21 (hC : SndC g HB l MM call) : Snd g HB l call cX7_writePart 5 yX7_writePart.cls yX7_writePart.name 21 (s_get 6 4 24) := h_get (k := 4) (C := RX7) (T := TX7) (N := 15) (ci := 6) rfl (by decide) (tin 1 173 (by decide +kernel) rfl)  (by decide +kernel : decode cX7_writePart 21 = .ok (.getfield 14, 3)) rfl
set_option maxRecDepth 100000 in
theorem s_59_24 (hC : SndC g HB l MM call) : Snd g HB l call cX7_writePart 5 yX7_writePart.cls yX7_writePart.name 24 (s_cV 2 18 0 20 27) := c_V (C := RX1) (T := TX1) (N := 2) (ci := 2) rfl hC (M := MM) (id := 18) (d := D_18) rfl mok_18 rfl rfl (tin 3 153 (by decide +kernel) rfl) (tin 2 156 (by decide +kernel) rfl) (tin 2 157 (by decide +kernel) rfl) (tin 1 2 (by decide +kernel) rfl) (by decide +kernel : decode cX7_writePart 24 = .ok (.invokevirtual 64, 3)) rfl
set_option maxRecDepth 100000 in
theorem s_59_27 (hC : SndC g HB l MM call) : Snd g HB l call cX7_writePart 5 yX7_writePart.cls yX7_writePart.name 27 (s_cV 2 48 3 24 30) := c_V (C := RX1) (T := TX1) (N := 2) (ci := 2) rfl hC (M := MM) (id := 48) (d := D_48) rfl mok_48 rfl rfl (tin 4 106 (by decide +kernel) rfl) (tin 4 107 (by decide +kernel) rfl) (tin 4 108 (by decide +kernel) rfl) (tin 1 2 (by decide +kernel) rfl) (by decide +kernel : decode cX7_writePart 27 = .ok (.invokevirtual 143, 3)) rfl
set_option maxRecDepth 100000 in
theorem s_59_30 (hC : SndC g HB l MM call) : Snd g HB l call cX7_writePart 5 yX7_writePart.cls yX7_writePart.name 30 (lf (q_store isI up1 0 2 5 31)) := lf_ok (p_istore_n (by decide +kernel : decode cX7_writePart 30 = .ok (.istore_n 2, 1)) rfl rfl)
set_option maxRecDepth 100000 in
theorem s_59_31 (hC : SndC g HB l MM call) : Snd g HB l call cX7_writePart 5 yX7_writePart.cls yX7_writePart.name 31 (lf (q_load isI 2 32)) := lf_ok (p_iload_n (by decide +kernel : decode cX7_writePart 31 = .ok (.iload_n 2, 1)) rfl rfl)
set_option maxRecDepth 100000 in
theorem s_59_32 (hC : SndC g HB l MM call) : Snd g HB l call cX7_writePart 5 yX7_writePart.cls yX7_writePart.name 32 (lf (q_push (.inl 4294967295) 33)) := lf_ok (p_iconst (by decide +kernel : decode cX7_writePart 32 = .ok (.iconst (-1), 1)) (by decide +kernel) rfl)
set_option maxRecDepth 100000 in
theorem s_59_33 (hC : SndC g HB l MM call) : Snd g HB l call cX7_writePart 5 yX7_writePart.cls yX7_writePart.name 33 (s_br2 1 46 36) := b_ine (by decide +kernel : decode cX7_writePart 33 = .ok (.if_icmp .ne 13, 3)) (by decide) rfl
set_option maxRecDepth 100000 in
theorem s_59_36 (hC : SndC g HB l MM call) : Snd g HB l call cX7_writePart 5 yX7_writePart.cls yX7_writePart.name 36 (lf (q_load isR 0 37)) := lf_ok (p_aload_n (by decide +kernel : decode cX7_writePart 36 = .ok (.aload_n 0, 1)) rfl rfl)
set_option maxRecDepth 100000 in
theorem s_59_37 (hC : SndC g HB l MM call) : Snd g HB l call cX7_writePart 5 yX7_writePart.cls yX7_writePart.name 37 (s_get 6 4 40) := h_get (k := 4) (C := RX7) (T := TX7) (N := 15) (ci := 6) rfl (by decide) (tin 1 173 (by decide +kernel) rfl)  (by decide +kernel : decode cX7_writePart 37 = .ok (.getfield 14, 3)) rfl
set_option maxRecDepth 100000 in
theorem s_59_40 (hC : SndC g HB l MM call) : Snd g HB l call cX7_writePart 5 yX7_writePart.cls yX7_writePart.name 40 (s_cV 2 18 0 20 43) := c_V (C := RX1) (T := TX1) (N := 2) (ci := 2) rfl hC (M := MM) (id := 18) (d := D_18) rfl mok_18 rfl rfl (tin 3 153 (by decide +kernel) rfl) (tin 2 156 (by decide +kernel) rfl) (tin 2 157 (by decide +kernel) rfl) (tin 1 2 (by decide +kernel) rfl) (by decide +kernel : decode cX7_writePart 40 = .ok (.invokevirtual 64, 3)) rfl
set_option maxRecDepth 100000 in
theorem s_59_43 (hC : SndC g HB l MM call) : Snd g HB l call cX7_writePart 5 yX7_writePart.cls yX7_writePart.name 43 (lf (q_goto 47)) := lf_ok (p_goto (by decide +kernel : decode cX7_writePart 43 = .ok (.goto 4, 3)) (by decide))
set_option maxRecDepth 100000 in
theorem s_59_47 (hC : SndC g HB l MM call) : Snd g HB l call cX7_writePart 5 yX7_writePart.cls yX7_writePart.name 47 (lf (q_store isI up1 0 3 5 48)) := lf_ok (p_istore_n (by decide +kernel : decode cX7_writePart 47 = .ok (.istore_n 3, 1)) rfl rfl)
set_option maxRecDepth 100000 in
theorem s_59_48 (hC : SndC g HB l MM call) : Snd g HB l call cX7_writePart 5 yX7_writePart.cls yX7_writePart.name 48 (lf (q_load isR 0 49)) := lf_ok (p_aload_n (by decide +kernel : decode cX7_writePart 48 = .ok (.aload_n 0, 1)) rfl rfl)
set_option maxRecDepth 100000 in
theorem s_59_49 (hC : SndC g HB l MM call) : Snd g HB l call cX7_writePart 5 yX7_writePart.cls yX7_writePart.name 49 (s_get 6 4 52) := h_get (k := 4) (C := RX7) (T := TX7) (N := 15) (ci := 6) rfl (by decide) (tin 1 173 (by decide +kernel) rfl)  (by decide +kernel : decode cX7_writePart 49 = .ok (.getfield 14, 3)) rfl
set_option maxRecDepth 100000 in
theorem s_59_52 (hC : SndC g HB l MM call) : Snd g HB l call cX7_writePart 5 yX7_writePart.cls yX7_writePart.name 52 (s_cV 2 18 0 20 55) := c_V (C := RX1) (T := TX1) (N := 2) (ci := 2) rfl hC (M := MM) (id := 18) (d := D_18) rfl mok_18 rfl rfl (tin 3 153 (by decide +kernel) rfl) (tin 2 156 (by decide +kernel) rfl) (tin 2 157 (by decide +kernel) rfl) (tin 1 2 (by decide +kernel) rfl) (by decide +kernel : decode cX7_writePart 52 = .ok (.invokevirtual 64, 3)) rfl
set_option maxRecDepth 100000 in
theorem s_59_55 (hC : SndC g HB l MM call) : Snd g HB l call cX7_writePart 5 yX7_writePart.cls yX7_writePart.name 55 (s_br1 0 81 58) := b_eq (by decide +kernel : decode cX7_writePart 55 = .ok (.ifCond .eq 26, 3)) (by decide) rfl
set_option maxRecDepth 100000 in
theorem s_59_81 (hC : SndC g HB l MM call) : Snd g HB l call cX7_writePart 5 yX7_writePart.cls yX7_writePart.name 81 (lf (q_load isR 0 82)) := lf_ok (p_aload_n (by decide +kernel : decode cX7_writePart 81 = .ok (.aload_n 0, 1)) rfl rfl)
set_option maxRecDepth 100000 in
theorem s_59_82 (hC : SndC g HB l MM call) : Snd g HB l call cX7_writePart 5 yX7_writePart.cls yX7_writePart.name 82 (s_cV 6 60 0 20 85) := c_V (C := RX7) (T := TX7) (N := 15) (ci := 6) rfl hC (M := MM) (id := 60) (d := D_60) rfl mok_60 rfl rfl (tin 5 1 (by decide +kernel) rfl) (tin 5 3 (by decide +kernel) rfl) (tinP (y := mdY D_60) (n := 15) 26 (by decide +kernel)) (tin 1 8 (by decide +kernel) rfl) (by decide +kernel : decode cX7_writePart 82 = .ok (.invokevirtual 156, 3)) rfl
set_option maxRecDepth 100000 in
theorem s_59_85 (hC : SndC g HB l MM call) : Snd g HB l call cX7_writePart 5 yX7_writePart.cls yX7_writePart.name 85 (lf (q_goto 155)) := lf_ok (p_goto (by decide +kernel : decode cX7_writePart 85 = .ok (.goto 70, 3)) (by decide))
set_option maxRecDepth 100000 in
theorem ok_59 (hex : HB.size = g.1) (hC : SndC g HB l MM call) : ∀ x ∈ P_59, Snd g HB l call cX7_writePart 5 yX7_writePart.cls yX7_writePart.name x.1 x.2 := fa3 (s_59_0 hC) (fa3 (s_59_1 hC) (fa3 (s_59_4 hC) (fa3 (s_59_6 hC) (fa3 (s_59_7 hC) (fa3 (s_59_10 hC) (fa3 (s_59_13 hC) (fa3 (s_59_14 hC) (fa3 (s_59_17 hC) (fa3 (s_59_19 hC) (fa3 (s_59_20 hC) (fa3 (s_59_21 hC) (fa3 (s_59_24 hC) (fa3 (s_59_27 hC) (fa3 (s_59_30 hC) (fa3 (s_59_31 hC) (fa3 (s_59_32 hC) (fa3 (s_59_33 hC) (fa3 (s_59_36 hC) (fa3 (s_59_37 hC) (fa3 (s_59_40 hC) (fa3 (s_59_43 hC) (fa3 (s_59_47 hC) (fa3 (s_59_48 hC) (fa3 (s_59_49 hC) (fa3 (s_59_52 hC) (fa3 (s_59_55 hC) (fa3 (s_59_81 hC) (fa3 (s_59_82 hC) (fa3 (s_59_85 hC) (fn3))))))))))))))))))))))))))))))
set_option maxRecDepth 100000 in
theorem ms_59 (hex : HB.size = g.1) : MSnd g HB l MM D_59 := ⟨by decide +kernel, fun _ hC => ok_59 hex hC, fa3 (show endOK cX7_writePart none 155 0 from ⟨rfl, (by decide +kernel : decode cX7_writePart 155 = .ok (.return_, 1))⟩) (fn3)⟩
set_option maxRecDepth 100000 in
theorem s_60_0 (hC : SndC g HB l MM call) : Snd g HB l call cX7_writePlain 1 yX7_writePlain.cls yX7_writePlain.name 0 (lf (q_load isR 0 1)) := lf_ok (p_aload_n (by decide +kernel : decode cX7_writePlain 0 = .ok (.aload_n 0, 1)) rfl rfl)
set_option maxRecDepth 100000 in
theorem s_60_1 (hC : SndC g HB l MM call) : Snd g HB l call cX7_writePlain 1 yX7_writePlain.cls yX7_writePlain.name 1 (s_get 6 3 4) := h_get (k := 3) (C := RX7) (T := TX7) (N := 15) (ci := 6) rfl (by decide) (tin 1 172 (by decide +kernel) rfl)  (by decide +kernel : decode cX7_writePlain 1 = .ok (.getfield 60, 3)) rfl
set_option maxRecDepth 100000 in
theorem s_60_4 (hC : SndC g HB l MM call) : Snd g HB l call cX7_writePlain 1 yX7_writePlain.cls yX7_writePlain.name 4 (lf (q_push (.inl 8) 6)) := lf_ok (p_bipush (by decide +kernel : decode cX7_writePlain 4 = .ok (.bipush 8, 2)) (by decide +kernel) rfl)
set_option maxRecDepth 100000 in
theorem s_60_6 (hC : SndC g HB l MM call) : Snd g HB l call cX7_writePlain 1 yX7_writePlain.cls yX7_writePlain.name 6 (lf (q_load isR 0 7)) := lf_ok (p_aload_n (by decide +kernel : decode cX7_writePlain 6 = .ok (.aload_n 0, 1)) rfl rfl)
set_option maxRecDepth 100000 in
theorem s_60_7 (hC : SndC g HB l MM call) : Snd g HB l call cX7_writePlain 1 yX7_writePlain.cls yX7_writePlain.name 7 (s_get 6 4 10) := h_get (k := 4) (C := RX7) (T := TX7) (N := 15) (ci := 6) rfl (by decide) (tin 1 173 (by decide +kernel) rfl)  (by decide +kernel : decode cX7_writePlain 7 = .ok (.getfield 14, 3)) rfl
set_option maxRecDepth 100000 in
theorem s_60_10 (hC : SndC g HB l MM call) : Snd g HB l call cX7_writePlain 1 yX7_writePlain.cls yX7_writePlain.name 10 (s_cV 3 27 2 25 13) := c_V (C := RX4) (T := TX4) (N := 5) (ci := 3) rfl hC (M := MM) (id := 27) (d := D_27) rfl mok_27 rfl rfl (tin 4 31 (by decide +kernel) rfl) (tin 4 32 (by decide +kernel) rfl) (tin 4 33 (by decide +kernel) rfl) (tin 1 9 (by decide +kernel) rfl) (by decide +kernel : decode cX7_writePlain 10 = .ok (.invokevirtual 86, 3)) rfl
set_option maxRecDepth 100000 in
theorem s_60_13 (hC : SndC g HB l MM call) : Snd g HB l call cX7_writePlain 1 yX7_writePlain.cls yX7_writePlain.name 13 (lf (q_load isR 0 14)) := lf_ok (p_aload_n (by decide +kernel : decode cX7_writePlain 13 = .ok (.aload_n 0, 1)) rfl rfl)
set_option maxRecDepth 100000 in
theorem s_60_14 (hC : SndC g HB l MM call) : Snd g HB l call cX7_writePlain 1 yX7_writePlain.cls yX7_writePlain.name 14 (s_get 6 4 17) := h_get (k := 4) (C := RX7) (T := TX7) (N := 15) (ci := 6) rfl (by decide) (tin 1 173 (by decide +kernel) rfl)  (by decide +kernel : decode cX7_writePlain 14 = .ok (.getfield 14, 3)) rfl
set_option maxRecDepth 100000 in
theorem s_60_17 (hC : SndC g HB l MM call) : Snd g HB l call cX7_writePlain 1 yX7_writePlain.cls yX7_writePlain.name 17 (lf (q_push (.inl 0) 18)) := lf_ok (p_iconst (by decide +kernel : decode cX7_writePlain 17 = .ok (.iconst 0, 1)) (by decide +kernel) rfl)
set_option maxRecDepth 100000 in
theorem s_60_18 (hC : SndC g HB l MM call) : Snd g HB l call cX7_writePlain 1 yX7_writePlain.cls yX7_writePlain.name 18 (lf (q_load isR 0 19)) := lf_ok (p_aload_n (by decide +kernel : decode cX7_writePlain 18 = .ok (.aload_n 0, 1)) rfl rfl)
set_option maxRecDepth 100000 in
theorem s_60_19 (hC : SndC g HB l MM call) : Snd g HB l call cX7_writePlain 1 yX7_writePlain.cls yX7_writePlain.name 19 (s_get 6 4 22) := h_get (k := 4) (C := RX7) (T := TX7) (N := 15) (ci := 6) rfl (by decide) (tin 1 173 (by decide +kernel) rfl)  (by decide +kernel : decode cX7_writePlain 19 = .ok (.getfield 14, 3)) rfl
set_option maxRecDepth 100000 in
theorem s_60_22 (hC : SndC g HB l MM call) : Snd g HB l call cX7_writePlain 1 yX7_writePlain.cls yX7_writePlain.name 22 (s_cV 2 18 0 20 25) := c_V (C := RX1) (T := TX1) (N := 2) (ci := 2) rfl hC (M := MM) (id := 18) (d := D_18) rfl mok_18 rfl rfl (tin 3 153 (by decide +kernel) rfl) (tin 2 156 (by decide +kernel) rfl) (tin 2 157 (by decide +kernel) rfl) (tin 1 2 (by decide +kernel) rfl) (by decide +kernel : decode cX7_writePlain 22 = .ok (.invokevirtual 64, 3)) rfl
set_option maxRecDepth 100000 in
theorem s_60_25 (hC : SndC g HB l MM call) : Snd g HB l call cX7_writePlain 1 yX7_writePlain.cls yX7_writePlain.name 25 (s_val (.inr (.inr (.float (UInt32.ofNat 3)))) 27) := m_ldcS (tx := "quoted-printable") (q := 3) (List.mem_of_getElem? (i := 1) rfl) (by decide +kernel) (by decide +kernel : decode cX7_writePlain 25 = .ok (.ldc 174, 2)) rfl
set_option maxRecDepth 100000 in
theorem s_60_27 (hC : SndC g HB l MM call) : Snd g HB l call cX7_writePlain 1 yX7_writePlain.cls yX7_writePlain.name 27 (lf (q_push (.inl 1) 28)) := lf_ok (p_iconst (by decide +kernel : decode cX7_writePlain 27 = .ok (.iconst 1, 1)) (by decide +kernel) rfl)
set_option maxRecDepth 100000 in
theorem s_60_28 (hC : SndC g HB l MM call) : Snd g HB l call cX7_writePlain 1 yX7_writePlain.cls yX7_writePlain.name 28 (s_cV 2 61 4 24 31) := c_V (C := RX1) (T := TX1) (N := 2) (ci := 2) rfl hC (M := MM) (id := 61) (d := D_61) rfl mok_61 rfl rfl (tin 4 236 (by decide +kernel) rfl) (tin 4 237 (by decide +kernel) rfl) (tin 4 238 (by decide +kernel) rfl) (tin 1 2 (by decide +kernel) rfl) (by decide +kernel : decode cX7_writePlain 28 = .ok (.invokevirtual 152, 3)) rfl
set_option maxRecDepth 100000 in
theorem s_60_31 (hC : SndC g HB l MM call) : Snd g HB l call cX7_writePlain 1 yX7_writePlain.cls yX7_writePlain.name 31 (s_br1 0 62 34) := b_eq (by decide +kernel : decode cX7_writePlain 31 = .ok (.ifCond .eq 31, 3)) (by decide) rfl
set_option maxRecDepth 100000 in
theorem s_60_62 (hC : SndC g HB l MM call) : Snd g HB l call cX7_writePlain 1 yX7_writePlain.cls yX7_writePlain.name 62 (lf (q_load isR 0 63)) := lf_ok (p_aload_n (by decide +kernel : decode cX7_writePlain 62 = .ok (.aload_n 0, 1)) rfl rfl)
set_option maxRecDepth 100000 in
theorem s_60_63 (hC : SndC g HB l MM call) : Snd g HB l call cX7_writePlain 1 yX7_writePlain.cls yX7_writePlain.name 63 (s_get 6 4 66) := h_get (k := 4) (C := RX7) (T := TX7) (N := 15) (ci := 6) rfl (by decide) (tin 1 173 (by decide +kernel) rfl)  (by decide +kernel : decode cX7_writePlain 63 = .ok (.getfield 14, 3)) rfl
set_option maxRecDepth 100000 in
theorem s_60_66 (hC : SndC g HB l MM call) : Snd g HB l call cX7_writePlain 1 yX7_writePlain.cls yX7_writePlain.name 66 (lf (q_push (.inl 0) 67)) := lf_ok (p_iconst (by decide +kernel : decode cX7_writePlain 66 = .ok (.iconst 0, 1)) (by decide +kernel) rfl)
set_option maxRecDepth 100000 in
theorem s_60_67 (hC : SndC g HB l MM call) : Snd g HB l call cX7_writePlain 1 yX7_writePlain.cls yX7_writePlain.name 67 (lf (q_load isR 0 68)) := lf_ok (p_aload_n (by decide +kernel : decode cX7_writePlain 67 = .ok (.aload_n 0, 1)) rfl rfl)
set_option maxRecDepth 100000 in
theorem s_60_68 (hC : SndC g HB l MM call) : Snd g HB l call cX7_writePlain 1 yX7_writePlain.cls yX7_writePlain.name 68 (s_get 6 4 71) := h_get (k := 4) (C := RX7) (T := TX7) (N := 15) (ci := 6) rfl (by decide) (tin 1 173 (by decide +kernel) rfl)  (by decide +kernel : decode cX7_writePlain 68 = .ok (.getfield 14, 3)) rfl
set_option maxRecDepth 100000 in
theorem s_60_71 (hC : SndC g HB l MM call) : Snd g HB l call cX7_writePlain 1 yX7_writePlain.cls yX7_writePlain.name 71 (s_cV 2 18 0 20 74) := c_V (C := RX1) (T := TX1) (N := 2) (ci := 2) rfl hC (M := MM) (id := 18) (d := D_18) rfl mok_18 rfl rfl (tin 3 153 (by decide +kernel) rfl) (tin 2 156 (by decide +kernel) rfl) (tin 2 157 (by decide +kernel) rfl) (tin 1 2 (by decide +kernel) rfl) (by decide +kernel : decode cX7_writePlain 71 = .ok (.invokevirtual 64, 3)) rfl
set_option maxRecDepth 100000 in
theorem s_60_74 (hC : SndC g HB l MM call) : Snd g HB l call cX7_writePlain 1 yX7_writePlain.cls yX7_writePlain.name 74 (s_val (.inr (.inr (.float (UInt32.ofNat 5)))) 76) := m_ldcS (tx := "base64") (q := 5) (List.mem_of_getElem? (i := 2) rfl) (by decide +kernel) (by decide +kernel : decode cX7_writePlain 74 = .ok (.ldc 186, 2)) rfl
set_option maxRecDepth 100000 in
theorem s_60_76 (hC : SndC g HB l MM call) : Snd g HB l call cX7_writePlain 1 yX7_writePlain.cls yX7_writePlain.name 76 (lf (q_push (.inl 1) 77)) := lf_ok (p_iconst (by decide +kernel : decode cX7_writePlain 76 = .ok (.iconst 1, 1)) (by decide +kernel) rfl)
set_option maxRecDepth 100000 in
theorem s_60_77 (hC : SndC g HB l MM call) : Snd g HB l call cX7_writePlain 1 yX7_writePlain.cls yX7_writePlain.name 77 (s_cV 2 61 4 24 80) := c_V (C := RX1) (T := TX1) (N := 2) (ci := 2) rfl hC (M := MM) (id := 61) (d := D_61) rfl mok_61 rfl rfl (tin 4 236 (by decide +kernel) rfl) (tin 4 237 (by decide +kernel) rfl) (tin 4 238 (by decide +kernel) rfl) (tin 1 2 (by decide +kernel) rfl) (by decide +kernel : decode cX7_writePlain 77 = .ok (.invokevirtual 152, 3)) rfl
set_option maxRecDepth 100000 in
theorem s_60_80 (hC : SndC g HB l MM call) : Snd g HB l call cX7_writePlain 1 yX7_writePlain.cls yX7_writePlain.name 80 (s_br1 0 111 83) := b_eq (by decide +kernel : decode cX7_writePlain 80 = .ok (.ifCond .eq 31, 3)) (by decide) rfl
set_option maxRecDepth 100000 in
theorem s_60_111 (hC : SndC g HB l MM call) : Snd g HB l call cX7_writePlain 1 yX7_writePlain.cls yX7_writePlain.name 111 (lf (q_load isR 0 112)) := lf_ok (p_aload_n (by decide +kernel : decode cX7_writePlain 111 = .ok (.aload_n 0, 1)) rfl rfl)
set_option maxRecDepth 100000 in
theorem s_60_112 (hC : SndC g HB l MM call) : Snd g HB l call cX7_writePlain 1 yX7_writePlain.cls yX7_writePlain.name 112 (s_get 6 5 115) := h_get (k := 5) (C := RX7) (T := TX7) (N := 15) (ci := 6) rfl (by decide) (tin 1 174 (by decide +kernel) rfl)  (by decide +kernel : decode cX7_writePlain 112 = .ok (.getfield 20, 3)) rfl
set_option maxRecDepth 100000 in
theorem s_60_115 (hC : SndC g HB l MM call) : Snd g HB l call cX7_writePlain 1 yX7_writePlain.cls yX7_writePlain.name 115 (lf (q_load isR 0 116)) := lf_ok (p_aload_n (by decide +kernel : decode cX7_writePlain 115 = .ok (.aload_n 0, 1)) rfl rfl)
set_option maxRecDepth 100000 in
theorem s_60_116 (hC : SndC g HB l MM call) : Snd g HB l call cX7_writePlain 1 yX7_writePlain.cls yX7_writePlain.name 116 (s_get 6 0 119) := h_get (k := 0) (C := RX7) (T := TX7) (N := 15) (ci := 6) rfl (by decide) (tin 1 169 (by decide +kernel) rfl)  (by decide +kernel : decode cX7_writePlain 116 = .ok (.getfield 45, 3)) rfl
set_option maxRecDepth 100000 in
theorem s_60_119 (hC : SndC g HB l MM call) : Snd g HB l call cX7_writePlain 1 yX7_writePlain.cls yX7_writePlain.name 119 (lf (q_load isR 0 120)) := lf_ok (p_aload_n (by decide +kernel : decode cX7_writePlain 119 = .ok (.aload_n 0, 1)) rfl rfl)
set_option maxRecDepth 100000 in
theorem s_60_120 (hC : SndC g HB l MM call) : Snd g HB l call cX7_writePlain 1 yX7_writePlain.cls yX7_writePlain.name 120 (s_get 6 3 123) := h_get (k := 3) (C := RX7) (T := TX7) (N := 15) (ci := 6) rfl (by decide) (tin 1 172 (by decide +kernel) rfl)  (by decide +kernel : decode cX7_writePlain 120 = .ok (.getfield 60, 3)) rfl
set_option maxRecDepth 100000 in
theorem s_60_123 (hC : SndC g HB l MM call) : Snd g HB l call cX7_writePlain 1 yX7_writePlain.cls yX7_writePlain.name 123 (s_get 3 3 126) := h_getN (host := "MailArchive") (k := 3) (C := RX4) (T := TX4) (N := 5) (ci := 3) rfl (by decide) (tinN 1 155 (by decide +kernel) rfl)  (by decide +kernel : decode cX7_writePlain 123 = .ok (.getfield 176, 3)) rfl
set_option maxRecDepth 100000 in
theorem s_60_126 (hC : SndC g HB l MM call) : Snd g HB l call cX7_writePlain 1 yX7_writePlain.cls yX7_writePlain.name 126 (lf (q_load isR 0 127)) := lf_ok (p_aload_n (by decide +kernel : decode cX7_writePlain 126 = .ok (.aload_n 0, 1)) rfl rfl)
set_option maxRecDepth 100000 in
theorem s_60_127 (hC : SndC g HB l MM call) : Snd g HB l call cX7_writePlain 1 yX7_writePlain.cls yX7_writePlain.name 127 (s_get 6 3 130) := h_get (k := 3) (C := RX7) (T := TX7) (N := 15) (ci := 6) rfl (by decide) (tin 1 172 (by decide +kernel) rfl)  (by decide +kernel : decode cX7_writePlain 127 = .ok (.getfield 60, 3)) rfl
set_option maxRecDepth 100000 in
theorem s_60_130 (hC : SndC g HB l MM call) : Snd g HB l call cX7_writePlain 1 yX7_writePlain.cls yX7_writePlain.name 130 (s_get 3 4 133) := h_getN (host := "MailArchive") (k := 4) (C := RX4) (T := TX4) (N := 5) (ci := 3) rfl (by decide) (tinN 1 157 (by decide +kernel) rfl)  (by decide +kernel : decode cX7_writePlain 130 = .ok (.getfield 179, 3)) rfl
set_option maxRecDepth 100000 in
theorem s_60_133 (hC : SndC g HB l MM call) : Snd g HB l call cX7_writePlain 1 yX7_writePlain.cls yX7_writePlain.name 133 (s_cV 2 19 3 24 136) := c_V (C := RX1) (T := TX1) (N := 2) (ci := 2) rfl hC (M := MM) (id := 19) (d := D_19) rfl mok_19 rfl rfl (tin 5 14 (by decide +kernel) rfl) (tin 2 160 (by decide +kernel) rfl) (tin 2 161 (by decide +kernel) rfl) (tin 1 2 (by decide +kernel) rfl) (by decide +kernel : decode cX7_writePlain 133 = .ok (.invokevirtual 190, 3)) rfl
set_option maxRecDepth 100000 in
theorem ok_60 (hex : HB.size = g.1) (hC : SndC g HB l MM call) : ∀ x ∈ P_60, Snd g HB l call cX7_writePlain 1 yX7_writePlain.cls yX7_writePlain.name x.1 x.2 := fa3 (s_60_0 hC) (fa3 (s_60_1 hC) (fa3 (s_60_4 hC) (fa3 (s_60_6 hC) (fa3 (s_60_7 hC) (fa3 (s_60_10 hC) (fa3 (s_60_13 hC) (fa3 (s_60_14 hC) (fa3 (s_60_17 hC) (fa3 (s_60_18 hC) (fa3 (s_60_19 hC) (fa3 (s_60_22 hC) (fa3 (s_60_25 hC) (fa3 (s_60_27 hC) (fa3 (s_60_28 hC) (fa3 (s_60_31 hC) (fa3 (s_60_62 hC) (fa3 (s_60_63 hC) (fa3 (s_60_66 hC) (fa3 (s_60_67 hC) (fa3 (s_60_68 hC) (fa3 (s_60_71 hC) (fa3 (s_60_74 hC) (fa3 (s_60_76 hC) (fa3 (s_60_77 hC) (fa3 (s_60_80 hC) (fa3 (s_60_111 hC) (fa3 (s_60_112 hC) (fa3 (s_60_115 hC) (fa3 (s_60_116 hC) (fa3 (s_60_119 hC) (fa3 (s_60_120 hC) (fa3 (s_60_123 hC) (fa3 (s_60_126 hC) (fa3 (s_60_127 hC) (fa3 (s_60_130 hC) (fa3 (s_60_133 hC) (fn3)))))))))))))))))))))))))))))))))))))
set_option maxRecDepth 100000 in
theorem ms_60 (hex : HB.size = g.1) : MSnd g HB l MM D_60 := ⟨by decide +kernel, fun _ hC => ok_60 hex hC, fa3 (show endOK cX7_writePlain none 136 0 from ⟨rfl, (by decide +kernel : decode cX7_writePlain 136 = .ok (.return_, 1))⟩) (fn3)⟩
set_option maxRecDepth 100000 in
theorem s_61_0 (hC : SndC g HB l MM call) : Snd g HB l call cX1_is 5 yX1_is.cls yX1_is.name 0 (lf (q_load isI 2 1)) := lf_ok (p_iload_n (by decide +kernel : decode cX1_is 0 = .ok (.iload_n 2, 1)) rfl rfl)
set_option maxRecDepth 100000 in
theorem s_61_1 (hC : SndC g HB l MM call) : Snd g HB l call cX1_is 5 yX1_is.cls yX1_is.name 1 (lf (q_load isI 1 2)) := lf_ok (p_iload_n (by decide +kernel : decode cX1_is 1 = .ok (.iload_n 1, 1)) rfl rfl)
set_option maxRecDepth 100000 in
theorem s_61_2 (hC : SndC g HB l MM call) : Snd g HB l call cX1_is 5 yX1_is.cls yX1_is.name 2 (lf (q_bin (iop2 (fun x y => x - y)) 3)) := lf_ok (p_isub (by decide +kernel : decode cX1_is 2 = .ok (.isub, 1)) rfl)
set_option maxRecDepth 100000 in
theorem s_61_3 (hC : SndC g HB l MM call) : Snd g HB l call cX1_is 5 yX1_is.cls yX1_is.name 3 (lf (q_load isR 3 4)) := lf_ok (p_aload_n (by decide +kernel : decode cX1_is 3 = .ok (.aload_n 3, 1)) rfl rfl)
set_option maxRecDepth 100000 in
theorem s_61_4 (hC : SndC g HB l MM call) : Snd g HB l call cX1_is 5 yX1_is.cls yX1_is.name 4 (s_cVX [1, 3, 5] 36 0 20 7) := m_cVX (C := "java/lang/String") vso_ok hC (M := MM) (id := 36) (d := D_36) rfl mok_36 rfl rfl (tin 3 216 (by decide +kernel) rfl) (tin 3 203 (by decide +kernel) rfl) (tin 3 204 (by decide +kernel) rfl) (tin 1 20 (by decide +kernel) rfl) (by decide +kernel : decode cX1_is 4 = .ok (.invokevirtual 33, 3)) rfl
set_option maxRecDepth 100000 in
theorem s_61_7 (hC : SndC g HB l MM call) : Snd g HB l call cX1_is 5 yX1_is.cls yX1_is.name 7 (s_br2 1 25 10) := b_ine (by decide +kernel : decode cX1_is 7 = .ok (.if_icmp .ne 18, 3)) (by decide) rfl
set_option maxRecDepth 100000 in
theorem s_61_25 (hC : SndC g HB l MM call) : Snd g HB l call cX1_is 5 yX1_is.cls yX1_is.name 25 (lf (q_push (.inl 0) 26)) := lf_ok (p_iconst (by decide +kernel : decode cX1_is 25 = .ok (.iconst 0, 1)) (by decide +kernel) rfl)
set_option maxRecDepth 100000 in
theorem ok_61 (hex : HB.size = g.1) (hC : SndC g HB l MM call) : ∀ x ∈ P_61, Snd g HB l call cX1_is 5 yX1_is.cls yX1_is.name x.1 x.2 := fa3 (s_61_0 hC) (fa3 (s_61_1 hC) (fa3 (s_61_2 hC) (fa3 (s_61_3 hC) (fa3 (s_61_4 hC) (fa3 (s_61_7 hC) (fa3 (s_61_25 hC) (fn3)))))))
set_option maxRecDepth 100000 in
theorem ms_61 (hex : HB.size = g.1) : MSnd g HB l MM D_61 := ⟨by decide +kernel, fun _ hC => ok_61 hex hC, fa3 (show endOK cX1_is (some .boolean) 26 2 from (by decide +kernel : decode cX1_is 26 = .ok (.ireturn, 1))) (fn3)⟩
set_option maxRecDepth 100000 in
theorem s_62_0 (hC : SndC g HB l MM call) : Snd g HB l call cX9_isOfWord 1 yX9_isOfWord.cls yX9_isOfWord.name 0 (lf (q_load isI 0 1)) := lf_ok (p_iload_n (by decide +kernel : decode cX9_isOfWord 0 = .ok (.iload_n 0, 1)) rfl rfl)
set_option maxRecDepth 100000 in
theorem s_62_1 (hC : SndC g HB l MM call) : Snd g HB l call cX9_isOfWord 1 yX9_isOfWord.cls yX9_isOfWord.name 1 (s_cS 63 1 20 4) := c_S hC (M := MM) (id := 63) (d := D_63) rfl mok_63 rfl (tin 3 180 (by decide +kernel) rfl) (tin 3 181 (by decide +kernel) rfl) (tin 1 19 (by decide +kernel) rfl) (by decide +kernel : decode cX9_isOfWord 1 = .ok (.invokestatic 9, 3)) rfl
set_option maxRecDepth 100000 in
theorem s_62_4 (hC : SndC g HB l MM call) : Snd g HB l call cX9_isOfWord 1 yX9_isOfWord.cls yX9_isOfWord.name 4 (s_br1 1 21 7) := b_ne (by decide +kernel : decode cX9_isOfWord 4 = .ok (.ifCond .ne 17, 3)) (by decide) rfl
set_option maxRecDepth 100000 in
theorem s_62_7 (hC : SndC g HB l MM call) : Snd g HB l call cX9_isOfWord 1 yX9_isOfWord.cls yX9_isOfWord.name 7 (lf (q_load isI 0 8)) := lf_ok (p_iload_n (by decide +kernel : decode cX9_isOfWord 7 = .ok (.iload_n 0, 1)) rfl rfl)
set_option maxRecDepth 100000 in
theorem s_62_8 (hC : SndC g HB l MM call) : Snd g HB l call cX9_isOfWord 1 yX9_isOfWord.cls yX9_isOfWord.name 8 (s_cS 64 1 20 11) := c_S hC (M := MM) (id := 64) (d := D_64) rfl mok_64 rfl (tin 3 183 (by decide +kernel) rfl) (tin 3 184 (by decide +kernel) rfl) (tin 1 19 (by decide +kernel) rfl) (by decide +kernel : decode cX9_isOfWord 8 = .ok (.invokestatic 15, 3)) rfl
set_option maxRecDepth 100000 in
theorem s_62_11 (hC : SndC g HB l MM call) : Snd g HB l call cX9_isOfWord 1 yX9_isOfWord.cls yX9_isOfWord.name 11 (s_br1 1 21 14) := b_ne (by decide +kernel : decode cX9_isOfWord 11 = .ok (.ifCond .ne 10, 3)) (by decide) rfl
set_option maxRecDepth 100000 in
theorem s_62_14 (hC : SndC g HB l MM call) : Snd g HB l call cX9_isOfWord 1 yX9_isOfWord.cls yX9_isOfWord.name 14 (lf (q_load isI 0 15)) := lf_ok (p_iload_n (by decide +kernel : decode cX9_isOfWord 14 = .ok (.iload_n 0, 1)) rfl rfl)
set_option maxRecDepth 100000 in
theorem s_62_15 (hC : SndC g HB l MM call) : Snd g HB l call cX9_isOfWord 1 yX9_isOfWord.cls yX9_isOfWord.name 15 (lf (q_push (.inl 128) 18)) := lf_ok (p_sipush (by decide +kernel : decode cX9_isOfWord 15 = .ok (.sipush 128, 3)) (by decide +kernel) rfl)
set_option maxRecDepth 100000 in
theorem s_62_18 (hC : SndC g HB l MM call) : Snd g HB l call cX9_isOfWord 1 yX9_isOfWord.cls yX9_isOfWord.name 18 (s_br2 2 25 21) := b_ilt (by decide +kernel : decode cX9_isOfWord 18 = .ok (.if_icmp .lt 7, 3)) (by decide) rfl
set_option maxRecDepth 100000 in
theorem s_62_25 (hC : SndC g HB l MM call) : Snd g HB l call cX9_isOfWord 1 yX9_isOfWord.cls yX9_isOfWord.name 25 (lf (q_push (.inl 0) 26)) := lf_ok (p_iconst (by decide +kernel : decode cX9_isOfWord 25 = .ok (.iconst 0, 1)) (by decide +kernel) rfl)
set_option maxRecDepth 100000 in
theorem ok_62 (hex : HB.size = g.1) (hC : SndC g HB l MM call) : ∀ x ∈ P_62, Snd g HB l call cX9_isOfWord 1 yX9_isOfWord.cls yX9_isOfWord.name x.1 x.2 := fa3 (s_62_0 hC) (fa3 (s_62_1 hC) (fa3 (s_62_4 hC) (fa3 (s_62_7 hC) (fa3 (s_62_8 hC) (fa3 (s_62_11 hC) (fa3 (s_62_14 hC) (fa3 (s_62_15 hC) (fa3 (s_62_18 hC) (fa3 (s_62_25 hC) (fn3))))))))))
set_option maxRecDepth 100000 in
theorem ms_62 (hex : HB.size = g.1) : MSnd g HB l MM D_62 := ⟨by decide +kernel, fun _ hC => ok_62 hex hC, fa3 (show endOK cX9_isOfWord (some .boolean) 26 2 from (by decide +kernel : decode cX9_isOfWord 26 = .ok (.ireturn, 1))) (fn3)⟩
set_option maxRecDepth 100000 in
theorem s_63_0 (hC : SndC g HB l MM call) : Snd g HB l call cX9_isLetter 1 yX9_isLetter.cls yX9_isLetter.name 0 (lf (q_load isI 0 1)) := lf_ok (p_iload_n (by decide +kernel : decode cX9_isLetter 0 = .ok (.iload_n 0, 1)) rfl rfl)
set_option maxRecDepth 100000 in
theorem s_63_1 (hC : SndC g HB l MM call) : Snd g HB l call cX9_isLetter 1 yX9_isLetter.cls yX9_isLetter.name 1 (lf (q_push (.inl 97) 3)) := lf_ok (p_bipush (by decide +kernel : decode cX9_isLetter 1 = .ok (.bipush 97, 2)) (by decide +kernel) rfl)
set_option maxRecDepth 100000 in
theorem s_63_3 (hC : SndC g HB l MM call) : Snd g HB l call cX9_isLetter 1 yX9_isLetter.cls yX9_isLetter.name 3 (s_br2 2 12 6) := b_ilt (by decide +kernel : decode cX9_isLetter 3 = .ok (.if_icmp .lt 9, 3)) (by decide) rfl
set_option maxRecDepth 100000 in
theorem s_63_12 (hC : SndC g HB l MM call) : Snd g HB l call cX9_isLetter 1 yX9_isLetter.cls yX9_isLetter.name 12 (lf (q_load isI 0 13)) := lf_ok (p_iload_n (by decide +kernel : decode cX9_isLetter 12 = .ok (.iload_n 0, 1)) rfl rfl)
set_option maxRecDepth 100000 in
theorem s_63_13 (hC : SndC g HB l MM call) : Snd g HB l call cX9_isLetter 1 yX9_isLetter.cls yX9_isLetter.name 13 (lf (q_push (.inl 65) 15)) := lf_ok (p_bipush (by decide +kernel : decode cX9_isLetter 13 = .ok (.bipush 65, 2)) (by decide +kernel) rfl)
set_option maxRecDepth 100000 in
theorem s_63_15 (hC : SndC g HB l MM call) : Snd g HB l call cX9_isLetter 1 yX9_isLetter.cls yX9_isLetter.name 15 (s_br2 2 28 18) := b_ilt (by decide +kernel : decode cX9_isLetter 15 = .ok (.if_icmp .lt 13, 3)) (by decide) rfl
set_option maxRecDepth 100000 in
theorem s_63_28 (hC : SndC g HB l MM call) : Snd g HB l call cX9_isLetter 1 yX9_isLetter.cls yX9_isLetter.name 28 (lf (q_push (.inl 0) 29)) := lf_ok (p_iconst (by decide +kernel : decode cX9_isLetter 28 = .ok (.iconst 0, 1)) (by decide +kernel) rfl)
set_option maxRecDepth 100000 in
theorem ok_63 (hex : HB.size = g.1) (hC : SndC g HB l MM call) : ∀ x ∈ P_63, Snd g HB l call cX9_isLetter 1 yX9_isLetter.cls yX9_isLetter.name x.1 x.2 := fa3 (s_63_0 hC) (fa3 (s_63_1 hC) (fa3 (s_63_3 hC) (fa3 (s_63_12 hC) (fa3 (s_63_13 hC) (fa3 (s_63_15 hC) (fa3 (s_63_28 hC) (fn3)))))))
set_option maxRecDepth 100000 in
theorem ms_63 (hex : HB.size = g.1) : MSnd g HB l MM D_63 := ⟨by decide +kernel, fun _ hC => ok_63 hex hC, fa3 (show endOK cX9_isLetter (some .boolean) 29 2 from (by decide +kernel : decode cX9_isLetter 29 = .ok (.ireturn, 1))) (fn3)⟩
set_option maxRecDepth 100000 in
theorem s_64_0 (hC : SndC g HB l MM call) : Snd g HB l call cX9_isDigit 1 yX9_isDigit.cls yX9_isDigit.name 0 (lf (q_load isI 0 1)) := lf_ok (p_iload_n (by decide +kernel : decode cX9_isDigit 0 = .ok (.iload_n 0, 1)) rfl rfl)
set_option maxRecDepth 100000 in
theorem s_64_1 (hC : SndC g HB l MM call) : Snd g HB l call cX9_isDigit 1 yX9_isDigit.cls yX9_isDigit.name 1 (lf (q_push (.inl 48) 3)) := lf_ok (p_bipush (by decide +kernel : decode cX9_isDigit 1 = .ok (.bipush 48, 2)) (by decide +kernel) rfl)
set_option maxRecDepth 100000 in
theorem s_64_3 (hC : SndC g HB l MM call) : Snd g HB l call cX9_isDigit 1 yX9_isDigit.cls yX9_isDigit.name 3 (s_br2 2 16 6) := b_ilt (by decide +kernel : decode cX9_isDigit 3 = .ok (.if_icmp .lt 13, 3)) (by decide) rfl
set_option maxRecDepth 100000 in
theorem s_64_16 (hC : SndC g HB l MM call) : Snd g HB l call cX9_isDigit 1 yX9_isDigit.cls yX9_isDigit.name 16 (lf (q_push (.inl 0) 17)) := lf_ok (p_iconst (by decide +kernel : decode cX9_isDigit 16 = .ok (.iconst 0, 1)) (by decide +kernel) rfl)
set_option maxRecDepth 100000 in
theorem ok_64 (hex : HB.size = g.1) (hC : SndC g HB l MM call) : ∀ x ∈ P_64, Snd g HB l call cX9_isDigit 1 yX9_isDigit.cls yX9_isDigit.name x.1 x.2 := fa3 (s_64_0 hC) (fa3 (s_64_1 hC) (fa3 (s_64_3 hC) (fa3 (s_64_16 hC) (fn3))))
set_option maxRecDepth 100000 in
theorem ms_64 (hex : HB.size = g.1) : MSnd g HB l MM D_64 := ⟨by decide +kernel, fun _ hC => ok_64 hex hC, fa3 (show endOK cX9_isDigit (some .boolean) 17 2 from (by decide +kernel : decode cX9_isDigit 17 = .ok (.ireturn, 1))) (fn3)⟩
set_option maxRecDepth 100000 in
theorem s_65_0 (hC : SndC g HB l MM call) : Snd g HB l call cX6_init 7 yX6_init.cls yX6_init.name 0 (lf (q_load isR 0 1)) := lf_ok (p_aload_n (by decide +kernel : decode cX6_init 0 = .ok (.aload_n 0, 1)) rfl rfl)
set_option maxRecDepth 100000 in
theorem s_65_1 (hC : SndC g HB l MM call) : Snd g HB l call cX6_init 7 yX6_init.cls yX6_init.name 1 (s_obj 4) := m_obj (tin 5 48 (by decide +kernel) rfl) (tin 1 38 (by decide +kernel) rfl) (tin 1 39 (by decide +kernel) rfl) (by decide +kernel : decode cX6_init 1 = .ok (.invokespecial 3, 3)) rfl
set_option maxRecDepth 100000 in
theorem s_65_4 (hC : SndC g HB l MM call) : Snd g HB l call cX6_init 7 yX6_init.cls yX6_init.name 4 (lf (q_load isR 0 5)) := lf_ok (p_aload_n (by decide +kernel : decode cX6_init 4 = .ok (.aload_n 0, 1)) rfl rfl)
set_option maxRecDepth 100000 in
theorem s_65_5 (hC : SndC g HB l MM call) : Snd g HB l call cX6_init 7 yX6_init.cls yX6_init.name 5 (lf (q_push (.inl 8) 7)) := lf_ok (p_bipush (by decide +kernel : decode cX6_init 5 = .ok (.bipush 8, 2)) (by decide +kernel) rfl)
set_option maxRecDepth 100000 in
theorem s_65_7 (hC : SndC g HB l MM call) (hex : HB.size = g.1) : Snd g HB l call cX6_init 7 yX6_init.cls yX6_init.name 7 (s_newa 0 9) := h_newa hex (t := 0) (by decide) rfl (tin 1 82 (by decide +kernel) rfl) (by decide +kernel : decode cX6_init 7 = .ok (.newarray .int, 2)) rfl
set_option maxRecDepth 100000 in
theorem s_65_9 (hC : SndC g HB l MM call) : Snd g HB l call cX6_init 7 yX6_init.cls yX6_init.name 9 (s_put 5 6 3 12) := h_putF (k := 6) (C := RX6) (T := TX6) (N := 8) (ci := 5) rfl (by decide) rfl rfl rfl (Or.inr ⟨_, rfl⟩) (tin 5 65 (by decide +kernel) rfl) (by decide +kernel : decode cX6_init 9 = .ok (.putfield 9, 3)) rfl
set_option maxRecDepth 100000 in
theorem s_65_12 (hC : SndC g HB l MM call) : Snd g HB l call cX6_init 7 yX6_init.cls yX6_init.name 12 (lf (q_load isR 0 13)) := lf_ok (p_aload_n (by decide +kernel : decode cX6_init 12 = .ok (.aload_n 0, 1)) rfl rfl)
set_option maxRecDepth 100000 in
theorem s_65_13 (hC : SndC g HB l MM call) : Snd g HB l call cX6_init 7 yX6_init.cls yX6_init.name 13 (lf (q_load isI 1 14)) := lf_ok (p_iload_n (by decide +kernel : decode cX6_init 13 = .ok (.iload_n 1, 1)) rfl rfl)
set_option maxRecDepth 100000 in
theorem s_65_14 (hC : SndC g HB l MM call) : Snd g HB l call cX6_init 7 yX6_init.cls yX6_init.name 14 (s_put 5 0 0 17) := h_putF (k := 0) (C := RX6) (T := TX6) (N := 8) (ci := 5) rfl (by decide) rfl rfl rfl rfl (tin 5 49 (by decide +kernel) rfl) (by decide +kernel : decode cX6_init 14 = .ok (.putfield 15, 3)) rfl
set_option maxRecDepth 100000 in
theorem s_65_17 (hC : SndC g HB l MM call) : Snd g HB l call cX6_init 7 yX6_init.cls yX6_init.name 17 (lf (q_load isR 0 18)) := lf_ok (p_aload_n (by decide +kernel : decode cX6_init 17 = .ok (.aload_n 0, 1)) rfl rfl)
set_option maxRecDepth 100000 in
theorem s_65_18 (hC : SndC g HB l MM call) : Snd g HB l call cX6_init 7 yX6_init.cls yX6_init.name 18 (lf (q_load isR 2 19)) := lf_ok (p_aload_n (by decide +kernel : decode cX6_init 18 = .ok (.aload_n 2, 1)) rfl rfl)
set_option maxRecDepth 100000 in
theorem s_65_19 (hC : SndC g HB l MM call) : Snd g HB l call cX6_init 7 yX6_init.cls yX6_init.name 19 (s_put 5 1 3 22) := h_putF (k := 1) (C := RX6) (T := TX6) (N := 8) (ci := 5) rfl (by decide) rfl rfl rfl (Or.inr ⟨_, rfl⟩) (tin 5 52 (by decide +kernel) rfl) (by decide +kernel : decode cX6_init 19 = .ok (.putfield 19, 3)) rfl
set_option maxRecDepth 100000 in
theorem s_65_22 (hC : SndC g HB l MM call) : Snd g HB l call cX6_init 7 yX6_init.cls yX6_init.name 22 (lf (q_load isR 0 23)) := lf_ok (p_aload_n (by decide +kernel : decode cX6_init 22 = .ok (.aload_n 0, 1)) rfl rfl)
set_option maxRecDepth 100000 in
theorem s_65_23 (hC : SndC g HB l MM call) : Snd g HB l call cX6_init 7 yX6_init.cls yX6_init.name 23 (lf (q_load isR 3 24)) := lf_ok (p_aload_n (by decide +kernel : decode cX6_init 23 = .ok (.aload_n 3, 1)) rfl rfl)
set_option maxRecDepth 100000 in
theorem s_65_24 (hC : SndC g HB l MM call) : Snd g HB l call cX6_init 7 yX6_init.cls yX6_init.name 24 (s_put 5 2 3 27) := h_putF (k := 2) (C := RX6) (T := TX6) (N := 8) (ci := 5) rfl (by decide) rfl rfl rfl (Or.inr ⟨_, rfl⟩) (tin 5 54 (by decide +kernel) rfl) (by decide +kernel : decode cX6_init 24 = .ok (.putfield 22, 3)) rfl
set_option maxRecDepth 100000 in
theorem s_65_27 (hC : SndC g HB l MM call) : Snd g HB l call cX6_init 7 yX6_init.cls yX6_init.name 27 (lf (q_load isR 0 28)) := lf_ok (p_aload_n (by decide +kernel : decode cX6_init 27 = .ok (.aload_n 0, 1)) rfl rfl)
set_option maxRecDepth 100000 in
theorem s_65_28 (hC : SndC g HB l MM call) : Snd g HB l call cX6_init 7 yX6_init.cls yX6_init.name 28 (lf (q_load isI 4 30)) := lf_ok (p_iload (by decide +kernel : decode cX6_init 28 = .ok (.iload 4, 2)) rfl)
set_option maxRecDepth 100000 in
theorem s_65_30 (hC : SndC g HB l MM call) : Snd g HB l call cX6_init 7 yX6_init.cls yX6_init.name 30 (s_put 5 3 0 33) := h_putF (k := 3) (C := RX6) (T := TX6) (N := 8) (ci := 5) rfl (by decide) rfl rfl rfl rfl (tin 5 55 (by decide +kernel) rfl) (by decide +kernel : decode cX6_init 30 = .ok (.putfield 25, 3)) rfl
set_option maxRecDepth 100000 in
theorem s_65_33 (hC : SndC g HB l MM call) : Snd g HB l call cX6_init 7 yX6_init.cls yX6_init.name 33 (lf (q_load isR 0 34)) := lf_ok (p_aload_n (by decide +kernel : decode cX6_init 33 = .ok (.aload_n 0, 1)) rfl rfl)
set_option maxRecDepth 100000 in
theorem s_65_34 (hC : SndC g HB l MM call) : Snd g HB l call cX6_init 7 yX6_init.cls yX6_init.name 34 (lf (q_load isI 5 36)) := lf_ok (p_iload (by decide +kernel : decode cX6_init 34 = .ok (.iload 5, 2)) rfl)
set_option maxRecDepth 100000 in
theorem s_65_36 (hC : SndC g HB l MM call) : Snd g HB l call cX6_init 7 yX6_init.cls yX6_init.name 36 (s_put 5 4 0 39) := h_putF (k := 4) (C := RX6) (T := TX6) (N := 8) (ci := 5) rfl (by decide) rfl rfl rfl rfl (tin 5 58 (by decide +kernel) rfl) (by decide +kernel : decode cX6_init 36 = .ok (.putfield 28, 3)) rfl
set_option maxRecDepth 100000 in
theorem s_65_39 (hC : SndC g HB l MM call) : Snd g HB l call cX6_init 7 yX6_init.cls yX6_init.name 39 (lf (q_load isR 0 40)) := lf_ok (p_aload_n (by decide +kernel : decode cX6_init 39 = .ok (.aload_n 0, 1)) rfl rfl)
set_option maxRecDepth 100000 in
theorem s_65_40 (hC : SndC g HB l MM call) : Snd g HB l call cX6_init 7 yX6_init.cls yX6_init.name 40 (lf (q_load isR 6 42)) := lf_ok (p_aload (by decide +kernel : decode cX6_init 40 = .ok (.aload 6, 2)) rfl)
set_option maxRecDepth 100000 in
theorem s_65_42 (hC : SndC g HB l MM call) : Snd g HB l call cX6_init 7 yX6_init.cls yX6_init.name 42 (s_put 5 5 3 45) := h_putF (k := 5) (C := RX6) (T := TX6) (N := 8) (ci := 5) rfl (by decide) rfl rfl rfl (Or.inr ⟨_, rfl⟩) (tin 5 62 (by decide +kernel) rfl) (by decide +kernel : decode cX6_init 42 = .ok (.putfield 31, 3)) rfl
set_option maxRecDepth 100000 in
theorem ok_65 (hex : HB.size = g.1) (hC : SndC g HB l MM call) : ∀ x ∈ P_65, Snd g HB l call cX6_init 7 yX6_init.cls yX6_init.name x.1 x.2 := fa3 (s_65_0 hC) (fa3 (s_65_1 hC) (fa3 (s_65_4 hC) (fa3 (s_65_5 hC) (fa3 (s_65_7 hC hex) (fa3 (s_65_9 hC) (fa3 (s_65_12 hC) (fa3 (s_65_13 hC) (fa3 (s_65_14 hC) (fa3 (s_65_17 hC) (fa3 (s_65_18 hC) (fa3 (s_65_19 hC) (fa3 (s_65_22 hC) (fa3 (s_65_23 hC) (fa3 (s_65_24 hC) (fa3 (s_65_27 hC) (fa3 (s_65_28 hC) (fa3 (s_65_30 hC) (fa3 (s_65_33 hC) (fa3 (s_65_34 hC) (fa3 (s_65_36 hC) (fa3 (s_65_39 hC) (fa3 (s_65_40 hC) (fa3 (s_65_42 hC) (fn3))))))))))))))))))))))))
set_option maxRecDepth 100000 in
theorem ms_65 (hex : HB.size = g.1) : MSnd g HB l MM D_65 := ⟨by decide +kernel, fun _ hC => ok_65 hex hC, fa3 (show endOK cX6_init none 45 0 from ⟨rfl, (by decide +kernel : decode cX6_init 45 = .ok (.return_, 1))⟩) (fn3)⟩
end PR3
