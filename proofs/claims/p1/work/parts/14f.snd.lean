/-! Each reached instruction does what its step computes. -/
theorem fa5 {α : Type} {p : α → Prop} {a : α} {l : List α} (h : p a) (t : ∀ x ∈ l, p x) : ∀ x ∈ a :: l, p x := List.forall_mem_cons.mpr ⟨h, t⟩
theorem fn5 {α : Type} {p : α → Prop} : ∀ x ∈ ([] : List α), p x := fun _ h => absurd h List.not_mem_nil
section PR5
variable {g : GG} {HB : Heap} {l : Launch} {call : CallF}
set_option maxRecDepth 100000 in
theorem s_89_0 (hC : SndC g HB l MM call) : Snd g HB l call cX0_entryCount 1 yX0_entryCount.cls yX0_entryCount.name 0 (lf (q_load isR 0 1)) := lf_ok (p_aload_n (by decide +kernel : decode cX0_entryCount 0 = .ok (.aload_n 0, 1)) rfl rfl)
set_option maxRecDepth 100000 in
theorem s_89_1 (hC : SndC g HB l MM call) : Snd g HB l call cX0_entryCount 1 yX0_entryCount.cls yX0_entryCount.name 1 (s_get 1 5 4) := h_get (k := 5) (C := RX0) (T := TX0) (N := 7) (ci := 1) rfl (by decide) (tin 1 65 (by decide +kernel) rfl)  (by decide +kernel : decode cX0_entryCount 1 = .ok (.getfield 28, 3)) rfl
set_option maxRecDepth 100000 in
theorem ok_89 (hex : HB.size = g.1) (hC : SndC g HB l MM call) : ∀ x ∈ P_89, Snd g HB l call cX0_entryCount 1 yX0_entryCount.cls yX0_entryCount.name x.1 x.2 := fa5 (s_89_0 hC) (fa5 (s_89_1 hC) (fn5))
set_option maxRecDepth 100000 in
theorem ms_89 (hex : HB.size = g.1) : MSnd g HB l MM D_89 := ⟨by decide +kernel, fun _ hC => ok_89 hex hC, fa5 (show endOK cX0_entryCount (some .int) 4 1 from ⟨rfl, (by decide +kernel : decode cX0_entryCount 4 = .ok (.ireturn, 1))⟩) (fn5)⟩
set_option maxRecDepth 100000 in
theorem s_90_0 (hC : SndC g HB l MM call) : Snd g HB l call cX11_about 5 yX11_about.cls yX11_about.name 0 (lf (q_load isR 0 1)) := lf_ok (p_aload_n (by decide +kernel : decode cX11_about 0 = .ok (.aload_n 0, 1)) rfl rfl)
set_option maxRecDepth 100000 in
theorem s_90_1 (hC : SndC g HB l MM call) : Snd g HB l call cX11_about 5 yX11_about.cls yX11_about.name 1 (lf (q_load isI 1 2)) := lf_ok (p_iload_n (by decide +kernel : decode cX11_about 1 = .ok (.iload_n 1, 1)) rfl rfl)
set_option maxRecDepth 100000 in
theorem s_90_2 (hC : SndC g HB l MM call) : Snd g HB l call cX11_about 5 yX11_about.cls yX11_about.name 2 (s_cV 9 72 1 22 5) := c_V (C := RX11) (T := TX11) (N := 17) (ci := 9) rfl hC (M := MM) (id := 72) (d := D_72) rfl mok_72 rfl rfl (tin 2 229 (by decide +kernel) rfl) (tin 2 231 (by decide +kernel) rfl) (tinP (y := mdY D_72) (n := 17) 6 (by decide +kernel)) (tin 1 1 (by decide +kernel) rfl) (by decide +kernel : decode cX11_about 2 = .ok (.invokevirtual 119, 3)) rfl
set_option maxRecDepth 100000 in
theorem s_90_5 (hC : SndC g HB l MM call) : Snd g HB l call cX11_about 5 yX11_about.cls yX11_about.name 5 (lf (q_store isI up1 0 3 5 6)) := lf_ok (p_istore_n (by decide +kernel : decode cX11_about 5 = .ok (.istore_n 3, 1)) rfl rfl)
set_option maxRecDepth 100000 in
theorem s_90_6 (hC : SndC g HB l MM call) : Snd g HB l call cX11_about 5 yX11_about.cls yX11_about.name 6 (lf (q_load isI 3 7)) := lf_ok (p_iload_n (by decide +kernel : decode cX11_about 6 = .ok (.iload_n 3, 1)) rfl rfl)
set_option maxRecDepth 100000 in
theorem s_90_7 (hC : SndC g HB l MM call) : Snd g HB l call cX11_about 5 yX11_about.cls yX11_about.name 7 (s_br1 2 21 10) := b_lt (by decide +kernel : decode cX11_about 7 = .ok (.ifCond .lt 14, 3)) (by decide) rfl
set_option maxRecDepth 100000 in
theorem s_90_21 (hC : SndC g HB l MM call) : Snd g HB l call cX11_about 5 yX11_about.cls yX11_about.name 21 (lf (q_push (.inl 4294967295) 22)) := lf_ok (p_iconst (by decide +kernel : decode cX11_about 21 = .ok (.iconst (-1), 1)) (by decide +kernel) rfl)
set_option maxRecDepth 100000 in
theorem ok_90 (hex : HB.size = g.1) (hC : SndC g HB l MM call) : ∀ x ∈ P_90, Snd g HB l call cX11_about 5 yX11_about.cls yX11_about.name x.1 x.2 := fa5 (s_90_0 hC) (fa5 (s_90_1 hC) (fa5 (s_90_2 hC) (fa5 (s_90_5 hC) (fa5 (s_90_6 hC) (fa5 (s_90_7 hC) (fa5 (s_90_21 hC) (fn5)))))))
set_option maxRecDepth 100000 in
theorem ms_90 (hex : HB.size = g.1) : MSnd g HB l MM D_90 := ⟨by decide +kernel, fun _ hC => ok_90 hex hC, fa5 (show endOK cX11_about (some .int) 22 1 from ⟨rfl, (by decide +kernel : decode cX11_about 22 = .ok (.ireturn, 1))⟩) (fn5)⟩
set_option maxRecDepth 100000 in
theorem s_91_0 (hC : SndC g HB l MM call) : Snd g HB l call cX11_at 7 yX11_at.cls yX11_at.name 0 (lf (q_load isR 0 1)) := lf_ok (p_aload_n (by decide +kernel : decode cX11_at 0 = .ok (.aload_n 0, 1)) rfl rfl)
set_option maxRecDepth 100000 in
theorem s_91_1 (hC : SndC g HB l MM call) : Snd g HB l call cX11_at 7 yX11_at.cls yX11_at.name 1 (lf (q_load isI 1 2)) := lf_ok (p_iload_n (by decide +kernel : decode cX11_at 1 = .ok (.iload_n 1, 1)) rfl rfl)
set_option maxRecDepth 100000 in
theorem s_91_2 (hC : SndC g HB l MM call) : Snd g HB l call cX11_at 7 yX11_at.cls yX11_at.name 2 (s_cV 9 72 1 22 5) := c_V (C := RX11) (T := TX11) (N := 17) (ci := 9) rfl hC (M := MM) (id := 72) (d := D_72) rfl mok_72 rfl rfl (tin 2 229 (by decide +kernel) rfl) (tin 2 231 (by decide +kernel) rfl) (tinP (y := mdY D_72) (n := 17) 6 (by decide +kernel)) (tin 1 1 (by decide +kernel) rfl) (by decide +kernel : decode cX11_at 2 = .ok (.invokevirtual 119, 3)) rfl
set_option maxRecDepth 100000 in
theorem s_91_5 (hC : SndC g HB l MM call) : Snd g HB l call cX11_at 7 yX11_at.cls yX11_at.name 5 (lf (q_store isI up1 0 5 7 7)) := lf_ok (p_istore (by decide +kernel : decode cX11_at 5 = .ok (.istore 5, 2)) rfl)
set_option maxRecDepth 100000 in
theorem s_91_7 (hC : SndC g HB l MM call) : Snd g HB l call cX11_at 7 yX11_at.cls yX11_at.name 7 (lf (q_load isI 5 9)) := lf_ok (p_iload (by decide +kernel : decode cX11_at 7 = .ok (.iload 5, 2)) rfl)
set_option maxRecDepth 100000 in
theorem s_91_9 (hC : SndC g HB l MM call) : Snd g HB l call cX11_at 7 yX11_at.cls yX11_at.name 9 (s_br1 2 24 12) := b_lt (by decide +kernel : decode cX11_at 9 = .ok (.ifCond .lt 15, 3)) (by decide) rfl
set_option maxRecDepth 100000 in
theorem s_91_24 (hC : SndC g HB l MM call) : Snd g HB l call cX11_at 7 yX11_at.cls yX11_at.name 24 (lf (q_push (.inl 4294967295) 25)) := lf_ok (p_iconst (by decide +kernel : decode cX11_at 24 = .ok (.iconst (-1), 1)) (by decide +kernel) rfl)
set_option maxRecDepth 100000 in
theorem ok_91 (hex : HB.size = g.1) (hC : SndC g HB l MM call) : ∀ x ∈ P_91, Snd g HB l call cX11_at 7 yX11_at.cls yX11_at.name x.1 x.2 := fa5 (s_91_0 hC) (fa5 (s_91_1 hC) (fa5 (s_91_2 hC) (fa5 (s_91_5 hC) (fa5 (s_91_7 hC) (fa5 (s_91_9 hC) (fa5 (s_91_24 hC) (fn5)))))))
set_option maxRecDepth 100000 in
theorem ms_91 (hex : HB.size = g.1) : MSnd g HB l MM D_91 := ⟨by decide +kernel, fun _ hC => ok_91 hex hC, fa5 (show endOK cX11_at (some .int) 25 1 from ⟨rfl, (by decide +kernel : decode cX11_at 25 = .ok (.ireturn, 1))⟩) (fn5)⟩
set_option maxRecDepth 100000 in
theorem s_92_0 (hC : SndC g HB l MM call) : Snd g HB l call cX11_count 2 yX11_count.cls yX11_count.name 0 (lf (q_load isI 1 1)) := lf_ok (p_iload_n (by decide +kernel : decode cX11_count 0 = .ok (.iload_n 1, 1)) rfl rfl)
set_option maxRecDepth 100000 in
theorem s_92_1 (hC : SndC g HB l MM call) : Snd g HB l call cX11_count 2 yX11_count.cls yX11_count.name 1 (s_table 5 76 [40, 48, 53, 58, 63, 68]) := b_table (by decide) (by decide +kernel : decode cX11_count 1 = .ok (.tableswitch 75 0 5 #[39, 47, 52, 57, 62, 67], 39)) (by decide) (by decide)
set_option maxRecDepth 100000 in
theorem s_92_40 (hC : SndC g HB l MM call) : Snd g HB l call cX11_count 2 yX11_count.cls yX11_count.name 40 (lf (q_load isR 0 41)) := lf_ok (p_aload_n (by decide +kernel : decode cX11_count 40 = .ok (.aload_n 0, 1)) rfl rfl)
set_option maxRecDepth 100000 in
theorem s_92_41 (hC : SndC g HB l MM call) : Snd g HB l call cX11_count 2 yX11_count.cls yX11_count.name 41 (s_get 9 6 44) := h_get (k := 6) (C := RX11) (T := TX11) (N := 17) (ci := 9) rfl (by decide) (tin 2 101 (by decide +kernel) rfl)  (by decide +kernel : decode cX11_count 41 = .ok (.getfield 40, 3)) rfl
set_option maxRecDepth 100000 in
theorem s_92_44 (hC : SndC g HB l MM call) : Snd g HB l call cX11_count 2 yX11_count.cls yX11_count.name 44 (s_cV 0 22 0 20 47) := c_V (C := RJx4a65c) (T := TJx4a65c) (N := 3) (ci := 0) rfl hC (M := MM) (id := 22) (d := D_22) rfl mok_22 rfl rfl (tin 2 233 (by decide +kernel) rfl) (tin 2 188 (by decide +kernel) rfl) (tin 2 189 (by decide +kernel) rfl) (tin 1 6 (by decide +kernel) rfl) (by decide +kernel : decode cX11_count 44 = .ok (.invokevirtual 93, 3)) rfl
set_option maxRecDepth 100000 in
theorem s_92_48 (hC : SndC g HB l MM call) : Snd g HB l call cX11_count 2 yX11_count.cls yX11_count.name 48 (lf (q_load isR 0 49)) := lf_ok (p_aload_n (by decide +kernel : decode cX11_count 48 = .ok (.aload_n 0, 1)) rfl rfl)
set_option maxRecDepth 100000 in
theorem s_92_49 (hC : SndC g HB l MM call) : Snd g HB l call cX11_count 2 yX11_count.cls yX11_count.name 49 (s_get 9 15 52) := h_get (k := 15) (C := RX11) (T := TX11) (N := 17) (ci := 9) rfl (by decide) (tin 2 110 (by decide +kernel) rfl)  (by decide +kernel : decode cX11_count 49 = .ok (.getfield 94, 3)) rfl
set_option maxRecDepth 100000 in
theorem s_92_53 (hC : SndC g HB l MM call) : Snd g HB l call cX11_count 2 yX11_count.cls yX11_count.name 53 (lf (q_load isR 0 54)) := lf_ok (p_aload_n (by decide +kernel : decode cX11_count 53 = .ok (.aload_n 0, 1)) rfl rfl)
set_option maxRecDepth 100000 in
theorem s_92_54 (hC : SndC g HB l MM call) : Snd g HB l call cX11_count 2 yX11_count.cls yX11_count.name 54 (s_get 9 13 57) := h_get (k := 13) (C := RX11) (T := TX11) (N := 17) (ci := 9) rfl (by decide) (tin 2 108 (by decide +kernel) rfl)  (by decide +kernel : decode cX11_count 54 = .ok (.getfield 188, 3)) rfl
set_option maxRecDepth 100000 in
theorem s_92_58 (hC : SndC g HB l MM call) : Snd g HB l call cX11_count 2 yX11_count.cls yX11_count.name 58 (lf (q_load isR 0 59)) := lf_ok (p_aload_n (by decide +kernel : decode cX11_count 58 = .ok (.aload_n 0, 1)) rfl rfl)
set_option maxRecDepth 100000 in
theorem s_92_59 (hC : SndC g HB l MM call) : Snd g HB l call cX11_count 2 yX11_count.cls yX11_count.name 59 (s_cV 9 93 0 24 62) := c_V (C := RX11) (T := TX11) (N := 17) (ci := 9) rfl hC (M := MM) (id := 93) (d := D_93) rfl mok_93 rfl rfl (tin 3 58 (by decide +kernel) rfl) (tin 3 60 (by decide +kernel) rfl) (tinP (y := mdY D_93) (n := 17) 9 (by decide +kernel)) (tin 1 1 (by decide +kernel) rfl) (by decide +kernel : decode cX11_count 59 = .ok (.invokevirtual 237, 3)) rfl
set_option maxRecDepth 100000 in
theorem s_92_63 (hC : SndC g HB l MM call) : Snd g HB l call cX11_count 2 yX11_count.cls yX11_count.name 63 (lf (q_load isR 0 64)) := lf_ok (p_aload_n (by decide +kernel : decode cX11_count 63 = .ok (.aload_n 0, 1)) rfl rfl)
set_option maxRecDepth 100000 in
theorem s_92_64 (hC : SndC g HB l MM call) : Snd g HB l call cX11_count 2 yX11_count.cls yX11_count.name 64 (s_cV 9 95 0 24 67) := c_V (C := RX11) (T := TX11) (N := 17) (ci := 9) rfl hC (M := MM) (id := 95) (d := D_95) rfl mok_95 rfl rfl (tin 3 70 (by decide +kernel) rfl) (tin 3 72 (by decide +kernel) rfl) (tinP (y := mdY D_95) (n := 17) 10 (by decide +kernel)) (tin 1 1 (by decide +kernel) rfl) (by decide +kernel : decode cX11_count 64 = .ok (.invokevirtual 240, 3)) rfl
set_option maxRecDepth 100000 in
theorem s_92_68 (hC : SndC g HB l MM call) : Snd g HB l call cX11_count 2 yX11_count.cls yX11_count.name 68 (lf (q_load isR 0 69)) := lf_ok (p_aload_n (by decide +kernel : decode cX11_count 68 = .ok (.aload_n 0, 1)) rfl rfl)
set_option maxRecDepth 100000 in
theorem s_92_69 (hC : SndC g HB l MM call) : Snd g HB l call cX11_count 2 yX11_count.cls yX11_count.name 69 (s_get 9 1 72) := h_get (k := 1) (C := RX11) (T := TX11) (N := 17) (ci := 9) rfl (by decide) (tin 2 96 (by decide +kernel) rfl)  (by decide +kernel : decode cX11_count 69 = .ok (.getfield 18, 3)) rfl
set_option maxRecDepth 100000 in
theorem s_92_72 (hC : SndC g HB l MM call) : Snd g HB l call cX11_count 2 yX11_count.cls yX11_count.name 72 (s_cV 2 18 0 20 75) := c_V (C := RX1) (T := TX1) (N := 2) (ci := 2) rfl hC (M := MM) (id := 18) (d := D_18) rfl mok_18 rfl rfl (tin 2 155 (by decide +kernel) rfl) (tin 2 156 (by decide +kernel) rfl) (tin 2 157 (by decide +kernel) rfl) (tin 1 2 (by decide +kernel) rfl) (by decide +kernel : decode cX11_count 72 = .ok (.invokevirtual 85, 3)) rfl
set_option maxRecDepth 100000 in
theorem s_92_76 (hC : SndC g HB l MM call) : Snd g HB l call cX11_count 2 yX11_count.cls yX11_count.name 76 (lf (q_push (.inl 4294967295) 77)) := lf_ok (p_iconst (by decide +kernel : decode cX11_count 76 = .ok (.iconst (-1), 1)) (by decide +kernel) rfl)
set_option maxRecDepth 100000 in
theorem ok_92 (hex : HB.size = g.1) (hC : SndC g HB l MM call) : ∀ x ∈ P_92, Snd g HB l call cX11_count 2 yX11_count.cls yX11_count.name x.1 x.2 := fa5 (s_92_0 hC) (fa5 (s_92_1 hC) (fa5 (s_92_40 hC) (fa5 (s_92_41 hC) (fa5 (s_92_44 hC) (fa5 (s_92_48 hC) (fa5 (s_92_49 hC) (fa5 (s_92_53 hC) (fa5 (s_92_54 hC) (fa5 (s_92_58 hC) (fa5 (s_92_59 hC) (fa5 (s_92_63 hC) (fa5 (s_92_64 hC) (fa5 (s_92_68 hC) (fa5 (s_92_69 hC) (fa5 (s_92_72 hC) (fa5 (s_92_76 hC) (fn5)))))))))))))))))
set_option maxRecDepth 100000 in
theorem ms_92 (hex : HB.size = g.1) : MSnd g HB l MM D_92 := ⟨by decide +kernel, fun _ hC => ok_92 hex hC, fa5 (show endOK cX11_count (some .int) 47 1 from ⟨rfl, (by decide +kernel : decode cX11_count 47 = .ok (.ireturn, 1))⟩) (fa5 (show endOK cX11_count (some .int) 52 1 from ⟨rfl, (by decide +kernel : decode cX11_count 52 = .ok (.ireturn, 1))⟩) (fa5 (show endOK cX11_count (some .int) 57 1 from ⟨rfl, (by decide +kernel : decode cX11_count 57 = .ok (.ireturn, 1))⟩) (fa5 (show endOK cX11_count (some .int) 62 1 from ⟨rfl, (by decide +kernel : decode cX11_count 62 = .ok (.ireturn, 1))⟩) (fa5 (show endOK cX11_count (some .int) 67 1 from ⟨rfl, (by decide +kernel : decode cX11_count 67 = .ok (.ireturn, 1))⟩) (fa5 (show endOK cX11_count (some .int) 75 1 from ⟨rfl, (by decide +kernel : decode cX11_count 75 = .ok (.ireturn, 1))⟩) (fa5 (show endOK cX11_count (some .int) 77 1 from ⟨rfl, (by decide +kernel : decode cX11_count 77 = .ok (.ireturn, 1))⟩) (fn5)))))))⟩
set_option maxRecDepth 100000 in
theorem s_93_0 (hC : SndC g HB l MM call) : Snd g HB l call cX11_differentWords 5 yX11_differentWords.cls yX11_differentWords.name 0 (lf (q_push (.inl 0) 1)) := lf_ok (p_iconst (by decide +kernel : decode cX11_differentWords 0 = .ok (.iconst 0, 1)) (by decide +kernel) rfl)
set_option maxRecDepth 100000 in
theorem s_93_1 (hC : SndC g HB l MM call) : Snd g HB l call cX11_differentWords 5 yX11_differentWords.cls yX11_differentWords.name 1 (lf (q_store isI up1 0 1 5 2)) := lf_ok (p_istore_n (by decide +kernel : decode cX11_differentWords 1 = .ok (.istore_n 1, 1)) rfl rfl)
set_option maxRecDepth 100000 in
theorem s_93_2 (hC : SndC g HB l MM call) : Snd g HB l call cX11_differentWords 5 yX11_differentWords.cls yX11_differentWords.name 2 (lf (q_load isR 0 3)) := lf_ok (p_aload_n (by decide +kernel : decode cX11_differentWords 2 = .ok (.aload_n 0, 1)) rfl rfl)
set_option maxRecDepth 100000 in
theorem s_93_3 (hC : SndC g HB l MM call) : Snd g HB l call cX11_differentWords 5 yX11_differentWords.cls yX11_differentWords.name 3 (s_get 9 3 6) := h_get (k := 3) (C := RX11) (T := TX11) (N := 17) (ci := 9) rfl (by decide) (tin 2 98 (by decide +kernel) rfl)  (by decide +kernel : decode cX11_differentWords 3 = .ok (.getfield 27, 3)) rfl
set_option maxRecDepth 100000 in
theorem s_93_6 (hC : SndC g HB l MM call) : Snd g HB l call cX11_differentWords 5 yX11_differentWords.cls yX11_differentWords.name 6 (s_cV 1 94 0 20 9) := c_V (C := RX0) (T := TX0) (N := 7) (ci := 1) rfl hC (M := MM) (id := 94) (d := D_94) rfl mok_94 rfl rfl (tin 3 62 (by decide +kernel) rfl) (tin 3 63 (by decide +kernel) rfl) (tin 3 64 (by decide +kernel) rfl) (tin 1 3 (by decide +kernel) rfl) (by decide +kernel : decode cX11_differentWords 6 = .ok (.invokevirtual 261, 3)) rfl
set_option maxRecDepth 100000 in
theorem s_93_9 (hC : SndC g HB l MM call) : Snd g HB l call cX11_differentWords 5 yX11_differentWords.cls yX11_differentWords.name 9 (lf (q_push (.inl 0) 10)) := lf_ok (p_iconst (by decide +kernel : decode cX11_differentWords 9 = .ok (.iconst 0, 1)) (by decide +kernel) rfl)
set_option maxRecDepth 100000 in
theorem s_93_10 (hC : SndC g HB l MM call) : Snd g HB l call cX11_differentWords 5 yX11_differentWords.cls yX11_differentWords.name 10 (lf (q_store isI up1 0 2 5 11)) := lf_ok (p_istore_n (by decide +kernel : decode cX11_differentWords 10 = .ok (.istore_n 2, 1)) rfl rfl)
set_option maxRecDepth 100000 in
theorem s_93_11 (hC : SndC g HB l MM call) : Snd g HB l call cX11_differentWords 5 yX11_differentWords.cls yX11_differentWords.name 11 (lf (q_load isI 2 12)) := lf_ok (p_iload_n (by decide +kernel : decode cX11_differentWords 11 = .ok (.iload_n 2, 1)) rfl rfl)
set_option maxRecDepth 100000 in
theorem s_93_12 (hC : SndC g HB l MM call) : Snd g HB l call cX11_differentWords 5 yX11_differentWords.cls yX11_differentWords.name 12 (lf (q_load isR 0 13)) := lf_ok (p_aload_n (by decide +kernel : decode cX11_differentWords 12 = .ok (.aload_n 0, 1)) rfl rfl)
set_option maxRecDepth 100000 in
theorem s_93_13 (hC : SndC g HB l MM call) : Snd g HB l call cX11_differentWords 5 yX11_differentWords.cls yX11_differentWords.name 13 (s_get 9 6 16) := h_get (k := 6) (C := RX11) (T := TX11) (N := 17) (ci := 9) rfl (by decide) (tin 2 101 (by decide +kernel) rfl)  (by decide +kernel : decode cX11_differentWords 13 = .ok (.getfield 40, 3)) rfl
set_option maxRecDepth 100000 in
theorem s_93_16 (hC : SndC g HB l MM call) : Snd g HB l call cX11_differentWords 5 yX11_differentWords.cls yX11_differentWords.name 16 (s_cV 0 22 0 20 19) := c_V (C := RJx4a65c) (T := TJx4a65c) (N := 3) (ci := 0) rfl hC (M := MM) (id := 22) (d := D_22) rfl mok_22 rfl rfl (tin 2 233 (by decide +kernel) rfl) (tin 2 188 (by decide +kernel) rfl) (tin 2 189 (by decide +kernel) rfl) (tin 1 6 (by decide +kernel) rfl) (by decide +kernel : decode cX11_differentWords 16 = .ok (.invokevirtual 93, 3)) rfl
set_option maxRecDepth 100000 in
theorem s_93_19 (hC : SndC g HB l MM call) : Snd g HB l call cX11_differentWords 5 yX11_differentWords.cls yX11_differentWords.name 19 (s_br2 3 81 22) := b_ige (by decide +kernel : decode cX11_differentWords 19 = .ok (.if_icmp .ge 62, 3)) (by decide) rfl
set_option maxRecDepth 100000 in
theorem s_93_81 (hC : SndC g HB l MM call) : Snd g HB l call cX11_differentWords 5 yX11_differentWords.cls yX11_differentWords.name 81 (lf (q_load isI 1 82)) := lf_ok (p_iload_n (by decide +kernel : decode cX11_differentWords 81 = .ok (.iload_n 1, 1)) rfl rfl)
set_option maxRecDepth 100000 in
theorem ok_93 (hex : HB.size = g.1) (hC : SndC g HB l MM call) : ∀ x ∈ P_93, Snd g HB l call cX11_differentWords 5 yX11_differentWords.cls yX11_differentWords.name x.1 x.2 := fa5 (s_93_0 hC) (fa5 (s_93_1 hC) (fa5 (s_93_2 hC) (fa5 (s_93_3 hC) (fa5 (s_93_6 hC) (fa5 (s_93_9 hC) (fa5 (s_93_10 hC) (fa5 (s_93_11 hC) (fa5 (s_93_12 hC) (fa5 (s_93_13 hC) (fa5 (s_93_16 hC) (fa5 (s_93_19 hC) (fa5 (s_93_81 hC) (fn5)))))))))))))
set_option maxRecDepth 100000 in
theorem ms_93 (hex : HB.size = g.1) : MSnd g HB l MM D_93 := ⟨by decide +kernel, fun _ hC => ok_93 hex hC, fa5 (show endOK cX11_differentWords (some .int) 82 1 from ⟨rfl, (by decide +kernel : decode cX11_differentWords 82 = .ok (.ireturn, 1))⟩) (fn5)⟩
set_option maxRecDepth 100000 in
theorem s_94_0 (hC : SndC g HB l MM call) : Snd g HB l call cX0_startRound 1 yX0_startRound.cls yX0_startRound.name 0 (lf (q_load isR 0 1)) := lf_ok (p_aload_n (by decide +kernel : decode cX0_startRound 0 = .ok (.aload_n 0, 1)) rfl rfl)
set_option maxRecDepth 100000 in
theorem s_94_1 (hC : SndC g HB l MM call) : Snd g HB l call cX0_startRound 1 yX0_startRound.cls yX0_startRound.name 1 (lf (q_dup 2)) := lf_ok (p_dup (by decide +kernel : decode cX0_startRound 1 = .ok (.dup, 1)) rfl)
set_option maxRecDepth 100000 in
theorem s_94_2 (hC : SndC g HB l MM call) : Snd g HB l call cX0_startRound 1 yX0_startRound.cls yX0_startRound.name 2 (s_get 1 6 5) := h_get (k := 6) (C := RX0) (T := TX0) (N := 7) (ci := 1) rfl (by decide) (tin 1 66 (by decide +kernel) rfl)  (by decide +kernel : decode cX0_startRound 2 = .ok (.getfield 65, 3)) rfl
set_option maxRecDepth 100000 in
theorem s_94_5 (hC : SndC g HB l MM call) : Snd g HB l call cX0_startRound 1 yX0_startRound.cls yX0_startRound.name 5 (lf (q_push (.inl 1) 6)) := lf_ok (p_iconst (by decide +kernel : decode cX0_startRound 5 = .ok (.iconst 1, 1)) (by decide +kernel) rfl)
set_option maxRecDepth 100000 in
theorem s_94_6 (hC : SndC g HB l MM call) : Snd g HB l call cX0_startRound 1 yX0_startRound.cls yX0_startRound.name 6 (lf (q_bin (iop2 (fun x y => x + y)) 7)) := lf_ok (p_iadd (by decide +kernel : decode cX0_startRound 6 = .ok (.iadd, 1)) rfl)
set_option maxRecDepth 100000 in
theorem s_94_7 (hC : SndC g HB l MM call) : Snd g HB l call cX0_startRound 1 yX0_startRound.cls yX0_startRound.name 7 (s_put 1 6 0 10) := h_put (k := 6) (C := RX0) (T := TX0) (N := 7) (ci := 1) rfl (by decide) rfl rfl (tin 1 66 (by decide +kernel) rfl)  (by decide +kernel : decode cX0_startRound 7 = .ok (.putfield 65, 3)) rfl
set_option maxRecDepth 100000 in
theorem ok_94 (hex : HB.size = g.1) (hC : SndC g HB l MM call) : ∀ x ∈ P_94, Snd g HB l call cX0_startRound 1 yX0_startRound.cls yX0_startRound.name x.1 x.2 := fa5 (s_94_0 hC) (fa5 (s_94_1 hC) (fa5 (s_94_2 hC) (fa5 (s_94_5 hC) (fa5 (s_94_6 hC) (fa5 (s_94_7 hC) (fn5))))))
set_option maxRecDepth 100000 in
theorem ms_94 (hex : HB.size = g.1) : MSnd g HB l MM D_94 := ⟨by decide +kernel, fun _ hC => ok_94 hex hC, fa5 (show endOK cX0_startRound none 10 0 from ⟨rfl, (by decide +kernel : decode cX0_startRound 10 = .ok (.return_, 1))⟩) (fn5)⟩
set_option maxRecDepth 100000 in
theorem s_95_0 (hC : SndC g HB l MM call) : Snd g HB l call cX11_differentTags 5 yX11_differentTags.cls yX11_differentTags.name 0 (lf (q_push (.inl 0) 1)) := lf_ok (p_iconst (by decide +kernel : decode cX11_differentTags 0 = .ok (.iconst 0, 1)) (by decide +kernel) rfl)
set_option maxRecDepth 100000 in
theorem s_95_1 (hC : SndC g HB l MM call) : Snd g HB l call cX11_differentTags 5 yX11_differentTags.cls yX11_differentTags.name 1 (lf (q_store isI up1 0 1 5 2)) := lf_ok (p_istore_n (by decide +kernel : decode cX11_differentTags 1 = .ok (.istore_n 1, 1)) rfl rfl)
set_option maxRecDepth 100000 in
theorem s_95_2 (hC : SndC g HB l MM call) : Snd g HB l call cX11_differentTags 5 yX11_differentTags.cls yX11_differentTags.name 2 (lf (q_load isR 0 3)) := lf_ok (p_aload_n (by decide +kernel : decode cX11_differentTags 2 = .ok (.aload_n 0, 1)) rfl rfl)
set_option maxRecDepth 100000 in
theorem s_95_3 (hC : SndC g HB l MM call) : Snd g HB l call cX11_differentTags 5 yX11_differentTags.cls yX11_differentTags.name 3 (s_get 9 5 6) := h_get (k := 5) (C := RX11) (T := TX11) (N := 17) (ci := 9) rfl (by decide) (tin 2 100 (by decide +kernel) rfl)  (by decide +kernel : decode cX11_differentTags 3 = .ok (.getfield 34, 3)) rfl
set_option maxRecDepth 100000 in
theorem s_95_6 (hC : SndC g HB l MM call) : Snd g HB l call cX11_differentTags 5 yX11_differentTags.cls yX11_differentTags.name 6 (s_cV 1 94 0 20 9) := c_V (C := RX0) (T := TX0) (N := 7) (ci := 1) rfl hC (M := MM) (id := 94) (d := D_94) rfl mok_94 rfl rfl (tin 3 62 (by decide +kernel) rfl) (tin 3 63 (by decide +kernel) rfl) (tin 3 64 (by decide +kernel) rfl) (tin 1 3 (by decide +kernel) rfl) (by decide +kernel : decode cX11_differentTags 6 = .ok (.invokevirtual 261, 3)) rfl
set_option maxRecDepth 100000 in
theorem s_95_9 (hC : SndC g HB l MM call) : Snd g HB l call cX11_differentTags 5 yX11_differentTags.cls yX11_differentTags.name 9 (lf (q_push (.inl 0) 10)) := lf_ok (p_iconst (by decide +kernel : decode cX11_differentTags 9 = .ok (.iconst 0, 1)) (by decide +kernel) rfl)
set_option maxRecDepth 100000 in
theorem s_95_10 (hC : SndC g HB l MM call) : Snd g HB l call cX11_differentTags 5 yX11_differentTags.cls yX11_differentTags.name 10 (lf (q_store isI up1 0 2 5 11)) := lf_ok (p_istore_n (by decide +kernel : decode cX11_differentTags 10 = .ok (.istore_n 2, 1)) rfl rfl)
set_option maxRecDepth 100000 in
theorem s_95_11 (hC : SndC g HB l MM call) : Snd g HB l call cX11_differentTags 5 yX11_differentTags.cls yX11_differentTags.name 11 (lf (q_load isI 2 12)) := lf_ok (p_iload_n (by decide +kernel : decode cX11_differentTags 11 = .ok (.iload_n 2, 1)) rfl rfl)
set_option maxRecDepth 100000 in
theorem s_95_12 (hC : SndC g HB l MM call) : Snd g HB l call cX11_differentTags 5 yX11_differentTags.cls yX11_differentTags.name 12 (lf (q_load isR 0 13)) := lf_ok (p_aload_n (by decide +kernel : decode cX11_differentTags 12 = .ok (.aload_n 0, 1)) rfl rfl)
set_option maxRecDepth 100000 in
theorem s_95_13 (hC : SndC g HB l MM call) : Snd g HB l call cX11_differentTags 5 yX11_differentTags.cls yX11_differentTags.name 13 (s_get 9 6 16) := h_get (k := 6) (C := RX11) (T := TX11) (N := 17) (ci := 9) rfl (by decide) (tin 2 101 (by decide +kernel) rfl)  (by decide +kernel : decode cX11_differentTags 13 = .ok (.getfield 40, 3)) rfl
set_option maxRecDepth 100000 in
theorem s_95_16 (hC : SndC g HB l MM call) : Snd g HB l call cX11_differentTags 5 yX11_differentTags.cls yX11_differentTags.name 16 (s_cV 0 22 0 20 19) := c_V (C := RJx4a65c) (T := TJx4a65c) (N := 3) (ci := 0) rfl hC (M := MM) (id := 22) (d := D_22) rfl mok_22 rfl rfl (tin 2 233 (by decide +kernel) rfl) (tin 2 188 (by decide +kernel) rfl) (tin 2 189 (by decide +kernel) rfl) (tin 1 6 (by decide +kernel) rfl) (by decide +kernel : decode cX11_differentTags 16 = .ok (.invokevirtual 93, 3)) rfl
set_option maxRecDepth 100000 in
theorem s_95_19 (hC : SndC g HB l MM call) : Snd g HB l call cX11_differentTags 5 yX11_differentTags.cls yX11_differentTags.name 19 (s_br2 3 82 22) := b_ige (by decide +kernel : decode cX11_differentTags 19 = .ok (.if_icmp .ge 63, 3)) (by decide) rfl
set_option maxRecDepth 100000 in
theorem s_95_82 (hC : SndC g HB l MM call) : Snd g HB l call cX11_differentTags 5 yX11_differentTags.cls yX11_differentTags.name 82 (lf (q_load isI 1 83)) := lf_ok (p_iload_n (by decide +kernel : decode cX11_differentTags 82 = .ok (.iload_n 1, 1)) rfl rfl)
set_option maxRecDepth 100000 in
theorem ok_95 (hex : HB.size = g.1) (hC : SndC g HB l MM call) : ∀ x ∈ P_95, Snd g HB l call cX11_differentTags 5 yX11_differentTags.cls yX11_differentTags.name x.1 x.2 := fa5 (s_95_0 hC) (fa5 (s_95_1 hC) (fa5 (s_95_2 hC) (fa5 (s_95_3 hC) (fa5 (s_95_6 hC) (fa5 (s_95_9 hC) (fa5 (s_95_10 hC) (fa5 (s_95_11 hC) (fa5 (s_95_12 hC) (fa5 (s_95_13 hC) (fa5 (s_95_16 hC) (fa5 (s_95_19 hC) (fa5 (s_95_82 hC) (fn5)))))))))))))
set_option maxRecDepth 100000 in
theorem ms_95 (hex : HB.size = g.1) : MSnd g HB l MM D_95 := ⟨by decide +kernel, fun _ hC => ok_95 hex hC, fa5 (show endOK cX11_differentTags (some .int) 83 1 from ⟨rfl, (by decide +kernel : decode cX11_differentTags 83 = .ok (.ireturn, 1))⟩) (fn5)⟩
set_option maxRecDepth 100000 in
theorem s_96_0 (hC : SndC g HB l MM call) : Snd g HB l call cX12_feed 8 yX12_feed.cls yX12_feed.name 0 (lf (q_load isR 0 1)) := lf_ok (p_aload_n (by decide +kernel : decode cX12_feed 0 = .ok (.aload_n 0, 1)) rfl rfl)
set_option maxRecDepth 100000 in
theorem s_96_1 (hC : SndC g HB l MM call) : Snd g HB l call cX12_feed 8 yX12_feed.cls yX12_feed.name 1 (lf (q_push (.inl 0) 2)) := lf_ok (p_iconst (by decide +kernel : decode cX12_feed 1 = .ok (.iconst 0, 1)) (by decide +kernel) rfl)
set_option maxRecDepth 100000 in
theorem s_96_2 (hC : SndC g HB l MM call) : Snd g HB l call cX12_feed 8 yX12_feed.cls yX12_feed.name 2 (s_put 10 0 0 5) := h_put (k := 0) (C := RX12) (T := TX12) (N := 70) (ci := 10) rfl (by decide) rfl rfl (tin 6 162 (by decide +kernel) rfl)  (by decide +kernel : decode cX12_feed 2 = .ok (.putfield 154, 3)) rfl
set_option maxRecDepth 100000 in
theorem s_96_5 (hC : SndC g HB l MM call) : Snd g HB l call cX12_feed 8 yX12_feed.cls yX12_feed.name 5 (lf (q_push (.inl 0) 6)) := lf_ok (p_iconst (by decide +kernel : decode cX12_feed 5 = .ok (.iconst 0, 1)) (by decide +kernel) rfl)
set_option maxRecDepth 100000 in
theorem s_96_6 (hC : SndC g HB l MM call) : Snd g HB l call cX12_feed 8 yX12_feed.cls yX12_feed.name 6 (lf (q_store isI up1 0 6 8 8)) := lf_ok (p_istore (by decide +kernel : decode cX12_feed 6 = .ok (.istore 6, 2)) rfl)
set_option maxRecDepth 100000 in
theorem s_96_8 (hC : SndC g HB l MM call) : Snd g HB l call cX12_feed 8 yX12_feed.cls yX12_feed.name 8 (lf (q_load isI 6 10)) := lf_ok (p_iload (by decide +kernel : decode cX12_feed 8 = .ok (.iload 6, 2)) rfl)
set_option maxRecDepth 100000 in
theorem s_96_10 (hC : SndC g HB l MM call) : Snd g HB l call cX12_feed 8 yX12_feed.cls yX12_feed.name 10 (lf (q_push (.inl 20) 12)) := lf_ok (p_bipush (by decide +kernel : decode cX12_feed 10 = .ok (.bipush 20, 2)) (by decide +kernel) rfl)
set_option maxRecDepth 100000 in
theorem s_96_12 (hC : SndC g HB l MM call) : Snd g HB l call cX12_feed 8 yX12_feed.cls yX12_feed.name 12 (s_br2 3 90 15) := b_ige (by decide +kernel : decode cX12_feed 12 = .ok (.if_icmp .ge 78, 3)) (by decide) rfl
set_option maxRecDepth 100000 in
theorem s_96_15 (hC : SndC g HB l MM call) : Snd g HB l call cX12_feed 8 yX12_feed.cls yX12_feed.name 15 (lf (q_load isI 6 17)) := lf_ok (p_iload (by decide +kernel : decode cX12_feed 15 = .ok (.iload 6, 2)) rfl)
set_option maxRecDepth 100000 in
theorem s_96_17 (hC : SndC g HB l MM call) : Snd g HB l call cX12_feed 8 yX12_feed.cls yX12_feed.name 17 (lf (q_push (.inl 4) 18)) := lf_ok (p_iconst (by decide +kernel : decode cX12_feed 17 = .ok (.iconst 4, 1)) (by decide +kernel) rfl)
set_option maxRecDepth 100000 in
theorem s_96_18 (hC : SndC g HB l MM call) : Snd g HB l call cX12_feed 8 yX12_feed.cls yX12_feed.name 18 (s_br2 3 25 21) := b_ige (by decide +kernel : decode cX12_feed 18 = .ok (.if_icmp .ge 7, 3)) (by decide) rfl
set_option maxRecDepth 100000 in
theorem s_96_21 (hC : SndC g HB l MM call) : Snd g HB l call cX12_feed 8 yX12_feed.cls yX12_feed.name 21 (lf (q_load isI 1 22)) := lf_ok (p_iload_n (by decide +kernel : decode cX12_feed 21 = .ok (.iload_n 1, 1)) rfl rfl)
set_option maxRecDepth 100000 in
theorem s_96_22 (hC : SndC g HB l MM call) : Snd g HB l call cX12_feed 8 yX12_feed.cls yX12_feed.name 22 (lf (q_goto 61)) := lf_ok (p_goto (by decide +kernel : decode cX12_feed 22 = .ok (.goto 39, 3)) (by decide))
set_option maxRecDepth 100000 in
theorem s_96_25 (hC : SndC g HB l MM call) : Snd g HB l call cX12_feed 8 yX12_feed.cls yX12_feed.name 25 (lf (q_load isI 6 27)) := lf_ok (p_iload (by decide +kernel : decode cX12_feed 25 = .ok (.iload 6, 2)) rfl)
set_option maxRecDepth 100000 in
theorem s_96_27 (hC : SndC g HB l MM call) : Snd g HB l call cX12_feed 8 yX12_feed.cls yX12_feed.name 27 (lf (q_push (.inl 8) 29)) := lf_ok (p_bipush (by decide +kernel : decode cX12_feed 27 = .ok (.bipush 8, 2)) (by decide +kernel) rfl)
set_option maxRecDepth 100000 in
theorem s_96_29 (hC : SndC g HB l MM call) : Snd g HB l call cX12_feed 8 yX12_feed.cls yX12_feed.name 29 (s_br2 3 36 32) := b_ige (by decide +kernel : decode cX12_feed 29 = .ok (.if_icmp .ge 7, 3)) (by decide) rfl
set_option maxRecDepth 100000 in
theorem s_96_32 (hC : SndC g HB l MM call) : Snd g HB l call cX12_feed 8 yX12_feed.cls yX12_feed.name 32 (lf (q_load isI 2 33)) := lf_ok (p_iload_n (by decide +kernel : decode cX12_feed 32 = .ok (.iload_n 2, 1)) rfl rfl)
set_option maxRecDepth 100000 in
theorem s_96_33 (hC : SndC g HB l MM call) : Snd g HB l call cX12_feed 8 yX12_feed.cls yX12_feed.name 33 (lf (q_goto 61)) := lf_ok (p_goto (by decide +kernel : decode cX12_feed 33 = .ok (.goto 28, 3)) (by decide))
set_option maxRecDepth 100000 in
theorem s_96_36 (hC : SndC g HB l MM call) : Snd g HB l call cX12_feed 8 yX12_feed.cls yX12_feed.name 36 (lf (q_load isI 6 38)) := lf_ok (p_iload (by decide +kernel : decode cX12_feed 36 = .ok (.iload 6, 2)) rfl)
set_option maxRecDepth 100000 in
theorem s_96_38 (hC : SndC g HB l MM call) : Snd g HB l call cX12_feed 8 yX12_feed.cls yX12_feed.name 38 (lf (q_push (.inl 12) 40)) := lf_ok (p_bipush (by decide +kernel : decode cX12_feed 38 = .ok (.bipush 12, 2)) (by decide +kernel) rfl)
set_option maxRecDepth 100000 in
theorem s_96_40 (hC : SndC g HB l MM call) : Snd g HB l call cX12_feed 8 yX12_feed.cls yX12_feed.name 40 (s_br2 3 47 43) := b_ige (by decide +kernel : decode cX12_feed 40 = .ok (.if_icmp .ge 7, 3)) (by decide) rfl
set_option maxRecDepth 100000 in
theorem s_96_43 (hC : SndC g HB l MM call) : Snd g HB l call cX12_feed 8 yX12_feed.cls yX12_feed.name 43 (lf (q_load isI 3 44)) := lf_ok (p_iload_n (by decide +kernel : decode cX12_feed 43 = .ok (.iload_n 3, 1)) rfl rfl)
set_option maxRecDepth 100000 in
theorem s_96_44 (hC : SndC g HB l MM call) : Snd g HB l call cX12_feed 8 yX12_feed.cls yX12_feed.name 44 (lf (q_goto 61)) := lf_ok (p_goto (by decide +kernel : decode cX12_feed 44 = .ok (.goto 17, 3)) (by decide))
set_option maxRecDepth 100000 in
theorem s_96_47 (hC : SndC g HB l MM call) : Snd g HB l call cX12_feed 8 yX12_feed.cls yX12_feed.name 47 (lf (q_load isI 6 49)) := lf_ok (p_iload (by decide +kernel : decode cX12_feed 47 = .ok (.iload 6, 2)) rfl)
set_option maxRecDepth 100000 in
theorem s_96_49 (hC : SndC g HB l MM call) : Snd g HB l call cX12_feed 8 yX12_feed.cls yX12_feed.name 49 (lf (q_push (.inl 16) 51)) := lf_ok (p_bipush (by decide +kernel : decode cX12_feed 49 = .ok (.bipush 16, 2)) (by decide +kernel) rfl)
set_option maxRecDepth 100000 in
theorem s_96_51 (hC : SndC g HB l MM call) : Snd g HB l call cX12_feed 8 yX12_feed.cls yX12_feed.name 51 (s_br2 3 59 54) := b_ige (by decide +kernel : decode cX12_feed 51 = .ok (.if_icmp .ge 8, 3)) (by decide) rfl
set_option maxRecDepth 100000 in
theorem s_96_54 (hC : SndC g HB l MM call) : Snd g HB l call cX12_feed 8 yX12_feed.cls yX12_feed.name 54 (lf (q_load isI 4 56)) := lf_ok (p_iload (by decide +kernel : decode cX12_feed 54 = .ok (.iload 4, 2)) rfl)
set_option maxRecDepth 100000 in
theorem s_96_56 (hC : SndC g HB l MM call) : Snd g HB l call cX12_feed 8 yX12_feed.cls yX12_feed.name 56 (lf (q_goto 61)) := lf_ok (p_goto (by decide +kernel : decode cX12_feed 56 = .ok (.goto 5, 3)) (by decide))
set_option maxRecDepth 100000 in
theorem s_96_59 (hC : SndC g HB l MM call) : Snd g HB l call cX12_feed 8 yX12_feed.cls yX12_feed.name 59 (lf (q_load isI 5 61)) := lf_ok (p_iload (by decide +kernel : decode cX12_feed 59 = .ok (.iload 5, 2)) rfl)
set_option maxRecDepth 100000 in
theorem s_96_61 (hC : SndC g HB l MM call) : Snd g HB l call cX12_feed 8 yX12_feed.cls yX12_feed.name 61 (lf (q_store isI up1 0 7 8 63)) := lf_ok (p_istore (by decide +kernel : decode cX12_feed 61 = .ok (.istore 7, 2)) rfl)
set_option maxRecDepth 100000 in
theorem s_96_63 (hC : SndC g HB l MM call) : Snd g HB l call cX12_feed 8 yX12_feed.cls yX12_feed.name 63 (lf (q_load isR 0 64)) := lf_ok (p_aload_n (by decide +kernel : decode cX12_feed 63 = .ok (.aload_n 0, 1)) rfl rfl)
set_option maxRecDepth 100000 in
theorem s_96_64 (hC : SndC g HB l MM call) : Snd g HB l call cX12_feed 8 yX12_feed.cls yX12_feed.name 64 (s_get 10 1 67) := h_get (k := 1) (C := RX12) (T := TX12) (N := 70) (ci := 10) rfl (by decide) (tin 6 163 (by decide +kernel) rfl)  (by decide +kernel : decode cX12_feed 64 = .ok (.getfield 7, 3)) rfl
set_option maxRecDepth 100000 in
theorem s_96_67 (hC : SndC g HB l MM call) : Snd g HB l call cX12_feed 8 yX12_feed.cls yX12_feed.name 67 (lf (q_load isI 6 69)) := lf_ok (p_iload (by decide +kernel : decode cX12_feed 67 = .ok (.iload 6, 2)) rfl)
set_option maxRecDepth 100000 in
theorem s_96_69 (hC : SndC g HB l MM call) : Snd g HB l call cX12_feed 8 yX12_feed.cls yX12_feed.name 69 (lf (q_load isI 7 71)) := lf_ok (p_iload (by decide +kernel : decode cX12_feed 69 = .ok (.iload 7, 2)) rfl)
set_option maxRecDepth 100000 in
theorem s_96_71 (hC : SndC g HB l MM call) : Snd g HB l call cX12_feed 8 yX12_feed.cls yX12_feed.name 71 (lf (q_push (.inl 24) 73)) := lf_ok (p_bipush (by decide +kernel : decode cX12_feed 71 = .ok (.bipush 24, 2)) (by decide +kernel) rfl)
set_option maxRecDepth 100000 in
theorem s_96_73 (hC : SndC g HB l MM call) : Snd g HB l call cX12_feed 8 yX12_feed.cls yX12_feed.name 73 (lf (q_push (.inl 8) 75)) := lf_ok (p_bipush (by decide +kernel : decode cX12_feed 73 = .ok (.bipush 8, 2)) (by decide +kernel) rfl)
set_option maxRecDepth 100000 in
theorem s_96_75 (hC : SndC g HB l MM call) : Snd g HB l call cX12_feed 8 yX12_feed.cls yX12_feed.name 75 (lf (q_load isI 6 77)) := lf_ok (p_iload (by decide +kernel : decode cX12_feed 75 = .ok (.iload 6, 2)) rfl)
set_option maxRecDepth 100000 in
theorem s_96_77 (hC : SndC g HB l MM call) : Snd g HB l call cX12_feed 8 yX12_feed.cls yX12_feed.name 77 (lf (q_push (.inl 4) 78)) := lf_ok (p_iconst (by decide +kernel : decode cX12_feed 77 = .ok (.iconst 4, 1)) (by decide +kernel) rfl)
set_option maxRecDepth 100000 in
theorem s_96_78 (hC : SndC g HB l MM call) : Snd g HB l call cX12_feed 8 yX12_feed.cls yX12_feed.name 78 (lf (q_bin (dop (fun x y => x - x / y * y)) 79)) := lf_ok (p_irem (by decide +kernel : decode cX12_feed 78 = .ok (.irem, 1)) rfl)
set_option maxRecDepth 100000 in
theorem s_96_79 (hC : SndC g HB l MM call) : Snd g HB l call cX12_feed 8 yX12_feed.cls yX12_feed.name 79 (lf (q_bin (iop2 (fun x y => x * y)) 80)) := lf_ok (p_imul (by decide +kernel : decode cX12_feed 79 = .ok (.imul, 1)) rfl)
set_option maxRecDepth 100000 in
theorem s_96_80 (hC : SndC g HB l MM call) : Snd g HB l call cX12_feed 8 yX12_feed.cls yX12_feed.name 80 (lf (q_bin (iop2 (fun x y => x - y)) 81)) := lf_ok (p_isub (by decide +kernel : decode cX12_feed 80 = .ok (.isub, 1)) rfl)
set_option maxRecDepth 100000 in
theorem s_96_81 (hC : SndC g HB l MM call) : Snd g HB l call cX12_feed 8 yX12_feed.cls yX12_feed.name 81 (lf (q_bin shrA 82)) := lf_ok (p_ishr (by decide +kernel : decode cX12_feed 81 = .ok (.ishr, 1)) rfl)
set_option maxRecDepth 100000 in
theorem s_96_82 (hC : SndC g HB l MM call) : Snd g HB l call cX12_feed 8 yX12_feed.cls yX12_feed.name 82 (lf (q_un i2bA 83)) := lf_ok (p_i2b (by decide +kernel : decode cX12_feed 82 = .ok (.i2b, 1)) rfl)
set_option maxRecDepth 100000 in
theorem s_96_83 (hC : SndC g HB l MM call) : Snd g HB l call cX12_feed 8 yX12_feed.cls yX12_feed.name 83 (s_ast (fun t => Nat.beq t 1 || Nat.beq t 2) cvB 84) := h_bast (by decide +kernel : decode cX12_feed 83 = .ok (.bastore, 1)) rfl
set_option maxRecDepth 100000 in
theorem s_96_84 (hC : SndC g HB l MM call) : Snd g HB l call cX12_feed 8 yX12_feed.cls yX12_feed.name 84 (lf (q_iinc 6 1 8 87)) := lf_ok (p_iinc (by decide +kernel : decode cX12_feed 84 = .ok (.iinc 6 1, 3)) rfl)
set_option maxRecDepth 100000 in
theorem s_96_87 (hC : SndC g HB l MM call) : Snd g HB l call cX12_feed 8 yX12_feed.cls yX12_feed.name 87 (lf (q_goto 8)) := lf_ok (p_goto (by decide +kernel : decode cX12_feed 87 = .ok (.goto (-79), 3)) (by decide))
set_option maxRecDepth 100000 in
theorem ok_96 (hex : HB.size = g.1) (hC : SndC g HB l MM call) : ∀ x ∈ P_96, Snd g HB l call cX12_feed 8 yX12_feed.cls yX12_feed.name x.1 x.2 := fa5 (s_96_0 hC) (fa5 (s_96_1 hC) (fa5 (s_96_2 hC) (fa5 (s_96_5 hC) (fa5 (s_96_6 hC) (fa5 (s_96_8 hC) (fa5 (s_96_10 hC) (fa5 (s_96_12 hC) (fa5 (s_96_15 hC) (fa5 (s_96_17 hC) (fa5 (s_96_18 hC) (fa5 (s_96_21 hC) (fa5 (s_96_22 hC) (fa5 (s_96_25 hC) (fa5 (s_96_27 hC) (fa5 (s_96_29 hC) (fa5 (s_96_32 hC) (fa5 (s_96_33 hC) (fa5 (s_96_36 hC) (fa5 (s_96_38 hC) (fa5 (s_96_40 hC) (fa5 (s_96_43 hC) (fa5 (s_96_44 hC) (fa5 (s_96_47 hC) (fa5 (s_96_49 hC) (fa5 (s_96_51 hC) (fa5 (s_96_54 hC) (fa5 (s_96_56 hC) (fa5 (s_96_59 hC) (fa5 (s_96_61 hC) (fa5 (s_96_63 hC) (fa5 (s_96_64 hC) (fa5 (s_96_67 hC) (fa5 (s_96_69 hC) (fa5 (s_96_71 hC) (fa5 (s_96_73 hC) (fa5 (s_96_75 hC) (fa5 (s_96_77 hC) (fa5 (s_96_78 hC) (fa5 (s_96_79 hC) (fa5 (s_96_80 hC) (fa5 (s_96_81 hC) (fa5 (s_96_82 hC) (fa5 (s_96_83 hC) (fa5 (s_96_84 hC) (fa5 (s_96_87 hC) (fn5))))))))))))))))))))))))))))))))))))))))))))))
set_option maxRecDepth 100000 in
theorem ms_96 (hex : HB.size = g.1) : MSnd g HB l MM D_96 := ⟨by decide +kernel, fun _ hC => ok_96 hex hC, fa5 (show endOK cX12_feed none 90 0 from ⟨rfl, (by decide +kernel : decode cX12_feed 90 = .ok (.return_, 1))⟩) (fn5)⟩
set_option maxRecDepth 100000 in
theorem s_97_0 (hC : SndC g HB l MM call) : Snd g HB l call cX12_end 3 yX12_end.cls yX12_end.name 0 (lf (q_load isR 0 1)) := lf_ok (p_aload_n (by decide +kernel : decode cX12_end 0 = .ok (.aload_n 0, 1)) rfl rfl)
set_option maxRecDepth 100000 in
theorem s_97_1 (hC : SndC g HB l MM call) : Snd g HB l call cX12_end 3 yX12_end.cls yX12_end.name 1 (lf (q_push (.inl 0) 2)) := lf_ok (p_iconst (by decide +kernel : decode cX12_end 1 = .ok (.iconst 0, 1)) (by decide +kernel) rfl)
set_option maxRecDepth 100000 in
theorem s_97_2 (hC : SndC g HB l MM call) : Snd g HB l call cX12_end 3 yX12_end.cls yX12_end.name 2 (s_put 10 0 0 5) := h_put (k := 0) (C := RX12) (T := TX12) (N := 70) (ci := 10) rfl (by decide) rfl rfl (tin 6 162 (by decide +kernel) rfl)  (by decide +kernel : decode cX12_end 2 = .ok (.putfield 154, 3)) rfl
set_option maxRecDepth 100000 in
theorem s_97_5 (hC : SndC g HB l MM call) : Snd g HB l call cX12_end 3 yX12_end.cls yX12_end.name 5 (lf (q_load isI 1 6)) := lf_ok (p_iload_n (by decide +kernel : decode cX12_end 5 = .ok (.iload_n 1, 1)) rfl rfl)
set_option maxRecDepth 100000 in
theorem s_97_6 (hC : SndC g HB l MM call) : Snd g HB l call cX12_end 3 yX12_end.cls yX12_end.name 6 (s_br1 2 27 9) := b_lt (by decide +kernel : decode cX12_end 6 = .ok (.ifCond .lt 21, 3)) (by decide) rfl
set_option maxRecDepth 100000 in
theorem s_97_9 (hC : SndC g HB l MM call) : Snd g HB l call cX12_end 3 yX12_end.cls yX12_end.name 9 (lf (q_load isI 1 10)) := lf_ok (p_iload_n (by decide +kernel : decode cX12_end 9 = .ok (.iload_n 1, 1)) rfl rfl)
set_option maxRecDepth 100000 in
theorem s_97_10 (hC : SndC g HB l MM call) : Snd g HB l call cX12_end 3 yX12_end.cls yX12_end.name 10 (lf (q_push (.inl 20) 12)) := lf_ok (p_bipush (by decide +kernel : decode cX12_end 10 = .ok (.bipush 20, 2)) (by decide +kernel) rfl)
set_option maxRecDepth 100000 in
theorem s_97_12 (hC : SndC g HB l MM call) : Snd g HB l call cX12_end 3 yX12_end.cls yX12_end.name 12 (s_br2 4 27 15) := b_igt (by decide +kernel : decode cX12_end 12 = .ok (.if_icmp .gt 15, 3)) (by decide) rfl
set_option maxRecDepth 100000 in
theorem s_97_15 (hC : SndC g HB l MM call) : Snd g HB l call cX12_end 3 yX12_end.cls yX12_end.name 15 (lf (q_load isR 0 16)) := lf_ok (p_aload_n (by decide +kernel : decode cX12_end 15 = .ok (.aload_n 0, 1)) rfl rfl)
set_option maxRecDepth 100000 in
theorem s_97_16 (hC : SndC g HB l MM call) : Snd g HB l call cX12_end 3 yX12_end.cls yX12_end.name 16 (s_get 10 3 19) := h_get (k := 3) (C := RX12) (T := TX12) (N := 70) (ci := 10) rfl (by decide) (tin 6 165 (by decide +kernel) rfl)  (by decide +kernel : decode cX12_end 16 = .ok (.getfield 496, 3)) rfl
set_option maxRecDepth 100000 in
theorem s_97_19 (hC : SndC g HB l MM call) : Snd g HB l call cX12_end 3 yX12_end.cls yX12_end.name 19 (lf (q_load isI 1 20)) := lf_ok (p_iload_n (by decide +kernel : decode cX12_end 19 = .ok (.iload_n 1, 1)) rfl rfl)
set_option maxRecDepth 100000 in
theorem s_97_20 (hC : SndC g HB l MM call) : Snd g HB l call cX12_end 3 yX12_end.cls yX12_end.name 20 (lf (q_bin (iop2 (fun x y => x + y)) 21)) := lf_ok (p_iadd (by decide +kernel : decode cX12_end 20 = .ok (.iadd, 1)) rfl)
set_option maxRecDepth 100000 in
theorem s_97_21 (hC : SndC g HB l MM call) : Snd g HB l call cX12_end 3 yX12_end.cls yX12_end.name 21 (lf (q_push (.inl 1200) 24)) := lf_ok (p_sipush (by decide +kernel : decode cX12_end 21 = .ok (.sipush 1200, 3)) (by decide +kernel) rfl)
set_option maxRecDepth 100000 in
theorem s_97_24 (hC : SndC g HB l MM call) : Snd g HB l call cX12_end 3 yX12_end.cls yX12_end.name 24 (s_br2 5 29 27) := b_ile (by decide +kernel : decode cX12_end 24 = .ok (.if_icmp .le 5, 3)) (by decide) rfl
set_option maxRecDepth 100000 in
theorem s_97_27 (hC : SndC g HB l MM call) : Snd g HB l call cX12_end 3 yX12_end.cls yX12_end.name 27 (lf (q_push (.inl 4294967295) 28)) := lf_ok (p_iconst (by decide +kernel : decode cX12_end 27 = .ok (.iconst (-1), 1)) (by decide +kernel) rfl)
set_option maxRecDepth 100000 in
theorem s_97_29 (hC : SndC g HB l MM call) : Snd g HB l call cX12_end 3 yX12_end.cls yX12_end.name 29 (lf (q_push (.inl 0) 30)) := lf_ok (p_iconst (by decide +kernel : decode cX12_end 29 = .ok (.iconst 0, 1)) (by decide +kernel) rfl)
set_option maxRecDepth 100000 in
theorem s_97_30 (hC : SndC g HB l MM call) : Snd g HB l call cX12_end 3 yX12_end.cls yX12_end.name 30 (lf (q_store isI up1 0 2 3 31)) := lf_ok (p_istore_n (by decide +kernel : decode cX12_end 30 = .ok (.istore_n 2, 1)) rfl rfl)
set_option maxRecDepth 100000 in
theorem s_97_31 (hC : SndC g HB l MM call) : Snd g HB l call cX12_end 3 yX12_end.cls yX12_end.name 31 (lf (q_load isI 2 32)) := lf_ok (p_iload_n (by decide +kernel : decode cX12_end 31 = .ok (.iload_n 2, 1)) rfl rfl)
set_option maxRecDepth 100000 in
theorem s_97_32 (hC : SndC g HB l MM call) : Snd g HB l call cX12_end 3 yX12_end.cls yX12_end.name 32 (lf (q_load isI 1 33)) := lf_ok (p_iload_n (by decide +kernel : decode cX12_end 32 = .ok (.iload_n 1, 1)) rfl rfl)
set_option maxRecDepth 100000 in
theorem s_97_33 (hC : SndC g HB l MM call) : Snd g HB l call cX12_end 3 yX12_end.cls yX12_end.name 33 (s_br2 3 59 36) := b_ige (by decide +kernel : decode cX12_end 33 = .ok (.if_icmp .ge 26, 3)) (by decide) rfl
set_option maxRecDepth 100000 in
theorem s_97_36 (hC : SndC g HB l MM call) : Snd g HB l call cX12_end 3 yX12_end.cls yX12_end.name 36 (lf (q_load isR 0 37)) := lf_ok (p_aload_n (by decide +kernel : decode cX12_end 36 = .ok (.aload_n 0, 1)) rfl rfl)
set_option maxRecDepth 100000 in
theorem s_97_37 (hC : SndC g HB l MM call) : Snd g HB l call cX12_end 3 yX12_end.cls yX12_end.name 37 (s_get 10 2 40) := h_get (k := 2) (C := RX12) (T := TX12) (N := 70) (ci := 10) rfl (by decide) (tin 6 164 (by decide +kernel) rfl)  (by decide +kernel : decode cX12_end 37 = .ok (.getfield 13, 3)) rfl
set_option maxRecDepth 100000 in
theorem s_97_40 (hC : SndC g HB l MM call) : Snd g HB l call cX12_end 3 yX12_end.cls yX12_end.name 40 (lf (q_load isR 0 41)) := lf_ok (p_aload_n (by decide +kernel : decode cX12_end 40 = .ok (.aload_n 0, 1)) rfl rfl)
set_option maxRecDepth 100000 in
theorem s_97_41 (hC : SndC g HB l MM call) : Snd g HB l call cX12_end 3 yX12_end.cls yX12_end.name 41 (s_get 10 3 44) := h_get (k := 3) (C := RX12) (T := TX12) (N := 70) (ci := 10) rfl (by decide) (tin 6 165 (by decide +kernel) rfl)  (by decide +kernel : decode cX12_end 41 = .ok (.getfield 496, 3)) rfl
set_option maxRecDepth 100000 in
theorem s_97_44 (hC : SndC g HB l MM call) : Snd g HB l call cX12_end 3 yX12_end.cls yX12_end.name 44 (lf (q_load isI 2 45)) := lf_ok (p_iload_n (by decide +kernel : decode cX12_end 44 = .ok (.iload_n 2, 1)) rfl rfl)
set_option maxRecDepth 100000 in
theorem s_97_45 (hC : SndC g HB l MM call) : Snd g HB l call cX12_end 3 yX12_end.cls yX12_end.name 45 (lf (q_bin (iop2 (fun x y => x + y)) 46)) := lf_ok (p_iadd (by decide +kernel : decode cX12_end 45 = .ok (.iadd, 1)) rfl)
set_option maxRecDepth 100000 in
theorem s_97_46 (hC : SndC g HB l MM call) : Snd g HB l call cX12_end 3 yX12_end.cls yX12_end.name 46 (lf (q_load isR 0 47)) := lf_ok (p_aload_n (by decide +kernel : decode cX12_end 46 = .ok (.aload_n 0, 1)) rfl rfl)
set_option maxRecDepth 100000 in
theorem s_97_47 (hC : SndC g HB l MM call) : Snd g HB l call cX12_end 3 yX12_end.cls yX12_end.name 47 (s_get 10 1 50) := h_get (k := 1) (C := RX12) (T := TX12) (N := 70) (ci := 10) rfl (by decide) (tin 6 163 (by decide +kernel) rfl)  (by decide +kernel : decode cX12_end 47 = .ok (.getfield 7, 3)) rfl
set_option maxRecDepth 100000 in
theorem s_97_50 (hC : SndC g HB l MM call) : Snd g HB l call cX12_end 3 yX12_end.cls yX12_end.name 50 (lf (q_load isI 2 51)) := lf_ok (p_iload_n (by decide +kernel : decode cX12_end 50 = .ok (.iload_n 2, 1)) rfl rfl)
set_option maxRecDepth 100000 in
theorem s_97_51 (hC : SndC g HB l MM call) : Snd g HB l call cX12_end 3 yX12_end.cls yX12_end.name 51 (s_ald (fun t => Nat.beq t 1 || Nat.beq t 2) isI (.inl 0) 52) := h_bald (by decide +kernel : decode cX12_end 51 = .ok (.baload, 1)) rfl
set_option maxRecDepth 100000 in
theorem s_97_52 (hC : SndC g HB l MM call) : Snd g HB l call cX12_end 3 yX12_end.cls yX12_end.name 52 (s_ast (fun t => Nat.beq t 1 || Nat.beq t 2) cvB 53) := h_bast (by decide +kernel : decode cX12_end 52 = .ok (.bastore, 1)) rfl
set_option maxRecDepth 100000 in
theorem s_97_53 (hC : SndC g HB l MM call) : Snd g HB l call cX12_end 3 yX12_end.cls yX12_end.name 53 (lf (q_iinc 2 1 3 56)) := lf_ok (p_iinc (by decide +kernel : decode cX12_end 53 = .ok (.iinc 2 1, 3)) rfl)
set_option maxRecDepth 100000 in
theorem s_97_56 (hC : SndC g HB l MM call) : Snd g HB l call cX12_end 3 yX12_end.cls yX12_end.name 56 (lf (q_goto 31)) := lf_ok (p_goto (by decide +kernel : decode cX12_end 56 = .ok (.goto (-25), 3)) (by decide))
set_option maxRecDepth 100000 in
theorem s_97_59 (hC : SndC g HB l MM call) : Snd g HB l call cX12_end 3 yX12_end.cls yX12_end.name 59 (lf (q_load isR 0 60)) := lf_ok (p_aload_n (by decide +kernel : decode cX12_end 59 = .ok (.aload_n 0, 1)) rfl rfl)
set_option maxRecDepth 100000 in
theorem s_97_60 (hC : SndC g HB l MM call) : Snd g HB l call cX12_end 3 yX12_end.cls yX12_end.name 60 (lf (q_dup 61)) := lf_ok (p_dup (by decide +kernel : decode cX12_end 60 = .ok (.dup, 1)) rfl)
set_option maxRecDepth 100000 in
theorem s_97_61 (hC : SndC g HB l MM call) : Snd g HB l call cX12_end 3 yX12_end.cls yX12_end.name 61 (s_get 10 3 64) := h_get (k := 3) (C := RX12) (T := TX12) (N := 70) (ci := 10) rfl (by decide) (tin 6 165 (by decide +kernel) rfl)  (by decide +kernel : decode cX12_end 61 = .ok (.getfield 496, 3)) rfl
set_option maxRecDepth 100000 in
theorem s_97_64 (hC : SndC g HB l MM call) : Snd g HB l call cX12_end 3 yX12_end.cls yX12_end.name 64 (lf (q_load isI 1 65)) := lf_ok (p_iload_n (by decide +kernel : decode cX12_end 64 = .ok (.iload_n 1, 1)) rfl rfl)
set_option maxRecDepth 100000 in
theorem s_97_65 (hC : SndC g HB l MM call) : Snd g HB l call cX12_end 3 yX12_end.cls yX12_end.name 65 (lf (q_bin (iop2 (fun x y => x + y)) 66)) := lf_ok (p_iadd (by decide +kernel : decode cX12_end 65 = .ok (.iadd, 1)) rfl)
set_option maxRecDepth 100000 in
theorem s_97_66 (hC : SndC g HB l MM call) : Snd g HB l call cX12_end 3 yX12_end.cls yX12_end.name 66 (s_put 10 3 0 69) := h_put (k := 3) (C := RX12) (T := TX12) (N := 70) (ci := 10) rfl (by decide) rfl rfl (tin 6 165 (by decide +kernel) rfl)  (by decide +kernel : decode cX12_end 66 = .ok (.putfield 496, 3)) rfl
set_option maxRecDepth 100000 in
theorem s_97_69 (hC : SndC g HB l MM call) : Snd g HB l call cX12_end 3 yX12_end.cls yX12_end.name 69 (lf (q_push (.inl 0) 70)) := lf_ok (p_iconst (by decide +kernel : decode cX12_end 69 = .ok (.iconst 0, 1)) (by decide +kernel) rfl)
set_option maxRecDepth 100000 in
theorem s_97_70 (hC : SndC g HB l MM call) : Snd g HB l call cX12_end 3 yX12_end.cls yX12_end.name 70 (lf (q_store isI up1 0 2 3 71)) := lf_ok (p_istore_n (by decide +kernel : decode cX12_end 70 = .ok (.istore_n 2, 1)) rfl rfl)
set_option maxRecDepth 100000 in
theorem s_97_71 (hC : SndC g HB l MM call) : Snd g HB l call cX12_end 3 yX12_end.cls yX12_end.name 71 (lf (q_load isI 2 72)) := lf_ok (p_iload_n (by decide +kernel : decode cX12_end 71 = .ok (.iload_n 2, 1)) rfl rfl)
set_option maxRecDepth 100000 in
theorem s_97_72 (hC : SndC g HB l MM call) : Snd g HB l call cX12_end 3 yX12_end.cls yX12_end.name 72 (lf (q_push (.inl 20) 74)) := lf_ok (p_bipush (by decide +kernel : decode cX12_end 72 = .ok (.bipush 20, 2)) (by decide +kernel) rfl)
set_option maxRecDepth 100000 in
theorem s_97_74 (hC : SndC g HB l MM call) : Snd g HB l call cX12_end 3 yX12_end.cls yX12_end.name 74 (s_br2 3 90 77) := b_ige (by decide +kernel : decode cX12_end 74 = .ok (.if_icmp .ge 16, 3)) (by decide) rfl
set_option maxRecDepth 100000 in
theorem s_97_77 (hC : SndC g HB l MM call) : Snd g HB l call cX12_end 3 yX12_end.cls yX12_end.name 77 (lf (q_load isR 0 78)) := lf_ok (p_aload_n (by decide +kernel : decode cX12_end 77 = .ok (.aload_n 0, 1)) rfl rfl)
set_option maxRecDepth 100000 in
theorem s_97_78 (hC : SndC g HB l MM call) : Snd g HB l call cX12_end 3 yX12_end.cls yX12_end.name 78 (s_get 10 1 81) := h_get (k := 1) (C := RX12) (T := TX12) (N := 70) (ci := 10) rfl (by decide) (tin 6 163 (by decide +kernel) rfl)  (by decide +kernel : decode cX12_end 78 = .ok (.getfield 7, 3)) rfl
set_option maxRecDepth 100000 in
theorem s_97_81 (hC : SndC g HB l MM call) : Snd g HB l call cX12_end 3 yX12_end.cls yX12_end.name 81 (lf (q_load isI 2 82)) := lf_ok (p_iload_n (by decide +kernel : decode cX12_end 81 = .ok (.iload_n 2, 1)) rfl rfl)
set_option maxRecDepth 100000 in
theorem s_97_82 (hC : SndC g HB l MM call) : Snd g HB l call cX12_end 3 yX12_end.cls yX12_end.name 82 (lf (q_push (.inl 0) 83)) := lf_ok (p_iconst (by decide +kernel : decode cX12_end 82 = .ok (.iconst 0, 1)) (by decide +kernel) rfl)
set_option maxRecDepth 100000 in
theorem s_97_83 (hC : SndC g HB l MM call) : Snd g HB l call cX12_end 3 yX12_end.cls yX12_end.name 83 (s_ast (fun t => Nat.beq t 1 || Nat.beq t 2) cvB 84) := h_bast (by decide +kernel : decode cX12_end 83 = .ok (.bastore, 1)) rfl
set_option maxRecDepth 100000 in
theorem s_97_84 (hC : SndC g HB l MM call) : Snd g HB l call cX12_end 3 yX12_end.cls yX12_end.name 84 (lf (q_iinc 2 1 3 87)) := lf_ok (p_iinc (by decide +kernel : decode cX12_end 84 = .ok (.iinc 2 1, 3)) rfl)
set_option maxRecDepth 100000 in
theorem s_97_87 (hC : SndC g HB l MM call) : Snd g HB l call cX12_end 3 yX12_end.cls yX12_end.name 87 (lf (q_goto 71)) := lf_ok (p_goto (by decide +kernel : decode cX12_end 87 = .ok (.goto (-16), 3)) (by decide))
set_option maxRecDepth 100000 in
theorem s_97_90 (hC : SndC g HB l MM call) : Snd g HB l call cX12_end 3 yX12_end.cls yX12_end.name 90 (lf (q_load isR 0 91)) := lf_ok (p_aload_n (by decide +kernel : decode cX12_end 90 = .ok (.aload_n 0, 1)) rfl rfl)
set_option maxRecDepth 100000 in
theorem s_97_91 (hC : SndC g HB l MM call) : Snd g HB l call cX12_end 3 yX12_end.cls yX12_end.name 91 (s_get 10 3 94) := h_get (k := 3) (C := RX12) (T := TX12) (N := 70) (ci := 10) rfl (by decide) (tin 6 165 (by decide +kernel) rfl)  (by decide +kernel : decode cX12_end 91 = .ok (.getfield 496, 3)) rfl
set_option maxRecDepth 100000 in
theorem ok_97 (hex : HB.size = g.1) (hC : SndC g HB l MM call) : ∀ x ∈ P_97, Snd g HB l call cX12_end 3 yX12_end.cls yX12_end.name x.1 x.2 := fa5 (s_97_0 hC) (fa5 (s_97_1 hC) (fa5 (s_97_2 hC) (fa5 (s_97_5 hC) (fa5 (s_97_6 hC) (fa5 (s_97_9 hC) (fa5 (s_97_10 hC) (fa5 (s_97_12 hC) (fa5 (s_97_15 hC) (fa5 (s_97_16 hC) (fa5 (s_97_19 hC) (fa5 (s_97_20 hC) (fa5 (s_97_21 hC) (fa5 (s_97_24 hC) (fa5 (s_97_27 hC) (fa5 (s_97_29 hC) (fa5 (s_97_30 hC) (fa5 (s_97_31 hC) (fa5 (s_97_32 hC) (fa5 (s_97_33 hC) (fa5 (s_97_36 hC) (fa5 (s_97_37 hC) (fa5 (s_97_40 hC) (fa5 (s_97_41 hC) (fa5 (s_97_44 hC) (fa5 (s_97_45 hC) (fa5 (s_97_46 hC) (fa5 (s_97_47 hC) (fa5 (s_97_50 hC) (fa5 (s_97_51 hC) (fa5 (s_97_52 hC) (fa5 (s_97_53 hC) (fa5 (s_97_56 hC) (fa5 (s_97_59 hC) (fa5 (s_97_60 hC) (fa5 (s_97_61 hC) (fa5 (s_97_64 hC) (fa5 (s_97_65 hC) (fa5 (s_97_66 hC) (fa5 (s_97_69 hC) (fa5 (s_97_70 hC) (fa5 (s_97_71 hC) (fa5 (s_97_72 hC) (fa5 (s_97_74 hC) (fa5 (s_97_77 hC) (fa5 (s_97_78 hC) (fa5 (s_97_81 hC) (fa5 (s_97_82 hC) (fa5 (s_97_83 hC) (fa5 (s_97_84 hC) (fa5 (s_97_87 hC) (fa5 (s_97_90 hC) (fa5 (s_97_91 hC) (fn5)))))))))))))))))))))))))))))))))))))))))))))))))))))
set_option maxRecDepth 100000 in
theorem ms_97 (hex : HB.size = g.1) : MSnd g HB l MM D_97 := ⟨by decide +kernel, fun _ hC => ok_97 hex hC, fa5 (show endOK cX12_end (some .int) 28 1 from ⟨rfl, (by decide +kernel : decode cX12_end 28 = .ok (.ireturn, 1))⟩) (fa5 (show endOK cX12_end (some .int) 94 1 from ⟨rfl, (by decide +kernel : decode cX12_end 94 = .ok (.ireturn, 1))⟩) (fn5))⟩
set_option maxRecDepth 100000 in
theorem s_98_0 (hC : SndC g HB l MM call) : Snd g HB l call cX12_add 3 yX12_add.cls yX12_add.name 0 (lf (q_load isR 0 1)) := lf_ok (p_aload_n (by decide +kernel : decode cX12_add 0 = .ok (.aload_n 0, 1)) rfl rfl)
set_option maxRecDepth 100000 in
theorem s_98_1 (hC : SndC g HB l MM call) : Snd g HB l call cX12_add 3 yX12_add.cls yX12_add.name 1 (lf (q_load isR 0 2)) := lf_ok (p_aload_n (by decide +kernel : decode cX12_add 1 = .ok (.aload_n 0, 1)) rfl rfl)
set_option maxRecDepth 100000 in
theorem s_98_2 (hC : SndC g HB l MM call) : Snd g HB l call cX12_add 3 yX12_add.cls yX12_add.name 2 (s_get 10 5 5) := h_get (k := 5) (C := RX12) (T := TX12) (N := 70) (ci := 10) rfl (by decide) (tin 6 167 (by decide +kernel) rfl)  (by decide +kernel : decode cX12_add 2 = .ok (.getfield 499, 3)) rfl
set_option maxRecDepth 100000 in
theorem s_98_5 (hC : SndC g HB l MM call) : Snd g HB l call cX12_add 3 yX12_add.cls yX12_add.name 5 (lf (q_push (.inl 60) 7)) := lf_ok (p_bipush (by decide +kernel : decode cX12_add 5 = .ok (.bipush 60, 2)) (by decide +kernel) rfl)
set_option maxRecDepth 100000 in
theorem s_98_7 (hC : SndC g HB l MM call) : Snd g HB l call cX12_add 3 yX12_add.cls yX12_add.name 7 (s_br2 0 20 10) := b_ieq (by decide +kernel : decode cX12_add 7 = .ok (.if_icmp .eq 13, 3)) (by decide) rfl
set_option maxRecDepth 100000 in
theorem s_98_10 (hC : SndC g HB l MM call) : Snd g HB l call cX12_add 3 yX12_add.cls yX12_add.name 10 (lf (q_load isR 0 11)) := lf_ok (p_aload_n (by decide +kernel : decode cX12_add 10 = .ok (.aload_n 0, 1)) rfl rfl)
set_option maxRecDepth 100000 in
theorem s_98_11 (hC : SndC g HB l MM call) : Snd g HB l call cX12_add 3 yX12_add.cls yX12_add.name 11 (s_get 10 4 14) := h_get (k := 4) (C := RX12) (T := TX12) (N := 70) (ci := 10) rfl (by decide) (tin 6 166 (by decide +kernel) rfl)  (by decide +kernel : decode cX12_add 11 = .ok (.getfield 382, 3)) rfl
set_option maxRecDepth 100000 in
theorem s_98_14 (hC : SndC g HB l MM call) : Snd g HB l call cX12_add 3 yX12_add.cls yX12_add.name 14 (lf (q_push (.inl 200) 17)) := lf_ok (p_sipush (by decide +kernel : decode cX12_add 14 = .ok (.sipush 200, 3)) (by decide +kernel) rfl)
set_option maxRecDepth 100000 in
theorem s_98_17 (hC : SndC g HB l MM call) : Snd g HB l call cX12_add 3 yX12_add.cls yX12_add.name 17 (s_br2 1 24 20) := b_ine (by decide +kernel : decode cX12_add 17 = .ok (.if_icmp .ne 7, 3)) (by decide) rfl
set_option maxRecDepth 100000 in
theorem s_98_24 (hC : SndC g HB l MM call) : Snd g HB l call cX12_add 3 yX12_add.cls yX12_add.name 24 (lf (q_push (.inl 0) 25)) := lf_ok (p_iconst (by decide +kernel : decode cX12_add 24 = .ok (.iconst 0, 1)) (by decide +kernel) rfl)
set_option maxRecDepth 100000 in
theorem s_98_25 (hC : SndC g HB l MM call) : Snd g HB l call cX12_add 3 yX12_add.cls yX12_add.name 25 (s_put 10 0 0 28) := h_put (k := 0) (C := RX12) (T := TX12) (N := 70) (ci := 10) rfl (by decide) rfl rfl (tin 6 162 (by decide +kernel) rfl)  (by decide +kernel : decode cX12_add 25 = .ok (.putfield 154, 3)) rfl
set_option maxRecDepth 100000 in
theorem s_98_28 (hC : SndC g HB l MM call) : Snd g HB l call cX12_add 3 yX12_add.cls yX12_add.name 28 (lf (q_load isR 0 29)) := lf_ok (p_aload_n (by decide +kernel : decode cX12_add 28 = .ok (.aload_n 0, 1)) rfl rfl)
set_option maxRecDepth 100000 in
theorem s_98_29 (hC : SndC g HB l MM call) : Snd g HB l call cX12_add 3 yX12_add.cls yX12_add.name 29 (s_get 10 0 32) := h_get (k := 0) (C := RX12) (T := TX12) (N := 70) (ci := 10) rfl (by decide) (tin 6 162 (by decide +kernel) rfl)  (by decide +kernel : decode cX12_add 29 = .ok (.getfield 154, 3)) rfl
set_option maxRecDepth 100000 in
theorem s_98_32 (hC : SndC g HB l MM call) : Snd g HB l call cX12_add 3 yX12_add.cls yX12_add.name 32 (s_br1 5 37 35) := b_le (by decide +kernel : decode cX12_add 32 = .ok (.ifCond .le 5, 3)) (by decide) rfl
set_option maxRecDepth 100000 in
theorem s_98_37 (hC : SndC g HB l MM call) : Snd g HB l call cX12_add 3 yX12_add.cls yX12_add.name 37 (lf (q_load isR 0 38)) := lf_ok (p_aload_n (by decide +kernel : decode cX12_add 37 = .ok (.aload_n 0, 1)) rfl rfl)
set_option maxRecDepth 100000 in
theorem s_98_38 (hC : SndC g HB l MM call) : Snd g HB l call cX12_add 3 yX12_add.cls yX12_add.name 38 (s_cV 10 99 0 21 41) := c_V (C := RX12) (T := TX12) (N := 70) (ci := 10) rfl hC (M := MM) (id := 99) (d := D_99) rfl mok_99 rfl rfl (tin 7 148 (by decide +kernel) rfl) (tin 7 150 (by decide +kernel) rfl) (tinP (y := mdY D_99) (n := 70) 59 (by decide +kernel)) (tin 1 12 (by decide +kernel) rfl) (by decide +kernel : decode cX12_add 38 = .ok (.invokevirtual 502, 3)) rfl
set_option maxRecDepth 100000 in
theorem s_98_41 (hC : SndC g HB l MM call) : Snd g HB l call cX12_add 3 yX12_add.cls yX12_add.name 41 (lf (q_store isI up1 0 1 3 42)) := lf_ok (p_istore_n (by decide +kernel : decode cX12_add 41 = .ok (.istore_n 1, 1)) rfl rfl)
set_option maxRecDepth 100000 in
theorem s_98_42 (hC : SndC g HB l MM call) : Snd g HB l call cX12_add 3 yX12_add.cls yX12_add.name 42 (lf (q_push (.inl 0) 43)) := lf_ok (p_iconst (by decide +kernel : decode cX12_add 42 = .ok (.iconst 0, 1)) (by decide +kernel) rfl)
set_option maxRecDepth 100000 in
theorem s_98_43 (hC : SndC g HB l MM call) : Snd g HB l call cX12_add 3 yX12_add.cls yX12_add.name 43 (lf (q_store isI up1 0 2 3 44)) := lf_ok (p_istore_n (by decide +kernel : decode cX12_add 43 = .ok (.istore_n 2, 1)) rfl rfl)
set_option maxRecDepth 100000 in
theorem s_98_44 (hC : SndC g HB l MM call) : Snd g HB l call cX12_add 3 yX12_add.cls yX12_add.name 44 (lf (q_load isI 2 45)) := lf_ok (p_iload_n (by decide +kernel : decode cX12_add 44 = .ok (.iload_n 2, 1)) rfl rfl)
set_option maxRecDepth 100000 in
theorem s_98_45 (hC : SndC g HB l MM call) : Snd g HB l call cX12_add 3 yX12_add.cls yX12_add.name 45 (lf (q_load isI 1 46)) := lf_ok (p_iload_n (by decide +kernel : decode cX12_add 45 = .ok (.iload_n 1, 1)) rfl rfl)
set_option maxRecDepth 100000 in
theorem s_98_46 (hC : SndC g HB l MM call) : Snd g HB l call cX12_add 3 yX12_add.cls yX12_add.name 46 (s_br2 3 76 49) := b_ige (by decide +kernel : decode cX12_add 46 = .ok (.if_icmp .ge 30, 3)) (by decide) rfl
set_option maxRecDepth 100000 in
theorem s_98_76 (hC : SndC g HB l MM call) : Snd g HB l call cX12_add 3 yX12_add.cls yX12_add.name 76 (lf (q_load isR 0 77)) := lf_ok (p_aload_n (by decide +kernel : decode cX12_add 76 = .ok (.aload_n 0, 1)) rfl rfl)
set_option maxRecDepth 100000 in
theorem s_98_77 (hC : SndC g HB l MM call) : Snd g HB l call cX12_add 3 yX12_add.cls yX12_add.name 77 (s_get 10 7 80) := h_get (k := 7) (C := RX12) (T := TX12) (N := 70) (ci := 10) rfl (by decide) (tin 6 169 (by decide +kernel) rfl)  (by decide +kernel : decode cX12_add 77 = .ok (.getfield 20, 3)) rfl
set_option maxRecDepth 100000 in
theorem s_98_80 (hC : SndC g HB l MM call) : Snd g HB l call cX12_add 3 yX12_add.cls yX12_add.name 80 (lf (q_load isR 0 81)) := lf_ok (p_aload_n (by decide +kernel : decode cX12_add 80 = .ok (.aload_n 0, 1)) rfl rfl)
set_option maxRecDepth 100000 in
theorem s_98_81 (hC : SndC g HB l MM call) : Snd g HB l call cX12_add 3 yX12_add.cls yX12_add.name 81 (s_get 10 4 84) := h_get (k := 4) (C := RX12) (T := TX12) (N := 70) (ci := 10) rfl (by decide) (tin 6 166 (by decide +kernel) rfl)  (by decide +kernel : decode cX12_add 81 = .ok (.getfield 382, 3)) rfl
set_option maxRecDepth 100000 in
theorem s_98_84 (hC : SndC g HB l MM call) : Snd g HB l call cX12_add 3 yX12_add.cls yX12_add.name 84 (lf (q_load isI 1 85)) := lf_ok (p_iload_n (by decide +kernel : decode cX12_add 84 = .ok (.iload_n 1, 1)) rfl rfl)
set_option maxRecDepth 100000 in
theorem s_98_85 (hC : SndC g HB l MM call) : Snd g HB l call cX12_add 3 yX12_add.cls yX12_add.name 85 (s_ast (fun t => Nat.beq t 0) cvI 86) := h_iast (by decide +kernel : decode cX12_add 85 = .ok (.iastore, 1)) rfl
set_option maxRecDepth 100000 in
theorem s_98_86 (hC : SndC g HB l MM call) : Snd g HB l call cX12_add 3 yX12_add.cls yX12_add.name 86 (lf (q_load isR 0 87)) := lf_ok (p_aload_n (by decide +kernel : decode cX12_add 86 = .ok (.aload_n 0, 1)) rfl rfl)
set_option maxRecDepth 100000 in
theorem s_98_87 (hC : SndC g HB l MM call) : Snd g HB l call cX12_add 3 yX12_add.cls yX12_add.name 87 (s_get 10 8 90) := h_get (k := 8) (C := RX12) (T := TX12) (N := 70) (ci := 10) rfl (by decide) (tin 6 170 (by decide +kernel) rfl)  (by decide +kernel : decode cX12_add 87 = .ok (.getfield 24, 3)) rfl
set_option maxRecDepth 100000 in
theorem s_98_90 (hC : SndC g HB l MM call) : Snd g HB l call cX12_add 3 yX12_add.cls yX12_add.name 90 (lf (q_load isR 0 91)) := lf_ok (p_aload_n (by decide +kernel : decode cX12_add 90 = .ok (.aload_n 0, 1)) rfl rfl)
set_option maxRecDepth 100000 in
theorem s_98_91 (hC : SndC g HB l MM call) : Snd g HB l call cX12_add 3 yX12_add.cls yX12_add.name 91 (s_get 10 4 94) := h_get (k := 4) (C := RX12) (T := TX12) (N := 70) (ci := 10) rfl (by decide) (tin 6 166 (by decide +kernel) rfl)  (by decide +kernel : decode cX12_add 91 = .ok (.getfield 382, 3)) rfl
set_option maxRecDepth 100000 in
theorem s_98_94 (hC : SndC g HB l MM call) : Snd g HB l call cX12_add 3 yX12_add.cls yX12_add.name 94 (lf (q_push (.inl 1) 95)) := lf_ok (p_iconst (by decide +kernel : decode cX12_add 94 = .ok (.iconst 1, 1)) (by decide +kernel) rfl)
set_option maxRecDepth 100000 in
theorem s_98_95 (hC : SndC g HB l MM call) : Snd g HB l call cX12_add 3 yX12_add.cls yX12_add.name 95 (s_ast (fun t => Nat.beq t 1 || Nat.beq t 2) cvB 96) := h_bast (by decide +kernel : decode cX12_add 95 = .ok (.bastore, 1)) rfl
set_option maxRecDepth 100000 in
theorem s_98_96 (hC : SndC g HB l MM call) : Snd g HB l call cX12_add 3 yX12_add.cls yX12_add.name 96 (lf (q_load isR 0 97)) := lf_ok (p_aload_n (by decide +kernel : decode cX12_add 96 = .ok (.aload_n 0, 1)) rfl rfl)
set_option maxRecDepth 100000 in
theorem s_98_97 (hC : SndC g HB l MM call) : Snd g HB l call cX12_add 3 yX12_add.cls yX12_add.name 97 (s_get 10 11 100) := h_get (k := 11) (C := RX12) (T := TX12) (N := 70) (ci := 10) rfl (by decide) (tin 6 173 (by decide +kernel) rfl)  (by decide +kernel : decode cX12_add 97 = .ok (.getfield 34, 3)) rfl
set_option maxRecDepth 100000 in
theorem s_98_100 (hC : SndC g HB l MM call) : Snd g HB l call cX12_add 3 yX12_add.cls yX12_add.name 100 (lf (q_load isR 0 101)) := lf_ok (p_aload_n (by decide +kernel : decode cX12_add 100 = .ok (.aload_n 0, 1)) rfl rfl)
set_option maxRecDepth 100000 in
theorem s_98_101 (hC : SndC g HB l MM call) : Snd g HB l call cX12_add 3 yX12_add.cls yX12_add.name 101 (s_get 10 4 104) := h_get (k := 4) (C := RX12) (T := TX12) (N := 70) (ci := 10) rfl (by decide) (tin 6 166 (by decide +kernel) rfl)  (by decide +kernel : decode cX12_add 101 = .ok (.getfield 382, 3)) rfl
set_option maxRecDepth 100000 in
theorem s_98_104 (hC : SndC g HB l MM call) : Snd g HB l call cX12_add 3 yX12_add.cls yX12_add.name 104 (lf (q_push (.inl 0) 105)) := lf_ok (p_iconst (by decide +kernel : decode cX12_add 104 = .ok (.iconst 0, 1)) (by decide +kernel) rfl)
set_option maxRecDepth 100000 in
theorem s_98_105 (hC : SndC g HB l MM call) : Snd g HB l call cX12_add 3 yX12_add.cls yX12_add.name 105 (s_ast (fun t => Nat.beq t 0) cvI 106) := h_iast (by decide +kernel : decode cX12_add 105 = .ok (.iastore, 1)) rfl
set_option maxRecDepth 100000 in
theorem s_98_106 (hC : SndC g HB l MM call) : Snd g HB l call cX12_add 3 yX12_add.cls yX12_add.name 106 (lf (q_load isR 0 107)) := lf_ok (p_aload_n (by decide +kernel : decode cX12_add 106 = .ok (.aload_n 0, 1)) rfl rfl)
set_option maxRecDepth 100000 in
theorem s_98_107 (hC : SndC g HB l MM call) : Snd g HB l call cX12_add 3 yX12_add.cls yX12_add.name 107 (lf (q_dup 108)) := lf_ok (p_dup (by decide +kernel : decode cX12_add 107 = .ok (.dup, 1)) rfl)
set_option maxRecDepth 100000 in
theorem s_98_108 (hC : SndC g HB l MM call) : Snd g HB l call cX12_add 3 yX12_add.cls yX12_add.name 108 (s_get 10 4 111) := h_get (k := 4) (C := RX12) (T := TX12) (N := 70) (ci := 10) rfl (by decide) (tin 6 166 (by decide +kernel) rfl)  (by decide +kernel : decode cX12_add 108 = .ok (.getfield 382, 3)) rfl
set_option maxRecDepth 100000 in
theorem s_98_111 (hC : SndC g HB l MM call) : Snd g HB l call cX12_add 3 yX12_add.cls yX12_add.name 111 (lf (q_push (.inl 1) 112)) := lf_ok (p_iconst (by decide +kernel : decode cX12_add 111 = .ok (.iconst 1, 1)) (by decide +kernel) rfl)
set_option maxRecDepth 100000 in
theorem s_98_112 (hC : SndC g HB l MM call) : Snd g HB l call cX12_add 3 yX12_add.cls yX12_add.name 112 (lf (q_bin (iop2 (fun x y => x + y)) 113)) := lf_ok (p_iadd (by decide +kernel : decode cX12_add 112 = .ok (.iadd, 1)) rfl)
set_option maxRecDepth 100000 in
theorem s_98_113 (hC : SndC g HB l MM call) : Snd g HB l call cX12_add 3 yX12_add.cls yX12_add.name 113 (s_put 10 4 0 116) := h_put (k := 4) (C := RX12) (T := TX12) (N := 70) (ci := 10) rfl (by decide) rfl rfl (tin 6 166 (by decide +kernel) rfl)  (by decide +kernel : decode cX12_add 113 = .ok (.putfield 382, 3)) rfl
set_option maxRecDepth 100000 in
theorem s_98_116 (hC : SndC g HB l MM call) : Snd g HB l call cX12_add 3 yX12_add.cls yX12_add.name 116 (lf (q_load isR 0 117)) := lf_ok (p_aload_n (by decide +kernel : decode cX12_add 116 = .ok (.aload_n 0, 1)) rfl rfl)
set_option maxRecDepth 100000 in
theorem s_98_117 (hC : SndC g HB l MM call) : Snd g HB l call cX12_add 3 yX12_add.cls yX12_add.name 117 (lf (q_dup 118)) := lf_ok (p_dup (by decide +kernel : decode cX12_add 117 = .ok (.dup, 1)) rfl)
set_option maxRecDepth 100000 in
theorem s_98_118 (hC : SndC g HB l MM call) : Snd g HB l call cX12_add 3 yX12_add.cls yX12_add.name 118 (s_get 10 5 121) := h_get (k := 5) (C := RX12) (T := TX12) (N := 70) (ci := 10) rfl (by decide) (tin 6 167 (by decide +kernel) rfl)  (by decide +kernel : decode cX12_add 118 = .ok (.getfield 499, 3)) rfl
set_option maxRecDepth 100000 in
theorem s_98_121 (hC : SndC g HB l MM call) : Snd g HB l call cX12_add 3 yX12_add.cls yX12_add.name 121 (lf (q_push (.inl 1) 122)) := lf_ok (p_iconst (by decide +kernel : decode cX12_add 121 = .ok (.iconst 1, 1)) (by decide +kernel) rfl)
set_option maxRecDepth 100000 in
theorem s_98_122 (hC : SndC g HB l MM call) : Snd g HB l call cX12_add 3 yX12_add.cls yX12_add.name 122 (lf (q_bin (iop2 (fun x y => x + y)) 123)) := lf_ok (p_iadd (by decide +kernel : decode cX12_add 122 = .ok (.iadd, 1)) rfl)
set_option maxRecDepth 100000 in
theorem s_98_123 (hC : SndC g HB l MM call) : Snd g HB l call cX12_add 3 yX12_add.cls yX12_add.name 123 (s_put 10 5 0 126) := h_put (k := 5) (C := RX12) (T := TX12) (N := 70) (ci := 10) rfl (by decide) rfl rfl (tin 6 167 (by decide +kernel) rfl)  (by decide +kernel : decode cX12_add 123 = .ok (.putfield 499, 3)) rfl
set_option maxRecDepth 100000 in
theorem s_98_126 (hC : SndC g HB l MM call) : Snd g HB l call cX12_add 3 yX12_add.cls yX12_add.name 126 (lf (q_load isR 0 127)) := lf_ok (p_aload_n (by decide +kernel : decode cX12_add 126 = .ok (.aload_n 0, 1)) rfl rfl)
set_option maxRecDepth 100000 in
theorem s_98_127 (hC : SndC g HB l MM call) : Snd g HB l call cX12_add 3 yX12_add.cls yX12_add.name 127 (s_get 10 4 130) := h_get (k := 4) (C := RX12) (T := TX12) (N := 70) (ci := 10) rfl (by decide) (tin 6 166 (by decide +kernel) rfl)  (by decide +kernel : decode cX12_add 127 = .ok (.getfield 382, 3)) rfl
set_option maxRecDepth 100000 in
theorem s_98_130 (hC : SndC g HB l MM call) : Snd g HB l call cX12_add 3 yX12_add.cls yX12_add.name 130 (lf (q_push (.inl 1) 131)) := lf_ok (p_iconst (by decide +kernel : decode cX12_add 130 = .ok (.iconst 1, 1)) (by decide +kernel) rfl)
set_option maxRecDepth 100000 in
theorem s_98_131 (hC : SndC g HB l MM call) : Snd g HB l call cX12_add 3 yX12_add.cls yX12_add.name 131 (lf (q_bin (iop2 (fun x y => x - y)) 132)) := lf_ok (p_isub (by decide +kernel : decode cX12_add 131 = .ok (.isub, 1)) rfl)
set_option maxRecDepth 100000 in
theorem ok_98 (hex : HB.size = g.1) (hC : SndC g HB l MM call) : ∀ x ∈ P_98, Snd g HB l call cX12_add 3 yX12_add.cls yX12_add.name x.1 x.2 := fa5 (s_98_0 hC) (fa5 (s_98_1 hC) (fa5 (s_98_2 hC) (fa5 (s_98_5 hC) (fa5 (s_98_7 hC) (fa5 (s_98_10 hC) (fa5 (s_98_11 hC) (fa5 (s_98_14 hC) (fa5 (s_98_17 hC) (fa5 (s_98_24 hC) (fa5 (s_98_25 hC) (fa5 (s_98_28 hC) (fa5 (s_98_29 hC) (fa5 (s_98_32 hC) (fa5 (s_98_37 hC) (fa5 (s_98_38 hC) (fa5 (s_98_41 hC) (fa5 (s_98_42 hC) (fa5 (s_98_43 hC) (fa5 (s_98_44 hC) (fa5 (s_98_45 hC) (fa5 (s_98_46 hC) (fa5 (s_98_76 hC) (fa5 (s_98_77 hC) (fa5 (s_98_80 hC) (fa5 (s_98_81 hC) (fa5 (s_98_84 hC) (fa5 (s_98_85 hC) (fa5 (s_98_86 hC) (fa5 (s_98_87 hC) (fa5 (s_98_90 hC) (fa5 (s_98_91 hC) (fa5 (s_98_94 hC) (fa5 (s_98_95 hC) (fa5 (s_98_96 hC) (fa5 (s_98_97 hC) (fa5 (s_98_100 hC) (fa5 (s_98_101 hC) (fa5 (s_98_104 hC) (fa5 (s_98_105 hC) (fa5 (s_98_106 hC) (fa5 (s_98_107 hC) (fa5 (s_98_108 hC) (fa5 (s_98_111 hC) (fa5 (s_98_112 hC) (fa5 (s_98_113 hC) (fa5 (s_98_116 hC) (fa5 (s_98_117 hC) (fa5 (s_98_118 hC) (fa5 (s_98_121 hC) (fa5 (s_98_122 hC) (fa5 (s_98_123 hC) (fa5 (s_98_126 hC) (fa5 (s_98_127 hC) (fa5 (s_98_130 hC) (fa5 (s_98_131 hC) (fn5))))))))))))))))))))))))))))))))))))))))))))))))))))))))
set_option maxRecDepth 100000 in
theorem ms_98 (hex : HB.size = g.1) : MSnd g HB l MM D_98 := ⟨by decide +kernel, fun _ hC => ok_98 hex hC, fa5 (show endOK cX12_add (some .int) 132 1 from ⟨rfl, (by decide +kernel : decode cX12_add 132 = .ok (.ireturn, 1))⟩) (fn5)⟩
set_option maxRecDepth 100000 in
theorem s_99_0 (hC : SndC g HB l MM call) : Snd g HB l call cX12_take 2 yX12_take.cls yX12_take.name 0 (lf (q_load isR 0 1)) := lf_ok (p_aload_n (by decide +kernel : decode cX12_take 0 = .ok (.aload_n 0, 1)) rfl rfl)
set_option maxRecDepth 100000 in
theorem s_99_1 (hC : SndC g HB l MM call) : Snd g HB l call cX12_take 2 yX12_take.cls yX12_take.name 1 (s_get 10 3 4) := h_get (k := 3) (C := RX12) (T := TX12) (N := 70) (ci := 10) rfl (by decide) (tin 6 165 (by decide +kernel) rfl)  (by decide +kernel : decode cX12_take 1 = .ok (.getfield 496, 3)) rfl
set_option maxRecDepth 100000 in
theorem s_99_4 (hC : SndC g HB l MM call) : Snd g HB l call cX12_take 2 yX12_take.cls yX12_take.name 4 (lf (q_store isI up1 0 1 2 5)) := lf_ok (p_istore_n (by decide +kernel : decode cX12_take 4 = .ok (.istore_n 1, 1)) rfl rfl)
set_option maxRecDepth 100000 in
theorem s_99_5 (hC : SndC g HB l MM call) : Snd g HB l call cX12_take 2 yX12_take.cls yX12_take.name 5 (lf (q_load isR 0 6)) := lf_ok (p_aload_n (by decide +kernel : decode cX12_take 5 = .ok (.aload_n 0, 1)) rfl rfl)
set_option maxRecDepth 100000 in
theorem s_99_6 (hC : SndC g HB l MM call) : Snd g HB l call cX12_take 2 yX12_take.cls yX12_take.name 6 (lf (q_push (.inl 0) 7)) := lf_ok (p_iconst (by decide +kernel : decode cX12_take 6 = .ok (.iconst 0, 1)) (by decide +kernel) rfl)
set_option maxRecDepth 100000 in
theorem s_99_7 (hC : SndC g HB l MM call) : Snd g HB l call cX12_take 2 yX12_take.cls yX12_take.name 7 (s_put 10 3 0 10) := h_put (k := 3) (C := RX12) (T := TX12) (N := 70) (ci := 10) rfl (by decide) rfl rfl (tin 6 165 (by decide +kernel) rfl)  (by decide +kernel : decode cX12_take 7 = .ok (.putfield 496, 3)) rfl
set_option maxRecDepth 100000 in
theorem s_99_10 (hC : SndC g HB l MM call) : Snd g HB l call cX12_take 2 yX12_take.cls yX12_take.name 10 (lf (q_load isI 1 11)) := lf_ok (p_iload_n (by decide +kernel : decode cX12_take 10 = .ok (.iload_n 1, 1)) rfl rfl)
set_option maxRecDepth 100000 in
theorem ok_99 (hex : HB.size = g.1) (hC : SndC g HB l MM call) : ∀ x ∈ P_99, Snd g HB l call cX12_take 2 yX12_take.cls yX12_take.name x.1 x.2 := fa5 (s_99_0 hC) (fa5 (s_99_1 hC) (fa5 (s_99_4 hC) (fa5 (s_99_5 hC) (fa5 (s_99_6 hC) (fa5 (s_99_7 hC) (fa5 (s_99_10 hC) (fn5)))))))
set_option maxRecDepth 100000 in
theorem ms_99 (hex : HB.size = g.1) : MSnd g HB l MM D_99 := ⟨by decide +kernel, fun _ hC => ok_99 hex hC, fa5 (show endOK cX12_take (some .int) 11 1 from ⟨rfl, (by decide +kernel : decode cX12_take 11 = .ok (.ireturn, 1))⟩) (fn5)⟩
set_option maxRecDepth 100000 in
theorem s_100_0 (hC : SndC g HB l MM call) : Snd g HB l call cX12_remove 2 yX12_remove.cls yX12_remove.name 0 (lf (q_load isR 0 1)) := lf_ok (p_aload_n (by decide +kernel : decode cX12_remove 0 = .ok (.aload_n 0, 1)) rfl rfl)
set_option maxRecDepth 100000 in
theorem s_100_1 (hC : SndC g HB l MM call) : Snd g HB l call cX12_remove 2 yX12_remove.cls yX12_remove.name 1 (lf (q_load isR 0 2)) := lf_ok (p_aload_n (by decide +kernel : decode cX12_remove 1 = .ok (.aload_n 0, 1)) rfl rfl)
set_option maxRecDepth 100000 in
theorem s_100_2 (hC : SndC g HB l MM call) : Snd g HB l call cX12_remove 2 yX12_remove.cls yX12_remove.name 2 (lf (q_load isI 1 3)) := lf_ok (p_iload_n (by decide +kernel : decode cX12_remove 2 = .ok (.iload_n 1, 1)) rfl rfl)
set_option maxRecDepth 100000 in
theorem s_100_3 (hC : SndC g HB l MM call) : Snd g HB l call cX12_remove 2 yX12_remove.cls yX12_remove.name 3 (s_cV 10 101 1 21 6) := c_V (C := RX12) (T := TX12) (N := 70) (ci := 10) rfl hC (M := MM) (id := 101) (d := D_101) rfl mok_101 rfl rfl (tin 7 156 (by decide +kernel) rfl) (tin 7 158 (by decide +kernel) rfl) (tinP (y := mdY D_101) (n := 70) 60 (by decide +kernel)) (tin 1 12 (by decide +kernel) rfl) (by decide +kernel : decode cX12_remove 3 = .ok (.invokevirtual 505, 3)) rfl
set_option maxRecDepth 100000 in
theorem s_100_6 (hC : SndC g HB l MM call) : Snd g HB l call cX12_remove 2 yX12_remove.cls yX12_remove.name 6 (s_br1 0 13 9) := b_eq (by decide +kernel : decode cX12_remove 6 = .ok (.ifCond .eq 7, 3)) (by decide) rfl
set_option maxRecDepth 100000 in
theorem s_100_13 (hC : SndC g HB l MM call) : Snd g HB l call cX12_remove 2 yX12_remove.cls yX12_remove.name 13 (lf (q_push (.inl 1) 14)) := lf_ok (p_iconst (by decide +kernel : decode cX12_remove 13 = .ok (.iconst 1, 1)) (by decide +kernel) rfl)
set_option maxRecDepth 100000 in
theorem s_100_14 (hC : SndC g HB l MM call) : Snd g HB l call cX12_remove 2 yX12_remove.cls yX12_remove.name 14 (s_put 10 0 0 17) := h_put (k := 0) (C := RX12) (T := TX12) (N := 70) (ci := 10) rfl (by decide) rfl rfl (tin 6 162 (by decide +kernel) rfl)  (by decide +kernel : decode cX12_remove 14 = .ok (.putfield 154, 3)) rfl
set_option maxRecDepth 100000 in
theorem s_100_17 (hC : SndC g HB l MM call) : Snd g HB l call cX12_remove 2 yX12_remove.cls yX12_remove.name 17 (lf (q_load isR 0 18)) := lf_ok (p_aload_n (by decide +kernel : decode cX12_remove 17 = .ok (.aload_n 0, 1)) rfl rfl)
set_option maxRecDepth 100000 in
theorem s_100_18 (hC : SndC g HB l MM call) : Snd g HB l call cX12_remove 2 yX12_remove.cls yX12_remove.name 18 (s_get 10 0 21) := h_get (k := 0) (C := RX12) (T := TX12) (N := 70) (ci := 10) rfl (by decide) (tin 6 162 (by decide +kernel) rfl)  (by decide +kernel : decode cX12_remove 18 = .ok (.getfield 154, 3)) rfl
set_option maxRecDepth 100000 in
theorem s_100_21 (hC : SndC g HB l MM call) : Snd g HB l call cX12_remove 2 yX12_remove.cls yX12_remove.name 21 (s_br1 5 25 24) := b_le (by decide +kernel : decode cX12_remove 21 = .ok (.ifCond .le 4, 3)) (by decide) rfl
set_option maxRecDepth 100000 in
theorem ok_100 (hex : HB.size = g.1) (hC : SndC g HB l MM call) : ∀ x ∈ P_100, Snd g HB l call cX12_remove 2 yX12_remove.cls yX12_remove.name x.1 x.2 := fa5 (s_100_0 hC) (fa5 (s_100_1 hC) (fa5 (s_100_2 hC) (fa5 (s_100_3 hC) (fa5 (s_100_6 hC) (fa5 (s_100_13 hC) (fa5 (s_100_14 hC) (fa5 (s_100_17 hC) (fa5 (s_100_18 hC) (fa5 (s_100_21 hC) (fn5))))))))))
set_option maxRecDepth 100000 in
theorem ms_100 (hex : HB.size = g.1) : MSnd g HB l MM D_100 := ⟨by decide +kernel, fun _ hC => ok_100 hex hC, fa5 (show endOK cX12_remove none 24 0 from ⟨rfl, (by decide +kernel : decode cX12_remove 24 = .ok (.return_, 1))⟩) (fn5)⟩
set_option maxRecDepth 100000 in
theorem s_101_0 (hC : SndC g HB l MM call) : Snd g HB l call cX12_isThere 2 yX12_isThere.cls yX12_isThere.name 0 (lf (q_load isI 1 1)) := lf_ok (p_iload_n (by decide +kernel : decode cX12_isThere 0 = .ok (.iload_n 1, 1)) rfl rfl)
set_option maxRecDepth 100000 in
theorem s_101_1 (hC : SndC g HB l MM call) : Snd g HB l call cX12_isThere 2 yX12_isThere.cls yX12_isThere.name 1 (s_br1 2 25 4) := b_lt (by decide +kernel : decode cX12_isThere 1 = .ok (.ifCond .lt 24, 3)) (by decide) rfl
set_option maxRecDepth 100000 in
theorem s_101_4 (hC : SndC g HB l MM call) : Snd g HB l call cX12_isThere 2 yX12_isThere.cls yX12_isThere.name 4 (lf (q_load isI 1 5)) := lf_ok (p_iload_n (by decide +kernel : decode cX12_isThere 4 = .ok (.iload_n 1, 1)) rfl rfl)
set_option maxRecDepth 100000 in
theorem s_101_5 (hC : SndC g HB l MM call) : Snd g HB l call cX12_isThere 2 yX12_isThere.cls yX12_isThere.name 5 (lf (q_load isR 0 6)) := lf_ok (p_aload_n (by decide +kernel : decode cX12_isThere 5 = .ok (.aload_n 0, 1)) rfl rfl)
set_option maxRecDepth 100000 in
theorem s_101_6 (hC : SndC g HB l MM call) : Snd g HB l call cX12_isThere 2 yX12_isThere.cls yX12_isThere.name 6 (s_get 10 4 9) := h_get (k := 4) (C := RX12) (T := TX12) (N := 70) (ci := 10) rfl (by decide) (tin 6 166 (by decide +kernel) rfl)  (by decide +kernel : decode cX12_isThere 6 = .ok (.getfield 382, 3)) rfl
set_option maxRecDepth 100000 in
theorem s_101_9 (hC : SndC g HB l MM call) : Snd g HB l call cX12_isThere 2 yX12_isThere.cls yX12_isThere.name 9 (s_br2 3 25 12) := b_ige (by decide +kernel : decode cX12_isThere 9 = .ok (.if_icmp .ge 16, 3)) (by decide) rfl
set_option maxRecDepth 100000 in
theorem s_101_25 (hC : SndC g HB l MM call) : Snd g HB l call cX12_isThere 2 yX12_isThere.cls yX12_isThere.name 25 (lf (q_push (.inl 0) 26)) := lf_ok (p_iconst (by decide +kernel : decode cX12_isThere 25 = .ok (.iconst 0, 1)) (by decide +kernel) rfl)
set_option maxRecDepth 100000 in
theorem ok_101 (hex : HB.size = g.1) (hC : SndC g HB l MM call) : ∀ x ∈ P_101, Snd g HB l call cX12_isThere 2 yX12_isThere.cls yX12_isThere.name x.1 x.2 := fa5 (s_101_0 hC) (fa5 (s_101_1 hC) (fa5 (s_101_4 hC) (fa5 (s_101_5 hC) (fa5 (s_101_6 hC) (fa5 (s_101_9 hC) (fa5 (s_101_25 hC) (fn5)))))))
set_option maxRecDepth 100000 in
theorem ms_101 (hex : HB.size = g.1) : MSnd g HB l MM D_101 := ⟨by decide +kernel, fun _ hC => ok_101 hex hC, fa5 (show endOK cX12_isThere (some .boolean) 26 2 from (by decide +kernel : decode cX12_isThere 26 = .ok (.ireturn, 1))) (fn5)⟩
set_option maxRecDepth 100000 in
theorem s_102_0 (hC : SndC g HB l MM call) : Snd g HB l call cX12_tag 7 yX12_tag.cls yX12_tag.name 0 (lf (q_load isR 0 1)) := lf_ok (p_aload_n (by decide +kernel : decode cX12_tag 0 = .ok (.aload_n 0, 1)) rfl rfl)
set_option maxRecDepth 100000 in
theorem s_102_1 (hC : SndC g HB l MM call) : Snd g HB l call cX12_tag 7 yX12_tag.cls yX12_tag.name 1 (s_cV 10 99 0 21 4) := c_V (C := RX12) (T := TX12) (N := 70) (ci := 10) rfl hC (M := MM) (id := 99) (d := D_99) rfl mok_99 rfl rfl (tin 7 148 (by decide +kernel) rfl) (tin 7 150 (by decide +kernel) rfl) (tinP (y := mdY D_99) (n := 70) 59 (by decide +kernel)) (tin 1 12 (by decide +kernel) rfl) (by decide +kernel : decode cX12_tag 1 = .ok (.invokevirtual 502, 3)) rfl
set_option maxRecDepth 100000 in
theorem s_102_4 (hC : SndC g HB l MM call) : Snd g HB l call cX12_tag 7 yX12_tag.cls yX12_tag.name 4 (lf (q_store isI up1 0 3 7 5)) := lf_ok (p_istore_n (by decide +kernel : decode cX12_tag 4 = .ok (.istore_n 3, 1)) rfl rfl)
set_option maxRecDepth 100000 in
theorem s_102_5 (hC : SndC g HB l MM call) : Snd g HB l call cX12_tag 7 yX12_tag.cls yX12_tag.name 5 (lf (q_load isI 1 6)) := lf_ok (p_iload_n (by decide +kernel : decode cX12_tag 5 = .ok (.iload_n 1, 1)) rfl rfl)
set_option maxRecDepth 100000 in
theorem s_102_6 (hC : SndC g HB l MM call) : Snd g HB l call cX12_tag 7 yX12_tag.cls yX12_tag.name 6 (lf (q_store isI up1 0 4 7 8)) := lf_ok (p_istore (by decide +kernel : decode cX12_tag 6 = .ok (.istore 4, 2)) rfl)
set_option maxRecDepth 100000 in
theorem s_102_8 (hC : SndC g HB l MM call) : Snd g HB l call cX12_tag 7 yX12_tag.cls yX12_tag.name 8 (lf (q_load isR 0 9)) := lf_ok (p_aload_n (by decide +kernel : decode cX12_tag 8 = .ok (.aload_n 0, 1)) rfl rfl)
set_option maxRecDepth 100000 in
theorem s_102_9 (hC : SndC g HB l MM call) : Snd g HB l call cX12_tag 7 yX12_tag.cls yX12_tag.name 9 (lf (q_load isI 4 11)) := lf_ok (p_iload (by decide +kernel : decode cX12_tag 9 = .ok (.iload 4, 2)) rfl)
set_option maxRecDepth 100000 in
theorem s_102_11 (hC : SndC g HB l MM call) : Snd g HB l call cX12_tag 7 yX12_tag.cls yX12_tag.name 11 (s_cV 10 101 1 21 14) := c_V (C := RX12) (T := TX12) (N := 70) (ci := 10) rfl hC (M := MM) (id := 101) (d := D_101) rfl mok_101 rfl rfl (tin 7 156 (by decide +kernel) rfl) (tin 7 158 (by decide +kernel) rfl) (tinP (y := mdY D_101) (n := 70) 60 (by decide +kernel)) (tin 1 12 (by decide +kernel) rfl) (by decide +kernel : decode cX12_tag 11 = .ok (.invokevirtual 505, 3)) rfl
set_option maxRecDepth 100000 in
theorem s_102_14 (hC : SndC g HB l MM call) : Snd g HB l call cX12_tag 7 yX12_tag.cls yX12_tag.name 14 (s_br1 0 40 17) := b_eq (by decide +kernel : decode cX12_tag 14 = .ok (.ifCond .eq 26, 3)) (by decide) rfl
set_option maxRecDepth 100000 in
theorem s_102_40 (hC : SndC g HB l MM call) : Snd g HB l call cX12_tag 7 yX12_tag.cls yX12_tag.name 40 (lf (q_push (.inl 0) 41)) := lf_ok (p_iconst (by decide +kernel : decode cX12_tag 40 = .ok (.iconst 0, 1)) (by decide +kernel) rfl)
set_option maxRecDepth 100000 in
theorem s_102_41 (hC : SndC g HB l MM call) : Snd g HB l call cX12_tag 7 yX12_tag.cls yX12_tag.name 41 (lf (q_store isI up1 0 5 7 43)) := lf_ok (p_istore (by decide +kernel : decode cX12_tag 41 = .ok (.istore 5, 2)) rfl)
set_option maxRecDepth 100000 in
theorem s_102_43 (hC : SndC g HB l MM call) : Snd g HB l call cX12_tag 7 yX12_tag.cls yX12_tag.name 43 (lf (q_load isR 0 44)) := lf_ok (p_aload_n (by decide +kernel : decode cX12_tag 43 = .ok (.aload_n 0, 1)) rfl rfl)
set_option maxRecDepth 100000 in
theorem s_102_44 (hC : SndC g HB l MM call) : Snd g HB l call cX12_tag 7 yX12_tag.cls yX12_tag.name 44 (lf (q_load isR 0 45)) := lf_ok (p_aload_n (by decide +kernel : decode cX12_tag 44 = .ok (.aload_n 0, 1)) rfl rfl)
set_option maxRecDepth 100000 in
theorem s_102_45 (hC : SndC g HB l MM call) : Snd g HB l call cX12_tag 7 yX12_tag.cls yX12_tag.name 45 (lf (q_load isI 4 47)) := lf_ok (p_iload (by decide +kernel : decode cX12_tag 45 = .ok (.iload 4, 2)) rfl)
set_option maxRecDepth 100000 in
theorem s_102_47 (hC : SndC g HB l MM call) : Snd g HB l call cX12_tag 7 yX12_tag.cls yX12_tag.name 47 (s_cV 10 101 1 21 50) := c_V (C := RX12) (T := TX12) (N := 70) (ci := 10) rfl hC (M := MM) (id := 101) (d := D_101) rfl mok_101 rfl rfl (tin 7 156 (by decide +kernel) rfl) (tin 7 158 (by decide +kernel) rfl) (tinP (y := mdY D_101) (n := 70) 60 (by decide +kernel)) (tin 1 12 (by decide +kernel) rfl) (by decide +kernel : decode cX12_tag 47 = .ok (.invokevirtual 505, 3)) rfl
set_option maxRecDepth 100000 in
theorem s_102_50 (hC : SndC g HB l MM call) : Snd g HB l call cX12_tag 7 yX12_tag.cls yX12_tag.name 50 (s_br1 1 57 53) := b_ne (by decide +kernel : decode cX12_tag 50 = .ok (.ifCond .ne 7, 3)) (by decide) rfl
set_option maxRecDepth 100000 in
theorem s_102_53 (hC : SndC g HB l MM call) : Snd g HB l call cX12_tag 7 yX12_tag.cls yX12_tag.name 53 (lf (q_push (.inl 1) 54)) := lf_ok (p_iconst (by decide +kernel : decode cX12_tag 53 = .ok (.iconst 1, 1)) (by decide +kernel) rfl)
set_option maxRecDepth 100000 in
theorem s_102_54 (hC : SndC g HB l MM call) : Snd g HB l call cX12_tag 7 yX12_tag.cls yX12_tag.name 54 (lf (q_goto 95)) := lf_ok (p_goto (by decide +kernel : decode cX12_tag 54 = .ok (.goto 41, 3)) (by decide))
set_option maxRecDepth 100000 in
theorem s_102_95 (hC : SndC g HB l MM call) : Snd g HB l call cX12_tag 7 yX12_tag.cls yX12_tag.name 95 (s_put 10 0 0 98) := h_put (k := 0) (C := RX12) (T := TX12) (N := 70) (ci := 10) rfl (by decide) rfl rfl (tin 6 162 (by decide +kernel) rfl)  (by decide +kernel : decode cX12_tag 95 = .ok (.putfield 154, 3)) rfl
set_option maxRecDepth 100000 in
theorem s_102_98 (hC : SndC g HB l MM call) : Snd g HB l call cX12_tag 7 yX12_tag.cls yX12_tag.name 98 (lf (q_load isR 0 99)) := lf_ok (p_aload_n (by decide +kernel : decode cX12_tag 98 = .ok (.aload_n 0, 1)) rfl rfl)
set_option maxRecDepth 100000 in
theorem s_102_99 (hC : SndC g HB l MM call) : Snd g HB l call cX12_tag 7 yX12_tag.cls yX12_tag.name 99 (s_get 10 0 102) := h_get (k := 0) (C := RX12) (T := TX12) (N := 70) (ci := 10) rfl (by decide) (tin 6 162 (by decide +kernel) rfl)  (by decide +kernel : decode cX12_tag 99 = .ok (.getfield 154, 3)) rfl
set_option maxRecDepth 100000 in
theorem s_102_102 (hC : SndC g HB l MM call) : Snd g HB l call cX12_tag 7 yX12_tag.cls yX12_tag.name 102 (s_br1 4 119 105) := b_gt (by decide +kernel : decode cX12_tag 102 = .ok (.ifCond .gt 17, 3)) (by decide) rfl
set_option maxRecDepth 100000 in
theorem s_102_119 (hC : SndC g HB l MM call) : Snd g HB l call cX12_tag 7 yX12_tag.cls yX12_tag.name 119 (lf (q_push (.inl 0) 120)) := lf_ok (p_iconst (by decide +kernel : decode cX12_tag 119 = .ok (.iconst 0, 1)) (by decide +kernel) rfl)
set_option maxRecDepth 100000 in
theorem ok_102 (hex : HB.size = g.1) (hC : SndC g HB l MM call) : ∀ x ∈ P_102, Snd g HB l call cX12_tag 7 yX12_tag.cls yX12_tag.name x.1 x.2 := fa5 (s_102_0 hC) (fa5 (s_102_1 hC) (fa5 (s_102_4 hC) (fa5 (s_102_5 hC) (fa5 (s_102_6 hC) (fa5 (s_102_8 hC) (fa5 (s_102_9 hC) (fa5 (s_102_11 hC) (fa5 (s_102_14 hC) (fa5 (s_102_40 hC) (fa5 (s_102_41 hC) (fa5 (s_102_43 hC) (fa5 (s_102_44 hC) (fa5 (s_102_45 hC) (fa5 (s_102_47 hC) (fa5 (s_102_50 hC) (fa5 (s_102_53 hC) (fa5 (s_102_54 hC) (fa5 (s_102_95 hC) (fa5 (s_102_98 hC) (fa5 (s_102_99 hC) (fa5 (s_102_102 hC) (fa5 (s_102_119 hC) (fn5)))))))))))))))))))))))
set_option maxRecDepth 100000 in
theorem ms_102 (hex : HB.size = g.1) : MSnd g HB l MM D_102 := ⟨by decide +kernel, fun _ hC => ok_102 hex hC, fa5 (show endOK cX12_tag (some .boolean) 120 2 from (by decide +kernel : decode cX12_tag 120 = .ok (.ireturn, 1))) (fn5)⟩
set_option maxRecDepth 100000 in
theorem s_103_0 (hC : SndC g HB l MM call) : Snd g HB l call cX12_search 3 yX12_search.cls yX12_search.name 0 (lf (q_load isR 0 1)) := lf_ok (p_aload_n (by decide +kernel : decode cX12_search 0 = .ok (.aload_n 0, 1)) rfl rfl)
set_option maxRecDepth 100000 in
theorem s_103_1 (hC : SndC g HB l MM call) : Snd g HB l call cX12_search 3 yX12_search.cls yX12_search.name 1 (lf (q_load isR 0 2)) := lf_ok (p_aload_n (by decide +kernel : decode cX12_search 1 = .ok (.aload_n 0, 1)) rfl rfl)
set_option maxRecDepth 100000 in
theorem s_103_2 (hC : SndC g HB l MM call) : Snd g HB l call cX12_search 3 yX12_search.cls yX12_search.name 2 (s_cV 10 99 0 21 5) := c_V (C := RX12) (T := TX12) (N := 70) (ci := 10) rfl hC (M := MM) (id := 99) (d := D_99) rfl mok_99 rfl rfl (tin 7 148 (by decide +kernel) rfl) (tin 7 150 (by decide +kernel) rfl) (tinP (y := mdY D_99) (n := 70) 59 (by decide +kernel)) (tin 1 12 (by decide +kernel) rfl) (by decide +kernel : decode cX12_search 2 = .ok (.invokevirtual 502, 3)) rfl
set_option maxRecDepth 100000 in
theorem s_103_5 (hC : SndC g HB l MM call) : Snd g HB l call cX12_search 3 yX12_search.cls yX12_search.name 5 (s_put 10 44 0 8) := h_put (k := 44) (C := RX12) (T := TX12) (N := 70) (ci := 10) rfl (by decide) rfl rfl (tin 6 206 (by decide +kernel) rfl)  (by decide +kernel : decode cX12_search 5 = .ok (.putfield 412, 3)) rfl
set_option maxRecDepth 100000 in
theorem s_103_8 (hC : SndC g HB l MM call) : Snd g HB l call cX12_search 3 yX12_search.cls yX12_search.name 8 (lf (q_push (.inl 0) 9)) := lf_ok (p_iconst (by decide +kernel : decode cX12_search 8 = .ok (.iconst 0, 1)) (by decide +kernel) rfl)
set_option maxRecDepth 100000 in
theorem s_103_9 (hC : SndC g HB l MM call) : Snd g HB l call cX12_search 3 yX12_search.cls yX12_search.name 9 (lf (q_store isI up1 0 1 3 10)) := lf_ok (p_istore_n (by decide +kernel : decode cX12_search 9 = .ok (.istore_n 1, 1)) rfl rfl)
set_option maxRecDepth 100000 in
theorem s_103_10 (hC : SndC g HB l MM call) : Snd g HB l call cX12_search 3 yX12_search.cls yX12_search.name 10 (lf (q_load isI 1 11)) := lf_ok (p_iload_n (by decide +kernel : decode cX12_search 10 = .ok (.iload_n 1, 1)) rfl rfl)
set_option maxRecDepth 100000 in
theorem s_103_11 (hC : SndC g HB l MM call) : Snd g HB l call cX12_search 3 yX12_search.cls yX12_search.name 11 (lf (q_load isR 0 12)) := lf_ok (p_aload_n (by decide +kernel : decode cX12_search 11 = .ok (.aload_n 0, 1)) rfl rfl)
set_option maxRecDepth 100000 in
theorem s_103_12 (hC : SndC g HB l MM call) : Snd g HB l call cX12_search 3 yX12_search.cls yX12_search.name 12 (s_get 10 44 15) := h_get (k := 44) (C := RX12) (T := TX12) (N := 70) (ci := 10) rfl (by decide) (tin 6 206 (by decide +kernel) rfl)  (by decide +kernel : decode cX12_search 12 = .ok (.getfield 412, 3)) rfl
set_option maxRecDepth 100000 in
theorem s_103_15 (hC : SndC g HB l MM call) : Snd g HB l call cX12_search 3 yX12_search.cls yX12_search.name 15 (s_br2 3 36 18) := b_ige (by decide +kernel : decode cX12_search 15 = .ok (.if_icmp .ge 21, 3)) (by decide) rfl
set_option maxRecDepth 100000 in
theorem s_103_36 (hC : SndC g HB l MM call) : Snd g HB l call cX12_search 3 yX12_search.cls yX12_search.name 36 (lf (q_load isR 0 37)) := lf_ok (p_aload_n (by decide +kernel : decode cX12_search 36 = .ok (.aload_n 0, 1)) rfl rfl)
set_option maxRecDepth 100000 in
theorem s_103_37 (hC : SndC g HB l MM call) : Snd g HB l call cX12_search 3 yX12_search.cls yX12_search.name 37 (lf (q_load isR 0 38)) := lf_ok (p_aload_n (by decide +kernel : decode cX12_search 37 = .ok (.aload_n 0, 1)) rfl rfl)
set_option maxRecDepth 100000 in
theorem s_103_38 (hC : SndC g HB l MM call) : Snd g HB l call cX12_search 3 yX12_search.cls yX12_search.name 38 (s_cV 10 104 0 29 41) := c_V (C := RX12) (T := TX12) (N := 70) (ci := 10) rfl hC (M := MM) (id := 104) (d := D_104) rfl mok_104 rfl rfl (tin 7 183 (by decide +kernel) rfl) (tin 7 185 (by decide +kernel) rfl) (tinP (y := mdY D_104) (n := 70) 64 (by decide +kernel)) (tin 1 12 (by decide +kernel) rfl) (by decide +kernel : decode cX12_search 38 = .ok (.invokevirtual 514, 3)) rfl
set_option maxRecDepth 100000 in
theorem s_103_41 (hC : SndC g HB l MM call) : Snd g HB l call cX12_search 3 yX12_search.cls yX12_search.name 41 (s_br1 0 48 44) := b_eq (by decide +kernel : decode cX12_search 41 = .ok (.ifCond .eq 7, 3)) (by decide) rfl
set_option maxRecDepth 100000 in
theorem s_103_44 (hC : SndC g HB l MM call) : Snd g HB l call cX12_search 3 yX12_search.cls yX12_search.name 44 (lf (q_push (.inl 0) 45)) := lf_ok (p_iconst (by decide +kernel : decode cX12_search 44 = .ok (.iconst 0, 1)) (by decide +kernel) rfl)
set_option maxRecDepth 100000 in
theorem s_103_45 (hC : SndC g HB l MM call) : Snd g HB l call cX12_search 3 yX12_search.cls yX12_search.name 45 (lf (q_goto 49)) := lf_ok (p_goto (by decide +kernel : decode cX12_search 45 = .ok (.goto 4, 3)) (by decide))
set_option maxRecDepth 100000 in
theorem s_103_49 (hC : SndC g HB l MM call) : Snd g HB l call cX12_search 3 yX12_search.cls yX12_search.name 49 (s_put 10 0 0 52) := h_put (k := 0) (C := RX12) (T := TX12) (N := 70) (ci := 10) rfl (by decide) rfl rfl (tin 6 162 (by decide +kernel) rfl)  (by decide +kernel : decode cX12_search 49 = .ok (.putfield 154, 3)) rfl
set_option maxRecDepth 100000 in
theorem s_103_52 (hC : SndC g HB l MM call) : Snd g HB l call cX12_search 3 yX12_search.cls yX12_search.name 52 (lf (q_load isR 0 53)) := lf_ok (p_aload_n (by decide +kernel : decode cX12_search 52 = .ok (.aload_n 0, 1)) rfl rfl)
set_option maxRecDepth 100000 in
theorem s_103_53 (hC : SndC g HB l MM call) : Snd g HB l call cX12_search 3 yX12_search.cls yX12_search.name 53 (s_get 10 0 56) := h_get (k := 0) (C := RX12) (T := TX12) (N := 70) (ci := 10) rfl (by decide) (tin 6 162 (by decide +kernel) rfl)  (by decide +kernel : decode cX12_search 53 = .ok (.getfield 154, 3)) rfl
set_option maxRecDepth 100000 in
theorem s_103_56 (hC : SndC g HB l MM call) : Snd g HB l call cX12_search 3 yX12_search.cls yX12_search.name 56 (s_br1 5 61 59) := b_le (by decide +kernel : decode cX12_search 56 = .ok (.ifCond .le 5, 3)) (by decide) rfl
set_option maxRecDepth 100000 in
theorem s_103_61 (hC : SndC g HB l MM call) : Snd g HB l call cX12_search 3 yX12_search.cls yX12_search.name 61 (lf (q_load isR 0 62)) := lf_ok (p_aload_n (by decide +kernel : decode cX12_search 61 = .ok (.aload_n 0, 1)) rfl rfl)
set_option maxRecDepth 100000 in
theorem s_103_62 (hC : SndC g HB l MM call) : Snd g HB l call cX12_search 3 yX12_search.cls yX12_search.name 62 (s_cV 10 106 0 21 65) := c_V (C := RX12) (T := TX12) (N := 70) (ci := 10) rfl hC (M := MM) (id := 106) (d := D_106) rfl mok_106 rfl rfl (tin 8 25 (by decide +kernel) rfl) (tin 8 27 (by decide +kernel) rfl) (tinP (y := mdY D_106) (n := 70) 77 (by decide +kernel)) (tin 1 12 (by decide +kernel) rfl) (by decide +kernel : decode cX12_search 62 = .ok (.invokevirtual 518, 3)) rfl
set_option maxRecDepth 100000 in
theorem s_103_65 (hC : SndC g HB l MM call) : Snd g HB l call cX12_search 3 yX12_search.cls yX12_search.name 65 (lf (q_load isR 0 66)) := lf_ok (p_aload_n (by decide +kernel : decode cX12_search 65 = .ok (.aload_n 0, 1)) rfl rfl)
set_option maxRecDepth 100000 in
theorem s_103_66 (hC : SndC g HB l MM call) : Snd g HB l call cX12_search 3 yX12_search.cls yX12_search.name 66 (lf (q_push (.inl 0) 67)) := lf_ok (p_iconst (by decide +kernel : decode cX12_search 66 = .ok (.iconst 0, 1)) (by decide +kernel) rfl)
set_option maxRecDepth 100000 in
theorem s_103_67 (hC : SndC g HB l MM call) : Snd g HB l call cX12_search 3 yX12_search.cls yX12_search.name 67 (s_put 10 62 0 70) := h_put (k := 62) (C := RX12) (T := TX12) (N := 70) (ci := 10) rfl (by decide) rfl rfl (tin 6 223 (by decide +kernel) rfl)  (by decide +kernel : decode cX12_search 67 = .ok (.putfield 521, 3)) rfl
set_option maxRecDepth 100000 in
theorem s_103_70 (hC : SndC g HB l MM call) : Snd g HB l call cX12_search 3 yX12_search.cls yX12_search.name 70 (lf (q_push (.inl 0) 71)) := lf_ok (p_iconst (by decide +kernel : decode cX12_search 70 = .ok (.iconst 0, 1)) (by decide +kernel) rfl)
set_option maxRecDepth 100000 in
theorem s_103_71 (hC : SndC g HB l MM call) : Snd g HB l call cX12_search 3 yX12_search.cls yX12_search.name 71 (lf (q_store isI up1 0 1 3 72)) := lf_ok (p_istore_n (by decide +kernel : decode cX12_search 71 = .ok (.istore_n 1, 1)) rfl rfl)
set_option maxRecDepth 100000 in
theorem s_103_72 (hC : SndC g HB l MM call) : Snd g HB l call cX12_search 3 yX12_search.cls yX12_search.name 72 (lf (q_load isI 1 73)) := lf_ok (p_iload_n (by decide +kernel : decode cX12_search 72 = .ok (.iload_n 1, 1)) rfl rfl)
set_option maxRecDepth 100000 in
theorem s_103_73 (hC : SndC g HB l MM call) : Snd g HB l call cX12_search 3 yX12_search.cls yX12_search.name 73 (lf (q_load isR 0 74)) := lf_ok (p_aload_n (by decide +kernel : decode cX12_search 73 = .ok (.aload_n 0, 1)) rfl rfl)
set_option maxRecDepth 100000 in
theorem s_103_74 (hC : SndC g HB l MM call) : Snd g HB l call cX12_search 3 yX12_search.cls yX12_search.name 74 (s_get 10 4 77) := h_get (k := 4) (C := RX12) (T := TX12) (N := 70) (ci := 10) rfl (by decide) (tin 6 166 (by decide +kernel) rfl)  (by decide +kernel : decode cX12_search 74 = .ok (.getfield 382, 3)) rfl
set_option maxRecDepth 100000 in
theorem s_103_77 (hC : SndC g HB l MM call) : Snd g HB l call cX12_search 3 yX12_search.cls yX12_search.name 77 (s_br2 3 193 80) := b_ige (by decide +kernel : decode cX12_search 77 = .ok (.if_icmp .ge 116, 3)) (by decide) rfl
set_option maxRecDepth 100000 in
theorem s_103_193 (hC : SndC g HB l MM call) : Snd g HB l call cX12_search 3 yX12_search.cls yX12_search.name 193 (lf (q_load isR 0 194)) := lf_ok (p_aload_n (by decide +kernel : decode cX12_search 193 = .ok (.aload_n 0, 1)) rfl rfl)
set_option maxRecDepth 100000 in
theorem s_103_194 (hC : SndC g HB l MM call) : Snd g HB l call cX12_search 3 yX12_search.cls yX12_search.name 194 (s_get 10 62 197) := h_get (k := 62) (C := RX12) (T := TX12) (N := 70) (ci := 10) rfl (by decide) (tin 6 223 (by decide +kernel) rfl)  (by decide +kernel : decode cX12_search 194 = .ok (.getfield 521, 3)) rfl
set_option maxRecDepth 100000 in
theorem ok_103 (hex : HB.size = g.1) (hC : SndC g HB l MM call) : ∀ x ∈ P_103, Snd g HB l call cX12_search 3 yX12_search.cls yX12_search.name x.1 x.2 := fa5 (s_103_0 hC) (fa5 (s_103_1 hC) (fa5 (s_103_2 hC) (fa5 (s_103_5 hC) (fa5 (s_103_8 hC) (fa5 (s_103_9 hC) (fa5 (s_103_10 hC) (fa5 (s_103_11 hC) (fa5 (s_103_12 hC) (fa5 (s_103_15 hC) (fa5 (s_103_36 hC) (fa5 (s_103_37 hC) (fa5 (s_103_38 hC) (fa5 (s_103_41 hC) (fa5 (s_103_44 hC) (fa5 (s_103_45 hC) (fa5 (s_103_49 hC) (fa5 (s_103_52 hC) (fa5 (s_103_53 hC) (fa5 (s_103_56 hC) (fa5 (s_103_61 hC) (fa5 (s_103_62 hC) (fa5 (s_103_65 hC) (fa5 (s_103_66 hC) (fa5 (s_103_67 hC) (fa5 (s_103_70 hC) (fa5 (s_103_71 hC) (fa5 (s_103_72 hC) (fa5 (s_103_73 hC) (fa5 (s_103_74 hC) (fa5 (s_103_77 hC) (fa5 (s_103_193 hC) (fa5 (s_103_194 hC) (fn5)))))))))))))))))))))))))))))))))
set_option maxRecDepth 100000 in
theorem ms_103 (hex : HB.size = g.1) : MSnd g HB l MM D_103 := ⟨by decide +kernel, fun _ hC => ok_103 hex hC, fa5 (show endOK cX12_search (some .int) 197 1 from ⟨rfl, (by decide +kernel : decode cX12_search 197 = .ok (.ireturn, 1))⟩) (fn5)⟩
set_option maxRecDepth 100000 in
theorem s_104_0 (hC : SndC g HB l MM call) : Snd g HB l call cX12_readQuery 10 yX12_readQuery.cls yX12_readQuery.name 0 (lf (q_load isR 0 1)) := lf_ok (p_aload_n (by decide +kernel : decode cX12_readQuery 0 = .ok (.aload_n 0, 1)) rfl rfl)
set_option maxRecDepth 100000 in
theorem s_104_1 (hC : SndC g HB l MM call) : Snd g HB l call cX12_readQuery 10 yX12_readQuery.cls yX12_readQuery.name 1 (lf (q_push (.inl 0) 2)) := lf_ok (p_iconst (by decide +kernel : decode cX12_readQuery 1 = .ok (.iconst 0, 1)) (by decide +kernel) rfl)
set_option maxRecDepth 100000 in
theorem s_104_2 (hC : SndC g HB l MM call) : Snd g HB l call cX12_readQuery 10 yX12_readQuery.cls yX12_readQuery.name 2 (s_put 10 45 0 5) := h_put (k := 45) (C := RX12) (T := TX12) (N := 70) (ci := 10) rfl (by decide) rfl rfl (tin 6 207 (by decide +kernel) rfl)  (by decide +kernel : decode cX12_readQuery 2 = .ok (.putfield 394, 3)) rfl
set_option maxRecDepth 100000 in
theorem s_104_5 (hC : SndC g HB l MM call) : Snd g HB l call cX12_readQuery 10 yX12_readQuery.cls yX12_readQuery.name 5 (lf (q_load isR 0 6)) := lf_ok (p_aload_n (by decide +kernel : decode cX12_readQuery 5 = .ok (.aload_n 0, 1)) rfl rfl)
set_option maxRecDepth 100000 in
theorem s_104_6 (hC : SndC g HB l MM call) : Snd g HB l call cX12_readQuery 10 yX12_readQuery.cls yX12_readQuery.name 6 (lf (q_push (.inl 0) 7)) := lf_ok (p_iconst (by decide +kernel : decode cX12_readQuery 6 = .ok (.iconst 0, 1)) (by decide +kernel) rfl)
set_option maxRecDepth 100000 in
theorem s_104_7 (hC : SndC g HB l MM call) : Snd g HB l call cX12_readQuery 10 yX12_readQuery.cls yX12_readQuery.name 7 (s_put 10 46 0 10) := h_put (k := 46) (C := RX12) (T := TX12) (N := 70) (ci := 10) rfl (by decide) rfl rfl (tin 6 208 (by decide +kernel) rfl)  (by decide +kernel : decode cX12_readQuery 7 = .ok (.putfield 403, 3)) rfl
set_option maxRecDepth 100000 in
theorem s_104_10 (hC : SndC g HB l MM call) : Snd g HB l call cX12_readQuery 10 yX12_readQuery.cls yX12_readQuery.name 10 (lf (q_load isR 0 11)) := lf_ok (p_aload_n (by decide +kernel : decode cX12_readQuery 10 = .ok (.aload_n 0, 1)) rfl rfl)
set_option maxRecDepth 100000 in
theorem s_104_11 (hC : SndC g HB l MM call) : Snd g HB l call cX12_readQuery 10 yX12_readQuery.cls yX12_readQuery.name 11 (lf (q_push (.inl 0) 12)) := lf_ok (p_iconst (by decide +kernel : decode cX12_readQuery 11 = .ok (.iconst 0, 1)) (by decide +kernel) rfl)
set_option maxRecDepth 100000 in
theorem s_104_12 (hC : SndC g HB l MM call) : Snd g HB l call cX12_readQuery 10 yX12_readQuery.cls yX12_readQuery.name 12 (s_put 10 47 0 15) := h_put (k := 47) (C := RX12) (T := TX12) (N := 70) (ci := 10) rfl (by decide) rfl rfl (tin 6 209 (by decide +kernel) rfl)  (by decide +kernel : decode cX12_readQuery 12 = .ok (.putfield 406, 3)) rfl
set_option maxRecDepth 100000 in
theorem s_104_15 (hC : SndC g HB l MM call) : Snd g HB l call cX12_readQuery 10 yX12_readQuery.cls yX12_readQuery.name 15 (lf (q_load isR 0 16)) := lf_ok (p_aload_n (by decide +kernel : decode cX12_readQuery 15 = .ok (.aload_n 0, 1)) rfl rfl)
set_option maxRecDepth 100000 in
theorem s_104_16 (hC : SndC g HB l MM call) : Snd g HB l call cX12_readQuery 10 yX12_readQuery.cls yX12_readQuery.name 16 (lf (q_push (.inl 0) 17)) := lf_ok (p_iconst (by decide +kernel : decode cX12_readQuery 16 = .ok (.iconst 0, 1)) (by decide +kernel) rfl)
set_option maxRecDepth 100000 in
theorem s_104_17 (hC : SndC g HB l MM call) : Snd g HB l call cX12_readQuery 10 yX12_readQuery.cls yX12_readQuery.name 17 (s_put 10 48 0 20) := h_put (k := 48) (C := RX12) (T := TX12) (N := 70) (ci := 10) rfl (by decide) rfl rfl (tin 6 210 (by decide +kernel) rfl)  (by decide +kernel : decode cX12_readQuery 17 = .ok (.putfield 391, 3)) rfl
set_option maxRecDepth 100000 in
theorem s_104_20 (hC : SndC g HB l MM call) : Snd g HB l call cX12_readQuery 10 yX12_readQuery.cls yX12_readQuery.name 20 (lf (q_push (.inl 0) 21)) := lf_ok (p_iconst (by decide +kernel : decode cX12_readQuery 20 = .ok (.iconst 0, 1)) (by decide +kernel) rfl)
set_option maxRecDepth 100000 in
theorem s_104_21 (hC : SndC g HB l MM call) : Snd g HB l call cX12_readQuery 10 yX12_readQuery.cls yX12_readQuery.name 21 (lf (q_store isI up1 0 1 10 22)) := lf_ok (p_istore_n (by decide +kernel : decode cX12_readQuery 21 = .ok (.istore_n 1, 1)) rfl rfl)
set_option maxRecDepth 100000 in
theorem s_104_22 (hC : SndC g HB l MM call) : Snd g HB l call cX12_readQuery 10 yX12_readQuery.cls yX12_readQuery.name 22 (lf (q_push (.inl 0) 23)) := lf_ok (p_iconst (by decide +kernel : decode cX12_readQuery 22 = .ok (.iconst 0, 1)) (by decide +kernel) rfl)
set_option maxRecDepth 100000 in
theorem s_104_23 (hC : SndC g HB l MM call) : Snd g HB l call cX12_readQuery 10 yX12_readQuery.cls yX12_readQuery.name 23 (lf (q_store isI up1 0 2 10 24)) := lf_ok (p_istore_n (by decide +kernel : decode cX12_readQuery 23 = .ok (.istore_n 2, 1)) rfl rfl)
set_option maxRecDepth 100000 in
theorem s_104_24 (hC : SndC g HB l MM call) : Snd g HB l call cX12_readQuery 10 yX12_readQuery.cls yX12_readQuery.name 24 (lf (q_push (.inl 0) 25)) := lf_ok (p_iconst (by decide +kernel : decode cX12_readQuery 24 = .ok (.iconst 0, 1)) (by decide +kernel) rfl)
set_option maxRecDepth 100000 in
theorem s_104_25 (hC : SndC g HB l MM call) : Snd g HB l call cX12_readQuery 10 yX12_readQuery.cls yX12_readQuery.name 25 (lf (q_store isI up1 0 3 10 26)) := lf_ok (p_istore_n (by decide +kernel : decode cX12_readQuery 25 = .ok (.istore_n 3, 1)) rfl rfl)
set_option maxRecDepth 100000 in
theorem s_104_26 (hC : SndC g HB l MM call) : Snd g HB l call cX12_readQuery 10 yX12_readQuery.cls yX12_readQuery.name 26 (lf (q_push (.inl 0) 27)) := lf_ok (p_iconst (by decide +kernel : decode cX12_readQuery 26 = .ok (.iconst 0, 1)) (by decide +kernel) rfl)
set_option maxRecDepth 100000 in
theorem s_104_27 (hC : SndC g HB l MM call) : Snd g HB l call cX12_readQuery 10 yX12_readQuery.cls yX12_readQuery.name 27 (lf (q_store isI up1 0 4 10 29)) := lf_ok (p_istore (by decide +kernel : decode cX12_readQuery 27 = .ok (.istore 4, 2)) rfl)
set_option maxRecDepth 100000 in
theorem s_104_29 (hC : SndC g HB l MM call) : Snd g HB l call cX12_readQuery 10 yX12_readQuery.cls yX12_readQuery.name 29 (lf (q_load isI 4 31)) := lf_ok (p_iload (by decide +kernel : decode cX12_readQuery 29 = .ok (.iload 4, 2)) rfl)
set_option maxRecDepth 100000 in
theorem s_104_31 (hC : SndC g HB l MM call) : Snd g HB l call cX12_readQuery 10 yX12_readQuery.cls yX12_readQuery.name 31 (lf (q_load isR 0 32)) := lf_ok (p_aload_n (by decide +kernel : decode cX12_readQuery 31 = .ok (.aload_n 0, 1)) rfl rfl)
set_option maxRecDepth 100000 in
theorem s_104_32 (hC : SndC g HB l MM call) : Snd g HB l call cX12_readQuery 10 yX12_readQuery.cls yX12_readQuery.name 32 (s_get 10 44 35) := h_get (k := 44) (C := RX12) (T := TX12) (N := 70) (ci := 10) rfl (by decide) (tin 6 206 (by decide +kernel) rfl)  (by decide +kernel : decode cX12_readQuery 32 = .ok (.getfield 412, 3)) rfl
set_option maxRecDepth 100000 in
theorem s_104_35 (hC : SndC g HB l MM call) : Snd g HB l call cX12_readQuery 10 yX12_readQuery.cls yX12_readQuery.name 35 (s_br2 3 362 38) := b_ige (by decide +kernel : decode cX12_readQuery 35 = .ok (.if_icmp .ge 327, 3)) (by decide) rfl
set_option maxRecDepth 100000 in
theorem s_104_362 (hC : SndC g HB l MM call) : Snd g HB l call cX12_readQuery 10 yX12_readQuery.cls yX12_readQuery.name 362 (lf (q_load isI 3 363)) := lf_ok (p_iload_n (by decide +kernel : decode cX12_readQuery 362 = .ok (.iload_n 3, 1)) rfl rfl)
set_option maxRecDepth 100000 in
theorem s_104_363 (hC : SndC g HB l MM call) : Snd g HB l call cX12_readQuery 10 yX12_readQuery.cls yX12_readQuery.name 363 (s_br1 0 383 366) := b_eq (by decide +kernel : decode cX12_readQuery 363 = .ok (.ifCond .eq 20, 3)) (by decide) rfl
set_option maxRecDepth 100000 in
theorem s_104_383 (hC : SndC g HB l MM call) : Snd g HB l call cX12_readQuery 10 yX12_readQuery.cls yX12_readQuery.name 383 (lf (q_load isR 0 384)) := lf_ok (p_aload_n (by decide +kernel : decode cX12_readQuery 383 = .ok (.aload_n 0, 1)) rfl rfl)
set_option maxRecDepth 100000 in
theorem s_104_384 (hC : SndC g HB l MM call) : Snd g HB l call cX12_readQuery 10 yX12_readQuery.cls yX12_readQuery.name 384 (lf (q_push (.inl 3) 385)) := lf_ok (p_iconst (by decide +kernel : decode cX12_readQuery 384 = .ok (.iconst 3, 1)) (by decide +kernel) rfl)
set_option maxRecDepth 100000 in
theorem s_104_385 (hC : SndC g HB l MM call) : Snd g HB l call cX12_readQuery 10 yX12_readQuery.cls yX12_readQuery.name 385 (s_cV 10 105 1 21 388) := c_V (C := RX12) (T := TX12) (N := 70) (ci := 10) rfl hC (M := MM) (id := 105) (d := D_105) rfl mok_105 rfl rfl (tin 7 205 (by decide +kernel) rfl) (tin 7 207 (by decide +kernel) rfl) (tinP (y := mdY D_105) (n := 70) 67 (by decide +kernel)) (tin 1 12 (by decide +kernel) rfl) (by decide +kernel : decode cX12_readQuery 385 = .ok (.invokevirtual 459, 3)) rfl
set_option maxRecDepth 100000 in
theorem s_104_388 (hC : SndC g HB l MM call) : Snd g HB l call cX12_readQuery 10 yX12_readQuery.cls yX12_readQuery.name 388 (lf (q_push (.inl 1) 389)) := lf_ok (p_iconst (by decide +kernel : decode cX12_readQuery 388 = .ok (.iconst 1, 1)) (by decide +kernel) rfl)
set_option maxRecDepth 100000 in
theorem ok_104 (hex : HB.size = g.1) (hC : SndC g HB l MM call) : ∀ x ∈ P_104, Snd g HB l call cX12_readQuery 10 yX12_readQuery.cls yX12_readQuery.name x.1 x.2 := fa5 (s_104_0 hC) (fa5 (s_104_1 hC) (fa5 (s_104_2 hC) (fa5 (s_104_5 hC) (fa5 (s_104_6 hC) (fa5 (s_104_7 hC) (fa5 (s_104_10 hC) (fa5 (s_104_11 hC) (fa5 (s_104_12 hC) (fa5 (s_104_15 hC) (fa5 (s_104_16 hC) (fa5 (s_104_17 hC) (fa5 (s_104_20 hC) (fa5 (s_104_21 hC) (fa5 (s_104_22 hC) (fa5 (s_104_23 hC) (fa5 (s_104_24 hC) (fa5 (s_104_25 hC) (fa5 (s_104_26 hC) (fa5 (s_104_27 hC) (fa5 (s_104_29 hC) (fa5 (s_104_31 hC) (fa5 (s_104_32 hC) (fa5 (s_104_35 hC) (fa5 (s_104_362 hC) (fa5 (s_104_363 hC) (fa5 (s_104_383 hC) (fa5 (s_104_384 hC) (fa5 (s_104_385 hC) (fa5 (s_104_388 hC) (fn5))))))))))))))))))))))))))))))
set_option maxRecDepth 100000 in
theorem ms_104 (hex : HB.size = g.1) : MSnd g HB l MM D_104 := ⟨by decide +kernel, fun _ hC => ok_104 hex hC, fa5 (show endOK cX12_readQuery (some .boolean) 389 2 from (by decide +kernel : decode cX12_readQuery 389 = .ok (.ireturn, 1))) (fn5)⟩
set_option maxRecDepth 100000 in
theorem s_105_0 (hC : SndC g HB l MM call) : Snd g HB l call cX12_unwind 2 yX12_unwind.cls yX12_unwind.name 0 (lf (q_load isR 0 1)) := lf_ok (p_aload_n (by decide +kernel : decode cX12_unwind 0 = .ok (.aload_n 0, 1)) rfl rfl)
set_option maxRecDepth 100000 in
theorem s_105_1 (hC : SndC g HB l MM call) : Snd g HB l call cX12_unwind 2 yX12_unwind.cls yX12_unwind.name 1 (s_get 10 47 4) := h_get (k := 47) (C := RX12) (T := TX12) (N := 70) (ci := 10) rfl (by decide) (tin 6 209 (by decide +kernel) rfl)  (by decide +kernel : decode cX12_unwind 1 = .ok (.getfield 406, 3)) rfl
set_option maxRecDepth 100000 in
theorem s_105_4 (hC : SndC g HB l MM call) : Snd g HB l call cX12_unwind 2 yX12_unwind.cls yX12_unwind.name 4 (s_br1 5 64 7) := b_le (by decide +kernel : decode cX12_unwind 4 = .ok (.ifCond .le 60, 3)) (by decide) rfl
set_option maxRecDepth 100000 in
theorem ok_105 (hex : HB.size = g.1) (hC : SndC g HB l MM call) : ∀ x ∈ P_105, Snd g HB l call cX12_unwind 2 yX12_unwind.cls yX12_unwind.name x.1 x.2 := fa5 (s_105_0 hC) (fa5 (s_105_1 hC) (fa5 (s_105_4 hC) (fn5)))
set_option maxRecDepth 100000 in
theorem ms_105 (hex : HB.size = g.1) : MSnd g HB l MM D_105 := ⟨by decide +kernel, fun _ hC => ok_105 hex hC, fa5 (show endOK cX12_unwind none 64 0 from ⟨rfl, (by decide +kernel : decode cX12_unwind 64 = .ok (.return_, 1))⟩) (fn5)⟩
end PR5
