/-! Each reached instruction does what its step computes. -/
theorem fa6 {α : Type} {p : α → Prop} {a : α} {l : List α} (h : p a) (t : ∀ x ∈ l, p x) : ∀ x ∈ a :: l, p x := List.forall_mem_cons.mpr ⟨h, t⟩
theorem fn6 {α : Type} {p : α → Prop} : ∀ x ∈ ([] : List α), p x := fun _ h => absurd h List.not_mem_nil
section PR6
variable {g : GG} {HB : Heap} {l : Launch} {call : CallF}
set_option maxRecDepth 100000 in
theorem s_106_0 (hC : SndC g HB l MM call) : Snd g HB l call cX12_link 2 yX12_link.cls yX12_link.name 0 (lf (q_load isR 0 1)) := lf_ok (p_aload_n (by decide +kernel : decode cX12_link 0 = .ok (.aload_n 0, 1)) rfl rfl)
set_option maxRecDepth 100000 in
theorem s_106_1 (hC : SndC g HB l MM call) : Snd g HB l call cX12_link 2 yX12_link.cls yX12_link.name 1 (lf (q_push (.inl 0) 2)) := lf_ok (p_iconst (by decide +kernel : decode cX12_link 1 = .ok (.iconst 0, 1)) (by decide +kernel) rfl)
set_option maxRecDepth 100000 in
theorem s_106_2 (hC : SndC g HB l MM call) : Snd g HB l call cX12_link 2 yX12_link.cls yX12_link.name 2 (s_put 10 37 0 5) := h_put (k := 37) (C := RX12) (T := TX12) (N := 70) (ci := 10) rfl (by decide) rfl rfl (tin 6 199 (by decide +kernel) rfl)  (by decide +kernel : decode cX12_link 2 = .ok (.putfield 370, 3)) rfl
set_option maxRecDepth 100000 in
theorem s_106_5 (hC : SndC g HB l MM call) : Snd g HB l call cX12_link 2 yX12_link.cls yX12_link.name 5 (lf (q_push (.inl 0) 6)) := lf_ok (p_iconst (by decide +kernel : decode cX12_link 5 = .ok (.iconst 0, 1)) (by decide +kernel) rfl)
set_option maxRecDepth 100000 in
theorem s_106_6 (hC : SndC g HB l MM call) : Snd g HB l call cX12_link 2 yX12_link.cls yX12_link.name 6 (lf (q_store isI up1 0 1 2 7)) := lf_ok (p_istore_n (by decide +kernel : decode cX12_link 6 = .ok (.istore_n 1, 1)) rfl rfl)
set_option maxRecDepth 100000 in
theorem s_106_7 (hC : SndC g HB l MM call) : Snd g HB l call cX12_link 2 yX12_link.cls yX12_link.name 7 (lf (q_load isI 1 8)) := lf_ok (p_iload_n (by decide +kernel : decode cX12_link 7 = .ok (.iload_n 1, 1)) rfl rfl)
set_option maxRecDepth 100000 in
theorem s_106_8 (hC : SndC g HB l MM call) : Snd g HB l call cX12_link 2 yX12_link.cls yX12_link.name 8 (lf (q_load isR 0 9)) := lf_ok (p_aload_n (by decide +kernel : decode cX12_link 8 = .ok (.aload_n 0, 1)) rfl rfl)
set_option maxRecDepth 100000 in
theorem s_106_9 (hC : SndC g HB l MM call) : Snd g HB l call cX12_link 2 yX12_link.cls yX12_link.name 9 (s_get 10 4 12) := h_get (k := 4) (C := RX12) (T := TX12) (N := 70) (ci := 10) rfl (by decide) (tin 6 166 (by decide +kernel) rfl)  (by decide +kernel : decode cX12_link 9 = .ok (.getfield 382, 3)) rfl
set_option maxRecDepth 100000 in
theorem s_106_12 (hC : SndC g HB l MM call) : Snd g HB l call cX12_link 2 yX12_link.cls yX12_link.name 12 (s_br2 3 35 15) := b_ige (by decide +kernel : decode cX12_link 12 = .ok (.if_icmp .ge 23, 3)) (by decide) rfl
set_option maxRecDepth 100000 in
theorem ok_106 (hex : HB.size = g.1) (hC : SndC g HB l MM call) : ∀ x ∈ P_106, Snd g HB l call cX12_link 2 yX12_link.cls yX12_link.name x.1 x.2 := fa6 (s_106_0 hC) (fa6 (s_106_1 hC) (fa6 (s_106_2 hC) (fa6 (s_106_5 hC) (fa6 (s_106_6 hC) (fa6 (s_106_7 hC) (fa6 (s_106_8 hC) (fa6 (s_106_9 hC) (fa6 (s_106_12 hC) (fn6)))))))))
set_option maxRecDepth 100000 in
theorem ms_106 (hex : HB.size = g.1) : MSnd g HB l MM D_106 := ⟨by decide +kernel, fun _ hC => ok_106 hex hC, fa6 (show endOK cX12_link none 35 0 from ⟨rfl, (by decide +kernel : decode cX12_link 35 = .ok (.return_, 1))⟩) (fn6)⟩
set_option maxRecDepth 100000 in
theorem s_107_0 (hC : SndC g HB l MM call) : Snd g HB l call cX12_fault 1 yX12_fault.cls yX12_fault.name 0 (lf (q_load isR 0 1)) := lf_ok (p_aload_n (by decide +kernel : decode cX12_fault 0 = .ok (.aload_n 0, 1)) rfl rfl)
set_option maxRecDepth 100000 in
theorem s_107_1 (hC : SndC g HB l MM call) : Snd g HB l call cX12_fault 1 yX12_fault.cls yX12_fault.name 1 (lf (q_push (.inl 0) 2)) := lf_ok (p_iconst (by decide +kernel : decode cX12_fault 1 = .ok (.iconst 0, 1)) (by decide +kernel) rfl)
set_option maxRecDepth 100000 in
theorem s_107_2 (hC : SndC g HB l MM call) : Snd g HB l call cX12_fault 1 yX12_fault.cls yX12_fault.name 2 (s_put 10 0 0 5) := h_put (k := 0) (C := RX12) (T := TX12) (N := 70) (ci := 10) rfl (by decide) rfl rfl (tin 6 162 (by decide +kernel) rfl)  (by decide +kernel : decode cX12_fault 2 = .ok (.putfield 154, 3)) rfl
set_option maxRecDepth 100000 in
theorem s_107_5 (hC : SndC g HB l MM call) : Snd g HB l call cX12_fault 1 yX12_fault.cls yX12_fault.name 5 (lf (q_load isR 0 6)) := lf_ok (p_aload_n (by decide +kernel : decode cX12_fault 5 = .ok (.aload_n 0, 1)) rfl rfl)
set_option maxRecDepth 100000 in
theorem s_107_6 (hC : SndC g HB l MM call) : Snd g HB l call cX12_fault 1 yX12_fault.cls yX12_fault.name 6 (s_get 10 48 9) := h_get (k := 48) (C := RX12) (T := TX12) (N := 70) (ci := 10) rfl (by decide) (tin 6 210 (by decide +kernel) rfl)  (by decide +kernel : decode cX12_fault 6 = .ok (.getfield 391, 3)) rfl
set_option maxRecDepth 100000 in
theorem ok_107 (hex : HB.size = g.1) (hC : SndC g HB l MM call) : ∀ x ∈ P_107, Snd g HB l call cX12_fault 1 yX12_fault.cls yX12_fault.name x.1 x.2 := fa6 (s_107_0 hC) (fa6 (s_107_1 hC) (fa6 (s_107_2 hC) (fa6 (s_107_5 hC) (fa6 (s_107_6 hC) (fn6)))))
set_option maxRecDepth 100000 in
theorem ms_107 (hex : HB.size = g.1) : MSnd g HB l MM D_107 := ⟨by decide +kernel, fun _ hC => ok_107 hex hC, fa6 (show endOK cX12_fault (some .int) 9 1 from ⟨rfl, (by decide +kernel : decode cX12_fault 9 = .ok (.ireturn, 1))⟩) (fn6)⟩
set_option maxRecDepth 100000 in
theorem s_108_0 (hC : SndC g HB l MM call) : Snd g HB l call cX12_found 2 yX12_found.cls yX12_found.name 0 (lf (q_load isR 0 1)) := lf_ok (p_aload_n (by decide +kernel : decode cX12_found 0 = .ok (.aload_n 0, 1)) rfl rfl)
set_option maxRecDepth 100000 in
theorem s_108_1 (hC : SndC g HB l MM call) : Snd g HB l call cX12_found 2 yX12_found.cls yX12_found.name 1 (lf (q_push (.inl 0) 2)) := lf_ok (p_iconst (by decide +kernel : decode cX12_found 1 = .ok (.iconst 0, 1)) (by decide +kernel) rfl)
set_option maxRecDepth 100000 in
theorem s_108_2 (hC : SndC g HB l MM call) : Snd g HB l call cX12_found 2 yX12_found.cls yX12_found.name 2 (s_put 10 0 0 5) := h_put (k := 0) (C := RX12) (T := TX12) (N := 70) (ci := 10) rfl (by decide) rfl rfl (tin 6 162 (by decide +kernel) rfl)  (by decide +kernel : decode cX12_found 2 = .ok (.putfield 154, 3)) rfl
set_option maxRecDepth 100000 in
theorem s_108_5 (hC : SndC g HB l MM call) : Snd g HB l call cX12_found 2 yX12_found.cls yX12_found.name 5 (lf (q_load isI 1 6)) := lf_ok (p_iload_n (by decide +kernel : decode cX12_found 5 = .ok (.iload_n 1, 1)) rfl rfl)
set_option maxRecDepth 100000 in
theorem s_108_6 (hC : SndC g HB l MM call) : Snd g HB l call cX12_found 2 yX12_found.cls yX12_found.name 6 (s_br1 2 26 9) := b_lt (by decide +kernel : decode cX12_found 6 = .ok (.ifCond .lt 20, 3)) (by decide) rfl
set_option maxRecDepth 100000 in
theorem s_108_9 (hC : SndC g HB l MM call) : Snd g HB l call cX12_found 2 yX12_found.cls yX12_found.name 9 (lf (q_load isI 1 10)) := lf_ok (p_iload_n (by decide +kernel : decode cX12_found 9 = .ok (.iload_n 1, 1)) rfl rfl)
set_option maxRecDepth 100000 in
theorem s_108_10 (hC : SndC g HB l MM call) : Snd g HB l call cX12_found 2 yX12_found.cls yX12_found.name 10 (lf (q_load isR 0 11)) := lf_ok (p_aload_n (by decide +kernel : decode cX12_found 10 = .ok (.aload_n 0, 1)) rfl rfl)
set_option maxRecDepth 100000 in
theorem s_108_11 (hC : SndC g HB l MM call) : Snd g HB l call cX12_found 2 yX12_found.cls yX12_found.name 11 (s_get 10 62 14) := h_get (k := 62) (C := RX12) (T := TX12) (N := 70) (ci := 10) rfl (by decide) (tin 6 223 (by decide +kernel) rfl)  (by decide +kernel : decode cX12_found 11 = .ok (.getfield 521, 3)) rfl
set_option maxRecDepth 100000 in
theorem s_108_14 (hC : SndC g HB l MM call) : Snd g HB l call cX12_found 2 yX12_found.cls yX12_found.name 14 (s_br2 3 26 17) := b_ige (by decide +kernel : decode cX12_found 14 = .ok (.if_icmp .ge 12, 3)) (by decide) rfl
set_option maxRecDepth 100000 in
theorem s_108_26 (hC : SndC g HB l MM call) : Snd g HB l call cX12_found 2 yX12_found.cls yX12_found.name 26 (lf (q_push (.inl 4294967295) 27)) := lf_ok (p_iconst (by decide +kernel : decode cX12_found 26 = .ok (.iconst (-1), 1)) (by decide +kernel) rfl)
set_option maxRecDepth 100000 in
theorem ok_108 (hex : HB.size = g.1) (hC : SndC g HB l MM call) : ∀ x ∈ P_108, Snd g HB l call cX12_found 2 yX12_found.cls yX12_found.name x.1 x.2 := fa6 (s_108_0 hC) (fa6 (s_108_1 hC) (fa6 (s_108_2 hC) (fa6 (s_108_5 hC) (fa6 (s_108_6 hC) (fa6 (s_108_9 hC) (fa6 (s_108_10 hC) (fa6 (s_108_11 hC) (fa6 (s_108_14 hC) (fa6 (s_108_26 hC) (fn6))))))))))
set_option maxRecDepth 100000 in
theorem ms_108 (hex : HB.size = g.1) : MSnd g HB l MM D_108 := ⟨by decide +kernel, fun _ hC => ok_108 hex hC, fa6 (show endOK cX12_found (some .int) 27 1 from ⟨rfl, (by decide +kernel : decode cX12_found 27 = .ok (.ireturn, 1))⟩) (fn6)⟩
set_option maxRecDepth 100000 in
theorem s_109_0 (hC : SndC g HB l MM call) : Snd g HB l call cX12_thread 2 yX12_thread.cls yX12_thread.name 0 (lf (q_load isR 0 1)) := lf_ok (p_aload_n (by decide +kernel : decode cX12_thread 0 = .ok (.aload_n 0, 1)) rfl rfl)
set_option maxRecDepth 100000 in
theorem s_109_1 (hC : SndC g HB l MM call) : Snd g HB l call cX12_thread 2 yX12_thread.cls yX12_thread.name 1 (lf (q_push (.inl 0) 2)) := lf_ok (p_iconst (by decide +kernel : decode cX12_thread 1 = .ok (.iconst 0, 1)) (by decide +kernel) rfl)
set_option maxRecDepth 100000 in
theorem s_109_2 (hC : SndC g HB l MM call) : Snd g HB l call cX12_thread 2 yX12_thread.cls yX12_thread.name 2 (s_put 10 0 0 5) := h_put (k := 0) (C := RX12) (T := TX12) (N := 70) (ci := 10) rfl (by decide) rfl rfl (tin 6 162 (by decide +kernel) rfl)  (by decide +kernel : decode cX12_thread 2 = .ok (.putfield 154, 3)) rfl
set_option maxRecDepth 100000 in
theorem s_109_5 (hC : SndC g HB l MM call) : Snd g HB l call cX12_thread 2 yX12_thread.cls yX12_thread.name 5 (lf (q_load isI 1 6)) := lf_ok (p_iload_n (by decide +kernel : decode cX12_thread 5 = .ok (.iload_n 1, 1)) rfl rfl)
set_option maxRecDepth 100000 in
theorem s_109_6 (hC : SndC g HB l MM call) : Snd g HB l call cX12_thread 2 yX12_thread.cls yX12_thread.name 6 (s_br1 2 26 9) := b_lt (by decide +kernel : decode cX12_thread 6 = .ok (.ifCond .lt 20, 3)) (by decide) rfl
set_option maxRecDepth 100000 in
theorem s_109_9 (hC : SndC g HB l MM call) : Snd g HB l call cX12_thread 2 yX12_thread.cls yX12_thread.name 9 (lf (q_load isI 1 10)) := lf_ok (p_iload_n (by decide +kernel : decode cX12_thread 9 = .ok (.iload_n 1, 1)) rfl rfl)
set_option maxRecDepth 100000 in
theorem s_109_10 (hC : SndC g HB l MM call) : Snd g HB l call cX12_thread 2 yX12_thread.cls yX12_thread.name 10 (lf (q_load isR 0 11)) := lf_ok (p_aload_n (by decide +kernel : decode cX12_thread 10 = .ok (.aload_n 0, 1)) rfl rfl)
set_option maxRecDepth 100000 in
theorem s_109_11 (hC : SndC g HB l MM call) : Snd g HB l call cX12_thread 2 yX12_thread.cls yX12_thread.name 11 (s_get 10 63 14) := h_get (k := 63) (C := RX12) (T := TX12) (N := 70) (ci := 10) rfl (by decide) (tin 6 224 (by decide +kernel) rfl)  (by decide +kernel : decode cX12_thread 11 = .ok (.getfield 527, 3)) rfl
set_option maxRecDepth 100000 in
theorem s_109_14 (hC : SndC g HB l MM call) : Snd g HB l call cX12_thread 2 yX12_thread.cls yX12_thread.name 14 (s_br2 3 26 17) := b_ige (by decide +kernel : decode cX12_thread 14 = .ok (.if_icmp .ge 12, 3)) (by decide) rfl
set_option maxRecDepth 100000 in
theorem s_109_26 (hC : SndC g HB l MM call) : Snd g HB l call cX12_thread 2 yX12_thread.cls yX12_thread.name 26 (lf (q_push (.inl 4294967295) 27)) := lf_ok (p_iconst (by decide +kernel : decode cX12_thread 26 = .ok (.iconst (-1), 1)) (by decide +kernel) rfl)
set_option maxRecDepth 100000 in
theorem ok_109 (hex : HB.size = g.1) (hC : SndC g HB l MM call) : ∀ x ∈ P_109, Snd g HB l call cX12_thread 2 yX12_thread.cls yX12_thread.name x.1 x.2 := fa6 (s_109_0 hC) (fa6 (s_109_1 hC) (fa6 (s_109_2 hC) (fa6 (s_109_5 hC) (fa6 (s_109_6 hC) (fa6 (s_109_9 hC) (fa6 (s_109_10 hC) (fa6 (s_109_11 hC) (fa6 (s_109_14 hC) (fa6 (s_109_26 hC) (fn6))))))))))
set_option maxRecDepth 100000 in
theorem ms_109 (hex : HB.size = g.1) : MSnd g HB l MM D_109 := ⟨by decide +kernel, fun _ hC => ok_109 hex hC, fa6 (show endOK cX12_thread (some .int) 27 1 from ⟨rfl, (by decide +kernel : decode cX12_thread 27 = .ok (.ireturn, 1))⟩) (fn6)⟩
set_option maxRecDepth 100000 in
theorem s_110_0 (hC : SndC g HB l MM call) : Snd g HB l call cX12_conversations 5 yX12_conversations.cls yX12_conversations.name 0 (lf (q_load isR 0 1)) := lf_ok (p_aload_n (by decide +kernel : decode cX12_conversations 0 = .ok (.aload_n 0, 1)) rfl rfl)
set_option maxRecDepth 100000 in
theorem s_110_1 (hC : SndC g HB l MM call) : Snd g HB l call cX12_conversations 5 yX12_conversations.cls yX12_conversations.name 1 (lf (q_push (.inl 0) 2)) := lf_ok (p_iconst (by decide +kernel : decode cX12_conversations 1 = .ok (.iconst 0, 1)) (by decide +kernel) rfl)
set_option maxRecDepth 100000 in
theorem s_110_2 (hC : SndC g HB l MM call) : Snd g HB l call cX12_conversations 5 yX12_conversations.cls yX12_conversations.name 2 (s_put 10 0 0 5) := h_put (k := 0) (C := RX12) (T := TX12) (N := 70) (ci := 10) rfl (by decide) rfl rfl (tin 6 162 (by decide +kernel) rfl)  (by decide +kernel : decode cX12_conversations 2 = .ok (.putfield 154, 3)) rfl
set_option maxRecDepth 100000 in
theorem s_110_5 (hC : SndC g HB l MM call) : Snd g HB l call cX12_conversations 5 yX12_conversations.cls yX12_conversations.name 5 (lf (q_load isR 0 6)) := lf_ok (p_aload_n (by decide +kernel : decode cX12_conversations 5 = .ok (.aload_n 0, 1)) rfl rfl)
set_option maxRecDepth 100000 in
theorem s_110_6 (hC : SndC g HB l MM call) : Snd g HB l call cX12_conversations 5 yX12_conversations.cls yX12_conversations.name 6 (s_cV 10 106 0 21 9) := c_V (C := RX12) (T := TX12) (N := 70) (ci := 10) rfl hC (M := MM) (id := 106) (d := D_106) rfl mok_106 rfl rfl (tin 8 25 (by decide +kernel) rfl) (tin 8 27 (by decide +kernel) rfl) (tinP (y := mdY D_106) (n := 70) 77 (by decide +kernel)) (tin 1 12 (by decide +kernel) rfl) (by decide +kernel : decode cX12_conversations 6 = .ok (.invokevirtual 518, 3)) rfl
set_option maxRecDepth 100000 in
theorem s_110_9 (hC : SndC g HB l MM call) : Snd g HB l call cX12_conversations 5 yX12_conversations.cls yX12_conversations.name 9 (lf (q_load isR 0 10)) := lf_ok (p_aload_n (by decide +kernel : decode cX12_conversations 9 = .ok (.aload_n 0, 1)) rfl rfl)
set_option maxRecDepth 100000 in
theorem s_110_10 (hC : SndC g HB l MM call) : Snd g HB l call cX12_conversations 5 yX12_conversations.cls yX12_conversations.name 10 (lf (q_push (.inl 0) 11)) := lf_ok (p_iconst (by decide +kernel : decode cX12_conversations 10 = .ok (.iconst 0, 1)) (by decide +kernel) rfl)
set_option maxRecDepth 100000 in
theorem s_110_11 (hC : SndC g HB l MM call) : Snd g HB l call cX12_conversations 5 yX12_conversations.cls yX12_conversations.name 11 (s_put 10 63 0 14) := h_put (k := 63) (C := RX12) (T := TX12) (N := 70) (ci := 10) rfl (by decide) rfl rfl (tin 6 224 (by decide +kernel) rfl)  (by decide +kernel : decode cX12_conversations 11 = .ok (.putfield 527, 3)) rfl
set_option maxRecDepth 100000 in
theorem s_110_14 (hC : SndC g HB l MM call) : Snd g HB l call cX12_conversations 5 yX12_conversations.cls yX12_conversations.name 14 (lf (q_push (.inl 0) 15)) := lf_ok (p_iconst (by decide +kernel : decode cX12_conversations 14 = .ok (.iconst 0, 1)) (by decide +kernel) rfl)
set_option maxRecDepth 100000 in
theorem s_110_15 (hC : SndC g HB l MM call) : Snd g HB l call cX12_conversations 5 yX12_conversations.cls yX12_conversations.name 15 (lf (q_store isI up1 0 1 5 16)) := lf_ok (p_istore_n (by decide +kernel : decode cX12_conversations 15 = .ok (.istore_n 1, 1)) rfl rfl)
set_option maxRecDepth 100000 in
theorem s_110_16 (hC : SndC g HB l MM call) : Snd g HB l call cX12_conversations 5 yX12_conversations.cls yX12_conversations.name 16 (lf (q_load isI 1 17)) := lf_ok (p_iload_n (by decide +kernel : decode cX12_conversations 16 = .ok (.iload_n 1, 1)) rfl rfl)
set_option maxRecDepth 100000 in
theorem s_110_17 (hC : SndC g HB l MM call) : Snd g HB l call cX12_conversations 5 yX12_conversations.cls yX12_conversations.name 17 (lf (q_load isR 0 18)) := lf_ok (p_aload_n (by decide +kernel : decode cX12_conversations 17 = .ok (.aload_n 0, 1)) rfl rfl)
set_option maxRecDepth 100000 in
theorem s_110_18 (hC : SndC g HB l MM call) : Snd g HB l call cX12_conversations 5 yX12_conversations.cls yX12_conversations.name 18 (s_get 10 62 21) := h_get (k := 62) (C := RX12) (T := TX12) (N := 70) (ci := 10) rfl (by decide) (tin 6 223 (by decide +kernel) rfl)  (by decide +kernel : decode cX12_conversations 18 = .ok (.getfield 521, 3)) rfl
set_option maxRecDepth 100000 in
theorem s_110_21 (hC : SndC g HB l MM call) : Snd g HB l call cX12_conversations 5 yX12_conversations.cls yX12_conversations.name 21 (s_br2 3 126 24) := b_ige (by decide +kernel : decode cX12_conversations 21 = .ok (.if_icmp .ge 105, 3)) (by decide) rfl
set_option maxRecDepth 100000 in
theorem s_110_126 (hC : SndC g HB l MM call) : Snd g HB l call cX12_conversations 5 yX12_conversations.cls yX12_conversations.name 126 (lf (q_load isR 0 127)) := lf_ok (p_aload_n (by decide +kernel : decode cX12_conversations 126 = .ok (.aload_n 0, 1)) rfl rfl)
set_option maxRecDepth 100000 in
theorem s_110_127 (hC : SndC g HB l MM call) : Snd g HB l call cX12_conversations 5 yX12_conversations.cls yX12_conversations.name 127 (s_get 10 63 130) := h_get (k := 63) (C := RX12) (T := TX12) (N := 70) (ci := 10) rfl (by decide) (tin 6 224 (by decide +kernel) rfl)  (by decide +kernel : decode cX12_conversations 127 = .ok (.getfield 527, 3)) rfl
set_option maxRecDepth 100000 in
theorem ok_110 (hex : HB.size = g.1) (hC : SndC g HB l MM call) : ∀ x ∈ P_110, Snd g HB l call cX12_conversations 5 yX12_conversations.cls yX12_conversations.name x.1 x.2 := fa6 (s_110_0 hC) (fa6 (s_110_1 hC) (fa6 (s_110_2 hC) (fa6 (s_110_5 hC) (fa6 (s_110_6 hC) (fa6 (s_110_9 hC) (fa6 (s_110_10 hC) (fa6 (s_110_11 hC) (fa6 (s_110_14 hC) (fa6 (s_110_15 hC) (fa6 (s_110_16 hC) (fa6 (s_110_17 hC) (fa6 (s_110_18 hC) (fa6 (s_110_21 hC) (fa6 (s_110_126 hC) (fa6 (s_110_127 hC) (fn6))))))))))))))))
set_option maxRecDepth 100000 in
theorem ms_110 (hex : HB.size = g.1) : MSnd g HB l MM D_110 := ⟨by decide +kernel, fun _ hC => ok_110 hex hC, fa6 (show endOK cX12_conversations (some .int) 130 1 from ⟨rfl, (by decide +kernel : decode cX12_conversations 130 = .ok (.ireturn, 1))⟩) (fn6)⟩
set_option maxRecDepth 100000 in
theorem s_111_0 (hC : SndC g HB l MM call) : Snd g HB l call cX12_about 3 yX12_about.cls yX12_about.name 0 (lf (q_load isR 0 1)) := lf_ok (p_aload_n (by decide +kernel : decode cX12_about 0 = .ok (.aload_n 0, 1)) rfl rfl)
set_option maxRecDepth 100000 in
theorem s_111_1 (hC : SndC g HB l MM call) : Snd g HB l call cX12_about 3 yX12_about.cls yX12_about.name 1 (lf (q_push (.inl 0) 2)) := lf_ok (p_iconst (by decide +kernel : decode cX12_about 1 = .ok (.iconst 0, 1)) (by decide +kernel) rfl)
set_option maxRecDepth 100000 in
theorem s_111_2 (hC : SndC g HB l MM call) : Snd g HB l call cX12_about 3 yX12_about.cls yX12_about.name 2 (s_put 10 0 0 5) := h_put (k := 0) (C := RX12) (T := TX12) (N := 70) (ci := 10) rfl (by decide) rfl rfl (tin 6 162 (by decide +kernel) rfl)  (by decide +kernel : decode cX12_about 2 = .ok (.putfield 154, 3)) rfl
set_option maxRecDepth 100000 in
theorem s_111_5 (hC : SndC g HB l MM call) : Snd g HB l call cX12_about 3 yX12_about.cls yX12_about.name 5 (lf (q_load isR 0 6)) := lf_ok (p_aload_n (by decide +kernel : decode cX12_about 5 = .ok (.aload_n 0, 1)) rfl rfl)
set_option maxRecDepth 100000 in
theorem s_111_6 (hC : SndC g HB l MM call) : Snd g HB l call cX12_about 3 yX12_about.cls yX12_about.name 6 (lf (q_load isI 1 7)) := lf_ok (p_iload_n (by decide +kernel : decode cX12_about 6 = .ok (.iload_n 1, 1)) rfl rfl)
set_option maxRecDepth 100000 in
theorem s_111_7 (hC : SndC g HB l MM call) : Snd g HB l call cX12_about 3 yX12_about.cls yX12_about.name 7 (s_cV 10 101 1 21 10) := c_V (C := RX12) (T := TX12) (N := 70) (ci := 10) rfl hC (M := MM) (id := 101) (d := D_101) rfl mok_101 rfl rfl (tin 7 156 (by decide +kernel) rfl) (tin 7 158 (by decide +kernel) rfl) (tinP (y := mdY D_101) (n := 70) 60 (by decide +kernel)) (tin 1 12 (by decide +kernel) rfl) (by decide +kernel : decode cX12_about 7 = .ok (.invokevirtual 505, 3)) rfl
set_option maxRecDepth 100000 in
theorem s_111_10 (hC : SndC g HB l MM call) : Snd g HB l call cX12_about 3 yX12_about.cls yX12_about.name 10 (s_br1 0 23 13) := b_eq (by decide +kernel : decode cX12_about 10 = .ok (.ifCond .eq 13, 3)) (by decide) rfl
set_option maxRecDepth 100000 in
theorem s_111_23 (hC : SndC g HB l MM call) : Snd g HB l call cX12_about 3 yX12_about.cls yX12_about.name 23 (lf (q_push (.inl 4294967295) 24)) := lf_ok (p_iconst (by decide +kernel : decode cX12_about 23 = .ok (.iconst (-1), 1)) (by decide +kernel) rfl)
set_option maxRecDepth 100000 in
theorem ok_111 (hex : HB.size = g.1) (hC : SndC g HB l MM call) : ∀ x ∈ P_111, Snd g HB l call cX12_about 3 yX12_about.cls yX12_about.name x.1 x.2 := fa6 (s_111_0 hC) (fa6 (s_111_1 hC) (fa6 (s_111_2 hC) (fa6 (s_111_5 hC) (fa6 (s_111_6 hC) (fa6 (s_111_7 hC) (fa6 (s_111_10 hC) (fa6 (s_111_23 hC) (fn6))))))))
set_option maxRecDepth 100000 in
theorem ms_111 (hex : HB.size = g.1) : MSnd g HB l MM D_111 := ⟨by decide +kernel, fun _ hC => ok_111 hex hC, fa6 (show endOK cX12_about (some .int) 24 1 from ⟨rfl, (by decide +kernel : decode cX12_about 24 = .ok (.ireturn, 1))⟩) (fn6)⟩
set_option maxRecDepth 100000 in
theorem s_112_0 (hC : SndC g HB l MM call) : Snd g HB l call cX12_at 5 yX12_at.cls yX12_at.name 0 (lf (q_load isR 0 1)) := lf_ok (p_aload_n (by decide +kernel : decode cX12_at 0 = .ok (.aload_n 0, 1)) rfl rfl)
set_option maxRecDepth 100000 in
theorem s_112_1 (hC : SndC g HB l MM call) : Snd g HB l call cX12_at 5 yX12_at.cls yX12_at.name 1 (lf (q_push (.inl 0) 2)) := lf_ok (p_iconst (by decide +kernel : decode cX12_at 1 = .ok (.iconst 0, 1)) (by decide +kernel) rfl)
set_option maxRecDepth 100000 in
theorem s_112_2 (hC : SndC g HB l MM call) : Snd g HB l call cX12_at 5 yX12_at.cls yX12_at.name 2 (s_put 10 0 0 5) := h_put (k := 0) (C := RX12) (T := TX12) (N := 70) (ci := 10) rfl (by decide) rfl rfl (tin 6 162 (by decide +kernel) rfl)  (by decide +kernel : decode cX12_at 2 = .ok (.putfield 154, 3)) rfl
set_option maxRecDepth 100000 in
theorem s_112_5 (hC : SndC g HB l MM call) : Snd g HB l call cX12_at 5 yX12_at.cls yX12_at.name 5 (lf (q_load isR 0 6)) := lf_ok (p_aload_n (by decide +kernel : decode cX12_at 5 = .ok (.aload_n 0, 1)) rfl rfl)
set_option maxRecDepth 100000 in
theorem s_112_6 (hC : SndC g HB l MM call) : Snd g HB l call cX12_at 5 yX12_at.cls yX12_at.name 6 (lf (q_load isI 1 7)) := lf_ok (p_iload_n (by decide +kernel : decode cX12_at 6 = .ok (.iload_n 1, 1)) rfl rfl)
set_option maxRecDepth 100000 in
theorem s_112_7 (hC : SndC g HB l MM call) : Snd g HB l call cX12_at 5 yX12_at.cls yX12_at.name 7 (s_cV 10 101 1 21 10) := c_V (C := RX12) (T := TX12) (N := 70) (ci := 10) rfl hC (M := MM) (id := 101) (d := D_101) rfl mok_101 rfl rfl (tin 7 156 (by decide +kernel) rfl) (tin 7 158 (by decide +kernel) rfl) (tinP (y := mdY D_101) (n := 70) 60 (by decide +kernel)) (tin 1 12 (by decide +kernel) rfl) (by decide +kernel : decode cX12_at 7 = .ok (.invokevirtual 505, 3)) rfl
set_option maxRecDepth 100000 in
theorem s_112_10 (hC : SndC g HB l MM call) : Snd g HB l call cX12_at 5 yX12_at.cls yX12_at.name 10 (s_br1 0 32 13) := b_eq (by decide +kernel : decode cX12_at 10 = .ok (.ifCond .eq 22, 3)) (by decide) rfl
set_option maxRecDepth 100000 in
theorem s_112_32 (hC : SndC g HB l MM call) : Snd g HB l call cX12_at 5 yX12_at.cls yX12_at.name 32 (lf (q_push (.inl 4294967295) 33)) := lf_ok (p_iconst (by decide +kernel : decode cX12_at 32 = .ok (.iconst (-1), 1)) (by decide +kernel) rfl)
set_option maxRecDepth 100000 in
theorem ok_112 (hex : HB.size = g.1) (hC : SndC g HB l MM call) : ∀ x ∈ P_112, Snd g HB l call cX12_at 5 yX12_at.cls yX12_at.name x.1 x.2 := fa6 (s_112_0 hC) (fa6 (s_112_1 hC) (fa6 (s_112_2 hC) (fa6 (s_112_5 hC) (fa6 (s_112_6 hC) (fa6 (s_112_7 hC) (fa6 (s_112_10 hC) (fa6 (s_112_32 hC) (fn6))))))))
set_option maxRecDepth 100000 in
theorem ms_112 (hex : HB.size = g.1) : MSnd g HB l MM D_112 := ⟨by decide +kernel, fun _ hC => ok_112 hex hC, fa6 (show endOK cX12_at (some .int) 33 1 from ⟨rfl, (by decide +kernel : decode cX12_at 33 = .ok (.ireturn, 1))⟩) (fn6)⟩
set_option maxRecDepth 100000 in
theorem s_113_0 (hC : SndC g HB l MM call) : Snd g HB l call cX12_count 5 yX12_count.cls yX12_count.name 0 (lf (q_load isR 0 1)) := lf_ok (p_aload_n (by decide +kernel : decode cX12_count 0 = .ok (.aload_n 0, 1)) rfl rfl)
set_option maxRecDepth 100000 in
theorem s_113_1 (hC : SndC g HB l MM call) : Snd g HB l call cX12_count 5 yX12_count.cls yX12_count.name 1 (lf (q_push (.inl 0) 2)) := lf_ok (p_iconst (by decide +kernel : decode cX12_count 1 = .ok (.iconst 0, 1)) (by decide +kernel) rfl)
set_option maxRecDepth 100000 in
theorem s_113_2 (hC : SndC g HB l MM call) : Snd g HB l call cX12_count 5 yX12_count.cls yX12_count.name 2 (s_put 10 0 0 5) := h_put (k := 0) (C := RX12) (T := TX12) (N := 70) (ci := 10) rfl (by decide) rfl rfl (tin 6 162 (by decide +kernel) rfl)  (by decide +kernel : decode cX12_count 2 = .ok (.putfield 154, 3)) rfl
set_option maxRecDepth 100000 in
theorem s_113_5 (hC : SndC g HB l MM call) : Snd g HB l call cX12_count 5 yX12_count.cls yX12_count.name 5 (lf (q_load isR 0 6)) := lf_ok (p_aload_n (by decide +kernel : decode cX12_count 5 = .ok (.aload_n 0, 1)) rfl rfl)
set_option maxRecDepth 100000 in
theorem s_113_6 (hC : SndC g HB l MM call) : Snd g HB l call cX12_count 5 yX12_count.cls yX12_count.name 6 (lf (q_push (.inl 0) 7)) := lf_ok (p_iconst (by decide +kernel : decode cX12_count 6 = .ok (.iconst 0, 1)) (by decide +kernel) rfl)
set_option maxRecDepth 100000 in
theorem s_113_7 (hC : SndC g HB l MM call) : Snd g HB l call cX12_count 5 yX12_count.cls yX12_count.name 7 (s_put 10 67 0 10) := h_put (k := 67) (C := RX12) (T := TX12) (N := 70) (ci := 10) rfl (by decide) rfl rfl (tin 6 228 (by decide +kernel) rfl)  (by decide +kernel : decode cX12_count 7 = .ok (.putfield 536, 3)) rfl
set_option maxRecDepth 100000 in
theorem s_113_10 (hC : SndC g HB l MM call) : Snd g HB l call cX12_count 5 yX12_count.cls yX12_count.name 10 (lf (q_push (.inl 0) 11)) := lf_ok (p_iconst (by decide +kernel : decode cX12_count 10 = .ok (.iconst 0, 1)) (by decide +kernel) rfl)
set_option maxRecDepth 100000 in
theorem s_113_11 (hC : SndC g HB l MM call) : Snd g HB l call cX12_count 5 yX12_count.cls yX12_count.name 11 (lf (q_store isI up1 0 2 5 12)) := lf_ok (p_istore_n (by decide +kernel : decode cX12_count 11 = .ok (.istore_n 2, 1)) rfl rfl)
set_option maxRecDepth 100000 in
theorem s_113_12 (hC : SndC g HB l MM call) : Snd g HB l call cX12_count 5 yX12_count.cls yX12_count.name 12 (lf (q_load isI 2 13)) := lf_ok (p_iload_n (by decide +kernel : decode cX12_count 12 = .ok (.iload_n 2, 1)) rfl rfl)
set_option maxRecDepth 100000 in
theorem s_113_13 (hC : SndC g HB l MM call) : Snd g HB l call cX12_count 5 yX12_count.cls yX12_count.name 13 (lf (q_load isR 0 14)) := lf_ok (p_aload_n (by decide +kernel : decode cX12_count 13 = .ok (.aload_n 0, 1)) rfl rfl)
set_option maxRecDepth 100000 in
theorem s_113_14 (hC : SndC g HB l MM call) : Snd g HB l call cX12_count 5 yX12_count.cls yX12_count.name 14 (s_get 10 4 17) := h_get (k := 4) (C := RX12) (T := TX12) (N := 70) (ci := 10) rfl (by decide) (tin 6 166 (by decide +kernel) rfl)  (by decide +kernel : decode cX12_count 14 = .ok (.getfield 382, 3)) rfl
set_option maxRecDepth 100000 in
theorem s_113_17 (hC : SndC g HB l MM call) : Snd g HB l call cX12_count 5 yX12_count.cls yX12_count.name 17 (s_br2 3 179 20) := b_ige (by decide +kernel : decode cX12_count 17 = .ok (.if_icmp .ge 162, 3)) (by decide) rfl
set_option maxRecDepth 100000 in
theorem s_113_179 (hC : SndC g HB l MM call) : Snd g HB l call cX12_count 5 yX12_count.cls yX12_count.name 179 (lf (q_load isI 1 180)) := lf_ok (p_iload_n (by decide +kernel : decode cX12_count 179 = .ok (.iload_n 1, 1)) rfl rfl)
set_option maxRecDepth 100000 in
theorem s_113_180 (hC : SndC g HB l MM call) : Snd g HB l call cX12_count 5 yX12_count.cls yX12_count.name 180 (s_table 5 245 [220, 225, 230, 235, 235, 240]) := b_table (by decide) (by decide +kernel : decode cX12_count 180 = .ok (.tableswitch 65 0 5 #[40, 45, 50, 55, 55, 60], 40)) (by decide) (by decide)
set_option maxRecDepth 100000 in
theorem s_113_220 (hC : SndC g HB l MM call) : Snd g HB l call cX12_count 5 yX12_count.cls yX12_count.name 220 (lf (q_load isR 0 221)) := lf_ok (p_aload_n (by decide +kernel : decode cX12_count 220 = .ok (.aload_n 0, 1)) rfl rfl)
set_option maxRecDepth 100000 in
theorem s_113_221 (hC : SndC g HB l MM call) : Snd g HB l call cX12_count 5 yX12_count.cls yX12_count.name 221 (s_get 10 5 224) := h_get (k := 5) (C := RX12) (T := TX12) (N := 70) (ci := 10) rfl (by decide) (tin 6 167 (by decide +kernel) rfl)  (by decide +kernel : decode cX12_count 221 = .ok (.getfield 499, 3)) rfl
set_option maxRecDepth 100000 in
theorem s_113_225 (hC : SndC g HB l MM call) : Snd g HB l call cX12_count 5 yX12_count.cls yX12_count.name 225 (lf (q_load isR 0 226)) := lf_ok (p_aload_n (by decide +kernel : decode cX12_count 225 = .ok (.aload_n 0, 1)) rfl rfl)
set_option maxRecDepth 100000 in
theorem s_113_226 (hC : SndC g HB l MM call) : Snd g HB l call cX12_count 5 yX12_count.cls yX12_count.name 226 (s_get 10 4 229) := h_get (k := 4) (C := RX12) (T := TX12) (N := 70) (ci := 10) rfl (by decide) (tin 6 166 (by decide +kernel) rfl)  (by decide +kernel : decode cX12_count 226 = .ok (.getfield 382, 3)) rfl
set_option maxRecDepth 100000 in
theorem s_113_230 (hC : SndC g HB l MM call) : Snd g HB l call cX12_count 5 yX12_count.cls yX12_count.name 230 (lf (q_load isR 0 231)) := lf_ok (p_aload_n (by decide +kernel : decode cX12_count 230 = .ok (.aload_n 0, 1)) rfl rfl)
set_option maxRecDepth 100000 in
theorem s_113_231 (hC : SndC g HB l MM call) : Snd g HB l call cX12_count 5 yX12_count.cls yX12_count.name 231 (s_get 10 62 234) := h_get (k := 62) (C := RX12) (T := TX12) (N := 70) (ci := 10) rfl (by decide) (tin 6 223 (by decide +kernel) rfl)  (by decide +kernel : decode cX12_count 231 = .ok (.getfield 521, 3)) rfl
set_option maxRecDepth 100000 in
theorem s_113_235 (hC : SndC g HB l MM call) : Snd g HB l call cX12_count 5 yX12_count.cls yX12_count.name 235 (lf (q_load isR 0 236)) := lf_ok (p_aload_n (by decide +kernel : decode cX12_count 235 = .ok (.aload_n 0, 1)) rfl rfl)
set_option maxRecDepth 100000 in
theorem s_113_236 (hC : SndC g HB l MM call) : Snd g HB l call cX12_count 5 yX12_count.cls yX12_count.name 236 (s_get 10 67 239) := h_get (k := 67) (C := RX12) (T := TX12) (N := 70) (ci := 10) rfl (by decide) (tin 6 228 (by decide +kernel) rfl)  (by decide +kernel : decode cX12_count 236 = .ok (.getfield 536, 3)) rfl
set_option maxRecDepth 100000 in
theorem s_113_240 (hC : SndC g HB l MM call) : Snd g HB l call cX12_count 5 yX12_count.cls yX12_count.name 240 (lf (q_load isR 0 241)) := lf_ok (p_aload_n (by decide +kernel : decode cX12_count 240 = .ok (.aload_n 0, 1)) rfl rfl)
set_option maxRecDepth 100000 in
theorem s_113_241 (hC : SndC g HB l MM call) : Snd g HB l call cX12_count 5 yX12_count.cls yX12_count.name 241 (s_get 10 3 244) := h_get (k := 3) (C := RX12) (T := TX12) (N := 70) (ci := 10) rfl (by decide) (tin 6 165 (by decide +kernel) rfl)  (by decide +kernel : decode cX12_count 241 = .ok (.getfield 496, 3)) rfl
set_option maxRecDepth 100000 in
theorem s_113_245 (hC : SndC g HB l MM call) : Snd g HB l call cX12_count 5 yX12_count.cls yX12_count.name 245 (lf (q_push (.inl 4294967295) 246)) := lf_ok (p_iconst (by decide +kernel : decode cX12_count 245 = .ok (.iconst (-1), 1)) (by decide +kernel) rfl)
set_option maxRecDepth 100000 in
theorem ok_113 (hex : HB.size = g.1) (hC : SndC g HB l MM call) : ∀ x ∈ P_113, Snd g HB l call cX12_count 5 yX12_count.cls yX12_count.name x.1 x.2 := fa6 (s_113_0 hC) (fa6 (s_113_1 hC) (fa6 (s_113_2 hC) (fa6 (s_113_5 hC) (fa6 (s_113_6 hC) (fa6 (s_113_7 hC) (fa6 (s_113_10 hC) (fa6 (s_113_11 hC) (fa6 (s_113_12 hC) (fa6 (s_113_13 hC) (fa6 (s_113_14 hC) (fa6 (s_113_17 hC) (fa6 (s_113_179 hC) (fa6 (s_113_180 hC) (fa6 (s_113_220 hC) (fa6 (s_113_221 hC) (fa6 (s_113_225 hC) (fa6 (s_113_226 hC) (fa6 (s_113_230 hC) (fa6 (s_113_231 hC) (fa6 (s_113_235 hC) (fa6 (s_113_236 hC) (fa6 (s_113_240 hC) (fa6 (s_113_241 hC) (fa6 (s_113_245 hC) (fn6)))))))))))))))))))))))))
set_option maxRecDepth 100000 in
theorem ms_113 (hex : HB.size = g.1) : MSnd g HB l MM D_113 := ⟨by decide +kernel, fun _ hC => ok_113 hex hC, fa6 (show endOK cX12_count (some .int) 224 1 from ⟨rfl, (by decide +kernel : decode cX12_count 224 = .ok (.ireturn, 1))⟩) (fa6 (show endOK cX12_count (some .int) 229 1 from ⟨rfl, (by decide +kernel : decode cX12_count 229 = .ok (.ireturn, 1))⟩) (fa6 (show endOK cX12_count (some .int) 234 1 from ⟨rfl, (by decide +kernel : decode cX12_count 234 = .ok (.ireturn, 1))⟩) (fa6 (show endOK cX12_count (some .int) 239 1 from ⟨rfl, (by decide +kernel : decode cX12_count 239 = .ok (.ireturn, 1))⟩) (fa6 (show endOK cX12_count (some .int) 244 1 from ⟨rfl, (by decide +kernel : decode cX12_count 244 = .ok (.ireturn, 1))⟩) (fa6 (show endOK cX12_count (some .int) 246 1 from ⟨rfl, (by decide +kernel : decode cX12_count 246 = .ok (.ireturn, 1))⟩) (fn6))))))⟩
set_option maxRecDepth 100000 in
theorem s_114_0 (hC : SndC g HB l MM call) : Snd g HB l call cX12_thrown 1 yX12_thrown.cls yX12_thrown.name 0 (lf (q_load isR 0 1)) := lf_ok (p_aload_n (by decide +kernel : decode cX12_thrown 0 = .ok (.aload_n 0, 1)) rfl rfl)
set_option maxRecDepth 100000 in
theorem s_114_1 (hC : SndC g HB l MM call) : Snd g HB l call cX12_thrown 1 yX12_thrown.cls yX12_thrown.name 1 (s_get 10 0 4) := h_get (k := 0) (C := RX12) (T := TX12) (N := 70) (ci := 10) rfl (by decide) (tin 6 162 (by decide +kernel) rfl)  (by decide +kernel : decode cX12_thrown 1 = .ok (.getfield 154, 3)) rfl
set_option maxRecDepth 100000 in
theorem ok_114 (hex : HB.size = g.1) (hC : SndC g HB l MM call) : ∀ x ∈ P_114, Snd g HB l call cX12_thrown 1 yX12_thrown.cls yX12_thrown.name x.1 x.2 := fa6 (s_114_0 hC) (fa6 (s_114_1 hC) (fn6))
set_option maxRecDepth 100000 in
theorem ms_114 (hex : HB.size = g.1) : MSnd g HB l MM D_114 := ⟨by decide +kernel, fun _ hC => ok_114 hex hC, fa6 (show endOK cX12_thrown (some .int) 4 1 from ⟨rfl, (by decide +kernel : decode cX12_thrown 4 = .ok (.ireturn, 1))⟩) (fn6)⟩
end PR6
