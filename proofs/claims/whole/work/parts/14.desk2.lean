theorem newD_mk {L : List Nat} {K n : Nat → Nat} {rI : Nat → Nat → Int32} {rJ : Nat → Nat → Int64} {rQ : Nat → Nat → Option Nat} {fI : Nat → Nat → Int32} {fR : Nat → Nat → Option Nat} {x ma nd q qs ql qt : Nat} (hLx : x ∈ L) (hLma : ma ∈ L) (hq : q ∉ L) (hqs : qs ∉ L ++ [q]) (hql : ql ∉ L ++ [q] ++ [qs]) (hqt : qt ∉ L ++ [q] ++ [qs] ++ [ql]) :
    NewD (L, K, n, rI, rJ, rQ, fI, fR) (((((L ++ [q]) ++ [qs]) ++ [ql]) ++ [qt]), (va_up (va_up (va_up (va_up K q 1) qs 5) ql 5) qt 4), (va_up (va_up (va_up n qs 4) ql 4) qt 32), (va_up rI qt (fun _ => 0)), (va_up (va_up rJ qs (fun _ => 0)) ql (fun _ => 0)), (g_up (rQ) ma (nd) (some q)), (g_up ((g_up ((g_up ((va_up fI q (fun _ => 0))) q 3 0)) q 4 0)) x 5 (nI (nd + 1))), (g_up ((g_up ((g_up ((va_up fR q (fun _ => none))) q 0 (some qs))) q 1 (some ql))) q 2 (some qt))) x ma nd q qs ql qt := by
  have e1 : q ≠ qs := fun e => hqs (e ▸ up_q)
  have e2 : q ≠ ql := fun e => hql (e ▸ up_l up_q)
  have e3 : q ≠ qt := fun e => hqt (e ▸ up_l (up_l up_q))
  have e4 : qs ≠ ql := fun e => hql (e ▸ up_q)
  have e5 : qs ≠ qt := fun e => hqt (e ▸ up_l up_q)
  have e6 : ql ≠ qt := fun e => hqt (e ▸ up_q)
  have nq : ∀ b, b ∈ L → b ≠ q := fun b hb => up_ne hq hb
  have ns : ∀ b, b ∈ L → b ≠ qs := fun b hb => up_ne hqs (up_l hb)
  have nl : ∀ b, b ∈ L → b ≠ ql := fun b hb => up_ne hql (up_l (up_l hb))
  have nt : ∀ b, b ∈ L → b ≠ qt := fun b hb => up_ne hqt (up_l (up_l (up_l hb)))
  refine ⟨fun b hb => ⟨up_l (up_l (up_l (up_l hb))), ?_, ?_, ?_, ?_, ?_, fun hm => ?_, fun hx => ?_⟩, ⟨hq, fun h => hqs (up_l h), fun h => hql (up_l (up_l h)), fun h => hqt (up_l (up_l (up_l h))), e1, e2, e3, e4, e5, e6⟩, ?_, ?_, ⟨up_l (up_l (up_l up_q)), ?_, ?_, ?_, ?_, up_l (up_l up_q), ?_, ?_, up_l up_q, ?_, ?_, up_q, ?_, ?_⟩, fun j => ?_, fun j => ?_, fun j => ?_, ?_, ?_⟩
  · simp [va_up, nq b hb, ns b hb, nl b hb, nt b hb]
  · simp [va_up, ns b hb, nl b hb, nt b hb]
  · simp [va_up, nt b hb]
  · simp [va_up, ns b hb, nl b hb]
  · funext j; simp [va_up, g_up, nq b hb]
  · funext j; simp [g_up, hm]
  · funext j; simp [va_up, g_up, nq b hb, hx]
  · funext j; simp [g_up]
  · funext j; simp [va_up, g_up, nq x hLx]
  · simp [va_up, e1, e2, e3]
  · simp [va_up, g_up]
  · simp [va_up, g_up]
  · simp [va_up, g_up]
  · simp [va_up, e4, e5]
  · simp [va_up, e4, e5]
  · simp [va_up, e6]
  · simp [va_up, e6]
  · simp [va_up]
  · simp [va_up]
  · simp [va_up, e4]
  · simp [va_up]
  · simp [va_up]
  · simp [va_up, g_up, (nq x hLx).symm]
  · simp [va_up, g_up, (nq x hLx).symm]
set_option maxHeartbeats 4000000 in
set_option maxRecDepth 100000 in
/-- openDelta() -/
theorem c_openDelta (l : Launch) (G : gG) (base : Nat) {L : List Nat} {K n : Nat → Nat} {rI : Nat → Nat → Int32} {rJ : Nat → Nat → Int64} {rQ : Nat → Nat → Option Nat} {fI : Nat → Nat → Int32} {fR : Nat → Nat → Option Nat} (hl0 : l.stackTraces = false) {x ra ma d tr od : Nat} (hDk : isDk L K n fR x ra ma d tr od) {nd : Nat} (hnd : nd ≤ 250) (hmc : fI x 5 = nI nd) : vx_Met l yX2_openDelta wsX2_openDelta ({ frames := 6, cells := 5, slots := 51, locals := 90 }) (va_Pc [.ref x] (g_Px G base (L, K, n, rI, rJ, rQ, fI, fR))) (g_Qr G base (fun u : gS × Nat × Nat × Nat => u.1) (fun a u => nd < 250 ∧ NewD (L, K, n, rI, rJ, rQ, fI, fR) u.1 x ma nd a u.2.1 u.2.2.1 u.2.2.2)) (g_XC G base (L, K, n, rI, rJ, rQ, fI, fR) (fun E => E = "java/lang/IllegalStateException" ∧ ¬ nd < 250)) 5 51 (g_A base) := by
  have hDk0 := hDk
  obtain ⟨hLx, hKx, h0x, h1x, h2x, h3x, h4x, hLra, hKra, hnra, hLma, hKma, hnma, hLod, hKod, hnod⟩ := hDk0
  refine vx_ofW (cc := cX2_openDelta) (maxL := 2) (ret := (some (.object "DotStores$State"))) (by decide) rfl ?_
  intro p e s m args below meth c s₁ B hml hnt hv
  obtain ⟨rfl, hPr, hX⟩ := hv
  have hx := B.exec
  have hb := B.bytes
  have hr := B.returns
  have hts := atoms_spec (ws := wsX2_openDelta) B.pre
  have hown : s.vm.findClass RX2 = some m.cls := findClass_of_methodNamed B.named
  have hlocks := B.notSynchronized
  have hin : meth.name = "openDelta" := (name_of_methodNamed B.named B.method).1
  have hK := hPr.2.2
  have hG := hPr.gw
  have hl := lv_entry ([.ref x]) (n := 2) (Nat.le_of_ble_eq_true rfl)
  rw [lg_entry_eq]
  generalize (lg_sl ([.ref x]) ++ List.replicate (2 - (lg_sl ([.ref x])).length) Slot.unset).toArray = ls at hl ⊢
  have hl : lv_has ls 2 [(0, .ref x)] := hl
  refine g_start hPr (fun H locs hG => ?_)
  refine lv_aload_n hx hb dX2_openDelta_0 rfl (lv_at hl 0 rfl) ?_
  refine r_Desk_madeCount hx hb hts (by decide +kernel) hown hK hG hLx hKx (hts (.fieldLink RX2 34 "DotStores" "madeCount" "I") (by decide +kernel)) dX2_openDelta_1 ?_
  refine lv_topi (fun z1 ez1 => ?_)
  obtain rfl : z1 = nI nd := ez1.trans (hmc)
  refine lv_if_lt (tgt := 19) hx hb dX2_openDelta_4 (by decide) (fun c0 => ?_) (fun c0 => ?_)
  · exact absurd c0 (nI_pos (by omega))
  · refine lv_aload_n hx hb dX2_openDelta_7 rfl (lv_at hl 0 rfl) ?_
    refine r_Desk_madeCount hx hb hts (by decide +kernel) hown hK hG hLx hKx (hts (.fieldLink RX2 34 "DotStores" "madeCount" "I") (by decide +kernel)) dX2_openDelta_8 ?_
    refine lv_topi (fun z2 ez2 => ?_)
    obtain rfl : z2 = nI nd := ez2.trans (hmc)
    refine lv_aload_n hx hb dX2_openDelta_11 rfl (lv_at hl 0 rfl) ?_
    refine r_Desk_made hx hb hts (by decide +kernel) hown hK hG hLx hKx h1x (hts (.fieldLink RX2 15 "DotStores" "made" "[LDotStores$State;") (by decide +kernel)) dX2_openDelta_12 ?_
    refine g_alen7 hx hb hK hG hLma hKma 250 hnma dX2_openDelta_15 ?_
    refine lv_icmp_lt (tgt := 29) hx hb dX2_openDelta_16 (by decide) (fun c1 => ?_) (fun c1 => ?_)
    · have hlt : nd < 250 := by
        rcases Nat.lt_or_ge nd 250 with q | q
        · exact q
        · exact absurd c1 (nI_nlt q (by omega))
      refine g_new1 hx hb hts (by decide +kernel) hown (hts (.classLink RX2 9 RX1) (by decide +kernel)) (hts (.instantiable RX1 5) (by decide +kernel)) (hts (.initialized RX1) (by decide +kernel)) hK hG (Nat.le_of_ble_eq_true rfl) (Nat.le_of_ble_eq_true rfl) dX2_openDelta_29 (fun q H hq hG => ?_)
      refine lv_dup hx hb dX2_openDelta_32 rfl ?_
      refine g_callv (va_runIN (As := []) (rest := [.ref q]) ⟨hx, hb, hml, hown, hts⟩ (c_State_init l G base up_q (va_up_self _ _ _)) ⟨va_cnB (host := "DotStores") 0 hts ggX2_openDelta_X1_init rfl rfl rfl (hX.2.2.2.2.2.2.2.2.2.1 _ (List.mem_append_right _ (by decide +kernel))) (hts (.initialized RX1) (by decide +kernel)) (by decide +kernel) ⟨(Nat.le_of_ble_eq_true rfl), (Nat.le_of_ble_eq_true rfl)⟩, rfl, (hts (.instanceMethod yX1_init) (by decide +kernel))⟩ (g_ps hK hG) rfl rfl hl.1 rfl (lv_room (Nat.le_of_ble_eq_true rfl)) dX2_openDelta_33 ⟨(Nat.le_of_ble_eq_true rfl), (Nat.le_of_ble_eq_true rfl)⟩) hG (fun u H locs hp hG => ?_)
      obtain ⟨qs, ql, qt⟩ := u
      obtain ⟨hqs, hql, hqt⟩ := hp
      replace hG : gw G base s.heap (((((L ++ [q]) ++ [qs]) ++ [ql]) ++ [qt]), (va_up (va_up (va_up (va_up K q 1) qs 5) ql 5) qt 4), (va_up (va_up (va_up n qs 4) ql 4) qt 32), (va_up rI qt (fun _ => 0)), (va_up (va_up rJ qs (fun _ => 0)) ql (fun _ => 0)), rQ, (g_up ((g_up ((va_up fI q (fun _ => 0))) q 3 0)) q 4 0), (g_up ((g_up ((g_up ((va_up fR q (fun _ => none))) q 0 (some qs))) q 1 (some ql))) q 2 (some qt))) H locs := hG
      refine lv_astore_n (lv' := [(1, .ref q), (0, .ref x)]) hx hb dX2_openDelta_36 rfl hl (by decide) rfl (fun ls hl => ?_)
      refine lv_aload_n hx hb dX2_openDelta_37 rfl (lv_at hl 1 rfl) ?_
      refine r_Desk_made hx hb hts (by decide +kernel) hown hK hG (up_l (up_l (up_l (up_l hLx)))) (up_k hqt (up_l (up_l (up_l hLx))) (up_k hql (up_l (up_l hLx)) (up_k hqs (up_l hLx) (up_k hq hLx hKx)))) (by rw [g_up_b _ _ _ _ (up_ne hq hLx), g_up_b _ _ _ _ (up_ne hq hLx), g_up_b _ _ _ _ (up_ne hq hLx)]; exact (up_f hq hLx h1x)) (hts (.fieldLink RX2 15 "DotStores" "made" "[LDotStores$State;") (by decide +kernel)) dX2_openDelta_38 ?_
      refine lv_aload_n hx hb dX2_openDelta_41 rfl (lv_at hl 1 rfl) ?_
      refine r_Desk_madeCount hx hb hts (by decide +kernel) hown hK hG (up_l (up_l (up_l (up_l hLx)))) (up_k hqt (up_l (up_l (up_l hLx))) (up_k hql (up_l (up_l hLx)) (up_k hqs (up_l hLx) (up_k hq hLx hKx)))) (hts (.fieldLink RX2 34 "DotStores" "madeCount" "I") (by decide +kernel)) dX2_openDelta_42 ?_
      refine lv_topi (fun z3 ez3 => ?_)
      obtain rfl : z3 = nI nd := ez3.trans ((show _ = nI nd by rw [g_up_b _ _ _ _ (up_ne hq hLx), g_up_b _ _ _ _ (up_ne hq hLx), va_up_ne _ _ (up_ne hq hLx)]; exact hmc))
      refine lv_aload_n hx hb dX2_openDelta_45 rfl (lv_at hl 0 rfl) ?_
      refine g_aast hx hb hK hG (up_l (up_l (up_l (up_l hLma)))) (up_k hqt (up_l (up_l (up_l hLma))) (up_k hql (up_l (up_l hLma)) (up_k hqs (up_l hLma) (up_k hq hLma hKma)))) (up_l (up_l (up_l up_q))) (up_k hqt (up_l (up_l up_q)) (up_k hql (up_l up_q) (up_k hqs up_q (va_up_self _ _ _)))) (nd) rfl (by rw [(up_k hqt (up_l (up_l (up_l hLma))) (up_k hql (up_l (up_l hLma)) (up_k hqs (up_l hLma) hnma)))]; exact hlt) (by rw [(up_k hqt (up_l (up_l (up_l hLma))) (up_k hql (up_l (up_l hLma)) (up_k hqs (up_l hLma) hnma)))]; decide) dX2_openDelta_46 (fun H locs hG => ?_)
      refine lv_aload_n hx hb dX2_openDelta_47 rfl (lv_at hl 1 rfl) ?_
      refine lv_dup hx hb dX2_openDelta_48 rfl ?_
      refine r_Desk_madeCount hx hb hts (by decide +kernel) hown hK hG (up_l (up_l (up_l (up_l hLx)))) (up_k hqt (up_l (up_l (up_l hLx))) (up_k hql (up_l (up_l hLx)) (up_k hqs (up_l hLx) (up_k hq hLx hKx)))) (hts (.fieldLink RX2 34 "DotStores" "madeCount" "I") (by decide +kernel)) dX2_openDelta_49 ?_
      refine lv_topi (fun z4 ez4 => ?_)
      obtain rfl : z4 = nI nd := ez4.trans ((show _ = nI nd by rw [g_up_b _ _ _ _ (up_ne hq hLx), g_up_b _ _ _ _ (up_ne hq hLx), va_up_ne _ _ (up_ne hq hLx)]; exact hmc))
      refine lv_iconst (v := 1) hx hb dX2_openDelta_52 (by decide) ?_
      refine lv_iadd hx hb dX2_openDelta_53 ?_
      refine lv_topi (fun z5 ez5 => ?_)
      obtain rfl : z5 = nI (nd + 1) := ez5.trans (nI_1 nd)
      refine w_Desk_madeCount hx hb hts (by decide +kernel) hown hK hG (up_l (up_l (up_l (up_l hLx)))) (up_k hqt (up_l (up_l (up_l hLx))) (up_k hql (up_l (up_l hLx)) (up_k hqs (up_l hLx) (up_k hq hLx hKx)))) (hts (.fieldLink RX2 34 "DotStores" "madeCount" "I") (by decide +kernel)) dX2_openDelta_54 (fun H locs hG => ?_)
      refine lv_aload_n hx hb dX2_openDelta_57 rfl (lv_at hl 0 rfl) ?_
      refine vx_ret ?_
      refine W.widen (k := 5) (n := 51) (by omega) (by omega) ?_
      exact W.aret (v := .ref q) hx hb hr (Or.inl ⟨_, rfl⟩) (Or.inr ⟨_, rfl⟩) (fun t ht hW => ⟨⟨q, ((((((L ++ [q]) ++ [qs]) ++ [ql]) ++ [qt]), (va_up (va_up (va_up (va_up K q 1) qs 5) ql 5) qt 4), (va_up (va_up (va_up n qs 4) ql 4) qt 32), (va_up rI qt (fun _ => 0)), (va_up (va_up rJ qs (fun _ => 0)) ql (fun _ => 0)), (g_up (rQ) ma (nd) (some q)), (g_up ((g_up ((g_up ((va_up fI q (fun _ => 0))) q 3 0)) q 4 0)) x 5 (nI (nd + 1))), (g_up ((g_up ((g_up ((va_up fR q (fun _ => none))) q 0 (some qs))) q 1 (some ql))) q 2 (some qt))), qs, ql, qt), rfl, ⟨hlt, newD_mk hLx hLma hq hqs hql hqt⟩, hG.at ht⟩, hG.2.2.1.F ht⟩) hG.2.2.1.2.2 dX2_openDelta_58
    · have hlt : ¬ nd < 250 := fun q => c1 (nI_lt q (by decide))
      exact g_throw (cls := "java/lang/IllegalStateException") (ik := 186) (is := 191) (ic := 190) hx hb hl0 hown (by decide +kernel) (hts (.classLink RX2 186 "java/lang/IllegalStateException") (by decide +kernel)) (hts (.initialized "java/lang/IllegalStateException") (by decide +kernel)) hX.2.2.2.2.2.2.2.2.1 (fun w hw => hts w (List.mem_cons_of_mem _ (List.mem_append_right _ hw))) (fun w h => List.mem_append_left _ (List.mem_append_left _ (List.mem_append_right _ h))) (by decide +kernel) hX hG (hl.1.trans hml.symm) dX2_openDelta_19 dX2_openDelta_22 dX2_openDelta_23 dX2_openDelta_25 dX2_openDelta_28 hnt (Nat.le_of_ble_eq_true rfl) (Nat.le_of_ble_eq_true rfl) (Nat.le_of_ble_eq_true rfl) (Nat.le_of_ble_eq_true rfl) hlocks ⟨rfl, hlt⟩ (Nat.le_of_ble_eq_true rfl) (Nat.le_of_ble_eq_true rfl)
