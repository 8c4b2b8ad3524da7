set_option maxHeartbeats 4000000 in
set_option maxRecDepth 100000 in
/-- Dots(): six rows of noughts -/
theorem c_Dots_init (l : Launch) (G : gG) (base : Nat) {L : List Nat} {K n : Nat → Nat} {rI : Nat → Nat → Int32} {rJ : Nat → Nat → Int64} {rQ : Nat → Nat → Option Nat} {fI : Nat → Nat → Int32} {fR : Nat → Nat → Option Nat} {a : Nat} (hLa : a ∈ L) (hKa : K a = 0) : Met l yX0_init wsX0_init ({ frames := 1, cells := 6, slots := 1256, locals := 14 }) (va_Pc [.ref a] (g_Pr G base (L, K, n, rI, rJ, rQ, fI, fR))) (g_Qv G base (fun u : Nat × Nat × Nat × Nat × Nat × Nat => (((((((L ++ [u.1]) ++ [u.2.1]) ++ [u.2.2.1]) ++ [u.2.2.2.1]) ++ [u.2.2.2.2.1]) ++ [u.2.2.2.2.2]), (va_up (va_up (va_up (va_up (va_up (va_up K u.1 4) u.2.1 4) u.2.2.1 4) u.2.2.2.1 4) u.2.2.2.2.1 5) u.2.2.2.2.2 4), (va_up (va_up (va_up (va_up (va_up (va_up n u.1 250) u.2.1 250) u.2.2.1 250) u.2.2.2.1 250) u.2.2.2.2.1 250) u.2.2.2.2.2 6), (va_up (va_up (va_up (va_up (va_up rI u.1 (fun _ => 0)) u.2.1 (fun _ => 0)) u.2.2.1 (fun _ => 0)) u.2.2.2.1 (fun _ => 0)) u.2.2.2.2.2 (fun _ => 0)), (va_up rJ u.2.2.2.2.1 (fun _ => 0)), rQ, (g_up (fI) a 6 0), (g_up ((g_up ((g_up ((g_up ((g_up ((g_up (fR) a 0 (some u.1))) a 1 (some u.2.1))) a 2 (some u.2.2.1))) a 3 (some u.2.2.2.1))) a 4 (some u.2.2.2.2.1))) a 5 (some u.2.2.2.2.2)))) (fun u => u.1 ∉ L ∧ u.2.1 ∉ L ++ [u.1] ∧ u.2.2.1 ∉ L ++ [u.1] ++ [u.2.1] ∧ u.2.2.2.1 ∉ L ++ [u.1] ++ [u.2.1] ++ [u.2.2.1] ∧ u.2.2.2.2.1 ∉ L ++ [u.1] ++ [u.2.1] ++ [u.2.2.1] ++ [u.2.2.2.1] ∧ u.2.2.2.2.2 ∉ L ++ [u.1] ++ [u.2.1] ++ [u.2.2.1] ++ [u.2.2.2.1] ++ [u.2.2.2.2.1])) 6 1256 (g_A base) := by
  refine Met.ofW (cc := cX0_init) (maxL := 1) (ret := none) (by decide) rfl ?_
  intro p e s m args below meth c s₁ B hml hv
  obtain ⟨rfl, hPr⟩ := hv
  have hx := B.exec
  have hb := B.bytes
  have hr := B.returns
  have hts := atoms_spec (ws := wsX0_init) B.pre
  have hown : s.vm.findClass RX0 = some m.cls := findClass_of_methodNamed B.named
  have hlocks := B.notSynchronized
  have hin : meth.name = "<init>" := (name_of_methodNamed B.named B.method).1
  have hK := hPr.2.2
  have hG := hPr.gw
  have hl := lv_entry ([.ref a]) (n := 1) (Nat.le_of_ble_eq_true rfl)
  rw [lg_entry_eq]
  generalize (lg_sl ([.ref a]) ++ List.replicate (1 - (lg_sl ([.ref a])).length) Slot.unset).toArray = ls at hl ⊢
  have hl : lv_has ls 1 [(0, .ref a)] := hl
  refine g_start hPr (fun H locs hG => ?_)
  refine lv_aload_n hx hb dX0_init_0 rfl (lv_at hl 0 rfl) ?_
  refine W.objInit hx hb hown (hts (.methodLink RX0 3 objectInit) (by decide +kernel)) (hts (.instanceMethod objectInit) (by decide +kernel)) (hts (.code objectInit ⟨#[0xb1]⟩ 1 none) (by decide +kernel)) rfl (by rw [hml]; exact hl.1) rfl dX0_init_1 (Nat.le_of_ble_eq_true rfl) (Nat.le_of_ble_eq_true rfl) ?_
  refine W.eq (g2 := F0 m 4 ls []) rfl ?_
  refine lv_aload_n hx hb dX0_init_4 rfl (lv_at hl 0 rfl) ?_
  refine lv_sipush (v := 250) hx hb dX0_init_5 (by decide) ?_
  refine g_newa4 hx hb (hts (.arrayClass .int) (by decide +kernel)) hK hG 250 rfl (by decide) (Nat.le_of_ble_eq_true rfl) (Nat.le_of_ble_eq_true rfl) dX0_init_8 (fun qa H hqa hG => ?_)
  refine w_Dots_replica hx hb hts (by decide +kernel) hown hK hG (up_l hLa) (up_k hqa hLa hKa) hin (hts (.fieldLink RX0 9 "DotStores$Dots" "replica" "[I") (by decide +kernel)) dX0_init_10 (fun H locs hG => ?_)
  refine lv_aload_n hx hb dX0_init_13 rfl (lv_at hl 0 rfl) ?_
  refine lv_sipush (v := 250) hx hb dX0_init_14 (by decide) ?_
  refine g_newa4 hx hb (hts (.arrayClass .int) (by decide +kernel)) hK hG 250 rfl (by decide) (Nat.le_of_ble_eq_true rfl) (Nat.le_of_ble_eq_true rfl) dX0_init_17 (fun qb H hqb hG => ?_)
  refine w_Dots_number hx hb hts (by decide +kernel) hown hK hG (up_l (up_l hLa)) (up_k hqb (up_l hLa) (up_k hqa hLa hKa)) hin (hts (.fieldLink RX0 15 "DotStores$Dots" "number" "[I") (by decide +kernel)) dX0_init_19 (fun H locs hG => ?_)
  refine lv_aload_n hx hb dX0_init_22 rfl (lv_at hl 0 rfl) ?_
  refine lv_sipush (v := 250) hx hb dX0_init_23 (by decide) ?_
  refine g_newa4 hx hb (hts (.arrayClass .int) (by decide +kernel)) hK hG 250 rfl (by decide) (Nat.le_of_ble_eq_true rfl) (Nat.le_of_ble_eq_true rfl) dX0_init_26 (fun qc H hqc hG => ?_)
  refine w_Dots_key hx hb hts (by decide +kernel) hown hK hG (up_l (up_l (up_l hLa))) (up_k hqc (up_l (up_l hLa)) (up_k hqb (up_l hLa) (up_k hqa hLa hKa))) hin (hts (.fieldLink RX0 18 "DotStores$Dots" "key" "[I") (by decide +kernel)) dX0_init_28 (fun H locs hG => ?_)
  refine lv_aload_n hx hb dX0_init_31 rfl (lv_at hl 0 rfl) ?_
  refine lv_sipush (v := 250) hx hb dX0_init_32 (by decide) ?_
  refine g_newa4 hx hb (hts (.arrayClass .int) (by decide +kernel)) hK hG 250 rfl (by decide) (Nat.le_of_ble_eq_true rfl) (Nat.le_of_ble_eq_true rfl) dX0_init_35 (fun qd H hqd hG => ?_)
  refine w_Dots_part hx hb hts (by decide +kernel) hown hK hG (up_l (up_l (up_l (up_l hLa)))) (up_k hqd (up_l (up_l (up_l hLa))) (up_k hqc (up_l (up_l hLa)) (up_k hqb (up_l hLa) (up_k hqa hLa hKa)))) hin (hts (.fieldLink RX0 21 "DotStores$Dots" "part" "[I") (by decide +kernel)) dX0_init_37 (fun H locs hG => ?_)
  refine lv_aload_n hx hb dX0_init_40 rfl (lv_at hl 0 rfl) ?_
  refine lv_sipush (v := 250) hx hb dX0_init_41 (by decide) ?_
  refine g_newa5 hx hb (hts (.arrayClass .long) (by decide +kernel)) hK hG 250 rfl (by decide) (Nat.le_of_ble_eq_true rfl) (Nat.le_of_ble_eq_true rfl) dX0_init_44 (fun qe H hqe hG => ?_)
  refine w_Dots_value hx hb hts (by decide +kernel) hown hK hG (up_l (up_l (up_l (up_l (up_l hLa))))) (up_k hqe (up_l (up_l (up_l (up_l hLa)))) (up_k hqd (up_l (up_l (up_l hLa))) (up_k hqc (up_l (up_l hLa)) (up_k hqb (up_l hLa) (up_k hqa hLa hKa))))) hin (hts (.fieldLink RX0 24 "DotStores$Dots" "value" "[J") (by decide +kernel)) dX0_init_46 (fun H locs hG => ?_)
  refine lv_aload_n hx hb dX0_init_49 rfl (lv_at hl 0 rfl) ?_
  refine lv_bipush (v := 6) hx hb dX0_init_50 (by decide) ?_
  refine g_newa4 hx hb (hts (.arrayClass .int) (by decide +kernel)) hK hG 6 rfl (by decide) (Nat.le_of_ble_eq_true rfl) (Nat.le_of_ble_eq_true rfl) dX0_init_52 (fun qf H hqf hG => ?_)
  refine w_Dots_greatest hx hb hts (by decide +kernel) hown hK hG (up_l (up_l (up_l (up_l (up_l (up_l hLa)))))) (up_k hqf (up_l (up_l (up_l (up_l (up_l hLa))))) (up_k hqe (up_l (up_l (up_l (up_l hLa)))) (up_k hqd (up_l (up_l (up_l hLa))) (up_k hqc (up_l (up_l hLa)) (up_k hqb (up_l hLa) (up_k hqa hLa hKa)))))) hin (hts (.fieldLink RX0 28 "DotStores$Dots" "greatest" "[I") (by decide +kernel)) dX0_init_54 (fun H locs hG => ?_)
  refine lv_aload_n hx hb dX0_init_57 rfl (lv_at hl 0 rfl) ?_
  refine lv_iconst (v := 0) hx hb dX0_init_58 (by decide) ?_
  refine w_Dots_count hx hb hts (by decide +kernel) hown hK hG (up_l (up_l (up_l (up_l (up_l (up_l hLa)))))) (up_k hqf (up_l (up_l (up_l (up_l (up_l hLa))))) (up_k hqe (up_l (up_l (up_l (up_l hLa)))) (up_k hqd (up_l (up_l (up_l hLa))) (up_k hqc (up_l (up_l hLa)) (up_k hqb (up_l hLa) (up_k hqa hLa hKa)))))) (hts (.fieldLink RX0 31 "DotStores$Dots" "count" "I") (by decide +kernel)) dX0_init_59 (fun H locs hG => ?_)
  refine W.widen (k := 6) (n := 1256) (by omega) (by omega) ?_
  exact W.vret hx hb hr (fun t ht hW => ⟨⟨(qa, qb, qc, qd, qe, qf), rfl, ⟨hqa, hqb, hqc, hqd, hqe, hqf⟩, hG.at ht⟩, hG.2.2.1.F ht⟩) hG.2.2.1.2.2 dX0_init_62
set_option maxHeartbeats 4000000 in
set_option maxRecDepth 100000 in
/-- Dots.canMake(r) -/
theorem c_canMake (l : Launch) (G : gG) (base : Nat) {L : List Nat} {K n : Nat → Nat} {rI : Nat → Nat → Int32} {rJ : Nat → Nat → Int64} {rQ : Nat → Nat → Option Nat} {fI : Nat → Nat → Int32} {fR : Nat → Nat → Option Nat} {d dr dn dk dp dv dg : Nat} (hD : isDt L K n fR d dr dn dk dp dv dg) {r cnt g : Nat} (hr6 : r < 6) (hcnt : fI d 6 = nI cnt) (hc25 : cnt ≤ 250) (hg : rI dg r = nI g) (hg1 : g ≤ 100) : Met l yX0_canMake wsX0_canMake ({ frames := 0, cells := 0, slots := 0, locals := 0 }) (va_Pc [.ref d, .int (nI r)] (g_Pr G base (L, K, n, rI, rJ, rQ, fI, fR))) (g_Qi G base (fun _ : Unit => (L, K, n, rI, rJ, rQ, fI, fR)) (fun x _ => x = bi (decide (cnt < 250 ∧ g < 100)))) 0 0 (g_A base) := by
  have hD0 := hD
  obtain ⟨hLd, hKd, h0d, h1d, h2d, h3d, h4d, h5d, hLdr, hKdr, hndr, hLdn, hKdn, hndn, hLdk, hKdk, hndk, hLdp, hKdp, hndp, hLdv, hKdv, hndv, hLdg, hKdg, hndg⟩ := hD0
  refine Met.ofW (cc := cX0_canMake) (maxL := 2) (ret := (some .boolean)) (by decide) rfl ?_
  intro p e s m args below meth c s₁ B hml hv
  obtain ⟨rfl, hPr⟩ := hv
  have hx := B.exec
  have hb := B.bytes
  have hr := B.returns
  have hts := atoms_spec (ws := wsX0_canMake) B.pre
  have hown : s.vm.findClass RX0 = some m.cls := findClass_of_methodNamed B.named
  have hlocks := B.notSynchronized
  have hin : meth.name = "canMake" := (name_of_methodNamed B.named B.method).1
  have hK := hPr.2.2
  have hG := hPr.gw
  have hl := lv_entry ([.ref d, .int (nI r)]) (n := 2) (Nat.le_of_ble_eq_true rfl)
  rw [lg_entry_eq]
  generalize (lg_sl ([.ref d, .int (nI r)]) ++ List.replicate (2 - (lg_sl ([.ref d, .int (nI r)])).length) Slot.unset).toArray = ls at hl ⊢
  have hl : lv_has ls 2 [(0, .ref d), (1, .int (nI r))] := hl
  refine g_start hPr (fun H locs hG => ?_)
  refine lv_aload_n hx hb dX0_canMake_0 rfl (lv_at hl 0 rfl) ?_
  refine r_Dots_count hx hb hts (by decide +kernel) hown hK hG hLd hKd (hts (.fieldLink RX0 31 "DotStores$Dots" "count" "I") (by decide +kernel)) dX0_canMake_1 ?_
  refine lv_sipush (v := 250) hx hb dX0_canMake_4 (by decide) ?_
  refine lv_icmp_ge (tgt := 25) hx hb dX0_canMake_7 (by decide) (fun c1 => ?_) (fun c1 => ?_)
  · have hn : ¬ (cnt < 250 ∧ g < 100) := fun z => absurd c1 (by rw [hcnt]; exact nI_ge z.1 (by decide))
    refine lv_iconst (v := 0) hx hb dX0_canMake_25 (by decide) ?_
    refine W.widen (k := 0) (n := 0) (by omega) (by omega) ?_
    exact W.zret (v := 0) hx hb hr rfl (fun t ht hW => ⟨⟨0, (), rfl, (by rw [show decide (cnt < 250 ∧ g < 100) = false from decide_eq_false hn]; rfl), hG.at ht⟩, hG.2.2.1.F ht⟩) hG.2.2.1.2.2 dX0_canMake_26
  · have c1 : cnt < 250 := by
      rcases Nat.lt_or_ge cnt 250 with q | q
      · exact q
      · exact absurd (by rw [hcnt]; exact nI_le (a := 250) q (by omega)) c1
    refine lv_aload_n hx hb dX0_canMake_10 rfl (lv_at hl 0 rfl) ?_
    refine r_Dots_greatest hx hb hts (by decide +kernel) hown hK hG hLd hKd h5d (hts (.fieldLink RX0 28 "DotStores$Dots" "greatest" "[I") (by decide +kernel)) dX0_canMake_11 ?_
    refine lv_iload_n hx hb dX0_canMake_14 rfl (lv_at hl 1 rfl) ?_
    refine g_iald hx hb hK hG hLdg hKdg (r) rfl (by rw [hndg]; exact hr6) (by rw [hndg]; decide) dX0_canMake_15 ?_
    refine lv_bipush (v := 100) hx hb dX0_canMake_16 (by decide) ?_
    refine lv_icmp_ge (tgt := 25) hx hb dX0_canMake_18 (by decide) (fun c2 => ?_) (fun c2 => ?_)
    · have hn : ¬ (cnt < 250 ∧ g < 100) := fun z => absurd c2 (by rw [hg]; exact nI_ge z.2 (by decide))
      refine lv_iconst (v := 0) hx hb dX0_canMake_25 (by decide) ?_
      refine W.widen (k := 0) (n := 0) (by omega) (by omega) ?_
      exact W.zret (v := 0) hx hb hr rfl (fun t ht hW => ⟨⟨0, (), rfl, (by rw [show decide (cnt < 250 ∧ g < 100) = false from decide_eq_false hn]; rfl), hG.at ht⟩, hG.2.2.1.F ht⟩) hG.2.2.1.2.2 dX0_canMake_26
    · have c2 : g < 100 := by
        rcases Nat.lt_or_ge g 100 with q | q
        · exact q
        · exact absurd (by rw [hg]; exact nI_le (a := 100) q (by omega)) c2
      refine lv_iconst (v := 1) hx hb dX0_canMake_21 (by decide) ?_
      refine lv_goto (tgt := 26) hx hb dX0_canMake_22 (by decide) ?_
      refine W.widen (k := 0) (n := 0) (by omega) (by omega) ?_
      exact W.zret (v := 1) hx hb hr rfl (fun t ht hW => ⟨⟨1, (), rfl, (by rw [show decide (cnt < 250 ∧ g < 100) = true from decide_eq_true ⟨c1, c2⟩]; rfl), hG.at ht⟩, hG.2.2.1.F ht⟩) hG.2.2.1.2.2 dX0_canMake_26
set_option maxHeartbeats 4000000 in
set_option maxRecDepth 100000 in
/-- Dots.make(r, k, q, v) -/
theorem c_make (l : Launch) (G : gG) (base : Nat) {L : List Nat} {K n : Nat → Nat} {rI : Nat → Nat → Int32} {rJ : Nat → Nat → Int64} {rQ : Nat → Nat → Option Nat} {fI : Nat → Nat → Int32} {fR : Nat → Nat → Option Nat} {d dr dn dk dp dv dg : Nat} (hD : isDt L K n fR d dr dn dk dp dv dg) {r cnt : Nat} {k q : Int32} {v : Int64} (hr6 : r < 6) (hcnt : fI d 6 = nI cnt) (hc25 : cnt < 250) : Met l yX0_make wsX0_make ({ frames := 0, cells := 0, slots := 0, locals := 0 }) (va_Pc [.ref d, .int (nI r), .int k, .int q, .long v] (g_Pr G base (L, K, n, rI, rJ, rQ, fI, fR))) (g_Qi G base (fun _ : Unit => (L, K, n, (g_up ((g_up ((g_up ((g_up ((g_up (rI) dg (r) (((rI dg (r)) + 1)))) dr (cnt) ((nI r)))) dn (cnt) (((g_up ((g_up (rI) dg (r) (((rI dg (r)) + 1)))) dr (cnt) ((nI r))) dg (r))))) dk (cnt) (k))) dp (cnt) (q)), (g_up (rJ) dv (cnt) (v)), rQ, (g_up (fI) d 6 ((fI d 6) + 1)), fR)) (fun x _ => x = nI cnt)) 0 0 (g_A base) := by
  have hD0 := hD
  obtain ⟨hLd, hKd, h0d, h1d, h2d, h3d, h4d, h5d, hLdr, hKdr, hndr, hLdn, hKdn, hndn, hLdk, hKdk, hndk, hLdp, hKdp, hndp, hLdv, hKdv, hndv, hLdg, hKdg, hndg⟩ := hD0
  refine Met.ofW (cc := cX0_make) (maxL := 7) (ret := (some .int)) (by decide) rfl ?_
  intro p e s m args below meth c s₁ B hml hv
  obtain ⟨rfl, hPr⟩ := hv
  have hx := B.exec
  have hb := B.bytes
  have hr := B.returns
  have hts := atoms_spec (ws := wsX0_make) B.pre
  have hown : s.vm.findClass RX0 = some m.cls := findClass_of_methodNamed B.named
  have hlocks := B.notSynchronized
  have hin : meth.name = "make" := (name_of_methodNamed B.named B.method).1
  have hK := hPr.2.2
  have hG := hPr.gw
  have hl := lv_entry ([.ref d, .int (nI r), .int k, .int q, .long v]) (n := 7) (Nat.le_of_ble_eq_true rfl)
  rw [lg_entry_eq]
  generalize (lg_sl ([.ref d, .int (nI r), .int k, .int q, .long v]) ++ List.replicate (7 - (lg_sl ([.ref d, .int (nI r), .int k, .int q, .long v])).length) Slot.unset).toArray = ls at hl ⊢
  have hl : lv_has ls 7 [(0, .ref d), (1, .int (nI r)), (2, .int k), (3, .int q), (4, .long v)] := hl
  refine g_start hPr (fun H locs hG => ?_)
  refine lv_aload_n hx hb dX0_make_0 rfl (lv_at hl 0 rfl) ?_
  refine r_Dots_count hx hb hts (by decide +kernel) hown hK hG hLd hKd (hts (.fieldLink RX0 31 "DotStores$Dots" "count" "I") (by decide +kernel)) dX0_make_1 ?_
  refine lv_topi (fun z1 ez1 => ?_)
  obtain rfl : z1 = nI cnt := ez1.trans (hcnt)
  refine lv_istore (lv' := [(6, .int (nI cnt)), (0, .ref d), (1, .int (nI r)), (2, .int k), (3, .int q), (4, .long v)]) hx hb dX0_make_4 hl (by decide) rfl (fun ls hl => ?_)
  refine lv_aload_n hx hb dX0_make_6 rfl (lv_at hl 1 rfl) ?_
  refine r_Dots_greatest hx hb hts (by decide +kernel) hown hK hG hLd hKd h5d (hts (.fieldLink RX0 28 "DotStores$Dots" "greatest" "[I") (by decide +kernel)) dX0_make_7 ?_
  refine lv_iload_n hx hb dX0_make_10 rfl (lv_at hl 2 rfl) ?_
  refine lv_dup2_11 hx hb dX0_make_11 rfl rfl ?_
  refine g_iald hx hb hK hG hLdg hKdg (r) rfl (by rw [hndg]; exact hr6) (by rw [hndg]; decide) dX0_make_12 ?_
  refine lv_iconst (v := 1) hx hb dX0_make_13 (by decide) ?_
  refine lv_iadd hx hb dX0_make_14 ?_
  refine g_iast hx hb hK hG hLdg hKdg (r) rfl (by rw [hndg]; exact hr6) (by rw [hndg]; decide) dX0_make_15 (fun H locs hG => ?_)
  refine lv_aload_n hx hb dX0_make_16 rfl (lv_at hl 1 rfl) ?_
  refine r_Dots_replica hx hb hts (by decide +kernel) hown hK hG hLd hKd h0d (hts (.fieldLink RX0 9 "DotStores$Dots" "replica" "[I") (by decide +kernel)) dX0_make_17 ?_
  refine lv_iload hx hb dX0_make_20 (lv_at hl 0 rfl) ?_
  refine lv_iload_n hx hb dX0_make_22 rfl (lv_at hl 2 rfl) ?_
  refine g_iast hx hb hK hG hLdr hKdr (cnt) rfl (by rw [hndr]; exact hc25) (by rw [hndr]; decide) dX0_make_23 (fun H locs hG => ?_)
  refine lv_aload_n hx hb dX0_make_24 rfl (lv_at hl 1 rfl) ?_
  refine r_Dots_number hx hb hts (by decide +kernel) hown hK hG hLd hKd h1d (hts (.fieldLink RX0 15 "DotStores$Dots" "number" "[I") (by decide +kernel)) dX0_make_25 ?_
  refine lv_iload hx hb dX0_make_28 (lv_at hl 0 rfl) ?_
  refine lv_aload_n hx hb dX0_make_30 rfl (lv_at hl 1 rfl) ?_
  refine r_Dots_greatest hx hb hts (by decide +kernel) hown hK hG hLd hKd h5d (hts (.fieldLink RX0 28 "DotStores$Dots" "greatest" "[I") (by decide +kernel)) dX0_make_31 ?_
  refine lv_iload_n hx hb dX0_make_34 rfl (lv_at hl 2 rfl) ?_
  refine g_iald hx hb hK hG hLdg hKdg (r) rfl (by rw [hndg]; exact hr6) (by rw [hndg]; decide) dX0_make_35 ?_
  refine g_iast hx hb hK hG hLdn hKdn (cnt) rfl (by rw [hndn]; exact hc25) (by rw [hndn]; decide) dX0_make_36 (fun H locs hG => ?_)
  refine lv_aload_n hx hb dX0_make_37 rfl (lv_at hl 1 rfl) ?_
  refine r_Dots_key hx hb hts (by decide +kernel) hown hK hG hLd hKd h2d (hts (.fieldLink RX0 18 "DotStores$Dots" "key" "[I") (by decide +kernel)) dX0_make_38 ?_
  refine lv_iload hx hb dX0_make_41 (lv_at hl 0 rfl) ?_
  refine lv_iload_n hx hb dX0_make_43 rfl (lv_at hl 3 rfl) ?_
  refine g_iast hx hb hK hG hLdk hKdk (cnt) rfl (by rw [hndk]; exact hc25) (by rw [hndk]; decide) dX0_make_44 (fun H locs hG => ?_)
  refine lv_aload_n hx hb dX0_make_45 rfl (lv_at hl 1 rfl) ?_
  refine r_Dots_part hx hb hts (by decide +kernel) hown hK hG hLd hKd h3d (hts (.fieldLink RX0 21 "DotStores$Dots" "part" "[I") (by decide +kernel)) dX0_make_46 ?_
  refine lv_iload hx hb dX0_make_49 (lv_at hl 0 rfl) ?_
  refine lv_iload_n hx hb dX0_make_51 rfl (lv_at hl 4 rfl) ?_
  refine g_iast hx hb hK hG hLdp hKdp (cnt) rfl (by rw [hndp]; exact hc25) (by rw [hndp]; decide) dX0_make_52 (fun H locs hG => ?_)
  refine lv_aload_n hx hb dX0_make_53 rfl (lv_at hl 1 rfl) ?_
  refine r_Dots_value hx hb hts (by decide +kernel) hown hK hG hLd hKd h4d (hts (.fieldLink RX0 24 "DotStores$Dots" "value" "[J") (by decide +kernel)) dX0_make_54 ?_
  refine lv_iload hx hb dX0_make_57 (lv_at hl 0 rfl) ?_
  refine lv_lload hx hb dX0_make_59 (lv_at hl 5 rfl) ?_
  refine g_last hx hb hK hG hLdv hKdv (cnt) rfl (by rw [hndv]; exact hc25) (by rw [hndv]; decide) dX0_make_61 (fun H locs hG => ?_)
  refine lv_aload_n hx hb dX0_make_62 rfl (lv_at hl 1 rfl) ?_
  refine lv_dup hx hb dX0_make_63 rfl ?_
  refine r_Dots_count hx hb hts (by decide +kernel) hown hK hG hLd hKd (hts (.fieldLink RX0 31 "DotStores$Dots" "count" "I") (by decide +kernel)) dX0_make_64 ?_
  refine lv_iconst (v := 1) hx hb dX0_make_67 (by decide) ?_
  refine lv_iadd hx hb dX0_make_68 ?_
  refine w_Dots_count hx hb hts (by decide +kernel) hown hK hG hLd hKd (hts (.fieldLink RX0 31 "DotStores$Dots" "count" "I") (by decide +kernel)) dX0_make_69 (fun H locs hG => ?_)
  refine lv_iload hx hb dX0_make_72 (lv_at hl 0 rfl) ?_
  refine W.widen (k := 0) (n := 0) (by omega) (by omega) ?_
  exact W.iret (v := (nI cnt)) hx hb hr (fun t ht hW => ⟨⟨(nI cnt), (), rfl, rfl, hG.at ht⟩, hG.2.2.1.F ht⟩) hG.2.2.1.2.2 dX0_make_74
set_option maxHeartbeats 4000000 in
set_option maxRecDepth 100000 in
/-- Dots.fits(i, k, q, r) -/
theorem c_fits (l : Launch) (G : gG) (base : Nat) {L : List Nat} {K n : Nat → Nat} {rI : Nat → Nat → Int32} {rJ : Nat → Nat → Int64} {rQ : Nat → Nat → Option Nat} {fI : Nat → Nat → Int32} {fR : Nat → Nat → Option Nat} {d dr dn dk dp dv dg : Nat} (hD : isDt L K n fR d dr dn dk dp dv dg) {i : Nat} {k q r : Int32} (hi : i < 250) : Met l yX0_fits wsX0_fits ({ frames := 0, cells := 0, slots := 0, locals := 0 }) (va_Pc [.ref d, .int (nI i), .int k, .int q, .int r] (g_Pr G base (L, K, n, rI, rJ, rQ, fI, fR))) (g_Qi G base (fun _ : Unit => (L, K, n, rI, rJ, rQ, fI, fR)) (fun x _ => x = bi (decide (rI dk i = k ∧ (q = -1 ∨ rI dp i = q) ∧ (r = -1 ∨ rI dr i = r))))) 0 0 (g_A base) := by
  have hD0 := hD
  obtain ⟨hLd, hKd, h0d, h1d, h2d, h3d, h4d, h5d, hLdr, hKdr, hndr, hLdn, hKdn, hndn, hLdk, hKdk, hndk, hLdp, hKdp, hndp, hLdv, hKdv, hndv, hLdg, hKdg, hndg⟩ := hD0
  refine Met.ofW (cc := cX0_fits) (maxL := 5) (ret := (some .boolean)) (by decide) rfl ?_
  intro p e s m args below meth c s₁ B hml hv
  obtain ⟨rfl, hPr⟩ := hv
  have hx := B.exec
  have hb := B.bytes
  have hr := B.returns
  have hts := atoms_spec (ws := wsX0_fits) B.pre
  have hown : s.vm.findClass RX0 = some m.cls := findClass_of_methodNamed B.named
  have hlocks := B.notSynchronized
  have hin : meth.name = "fits" := (name_of_methodNamed B.named B.method).1
  have hK := hPr.2.2
  have hG := hPr.gw
  have hl := lv_entry ([.ref d, .int (nI i), .int k, .int q, .int r]) (n := 5) (Nat.le_of_ble_eq_true rfl)
  rw [lg_entry_eq]
  generalize (lg_sl ([.ref d, .int (nI i), .int k, .int q, .int r]) ++ List.replicate (5 - (lg_sl ([.ref d, .int (nI i), .int k, .int q, .int r])).length) Slot.unset).toArray = ls at hl ⊢
  have hl : lv_has ls 5 [(0, .ref d), (1, .int (nI i)), (2, .int k), (3, .int q), (4, .int r)] := hl
  refine g_start hPr (fun H locs hG => ?_)
  refine lv_aload_n hx hb dX0_fits_0 rfl (lv_at hl 0 rfl) ?_
  refine r_Dots_key hx hb hts (by decide +kernel) hown hK hG hLd hKd h2d (hts (.fieldLink RX0 18 "DotStores$Dots" "key" "[I") (by decide +kernel)) dX0_fits_1 ?_
  refine lv_iload_n hx hb dX0_fits_4 rfl (lv_at hl 1 rfl) ?_
  refine g_iald hx hb hK hG hLdk hKdk (i) rfl (by rw [hndk]; exact hi) (by rw [hndk]; decide) dX0_fits_5 ?_
  refine lv_iload_n hx hb dX0_fits_6 rfl (lv_at hl 2 rfl) ?_
  refine lv_icmp_ne (tgt := 46) hx hb dX0_fits_7 (by decide) (fun c1 => ?_) (fun c1 => ?_)
  · have hn : ¬ (rI dk i = k ∧ (q = -1 ∨ rI dp i = q) ∧ (r = -1 ∨ rI dr i = r)) := fun z => c1 z.1
    refine lv_iconst (v := 0) hx hb dX0_fits_46 (by decide) ?_
    refine W.widen (k := 0) (n := 0) (by omega) (by omega) ?_
    exact W.zret (v := 0) hx hb hr rfl (fun t ht hW => ⟨⟨0, (), rfl, (by rw [show decide (rI dk i = k ∧ (q = -1 ∨ rI dp i = q) ∧ (r = -1 ∨ rI dr i = r)) = false from decide_eq_false hn]; rfl), hG.at ht⟩, hG.2.2.1.F ht⟩) hG.2.2.1.2.2 dX0_fits_47
  · refine lv_iload_n hx hb dX0_fits_10 rfl (lv_at hl 3 rfl) ?_
    refine lv_iconst (v := (-1)) hx hb dX0_fits_11 (by decide) ?_
    refine lv_icmp_eq (tgt := 25) hx hb dX0_fits_12 (by decide) (fun c2 => ?_) (fun c2 => ?_)
    · have hq : q = -1 ∨ rI dp i = q := Or.inl c2
      refine lv_iload hx hb dX0_fits_25 (lv_at hl 4 rfl) ?_
      refine lv_iconst (v := (-1)) hx hb dX0_fits_27 (by decide) ?_
      refine lv_icmp_eq (tgt := 42) hx hb dX0_fits_28 (by decide) (fun c4 => ?_) (fun c4 => ?_)
      · have hr2 : r = -1 ∨ rI dr i = r := Or.inl c4
        refine lv_iconst (v := 1) hx hb dX0_fits_42 (by decide) ?_
        refine lv_goto (tgt := 47) hx hb dX0_fits_43 (by decide) ?_
        refine W.widen (k := 0) (n := 0) (by omega) (by omega) ?_
        exact W.zret (v := 1) hx hb hr rfl (fun t ht hW => ⟨⟨1, (), rfl, (by rw [show decide (rI dk i = k ∧ (q = -1 ∨ rI dp i = q) ∧ (r = -1 ∨ rI dr i = r)) = true from decide_eq_true ⟨c1, hq, hr2⟩]; rfl), hG.at ht⟩, hG.2.2.1.F ht⟩) hG.2.2.1.2.2 dX0_fits_47
      · refine lv_aload_n hx hb dX0_fits_31 rfl (lv_at hl 0 rfl) ?_
        refine r_Dots_replica hx hb hts (by decide +kernel) hown hK hG hLd hKd h0d (hts (.fieldLink RX0 9 "DotStores$Dots" "replica" "[I") (by decide +kernel)) dX0_fits_32 ?_
        refine lv_iload_n hx hb dX0_fits_35 rfl (lv_at hl 1 rfl) ?_
        refine g_iald hx hb hK hG hLdr hKdr (i) rfl (by rw [hndr]; exact hi) (by rw [hndr]; decide) dX0_fits_36 ?_
        refine lv_iload hx hb dX0_fits_37 (lv_at hl 4 rfl) ?_
        refine lv_icmp_ne (tgt := 46) hx hb dX0_fits_39 (by decide) (fun c5 => ?_) (fun c5 => ?_)
        · have hn : ¬ (rI dk i = k ∧ (q = -1 ∨ rI dp i = q) ∧ (r = -1 ∨ rI dr i = r)) := fun z => z.2.2.elim c4 c5
          refine lv_iconst (v := 0) hx hb dX0_fits_46 (by decide) ?_
          refine W.widen (k := 0) (n := 0) (by omega) (by omega) ?_
          exact W.zret (v := 0) hx hb hr rfl (fun t ht hW => ⟨⟨0, (), rfl, (by rw [show decide (rI dk i = k ∧ (q = -1 ∨ rI dp i = q) ∧ (r = -1 ∨ rI dr i = r)) = false from decide_eq_false hn]; rfl), hG.at ht⟩, hG.2.2.1.F ht⟩) hG.2.2.1.2.2 dX0_fits_47
        · have hr2 : r = -1 ∨ rI dr i = r := Or.inr c5
          refine lv_iconst (v := 1) hx hb dX0_fits_42 (by decide) ?_
          refine lv_goto (tgt := 47) hx hb dX0_fits_43 (by decide) ?_
          refine W.widen (k := 0) (n := 0) (by omega) (by omega) ?_
          exact W.zret (v := 1) hx hb hr rfl (fun t ht hW => ⟨⟨1, (), rfl, (by rw [show decide (rI dk i = k ∧ (q = -1 ∨ rI dp i = q) ∧ (r = -1 ∨ rI dr i = r)) = true from decide_eq_true ⟨c1, hq, hr2⟩]; rfl), hG.at ht⟩, hG.2.2.1.F ht⟩) hG.2.2.1.2.2 dX0_fits_47
    · refine lv_aload_n hx hb dX0_fits_15 rfl (lv_at hl 0 rfl) ?_
      refine r_Dots_part hx hb hts (by decide +kernel) hown hK hG hLd hKd h3d (hts (.fieldLink RX0 21 "DotStores$Dots" "part" "[I") (by decide +kernel)) dX0_fits_16 ?_
      refine lv_iload_n hx hb dX0_fits_19 rfl (lv_at hl 1 rfl) ?_
      refine g_iald hx hb hK hG hLdp hKdp (i) rfl (by rw [hndp]; exact hi) (by rw [hndp]; decide) dX0_fits_20 ?_
      refine lv_iload_n hx hb dX0_fits_21 rfl (lv_at hl 3 rfl) ?_
      refine lv_icmp_ne (tgt := 46) hx hb dX0_fits_22 (by decide) (fun c3 => ?_) (fun c3 => ?_)
      · have hn : ¬ (rI dk i = k ∧ (q = -1 ∨ rI dp i = q) ∧ (r = -1 ∨ rI dr i = r)) := fun z => z.2.1.elim c2 c3
        refine lv_iconst (v := 0) hx hb dX0_fits_46 (by decide) ?_
        refine W.widen (k := 0) (n := 0) (by omega) (by omega) ?_
        exact W.zret (v := 0) hx hb hr rfl (fun t ht hW => ⟨⟨0, (), rfl, (by rw [show decide (rI dk i = k ∧ (q = -1 ∨ rI dp i = q) ∧ (r = -1 ∨ rI dr i = r)) = false from decide_eq_false hn]; rfl), hG.at ht⟩, hG.2.2.1.F ht⟩) hG.2.2.1.2.2 dX0_fits_47
      · have hq : q = -1 ∨ rI dp i = q := Or.inr c3
        refine lv_iload hx hb dX0_fits_25 (lv_at hl 4 rfl) ?_
        refine lv_iconst (v := (-1)) hx hb dX0_fits_27 (by decide) ?_
        refine lv_icmp_eq (tgt := 42) hx hb dX0_fits_28 (by decide) (fun c4 => ?_) (fun c4 => ?_)
        · have hr2 : r = -1 ∨ rI dr i = r := Or.inl c4
          refine lv_iconst (v := 1) hx hb dX0_fits_42 (by decide) ?_
          refine lv_goto (tgt := 47) hx hb dX0_fits_43 (by decide) ?_
          refine W.widen (k := 0) (n := 0) (by omega) (by omega) ?_
          exact W.zret (v := 1) hx hb hr rfl (fun t ht hW => ⟨⟨1, (), rfl, (by rw [show decide (rI dk i = k ∧ (q = -1 ∨ rI dp i = q) ∧ (r = -1 ∨ rI dr i = r)) = true from decide_eq_true ⟨c1, hq, hr2⟩]; rfl), hG.at ht⟩, hG.2.2.1.F ht⟩) hG.2.2.1.2.2 dX0_fits_47
        · refine lv_aload_n hx hb dX0_fits_31 rfl (lv_at hl 0 rfl) ?_
          refine r_Dots_replica hx hb hts (by decide +kernel) hown hK hG hLd hKd h0d (hts (.fieldLink RX0 9 "DotStores$Dots" "replica" "[I") (by decide +kernel)) dX0_fits_32 ?_
          refine lv_iload_n hx hb dX0_fits_35 rfl (lv_at hl 1 rfl) ?_
          refine g_iald hx hb hK hG hLdr hKdr (i) rfl (by rw [hndr]; exact hi) (by rw [hndr]; decide) dX0_fits_36 ?_
          refine lv_iload hx hb dX0_fits_37 (lv_at hl 4 rfl) ?_
          refine lv_icmp_ne (tgt := 46) hx hb dX0_fits_39 (by decide) (fun c5 => ?_) (fun c5 => ?_)
          · have hn : ¬ (rI dk i = k ∧ (q = -1 ∨ rI dp i = q) ∧ (r = -1 ∨ rI dr i = r)) := fun z => z.2.2.elim c4 c5
            refine lv_iconst (v := 0) hx hb dX0_fits_46 (by decide) ?_
            refine W.widen (k := 0) (n := 0) (by omega) (by omega) ?_
            exact W.zret (v := 0) hx hb hr rfl (fun t ht hW => ⟨⟨0, (), rfl, (by rw [show decide (rI dk i = k ∧ (q = -1 ∨ rI dp i = q) ∧ (r = -1 ∨ rI dr i = r)) = false from decide_eq_false hn]; rfl), hG.at ht⟩, hG.2.2.1.F ht⟩) hG.2.2.1.2.2 dX0_fits_47
          · have hr2 : r = -1 ∨ rI dr i = r := Or.inr c5
            refine lv_iconst (v := 1) hx hb dX0_fits_42 (by decide) ?_
            refine lv_goto (tgt := 47) hx hb dX0_fits_43 (by decide) ?_
            refine W.widen (k := 0) (n := 0) (by omega) (by omega) ?_
            exact W.zret (v := 1) hx hb hr rfl (fun t ht hW => ⟨⟨1, (), rfl, (by rw [show decide (rI dk i = k ∧ (q = -1 ∨ rI dp i = q) ∧ (r = -1 ∨ rI dr i = r)) = true from decide_eq_true ⟨c1, hq, hr2⟩]; rfl), hG.at ht⟩, hG.2.2.1.F ht⟩) hG.2.2.1.2.2 dX0_fits_47
