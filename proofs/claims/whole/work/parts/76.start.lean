theorem lw_arr {s : State} {A : Array Value} {ty : FieldType} (h : (Cond.arrayClass ty).before A s = true) : ∃ cA : ClassId, ArrOfT s cA ty ∧ s.vm.findClass ("[" ++ ty.toString) = some cA := by
  obtain ⟨cA, kA, comp, hfind, hk, hkind⟩ := Cond.arrayClass_spec h
  exact ⟨cA, fun n z => ⟨fun k h => (by cases h), kA, hk, comp, hkind⟩, hfind⟩
theorem lw_arq {s : State} {A : Array Value} {C : String} (h : (Cond.arrayOver (.object C)).before A s = true) : ∃ cA : ClassId, ArrOfT s cA (.object C) ∧ va_RA s cA (.object C) := by
  obtain ⟨comp, c, k, h1, h2, h3, h4, h5⟩ := Cond.arrayOver_spec h
  exact ⟨c, fun n z => ⟨fun k h => (by cases h), k, h3, comp, h4⟩, k, comp, h3, h4, h1, h5⟩
theorem lw_str {k : Nat} {tx : String} {A : Array Value} {s : State} (h1 : (Cond.stringRef RX2 k tx).before A s = true) (h2 : (Cond.exactly (.string RX2 k) "java/lang/String").before A s = true) : ∃ sa, vk_R RX2 k tx sa s := by
  obtain ⟨a, c, cell, k', q1, -⟩ := Cond.exactly_spec h2
  exact ⟨a, vk_R.of h1 q1⟩
theorem lw_K {s : State} {A : Array Value} (htb : ∀ w ∈ lw_tbl, w.before A s = true) : ∃ G : gG, g_K G s := by
  obtain ⟨c0, s0, k0⟩ := u_known (C := RX0) (T := TX0) (N := 7) (n := 7) htb in0_wsX00 (htb (.instantiable RX0 7) (by decide +kernel))
  obtain ⟨c1, s1, k1⟩ := u_known (C := RX1) (T := TX1) (N := 5) (n := 5) htb in0_wsX10 (htb (.instantiable RX1 5) (by decide +kernel))
  obtain ⟨c2, s2, k2⟩ := u_known (C := RX2) (T := TX2) (N := 6) (n := 6) htb in0_wsX20 (htb (.instantiable RX2 6) (by decide +kernel))
  obtain ⟨c3, s3, k3⟩ := u_known (C := RX3) (T := TX3) (N := 14) (n := 14) htb in0_wsX30 (htb (.instantiable RX3 14) (by decide +kernel))
  obtain ⟨ai, bi1, bi2⟩ := lw_arr (htb (.arrayClass .int) (by decide +kernel))
  obtain ⟨al, bl1, bl2⟩ := lw_arr (htb (.arrayClass .long) (by decide +kernel))
  obtain ⟨az, bz1, bz2⟩ := lw_arr (htb (.arrayClass .boolean) (by decide +kernel))
  obtain ⟨aq, bq1, bq2⟩ := lw_arq (C := "DotStores$State") (htb (.arrayOver (.object "DotStores$State")) (by decide +kernel))
  refine ⟨((fun k => if k = 0 then c0 else if k = 1 then c1 else if k = 2 then c2 else c3, fun k => if k = 0 then s0 else if k = 1 then s1 else if k = 2 then s2 else s3), ai, al, az, aq), ?_, ?_⟩
  · intro k q hq
    match k, hq with
    | 0, hq => cases hq; exact k0
    | 1, hq => cases hq; exact k1
    | 2, hq => cases hq; exact k2
    | 3, hq => cases hq; exact k3
    | k + 4, hq => simp [vwCl] at hq
  · intro k q hq
    match k, hq with
    | 0, hq => cases hq; exact ⟨bi1, bi2⟩
    | 1, hq => cases hq; exact ⟨bl1, bl2⟩
    | 2, hq => cases hq; exact ⟨bz1, bz2⟩
    | 3, hq => cases hq; exact ⟨bq1, bq2⟩
    | k + 4, hq => simp [g_tys] at hq
theorem lw_bad1 : ∀ w ∈ g_bad, w.onTables = true := by decide +kernel
theorem lw_bad2 : ∀ w ∈ g_bad, w ∈ lw_tbl := by decide +kernel
theorem lw_X {b : Nat} {s : State} (htb : ∀ w ∈ lw_tbl, w.before #[Value.ref b] s = true) (hgv : (Jvm.Cond.and given_1 narrow_1).before #[Value.ref b] s = true) : g_X s.heap.size s := by
  have hs := flat_of_before _ hgv
  have hA : ∀ a : Nat, a < s.heap.size → ¬ g_A s.heap.size a := fun a h => Nat.not_le.mpr h
  refine ⟨vx_Zqof (htb (.laysStatic "java/lang/Throwable" "UNASSIGNED_STACK" "[Ljava/lang/StackTraceElement;") (by decide +kernel)) (htb (.initialized "java/lang/Throwable") (by decide +kernel)) (hs (.isRef (.static "java/lang/Throwable" "UNASSIGNED_STACK" "[Ljava/lang/StackTraceElement;")) (by decide +kernel)) hA,
    vx_Zqof (htb (.laysStatic "java/lang/Throwable" "SUPPRESSED_SENTINEL" "Ljava/util/List;") (by decide +kernel)) (htb (.initialized "java/lang/Throwable") (by decide +kernel)) (hs (.isRef (.static "java/lang/Throwable" "SUPPRESSED_SENTINEL" "Ljava/util/List;")) (by decide +kernel)) hA,
    lw_str (htb (.stringRef RX2 163 "no such replica") (by decide +kernel)) (hs (.exactly (.string "DotStores" 163) "java/lang/String") (by decide +kernel)),
    lw_str (htb (.stringRef RX2 168 "no such delta") (by decide +kernel)) (hs (.exactly (.string "DotStores" 168) "java/lang/String") (by decide +kernel)),
    lw_str (htb (.stringRef RX2 170 "no such key, part, element, value or question") (by decide +kernel)) (hs (.exactly (.string "DotStores" 170) "java/lang/String") (by decide +kernel)),
    lw_str (htb (.stringRef RX2 174 "the key is of another kind") (by decide +kernel)) (hs (.exactly (.string "DotStores" 174) "java/lang/String") (by decide +kernel)),
    lw_str (htb (.stringRef RX2 180 "no such time") (by decide +kernel)) (hs (.exactly (.string "DotStores" 180) "java/lang/String") (by decide +kernel)),
    lw_str (htb (.stringRef RX2 188 "the replica has no dot any more") (by decide +kernel)) (hs (.exactly (.string "DotStores" 188) "java/lang/String") (by decide +kernel)),
    lw_str (htb (.stringRef RX2 191 "there are as many deltas as may be") (by decide +kernel)) (hs (.exactly (.string "DotStores" 191) "java/lang/String") (by decide +kernel)), fun w hw => va_Nw.of (lw_bad1 w hw) (htb w (lw_bad2 w hw)), va_AO.of (htb (.arrayOver (.object RX1)) (by decide +kernel))⟩
theorem lw_N {b : Nat} {s : State} (htb : ∀ w ∈ lw_tbl, w.before #[Value.ref b] s = true) (hgv : (Jvm.Cond.and given_1 narrow_1).before #[Value.ref b] s = true) : g_N s := by
  have hs := flat_of_before _ hgv
  exact ⟨⟨va_Nw.of rfl (htb (.castable "java/lang/IndexOutOfBoundsException" "java/lang/IndexOutOfBoundsException") (by decide +kernel)), va_Nw.of rfl (htb (.castable "java/lang/UnsupportedOperationException" "java/lang/UnsupportedOperationException") (by decide +kernel)), va_Nw.of rfl (htb (.castable "java/lang/IllegalStateException" "java/lang/IllegalStateException") (by decide +kernel)), va_Nw.of rfl (htb (.castable "java/lang/IllegalArgumentException" "java/lang/IllegalArgumentException") (by decide +kernel))⟩, va_Nc.of (hs (.not (.castable "java/lang/UnsupportedOperationException" "java/lang/IndexOutOfBoundsException")) (by decide +kernel)), va_Nc.of (hs (.not (.castable "java/lang/IllegalStateException" "java/lang/IndexOutOfBoundsException")) (by decide +kernel)), va_Nc.of (hs (.not (.castable "java/lang/IllegalStateException" "java/lang/UnsupportedOperationException")) (by decide +kernel)), va_Nc.of (hs (.not (.castable "java/lang/IllegalArgumentException" "java/lang/IndexOutOfBoundsException")) (by decide +kernel)), va_Nc.of (hs (.not (.castable "java/lang/IllegalStateException" "java/lang/IllegalArgumentException")) (by decide +kernel))⟩
theorem lw_G (G : gG) (s : State) : gw G s.heap.size s.heap ([], fun _ => 0, fun _ => 0, fun _ _ => 0, fun _ _ => 0, fun _ _ => none, fun _ _ => 0, fun _ _ => none) s.heap [] :=
  ⟨fun k q h => by simp [va_pl] at h, ⟨fun i j p q h => by simp [va_pl] at h, fun k q h => by simp [va_pl] at h⟩, va_S.rf, Nat.le_refl _⟩
theorem keep_new {L1 : List Nat} {K1 n1 : Nat → Nat} {i1 : Nat → Nat → Int32} {j1 : Nat → Nat → Int64} {q1 : Nat → Nat → Option Nat} {f1 : Nat → Nat → Int32} {R1 : Nat → Nat → Option Nat} {q : Nat} {τ : gS} (hq : q ∉ L1) (h : KeepX (L1 ++ [q], va_up K1 q 3, n1, i1, j1, q1, va_up f1 q (fun _ => 0), va_up R1 q (fun _ => none)) τ q) : Keep (L1, K1, n1, i1, j1, q1, f1, R1) τ (fun _ => False) := by
  intro b hb
  have hne := up_ne hq hb
  obtain ⟨a1, a2, a3, a4, a5, a6, a7, a8⟩ := h b (up_l hb) hne
  exact ⟨a1, a2.trans (va_up_ne _ _ hne), a3, a4.trans (va_up_ne _ _ hne), fun _ => ⟨a5, a6, a7, a8.trans (va_up_ne _ _ hne)⟩⟩
theorem keep_arr {L1 : List Nat} {K1 n1 : Nat → Nat} {i1 : Nat → Nat → Int32} {j1 : Nat → Nat → Int64} {q1 : Nat → Nat → Option Nat} {f1 : Nat → Nat → Int32} {R1 : Nat → Nat → Option Nat} {q : Nat} (hq : q ∉ L1) : Keep (L1, K1, n1, i1, j1, q1, f1, R1) (L1 ++ [q], va_up K1 q 5, va_up n1 q 1, i1, va_up j1 q (fun _ => 0), q1, f1, R1) (fun _ => False) := by
  intro b hb
  have hne := up_ne hq hb
  exact ⟨up_l hb, va_up_ne _ _ hne, va_up_ne _ _ hne, rfl, fun _ => ⟨rfl, va_up_ne _ _ hne, rfl, rfl⟩⟩
set_option maxHeartbeats 4000000 in
set_option maxRecDepth 100000 in
/-- THE LAW, from its entry -/
theorem whole_start {p : Program} {e : Env} {s : State} {m : MethodId} {below : List Frame} {meth : Method} {c : Code} (l : Launch) (hl0 : l.stackTraces = false) {b L : Nat} {xs : Nat → Int32} (hL : L ≤ 2560) (C0 : lw_At p s m meth c b L xs) : W p l e room_1 s m #[Value.ref b] below meth c s.heap [] 0 0 (lw_Z below #[Value.ref b] s) (entryFrame m ([Value.ref b] : List Value).toArray 8) := by
  obtain ⟨hx, hb, hr, hml, hown, htb, hXs, hbl, hlocks, hgv⟩ := id C0
  have hown : s.vm.findClass RL = some m.cls := hown
  have hts : ∀ w ∈ wsL_law, w.before #[Value.ref b] s = true := fun w h => htb w (wsL_law_in w h)
  obtain ⟨G, hK⟩ := lw_K htb
  have hX := lw_X htb hgv
  have hN := lw_N htb hgv
  have hG := lw_G G s
  have hl := lv_entry ([.ref b]) (n := 8) (Nat.le_of_ble_eq_true rfl)
  rw [lg_entry_eq]
  generalize (lg_sl ([.ref b]) ++ List.replicate (8 - (lg_sl ([.ref b])).length) Slot.unset).toArray = ls at hl ⊢
  have hl : lv_has ls 8 [(0, .ref b)] := hl
  refine g_new2 hx hb hts inlX2 hown (hts (.classLink RL 8 RX2) (by decide +kernel)) (hts (.instantiable RX2 6) (by decide +kernel)) (hts (.initialized RX2) (by decide +kernel)) hK hG (Nat.le_of_ble_eq_true rfl) (Nat.le_of_ble_eq_true rfl) dL_law_0 (fun x9 H hx9 hGa => ?_)
  refine lv_dup hx hb dL_law_3 rfl ?_
  refine g_callv (va_runI (As := []) (rest := [.ref x9]) ⟨hx, hb, hml, hown, hts⟩ (c_Desk_init l G s.heap.size up_q (va_up_self _ _ _)) (cwI 0 hts ggL_law_X2_init rfl rfl rfl (hts (.initialized RX2) (by decide +kernel)) (hts (.methodLink RL 91 yX2_init) (by decide +kernel)) (hts (.instanceMethod yX2_init) (by decide +kernel)) rfl (by decide +kernel) ⟨(Nat.le_of_ble_eq_true rfl), (Nat.le_of_ble_eq_true rfl)⟩) (g_psx hK hX hGa) rfl rfl hl.1 rfl (lv_room (Nat.le_of_ble_eq_true rfl)) dL_law_4 ⟨(Nat.le_of_ble_eq_true rfl), (Nat.le_of_ble_eq_true rfl)⟩) hGa (fun u H locs hp hG => ?_)
  obtain ⟨⟨L1, K1, n1, i1, j1, q1, f1, R1⟩, ad⟩ := u
  replace hG : gw G s.heap.size s.heap (L1, K1, n1, i1, j1, q1, f1, R1) H locs := hG
  obtain ⟨hx0, hR⟩ := hp
  replace hx0 : ad 0 = x9 := hx0
  replace hR : RepX (L1, K1, n1, i1, j1, q1, f1, R1) ad a0 := hR
  subst hx0
  refine lv_astore_n (lv' := [(1, .ref (ad 0)), (0, .ref b)]) hx hb dL_law_7 rfl hl (by decide) rfl (fun ls hl => ?_)
  refine g_new3 hx hb hts inlX3 hown (hts (.classLink RL 92 RX3) (by decide +kernel)) (hts (.instantiable RX3 14) (by decide +kernel)) (hts (.initialized RX3) (by decide +kernel)) hK hG (Nat.le_of_ble_eq_true rfl) (Nat.le_of_ble_eq_true rfl) dL_law_8 (fun y9 H hy9 hGb => ?_)
  refine lv_dup hx hb dL_law_11 rfl ?_
  refine g_callv (va_runI (As := []) (rest := [.ref y9]) ⟨hx, hb, hml, hown, hts⟩ (k_init l G s.heap.size up_q (va_up_self _ _ _) (congrFun (va_up_self _ _ _) 1)) (cwI 0 hts ggL_law_X3_init rfl rfl rfl (hts (.initialized RX3) (by decide +kernel)) (hts (.methodLink RL 94 yX3_init) (by decide +kernel)) (hts (.instanceMethod yX3_init) (by decide +kernel)) rfl (by decide +kernel) ⟨(Nat.le_of_ble_eq_true rfl), (Nat.le_of_ble_eq_true rfl)⟩) (g_ps hK hGb) rfl rfl hl.1 rfl (lv_room (Nat.le_of_ble_eq_true rfl)) dL_law_12 ⟨(Nat.le_of_ble_eq_true rfl), (Nat.le_of_ble_eq_true rfl)⟩) hGb (fun u H locs hp hG => ?_)
  obtain ⟨⟨L2, K2, n2, i2, j2, q2, f2, R2⟩, bm⟩ := u
  replace hG : gw G s.heap.size s.heap (L2, K2, n2, i2, j2, q2, f2, R2) H locs := hG
  obtain ⟨hb0, hM, hKx⟩ := hp
  replace hb0 : bm 0 = y9 := hb0
  replace hM : RepM (L2, K2, n2, i2, j2, q2, f2, R2) bm b0 := hM
  have hk : Keep (L1, K1, n1, i1, j1, q1, f1, R1) (L2, K2, n2, i2, j2, q2, f2, R2) (fun _ => False) := keep_new hy9 hKx
  have hR2 : RepX (L2, K2, n2, i2, j2, q2, f2, R2) ad a0 := repX_keep hR hk (fun _ _ q => q)
  subst hb0
  refine lv_astore_n (lv' := [(2, .ref (bm 0)), (1, .ref (ad 0)), (0, .ref b)]) hx hb dL_law_15 rfl hl (by decide) rfl (fun ls hl => ?_)
  refine lv_iconst (v := 1) hx hb dL_law_16 (by decide) ?_
  refine g_newa5 hx hb (hts (.arrayClass .long) (by decide +kernel)) hK hG 1 rfl (by decide) (Nat.le_of_ble_eq_true rfl) (Nat.le_of_ble_eq_true rfl) dL_law_17 (fun oa H hoa hG => ?_)
  refine lv_astore_n (lv' := [(3, .ref oa), (2, .ref (bm 0)), (1, .ref (ad 0)), (0, .ref b)]) hx hb dL_law_19 rfl hl (by decide) rfl (fun ls hl => ?_)
  refine lv_iconst (v := 0) hx hb dL_law_20 (by decide) ?_
  refine lv_istore (lv' := [(4, .int 0), (3, .ref oa), (2, .ref (bm 0)), (1, .ref (ad 0)), (0, .ref b)]) hx hb dL_law_21 hl (by decide) rfl (fun ls hl => ?_)
  exact law_loop hl0 C0 hK hX hN hL (L + 1) 0 _ _ (by omega) (by omega) (by omega) (by omega) _ ad a0 b0 H _ ls ⟨repX_keep hR2 (keep_arr hoa) (fun _ _ q => q), repM_keep hM (keep_arr hoa) (fun _ _ q => q), sim_0, up_q, va_up_self _ _ _, va_up_self _ _ _⟩ hG (lv_sub hl [4, 3, 2, 1, 0] rfl)
