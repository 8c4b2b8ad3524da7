/-- the dots of replica q that state r has SEEN -/
def seA (α : aT) (r q i : Nat) : Bool := decide (a_rep α i = q) && a_S α r i
/-- (unbroken, all, greatest), over the table's first w dots -/
def seeF (P : Nat → Bool) (num : Nat → Nat) : Nat → Nat × Nat × Nat
  | 0 => (0, 0, 0)
  | w + 1 => if P w then (if num w = (seeF P num w).1 + 1 then num w else (seeF P num w).1, (seeF P num w).2.1 + 1, num w) else seeF P num w
theorem seeF_f {P : Nat → Bool} {num : Nat → Nat} {w : Nat} {z : Nat × Nat × Nat} (h : P w = false) (e : z = seeF P num w) : z = seeF P num (w + 1) := by rw [e]; simp [seeF, h]
theorem seeF_t1 {P : Nat → Bool} {num : Nat → Nat} {w a b c : Nat} (h : P w = true) (e : (a, b, c) = seeF P num w) (q : num w = a + 1) : (num w, b + 1, num w) = seeF P num (w + 1) := by simp [seeF, h, ← e, q]
theorem seeF_t2 {P : Nat → Bool} {num : Nat → Nat} {w a b c : Nat} (h : P w = true) (e : (a, b, c) = seeF P num w) (q : ¬ num w = a + 1) : (a, b + 1, num w) = seeF P num (w + 1) := by simp [seeF, h, ← e, q]
/-- what seen answers -/
def seeW (z : Nat × Nat × Nat) (wh : Int32) : Nat := if wh = 0 then z.1 else if wh = 1 then z.2.1 else z.2.2
set_option maxHeartbeats 4000000 in
set_option maxRecDepth 100000 in
/-- seen -/
theorem c_seen (l : Launch) (G : gG) (base : Nat) {L : List Nat} {K n : Nat → Nat} {rI : Nat → Nat → Int32} {rJ : Nat → Nat → Int64} {rQ : Nat → Nat → Option Nat} {fI : Nat → Nat → Int32} {fR : Nat → Nat → Option Nat} (hl0 : l.stackTraces = false) {ad : Nat → Nat} {α : aT} (hR : RepX (L, K, n, rI, rJ, rQ, fI, fR) ad α) {i j wh : Int32} : vx_Met l yX2_seen wsX2_seen ({ frames := 7, cells := 12, slots := 100, locals := 111 }) (va_Pc [.ref (ad 0), .int i, .int j, .int wh] (g_Px G base (L, K, n, rI, rJ, rQ, fI, fR))) (g_Qi G base (fun u : Nat × Nat => (L, K, n, rI, rJ, rQ, fI, fR)) (fun x u => (u.1 < 6 ∧ i = nI u.1) ∧ (u.2 < 6 ∧ j = nI u.2) ∧ okI wh 3 ∧ x = nI (seeW (seeF (seA α u.1 u.2) (a_num α) (a_cnt α)) wh))) (g_XC G base (L, K, n, rI, rJ, rQ, fI, fR) (fun E => E = "java/lang/IndexOutOfBoundsException" ∧ ¬ (okI i 6 ∧ okI j 6 ∧ okI wh 3))) 12 100 (g_A base) := by
  have hDk : isDk L K n fR (ad 0) (ad 1) (ad 2) (ad 3) (ad 35) (ad 4) := hR.1.2.2.1
  have hD : isDt L K n fR (ad 3) (ad 5) (ad 6) (ad 7) (ad 8) (ad 9) (ad 10) := hR.1.2.2.2.1
  have hcnt : fI (ad 3) 6 = nI (a_cnt α) := hR.2.2.2.1.1
  have hmc : fI (ad 0) 5 = nI (a_nd α) := hR.2.1
  have hnd : a_nd α ≤ 250 := hR.1.1
  have hc250 : a_cnt α ≤ 250 := Nat.le_trans hR.2.2.1 hnd
  have hDk0 := hDk
  obtain ⟨hLx, hKx, h0x, h1x, h2x, h3x, h4x, hLra, hKra, hnra, hLma, hKma, hnma, hLod, hKod, hnod⟩ := hDk0
  have hD0 := hD
  obtain ⟨hLd, hKd, h0d, h1d, h2d, h3d, h4d, h5d, hLdr, hKdr, hndr, hLdn, hKdn, hndn, hLdk, hKdk, hndk, hLdp, hKdp, hndp, hLdv, hKdv, hndv, hLdg, hKdg, hndg⟩ := hD0
  have hgr : ∀ r, r < 6 → rI (ad 10) r = nI (a_g α r) ∧ a_g α r ≤ 100 := hR.2.2.2.1.2.1
  refine vx_ofW (cc := cX2_seen) (maxL := 9) (ret := (some .int)) (by decide) rfl ?_
  intro p e s m args below meth c s₁ B hml hnt hv
  obtain ⟨rfl, hPr, hX⟩ := hv
  have hx := B.exec
  have hb := B.bytes
  have hr := B.returns
  have hts := atoms_spec (ws := wsX2_seen) B.pre
  have hown : s.vm.findClass RX2 = some m.cls := findClass_of_methodNamed B.named
  have hlocks := B.notSynchronized
  have hin : meth.name = "seen" := (name_of_methodNamed B.named B.method).1
  have hK := hPr.2.2
  have hG := hPr.gw
  have hl := lv_entry ([.ref (ad 0), .int i, .int j, .int wh]) (n := 9) (Nat.le_of_ble_eq_true rfl)
  rw [lg_entry_eq]
  generalize (lg_sl ([.ref (ad 0), .int i, .int j, .int wh]) ++ List.replicate (9 - (lg_sl ([.ref (ad 0), .int i, .int j, .int wh])).length) Slot.unset).toArray = ls at hl ⊢
  have hl : lv_has ls 9 [(0, .ref (ad 0)), (1, .int i), (2, .int j), (3, .int wh)] := hl
  refine g_start hPr (fun H locs hG => ?_)
  refine lv_aload_n hx hb dX2_seen_0 rfl (lv_at hl 0 rfl) ?_
  refine lv_iload_n hx hb dX2_seen_1 rfl (lv_at hl 1 rfl) ?_
  refine g_xr (vx_runV (As := [.int i]) (rest := []) ⟨hx, hb, hml, hown, hts⟩ (c_replicaAt l G base hl0 hDk (sa := fun r => ad (11 + 4 * r)) hR.1.2.2.2.2.2.1 (i := i)) (cwV 1 hts gX2_seen_X2_replicaAt rfl rfl rfl (by decide +kernel) ⟨(Nat.le_of_ble_eq_true rfl), (Nat.le_of_ble_eq_true rfl)⟩) (g_px2 hK hX hG hLx hKx) rfl rfl hl.1 rfl (lv_room (Nat.le_of_ble_eq_true rfl)) dX2_seen_2 ⟨(Nat.le_of_ble_eq_true rfl), (Nat.le_of_ble_eq_true rfl)⟩) hG (fun E ce q9 H locs hpx hG hce hcv hcl => ?_) (fun a0 r H locs hp hG => ?_)
  · exact g_out hnt hlocks hce hcv hcl ⟨hpx.1, fun z => hpx.2 z.1⟩ hG (by omega) (by omega)
  obtain ⟨hr6, rfl, ea⟩ := hp
  replace ea : a0 = ad (11 + 4 * r) := ea
  subst ea
  have hSr : isSt L K n fR (ad (11 + 4 * r)) (ad (12 + 4 * r)) (ad (13 + 4 * r)) (ad (14 + 4 * r)) := repX_st hR (show r < 7 + a_nd α by omega)
  have hS0 := hSr
  obtain ⟨hLar, hKar, h0ar, h1ar, h2ar, hLbr, hKbr, hnbr, hLcr, hKcr, hncr, hLer, hKer, hner⟩ := hS0
  refine lv_astore (lv' := [(4, .ref (ad (11 + 4 * r))), (0, .ref (ad 0)), (1, .int (nI r)), (2, .int j), (3, .int wh)]) hx hb dX2_seen_5 hl (by decide) rfl (fun ls hl => ?_)
  refine lv_iload_n hx hb dX2_seen_7 rfl (lv_at hl 3 rfl) ?_
  refine lv_bipush (v := 6) hx hb dX2_seen_8 (by decide) ?_
  refine g_xv (vx_runS (As := [.int j, .int 6]) (rest := []) ⟨hx, hb, hml, hown, hts⟩ (c_requireIndex l G base hl0 (i := j) (b := 6)) (cwS 2 hts gX2_seen_X2_requireIndex rfl rfl rfl (by decide +kernel) ⟨(Nat.le_of_ble_eq_true rfl), (Nat.le_of_ble_eq_true rfl)⟩) (g_psx hK hX hG) rfl rfl hl.1 rfl (lv_room (Nat.le_of_ble_eq_true rfl)) dX2_seen_10 ⟨(Nat.le_of_ble_eq_true rfl), (Nat.le_of_ble_eq_true rfl)⟩) hG (fun E ce q9 H locs hpx hG hce hcv hcl => ?_) (fun _ H locs hp hG => ?_)
  · exact g_out hnt hlocks hce hcv hcl ⟨hpx.1, fun z => okI_no (by decide) hpx.2 z.2.1⟩ hG (by omega) (by omega)
  obtain ⟨qq, hq6, rfl⟩ := okI_of (N := 6) (by decide) hp.1 hp.2
  refine lv_iload_n hx hb dX2_seen_13 rfl (lv_at hl 4 rfl) ?_
  refine lv_iconst (v := 3) hx hb dX2_seen_14 (by decide) ?_
  refine g_xv (vx_runS (As := [.int wh, .int 3]) (rest := []) ⟨hx, hb, hml, hown, hts⟩ (c_requireIndex l G base hl0 (i := wh) (b := 3)) (cwS 2 hts gX2_seen_X2_requireIndex rfl rfl rfl (by decide +kernel) ⟨(Nat.le_of_ble_eq_true rfl), (Nat.le_of_ble_eq_true rfl)⟩) (g_psx hK hX hG) rfl rfl hl.1 rfl (lv_room (Nat.le_of_ble_eq_true rfl)) dX2_seen_15 ⟨(Nat.le_of_ble_eq_true rfl), (Nat.le_of_ble_eq_true rfl)⟩) hG (fun E ce q9 H locs hpx hG hce hcv hcl => ?_) (fun _ H locs hp hG => ?_)
  · exact g_out hnt hlocks hce hcv hcl ⟨hpx.1, fun z => okI_no (by decide) hpx.2 z.2.2⟩ hG (by omega) (by omega)
  have hw3 : okI wh 3 := okI_of (by decide) hp.1 hp.2
  refine lv_iconst (v := 0) hx hb dX2_seen_18 (by decide) ?_
  refine lv_istore (lv' := [(5, .int 0), (4, .ref (ad (11 + 4 * r))), (0, .ref (ad 0)), (1, .int (nI r)), (2, .int (nI qq)), (3, .int wh)]) hx hb dX2_seen_19 hl (by decide) rfl (fun ls hl => ?_)
  refine lv_iconst (v := 0) hx hb dX2_seen_21 (by decide) ?_
  refine lv_istore (lv' := [(6, .int 0), (5, .int 0), (4, .ref (ad (11 + 4 * r))), (0, .ref (ad 0)), (1, .int (nI r)), (2, .int (nI qq)), (3, .int wh)]) hx hb dX2_seen_22 hl (by decide) rfl (fun ls hl => ?_)
  refine lv_iconst (v := 0) hx hb dX2_seen_24 (by decide) ?_
  refine lv_istore (lv' := [(7, .int 0), (6, .int 0), (5, .int 0), (4, .ref (ad (11 + 4 * r))), (0, .ref (ad 0)), (1, .int (nI r)), (2, .int (nI qq)), (3, .int wh)]) hx hb dX2_seen_25 hl (by decide) rfl (fun ls hl => ?_)
  refine lv_iconst (v := 0) hx hb dX2_seen_27 (by decide) ?_
  refine lv_istore (lv' := [(8, .int 0), (7, .int 0), (6, .int 0), (5, .int 0), (4, .ref (ad (11 + 4 * r))), (0, .ref (ad 0)), (1, .int (nI r)), (2, .int (nI qq)), (3, .int wh)]) hx hb dX2_seen_28 hl (by decide) rfl (fun ls hl => ?_)
  obtain ⟨w, ew⟩ : ∃ z : Nat, z = 0 := ⟨_, rfl⟩
  obtain ⟨uu, euu⟩ : ∃ z : Nat, z = 0 := ⟨_, rfl⟩
  obtain ⟨aa, eaa⟩ : ∃ z : Nat, z = 0 := ⟨_, rfl⟩
  obtain ⟨gg, egg⟩ : ∃ z : Nat, z = 0 := ⟨_, rfl⟩
  replace hl : lv_has ls 9 [(0, .ref (ad 0)), (1, .int (nI r)), (2, .int (nI qq)), (3, .int wh), (4, .ref (ad (11 + 4 * r))), (5, .int (nI uu)), (6, .int (nI aa)), (7, .int (nI gg)), (8, .int (nI w))] := by subst ew euu eaa egg; exact (lv_sub hl [5, 6, 7, 8, 4, 3, 2, 1, 0] rfl)
  have inv : w ≤ a_cnt α ∧ (uu, aa, gg) = seeF (seA α r qq) (a_num α) w ∧ uu ≤ 100 ∧ aa ≤ w := by
    subst ew euu eaa egg
    exact ⟨by omega, rfl, by omega, by omega⟩
  have hf : a_cnt α < w + 251 := by omega
  clear ew euu eaa egg
  generalize 251 = d at hf
  induction d generalizing w uu aa gg H locs ls with
  | zero => exact absurd hf (by have := inv.1; omega)
  | succ d ih =>
    refine lv_iload hx hb dX2_seen_30 (lv_at hl 8 rfl) ?_
    refine lv_aload_n hx hb dX2_seen_32 rfl (lv_at hl 0 rfl) ?_
    refine r_Desk_dots hx hb hts (by decide +kernel) hown hK hG hLx hKx h2x (hts (.fieldLink RX2 21 "DotStores" "dots" "LDotStores$Dots;") (by decide +kernel)) dX2_seen_33 ?_
    refine r_Dots_count hx hb hts (by decide +kernel) hown hK hG hLd hKd (hts (.fieldLink RX2 108 "DotStores$Dots" "count" "I") (by decide +kernel)) dX2_seen_36 ?_
    refine lv_topi (fun z1 ez1 => ?_)
    obtain rfl : z1 = nI (a_cnt α) := ez1.trans (hcnt)
    refine lv_icmp_ge (tgt := 100) hx hb dX2_seen_39 (by decide) (fun c0 => ?_) (fun c0 => ?_)
    · have hwc : w = a_cnt α := Nat.le_antisymm inv.1 (nI_le_of (by omega) c0)
      refine lv_iload_n hx hb dX2_seen_100 rfl (lv_at hl 3 rfl) ?_
      refine lv_if_ne (tgt := 107) hx hb dX2_seen_101 (by decide) (fun c4 => ?_) (fun c4 => ?_)
      · refine lv_iload_n hx hb dX2_seen_107 rfl (lv_at hl 3 rfl) ?_
        refine lv_iconst (v := 1) hx hb dX2_seen_108 (by decide) ?_
        refine lv_icmp_ne (tgt := 117) hx hb dX2_seen_109 (by decide) (fun c5 => ?_) (fun c5 => ?_)
        · refine lv_iload hx hb dX2_seen_117 (lv_at hl 7 rfl) ?_
          refine vx_ret ?_
          refine W.widen (k := 12) (n := 100) (by omega) (by omega) ?_
          exact W.iret (v := (nI gg)) hx hb hr (fun t9 h9 hW9 => ⟨⟨(nI gg), (r, qq), rfl, ⟨⟨hr6, rfl⟩, ⟨hq6, rfl⟩, hw3, by subst hwc; rw [← inv.2.1]; unfold seeW; rw [if_neg c4, if_neg c5]⟩, hG.at h9⟩, hG.2.2.1.F h9⟩) hG.2.2.1.2.2 dX2_seen_119
        · have c5 : wh = 1 := by first | exact c5 | exact Classical.not_not.mp c5
          refine lv_iload hx hb dX2_seen_112 (lv_at hl 6 rfl) ?_
          refine lv_goto (tgt := 119) hx hb dX2_seen_114 (by decide) ?_
          refine vx_ret ?_
          refine W.widen (k := 12) (n := 100) (by omega) (by omega) ?_
          exact W.iret (v := (nI aa)) hx hb hr (fun t9 h9 hW9 => ⟨⟨(nI aa), (r, qq), rfl, ⟨⟨hr6, rfl⟩, ⟨hq6, rfl⟩, hw3, by subst hwc; rw [← inv.2.1]; unfold seeW; rw [if_neg c4, if_pos c5]⟩, hG.at h9⟩, hG.2.2.1.F h9⟩) hG.2.2.1.2.2 dX2_seen_119
      · have c4 : wh = 0 := by first | exact c4 | exact Classical.not_not.mp c4
        refine lv_iload hx hb dX2_seen_104 (lv_at hl 5 rfl) ?_
        refine vx_ret ?_
        refine W.widen (k := 12) (n := 100) (by omega) (by omega) ?_
        exact W.iret (v := (nI uu)) hx hb hr (fun t9 h9 hW9 => ⟨⟨(nI uu), (r, qq), rfl, ⟨⟨hr6, rfl⟩, ⟨hq6, rfl⟩, hw3, by subst hwc; rw [← inv.2.1]; unfold seeW; rw [if_pos c4]⟩, hG.at h9⟩, hG.2.2.1.F h9⟩) hG.2.2.1.2.2 dX2_seen_106
    · have hwc : w < a_cnt α := nI_lt_of (by omega) c0
      refine lv_aload_n hx hb dX2_seen_42 rfl (lv_at hl 0 rfl) ?_
      refine r_Desk_dots hx hb hts (by decide +kernel) hown hK hG hLx hKx h2x (hts (.fieldLink RX2 21 "DotStores" "dots" "LDotStores$Dots;") (by decide +kernel)) dX2_seen_43 ?_
      refine r_Dots_replica hx hb hts (by decide +kernel) hown hK hG hLd hKd h0d (hts (.fieldLink RX2 139 "DotStores$Dots" "replica" "[I") (by decide +kernel)) dX2_seen_46 ?_
      refine lv_iload hx hb dX2_seen_49 (lv_at hl 8 rfl) ?_
      refine g_iald hx hb hK hG hLdr hKdr (w) rfl (by rw [hndr]; omega) (by rw [hndr]; decide) dX2_seen_51 ?_
      refine lv_topi (fun z2 ez2 => ?_)
      obtain rfl : z2 = nI (a_rep α w) := ez2.trans ((hR.2.2.2.1.2.2 w hwc).1)
      refine lv_iload_n hx hb dX2_seen_52 rfl (lv_at hl 2 rfl) ?_
      refine lv_icmp_ne (tgt := 94) hx hb dX2_seen_53 (by decide) (fun c1 => ?_) (fun c1 => ?_)
      · have hlv : seA α r qq w = false := by
          have z : ¬ a_rep α w = qq := fun q => c1 (by rw [q])
          simp [seA, z]
        refine lv_iinc (v := (nI (w + 1))) (lv' := [(8, .int (nI (w + 1))), (0, .ref (ad 0)), (1, .int (nI r)), (2, .int (nI qq)), (3, .int wh), (4, .ref (ad (11 + 4 * r))), (5, .int (nI uu)), (6, .int (nI aa)), (7, .int (nI gg))]) hx hb dX2_seen_94 hl (k := 8) rfl (nI_1 w) (by decide) rfl (fun ls hl => ?_)
        refine lv_goto (tgt := 30) hx hb dX2_seen_97 (by decide) ?_
        exact ih (w := w + 1) (uu := uu) (aa := aa) (gg := gg) (hl := (lv_sub hl [1, 2, 3, 4, 5, 6, 7, 8, 0] rfl)) (hG := hG) (inv := ⟨by omega, seeF_f hlv inv.2.1, inv.2.2.1, by omega⟩) (hf := by omega)
      · have c1 : a_rep α w = qq := (nI_eq (by have := (hR.2.2.2.1.2.2 w hwc).2.1; omega) (by omega)).mp (by first | exact c1 | exact Classical.not_not.mp c1)
        refine lv_aload hx hb dX2_seen_56 (lv_at hl 4 rfl) ?_
        refine lv_iload hx hb dX2_seen_58 (lv_at hl 8 rfl) ?_
        refine g_calli (va_runV (As := [.int (nI w)]) (rest := []) ⟨hx, hb, hml, hown, hts⟩ (c_isSeen l G base hSr (i := w) (by omega)) (cwV 1 hts gX2_seen_X1_isSeen rfl rfl rfl (by decide +kernel) ⟨(Nat.le_of_ble_eq_true rfl), (Nat.le_of_ble_eq_true rfl)⟩) (g_pv1 hK hG hLar hKar) rfl rfl hl.1 rfl (lv_room (Nat.le_of_ble_eq_true rfl)) dX2_seen_60 ⟨(Nat.le_of_ble_eq_true rfl), (Nat.le_of_ble_eq_true rfl)⟩) hG (fun y1 u H locs hp hG => ?_)
        have hp : y1 = bi (a_S α r w) := by
          rw [hp]
          exact congrArg bi ((hR.2.2.2.2 r (by omega)).1 w (by omega)).1
        subst hp
        refine lv_if_eq (tgt := 94) hx hb dX2_seen_63 (by decide) (fun c2 => ?_) (fun c2 => ?_)
        · have c2 := bi_0.mp c2
          have hlv : seA α r qq w = false := by simp [seA, c2]
          refine lv_iinc (v := (nI (w + 1))) (lv' := [(8, .int (nI (w + 1))), (0, .ref (ad 0)), (1, .int (nI r)), (2, .int (nI qq)), (3, .int wh), (4, .ref (ad (11 + 4 * r))), (5, .int (nI uu)), (6, .int (nI aa)), (7, .int (nI gg))]) hx hb dX2_seen_94 hl (k := 8) rfl (nI_1 w) (by decide) rfl (fun ls hl => ?_)
          refine lv_goto (tgt := 30) hx hb dX2_seen_97 (by decide) ?_
          exact ih (w := w + 1) (uu := uu) (aa := aa) (gg := gg) (hl := (lv_sub hl [1, 2, 3, 4, 5, 6, 7, 8, 0] rfl)) (hG := hG) (inv := ⟨by omega, seeF_f hlv inv.2.1, inv.2.2.1, by omega⟩) (hf := by omega)
        · have c2 := ts_nf (fun z => c2 (bi_0.mpr z))
          have hlv : seA α r qq w = true := by simp [seA, c1, c2]
          refine lv_iinc (v := (nI (aa + 1))) (lv' := [(6, .int (nI (aa + 1))), (0, .ref (ad 0)), (1, .int (nI r)), (2, .int (nI qq)), (3, .int wh), (4, .ref (ad (11 + 4 * r))), (5, .int (nI uu)), (7, .int (nI gg)), (8, .int (nI w))]) hx hb dX2_seen_66 hl (k := 6) rfl (nI_1 aa) (by decide) rfl (fun ls hl => ?_)
          refine lv_aload_n hx hb dX2_seen_69 rfl (lv_at hl 1 rfl) ?_
          refine r_Desk_dots hx hb hts (by decide +kernel) hown hK hG hLx hKx h2x (hts (.fieldLink RX2 21 "DotStores" "dots" "LDotStores$Dots;") (by decide +kernel)) dX2_seen_70 ?_
          refine r_Dots_number hx hb hts (by decide +kernel) hown hK hG hLd hKd h1d (hts (.fieldLink RX2 145 "DotStores$Dots" "number" "[I") (by decide +kernel)) dX2_seen_73 ?_
          refine lv_iload hx hb dX2_seen_76 (lv_at hl 8 rfl) ?_
          refine g_iald hx hb hK hG hLdn hKdn (w) rfl (by rw [hndn]; omega) (by rw [hndn]; decide) dX2_seen_78 ?_
          refine lv_topi (fun z3 ez3 => ?_)
          obtain rfl : z3 = nI (a_num α w) := ez3.trans ((hR.2.2.2.1.2.2 w hwc).2.2.1)
          refine lv_istore (lv' := [(7, .int (nI (a_num α w))), (6, .int (nI (aa + 1))), (0, .ref (ad 0)), (1, .int (nI r)), (2, .int (nI qq)), (3, .int wh), (4, .ref (ad (11 + 4 * r))), (5, .int (nI uu)), (8, .int (nI w))]) hx hb dX2_seen_79 hl (by decide) rfl (fun ls hl => ?_)
          refine lv_iload hx hb dX2_seen_81 (lv_at hl 0 rfl) ?_
          refine lv_iload hx hb dX2_seen_83 (lv_at hl 7 rfl) ?_
          refine lv_iconst (v := 1) hx hb dX2_seen_85 (by decide) ?_
          refine lv_iadd hx hb dX2_seen_86 ?_
          refine lv_topi (fun z4 ez4 => ?_)
          obtain rfl : z4 = nI (uu + 1) := ez4.trans (nI_1 uu)
          refine lv_icmp_ne (tgt := 94) hx hb dX2_seen_87 (by decide) (fun c3 => ?_) (fun c3 => ?_)
          · have c3 : ¬ a_num α w = uu + 1 := fun q => c3 (by rw [q])
            refine lv_iinc (v := (nI (w + 1))) (lv' := [(8, .int (nI (w + 1))), (7, .int (nI (a_num α w))), (6, .int (nI (aa + 1))), (0, .ref (ad 0)), (1, .int (nI r)), (2, .int (nI qq)), (3, .int wh), (4, .ref (ad (11 + 4 * r))), (5, .int (nI uu))]) hx hb dX2_seen_94 hl (k := 8) rfl (nI_1 w) (by decide) rfl (fun ls hl => ?_)
            refine lv_goto (tgt := 30) hx hb dX2_seen_97 (by decide) ?_
            exact ih (w := w + 1) (uu := uu) (aa := aa + 1) (gg := a_num α w) (hl := (lv_sub hl [3, 4, 5, 6, 7, 8, 2, 1, 0] rfl)) (hG := hG) (inv := ⟨by omega, seeF_t2 hlv inv.2.1 c3, inv.2.2.1, by omega⟩) (hf := by omega)
          · have c3 : a_num α w = uu + 1 := (nI_eq (by have := (hR.2.2.2.1.2.2 w hwc).2.2.2.1; omega) (by have := inv.2.2.1; omega)).mp (by first | exact c3 | exact Classical.not_not.mp c3)
            refine lv_iload hx hb dX2_seen_90 (lv_at hl 0 rfl) ?_
            refine lv_istore (lv' := [(5, .int (nI (a_num α w))), (7, .int (nI (a_num α w))), (6, .int (nI (aa + 1))), (0, .ref (ad 0)), (1, .int (nI r)), (2, .int (nI qq)), (3, .int wh), (4, .ref (ad (11 + 4 * r))), (8, .int (nI w))]) hx hb dX2_seen_92 hl (by decide) rfl (fun ls hl => ?_)
            refine lv_iinc (v := (nI (w + 1))) (lv' := [(8, .int (nI (w + 1))), (5, .int (nI (a_num α w))), (7, .int (nI (a_num α w))), (6, .int (nI (aa + 1))), (0, .ref (ad 0)), (1, .int (nI r)), (2, .int (nI qq)), (3, .int wh), (4, .ref (ad (11 + 4 * r)))]) hx hb dX2_seen_94 hl (k := 8) rfl (nI_1 w) (by decide) rfl (fun ls hl => ?_)
            refine lv_goto (tgt := 30) hx hb dX2_seen_97 (by decide) ?_
            exact ih (w := w + 1) (uu := a_num α w) (aa := aa + 1) (gg := a_num α w) (hl := (lv_sub hl [4, 5, 6, 7, 8, 1, 3, 2, 0] rfl)) (hG := hG) (inv := ⟨by omega, seeF_t1 hlv inv.2.1 c3, (hR.2.2.2.1.2.2 w hwc).2.2.2.1, by omega⟩) (hf := by omega)
