/-! the dots of the reference, one by one: (q, n) is 100 q + n - 1 -/
def slot (f : Nat) : Nat := 128 * (f / 100) + f % 100
def plc (f : Nat) : Nat := 101 * (f / 100) + (f % 100 + 1)
theorem slot_at {w v : Nat} (h : v < 100) : slot (100 * w + v) = 128 * w + v := by
  unfold slot
  rw [show (100 * w + v) / 100 = w by omega, show (100 * w + v) % 100 = v by omega]
theorem plc_at {w v : Nat} (h : v < 100) : plc (100 * w + v) = 101 * w + (v + 1) := by
  unfold plc
  rw [show (100 * w + v) / 100 = w by omega, show (100 * w + v) % 100 = v by omega]
/-- LIVE in state s, of the key, the part (-1: any), the replica (-1: any) -/
def livB (β : bT) (s : Nat) (key part whose : Int32) (f : Nat) : Bool := b_L β s (slot f) && decide (b_key β (plc f) = key ∧ (part = -1 ∨ b_part β (plc f) = part) ∧ (whose = -1 ∨ nI (f / 100) = whose))
theorem livB_at {β : bT} {s w v : Nat} {key part whose : Int32} (h : v < 100) : livB β s key part whose (100 * w + v) = (b_L β s (128 * w + v) && decide (b_key β (101 * w + (v + 1)) = key ∧ (part = -1 ∨ b_part β (101 * w + (v + 1)) = part) ∧ (whose = -1 ∨ nI w = whose))) := by
  unfold livB
  rw [slot_at h, plc_at h, show (100 * w + v) / 100 = w by omega]
def valB (β : bT) (f : Nat) : Int64 := b_val β (plc f)
/-- the bits that takeBack sets -/
def tbM (S P : Nat → Bool) (f i : Nat) : Bool := S i || anyN (fun g => decide (slot g = i) && P g) f
theorem tbM_0 (S P : Nat → Bool) (i : Nat) : tbM S P 0 i = S i := by simp [tbM, anyN_0]
theorem tbM_f {S P : Nat → Bool} {f : Nat} (h : P f = false) (i : Nat) : tbM S P (f + 1) i = tbM S P f i := by
  unfold tbM
  rw [anyN_s, h]
  simp
theorem tbM_t {S P : Nat → Bool} {f : Nat} (h : P f = true) (i : Nat) : tbM S P (f + 1) i = (tbM S P f i || decide (i = slot f)) := by
  unfold tbM
  rw [anyN_s, h, Bool.and_true, ← Bool.or_assoc, show decide (slot f = i) = decide (i = slot f) from decide_eq_decide.mpr eq_comm]
set_option maxHeartbeats 4000000 in
set_option maxRecDepth 100000 in
/-- takeBack -/
theorem k_takeBack (l : Launch) (G : gG) (base : Nat) {L : List Nat} {K n : Nat → Nat} {rI : Nat → Nat → Int32} {rJ : Nat → Nat → Int64} {rQ : Nat → Nat → Option Nat} {fI : Nat → Nat → Int32} {fR : Nat → Nat → Option Nat} {bm : Nat → Nat} {β : bT} (hM : RepM (L, K, n, rI, rJ, rQ, fI, fR) bm β) {s9 D : Nat} {key part whose : Int32} (hs : s9 < 257) (hD : D < 257) : Met l yX3_takeBack wsX3_takeBack ({ frames := 1, cells := 0, slots := 0, locals := 24 }) (va_Pc [.ref (bm 0), .int (nI s9), .int (nI D), .int key, .int part, .int whose] (g_Pr G base (L, K, n, rI, rJ, rQ, fI, fR))) (g_Ql G base (fun u : Nat → Nat → Int64 => (L, K, n, rI, u, rQ, fI, fR)) (fun x u => x = sumN (livB β s9 key part whose) (valB β) 600 ∧ StpM (L, K, n, rI, rJ, rQ, fI, fR) bm (L, K, n, rI, u, rQ, fI, fR) (bSL β D (tbM (b_S β D) (livB β s9 key part whose) 600) (b_L β D)))) 0 0 (g_A base) := by
  have hMd : isMd L K n fR bm := hM.1
  have hMd0 := hMd
  obtain ⟨minj, mL0, mK0, ⟨mf2, mf3, mf4, mf5, mf6, mf7, mf8, mf9, mf10, mf11, mf13⟩, ⟨mL2, mK2, mn2⟩, ⟨mL3, mK3, mn3⟩, ⟨mL4, mK4, mn4⟩, ⟨mL5, mK5, mn5⟩, ⟨mL6, mK6, mn6⟩, ⟨mL7, mK7, mn7⟩, ⟨mL8, mK8, mn8⟩, ⟨mL9, mK9, mn9⟩, ⟨mL10, mK10, mn10⟩, ⟨mL11, mK11, mn11⟩, ⟨mL13, mK13, mn13⟩⟩ := hMd0
  have hdl : fI (bm 0) 1 = nI (b_nd β) := hM.2.1.1
  have hnd : b_nd β ≤ 250 := hM.2.1.2
  refine Met.ofW (cc := cX3_takeBack) (maxL := 12) (ret := (some .long)) (by decide) rfl ?_
  intro p e s m args below meth c s₁ B hml hv
  obtain ⟨rfl, hPr⟩ := hv
  have hx := B.exec
  have hb := B.bytes
  have hr := B.returns
  have hts := atoms_spec (ws := wsX3_takeBack) B.pre
  have hown : s.vm.findClass RX3 = some m.cls := findClass_of_methodNamed B.named
  have hlocks := B.notSynchronized
  have hin : meth.name = "takeBack" := (name_of_methodNamed B.named B.method).1
  have hK := hPr.2.2
  have hG := hPr.gw
  have hl := lv_entry ([.ref (bm 0), .int (nI s9), .int (nI D), .int key, .int part, .int whose]) (n := 12) (Nat.le_of_ble_eq_true rfl)
  rw [lg_entry_eq]
  generalize (lg_sl ([.ref (bm 0), .int (nI s9), .int (nI D), .int key, .int part, .int whose]) ++ List.replicate (12 - (lg_sl ([.ref (bm 0), .int (nI s9), .int (nI D), .int key, .int part, .int whose])).length) Slot.unset).toArray = ls at hl ⊢
  have hl : lv_has ls 12 [(0, .ref (bm 0)), (1, .int (nI s9)), (2, .int (nI D)), (3, .int key), (4, .int part), (5, .int whose)] := hl
  refine g_start hPr (fun H locs hG => ?_)
  refine lv_lconst (v := 0) hx hb dX3_takeBack_0 (by decide) ?_
  refine lv_lstore (lv' := [(6, .long 0), (0, .ref (bm 0)), (1, .int (nI s9)), (2, .int (nI D)), (3, .int key), (4, .int part), (5, .int whose)]) hx hb dX3_takeBack_1 hl (by decide) rfl (fun ls hl => ?_)
  refine lv_iconst (v := 0) hx hb dX3_takeBack_3 (by decide) ?_
  refine lv_istore (lv' := [(8, .int 0), (6, .long 0), (0, .ref (bm 0)), (1, .int (nI s9)), (2, .int (nI D)), (3, .int key), (4, .int part), (5, .int whose)]) hx hb dX3_takeBack_4 hl (by decide) rfl (fun ls hl => ?_)
  obtain ⟨w, ew⟩ : ∃ z : Nat, z = 0 := ⟨_, rfl⟩
  obtain ⟨tot, etot⟩ : ∃ z : Int64, z = 0 := ⟨_, rfl⟩
  obtain ⟨r1, er1⟩ : ∃ z : Nat → Nat → Int64, z = rJ := ⟨_, rfl⟩
  replace hl : lv_has ls 12 [(0, .ref (bm 0)), (1, .int (nI s9)), (2, .int (nI D)), (3, .int key), (4, .int part), (5, .int whose), (6, .long tot), (8, .int (nI w))] := by subst ew etot er1; exact (lv_sub hl [2, 3, 4, 5, 6, 7, 1, 0] rfl)
  replace hG : gw G base s.heap (L, K, n, rI, r1, rQ, fI, fR) H locs := by subst ew etot er1; exact hG
  have inv : w ≤ 6 ∧ tot = sumN (livB β s9 key part whose) (valB β) (100 * w) ∧ (∀ b, b ≠ bm 2 → r1 b = rJ b) ∧ (∀ j, ¬ (12 * D ≤ j ∧ j < 12 * D + 12) → r1 (bm 2) j = rJ (bm 2) j) ∧ ∀ i, i < 768 → rb (mr (r1 (bm 2)) D) i = tbM (b_S β D) (livB β s9 key part whose) (100 * w) i := by
    subst ew etot er1
    exact ⟨by omega, rfl, fun _ _ => rfl, fun _ _ => rfl, fun i hi => by rw [tbM_0]; exact (hM.2.2.1 D hD i hi).1⟩
  have hf : 6 < w + 7 := by omega
  clear ew etot er1
  generalize 7 = d at hf
  induction d generalizing w tot r1 H locs ls with
  | zero => exact absurd hf (by have := inv.1; omega)
  | succ d ih =>
    refine lv_iload hx hb dX3_takeBack_6 (lv_at hl 7 rfl) ?_
    refine lv_bipush (v := 6) hx hb dX3_takeBack_8 (by decide) ?_
    refine lv_icmp_ge (tgt := 137) hx hb dX3_takeBack_10 (by decide) (fun c0 => ?_) (fun c0 => ?_)
    · have hw : w = 6 := by
        rcases Nat.lt_or_ge w 6 with q | q
        · exact absurd c0 (nI_ge q (by decide))
        · omega
      subst hw
      refine lv_lload hx hb dX3_takeBack_137 (lv_at hl 6 rfl) ?_
      refine W.widen (k := 0) (n := 0) (by omega) (by omega) ?_
      exact W.lret (v := tot) hx hb hr (fun t9 h9 hW9 => ⟨⟨tot, r1, rfl, ⟨inv.2.1, repM_J hM hD (FS := mr (r1 (bm 2)) D) (FL := mr (rJ (bm 3)) D) ⟨fun _ _ => rfl, inv.2.2.2.1⟩ (by rw [inv.2.2.1 _ (isMd_ne hMd (show okM 3 by decide) (show okM 2 by decide) (by decide))]; exact upR_id) (fun b h1 _ => inv.2.2.1 b h1) inv.2.2.2.2 (fun i hi => (hM.2.2.1 D hD i hi).2)⟩, hG.at h9⟩, hG.2.2.1.F h9⟩) hG.2.2.1.2.2 dX3_takeBack_139
    · have hw : w < 6 := by
        rcases Nat.lt_or_ge w 6 with q | q
        · exact q
        · exact absurd (nI_le (a := 6) q (by omega)) c0
      refine lv_iconst (v := 1) hx hb dX3_takeBack_13 (by decide) ?_
      refine lv_istore (lv' := [(9, .int 1), (0, .ref (bm 0)), (1, .int (nI s9)), (2, .int (nI D)), (3, .int key), (4, .int part), (5, .int whose), (6, .long tot), (8, .int (nI w))]) hx hb dX3_takeBack_14 hl (by decide) rfl (fun ls hl => ?_)
      have hf0 := hf
      clear hf
      obtain ⟨vv, evv⟩ : ∃ z : Nat, z = 0 := ⟨_, rfl⟩
      obtain ⟨tot2, etot2⟩ : ∃ z : Int64, z = tot := ⟨_, rfl⟩
      obtain ⟨r12, er12⟩ : ∃ z : Nat → Nat → Int64, z = r1 := ⟨_, rfl⟩
      replace hl : lv_has ls 12 [(0, .ref (bm 0)), (1, .int (nI s9)), (2, .int (nI D)), (3, .int key), (4, .int part), (5, .int whose), (6, .long tot2), (8, .int (nI w)), (9, .int (nI (vv + 1)))] := by subst evv etot2 er12; exact (lv_sub hl [1, 2, 3, 4, 5, 6, 7, 8, 0] rfl)
      replace hG : gw G base s.heap (L, K, n, rI, r12, rQ, fI, fR) H locs := by subst evv etot2 er12; exact hG
      have inv2 : vv ≤ 100 ∧ tot2 = sumN (livB β s9 key part whose) (valB β) (100 * w + vv) ∧ (∀ b, b ≠ bm 2 → r12 b = rJ b) ∧ (∀ j, ¬ (12 * D ≤ j ∧ j < 12 * D + 12) → r12 (bm 2) j = rJ (bm 2) j) ∧ ∀ i, i < 768 → rb (mr (r12 (bm 2)) D) i = tbM (b_S β D) (livB β s9 key part whose) (100 * w + vv) i := by
        subst evv etot2 er12
        exact ⟨by omega, inv.2⟩
      have hf : 100 < vv + 101 := by omega
      clear evv etot2 er12
      generalize 101 = d2 at hf
      induction d2 generalizing vv tot2 r12 H locs ls with
      | zero => exact absurd hf (by have := inv2.1; omega)
      | succ d2 ih2 =>
        refine lv_iload hx hb dX3_takeBack_16 (lv_at hl 8 rfl) ?_
        refine lv_bipush (v := 100) hx hb dX3_takeBack_18 (by decide) ?_
        refine lv_icmp_gt (tgt := 131) hx hb dX3_takeBack_20 (by decide) (fun cg => ?_) (fun cg => ?_)
        · have hvv : vv = 100 := by
            have := (nI_ltI (a := 100) (b := vv + 1) (by decide) (by have := inv2.1; omega)).mp cg
            have := inv2.1
            omega
          subst hvv
          refine lv_iinc (v := (nI (w + 1))) (lv' := [(8, .int (nI (w + 1))), (0, .ref (bm 0)), (1, .int (nI s9)), (2, .int (nI D)), (3, .int key), (4, .int part), (5, .int whose), (6, .long tot2), (9, .int (nI (100 + 1)))]) hx hb dX3_takeBack_131 hl (k := 7) rfl (nI_1 w) (by decide) rfl (fun ls hl => ?_)
          refine lv_goto (tgt := 6) hx hb dX3_takeBack_134 (by decide) ?_
          exact ih (w := w + 1) (tot := tot2) (r1 := r12) (hl := (lv_sub hl [1, 2, 3, 4, 5, 6, 7, 0] rfl)) (hG := hG) (inv := (by have z9 := inv2.2; rw [show 100 * w + 100 = 100 * (w + 1) by omega] at z9; exact ⟨by omega, z9⟩)) (hf := by omega)
        · have hvv : vv < 100 := by
            rcases Nat.lt_or_ge vv 100 with z | z
            · exact z
            · exact absurd ((nI_ltI (a := 100) (b := vv + 1) (by decide) (by have := inv2.1; omega)).mpr (by omega)) cg
          refine lv_iload hx hb dX3_takeBack_23 (lv_at hl 7 rfl) ?_
          refine lv_iload hx hb dX3_takeBack_25 (lv_at hl 8 rfl) ?_
          refine g_calli (va_runS (As := [.int (nI w), .int (nI (vv + 1))]) (rest := []) ⟨hx, hb, hml, hown, hts⟩ (k_dot l G base (q := w) (m1 := vv + 1)) (cwS 2 hts gX3_takeBack_X3_dot rfl rfl rfl (by decide +kernel) ⟨(Nat.le_of_ble_eq_true rfl), (Nat.le_of_ble_eq_true rfl)⟩) (g_ps hK hG) rfl rfl hl.1 rfl (lv_room (Nat.le_of_ble_eq_true rfl)) dX3_takeBack_27 ⟨(Nat.le_of_ble_eq_true rfl), (Nat.le_of_ble_eq_true rfl)⟩) hG (fun y0 _ H locs hp hG => ?_)
          subst hp
          refine lv_istore (lv' := [(10, .int (nI (101 * w + (vv + 1)))), (0, .ref (bm 0)), (1, .int (nI s9)), (2, .int (nI D)), (3, .int key), (4, .int part), (5, .int whose), (6, .long tot2), (8, .int (nI w)), (9, .int (nI (vv + 1)))]) hx hb dX3_takeBack_30 hl (by decide) rfl (fun ls hl => ?_)
          refine lv_aload_n hx hb dX3_takeBack_32 rfl (lv_at hl 1 rfl) ?_
          refine r_Model_live hx hb hts (by decide +kernel) hown hK hG mL0 mK0 mf3 (hts (.fieldLink RX3 13 "DotStoresModel" "live" "[J") (by decide +kernel)) dX3_takeBack_33 ?_
          refine lv_iload_n hx hb dX3_takeBack_36 rfl (lv_at hl 2 rfl) ?_
          refine lv_iload hx hb dX3_takeBack_37 (lv_at hl 8 rfl) ?_
          refine lv_iload hx hb dX3_takeBack_39 (lv_at hl 9 rfl) ?_
          refine g_calli (va_runS (As := [.ref (bm 3), .int (nI s9), .int (nI w), .int (nI (vv + 1))]) (rest := []) ⟨hx, hb, hml, hown, hts⟩ (k_isSet l G base (k := s9) (q := w) (pp := vv) mL3 mK3 mn3 hs (by omega) (by omega)) (cwS 4 hts gX3_takeBack_X3_isSet rfl rfl rfl (by decide +kernel) ⟨(Nat.le_of_ble_eq_true rfl), (Nat.le_of_ble_eq_true rfl)⟩) (g_ps hK hG) rfl rfl hl.1 rfl (lv_room (Nat.le_of_ble_eq_true rfl)) dX3_takeBack_41 ⟨(Nat.le_of_ble_eq_true rfl), (Nat.le_of_ble_eq_true rfl)⟩) hG (fun y1 _ H locs hp hG => ?_)
          have hp : y1 = bi (b_L β s9 (128 * w + vv)) := by
            rw [hp, inv2.2.2.1 _ (isMd_ne hMd (show okM 3 by decide) (show okM 2 by decide) (by decide))]
            exact congrArg bi (repM_L hM hs (by omega) (by omega))
          subst hp
          refine lv_if_eq (tgt := 93) hx hb dX3_takeBack_44 (by decide) (fun c1 => ?_) (fun c1 => ?_)
          · have c1 := bi_0.mp c1
            have hlv : livB β s9 key part whose (100 * w + vv) = false := by rw [livB_at hvv]; simp [c1]
            refine lv_iconst (v := 0) hx hb dX3_takeBack_93 (by decide) ?_
            refine lv_istore (lv' := [(11, .int 0), (10, .int (nI (101 * w + (vv + 1)))), (0, .ref (bm 0)), (1, .int (nI s9)), (2, .int (nI D)), (3, .int key), (4, .int part), (5, .int whose), (6, .long tot2), (8, .int (nI w)), (9, .int (nI (vv + 1)))]) hx hb dX3_takeBack_94 hl (by decide) rfl (fun ls hl => ?_)
            refine lv_iload hx hb dX3_takeBack_96 (lv_at hl 0 rfl) ?_
            refine lv_if_eq (tgt := 125) hx hb dX3_takeBack_98 (by decide) (fun c7 => ?_) (fun c7 => ?_)
            · refine lv_iinc (v := (nI (vv + 1 + 1))) (lv' := [(9, .int (nI (vv + 1 + 1))), (11, .int 0), (10, .int (nI (101 * w + (vv + 1)))), (0, .ref (bm 0)), (1, .int (nI s9)), (2, .int (nI D)), (3, .int key), (4, .int part), (5, .int whose), (6, .long tot2), (8, .int (nI w))]) hx hb dX3_takeBack_125 hl (k := 10) rfl (nI_1 (vv + 1)) (by decide) rfl (fun ls hl => ?_)
              refine lv_goto (tgt := 16) hx hb dX3_takeBack_128 (by decide) ?_
              exact ih2 (vv := vv + 1) (tot2 := tot2) (r12 := r12) (hl := (lv_sub hl [3, 4, 5, 6, 7, 8, 9, 10, 0] rfl)) (hG := hG) (inv2 := ⟨by omega, by rw [show 100 * w + (vv + 1) = 100 * w + vv + 1 from rfl]; rw [sumN_f hlv]; exact inv2.2.1, inv2.2.2.1, inv2.2.2.2.1, fun i hi => by rw [show 100 * w + (vv + 1) = 100 * w + vv + 1 from rfl]; rw [tbM_f hlv]; exact inv2.2.2.2.2 i hi⟩) (hf := by omega)
            · exact absurd rfl c7
          · have c1 := ts_nf (fun z => c1 (bi_0.mpr z))
            refine lv_aload_n hx hb dX3_takeBack_47 rfl (lv_at hl 1 rfl) ?_
            refine r_Model_dotKey hx hb hts (by decide +kernel) hown hK hG mL0 mK0 mf9 (hts (.fieldLink RX3 33 "DotStoresModel" "dotKey" "[I") (by decide +kernel)) dX3_takeBack_48 ?_
            refine lv_iload hx hb dX3_takeBack_51 (lv_at hl 0 rfl) ?_
            refine g_iald hx hb hK hG mL9 mK9 (101 * w + (vv + 1)) rfl (by rw [mn9]; omega) (by rw [mn9]; decide) dX3_takeBack_53 ?_
            refine lv_topi (fun z1 ez1 => ?_)
            obtain rfl : z1 = b_key β (101 * w + (vv + 1)) := ez1.trans ((hM.2.2.2.2.2 _ (by omega)).1)
            refine lv_iload_n hx hb dX3_takeBack_54 rfl (lv_at hl 4 rfl) ?_
            refine lv_icmp_ne (tgt := 93) hx hb dX3_takeBack_55 (by decide) (fun c2 => ?_) (fun c2 => ?_)
            · have hlv : livB β s9 key part whose (100 * w + vv) = false := by rw [livB_at hvv]; simp [c2]
              refine lv_iconst (v := 0) hx hb dX3_takeBack_93 (by decide) ?_
              refine lv_istore (lv' := [(11, .int 0), (10, .int (nI (101 * w + (vv + 1)))), (0, .ref (bm 0)), (1, .int (nI s9)), (2, .int (nI D)), (3, .int key), (4, .int part), (5, .int whose), (6, .long tot2), (8, .int (nI w)), (9, .int (nI (vv + 1)))]) hx hb dX3_takeBack_94 hl (by decide) rfl (fun ls hl => ?_)
              refine lv_iload hx hb dX3_takeBack_96 (lv_at hl 0 rfl) ?_
              refine lv_if_eq (tgt := 125) hx hb dX3_takeBack_98 (by decide) (fun c7 => ?_) (fun c7 => ?_)
              · refine lv_iinc (v := (nI (vv + 1 + 1))) (lv' := [(9, .int (nI (vv + 1 + 1))), (11, .int 0), (10, .int (nI (101 * w + (vv + 1)))), (0, .ref (bm 0)), (1, .int (nI s9)), (2, .int (nI D)), (3, .int key), (4, .int part), (5, .int whose), (6, .long tot2), (8, .int (nI w))]) hx hb dX3_takeBack_125 hl (k := 10) rfl (nI_1 (vv + 1)) (by decide) rfl (fun ls hl => ?_)
                refine lv_goto (tgt := 16) hx hb dX3_takeBack_128 (by decide) ?_
                exact ih2 (vv := vv + 1) (tot2 := tot2) (r12 := r12) (hl := (lv_sub hl [3, 4, 5, 6, 7, 8, 9, 10, 0] rfl)) (hG := hG) (inv2 := ⟨by omega, by rw [show 100 * w + (vv + 1) = 100 * w + vv + 1 from rfl]; rw [sumN_f hlv]; exact inv2.2.1, inv2.2.2.1, inv2.2.2.2.1, fun i hi => by rw [show 100 * w + (vv + 1) = 100 * w + vv + 1 from rfl]; rw [tbM_f hlv]; exact inv2.2.2.2.2 i hi⟩) (hf := by omega)
              · exact absurd rfl c7
            · have c2 := (by first | exact c2 | exact Classical.not_not.mp c2)
              refine lv_iload hx hb dX3_takeBack_58 (lv_at hl 5 rfl) ?_
              refine lv_iconst (v := (-1)) hx hb dX3_takeBack_60 (by decide) ?_
              refine lv_icmp_eq (tgt := 76) hx hb dX3_takeBack_61 (by decide) (fun c3 => ?_) (fun c3 => ?_)
              · have hpt : part = -1 ∨ b_part β (101 * w + (vv + 1)) = part := Or.inl c3
                refine lv_iload hx hb dX3_takeBack_76 (lv_at hl 6 rfl) ?_
                refine lv_iconst (v := (-1)) hx hb dX3_takeBack_78 (by decide) ?_
                refine lv_icmp_eq (tgt := 89) hx hb dX3_takeBack_79 (by decide) (fun c5 => ?_) (fun c5 => ?_)
                · have hwh : whose = -1 ∨ nI w = whose := Or.inl c5
                  have hlv : livB β s9 key part whose (100 * w + vv) = true := by rw [livB_at hvv, c1, decide_eq_true ⟨c2, hpt, hwh⟩]; rfl
                  refine lv_iconst (v := 1) hx hb dX3_takeBack_89 (by decide) ?_
                  refine lv_goto (tgt := 94) hx hb dX3_takeBack_90 (by decide) ?_
                  refine lv_istore (lv' := [(11, .int 1), (10, .int (nI (101 * w + (vv + 1)))), (0, .ref (bm 0)), (1, .int (nI s9)), (2, .int (nI D)), (3, .int key), (4, .int part), (5, .int whose), (6, .long tot2), (8, .int (nI w)), (9, .int (nI (vv + 1)))]) hx hb dX3_takeBack_94 hl (by decide) rfl (fun ls hl => ?_)
                  refine lv_iload hx hb dX3_takeBack_96 (lv_at hl 0 rfl) ?_
                  refine lv_if_eq (tgt := 125) hx hb dX3_takeBack_98 (by decide) (fun c7 => ?_) (fun c7 => ?_)
                  · exact absurd c7 (by decide)
                  · refine lv_aload_n hx hb dX3_takeBack_101 rfl (lv_at hl 2 rfl) ?_
                    refine r_Model_seen hx hb hts (by decide +kernel) hown hK hG mL0 mK0 mf2 (hts (.fieldLink RX3 7 "DotStoresModel" "seen" "[J") (by decide +kernel)) dX3_takeBack_102 ?_
                    refine lv_iload_n hx hb dX3_takeBack_105 rfl (lv_at hl 4 rfl) ?_
                    refine lv_iload hx hb dX3_takeBack_106 (lv_at hl 9 rfl) ?_
                    refine lv_iload hx hb dX3_takeBack_108 (lv_at hl 10 rfl) ?_
                    refine g_callv (va_runS (As := [.ref (bm 2), .int (nI D), .int (nI w), .int (nI (vv + 1))]) (rest := []) ⟨hx, hb, hml, hown, hts⟩ (k_set l G base (k := D) (q := w) (pp := vv) mL2 mK2 mn2 hD (by omega) (by omega)) (cwS 4 hts gX3_takeBack_X3_set rfl rfl rfl (by decide +kernel) ⟨(Nat.le_of_ble_eq_true rfl), (Nat.le_of_ble_eq_true rfl)⟩) (g_ps hK hG) rfl rfl hl.1 rfl (lv_room (Nat.le_of_ble_eq_true rfl)) dX3_takeBack_110 ⟨(Nat.le_of_ble_eq_true rfl), (Nat.le_of_ble_eq_true rfl)⟩) hG (fun u H locs hp hG => ?_)
                    refine lv_lload hx hb dX3_takeBack_113 (lv_at hl 8 rfl) ?_
                    refine lv_aload_n hx hb dX3_takeBack_115 rfl (lv_at hl 2 rfl) ?_
                    refine r_Model_dotValue hx hb hts (by decide +kernel) hown hK hG mL0 mK0 mf11 (hts (.fieldLink RX3 39 "DotStoresModel" "dotValue" "[J") (by decide +kernel)) dX3_takeBack_116 ?_
                    refine lv_iload hx hb dX3_takeBack_119 (lv_at hl 1 rfl) ?_
                    refine g_lald hx hb hK hG mL11 mK11 (101 * w + (vv + 1)) rfl (by rw [mn11]; omega) (by rw [mn11]; decide) dX3_takeBack_121 ?_
                    refine lv_topl (fun z2 ez2 => ?_)
                    obtain rfl : z2 = b_val β (101 * w + (vv + 1)) := ez2.trans ((by rw [hp, g_up_b _ _ _ _ (isMd_ne hMd (show okM 11 by decide) (show okM 2 by decide) (by decide)), inv2.2.2.1 _ (isMd_ne hMd (show okM 11 by decide) (show okM 2 by decide) (by decide))]; exact (hM.2.2.2.2.2 _ (by omega)).2.2))
                    refine lv_ladd hx hb dX3_takeBack_122 ?_
                    refine lv_lstore (lv' := [(6, .long (tot2 + (b_val β (101 * w + (vv + 1))))), (11, .int 1), (10, .int (nI (101 * w + (vv + 1)))), (0, .ref (bm 0)), (1, .int (nI s9)), (2, .int (nI D)), (3, .int key), (4, .int part), (5, .int whose), (8, .int (nI w)), (9, .int (nI (vv + 1)))]) hx hb dX3_takeBack_123 hl (by decide) rfl (fun ls hl => ?_)
                    refine lv_iinc (v := (nI (vv + 1 + 1))) (lv' := [(9, .int (nI (vv + 1 + 1))), (6, .long (tot2 + (b_val β (101 * w + (vv + 1))))), (11, .int 1), (10, .int (nI (101 * w + (vv + 1)))), (0, .ref (bm 0)), (1, .int (nI s9)), (2, .int (nI D)), (3, .int key), (4, .int part), (5, .int whose), (8, .int (nI w))]) hx hb dX3_takeBack_125 hl (k := 10) rfl (nI_1 (vv + 1)) (by decide) rfl (fun ls hl => ?_)
                    refine lv_goto (tgt := 16) hx hb dX3_takeBack_128 (by decide) ?_
                    exact ih2 (vv := vv + 1) (r12 := u) (hl := (lv_sub hl [4, 5, 6, 7, 8, 9, 1, 10, 0] rfl)) (hG := hG) (inv2 := ⟨by omega, by rw [show 100 * w + (vv + 1) = 100 * w + vv + 1 from rfl]; rw [sumN_t hlv, ← inv2.2.1]; unfold valB; rw [plc_at hvv], fun b hb => by rw [hp, g_up_other _ _ _ hb]; exact inv2.2.2.1 b hb, fun j hj => by rw [hp, g_up_i _ _ _ _ (by omega)]; exact inv2.2.2.2.1 j hj, fun i hi => by rw [show 100 * w + (vv + 1) = 100 * w + vv + 1 from rfl]; rw [hp, mset, inv2.2.2.2.2 i hi, tbM_t hlv, slot_at hvv]⟩) (hf := by omega)
                · refine lv_iload hx hb dX3_takeBack_82 (lv_at hl 8 rfl) ?_
                  refine lv_iload hx hb dX3_takeBack_84 (lv_at hl 6 rfl) ?_
                  refine lv_icmp_ne (tgt := 93) hx hb dX3_takeBack_86 (by decide) (fun c6 => ?_) (fun c6 => ?_)
                  · have hlv : livB β s9 key part whose (100 * w + vv) = false := by rw [livB_at hvv]; simp [c5, c6]
                    refine lv_iconst (v := 0) hx hb dX3_takeBack_93 (by decide) ?_
                    refine lv_istore (lv' := [(11, .int 0), (10, .int (nI (101 * w + (vv + 1)))), (0, .ref (bm 0)), (1, .int (nI s9)), (2, .int (nI D)), (3, .int key), (4, .int part), (5, .int whose), (6, .long tot2), (8, .int (nI w)), (9, .int (nI (vv + 1)))]) hx hb dX3_takeBack_94 hl (by decide) rfl (fun ls hl => ?_)
                    refine lv_iload hx hb dX3_takeBack_96 (lv_at hl 0 rfl) ?_
                    refine lv_if_eq (tgt := 125) hx hb dX3_takeBack_98 (by decide) (fun c7 => ?_) (fun c7 => ?_)
                    · refine lv_iinc (v := (nI (vv + 1 + 1))) (lv' := [(9, .int (nI (vv + 1 + 1))), (11, .int 0), (10, .int (nI (101 * w + (vv + 1)))), (0, .ref (bm 0)), (1, .int (nI s9)), (2, .int (nI D)), (3, .int key), (4, .int part), (5, .int whose), (6, .long tot2), (8, .int (nI w))]) hx hb dX3_takeBack_125 hl (k := 10) rfl (nI_1 (vv + 1)) (by decide) rfl (fun ls hl => ?_)
                      refine lv_goto (tgt := 16) hx hb dX3_takeBack_128 (by decide) ?_
                      exact ih2 (vv := vv + 1) (tot2 := tot2) (r12 := r12) (hl := (lv_sub hl [3, 4, 5, 6, 7, 8, 9, 10, 0] rfl)) (hG := hG) (inv2 := ⟨by omega, by rw [show 100 * w + (vv + 1) = 100 * w + vv + 1 from rfl]; rw [sumN_f hlv]; exact inv2.2.1, inv2.2.2.1, inv2.2.2.2.1, fun i hi => by rw [show 100 * w + (vv + 1) = 100 * w + vv + 1 from rfl]; rw [tbM_f hlv]; exact inv2.2.2.2.2 i hi⟩) (hf := by omega)
                    · exact absurd rfl c7
                  · have hwh : whose = -1 ∨ nI w = whose := Or.inr (by first | exact c6 | exact Classical.not_not.mp c6)
                    have hlv : livB β s9 key part whose (100 * w + vv) = true := by rw [livB_at hvv, c1, decide_eq_true ⟨c2, hpt, hwh⟩]; rfl
                    refine lv_iconst (v := 1) hx hb dX3_takeBack_89 (by decide) ?_
                    refine lv_goto (tgt := 94) hx hb dX3_takeBack_90 (by decide) ?_
                    refine lv_istore (lv' := [(11, .int 1), (10, .int (nI (101 * w + (vv + 1)))), (0, .ref (bm 0)), (1, .int (nI s9)), (2, .int (nI D)), (3, .int key), (4, .int part), (5, .int whose), (6, .long tot2), (8, .int (nI w)), (9, .int (nI (vv + 1)))]) hx hb dX3_takeBack_94 hl (by decide) rfl (fun ls hl => ?_)
                    refine lv_iload hx hb dX3_takeBack_96 (lv_at hl 0 rfl) ?_
                    refine lv_if_eq (tgt := 125) hx hb dX3_takeBack_98 (by decide) (fun c7 => ?_) (fun c7 => ?_)
                    · exact absurd c7 (by decide)
                    · refine lv_aload_n hx hb dX3_takeBack_101 rfl (lv_at hl 2 rfl) ?_
                      refine r_Model_seen hx hb hts (by decide +kernel) hown hK hG mL0 mK0 mf2 (hts (.fieldLink RX3 7 "DotStoresModel" "seen" "[J") (by decide +kernel)) dX3_takeBack_102 ?_
                      refine lv_iload_n hx hb dX3_takeBack_105 rfl (lv_at hl 4 rfl) ?_
                      refine lv_iload hx hb dX3_takeBack_106 (lv_at hl 9 rfl) ?_
                      refine lv_iload hx hb dX3_takeBack_108 (lv_at hl 10 rfl) ?_
                      refine g_callv (va_runS (As := [.ref (bm 2), .int (nI D), .int (nI w), .int (nI (vv + 1))]) (rest := []) ⟨hx, hb, hml, hown, hts⟩ (k_set l G base (k := D) (q := w) (pp := vv) mL2 mK2 mn2 hD (by omega) (by omega)) (cwS 4 hts gX3_takeBack_X3_set rfl rfl rfl (by decide +kernel) ⟨(Nat.le_of_ble_eq_true rfl), (Nat.le_of_ble_eq_true rfl)⟩) (g_ps hK hG) rfl rfl hl.1 rfl (lv_room (Nat.le_of_ble_eq_true rfl)) dX3_takeBack_110 ⟨(Nat.le_of_ble_eq_true rfl), (Nat.le_of_ble_eq_true rfl)⟩) hG (fun u H locs hp hG => ?_)
                      refine lv_lload hx hb dX3_takeBack_113 (lv_at hl 8 rfl) ?_
                      refine lv_aload_n hx hb dX3_takeBack_115 rfl (lv_at hl 2 rfl) ?_
                      refine r_Model_dotValue hx hb hts (by decide +kernel) hown hK hG mL0 mK0 mf11 (hts (.fieldLink RX3 39 "DotStoresModel" "dotValue" "[J") (by decide +kernel)) dX3_takeBack_116 ?_
                      refine lv_iload hx hb dX3_takeBack_119 (lv_at hl 1 rfl) ?_
                      refine g_lald hx hb hK hG mL11 mK11 (101 * w + (vv + 1)) rfl (by rw [mn11]; omega) (by rw [mn11]; decide) dX3_takeBack_121 ?_
                      refine lv_topl (fun z3 ez3 => ?_)
                      obtain rfl : z3 = b_val β (101 * w + (vv + 1)) := ez3.trans ((by rw [hp, g_up_b _ _ _ _ (isMd_ne hMd (show okM 11 by decide) (show okM 2 by decide) (by decide)), inv2.2.2.1 _ (isMd_ne hMd (show okM 11 by decide) (show okM 2 by decide) (by decide))]; exact (hM.2.2.2.2.2 _ (by omega)).2.2))
                      refine lv_ladd hx hb dX3_takeBack_122 ?_
                      refine lv_lstore (lv' := [(6, .long (tot2 + (b_val β (101 * w + (vv + 1))))), (11, .int 1), (10, .int (nI (101 * w + (vv + 1)))), (0, .ref (bm 0)), (1, .int (nI s9)), (2, .int (nI D)), (3, .int key), (4, .int part), (5, .int whose), (8, .int (nI w)), (9, .int (nI (vv + 1)))]) hx hb dX3_takeBack_123 hl (by decide) rfl (fun ls hl => ?_)
                      refine lv_iinc (v := (nI (vv + 1 + 1))) (lv' := [(9, .int (nI (vv + 1 + 1))), (6, .long (tot2 + (b_val β (101 * w + (vv + 1))))), (11, .int 1), (10, .int (nI (101 * w + (vv + 1)))), (0, .ref (bm 0)), (1, .int (nI s9)), (2, .int (nI D)), (3, .int key), (4, .int part), (5, .int whose), (8, .int (nI w))]) hx hb dX3_takeBack_125 hl (k := 10) rfl (nI_1 (vv + 1)) (by decide) rfl (fun ls hl => ?_)
                      refine lv_goto (tgt := 16) hx hb dX3_takeBack_128 (by decide) ?_
                      exact ih2 (vv := vv + 1) (r12 := u) (hl := (lv_sub hl [4, 5, 6, 7, 8, 9, 1, 10, 0] rfl)) (hG := hG) (inv2 := ⟨by omega, by rw [show 100 * w + (vv + 1) = 100 * w + vv + 1 from rfl]; rw [sumN_t hlv, ← inv2.2.1]; unfold valB; rw [plc_at hvv], fun b hb => by rw [hp, g_up_other _ _ _ hb]; exact inv2.2.2.1 b hb, fun j hj => by rw [hp, g_up_i _ _ _ _ (by omega)]; exact inv2.2.2.2.1 j hj, fun i hi => by rw [show 100 * w + (vv + 1) = 100 * w + vv + 1 from rfl]; rw [hp, mset, inv2.2.2.2.2 i hi, tbM_t hlv, slot_at hvv]⟩) (hf := by omega)
              · refine lv_aload_n hx hb dX3_takeBack_64 rfl (lv_at hl 1 rfl) ?_
                refine r_Model_dotPart hx hb hts (by decide +kernel) hown hK hG mL0 mK0 mf10 (hts (.fieldLink RX3 36 "DotStoresModel" "dotPart" "[I") (by decide +kernel)) dX3_takeBack_65 ?_
                refine lv_iload hx hb dX3_takeBack_68 (lv_at hl 0 rfl) ?_
                refine g_iald hx hb hK hG mL10 mK10 (101 * w + (vv + 1)) rfl (by rw [mn10]; omega) (by rw [mn10]; decide) dX3_takeBack_70 ?_
                refine lv_topi (fun z4 ez4 => ?_)
                obtain rfl : z4 = b_part β (101 * w + (vv + 1)) := ez4.trans ((hM.2.2.2.2.2 _ (by omega)).2.1)
                refine lv_iload hx hb dX3_takeBack_71 (lv_at hl 5 rfl) ?_
                refine lv_icmp_ne (tgt := 93) hx hb dX3_takeBack_73 (by decide) (fun c4 => ?_) (fun c4 => ?_)
                · have hlv : livB β s9 key part whose (100 * w + vv) = false := by rw [livB_at hvv]; simp [c3, c4]
                  refine lv_iconst (v := 0) hx hb dX3_takeBack_93 (by decide) ?_
                  refine lv_istore (lv' := [(11, .int 0), (10, .int (nI (101 * w + (vv + 1)))), (0, .ref (bm 0)), (1, .int (nI s9)), (2, .int (nI D)), (3, .int key), (4, .int part), (5, .int whose), (6, .long tot2), (8, .int (nI w)), (9, .int (nI (vv + 1)))]) hx hb dX3_takeBack_94 hl (by decide) rfl (fun ls hl => ?_)
                  refine lv_iload hx hb dX3_takeBack_96 (lv_at hl 0 rfl) ?_
                  refine lv_if_eq (tgt := 125) hx hb dX3_takeBack_98 (by decide) (fun c7 => ?_) (fun c7 => ?_)
                  · refine lv_iinc (v := (nI (vv + 1 + 1))) (lv' := [(9, .int (nI (vv + 1 + 1))), (11, .int 0), (10, .int (nI (101 * w + (vv + 1)))), (0, .ref (bm 0)), (1, .int (nI s9)), (2, .int (nI D)), (3, .int key), (4, .int part), (5, .int whose), (6, .long tot2), (8, .int (nI w))]) hx hb dX3_takeBack_125 hl (k := 10) rfl (nI_1 (vv + 1)) (by decide) rfl (fun ls hl => ?_)
                    refine lv_goto (tgt := 16) hx hb dX3_takeBack_128 (by decide) ?_
                    exact ih2 (vv := vv + 1) (tot2 := tot2) (r12 := r12) (hl := (lv_sub hl [3, 4, 5, 6, 7, 8, 9, 10, 0] rfl)) (hG := hG) (inv2 := ⟨by omega, by rw [show 100 * w + (vv + 1) = 100 * w + vv + 1 from rfl]; rw [sumN_f hlv]; exact inv2.2.1, inv2.2.2.1, inv2.2.2.2.1, fun i hi => by rw [show 100 * w + (vv + 1) = 100 * w + vv + 1 from rfl]; rw [tbM_f hlv]; exact inv2.2.2.2.2 i hi⟩) (hf := by omega)
                  · exact absurd rfl c7
                · have hpt : part = -1 ∨ b_part β (101 * w + (vv + 1)) = part := Or.inr (by first | exact c4 | exact Classical.not_not.mp c4)
                  refine lv_iload hx hb dX3_takeBack_76 (lv_at hl 6 rfl) ?_
                  refine lv_iconst (v := (-1)) hx hb dX3_takeBack_78 (by decide) ?_
                  refine lv_icmp_eq (tgt := 89) hx hb dX3_takeBack_79 (by decide) (fun c5 => ?_) (fun c5 => ?_)
                  · have hwh : whose = -1 ∨ nI w = whose := Or.inl c5
                    have hlv : livB β s9 key part whose (100 * w + vv) = true := by rw [livB_at hvv, c1, decide_eq_true ⟨c2, hpt, hwh⟩]; rfl
                    refine lv_iconst (v := 1) hx hb dX3_takeBack_89 (by decide) ?_
                    refine lv_goto (tgt := 94) hx hb dX3_takeBack_90 (by decide) ?_
                    refine lv_istore (lv' := [(11, .int 1), (10, .int (nI (101 * w + (vv + 1)))), (0, .ref (bm 0)), (1, .int (nI s9)), (2, .int (nI D)), (3, .int key), (4, .int part), (5, .int whose), (6, .long tot2), (8, .int (nI w)), (9, .int (nI (vv + 1)))]) hx hb dX3_takeBack_94 hl (by decide) rfl (fun ls hl => ?_)
                    refine lv_iload hx hb dX3_takeBack_96 (lv_at hl 0 rfl) ?_
                    refine lv_if_eq (tgt := 125) hx hb dX3_takeBack_98 (by decide) (fun c7 => ?_) (fun c7 => ?_)
                    · exact absurd c7 (by decide)
                    · refine lv_aload_n hx hb dX3_takeBack_101 rfl (lv_at hl 2 rfl) ?_
                      refine r_Model_seen hx hb hts (by decide +kernel) hown hK hG mL0 mK0 mf2 (hts (.fieldLink RX3 7 "DotStoresModel" "seen" "[J") (by decide +kernel)) dX3_takeBack_102 ?_
                      refine lv_iload_n hx hb dX3_takeBack_105 rfl (lv_at hl 4 rfl) ?_
                      refine lv_iload hx hb dX3_takeBack_106 (lv_at hl 9 rfl) ?_
                      refine lv_iload hx hb dX3_takeBack_108 (lv_at hl 10 rfl) ?_
                      refine g_callv (va_runS (As := [.ref (bm 2), .int (nI D), .int (nI w), .int (nI (vv + 1))]) (rest := []) ⟨hx, hb, hml, hown, hts⟩ (k_set l G base (k := D) (q := w) (pp := vv) mL2 mK2 mn2 hD (by omega) (by omega)) (cwS 4 hts gX3_takeBack_X3_set rfl rfl rfl (by decide +kernel) ⟨(Nat.le_of_ble_eq_true rfl), (Nat.le_of_ble_eq_true rfl)⟩) (g_ps hK hG) rfl rfl hl.1 rfl (lv_room (Nat.le_of_ble_eq_true rfl)) dX3_takeBack_110 ⟨(Nat.le_of_ble_eq_true rfl), (Nat.le_of_ble_eq_true rfl)⟩) hG (fun u H locs hp hG => ?_)
                      refine lv_lload hx hb dX3_takeBack_113 (lv_at hl 8 rfl) ?_
                      refine lv_aload_n hx hb dX3_takeBack_115 rfl (lv_at hl 2 rfl) ?_
                      refine r_Model_dotValue hx hb hts (by decide +kernel) hown hK hG mL0 mK0 mf11 (hts (.fieldLink RX3 39 "DotStoresModel" "dotValue" "[J") (by decide +kernel)) dX3_takeBack_116 ?_
                      refine lv_iload hx hb dX3_takeBack_119 (lv_at hl 1 rfl) ?_
                      refine g_lald hx hb hK hG mL11 mK11 (101 * w + (vv + 1)) rfl (by rw [mn11]; omega) (by rw [mn11]; decide) dX3_takeBack_121 ?_
                      refine lv_topl (fun z5 ez5 => ?_)
                      obtain rfl : z5 = b_val β (101 * w + (vv + 1)) := ez5.trans ((by rw [hp, g_up_b _ _ _ _ (isMd_ne hMd (show okM 11 by decide) (show okM 2 by decide) (by decide)), inv2.2.2.1 _ (isMd_ne hMd (show okM 11 by decide) (show okM 2 by decide) (by decide))]; exact (hM.2.2.2.2.2 _ (by omega)).2.2))
                      refine lv_ladd hx hb dX3_takeBack_122 ?_
                      refine lv_lstore (lv' := [(6, .long (tot2 + (b_val β (101 * w + (vv + 1))))), (11, .int 1), (10, .int (nI (101 * w + (vv + 1)))), (0, .ref (bm 0)), (1, .int (nI s9)), (2, .int (nI D)), (3, .int key), (4, .int part), (5, .int whose), (8, .int (nI w)), (9, .int (nI (vv + 1)))]) hx hb dX3_takeBack_123 hl (by decide) rfl (fun ls hl => ?_)
                      refine lv_iinc (v := (nI (vv + 1 + 1))) (lv' := [(9, .int (nI (vv + 1 + 1))), (6, .long (tot2 + (b_val β (101 * w + (vv + 1))))), (11, .int 1), (10, .int (nI (101 * w + (vv + 1)))), (0, .ref (bm 0)), (1, .int (nI s9)), (2, .int (nI D)), (3, .int key), (4, .int part), (5, .int whose), (8, .int (nI w))]) hx hb dX3_takeBack_125 hl (k := 10) rfl (nI_1 (vv + 1)) (by decide) rfl (fun ls hl => ?_)
                      refine lv_goto (tgt := 16) hx hb dX3_takeBack_128 (by decide) ?_
                      exact ih2 (vv := vv + 1) (r12 := u) (hl := (lv_sub hl [4, 5, 6, 7, 8, 9, 1, 10, 0] rfl)) (hG := hG) (inv2 := ⟨by omega, by rw [show 100 * w + (vv + 1) = 100 * w + vv + 1 from rfl]; rw [sumN_t hlv, ← inv2.2.1]; unfold valB; rw [plc_at hvv], fun b hb => by rw [hp, g_up_other _ _ _ hb]; exact inv2.2.2.1 b hb, fun j hj => by rw [hp, g_up_i _ _ _ _ (by omega)]; exact inv2.2.2.2.1 j hj, fun i hi => by rw [show 100 * w + (vv + 1) = 100 * w + vv + 1 from rfl]; rw [hp, mset, inv2.2.2.2.2 i hi, tbM_t hlv, slot_at hvv]⟩) (hf := by omega)
                  · refine lv_iload hx hb dX3_takeBack_82 (lv_at hl 8 rfl) ?_
                    refine lv_iload hx hb dX3_takeBack_84 (lv_at hl 6 rfl) ?_
                    refine lv_icmp_ne (tgt := 93) hx hb dX3_takeBack_86 (by decide) (fun c6 => ?_) (fun c6 => ?_)
                    · have hlv : livB β s9 key part whose (100 * w + vv) = false := by rw [livB_at hvv]; simp [c5, c6]
                      refine lv_iconst (v := 0) hx hb dX3_takeBack_93 (by decide) ?_
                      refine lv_istore (lv' := [(11, .int 0), (10, .int (nI (101 * w + (vv + 1)))), (0, .ref (bm 0)), (1, .int (nI s9)), (2, .int (nI D)), (3, .int key), (4, .int part), (5, .int whose), (6, .long tot2), (8, .int (nI w)), (9, .int (nI (vv + 1)))]) hx hb dX3_takeBack_94 hl (by decide) rfl (fun ls hl => ?_)
                      refine lv_iload hx hb dX3_takeBack_96 (lv_at hl 0 rfl) ?_
                      refine lv_if_eq (tgt := 125) hx hb dX3_takeBack_98 (by decide) (fun c7 => ?_) (fun c7 => ?_)
                      · refine lv_iinc (v := (nI (vv + 1 + 1))) (lv' := [(9, .int (nI (vv + 1 + 1))), (11, .int 0), (10, .int (nI (101 * w + (vv + 1)))), (0, .ref (bm 0)), (1, .int (nI s9)), (2, .int (nI D)), (3, .int key), (4, .int part), (5, .int whose), (6, .long tot2), (8, .int (nI w))]) hx hb dX3_takeBack_125 hl (k := 10) rfl (nI_1 (vv + 1)) (by decide) rfl (fun ls hl => ?_)
                        refine lv_goto (tgt := 16) hx hb dX3_takeBack_128 (by decide) ?_
                        exact ih2 (vv := vv + 1) (tot2 := tot2) (r12 := r12) (hl := (lv_sub hl [3, 4, 5, 6, 7, 8, 9, 10, 0] rfl)) (hG := hG) (inv2 := ⟨by omega, by rw [show 100 * w + (vv + 1) = 100 * w + vv + 1 from rfl]; rw [sumN_f hlv]; exact inv2.2.1, inv2.2.2.1, inv2.2.2.2.1, fun i hi => by rw [show 100 * w + (vv + 1) = 100 * w + vv + 1 from rfl]; rw [tbM_f hlv]; exact inv2.2.2.2.2 i hi⟩) (hf := by omega)
                      · exact absurd rfl c7
                    · have hwh : whose = -1 ∨ nI w = whose := Or.inr (by first | exact c6 | exact Classical.not_not.mp c6)
                      have hlv : livB β s9 key part whose (100 * w + vv) = true := by rw [livB_at hvv, c1, decide_eq_true ⟨c2, hpt, hwh⟩]; rfl
                      refine lv_iconst (v := 1) hx hb dX3_takeBack_89 (by decide) ?_
                      refine lv_goto (tgt := 94) hx hb dX3_takeBack_90 (by decide) ?_
                      refine lv_istore (lv' := [(11, .int 1), (10, .int (nI (101 * w + (vv + 1)))), (0, .ref (bm 0)), (1, .int (nI s9)), (2, .int (nI D)), (3, .int key), (4, .int part), (5, .int whose), (6, .long tot2), (8, .int (nI w)), (9, .int (nI (vv + 1)))]) hx hb dX3_takeBack_94 hl (by decide) rfl (fun ls hl => ?_)
                      refine lv_iload hx hb dX3_takeBack_96 (lv_at hl 0 rfl) ?_
                      refine lv_if_eq (tgt := 125) hx hb dX3_takeBack_98 (by decide) (fun c7 => ?_) (fun c7 => ?_)
                      · exact absurd c7 (by decide)
                      · refine lv_aload_n hx hb dX3_takeBack_101 rfl (lv_at hl 2 rfl) ?_
                        refine r_Model_seen hx hb hts (by decide +kernel) hown hK hG mL0 mK0 mf2 (hts (.fieldLink RX3 7 "DotStoresModel" "seen" "[J") (by decide +kernel)) dX3_takeBack_102 ?_
                        refine lv_iload_n hx hb dX3_takeBack_105 rfl (lv_at hl 4 rfl) ?_
                        refine lv_iload hx hb dX3_takeBack_106 (lv_at hl 9 rfl) ?_
                        refine lv_iload hx hb dX3_takeBack_108 (lv_at hl 10 rfl) ?_
                        refine g_callv (va_runS (As := [.ref (bm 2), .int (nI D), .int (nI w), .int (nI (vv + 1))]) (rest := []) ⟨hx, hb, hml, hown, hts⟩ (k_set l G base (k := D) (q := w) (pp := vv) mL2 mK2 mn2 hD (by omega) (by omega)) (cwS 4 hts gX3_takeBack_X3_set rfl rfl rfl (by decide +kernel) ⟨(Nat.le_of_ble_eq_true rfl), (Nat.le_of_ble_eq_true rfl)⟩) (g_ps hK hG) rfl rfl hl.1 rfl (lv_room (Nat.le_of_ble_eq_true rfl)) dX3_takeBack_110 ⟨(Nat.le_of_ble_eq_true rfl), (Nat.le_of_ble_eq_true rfl)⟩) hG (fun u H locs hp hG => ?_)
                        refine lv_lload hx hb dX3_takeBack_113 (lv_at hl 8 rfl) ?_
                        refine lv_aload_n hx hb dX3_takeBack_115 rfl (lv_at hl 2 rfl) ?_
                        refine r_Model_dotValue hx hb hts (by decide +kernel) hown hK hG mL0 mK0 mf11 (hts (.fieldLink RX3 39 "DotStoresModel" "dotValue" "[J") (by decide +kernel)) dX3_takeBack_116 ?_
                        refine lv_iload hx hb dX3_takeBack_119 (lv_at hl 1 rfl) ?_
                        refine g_lald hx hb hK hG mL11 mK11 (101 * w + (vv + 1)) rfl (by rw [mn11]; omega) (by rw [mn11]; decide) dX3_takeBack_121 ?_
                        refine lv_topl (fun z6 ez6 => ?_)
                        obtain rfl : z6 = b_val β (101 * w + (vv + 1)) := ez6.trans ((by rw [hp, g_up_b _ _ _ _ (isMd_ne hMd (show okM 11 by decide) (show okM 2 by decide) (by decide)), inv2.2.2.1 _ (isMd_ne hMd (show okM 11 by decide) (show okM 2 by decide) (by decide))]; exact (hM.2.2.2.2.2 _ (by omega)).2.2))
                        refine lv_ladd hx hb dX3_takeBack_122 ?_
                        refine lv_lstore (lv' := [(6, .long (tot2 + (b_val β (101 * w + (vv + 1))))), (11, .int 1), (10, .int (nI (101 * w + (vv + 1)))), (0, .ref (bm 0)), (1, .int (nI s9)), (2, .int (nI D)), (3, .int key), (4, .int part), (5, .int whose), (8, .int (nI w)), (9, .int (nI (vv + 1)))]) hx hb dX3_takeBack_123 hl (by decide) rfl (fun ls hl => ?_)
                        refine lv_iinc (v := (nI (vv + 1 + 1))) (lv' := [(9, .int (nI (vv + 1 + 1))), (6, .long (tot2 + (b_val β (101 * w + (vv + 1))))), (11, .int 1), (10, .int (nI (101 * w + (vv + 1)))), (0, .ref (bm 0)), (1, .int (nI s9)), (2, .int (nI D)), (3, .int key), (4, .int part), (5, .int whose), (8, .int (nI w))]) hx hb dX3_takeBack_125 hl (k := 10) rfl (nI_1 (vv + 1)) (by decide) rfl (fun ls hl => ?_)
                        refine lv_goto (tgt := 16) hx hb dX3_takeBack_128 (by decide) ?_
                        exact ih2 (vv := vv + 1) (r12 := u) (hl := (lv_sub hl [4, 5, 6, 7, 8, 9, 1, 10, 0] rfl)) (hG := hG) (inv2 := ⟨by omega, by rw [show 100 * w + (vv + 1) = 100 * w + vv + 1 from rfl]; rw [sumN_t hlv, ← inv2.2.1]; unfold valB; rw [plc_at hvv], fun b hb => by rw [hp, g_up_other _ _ _ hb]; exact inv2.2.2.1 b hb, fun j hj => by rw [hp, g_up_i _ _ _ _ (by omega)]; exact inv2.2.2.2.1 j hj, fun i hi => by rw [show 100 * w + (vv + 1) = 100 * w + vv + 1 from rfl]; rw [hp, mset, inv2.2.2.2.2 i hi, tbM_t hlv, slot_at hvv]⟩) (hf := by omega)
