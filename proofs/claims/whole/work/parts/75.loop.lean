theorem and31 (v : Int32) : ∃ j, j < 32 ∧ v &&& 31 = nI j := by
  refine ⟨(v.toBitVec &&& 31#32).toNat, ?_, ?_⟩
  · rw [BitVec.toNat_and]
    exact Nat.lt_of_le_of_lt Nat.and_le_right (by decide)
  · apply Int32.toBitVec_inj.mp
    rw [Int32.toBitVec_and]
    show _ = BitVec.ofNat 32 _
    simp
theorem nI_toI {n : Nat} (h : n < 2 ^ 31) : (nI n).toInt = n := by
  show (Int32.ofNat n).toInt = n
  rw [Int32.toInt_ofNat']
  have e : (Int32.size : Int) = 4294967296 := rfl
  exact Int.bmod_eq_of_le (by omega) (by omega)
theorem nI_m5 {n : Nat} (h : 5 ≤ n) : nI n - 5 = nI (n - 5) := by
  have e : nI (n - 5) + nI 5 = nI n := by rw [nI_add, Nat.sub_add_cancel h]
  rw [← e]
  show nI (n - 5) + 5 - 5 = _
  rw [Int32.add_sub_cancel]
theorem law_le {a L : Nat} (hL : L ≤ 2560) (ha : a ≤ 2560) (h : ¬ nI L - 5 < nI a) : a + 5 ≤ L := by
  rcases Nat.lt_or_ge L 5 with q | q
  · exfalso
    refine h (Int32.lt_of_lt_of_le (b := 0) ?_ (nI_pos' (by omega)))
    rcases (show L = 0 ∨ L = 1 ∨ L = 2 ∨ L = 3 ∨ L = 4 by omega) with z | z | z | z | z <;> subst z <;> decide
  · rw [nI_m5 q] at h
    rcases Nat.lt_or_ge (L - 5) a with z | z
    · exact absurd (Int32.not_le.mp (nI_ge z (by omega))) h
    · omega
set_option maxHeartbeats 4000000 in
set_option maxRecDepth 100000 in
/-- THE LAW'S LOOP -/
theorem law_loop {p : Program} {l : Launch} {e : Env} {s : State} {m : MethodId} {below : List Frame} {meth : Method} {c : Code} {b Ls : Nat} {xs : Nat → Int32} (hl0 : l.stackTraces = false) (C0 : lw_At p s m meth c b Ls xs) {G : gG} (hK : g_K G s) (hX : g_X s.heap.size s) (hN : g_N s) (hLs : Ls ≤ 2560) {bm : Nat → Nat} {oa : Nat} :
    ∀ (d k cells slots : Nat), Ls < 5 * (k + d) → 5 * k ≤ Ls → cells ≤ 52 + 12 * k → slots ≤ 35877 + 100 * k → ∀ (τ : gS) (ad : Nat → Nat) (α : aT) (β : bT) (H : Heap) (locs : List Loc) (ls : Array Slot), LI τ ad α bm β oa → gw G s.heap.size s.heap τ H locs → lv_has ls 8 [(0, .ref b), (1, .ref (ad 0)), (2, .ref (bm 0)), (3, .ref oa), (4, .int (nI (5 * k)))] → W p l e room_1 s m #[Value.ref b] below meth c H locs cells slots (lw_Z below #[Value.ref b] s) (F0 m 23 ls []) := by
  obtain ⟨hx, hb, hr, hml, hown, htb, hXs, hbl, hlocks, hgv⟩ := id C0
  intro d
  induction d with
  | zero =>
    intro k cells slots h1 h2
    exact absurd h1 (by omega)
  | succ d ih =>
    intro k cells slots h1 h2 hc hs τ ad α β H locs ls hI hG hl
    refine lv_iload hx hb dL_law_23 (lv_at hl 4 rfl) ?_
    refine lv_aload_n hx hb dL_law_25 rfl (lv_at hl 0 rfl) ?_
    refine va_slen hx hb hXs hbl (Nat.not_le.mpr hbl) hG.2.2.1 dL_law_26 ?_
    refine lv_iconst (v := 5) hx hb dL_law_27 (by decide) ?_
    refine lv_isub hx hb dL_law_28 ?_
    refine lv_icmp_gt (tgt := 1917) hx hb dL_law_29 (by decide) (fun c1 => ?_) (fun c1 => ?_)
    · refine lv_iconst (v := 1) hx hb dL_law_1917 (by decide) ?_
      refine va_forget (fun q hq => hG.2.2.1.2.2 q hq) ?_
      refine W.widen (k := 601024) (n := 7293033) (by omega) (by omega) ?_
      exact lw_ret hx hb hr hlocks dL_law_1918
    · have h5 : 5 * k + 5 ≤ Ls := law_le hLs (by omega) c1
      have hvi : ∀ j, j < 5 → vp_in (nI (5 * k) + nI j) Ls := fun j hj => by rw [nI_add]; exact vp_in_nI (by omega) (by omega)
      refine lv_aload_n hx hb dL_law_32 rfl (lv_at hl 0 rfl) ?_
      refine lv_iload hx hb dL_law_33 (lv_at hl 4 rfl) ?_
      refine g_sld hx hb hXs hbl hG ⟨vp_in_nI (by omega) (by omega), rfl⟩ dL_law_35 ?_
      refine lv_bipush (v := 31) hx hb dL_law_36 (by decide) ?_
      refine lv_iand hx hb dL_law_38 ?_
      have hrd : rdS Ls xs (nI (5 * k)) _ _ _ _ := ⟨⟨hvi 1 (by decide), rfl⟩, ⟨hvi 2 (by decide), rfl⟩, ⟨hvi 3 (by decide), rfl⟩, ⟨hvi 4 (by decide), rfl⟩⟩
      have kk : lwK p l e s m below meth c b G bm oa (nI (5 * k)) cells slots (lw_Z below #[Value.ref b] s) := by
        intro τ' ad' α' β' H' locs' ls' hI' hG' hl'
        refine lv_iinc (v := nI (5 * k) + 5) (lv' := [(4, .int (nI (5 * k) + 5)), (0, .ref b), (1, .ref (ad' 0)), (2, .ref (bm 0)), (3, .ref oa)]) hx hb dL_law_1911 hl' (k := 4) rfl rfl (by decide) rfl (fun ls9 hl9 => ?_)
        refine lv_goto (tgt := 23) hx hb dL_law_1914 (by decide) ?_
        refine ih (k + 1) _ _ (by omega) (by omega) (by omega) (by omega) τ' ad' α' β' H' locs' ls9 hI' hG' ?_
        have e5 : nI (5 * k) + 5 = nI (5 * (k + 1)) := nI_add (5 * k) 5
        rw [← e5]
        exact lv_sub hl9 [1, 2, 3, 4, 0] rfl
      obtain ⟨L, K, n, rI, rJ, rQ, fI, fR⟩ := τ
      obtain ⟨j, hj, e⟩ := and31 (xs (nI (5 * k)).toNatClampNeg)
      rw [e]
      have hcs : cells + 12 ≤ room_1.cells ∧ slots + 100 ≤ room_1.slots := ⟨by show cells + 12 ≤ 601024; omega, by show slots + 100 ≤ 7293033; omega⟩
      rcases (show j = 0 ∨ j = 1 ∨ j = 2 ∨ j = 3 ∨ j = 4 ∨ j = 5 ∨ j = 6 ∨ j = 7 ∨ j = 8 ∨ j = 9 ∨ j = 10 ∨ j = 11 ∨ j = 12 ∨ j = 13 ∨ j = 14 ∨ j = 15 ∨ j = 16 ∨ j = 17 ∨ j = 18 ∨ j = 19 ∨ j = 20 ∨ j = 21 ∨ j = 22 ∨ 23 ≤ j by omega) with q | q | q | q | q | q | q | q | q | q | q | q | q | q | q | q | q | q | q | q | q | q | q | q
      · subst q
        exact lv_tableIn (off := 105) (tgt := 144) hx hb dL_law_39 (by decide) (by decide) (by decide) (by decide) (law_element hl0 C0 hK hX hN hrd hcs hI hG hl kk)
      · subst q
        exact lv_tableIn (off := 213) (tgt := 252) hx hb dL_law_39 (by decide) (by decide) (by decide) (by decide) (law_write hl0 C0 hK hX hN hrd hcs hI hG hl kk)
      · subst q
        exact lv_tableIn (off := 325) (tgt := 364) hx hb dL_law_39 (by decide) (by decide) (by decide) (by decide) (law_count hl0 C0 hK hX hN hrd hcs hI hG hl kk)
      · subst q
        exact lv_tableIn (off := 437) (tgt := 476) hx hb dL_law_39 (by decide) (by decide) (by decide) (by decide) (law_flag hl0 C0 hK hX hN hrd hcs hI hG hl kk)
      · subst q
        exact lv_tableIn (off := 545) (tgt := 584) hx hb dL_law_39 (by decide) (by decide) (by decide) (by decide) (law_clear hl0 C0 hK hX hN hrd hcs hI hG hl kk)
      · subst q
        exact lv_tableIn (off := 613) (tgt := 652) hx hb dL_law_39 (by decide) (by decide) (by decide) (by decide) (law_twice hl0 C0 hK hX hN hrd hcs hI hG hl kk)
      · subst q
        exact lv_tableIn (off := 709) (tgt := 748) hx hb dL_law_39 (by decide) (by decide) (by decide) (by decide) (law_timed hl0 C0 hK hX hN hrd hcs hI hG hl kk)
      · subst q
        exact lv_tableIn (off := 817) (tgt := 856) hx hb dL_law_39 (by decide) (by decide) (by decide) (by decide) (law_join hl0 C0 hK hX hN hrd hcs hI hG hl kk)
      · subst q
        exact lv_tableIn (off := 885) (tgt := 924) hx hb dL_law_39 (by decide) (by decide) (by decide) (by decide) (law_merge hl0 C0 hK hX hN hrd hcs hI hG hl kk)
      · subst q
        exact lv_tableIn (off := 953) (tgt := 992) hx hb dL_law_39 (by decide) (by decide) (by decide) (by decide) (law_group hl0 C0 hK hX hN hrd hcs hI hG hl kk)
      · subst q
        exact lv_tableIn (off := 1021) (tgt := 1060) hx hb dL_law_39 (by decide) (by decide) (by decide) (by decide) (law_whole hl0 C0 hK hX hN hrd hcs hI hG hl kk)
      · subst q
        exact lv_tableIn (off := 1077) (tgt := 1116) hx hb dL_law_39 (by decide) (by decide) (by decide) (by decide) (law_deltas hl0 C0 hK hX hN hrd hcs hI hG hl kk)
      · subst q
        exact lv_tableIn (off := 1090) (tgt := 1129) hx hb dL_law_39 (by decide) (by decide) (by decide) (by decide) (law_has hl0 C0 hK hX hN hrd hcs hI hG hl kk)
      · subst q
        exact lv_tableIn (off := 1170) (tgt := 1209) hx hb dL_law_39 (by decide) (by decide) (by decide) (by decide) (law_values hl0 C0 hK hX hN hrd hcs hI hG hl kk)
      · subst q
        exact lv_tableIn (off := 1238) (tgt := 1277) hx hb dL_law_39 (by decide) (by decide) (by decide) (by decide) (law_value hl0 C0 hK hX hN hrd hcs hI hG hl kk)
      · subst q
        exact lv_tableIn (off := 1317) (tgt := 1356) hx hb dL_law_39 (by decide) (by decide) (by decide) (by decide) (law_sum hl0 C0 hK hX hN hrd hcs hI hG hl kk)
      · subst q
        exact lv_tableIn (off := 1384) (tgt := 1423) hx hb dL_law_39 (by decide) (by decide) (by decide) (by decide) (law_keys hl0 C0 hK hX hN hrd hcs hI hG hl kk)
      · subst q
        exact lv_tableIn (off := 1440) (tgt := 1479) hx hb dL_law_39 (by decide) (by decide) (by decide) (by decide) (law_inTwice hl0 C0 hK hX hN hrd hcs hI hG hl kk)
      · subst q
        exact lv_tableIn (off := 1508) (tgt := 1547) hx hb dL_law_39 (by decide) (by decide) (by decide) (by decide) (law_inTimed hl0 C0 hK hX hN hrd hcs hI hG hl kk)
      · subst q
        exact lv_tableIn (off := 1588) (tgt := 1627) hx hb dL_law_39 (by decide) (by decide) (by decide) (by decide) (law_seen hl0 C0 hK hX hN hrd hcs hI hG hl kk)
      · subst q
        exact lv_tableIn (off := 1668) (tgt := 1707) hx hb dL_law_39 (by decide) (by decide) (by decide) (by decide) (law_size hl0 C0 hK hX hN hrd hcs hI hG hl kk)
      · subst q
        exact lv_tableIn (off := 1736) (tgt := 1775) hx hb dL_law_39 (by decide) (by decide) (by decide) (by decide) (law_same hl0 C0 hK hX hN hrd hcs hI hG hl kk)
      · subst q
        exact lv_tableIn (off := 1804) (tgt := 1843) hx hb dL_law_39 (by decide) (by decide) (by decide) (by decide) (law_below hl0 C0 hK hX hN hrd hcs hI hG hl kk)
      · refine lv_tableOut (tgt := 1911) hx hb dL_law_39 (Or.inr (by rw [nI_toI (by omega)]; omega)) (by decide) ?_
        refine W.widen (k := cells + 12) (n := slots + 100) (Nat.le_add_right _ _) (Nat.le_add_right _ _) ?_
        exact kk _ ad α β H locs ls hI hG hl
