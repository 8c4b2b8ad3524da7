/-! changes, side by side -/
theorem bAll_at {β : bT} {k : Nat} {S L : Nat → Bool} {P T : Int32} {t b : Nat → Int32} {z : Nat → Bool} : b_S (bAll β k S L P T t b z) k = S ∧ b_L (bAll β k S L P T t b z) k = L ∧ b_P (bAll β k S L P T t b z) k = P ∧ b_T (bAll β k S L P T t b z) k = T ∧ b_tm (bAll β k S L P T t b z) k = t ∧ b_by (bAll β k S L P T t b z) k = b ∧ b_in (bAll β k S L P T t b z) k = z :=
  ⟨u1_at _ _ _, u1_at _ _ _, u1_at _ _ _, u1_at _ _ _, u1_at _ _ _, u1_at _ _ _, u1_at _ _ _⟩
/-- the states of β' but k' are those of β -/
def bSame (β β' : bT) (k' : Nat) : Prop := (∀ j, j ≠ k' → b_S β' j = b_S β j ∧ b_L β' j = b_L β j ∧ b_P β' j = b_P β j ∧ b_T β' j = b_T β j ∧ b_tm β' j = b_tm β j ∧ b_by β' j = b_by β j ∧ b_in β' j = b_in β j) ∧ b_key β' = b_key β ∧ b_part β' = b_part β ∧ b_val β' = b_val β
theorem bAll_ne {β : bT} {k : Nat} {S L : Nat → Bool} {P T : Int32} {t b : Nat → Int32} {z : Nat → Bool} : bSame β (bAll β k S L P T t b z) k :=
  ⟨fun _ h => ⟨u1_ne _ _ h, u1_ne _ _ h, u1_ne _ _ h, u1_ne _ _ h, u1_ne _ _ h, u1_ne _ _ h, u1_ne _ _ h⟩, rfl, rfl, rfl⟩
theorem bSL_ne {β : bT} {k : Nat} {S L : Nat → Bool} : bSame β (bSL β k S L) k := ⟨fun _ h => ⟨u1_ne _ _ h, u1_ne _ _ h, rfl, rfl, rfl, rfl, rfl⟩, rfl, rfl, rfl⟩
theorem bPT_ne {β : bT} {k : Nat} {P T : Int32} : bSame β (bPT β k P T) k := ⟨fun _ h => ⟨rfl, rfl, u1_ne _ _ h, u1_ne _ _ h, rfl, rfl, rfl⟩, rfl, rfl, rfl⟩
theorem bTI_ne {β : bT} {k : Nat} {t b : Nat → Int32} {z : Nat → Bool} : bSame β (bTI β k t b z) k := ⟨fun _ h => ⟨rfl, rfl, rfl, rfl, u1_ne _ _ h, u1_ne _ _ h, u1_ne _ _ h⟩, rfl, rfl, rfl⟩
theorem simN_upd {α : aT} {β β' : bT} {n k k' : Nat} {S L : Nat → Bool} {P T : Int32} {M : Nat → Int32} (hw : WfA α) (hd : SimD α β) (h : ∀ j j', prN n j j' → j ≠ k → SimS α β j j') (hp : prN n k k') (hb : bSame β β' k')
    (hs : SimQ (a_cnt α) (fun i => slot (fA α i)) S L P T M (b_S β' k') (b_L β' k') (b_P β' k') (b_T β' k') (b_tm β' k') (b_by β' k') (b_in β' k')) : SimN (aSet α k S L P T M) β' n := by
  refine ⟨hw, fun i hi => ?_, fun j j' hj => ?_⟩
  · rw [hb.2.1, hb.2.2.1, hb.2.2.2]; exact hd i hi
  · by_cases q : j = k
    · subst q
      have e : j' = k' := by unfold prN at hp hj; omega
      subst e
      unfold SimS
      rw [aSet_S, aSet_L, aSet_P, aSet_T, aSet_M]
      exact hs
    · have e : j' ≠ k' := by unfold prN at hp hj; omega
      obtain ⟨e1, e2, e3, e4, e5, e6, e7⟩ := hb.1 j' e
      unfold SimS
      rw [e1, e2, e3, e4, e5, e6, e7]
      show SimQ (a_cnt α) (fun i => slot (fA α i)) (u1 (a_S α) k S j) (u1 (a_L α) k L j) (u1 (a_P α) k P j) (u1 (a_T α) k T j) (u1 (a_M α) k M j) _ _ _ _ _ _ _
      rw [u1_ne _ _ q, u1_ne _ _ q, u1_ne _ _ q, u1_ne _ _ q, u1_ne _ _ q]
      exact h j j' hj q
theorem simN_join {α : aT} {β : bT} {n k k' o o' : Nat} (h : SimN α β n) (hk : prN n k k') (ho : prN n o o') : SimN (aJoin α k o) (bJoin β o' k') n := by
  refine simN_upd h.1 h.2.1 (fun j j' hj _ => h.2.2 j j' hj) hk bAll_ne ?_
  unfold bJoin
  rw [bAll_at.1, bAll_at.2.1, bAll_at.2.2.1, bAll_at.2.2.2.1, bAll_at.2.2.2.2.1, bAll_at.2.2.2.2.2.1, bAll_at.2.2.2.2.2.2]
  exact simq_join (h.2.2 k k' hk) (h.2.2 o o' ho)
theorem simN_new {α : aT} {β : bT} (h : SimN α β (a_nd α)) : SimN (aNew α) (bEmp β (6 + a_nd α)) (a_nd α + 1) := by
  refine simN_upd (α := ((α.1.1 + 1, α.1.2), α.2)) (n := a_nd α + 1) (k := 7 + a_nd α) (k' := 6 + a_nd α) h.1 h.2.1 (fun j j' hj hne => h.2.2 j j' (by unfold prN at hj ⊢; omega)) (show prN (a_nd α + 1) (7 + a_nd α) (6 + a_nd α) by unfold prN; omega) bAll_ne ?_
  unfold bEmp
  rw [bAll_at.1, bAll_at.2.1, bAll_at.2.2.1, bAll_at.2.2.2.1, bAll_at.2.2.2.2.1, bAll_at.2.2.2.2.2.1, bAll_at.2.2.2.2.2.2]
  exact simq_0
theorem any_slot {P : Nat → Bool} {g : Nat} (hg : g < 600) : anyN (fun f => decide (slot f = slot g) && P f) 600 = P g := by
  have h : (anyN (fun f => decide (slot f = slot g) && P f) 600 = true) ↔ (P g = true) := by
    rw [anyN_iff]
    constructor
    · rintro ⟨f, hf, h⟩
      rw [Bool.and_eq_true, decide_eq_true_eq] at h
      rw [← slot_inj h.1]; exact h.2
    · intro h
      exact ⟨g, hg, by simp [h]⟩
  exact Bool.eq_iff_iff.mpr h
theorem simN_back {α : aT} {β : bT} {n s s' k k' : Nat} {key p r : Int32} (h : SimN α β n) (hs : prN n s s') (hk : prN n k k') : SimN (aBack α s k key p r) (bBack β s' k' key p r) n := by
  have hS := h.2.2 s s' hs
  obtain ⟨q1, q2, q3, q4, q5⟩ := h.2.2 k k' hk
  refine simN_upd h.1 h.2.1 (fun j j' hj _ => h.2.2 j j' hj) hk bSL_ne ?_
  show SimQ _ _ _ _ _ _ _ (u1 (b_S β) k' (tbM (b_S β k') (livB β s' key p r) 600) k') (u1 (b_L β) k' (b_L β k') k') (b_P β k') (b_T β k') (b_tm β k') (b_by β k') (b_in β k')
  rw [u1_at, u1_at]
  refine ⟨fun i hi => ⟨?_, (q1 i hi).2⟩, fun u hu hn => ⟨?_, (q2 u hu hn).2⟩, fun i hi h256 => ⟨?_, (q3 i hi h256).2⟩, q4, q5⟩
  · unfold tbM tbk
    rw [any_slot (fA_lt h.1 hi), (q1 i hi).1, livB_A h.1 h.2.1 hS hi, decide_eq_true hi, Bool.true_and]
  · unfold tbM
    rw [(q2 u hu hn).1, Bool.false_or]
    cases e : anyN (fun g => decide (slot g = u) && livB β s' key p r g) 600 with
    | false => rfl
    | true =>
      obtain ⟨f, hf, z⟩ := anyN_iff.mp e
      rw [Bool.and_eq_true, decide_eq_true_eq] at z
      obtain ⟨i, hi, e2⟩ := livB_ex hS hf z.2
      exact absurd (by show slot (fA α i) = u; rw [e2]; exact z.1) (hn i hi)
  · unfold tbk
    rw [(q3 i hi h256).1, decide_eq_false (by omega)]; rfl
/-- a replica's numbers -/
theorem num_le {α : aT} (h : WfA α) {i : Nat} (hi : i < a_cnt α) : a_num α i ≤ a_g α (a_rep α i) := by
  obtain ⟨h1, h2, h3⟩ := h.1 i hi
  have m := cntN_mono (P := fun k => decide (a_rep α k = a_rep α i)) (show i + 1 ≤ a_cnt α by omega)
  rw [cntN_s, if_pos (show (fun k => decide (a_rep α k = a_rep α i)) i = true by simp)] at m
  rw [(h.2 _ h1).1]
  omega
theorem fA_new {α : aT} (h : WfA α) {r i : Nat} (hr : r < 6) (hg : a_g α r < 100) (hi : i < a_cnt α) : fA α i ≠ 100 * r + a_g α r := fun e => by
  obtain ⟨h1, h2, h3⟩ := h.1 i hi
  have m := num_le h hi
  unfold fA at e
  have er : a_rep α i = r := by omega
  rw [er] at m
  omega
theorem plc_inj {f g : Nat} (e : plc f = plc g) : f = g := by unfold plc at e; omega
theorem aDot_f {α : aT} {r i : Nat} {k p : Int32} {v : Int64} (hi : i < a_cnt α) : fA (aDot α r k p v) i = fA α i := by
  show 100 * u1 (a_rep α) (a_cnt α) r i + (u1 (a_num α) (a_cnt α) (a_g α r + 1) i - 1) = _
  rw [u1_ne _ _ (by omega), u1_ne _ _ (by omega)]
  rfl
theorem aDot_f0 {α : aT} {r : Nat} {k p : Int32} {v : Int64} : fA (aDot α r k p v) (a_cnt α) = 100 * r + a_g α r := by
  show 100 * u1 (a_rep α) (a_cnt α) r (a_cnt α) + (u1 (a_num α) (a_cnt α) (a_g α r + 1) (a_cnt α) - 1) = _
  rw [u1_at, u1_at]
  omega
theorem wfA_dot {α : aT} {r : Nat} {k p : Int32} {v : Int64} (h : WfA α) (hr : r < 6) (hg : a_g α r < 100) : WfA (aDot α r k p v) := by
  have cg : ∀ (x i : Nat), i ≤ a_cnt α → cntN (fun j => decide (u1 (a_rep α) (a_cnt α) r j = x)) i = cntN (fun j => decide (a_rep α j = x)) i := fun x i hi => cntN_congr (fun j hj => by rw [u1_ne _ _ (by omega)])
  refine ⟨fun i hi => ?_, fun q hq => ?_⟩
  · replace hi : i < a_cnt α + 1 := hi
    show u1 (a_rep α) (a_cnt α) r i < 6 ∧ u1 (a_num α) (a_cnt α) (a_g α r + 1) i = cntN (fun j => decide (u1 (a_rep α) (a_cnt α) r j = u1 (a_rep α) (a_cnt α) r i)) i + 1 ∧ u1 (a_num α) (a_cnt α) (a_g α r + 1) i ≤ 100
    rcases Nat.lt_succ_iff_lt_or_eq.mp hi with z | z
    · rw [u1_ne _ _ (show i ≠ a_cnt α by omega), u1_ne _ _ (show i ≠ a_cnt α by omega), cg _ _ (by omega)]
      exact h.1 i z
    · subst z
      rw [u1_at, u1_at, cg _ _ (Nat.le_refl _), (h.2 r hr).1]
      exact ⟨hr, rfl, by have := (h.2 r hr).1; omega⟩
  · show u1 (a_g α) r (a_g α r + 1) q = cntN (fun j => decide (u1 (a_rep α) (a_cnt α) r j = q)) (a_cnt α + 1) ∧ u1 (a_g α) r (a_g α r + 1) q ≤ 100
    rw [cntN_s, cg _ _ (Nat.le_refl _), u1_at]
    by_cases z : q = r
    · subst z
      rw [u1_at, if_pos (by simp), (h.2 q hq).1]
      exact ⟨rfl, by have := (h.2 q hq).1; omega⟩
    · rw [u1_ne _ _ z, if_neg (by simp; omega), (h.2 q hq).1]
      exact ⟨rfl, by have := (h.2 q hq); omega⟩
theorem simN_dot {α : aT} {β : bT} {n r : Nat} {k p : Int32} {v : Int64} (h : SimN α β n) (hr : r < 6) (hg : a_g α r < 100) (hc : a_cnt α < 250) : SimN (aDot α r k p v) (bDot β (101 * r + (a_g α r + 1)) k p v) n := by
  have hpl : plc (100 * r + a_g α r) = 101 * r + (a_g α r + 1) := plc_at hg
  refine ⟨wfA_dot h.1 hr hg, fun i hi => ?_, fun j j' hj => ?_⟩
  · replace hi : i < a_cnt α + 1 := hi
    show u1 (b_key β) (101 * r + (a_g α r + 1)) k (plc (fA (aDot α r k p v) i)) = u1 (a_key α) (a_cnt α) k i ∧ u1 (b_part β) (101 * r + (a_g α r + 1)) p (plc (fA (aDot α r k p v) i)) = u1 (a_part α) (a_cnt α) p i ∧ u1 (b_val β) (101 * r + (a_g α r + 1)) v (plc (fA (aDot α r k p v) i)) = u1 (a_val α) (a_cnt α) v i
    rcases Nat.lt_succ_iff_lt_or_eq.mp hi with z | z
    · have hne : plc (fA α i) ≠ 101 * r + (a_g α r + 1) := fun e => fA_new h.1 hr hg z (plc_inj (e.trans hpl.symm))
      rw [aDot_f z, u1_ne _ _ hne, u1_ne _ _ hne, u1_ne _ _ hne, u1_ne _ _ (by omega), u1_ne _ _ (by omega), u1_ne _ _ (by omega)]
      exact h.2.1 i z
    · subst z
      rw [aDot_f0, hpl, u1_at, u1_at, u1_at, u1_at, u1_at, u1_at]
      exact ⟨rfl, rfl, rfl⟩
  · obtain ⟨q1, q2, q3, q4, q5⟩ := h.2.2 j j' hj
    have hnew := q2 (slot (100 * r + a_g α r)) (slot_lt (by omega)) (fun i hi e => fA_new h.1 hr hg hi (slot_inj e))
    refine ⟨fun i hi => ?_, fun u hu hn => q2 u hu (fun i hi e => hn i (Nat.lt_succ_of_lt hi) (by show slot (fA (aDot α r k p v) i) = u; rw [aDot_f hi]; exact e)), fun i hi h256 => q3 i (Nat.le_of_succ_le hi) h256, q4, q5⟩
    replace hi : i < a_cnt α + 1 := hi
    show b_S β j' (slot (fA (aDot α r k p v) i)) = a_S α j i ∧ b_L β j' (slot (fA (aDot α r k p v) i)) = a_L α j i
    rcases Nat.lt_succ_iff_lt_or_eq.mp hi with z | z
    · rw [aDot_f z]; exact q1 i z
    · subst z
      rw [aDot_f0, hnew.1, hnew.2, (q3 _ (Nat.le_refl _) (by omega)).1, (q3 _ (Nat.le_refl _) (by omega)).2]
      exact ⟨rfl, rfl⟩
theorem simN_live {α : aT} {β : bT} {n k k' i0 : Nat} (h : SimN α β n) (hk : prN n k k') (h0 : i0 < a_cnt α) : SimN (aLive α k i0) (bSL β k' (fun u => b_S β k' u || decide (u = slot (fA α i0))) (fun u => b_L β k' u || decide (u = slot (fA α i0)))) n := by
  obtain ⟨q1, q2, q3, q4, q5⟩ := h.2.2 k k' hk
  refine simN_upd h.1 h.2.1 (fun j j' hj _ => h.2.2 j j' hj) hk bSL_ne ?_
  show SimQ _ _ _ _ _ _ _ (u1 (b_S β) k' _ k') (u1 (b_L β) k' _ k') (b_P β k') (b_T β k') (b_tm β k') (b_by β k') (b_in β k')
  rw [u1_at, u1_at]
  refine ⟨fun i hi => ?_, fun u hu hn => ?_, fun i hi h256 => ?_, q4, q5⟩
  · have e : decide (slot (fA α i) = slot (fA α i0)) = decide (i = i0) := decide_eq_decide.mpr ⟨fun e => fA_inj h.1 i i0 hi h0 (slot_inj e), fun e => by rw [e]⟩
    show (b_S β k' (slot (fA α i)) || decide (slot (fA α i) = slot (fA α i0))) = _ ∧ (b_L β k' (slot (fA α i)) || decide (slot (fA α i) = slot (fA α i0))) = _
    rw [e, (q1 i hi).1, (q1 i hi).2]; exact ⟨rfl, rfl⟩
  · have e : decide (u = slot (fA α i0)) = false := decide_eq_false (fun e => hn i0 h0 e.symm)
    show (b_S β k' u || decide (u = slot (fA α i0))) = false ∧ (b_L β k' u || decide (u = slot (fA α i0))) = false
    rw [e, (q2 u hu hn).1, (q2 u hu hn).2]; exact ⟨rfl, rfl⟩
  · have e : decide (i = i0) = false := decide_eq_false (by omega)
    show (a_S α k i || decide (i = i0)) = false ∧ (a_L α k i || decide (i = i0)) = false
    rw [e, (q3 i hi h256).1, (q3 i hi h256).2]; exact ⟨rfl, rfl⟩
/-- the greatest number a replica has SEEN of its own -/
theorem grN_eq {P : Nat → Bool} {g N : Nat} (h : ∀ i, i < N → (P i = true ↔ i < g)) : grN P N = if N ≤ g then N else g := by
  induction N with
  | zero => simp [grN]
  | succ N ih =>
    have e := ih (fun i hi => h i (by omega))
    have hN := h N (by omega)
    by_cases q : N < g
    · rw [grN_t (hN.mpr q), if_pos (by omega)]
    · rw [grN_f (ts_nt (fun z => q (hN.mp z))), e]
      by_cases q2 : N ≤ g
      · rw [if_pos q2, if_neg (by omega)]; omega
      · rw [if_neg q2, if_neg (by omega)]
theorem bG_eq {α : aT} {β : bT} {r : Nat} (hw : WfA α) (hs : SimS α β r r) (hr : r < 6) (own : ∀ i, i < a_cnt α → a_rep α i = r → a_S α r i = true) : bG β r = a_g α r := by
  unfold bG
  have h100 := (hw.2 r hr).2
  rw [grN_eq (g := a_g α r) (fun p hp => ?_)]
  · split <;> omega
  · constructor
    · intro e
      have e2 : b_S β r (slot (100 * r + p)) = true := by rw [slot_at hp]; exact e
      obtain ⟨i, hi, ei⟩ := liv_ex hs (f := 100 * r + p) (by omega) (Or.inr e2)
      have hn := num_le hw hi
      obtain ⟨h1, h2, h3⟩ := hw.1 i hi
      unfold fA at ei
      have er : a_rep α i = r := by omega
      rw [er] at hn
      omega
    · intro e
      rw [(hw.2 r hr).1] at e
      obtain ⟨i, hi, a, b⟩ := cntN_ex (P := fun j => decide (a_rep α j = r)) (w := a_cnt α) (m := p + 1) (by omega) (by omega)
      have er : a_rep α i = r := of_decide_eq_true a
      have en : a_num α i = p + 1 := by
        rw [(hw.1 i hi).2.1, er]; exact b
      have es := slot_fA hw hi
      rw [er, en, Nat.add_sub_cancel] at es
      rw [← es]
      exact ((hs.1 i hi).1).trans (own i hi er)
theorem simN_make {α : aT} {β : bT} {n r d : Nat} {k p : Int32} {v : Int64} (h : SimN α β n) (hr : r < 6) (hd : d < n) (hg : a_g α r < 100) (hc : a_cnt α < 250) (hG : bG β r = a_g α r) : SimN (aMake α (7 + d) r k p v) (bNew β r (6 + d) k p v) n := by
  have h1 := simN_dot (k := k) (p := p) (v := v) h hr hg hc
  have h2 := simN_live (k := 7 + d) (k' := 6 + d) (i0 := a_cnt α) h1 (by unfold prN; omega) (Nat.lt_succ_self _)
  unfold bNew aMake
  rw [hG]
  have e : slot (fA (aDot α r k p v) (a_cnt α)) = 128 * r + a_g α r := by rw [aDot_f0, slot_at hg]
  rw [e] at h2
  exact h2
/-- the end of a change: the delta is joined -/
theorem sim_fin {α : aT} {β : bT} {n r : Nat} (h : SimN α β (n + 1)) (hr : r < 6) (hn : a_nd α = n + 1) (own : ∀ i, i < a_cnt α → a_S α (a_rep α i) i = true ∨ (a_rep α i = r ∧ a_S α (7 + n) i = true)) : Sim (aJoin α r (7 + n)) (bND (bJoin β (6 + n) r) (n + 1)) := by
  have hj := simN_join (k := r) (k' := r) (o := 7 + n) (o' := 6 + n) h (by unfold prN; omega) (by unfold prN; omega)
  refine ⟨?_, fun i hi => ?_, hn.symm⟩
  · show SimN (aJoin α r (7 + n)) (bJoin β (6 + n) r) (a_nd α)
    rw [hn]; exact hj
  · show u1 (a_S α) r (fun i => a_S α r i || a_S α (7 + n) i) (a_rep α i) i = true
    by_cases q : a_rep α i = r
    · rw [q, u1_at]
      rcases own i hi with z | z
      · rw [q] at z; simp [z]
      · simp [z.2]
    · rw [u1_ne _ _ q]
      rcases own i hi with z | z
      · exact z
      · exact absurd z.1 q
