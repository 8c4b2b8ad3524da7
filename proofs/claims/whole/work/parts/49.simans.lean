/-! the answers, side by side -/
theorem grN_ext {P : Nat → Bool} {i j : Nat} (h : i ≤ j) (hf : ∀ w, i ≤ w → w < j → P w = false) : grN P j = grN P i := by
  induction j with
  | zero => rw [Nat.le_zero.mp h]
  | succ j ih =>
    rcases Nat.lt_or_ge i (j + 1) with q | q
    · rw [grN_f (hf j (by omega) (by omega)), ih (by omega) (fun w h1 h2 => hf w h1 (by omega))]
    · rw [show i = j + 1 by omega]
theorem seeF_at {α : aT} {β : bT} {r q : Nat} (hw : WfA α) (hs : SimS α β r r) (w : Nat) (hwc : w ≤ a_cnt α) :
    (seeF (seA α r q) (a_num α) w).2.1 = cntN (fun i => b_S β r (128 * q + i)) (cntN (fun j => decide (a_rep α j = q)) w) ∧
    (seeF (seA α r q) (a_num α) w).2.2 = grN (fun i => b_S β r (128 * q + i)) (cntN (fun j => decide (a_rep α j = q)) w) ∧
    (seeF (seA α r q) (a_num α) w).1 ≤ cntN (fun j => decide (a_rep α j = q)) w ∧ (∀ i, i < (seeF (seA α r q) (a_num α) w).1 → b_S β r (128 * q + i) = true) ∧
    ((seeF (seA α r q) (a_num α) w).1 < cntN (fun j => decide (a_rep α j = q)) w → b_S β r (128 * q + (seeF (seA α r q) (a_num α) w).1) = false) := by
  induction w with
  | zero => exact ⟨rfl, rfl, Nat.le_refl _, fun i hi => absurd hi (Nat.not_lt_zero i), fun h => absurd h (Nat.lt_irrefl _)⟩
  | succ w ih =>
    obtain ⟨i1, i2, i3, i4, i5⟩ := ih (by omega)
    generalize hz : seeF (seA α r q) (a_num α) w = z at i1 i2 i3 i4 i5
    obtain ⟨z1, z2, z3⟩ := z
    simp only at i1 i2 i3 i4 i5
    by_cases e : a_rep α w = q
    · have hc : cntN (fun j => decide (a_rep α j = q)) (w + 1) = cntN (fun j => decide (a_rep α j = q)) w + 1 := by rw [cntN_s, if_pos (by simp [e])]
      have hn : a_num α w = cntN (fun j => decide (a_rep α j = q)) w + 1 := by rw [(hw.1 w (by omega)).2.1, e]
      have hP : b_S β r (128 * q + cntN (fun j => decide (a_rep α j = q)) w) = a_S α r w := by
        have es := slot_fA hw (show w < a_cnt α by omega)
        rw [e, hn, Nat.add_sub_cancel] at es
        rw [← es]
        exact (hs.1 w (by omega)).1
      rw [hc]
      generalize cntN (fun j => decide (a_rep α j = q)) w = c at *
      cases hS : a_S α r w with
      | true =>
        have hA : seA α r q w = true := by simp [seA, e, hS]
        rw [hS] at hP
        by_cases e2 : a_num α w = z1 + 1
        · rw [← seeF_t1 hA hz.symm e2]
          refine ⟨?_, ?_, ?_, fun i hi => ?_, fun h => ?_⟩
          · show z2 + 1 = _
            rw [cntN_s, if_pos hP, ← i1]
          · show a_num α w = _
            rw [grN_t (P := fun i => b_S β r (128 * q + i)) hP, hn]
          · show a_num α w ≤ _
            omega
          · replace hi : i < a_num α w := hi
            rcases Nat.lt_or_ge i z1 with y | y
            · exact i4 i y
            · rw [show i = c by omega]; exact hP
          · replace h : a_num α w < c + 1 := h
            omega
        · rw [← seeF_t2 hA hz.symm e2]
          refine ⟨?_, ?_, ?_, i4, fun _ => i5 (by omega)⟩
          · show z2 + 1 = _
            rw [cntN_s, if_pos hP, ← i1]
          · show a_num α w = _
            rw [grN_t (P := fun i => b_S β r (128 * q + i)) hP, hn]
          · show z1 ≤ _
            omega
      | false =>
        have hA : seA α r q w = false := by simp [seA, hS]
        rw [hS] at hP
        rw [← seeF_f hA hz.symm]
        refine ⟨?_, ?_, ?_, i4, fun h => ?_⟩
        · show z2 = _
          rw [cntN_s, if_neg (by rw [hP]; decide), ← i1, Nat.add_zero]
        · show z3 = _
          rw [grN_f (P := fun i => b_S β r (128 * q + i)) hP, ← i2]
        · show z1 ≤ _
          omega
        · replace h : z1 < c + 1 := h
          show b_S β r (128 * q + z1) = false
          rcases Nat.lt_or_ge z1 c with y | y
          · exact i5 y
          · rw [show z1 = c by omega]; exact hP
    · have hc : cntN (fun j => decide (a_rep α j = q)) (w + 1) = cntN (fun j => decide (a_rep α j = q)) w := by rw [cntN_s, if_neg (by simp [e])]; rfl
      have hA : seA α r q w = false := by simp [seA, e]
      rw [hc, ← seeF_f hA hz.symm]
      exact ⟨i1, i2, i3, i4, i5⟩
theorem sim_seen {α : aT} {β : bT} {r q m : Nat} {wh : Int32} (h : Sim α β) (hr : r < 6) (hq : q < 6) (hm : seeB (fun i => b_S β r (128 * q + i)) wh m) : m = seeW (seeF (seA α r q) (a_num α) (a_cnt α)) wh := by
  obtain ⟨i1, i2, i3, i4, i5⟩ := seeF_at (q := q) h.1.1 (h.S hr) (a_cnt α) (Nat.le_refl _)
  rw [← (h.1.1.2 q hq).1] at i1 i2 i3 i5
  have hg := (h.1.1.2 q hq).2
  have out : ∀ p, a_g α q ≤ p → p < 100 → b_S β r (128 * q + p) = false := by
    intro p hp1 hp2
    cases e : b_S β r (128 * q + p) with
    | false => rfl
    | true =>
      have e2 : b_S β r (slot (100 * q + p)) = true := by rw [slot_at hp2]; exact e
      obtain ⟨i, hi, ei⟩ := liv_ex (h.S hr) (f := 100 * q + p) (by omega) (Or.inr e2)
      have hn := num_le h.1.1 hi
      obtain ⟨h1, h2, h3⟩ := h.1.1.1 i hi
      unfold fA at ei
      have er : a_rep α i = q := by omega
      rw [er] at hn
      omega
  generalize hz : seeF (seA α r q) (a_num α) (a_cnt α) = z at i1 i2 i3 i4 i5
  obtain ⟨z1, z2, z3⟩ := z
  simp only at i1 i2 i3 i4 i5
  unfold seeW
  rcases hm with ⟨rfl, rfl⟩ | ⟨rfl, rfl⟩ | ⟨rfl, h1, h2, h3⟩
  · rw [if_neg (by decide), if_neg (by decide)]
    show _ = z3
    rw [i2]
    exact grN_ext hg out
  · rw [if_neg (by decide), if_pos rfl]
    show _ = z2
    rw [i1]
    exact cntN_ext hg out
  · rw [if_pos rfl]
    show m = z1
    have z5 : z1 < 100 → b_S β r (128 * q + z1) = false := fun y => by
      rcases Nat.lt_or_ge z1 (a_g α q) with x | x
      · exact i5 x
      · exact out z1 x y
    rcases Nat.lt_trichotomy m z1 with y | y | y
    · have a := i4 m y
      have b := h3 (by omega)
      simp only at b
      rw [a] at b; exact Bool.noConfusion b
    · exact y
    · have a := h2 z1 y
      have b := z5 (by omega)
      simp only at a
      rw [b] at a; exact Bool.noConfusion a
theorem b_1 : ∀ i, i < 32 → bt 1 i = decide (i = 0) := by decide +kernel
theorem sim_twiceA {x : Int32} {n : Nat} (hn : n < 32) : ((x.toUInt32 >>> ((nI n).toUInt32 &&& Int32.toUInt32 31)).toInt32 &&& 1) = ((x >>> (nI n &&& 31)) &&& 1) := by
  apply b_ext
  intro i hi
  rw [b_and, b_and, b_1 i hi]
  by_cases e : i = 0
  · subst e
    rw [b_ushr n hn, b_sshr n hn x (by decide), if_pos (by omega)]
  · simp [e]
theorem sim_timedA {m t b wh : Int32} {i : Bool} (h : stR m t b i) (hw : okI wh 3) : timA m wh = timB t b i wh := by
  obtain ⟨T, B, x1, x2, rfl, rfl, rfl, x3⟩ := h
  have hl := enc_lt i x1 x2
  unfold timA timB
  by_cases hT : T = 0
  · have e0 : enc T B i = 0 := by unfold enc; rw [if_pos hT]
    rw [e0]
    subst hT
    obtain ⟨rfl, rfl⟩ := x3 rfl
    rcases okI3 hw with rfl | rfl | rfl <;> decide
  · have e1 : enc T B i = 1 + ((T - 1) * 6 + B) * 2 + (if i then 1 else 0) := by unfold enc; rw [if_neg hT]
    have hpos : (0 : Int32) < nI (enc T B i) := nI_lt (a := 0) (by rw [e1]; omega) hl
    have hne : ¬ nI (enc T B i) = 0 := fun z => by
      have := (nI_eq (b := 0) hl (by decide)).mp z
      rw [e1] at this; omega
    have hm1 : nI (enc T B i) - 1 = nI (((T - 1) * 6 + B) * 2 + (if i then 1 else 0)) := by
      rw [nI_pr (by rw [e1]; omega), e1]; congr 1; omega
    have hb : (if i then 1 else 0 : Nat) < 2 := by cases i <;> decide
    have hd2 : (nI (enc T B i) - 1) / 2 = nI ((T - 1) * 6 + B) := by
      rw [hm1, show (2 : Int32) = nI 2 from rfl, pk_div (by omega) (by decide) (by decide)]; congr 1; omega
    rcases okI3 hw with rfl | rfl | rfl
    · rw [if_pos rfl, if_pos rfl]
      congr 1
      have hr : (nI (enc T B i) - 1) - (nI (enc T B i) - 1) / 2 * 2 = nI (if i then 1 else 0) := by
        rw [hm1, show (2 : Int32) = nI 2 from rfl, pk_rem (by omega) (by decide) (by decide)]; congr 1; omega
      rw [hr]
      cases i with
      | true => exact decide_eq_true ⟨hpos, rfl⟩
      | false => exact decide_eq_false (fun z => absurd z.2 (by decide))
    · rw [if_neg (by decide), if_neg hne, if_pos rfl, if_neg (by decide), if_pos rfl, hd2, show (6 : Int32) = nI 6 from rfl, pk_div (by omega) (by decide) (by decide), nI_pr (by omega)]
      congr 1; omega
    · have ht : (0 : Int32) < nI T := nI_lt (a := 0) (by omega) (by omega)
      rw [if_neg (by decide), if_neg hne, if_neg (by decide), if_neg (by decide), if_neg (by decide), if_pos ht, hd2, show (6 : Int32) = nI 6 from rfl, pk_rem (by omega) (by decide) (by decide)]
      congr 1; omega
/-- the state that size asks for -/
theorem sz_pr {n k k' : Nat} {v : Int32} (hn : n ≤ 250) (h1 : szK n v k) (h2 : szB n v k') : prN n k k' := by
  unfold prN
  rcases h1 with ⟨a, d, b, c, rfl⟩ | ⟨a, b, c⟩
  · rcases h2 with ⟨q, x, y, rfl⟩ | ⟨x, d2, y, z, rfl⟩
    · rw [y] at a
      exact absurd (Int32.lt_trans a (by decide)) (nI_pos (by omega))
    · have := nI_inj (by omega) (by omega) (c.symm.trans z)
      omega
  · rcases h2 with ⟨q, x, y, rfl⟩ | ⟨x, d2, y, z, rfl⟩
    · have := nI_inj (by omega) (by omega) (c.symm.trans y)
      omega
    · exact absurd x a
theorem sz_ex {n : Nat} {v : Int32} (hn : n ≤ 250) : (∃ k, szK n v k) ↔ (∃ k, szB n v k) := by
  constructor
  · rintro ⟨k, ⟨a, d, b, c, rfl⟩ | ⟨a, b, c⟩⟩
    · exact ⟨6 + d, Or.inr ⟨a, d, b, c, rfl⟩⟩
    · exact ⟨k, Or.inl ⟨k, b, c, rfl⟩⟩
  · rintro ⟨k, ⟨q, x, y, rfl⟩ | ⟨x, d, y, z, rfl⟩⟩
    · exact ⟨k, Or.inr ⟨fun a => by rw [y] at a; exact absurd (Int32.lt_trans a (by decide)) (nI_pos (by omega)), x, y⟩⟩
    · exact ⟨7 + d, Or.inl ⟨x, d, y, z, rfl⟩⟩
/-- a new object beside a new reference -/
theorem sim_0 : Sim a0 b0 := ⟨⟨⟨fun i hi => absurd hi (Nat.not_lt_zero i), fun r _ => ⟨rfl, Nat.zero_le _⟩⟩, fun i hi => absurd hi (Nat.not_lt_zero i), fun k k' _ => simq_0⟩, fun i hi => absurd hi (Nat.not_lt_zero i), rfl⟩
