/-! the class's value beside the reference's -/
/-- the place of a dot in the reference's order -/
def fA (α : aT) (i : Nat) : Nat := 100 * a_rep α i + (a_num α i - 1)
/-- the table: a replica's dots are numbered as they are made -/
def WfA (α : aT) : Prop := (∀ i, i < a_cnt α → a_rep α i < 6 ∧ a_num α i = cntN (fun j => decide (a_rep α j = a_rep α i)) i + 1 ∧ a_num α i ≤ 100) ∧ ∀ r, r < 6 → a_g α r = cntN (fun j => decide (a_rep α j = r)) (a_cnt α) ∧ a_g α r ≤ 100
theorem fA_lt {α : aT} (h : WfA α) {i : Nat} (hi : i < a_cnt α) : fA α i < 600 := by
  obtain ⟨h1, h2, h3⟩ := h.1 i hi
  unfold fA; omega
theorem fA_rep {α : aT} (h : WfA α) {i : Nat} (hi : i < a_cnt α) : fA α i / 100 = a_rep α i ∧ fA α i % 100 = a_num α i - 1 := by
  obtain ⟨h1, h2, h3⟩ := h.1 i hi
  unfold fA; omega
theorem fA_inj {α : aT} (h : WfA α) (i j : Nat) (hi : i < a_cnt α) (hj : j < a_cnt α) (e : fA α i = fA α j) : i = j := by
  have key : ∀ i j, i < a_cnt α → j < a_cnt α → i < j → fA α i = fA α j → False := by
    intro i j hi hj hij e
    obtain ⟨r1, n1, l1⟩ := h.1 i hi
    obtain ⟨r2, n2, l2⟩ := h.1 j hj
    unfold fA at e
    have er : a_rep α i = a_rep α j := by omega
    have en : a_num α i = a_num α j := by omega
    have m := cntN_mono (P := fun k => decide (a_rep α k = a_rep α j)) (show i + 1 ≤ j by omega)
    rw [cntN_s, if_pos (show (fun k => decide (a_rep α k = a_rep α j)) i = true by simp [er])] at m
    rw [er] at n1
    omega
  rcases Nat.lt_trichotomy i j with q | q | q
  · exact (key i j hi hj q e).elim
  · exact q
  · exact (key j i hj hi q e.symm).elim
theorem slot_inj {f g : Nat} (e : slot f = slot g) : f = g := by unfold slot at e; omega
theorem slot_lt {f : Nat} (h : f < 600) : slot f < 768 := by unfold slot; omega
theorem slot_fA {α : aT} (h : WfA α) {i : Nat} (hi : i < a_cnt α) : slot (fA α i) = 128 * a_rep α i + (a_num α i - 1) := by
  unfold slot
  rw [(fA_rep h hi).1, (fA_rep h hi).2]
/-! stamps -/
def enc (T B : Nat) (i : Bool) : Nat := if T = 0 then 0 else 1 + ((T - 1) * 6 + B) * 2 + (if i then 1 else 0)
def stR (m t b : Int32) (i : Bool) : Prop := ∃ T B : Nat, T ≤ 1000001 ∧ B < 6 ∧ t = nI T ∧ b = nI B ∧ m = nI (enc T B i) ∧ (T = 0 → B = 0 ∧ i = false)
theorem enc_lt {T B : Nat} (i : Bool) (h1 : T ≤ 1000001) (h2 : B < 6) : enc T B i < 2 ^ 31 := by
  unfold enc
  cases i <;> simp <;> split <;> omega
theorem enc_cmp {T1 B1 T2 B2 : Nat} {i1 i2 : Bool} (a1 : T1 ≤ 1000001) (b1 : B1 < 6) (c1 : T1 = 0 → B1 = 0 ∧ i1 = false) (a2 : T2 ≤ 1000001) (b2 : B2 < 6) (c2 : T2 = 0 → B2 = 0 ∧ i2 = false) :
    aftV (nI T2) (nI B2) i2 (nI T1) (nI B1) i1 = decide (enc T1 B1 i1 < enc T2 B2 i2) := by
  unfold aftV
  by_cases e : T2 = T1
  · rw [if_pos (congrArg nI e)]
    subst e
    by_cases e2 : B2 = B1
    · rw [if_pos (congrArg nI e2)]
      subst e2
      unfold enc
      cases i1 <;> cases i2 <;> by_cases q : T2 = 0 <;> simp [q]
      exact absurd (c2 q).2 (by decide)
    · rw [if_neg (fun z => e2 ((nI_eq (by omega) (by omega)).mp z))]
      have hT : T2 ≠ 0 := fun q => e2 ((c2 q).1.trans (c1 q).1.symm)
      apply decide_eq_decide.mpr
      rw [nI_ltI (by omega) (by omega)]
      unfold enc
      rw [if_neg hT, if_neg hT]
      cases i1 <;> cases i2 <;> simp <;> omega
  · rw [if_neg (fun z => e ((nI_eq (by omega) (by omega)).mp z))]
    apply decide_eq_decide.mpr
    rw [nI_ltI (by omega) (by omega)]
    unfold enc
    by_cases q1 : T1 = 0
    · rw [if_pos q1]
      by_cases q2 : T2 = 0
      · omega
      · rw [if_neg q2]; omega
    · rw [if_neg q1]
      by_cases q2 : T2 = 0
      · rw [if_pos q2]; omega
      · rw [if_neg q2]
        cases i1 <;> cases i2 <;> simp <;> omega
theorem stR_join {m1 t1 b1 m2 t2 b2 : Int32} {i1 i2 : Bool} (h1 : stR m1 t1 b1 i1) (h2 : stR m2 t2 b2 i2) :
    stR (mx m1 m2) (if aftV t2 b2 i2 t1 b1 i1 then t2 else t1) (if aftV t2 b2 i2 t1 b1 i1 then b2 else b1) (if aftV t2 b2 i2 t1 b1 i1 then i2 else i1) := by
  obtain ⟨T1, B1, x1, x2, rfl, rfl, rfl, x3⟩ := id h1
  obtain ⟨T2, B2, y1, y2, rfl, rfl, rfl, y3⟩ := id h2
  rw [enc_cmp x1 x2 x3 y1 y2 y3]
  have l1 := enc_lt i1 x1 x2
  have l2 := enc_lt i2 y1 y2
  by_cases q : enc T1 B1 i1 < enc T2 B2 i2
  · simp only [q, decide_true, if_true]
    unfold mx
    rw [if_neg (nI_ge q l2)]
    exact h2
  · simp only [q, decide_false, if_false, Bool.false_eq_true]
    unfold mx
    rw [if_pos (nI_le (by omega) l1)]
    exact h1
theorem stR_eq {m1 t1 b1 m2 t2 b2 : Int32} {i1 i2 : Bool} (h1 : stR m1 t1 b1 i1) (h2 : stR m2 t2 b2 i2) : m1 = m2 ↔ (t1 = t2 ∧ b1 = b2 ∧ i1 = i2) := by
  obtain ⟨T1, B1, x1, x2, rfl, rfl, rfl, x3⟩ := h1
  obtain ⟨T2, B2, y1, y2, rfl, rfl, rfl, y3⟩ := h2
  constructor
  · intro e
    have e := nI_inj (enc_lt i1 x1 x2) (enc_lt i2 y1 y2) e
    unfold enc at e
    by_cases q1 : T1 = 0
    · rw [if_pos q1] at e
      by_cases q2 : T2 = 0
      · rw [q1, q2, (x3 q1).1, (y3 q2).1, (x3 q1).2, (y3 q2).2]; exact ⟨rfl, rfl, rfl⟩
      · rw [if_neg q2] at e; omega
    · rw [if_neg q1] at e
      by_cases q2 : T2 = 0
      · rw [if_pos q2] at e; omega
      · rw [if_neg q2] at e
        have : T1 = T2 ∧ B1 = B2 ∧ i1 = i2 := by cases i1 <;> cases i2 <;> simp at e ⊢ <;> omega
        rw [this.1, this.2.1, this.2.2]; exact ⟨rfl, rfl, rfl⟩
  · rintro ⟨e1, e2, rfl⟩
    rw [(nI_eq (by omega) (by omega)).mp e1, (nI_eq (by omega) (by omega)).mp e2]
theorem stR_0 : stR 0 0 0 false := ⟨0, 0, by decide, by decide, rfl, rfl, rfl, fun _ => ⟨rfl, rfl⟩⟩
theorem stR_stamp {tm : Int32} {r : Nat} {on : Bool} (h0 : 0 ≤ tm) (h1 : tm ≤ 1000000) (hr : r < 6) : stR (stampI tm r on) (tm + 1) (nI r) on := by
  obtain ⟨n, hn, rfl⟩ := (okI_le (v := tm) (N := 1000001) (by decide)).mp ⟨h0, h1⟩
  refine ⟨n + 1, r, by omega, hr, nI_1 n, rfl, ?_, fun q => absurd q (by omega)⟩
  unfold stampI enc
  rw [if_neg (by omega), show (1 : Int32) = nI 1 from rfl, show (6 : Int32) = nI 6 from rfl, show (2 : Int32) = nI 2 from rfl, show bi on = nI (if on then 1 else 0) by cases on <;> rfl, nI_mul, nI_add, nI_mul, nI_add, nI_add]
  rfl
/-! one state -/
def SimQ (cnt : Nat) (sl : Nat → Nat) (S L : Nat → Bool) (P T : Int32) (M : Nat → Int32) (S' L' : Nat → Bool) (P' T' : Int32) (t b : Nat → Int32) (z : Nat → Bool) : Prop :=
  (∀ i, i < cnt → S' (sl i) = S i ∧ L' (sl i) = L i) ∧ (∀ u, u < 768 → (∀ i, i < cnt → sl i ≠ u) → S' u = false ∧ L' u = false) ∧ (∀ i, cnt ≤ i → i < 256 → S i = false ∧ L i = false) ∧ (P' = P ∧ T' = T) ∧ ∀ e, e < 32 → stR (M e) (t e) (b e) (z e)
section SQ
variable {cnt : Nat} {sl : Nat → Nat} {S L : Nat → Bool} {P T : Int32} {M : Nat → Int32} {S' L' : Nat → Bool} {P' T' : Int32} {t b : Nat → Int32} {z : Nat → Bool} {So Lo : Nat → Bool} {Po To : Int32} {Mo : Nat → Int32} {So' Lo' : Nat → Bool} {Po' To' : Int32} {to bo : Nat → Int32} {zo : Nat → Bool}
theorem simq_0 : SimQ cnt sl (fun _ => false) (fun _ => false) 0 0 (fun _ => 0) (fun _ => false) (fun _ => false) 0 0 (fun _ => 0) (fun _ => 0) (fun _ => false) :=
  ⟨fun _ _ => ⟨rfl, rfl⟩, fun _ _ _ => ⟨rfl, rfl⟩, fun _ _ _ => ⟨rfl, rfl⟩, ⟨rfl, rfl⟩, fun _ _ => stR_0⟩
theorem simq_join (h : SimQ cnt sl S L P T M S' L' P' T' t b z) (ho : SimQ cnt sl So Lo Po To Mo So' Lo' Po' To' to bo zo) :
    SimQ cnt sl (fun i => S i || So i) (fun i => jb (L i) (S i) (Lo i) (So i)) (P ||| Po) (T ||| To) (fun e => mx (M e) (Mo e)) (fun i => S' i || So' i) (fun i => jb (L' i) (S' i) (Lo' i) (So' i)) (P' ||| Po') (T' ||| To')
      (fun e => if aftV (to e) (bo e) (zo e) (t e) (b e) (z e) then to e else t e) (fun e => if aftV (to e) (bo e) (zo e) (t e) (b e) (z e) then bo e else b e) (fun e => if aftV (to e) (bo e) (zo e) (t e) (b e) (z e) then zo e else z e) := by
  obtain ⟨h1, h2, h3, ⟨h4, h5⟩, h6⟩ := h
  obtain ⟨o1, o2, o3, ⟨o4, o5⟩, o6⟩ := ho
  refine ⟨fun i hi => ?_, fun u hu hn => ?_, fun i hi h256 => ?_, ⟨by rw [h4, o4], by rw [h5, o5]⟩, fun e he => stR_join (h6 e he) (o6 e he)⟩
  · show (S' (sl i) || So' (sl i)) = _ ∧ jb (L' (sl i)) (S' (sl i)) (Lo' (sl i)) (So' (sl i)) = _
    rw [(h1 i hi).1, (h1 i hi).2, (o1 i hi).1, (o1 i hi).2]; exact ⟨rfl, rfl⟩
  · show (S' u || So' u) = false ∧ jb (L' u) (S' u) (Lo' u) (So' u) = false
    rw [(h2 u hu hn).1, (h2 u hu hn).2, (o2 u hu hn).1, (o2 u hu hn).2]; exact ⟨rfl, rfl⟩
  · show (S i || So i) = false ∧ jb (L i) (S i) (Lo i) (So i) = false
    rw [(h3 i hi h256).1, (h3 i hi h256).2, (o3 i hi h256).1, (o3 i hi h256).2]; exact ⟨rfl, rfl⟩
theorem simq_eq (hc : cnt ≤ 256) (hsl : ∀ i, i < cnt → sl i < 768) (h : SimQ cnt sl S L P T M S' L' P' T' t b z) (ho : SimQ cnt sl So Lo Po To Mo So' Lo' Po' To' to bo zo) :
    ((∀ i, i < 256 → S i = So i ∧ L i = Lo i) ∧ (P = Po ∧ T = To) ∧ ∀ e, e < 32 → M e = Mo e) ↔ ((∀ i, i < 768 → S' i = So' i ∧ L' i = Lo' i) ∧ (P' = Po' ∧ T' = To') ∧ ∀ e, e < 32 → t e = to e ∧ b e = bo e ∧ z e = zo e) := by
  obtain ⟨h1, h2, h3, ⟨h4, h5⟩, h6⟩ := h
  obtain ⟨o1, o2, o3, ⟨o4, o5⟩, o6⟩ := ho
  rw [h4, h5, o4, o5]
  refine and_congr ⟨fun q u hu => ?_, fun q i hi => ?_⟩ (and_congr Iff.rfl ⟨fun q e he => (stR_eq (h6 e he) (o6 e he)).mp (q e he), fun q e he => (stR_eq (h6 e he) (o6 e he)).mpr (q e he)⟩)
  · by_cases hn : ∀ i, i < cnt → sl i ≠ u
    · rw [(h2 u hu hn).1, (h2 u hu hn).2, (o2 u hu hn).1, (o2 u hu hn).2]; exact ⟨rfl, rfl⟩
    · obtain ⟨i, hi⟩ := Classical.not_forall.mp hn
      obtain ⟨hi, e⟩ := Classical.not_imp.mp hi
      have e := Classical.not_not.mp e
      rw [← e, (h1 i hi).1, (h1 i hi).2, (o1 i hi).1, (o1 i hi).2]; exact q i (by omega)
  · rcases Nat.lt_or_ge i cnt with p | p
    · rw [← (h1 i p).1, ← (h1 i p).2, ← (o1 i p).1, ← (o1 i p).2]; exact q _ (hsl i p)
    · rw [(h3 i p hi).1, (h3 i p hi).2, (o3 i p hi).1, (o3 i p hi).2]; exact ⟨rfl, rfl⟩
end SQ
def SimS (α : aT) (β : bT) (k k' : Nat) : Prop := SimQ (a_cnt α) (fun i => slot (fA α i)) (a_S α k) (a_L α k) (a_P α k) (a_T α k) (a_M α k) (b_S β k') (b_L β k') (b_P β k') (b_T β k') (b_tm β k') (b_by β k') (b_in β k')
def SimD (α : aT) (β : bT) : Prop := ∀ i, i < a_cnt α → b_key β (plc (fA α i)) = a_key α i ∧ b_part β (plc (fA α i)) = a_part α i ∧ b_val β (plc (fA α i)) = a_val α i
/-- a replica has SEEN its own dots -/
def OwnA (α : aT) : Prop := ∀ i, i < a_cnt α → a_S α (a_rep α i) i = true
/-- the states' numbers -/
def prN (n k k' : Nat) : Prop := (k < 6 ∧ k' = k) ∨ (7 ≤ k ∧ k < 7 + n ∧ k' + 1 = k)
def SimN (α : aT) (β : bT) (n : Nat) : Prop := WfA α ∧ SimD α β ∧ ∀ k k', prN n k k' → SimS α β k k'
def Sim (α : aT) (β : bT) : Prop := SimN α β (a_nd α) ∧ OwnA α ∧ b_nd β = a_nd α
/-! reading -/
theorem livB_A {α : aT} {β : bT} {s s' : Nat} (hw : WfA α) (hd : SimD α β) (hs : SimS α β s s') {key part whose : Int32} {i : Nat} (hi : i < a_cnt α) : livB β s' key part whose (fA α i) = livA α s key part whose i := by
  unfold livB livA fitA
  rw [(hs.1 i hi).2, (hd i hi).1, (hd i hi).2.1, (fA_rep hw hi).1]
theorem liv_ex {α : aT} {β : bT} {s s' : Nat} (hs : SimS α β s s') {f : Nat} (hf : f < 600) (h : b_L β s' (slot f) = true ∨ b_S β s' (slot f) = true) : ∃ i, i < a_cnt α ∧ fA α i = f := by
  by_cases hn : ∀ i, i < a_cnt α → slot (fA α i) ≠ slot f
  · have z := hs.2.1 (slot f) (slot_lt hf) hn
    rcases h with h | h
    · rw [z.2] at h; exact Bool.noConfusion h
    · rw [z.1] at h; exact Bool.noConfusion h
  · obtain ⟨i, hi⟩ := Classical.not_forall.mp hn
    obtain ⟨hi, e⟩ := Classical.not_imp.mp hi
    exact ⟨i, hi, slot_inj (Classical.not_not.mp e)⟩
theorem livB_ex {α : aT} {β : bT} {s s' : Nat} (hs : SimS α β s s') {key part whose : Int32} {f : Nat} (hf : f < 600) (h : livB β s' key part whose f = true) : ∃ i, i < a_cnt α ∧ fA α i = f := by
  unfold livB at h
  rw [Bool.and_eq_true] at h
  exact liv_ex hs hf (Or.inl h.1)
theorem sim_sum {α : aT} {β : bT} {s s' : Nat} (hw : WfA α) (hd : SimD α β) (hs : SimS α β s s') {key part whose : Int32} : sumN (livB β s' key part whose) (valB β) 600 = sumN (livA α s key part whose) (a_val α) (a_cnt α) := by
  rw [sumN_fo, sumN_fo]
  exact fo_re cm_add (e := fA α) (fun i hi => fA_lt hw hi) (fA_inj hw) (fun i hi => livB_A hw hd hs hi) (fun i hi _ => (hd i hi).2.2) (fun f hf h => livB_ex hs hf h)
theorem sim_any {α : aT} {β : bT} {s s' : Nat} (hw : WfA α) (hd : SimD α β) (hs : SimS α β s s') {key part whose : Int32} : anyN (livB β s' key part whose) 600 = anyN (livA α s key part whose) (a_cnt α) := by
  have h : (anyN (livB β s' key part whose) 600 = true) ↔ (anyN (livA α s key part whose) (a_cnt α) = true) := by
    rw [anyN_iff, anyN_iff]
    constructor
    · rintro ⟨f, hf, h⟩
      obtain ⟨i, hi, rfl⟩ := livB_ex hs hf h
      exact ⟨i, hi, (livB_A hw hd hs hi).symm.trans h⟩
    · rintro ⟨i, hi, h⟩
      exact ⟨fA α i, fA_lt hw hi, (livB_A hw hd hs hi).trans h⟩
  exact Bool.eq_iff_iff.mpr h
theorem sim_keys {α : aT} {β : bT} {s s' : Nat} (hw : WfA α) (hd : SimD α β) (hs : SimS α β s s') : orK (fun f => b_L β s' (slot f)) (fun f => b_key β (plc f)) 600 = orK (a_L α s) (a_key α) (a_cnt α) := by
  rw [orK_fo, orK_fo]
  refine fo_re cm_or (e := fA α) (fun i hi => fA_lt hw hi) (fA_inj hw) (fun i hi => (hs.1 i hi).2) (fun i hi _ => ?_) (fun f hf h => liv_ex hs hf (Or.inl h))
  show 1 <<< (b_key β (plc (fA α i)) &&& 31) = _
  rw [(hd i hi).1]
theorem sim_size {α : aT} {β : bT} {s s' : Nat} (hw : WfA α) (hc : a_cnt α ≤ 256) (hs : SimS α β s s') : cntN (fun f => b_L β s' (slot f)) 600 = cntN (a_L α s) 256 ∧ cntN (fun f => b_S β s' (slot f)) 600 = cntN (a_S α s) 256 := by
  constructor
  · rw [cntN_ext hc (fun w h1 h2 => (hs.2.2.1 w h1 h2).2), cntN_fo, cntN_fo]
    exact fo_re cm_nat (e := fA α) (fun i hi => fA_lt hw hi) (fA_inj hw) (fun i hi => (hs.1 i hi).2) (fun _ _ _ => rfl) (fun f hf h => liv_ex hs hf (Or.inl h))
  · rw [cntN_ext hc (fun w h1 h2 => (hs.2.2.1 w h1 h2).1), cntN_fo, cntN_fo]
    exact fo_re cm_nat (e := fA α) (fun i hi => fA_lt hw hi) (fA_inj hw) (fun i hi => (hs.1 i hi).1) (fun _ _ _ => rfl) (fun f hf h => liv_ex hs hf (Or.inr h))
theorem sim_ord {α : aT} {β : bT} {s s' : Nat} (hw : WfA α) (hd : SimD α β) (hs : SimS α β s s') {key : Int32} {f g : Nat → Int64} {m k : Nat} (h1 : OrdA α s key f m) (h2 : OrdB β s' key g k) : m = k ∧ ∀ i, i < m → f i = g i := by
  refine ord_same h1.1 h2.1 (fun y => (h1.2 y).trans (Iff.trans ?_ (h2.2 y).symm))
  constructor
  · rintro ⟨i, hi, a, b⟩
    exact ⟨fA α i, fA_lt hw hi, (livB_A hw hd hs hi).trans a, ((hd i hi).2.2).trans b⟩
  · rintro ⟨f, hf, a, b⟩
    obtain ⟨i, hi, rfl⟩ := livB_ex hs hf a
    exact ⟨i, hi, (livB_A hw hd hs hi).symm.trans a, ((hd i hi).2.2).symm.trans b⟩
