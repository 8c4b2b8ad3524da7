/-! every call, side by side -/
section ST
variable {α : aT} {β : bT}
theorem pr_r {n r : Nat} (h : r < 6) : prN n r r := by unfold prN; omega
theorem pr_d {n d : Nat} (h : d < n) : prN n (7 + d) (6 + d) := by unfold prN; omega
theorem Sim.S (h : Sim α β) {r : Nat} (hr : r < 6) : SimS α β r r := h.1.2.2 r r (pr_r hr)
theorem Sim.D (h : Sim α β) {d : Nat} (hd : d < a_nd α) : SimS α β (7 + d) (6 + d) := h.1.2.2 _ _ (pr_d hd)
theorem own_new (h : Sim α β) (i : Nat) (hi : i < a_cnt α) : a_S (aNew α) (a_rep α i) i = true := by
  show u1 (a_S α) (7 + a_nd α) (fun _ => false) (a_rep α i) i = true
  rw [u1_ne _ _ (by have := (h.1.1.1 i hi).1; omega)]
  exact h.2.1 i hi
theorem own_back {s D : Nat} {k p r : Int32} (hD : 6 ≤ D) (hw : WfA α) (h : ∀ i, i < a_cnt α → a_S α (a_rep α i) i = true) (i : Nat) (hi : i < a_cnt α) : a_S (aBack α s D k p r) (a_rep α i) i = true := by
  show u1 (a_S α) D _ (a_rep α i) i = true
  rw [u1_ne _ _ (by have := (hw.1 i hi).1; omega)]
  exact h i hi
theorem own_make {D r : Nat} {k p : Int32} {v : Int64} (hD : 6 ≤ D) (hw : WfA α) (h : ∀ i, i < a_cnt α → a_S α (a_rep α i) i = true) (i : Nat) (hi : i < a_cnt α + 1) :
    a_S (aMake α D r k p v) (a_rep (aMake α D r k p v) i) i = true ∨ (a_rep (aMake α D r k p v) i = r ∧ a_S (aMake α D r k p v) D i = true) := by
  show u1 (a_S α) D (fun j => a_S α D j || decide (j = a_cnt α)) (u1 (a_rep α) (a_cnt α) r i) i = true ∨ (u1 (a_rep α) (a_cnt α) r i = r ∧ u1 (a_S α) D (fun j => a_S α D j || decide (j = a_cnt α)) D i = true)
  rcases Nat.lt_succ_iff_lt_or_eq.mp hi with z | z
  · left
    rw [u1_ne (a_rep α) _ (show i ≠ a_cnt α by omega), u1_ne _ _ (by have := (hw.1 i z).1; omega)]
    exact h i z
  · right
    subst z
    rw [u1_at, u1_at]
    simp
theorem Sim.g (h : Sim α β) {r : Nat} (hr : r < 6) : bG β r = a_g α r := bG_eq h.1.1 (h.S hr) hr (fun i hi e => by have := h.2.1 i hi; rw [e] at this; exact this)
theorem Sim.bk (h : Sim α β) {r : Nat} {key p w : Int32} (hr : r < 6) : SimN (aBack (aNew α) r (7 + a_nd α) key p w) (bBack (bEmp β (6 + a_nd α)) r (6 + a_nd α) key p w) (a_nd α + 1) := simN_back (simN_new h.1) (pr_r hr) (pr_d (Nat.lt_succ_self _))
theorem Sim.mk (h : Sim α β) {r : Nat} {key p w q : Int32} {v : Int64} (hr : r < 6) (hg : a_g α r < 100) (hc : a_cnt α < 250) : SimN (aMake (aBack (aNew α) r (7 + a_nd α) key p w) (7 + a_nd α) r key q v) (bNew (bBack (bEmp β (6 + a_nd α)) r (6 + a_nd α) key p w) r (6 + a_nd α) key q v) (a_nd α + 1) :=
  simN_make (h.bk hr) hr (Nat.lt_succ_self _) hg hc (by rw [bG_back (by omega)]; exact h.g hr)
theorem sim_clear {r : Nat} {key : Int32} (h : Sim α β) (hr : r < 6) : Sim (aClear α r key) (bClear β r key) := by
  unfold aClear bClear bFin
  rw [h.2.2]
  exact sim_fin (h.bk hr) hr rfl (fun i hi => Or.inl (own_back (by omega) (simN_new h.1).1 (own_new h) i hi))
theorem sim_write {r : Nat} {key : Int32} {v : Int64} (h : Sim α β) (hr : r < 6) (hg : a_g α r < 100) (hc : a_cnt α < 250) : Sim (aWrite α r key v) (bWrite β r key v) := by
  unfold aWrite bWrite bFin
  rw [h.2.2]
  exact sim_fin (h.mk hr hg hc) hr rfl (own_make (by omega) (h.bk hr).1 (own_back (by omega) (simN_new h.1).1 (own_new h)))
theorem sim_count {r : Nat} {key : Int32} {x : Int64} (h : Sim α β) (hr : r < 6) (hg : a_g α r < 100) (hc : a_cnt α < 250) : Sim (aCount α r key x) (bCount β r key x) := by
  unfold aCount bCount bFin
  rw [h.2.2, sim_sum (simN_new h.1).1 (simN_new h.1).2.1 ((simN_new h.1).2.2 r r (pr_r hr))]
  exact sim_fin (h.mk hr hg hc) hr rfl (own_make (by omega) (h.bk hr).1 (own_back (by omega) (simN_new h.1).1 (own_new h)))
theorem sim_turn {r : Nat} {key p : Int32} {on : Bool} (h : Sim α β) (hr : r < 6) (hg : on = true → a_g α r < 100) (hc : a_cnt α < 250) : Sim (aTurn α r key p on) (bTurn β r key p on) := by
  unfold aTurn bTurn bFin
  rw [h.2.2]
  cases on with
  | false =>
    simp only [Bool.false_eq_true, if_false]
    exact sim_fin (h.bk hr) hr rfl (fun i hi => Or.inl (own_back (by omega) (simN_new h.1).1 (own_new h) i hi))
  | true =>
    simp only [if_true]
    exact sim_fin (h.mk hr (hg rfl) hc) hr rfl (own_make (by omega) (h.bk hr).1 (own_back (by omega) (simN_new h.1).1 (own_new h)))
theorem own_set {D : Nat} {S L : Nat → Bool} {P T : Int32} {M : Nat → Int32} (hD : 6 ≤ D) (hw : WfA α) (h : ∀ i, i < a_cnt α → a_S α (a_rep α i) i = true) (i : Nat) (hi : i < a_cnt α) : a_S (aSet α D S L P T M) (a_rep α i) i = true := by
  show u1 (a_S α) D S (a_rep α i) i = true
  rw [u1_ne _ _ (by have := (hw.1 i hi).1; omega)]
  exact h i hi
theorem sim_twice {r e : Nat} {put : Bool} (h : Sim α β) (hr : r < 6) : Sim (aTwice α r e put) (bTwice β r e put) := by
  unfold aTwice bTwice bFin
  rw [h.2.2]
  have h1 := simN_new h.1
  have hD := h1.2.2 _ _ (pr_d (Nat.lt_succ_self (a_nd α)))
  obtain ⟨q1, q2, q3, q4, q5⟩ := hD
  have e1 : a_P (aNew α) (7 + a_nd α) = 0 := u1_at _ _ _
  have e2 : a_T (aNew α) (7 + a_nd α) = 0 := u1_at _ _ _
  cases put with
  | true =>
    refine sim_fin (simN_upd (k := 7 + a_nd α) (k' := 6 + a_nd α) h1.1 h1.2.1 (fun j j' hj _ => h1.2.2 j j' hj) (pr_d (Nat.lt_succ_self _)) bPT_ne ?_) hr rfl (fun i hi => Or.inl (own_set (by omega) h1.1 (own_new h) i hi))
    refine ⟨q1, q2, q3, ⟨?_, ?_⟩, q5⟩
    · exact u1_at _ _ _
    · rw [e2]; exact u1_at _ _ _
  | false =>
    refine sim_fin (simN_upd (k := 7 + a_nd α) (k' := 6 + a_nd α) h1.1 h1.2.1 (fun j j' hj _ => h1.2.2 j j' hj) (pr_d (Nat.lt_succ_self _)) bPT_ne ?_) hr rfl (fun i hi => Or.inl (own_set (by omega) h1.1 (own_new h) i hi))
    refine ⟨q1, q2, q3, ⟨?_, ?_⟩, q5⟩
    · rw [e1]; exact u1_at _ _ _
    · exact u1_at _ _ _
theorem sim_timed {r e : Nat} {tm : Int32} {on : Bool} (h : Sim α β) (hr : r < 6) (h0 : 0 ≤ tm) (h1t : tm ≤ 1000000) : Sim (aTimed α r e tm on) (bTimed β r e tm on) := by
  unfold aTimed bTimed bFin
  rw [h.2.2]
  have h1 := simN_new h.1
  obtain ⟨q1, q2, q3, q4, q5⟩ := h1.2.2 _ _ (pr_d (Nat.lt_succ_self (a_nd α)))
  refine sim_fin (simN_upd (k := 7 + a_nd α) (k' := 6 + a_nd α) h1.1 h1.2.1 (fun j j' hj _ => h1.2.2 j j' hj) (pr_d (Nat.lt_succ_self _)) bTI_ne ?_) hr rfl (fun i hi => Or.inl (own_set (by omega) h1.1 (own_new h) i hi))
  refine ⟨q1, q2, q3, q4, fun j hj => ?_⟩
  show stR (u1 _ e (stampI tm r on) j) (u1 (b_tm _) (6 + a_nd α) _ (6 + a_nd α) j) (u1 (b_by _) (6 + a_nd α) _ (6 + a_nd α) j) (u1 (b_in _) (6 + a_nd α) _ (6 + a_nd α) j)
  rw [u1_at, u1_at, u1_at]
  by_cases z : j = e
  · subst z; rw [u1_at, u1_at, u1_at, u1_at]; exact stR_stamp h0 h1t hr
  · rw [u1_ne _ _ z, u1_ne _ _ z, u1_ne _ _ z, u1_ne _ _ z]; exact q5 j hj
/-- a join into nothing is a copy -/
theorem simq_copy {cnt : Nat} {sl : Nat → Nat} {S L : Nat → Bool} {P T : Int32} {M : Nat → Int32} {S' L' : Nat → Bool} {P' T' : Int32} {t b : Nat → Int32} {z : Nat → Bool} (h : SimQ cnt sl (fun i => false || S i) (fun i => jb false false (L i) (S i)) (0 ||| P) (0 ||| T) (fun e => mx 0 (M e)) S' L' P' T' t b z) (hM : ∀ e, e < 32 → mx 0 (M e) = M e) : SimQ cnt sl S L P T M S' L' P' T' t b z := by
  have e1 : ∀ l s : Bool, jb false false l s = l := by intro l s; cases l <;> cases s <;> rfl
  have e2 : ∀ x : Int32, 0 ||| x = x := fun x => b_ext (fun i _ => by rw [b_or, b_0, Bool.false_or])
  obtain ⟨q1, q2, q3, q4, q5⟩ := h
  rw [e2, e2] at q4
  refine ⟨fun i hi => ?_, q2, fun i hi h256 => ?_, q4, fun e he => by have z : stR (mx 0 (M e)) (t e) (b e) _ := q5 e he; rw [hM e he] at z; exact z⟩
  · have z9 : S' (sl i) = (false || S i) ∧ L' (sl i) = jb false false (L i) (S i) := q1 i hi
    rw [e1, Bool.false_or] at z9; exact z9
  · have z9 : (false || S i) = false ∧ jb false false (L i) (S i) = false := q3 i hi h256
    rw [e1, Bool.false_or] at z9; exact z9
theorem stR_mx {m t b : Int32} {i : Bool} (h : stR m t b i) : mx 0 m = m := by
  obtain ⟨T, B, x1, x2, rfl, rfl, rfl, x3⟩ := h
  unfold mx
  split
  · next q =>
    have := nI_le_of (a := 0) (b := enc T B i) (enc_lt i x1 x2) q
    rw [Nat.le_zero.mp this]; rfl
  · rfl
theorem sim_of {α' : aT} {β' : bT} {m : Nat} (h : SimN α' β' m) (hn : a_nd α' = m) (own : OwnA α') : Sim α' (bND β' m) := by
  subst hn
  exact ⟨h, own, rfl⟩
theorem sim_group {d e : Nat} (h : Sim α β) (hd : d < a_nd α) (he : e < a_nd α) : Sim (aGroup α d e) (bGroup β d e) := by
  unfold aGroup bGroup
  rw [h.2.2]
  have h1 := simN_new h.1
  have hj := simN_join (k := 7 + a_nd α) (k' := 6 + a_nd α) (o := 7 + d) (o' := 6 + d) h1 (pr_d (Nat.lt_succ_self _)) (pr_d (by omega))
  have hQ := h1.2.2 (7 + d) (6 + d) (pr_d (by omega))
  have h2 : SimN (aCopy (aNew α) (7 + a_nd α) (7 + d)) (bJoin (bEmp β (6 + a_nd α)) (6 + d) (6 + a_nd α)) (a_nd α + 1) := by
    refine simN_upd (k := 7 + a_nd α) (k' := 6 + a_nd α) h1.1 h1.2.1 (fun j j' hj _ => h1.2.2 j j' hj) (pr_d (Nat.lt_succ_self _)) bAll_ne ?_
    refine simq_copy ?_ (fun e he => stR_mx (hQ.2.2.2.2 e he))
    have z := hj.2.2 _ _ (pr_d (Nat.lt_succ_self (a_nd α)))
    unfold SimS at z
    have s0 : a_S (aNew α) (7 + a_nd α) = fun _ => false := u1_at _ _ _
    have l0 : a_L (aNew α) (7 + a_nd α) = fun _ => false := u1_at _ _ _
    have p0 : a_P (aNew α) (7 + a_nd α) = 0 := u1_at _ _ _
    have t0 : a_T (aNew α) (7 + a_nd α) = 0 := u1_at _ _ _
    have m0 : a_M (aNew α) (7 + a_nd α) = fun _ => 0 := u1_at _ _ _
    unfold aJoin at z
    rw [aSet_S, aSet_L, aSet_P, aSet_T, aSet_M, s0, l0, p0, t0, m0] at z
    exact z
  refine sim_of (simN_join (k := 7 + a_nd α) (k' := 6 + a_nd α) (o := 7 + e) (o' := 6 + e) h2 (pr_d (Nat.lt_succ_self _)) (pr_d (by omega))) rfl (fun i hi => ?_)
  exact own_set (D := 7 + a_nd α) (by omega) h2.1 (own_set (D := 7 + a_nd α) (by omega) h1.1 (own_new h)) i hi
theorem sim_whole {r : Nat} (h : Sim α β) (hr : r < 6) : Sim (aWhole α r) (bWhole β r) := by
  unfold aWhole bWhole
  rw [h.2.2]
  have h1 := simN_new h.1
  have hQ := h1.2.2 r r (pr_r hr)
  refine sim_of (simN_upd (α := aNew α) (β := bEmp β (6 + a_nd α)) (n := a_nd α + 1) (k := 7 + a_nd α) (k' := 6 + a_nd α) h1.1 h1.2.1 (fun j j' hj _ => h1.2.2 j j' hj) (pr_d (Nat.lt_succ_self _)) ⟨fun j hj => ?_, rfl, rfl, rfl⟩ ?_) rfl (fun i hi => own_set (D := 7 + a_nd α) (by omega) h1.1 (own_new h) i hi)
  · obtain ⟨a1, a2, a3, a4, a5, a6, a7⟩ := (bAll_ne (β := β) (k := 6 + a_nd α) (S := b_S β r) (L := b_L β r) (P := b_P β r) (T := b_T β r) (t := b_tm β r) (b := b_by β r) (z := b_in β r)).1 j hj
    obtain ⟨c1, c2, c3, c4, c5, c6, c7⟩ := (bAll_ne (β := β) (k := 6 + a_nd α) (S := fun _ => false) (L := fun _ => false) (P := 0) (T := 0) (t := fun _ => 0) (b := fun _ => 0) (z := fun _ => false)).1 j hj
    exact ⟨a1.trans c1.symm, a2.trans c2.symm, a3.trans c3.symm, a4.trans c4.symm, a5.trans c5.symm, a6.trans c6.symm, a7.trans c7.symm⟩
  · unfold bCopy
    rw [bAll_at.1, bAll_at.2.1, bAll_at.2.2.1, bAll_at.2.2.2.1, bAll_at.2.2.2.2.1, bAll_at.2.2.2.2.2.1, bAll_at.2.2.2.2.2.2]
    have g := (bAll_ne (β := β) (k := 6 + a_nd α) (S := fun _ => false) (L := fun _ => false) (P := 0) (T := 0) (t := fun _ => 0) (b := fun _ => 0) (z := fun _ => false)).1 r (by omega)
    unfold SimS at hQ
    have g' : b_S (bEmp β (6 + a_nd α)) r = b_S β r ∧ b_L (bEmp β (6 + a_nd α)) r = b_L β r ∧ b_P (bEmp β (6 + a_nd α)) r = b_P β r ∧ b_T (bEmp β (6 + a_nd α)) r = b_T β r ∧ b_tm (bEmp β (6 + a_nd α)) r = b_tm β r ∧ b_by (bEmp β (6 + a_nd α)) r = b_by β r ∧ b_in (bEmp β (6 + a_nd α)) r = b_in β r := g
    rw [g'.1, g'.2.1, g'.2.2.1, g'.2.2.2.1, g'.2.2.2.2.1, g'.2.2.2.2.2.1, g'.2.2.2.2.2.2] at hQ
    exact hQ
/-- the draft is nobody's state -/
theorem simN_draft {n : Nat} {β' : bT} (h : SimN α β n) (hn : n ≤ 250) (hb : bSame β β' 256) : SimN α β' n := by
  refine ⟨h.1, fun i hi => by rw [hb.2.1, hb.2.2.1, hb.2.2.2]; exact h.2.1 i hi, fun j j' hj => ?_⟩
  obtain ⟨e1, e2, e3, e4, e5, e6, e7⟩ := hb.1 j' (by unfold prN at hj; omega)
  unfold SimS
  rw [e1, e2, e3, e4, e5, e6, e7]
  exact h.2.2 j j' hj
theorem simN_trial {n : Nat} {S L : Nat → Bool} {P T : Int32} {M : Nat → Int32} (h : SimN α β n) : SimN (aSet α 6 S L P T M) β n := by
  refine ⟨h.1, h.2.1, fun j j' hj => ?_⟩
  have q : j ≠ 6 := by unfold prN at hj; omega
  show SimQ (a_cnt α) (fun i => slot (fA α i)) (u1 (a_S α) 6 S j) (u1 (a_L α) 6 L j) (u1 (a_P α) 6 P j) (u1 (a_T α) 6 T j) (u1 (a_M α) 6 M j) _ _ _ _ _ _ _
  rw [u1_ne _ _ q, u1_ne _ _ q, u1_ne _ _ q, u1_ne _ _ q, u1_ne _ _ q]
  exact h.2.2 j j' hj
/-- join and merge -/
theorem sim_joined {r o o' : Nat} (h : Sim α β) (hn : a_nd α ≤ 250) (hc : a_cnt α ≤ 256) (hr : r < 6) (ho : prN (a_nd α) o o') :
    Sim (aJoin α r o) (bJoin (bCopy β r 256) o' r) ∧ (sEq (aJoin α r o) α r r ↔ bEq (bJoin (bCopy β r 256) o' r) r 256) := by
  have h2 : SimN α (bCopy β r 256) (a_nd α) := simN_draft h.1 hn bAll_ne
  have hj := simN_join h2 (pr_r hr) ho
  refine ⟨⟨hj, fun i hi => ?_, h.2.2⟩, ?_⟩
  · show u1 (a_S α) r (fun i => a_S α r i || a_S α o i) (a_rep α i) i = true
    have z := h.2.1 i hi
    by_cases q : a_rep α i = r
    · rw [q] at z
      rw [q, u1_at]; simp [z]
    · rw [u1_ne _ _ q]; exact z
  · have hA : SimS (aJoin α r o) (bJoin (bCopy β r 256) o' r) r r := hj.2.2 r r (pr_r hr)
    have hB := h.S hr
    have e := simq_eq hc (fun i hi => slot_lt (fA_lt h.1.1 hi)) hA hB
    unfold sEq bEq
    refine e.trans ?_
    have c := bAll_at (β := β) (k := 256) (S := b_S β r) (L := b_L β r) (P := b_P β r) (T := b_T β r) (t := b_tm β r) (b := b_by β r) (z := b_in β r)
    have d := (bAll_ne (β := bCopy β r 256) (k := r) (S := fun i => b_S (bCopy β r 256) r i || b_S (bCopy β r 256) o' i) (L := fun i => jb (b_L (bCopy β r 256) r i) (b_S (bCopy β r 256) r i) (b_L (bCopy β r 256) o' i) (b_S (bCopy β r 256) o' i)) (P := b_P (bCopy β r 256) r ||| b_P (bCopy β r 256) o') (T := b_T (bCopy β r 256) r ||| b_T (bCopy β r 256) o') (t := fun i => if bAft (bCopy β r 256) o' r i then b_tm (bCopy β r 256) o' i else b_tm (bCopy β r 256) r i) (b := fun i => if bAft (bCopy β r 256) o' r i then b_by (bCopy β r 256) o' i else b_by (bCopy β r 256) r i) (z := fun i => if bAft (bCopy β r 256) o' r i then b_in (bCopy β r 256) o' i else b_in (bCopy β r 256) r i)).1 256 (by omega)
    have x : b_S (bJoin (bCopy β r 256) o' r) 256 = b_S β r ∧ b_L (bJoin (bCopy β r 256) o' r) 256 = b_L β r ∧ b_P (bJoin (bCopy β r 256) o' r) 256 = b_P β r ∧ b_T (bJoin (bCopy β r 256) o' r) 256 = b_T β r ∧ b_tm (bJoin (bCopy β r 256) o' r) 256 = b_tm β r ∧ b_by (bJoin (bCopy β r 256) o' r) 256 = b_by β r ∧ b_in (bJoin (bCopy β r 256) o' r) 256 = b_in β r :=
      ⟨d.1.trans c.1, d.2.1.trans c.2.1, d.2.2.1.trans c.2.2.1, d.2.2.2.1.trans c.2.2.2.1, d.2.2.2.2.1.trans c.2.2.2.2.1, d.2.2.2.2.2.1.trans c.2.2.2.2.2.1, d.2.2.2.2.2.2.trans c.2.2.2.2.2.2⟩
    rw [x.1, x.2.1, x.2.2.1, x.2.2.2.1, x.2.2.2.2.1, x.2.2.2.2.2.1, x.2.2.2.2.2.2]
theorem sim_same {r q : Nat} (h : Sim α β) (hc : a_cnt α ≤ 256) (hr : r < 6) (hq : q < 6) : sEq α α r q ↔ bEq β r q := simq_eq hc (fun i hi => slot_lt (fA_lt h.1.1 hi)) (h.S hr) (h.S hq)
theorem sim_below {r q : Nat} (h : Sim α β) (hn : a_nd α ≤ 250) (hc : a_cnt α ≤ 256) (hr : r < 6) (hq : q < 6) :
    Sim (aJoin (aCopy α 6 q) 6 r) (bJoin (bCopy β q 256) r 256) ∧ (sEq (aJoin (aCopy α 6 q) 6 r) (aCopy α 6 q) 6 6 ↔ bEq (bJoin (bCopy β q 256) r 256) q 256) := by
  have hN : SimN (aJoin (aCopy α 6 q) 6 r) (bJoin (bCopy β q 256) r 256) (a_nd α) := simN_trial (simN_trial (simN_draft (simN_draft h.1 hn bAll_ne) hn bAll_ne))
  refine ⟨⟨hN, fun i hi => ?_, h.2.2⟩, ?_⟩
  · show u1 (u1 (a_S α) 6 (a_S α q)) 6 _ (a_rep α i) i = true
    have hlt := (h.1.1.1 i hi).1
    rw [u1_ne _ _ (by omega), u1_ne _ _ (by omega)]
    exact h.2.1 i hi
  · -- the joined trial beside the joined draft
    have hQ := h.S hq
    have hR := h.S hr
    have J := simq_join hQ hR
    have e := simq_eq hc (fun i hi => slot_lt (fA_lt h.1.1 hi)) J hQ
    have cS : a_S (aCopy α 6 q) 6 = a_S α q := aSet_S α 6 (a_S α q) (a_L α q) (a_P α q) (a_T α q) (a_M α q)
    have cL : a_L (aCopy α 6 q) 6 = a_L α q := aSet_L α 6 (a_S α q) (a_L α q) (a_P α q) (a_T α q) (a_M α q)
    have cP : a_P (aCopy α 6 q) 6 = a_P α q := aSet_P α 6 (a_S α q) (a_L α q) (a_P α q) (a_T α q) (a_M α q)
    have cT : a_T (aCopy α 6 q) 6 = a_T α q := aSet_T α 6 (a_S α q) (a_L α q) (a_P α q) (a_T α q) (a_M α q)
    have cM : a_M (aCopy α 6 q) 6 = a_M α q := aSet_M α 6 (a_S α q) (a_L α q) (a_P α q) (a_T α q) (a_M α q)
    have rS : a_S (aCopy α 6 q) r = a_S α r := u1_ne _ _ (by omega)
    have rL : a_L (aCopy α 6 q) r = a_L α r := u1_ne _ _ (by omega)
    have rP : a_P (aCopy α 6 q) r = a_P α r := u1_ne _ _ (by omega)
    have rT : a_T (aCopy α 6 q) r = a_T α r := u1_ne _ _ (by omega)
    have rM : a_M (aCopy α 6 q) r = a_M α r := u1_ne _ _ (by omega)
    have dd := bAll_at (β := β) (k := 256) (S := b_S β q) (L := b_L β q) (P := b_P β q) (T := b_T β q) (t := b_tm β q) (b := b_by β q) (z := b_in β q)
    have dS : b_S (bCopy β q 256) 256 = b_S β q := dd.1
    have dL : b_L (bCopy β q 256) 256 = b_L β q := dd.2.1
    have dP : b_P (bCopy β q 256) 256 = b_P β q := dd.2.2.1
    have dT : b_T (bCopy β q 256) 256 = b_T β q := dd.2.2.2.1
    have dt : b_tm (bCopy β q 256) 256 = b_tm β q := dd.2.2.2.2.1
    have db : b_by (bCopy β q 256) 256 = b_by β q := dd.2.2.2.2.2.1
    have di : b_in (bCopy β q 256) 256 = b_in β q := dd.2.2.2.2.2.2
    have o : ∀ j, j < 6 → b_S (bCopy β q 256) j = b_S β j ∧ b_L (bCopy β q 256) j = b_L β j ∧ b_P (bCopy β q 256) j = b_P β j ∧ b_T (bCopy β q 256) j = b_T β j ∧ b_tm (bCopy β q 256) j = b_tm β j ∧ b_by (bCopy β q 256) j = b_by β j ∧ b_in (bCopy β q 256) j = b_in β j := fun j hj => (bAll_ne (β := β) (k := 256)).1 j (by omega)
    have o2 : b_S (bJoin (bCopy β q 256) r 256) q = b_S (bCopy β q 256) q ∧ b_L (bJoin (bCopy β q 256) r 256) q = b_L (bCopy β q 256) q ∧ b_P (bJoin (bCopy β q 256) r 256) q = b_P (bCopy β q 256) q ∧ b_T (bJoin (bCopy β q 256) r 256) q = b_T (bCopy β q 256) q ∧ b_tm (bJoin (bCopy β q 256) r 256) q = b_tm (bCopy β q 256) q ∧ b_by (bJoin (bCopy β q 256) r 256) q = b_by (bCopy β q 256) q ∧ b_in (bJoin (bCopy β q 256) r 256) q = b_in (bCopy β q 256) q := (bAll_ne (k := 256)).1 q (by omega)
    have L1 : sEq (aJoin (aCopy α 6 q) 6 r) (aCopy α 6 q) 6 6 ↔ ((∀ i, i < 256 → (a_S α q i || a_S α r i) = a_S α q i ∧ jb (a_L α q i) (a_S α q i) (a_L α r i) (a_S α r i) = a_L α q i) ∧ ((a_P α q ||| a_P α r) = a_P α q ∧ (a_T α q ||| a_T α r) = a_T α q) ∧ ∀ e, e < 32 → mx (a_M α q e) (a_M α r e) = a_M α q e) := by
      unfold sEq aJoin
      rw [aSet_S, aSet_L, aSet_P, aSet_T, aSet_M, cS, cL, cP, cT, cM, rS, rL, rP, rT, rM]
    refine L1.trans (e.trans ?_)
    unfold bEq
    rw [o2.1, o2.2.1, o2.2.2.1, o2.2.2.2.1, o2.2.2.2.2.1, o2.2.2.2.2.2.1, o2.2.2.2.2.2.2, (o q hq).1, (o q hq).2.1, (o q hq).2.2.1, (o q hq).2.2.2.1, (o q hq).2.2.2.2.1, (o q hq).2.2.2.2.2.1, (o q hq).2.2.2.2.2.2]
    unfold bJoin
    rw [bAll_at.1, bAll_at.2.1, bAll_at.2.2.1, bAll_at.2.2.2.1, bAll_at.2.2.2.2.1, bAll_at.2.2.2.2.2.1, bAll_at.2.2.2.2.2.2, dS, dL, dP, dT, dt, db, di, (o r hr).1, (o r hr).2.1, (o r hr).2.2.1, (o r hr).2.2.2.1, (o r hr).2.2.2.2.1, (o r hr).2.2.2.2.2.1, (o r hr).2.2.2.2.2.2]
    have ba : ∀ i, bAft (bCopy β q 256) r 256 i = aftV (b_tm β r i) (b_by β r i) (b_in β r i) (b_tm β q i) (b_by β q i) (b_in β q i) := fun i => by
      unfold bAft
      rw [dt, db, di, (o r hr).2.2.2.2.1, (o r hr).2.2.2.2.2.1, (o r hr).2.2.2.2.2.2]
    simp only [ba]
    constructor
    · rintro ⟨a, ⟨b1, b2⟩, c⟩
      exact ⟨fun i hi => ⟨(a i hi).1.symm, (a i hi).2.symm⟩, ⟨b1.symm, b2.symm⟩, fun i hi => ⟨(c i hi).1.symm, (c i hi).2.1.symm, (c i hi).2.2.symm⟩⟩
    · rintro ⟨a, ⟨b1, b2⟩, c⟩
      exact ⟨fun i hi => ⟨(a i hi).1.symm, (a i hi).2.symm⟩, ⟨b1.symm, b2.symm⟩, fun i hi => ⟨(c i hi).1.symm, (c i hi).2.1.symm, (c i hi).2.2.symm⟩⟩
end ST
