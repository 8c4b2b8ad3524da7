/-! a dot of the table, and sums over the table -/
def fitA (α : aT) (k p r : Int32) (i : Nat) : Bool := decide (a_key α i = k ∧ (p = -1 ∨ a_part α i = p) ∧ (r = -1 ∨ nI (a_rep α i) = r))
/-- LIVE in state s, of the key k, the part p (-1: any), the replica r (-1: any) -/
def livA (α : aT) (s : Nat) (k p r : Int32) (i : Nat) : Bool := a_L α s i && fitA α k p r i
def sumN (P : Nat → Bool) (v : Nat → Int64) : Nat → Int64
  | 0 => 0
  | w + 1 => if P w then sumN P v w + v w else sumN P v w
theorem sumN_t {P : Nat → Bool} {v : Nat → Int64} {w : Nat} (h : P w = true) : sumN P v (w + 1) = sumN P v w + v w := by simp [sumN, h]
theorem sumN_f {P : Nat → Bool} {v : Nat → Int64} {w : Nat} (h : P w = false) : sumN P v (w + 1) = sumN P v w := by simp [sumN, h]
theorem livA_t {α : aT} {s i : Nat} {k p r : Int32} (h1 : a_L α s i = true) (h2 : fitA α k p r i = true) : livA α s k p r i = true := by simp [livA, h1, h2]
theorem livA_f1 {α : aT} {s i : Nat} {k p r : Int32} (h1 : a_L α s i = false) : livA α s k p r i = false := by simp [livA, h1]
theorem livA_f2 {α : aT} {s i : Nat} {k p r : Int32} (h2 : fitA α k p r i = false) : livA α s k p r i = false := by simp [livA, h2]
/-- what the table's rows hold of the dot i -/
theorem fitA_of {τ : gS} {ad : Nat → Nat} {α : aT} (h : RepX τ ad α) {i : Nat} (hi : i < a_cnt α) {k p r : Int32} : decide (τ.2.2.2.1 (ad 7) i = k ∧ (p = -1 ∨ τ.2.2.2.1 (ad 8) i = p) ∧ (r = -1 ∨ τ.2.2.2.1 (ad 5) i = r)) = fitA α k p r i := by
  obtain ⟨d1, d2, d3, d4, d5, d6, d7⟩ := h.2.2.2.1.2.2 i hi
  unfold fitA
  rw [d1, d5, d6]
/-- the dots taken back so far, in the delta's SEEN -/
def tbk (S P : Nat → Bool) (w : Nat) (i : Nat) : Bool := S i || (decide (i < w) && P i)
theorem tbk_0 (S P : Nat → Bool) (i : Nat) : tbk S P 0 i = S i := by simp [tbk]
theorem tbk_f {S P : Nat → Bool} {w : Nat} (h : P w = false) (i : Nat) : tbk S P (w + 1) i = tbk S P w i := by
  unfold tbk
  by_cases e : i = w
  · subst e; simp [h]
  · have : decide (i < w + 1) = decide (i < w) := by by_cases q : i < w <;> simp [q] <;> omega
    rw [this]
theorem tbk_t {S P : Nat → Bool} {w : Nat} (h : P w = true) (i : Nat) : (tbk S P w i || decide (i = w)) = tbk S P (w + 1) i := by
  unfold tbk
  by_cases e : i = w
  · subst e; simp [h]
  · have : decide (i < w + 1) = decide (i < w) := by by_cases q : i < w <;> simp [q] <;> omega
    rw [this]
    simp [e]
def anyN (P : Nat → Bool) (w : Nat) : Bool := (List.range w).any P
theorem anyN_0 (P : Nat → Bool) : anyN P 0 = false := rfl
theorem anyN_s (P : Nat → Bool) (w : Nat) : anyN P (w + 1) = (anyN P w || P w) := by simp [anyN, List.range_succ]
theorem anyN_iff {P : Nat → Bool} {w : Nat} : anyN P w = true ↔ ∃ i, i < w ∧ P i = true := by simp [anyN]
theorem anyN_ge {P : Nat → Bool} {w c : Nat} (h : P w = true) (hw : w < c) : anyN P c = true := anyN_iff.mpr ⟨w, hw, h⟩
def orK (P : Nat → Bool) (k : Nat → Int32) : Nat → Int32
  | 0 => 0
  | w + 1 => if P w then orK P k w ||| (1 <<< (k w &&& 31)) else orK P k w
theorem orK_t {P : Nat → Bool} {v : Nat → Int32} {w : Nat} (h : P w = true) : orK P v (w + 1) = orK P v w ||| (1 <<< (v w &&& 31)) := by simp [orK, h]
theorem orK_f {P : Nat → Bool} {v : Nat → Int32} {w : Nat} (h : P w = false) : orK P v (w + 1) = orK P v w := by simp [orK, h]
theorem nI_lt_of {a b : Nat} (ha : a < 2 ^ 31) (h : ¬ nI b ≤ nI a) : a < b := by
  rcases Nat.lt_or_ge a b with q | q
  · exact q
  · exact absurd (nI_le q ha) h
theorem nI_le_of {a b : Nat} (hb : b < 2 ^ 31) (h : nI b ≤ nI a) : b ≤ a := by
  rcases Nat.lt_or_ge a b with q | q
  · exact absurd h (nI_ge q hb)
  · exact q
/-- the dot that a change makes -/
theorem repX_dot {L : List Nat} {K n : Nat → Nat} {rI rI' : Nat → Nat → Int32} {rJ rJ' : Nat → Nat → Int64} {rQ : Nat → Nat → Option Nat} {fI fI' : Nat → Nat → Int32} {fR : Nat → Nat → Option Nat} {ad : Nat → Nat} {α : aT} {r : Nat} {k q : Int32} {v : Int64}
    (h : RepX (L, K, n, rI, rJ, rQ, fI, fR) ad α) (hr : r < 6) (hc : a_cnt α < a_nd α) (hg : a_g α r < 100)
    (e1 : rI' = g_up (g_up (g_up (g_up (g_up rI (ad 10) r (rI (ad 10) r + 1)) (ad 5) (a_cnt α) (nI r)) (ad 6) (a_cnt α) (g_up (g_up rI (ad 10) r (rI (ad 10) r + 1)) (ad 5) (a_cnt α) (nI r) (ad 10) r)) (ad 7) (a_cnt α) k) (ad 8) (a_cnt α) q)
    (e2 : rJ' = g_up rJ (ad 9) (a_cnt α) v) (e3 : fI' = g_up fI (ad 3) 6 (fI (ad 3) 6 + 1)) :
    RepX (L, K, n, rI', rJ', rQ, fI', fR) ad (aDot α r k q v) ∧ Keep (L, K, n, rI, rJ, rQ, fI, fR) (L, K, n, rI', rJ', rQ, fI', fR) (inX ad (a_nd α)) := by
  have h0 := h
  obtain ⟨hs, hn, hcn, ⟨d1, d2, d3⟩, hst⟩ := h
  have ne : ∀ {i j : Nat}, i < 11 + 4 * (7 + a_nd α) → j < 11 + 4 * (7 + a_nd α) → i ≠ j → ad i ≠ ad j := fun a b e => shx_ne hs a b e
  have hnd : a_nd α ≤ 250 := hs.1
  have hI : ∀ b, b ≠ ad 10 → b ≠ ad 5 → b ≠ ad 6 → b ≠ ad 7 → b ≠ ad 8 → rI' b = rI b := fun b z1 z2 z3 z4 z5 => by rw [e1, g_up_other _ _ _ z5, g_up_other _ _ _ z4, g_up_other _ _ _ z3, g_up_other _ _ _ z2, g_up_other _ _ _ z1]
  have hJ : ∀ b, b ≠ ad 9 → rJ' b = rJ b := fun b z => by rw [e2, g_up_other _ _ _ z]
  have hF : ∀ b, b ≠ ad 3 → fI' b = fI b := fun b z => by rw [e3, g_up_other _ _ _ z]
  have r10 : rI' (ad 10) = fun j => if j = r then rI (ad 10) r + 1 else rI (ad 10) j := by
    rw [e1, g_up_other _ _ _ (ne (by omega) (by omega) (by decide)), g_up_other _ _ _ (ne (by omega) (by omega) (by decide)), g_up_other _ _ _ (ne (by omega) (by omega) (by decide)), g_up_other _ _ _ (ne (by omega) (by omega) (by decide)), g_up_same]
  have r5 : rI' (ad 5) = fun j => if j = a_cnt α then nI r else rI (ad 5) j := by
    rw [e1, g_up_other _ _ _ (ne (by omega) (by omega) (by decide)), g_up_other _ _ _ (ne (by omega) (by omega) (by decide)), g_up_other _ _ _ (ne (by omega) (by omega) (by decide)), g_up_same, g_up_other _ _ _ (ne (by omega) (by omega) (by decide))]
  have r6 : rI' (ad 6) = fun j => if j = a_cnt α then rI (ad 10) r + 1 else rI (ad 6) j := by
    rw [e1, g_up_other _ _ _ (ne (by omega) (by omega) (by decide)), g_up_other _ _ _ (ne (by omega) (by omega) (by decide)), g_up_same, g_up_other _ _ _ (ne (i := 6) (by omega) (by omega) (by decide)), g_up_other _ _ _ (ne (i := 6) (by omega) (by omega) (by decide)), g_up_other _ _ _ (ne (i := 10) (by omega) (by omega) (by decide)), g_up_at]
  have r7 : rI' (ad 7) = fun j => if j = a_cnt α then k else rI (ad 7) j := by
    rw [e1, g_up_other _ _ _ (ne (by omega) (by omega) (by decide)), g_up_same, g_up_other _ _ _ (ne (i := 7) (by omega) (by omega) (by decide)), g_up_other _ _ _ (ne (i := 7) (by omega) (by omega) (by decide)), g_up_other _ _ _ (ne (i := 7) (by omega) (by omega) (by decide))]
  have r8 : rI' (ad 8) = fun j => if j = a_cnt α then q else rI (ad 8) j := by
    rw [e1, g_up_same, g_up_other _ _ _ (ne (i := 8) (by omega) (by omega) (by decide)), g_up_other _ _ _ (ne (i := 8) (by omega) (by omega) (by decide)), g_up_other _ _ _ (ne (i := 8) (by omega) (by omega) (by decide)), g_up_other _ _ _ (ne (i := 8) (by omega) (by omega) (by decide))]
  have r9 : rJ' (ad 9) = fun j => if j = a_cnt α then v else rJ (ad 9) j := by rw [e2, g_up_same]
  refine ⟨⟨hs, ?_, ?_, ⟨?_, fun r2 hr2 => ?_, fun i hi => ?_⟩, fun k2 hk2 => ?_⟩, fun b hb => ⟨hb, rfl, rfl, rfl, fun hx => ?_⟩⟩
  · show fI' (ad 0) 5 = _
    rw [hF _ (ne (by omega) (by omega) (by decide))]; exact hn
  · show a_cnt α + 1 ≤ a_nd α; omega
  · show fI' (ad 3) 6 = nI (a_cnt α + 1)
    rw [e3, g_up_at, show fI (ad 3) 6 = nI (a_cnt α) from d1, nI_1]
  · show rI' (ad 10) r2 = nI (u1 (a_g α) r (a_g α r + 1) r2) ∧ u1 (a_g α) r (a_g α r + 1) r2 ≤ 100
    rw [r10]
    dsimp only
    by_cases z : r2 = r
    · subst z
      rw [u1_at, if_pos rfl, show rI (ad 10) r2 = nI (a_g α r2) from (d2 r2 hr).1, nI_1]
      exact ⟨rfl, by omega⟩
    · rw [u1_ne _ _ z, if_neg z]; exact d2 r2 hr2
  · show rI' (ad 5) i = nI (u1 (a_rep α) (a_cnt α) r i) ∧ u1 (a_rep α) (a_cnt α) r i < 6 ∧ rI' (ad 6) i = nI (u1 (a_num α) (a_cnt α) (a_g α r + 1) i) ∧ u1 (a_num α) (a_cnt α) (a_g α r + 1) i ≤ 100 ∧ rI' (ad 7) i = u1 (a_key α) (a_cnt α) k i ∧ rI' (ad 8) i = u1 (a_part α) (a_cnt α) q i ∧ rJ' (ad 9) i = u1 (a_val α) (a_cnt α) v i
    have hi : i < a_cnt α + 1 := hi
    rw [r5, r6, r7, r8, r9]
    dsimp only
    by_cases z : i = a_cnt α
    · subst z
      rw [u1_at, u1_at, u1_at, u1_at, u1_at, if_pos rfl, if_pos rfl, if_pos rfl, if_pos rfl, if_pos rfl, show rI (ad 10) r = nI (a_g α r) from (d2 r hr).1, nI_1]
      exact ⟨rfl, hr, rfl, by omega, rfl, rfl, rfl⟩
    · rw [u1_ne _ _ z, u1_ne _ _ z, u1_ne _ _ z, u1_ne _ _ z, u1_ne _ _ z, if_neg z, if_neg z, if_neg z, if_neg z, if_neg z]
      exact d3 i (by omega)
  · have hk2 : k2 < 7 + a_nd α := hk2
    obtain ⟨k1, k3, k4, k5⟩ := hst k2 hk2
    refine ⟨fun i hi => ?_, ?_, ?_, fun e he => ?_⟩
    · show rb (rJ' (ad (12 + 4 * k2))) i = _ ∧ rb (rJ' (ad (13 + 4 * k2))) i = _
      rw [hJ _ (ne (by omega) (by omega) (by omega)), hJ _ (ne (by omega) (by omega) (by omega))]
      exact k1 i hi
    · show fI' (ad (11 + 4 * k2)) 3 = _
      rw [hF _ (ne (by omega) (by omega) (by omega))]; exact k3
    · show fI' (ad (11 + 4 * k2)) 4 = _
      rw [hF _ (ne (by omega) (by omega) (by omega))]; exact k4
    · show rI' (ad (14 + 4 * k2)) e = _
      rw [hI _ (ne (by omega) (by omega) (by omega)) (ne (by omega) (by omega) (by omega)) (ne (by omega) (by omega) (by omega)) (ne (by omega) (by omega) (by omega)) (ne (by omega) (by omega) (by omega))]
      exact k5 e he
  · have z : ∀ i, i < 11 + 4 * (7 + a_nd α) → b ≠ ad i := fun i hi e => hx ⟨i, hi, e⟩
    exact ⟨hI b (z _ (by omega)) (z _ (by omega)) (z _ (by omega)) (z _ (by omega)) (z _ (by omega)), hJ b (z _ (by omega)), rfl, hF b (z _ (by omega))⟩
