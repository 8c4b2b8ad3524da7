/-! folds, in whatever order -/
section FO
variable {M : Type} {op : M → M → M} {z : M}
def fo {M : Type} (op : M → M → M) (z : M) (P : Nat → Bool) (v : Nat → M) : Nat → M
  | 0 => z
  | w + 1 => if P w then op (fo op z P v w) (v w) else fo op z P v w
theorem fo_t {P : Nat → Bool} {v : Nat → M} {w : Nat} (h : P w = true) : fo op z P v (w + 1) = op (fo op z P v w) (v w) := by simp [fo, h]
theorem fo_f {P : Nat → Bool} {v : Nat → M} {w : Nat} (h : P w = false) : fo op z P v (w + 1) = fo op z P v w := by simp [fo, h]
theorem fo_congr {P Q : Nat → Bool} {v u : Nat → M} {N : Nat} (h : ∀ i, i < N → P i = Q i ∧ (P i = true → v i = u i)) : fo op z P v N = fo op z Q u N := by
  induction N with
  | zero => rfl
  | succ N ih =>
    have h1 := ih (fun i hi => h i (by omega))
    obtain ⟨e1, e2⟩ := h N (by omega)
    cases hP : P N with
    | false => rw [fo_f hP, fo_f (by rw [← e1]; exact hP), h1]
    | true => rw [fo_t hP, fo_t (by rw [← e1]; exact hP), h1, e2 hP]
theorem fo_none {P : Nat → Bool} {v : Nat → M} {N : Nat} (h : ∀ i, i < N → P i = false) : fo op z P v N = z := by
  induction N with
  | zero => rfl
  | succ N ih => rw [fo_f (h N (by omega))]; exact ih (fun i hi => h i (by omega))
theorem fo_out (comm : ∀ a b c, op (op a b) c = op (op a c) b) {P : Nat → Bool} {v : Nat → M} {N k : Nat} (ht : k < N) (hP : P k = true) : fo op z P v N = op (fo op z (fun f => P f && decide (f ≠ k)) v N) (v k) := by
  induction N with
  | zero => exact absurd ht (Nat.not_lt_zero k)
  | succ N ih =>
    rcases Nat.lt_succ_iff_lt_or_eq.mp ht with q | q
    · have e := ih q
      have hne : ¬ N = k := by omega
      cases hN : P N with
      | false => rw [fo_f hN, fo_f (P := fun f => P f && decide (f ≠ k)) (by simp [hN]), e]
      | true => rw [fo_t hN, fo_t (P := fun f => P f && decide (f ≠ k)) (by simp [hN, hne]), e, comm]
    · subst q
      rw [fo_t hP, fo_f (P := fun f => P f && decide (f ≠ k)) (by simp)]
      congr 1
      exact fo_congr (fun i hi => ⟨by have : ¬ i = k := by omega
                                      simp [this], fun _ => rfl⟩)
theorem fo_re (comm : ∀ a b c, op (op a b) c = op (op a c) b) {P Q : Nat → Bool} {v u : Nat → M} {N c : Nat} {e : Nat → Nat} (he : ∀ i, i < c → e i < N) (hinj : ∀ i j, i < c → j < c → e i = e j → i = j) (hPQ : ∀ i, i < c → P (e i) = Q i) (hv : ∀ i, i < c → Q i = true → v (e i) = u i) (hs : ∀ f, f < N → P f = true → ∃ i, i < c ∧ e i = f) :
    fo op z P v N = fo op z Q u c := by
  induction c generalizing P with
  | zero =>
    refine fo_none (fun i hi => ?_)
    cases h : P i with
    | false => rfl
    | true => obtain ⟨j, hj, _⟩ := hs i hi h; exact absurd hj (Nat.not_lt_zero j)
  | succ c ih =>
    cases hQ : Q c with
    | false =>
      rw [fo_f hQ]
      refine ih (fun i hi => he i (by omega)) (fun i j hi hj => hinj i j (by omega) (by omega)) (fun i hi => hPQ i (by omega)) (fun i hi => hv i (by omega)) (fun f hf hP => ?_)
      obtain ⟨i, hi, e1⟩ := hs f hf hP
      rcases Nat.lt_succ_iff_lt_or_eq.mp hi with q | q
      · exact ⟨i, q, e1⟩
      · subst q; rw [← e1, hPQ i (by omega), hQ] at hP; exact Bool.noConfusion hP
    | true =>
      rw [fo_t hQ, fo_out comm (he c (by omega)) ((hPQ c (by omega)).trans hQ), hv c (by omega) hQ]
      congr 1
      refine ih (fun i hi => he i (by omega)) (fun i j hi hj => hinj i j (by omega) (by omega)) (fun i hi => ?_) (fun i hi => hv i (by omega)) (fun f hf hP => ?_)
      · have : ¬ e i = e c := fun q => by have := hinj i c (by omega) (by omega) q; omega
        simp [this, hPQ i (by omega)]
      · rw [Bool.and_eq_true, decide_eq_true_eq] at hP
        obtain ⟨i, hi, e1⟩ := hs f hf hP.1
        rcases Nat.lt_succ_iff_lt_or_eq.mp hi with q | q
        · exact ⟨i, q, e1⟩
        · subst q; exact absurd e1.symm hP.2
end FO
theorem sumN_fo (P : Nat → Bool) (v : Nat → Int64) (N : Nat) : sumN P v N = fo (· + ·) 0 P v N := by
  induction N with
  | zero => rfl
  | succ N ih => cases h : P N with
    | false => rw [sumN_f h, fo_f h, ih]
    | true => rw [sumN_t h, fo_t h, ih]
theorem orK_fo (P : Nat → Bool) (k : Nat → Int32) (N : Nat) : orK P k N = fo (M := Int32) (· ||| ·) 0 P (fun i => (1 : Int32) <<< (k i &&& 31)) N := by
  induction N with
  | zero => rfl
  | succ N ih => cases h : P N with
    | false => rw [orK_f h, fo_f h, ih]
    | true => rw [orK_t h, fo_t h, ih]
theorem cntN_fo (P : Nat → Bool) (N : Nat) : cntN P N = fo (fun a b => a + b) 0 P (fun _ => 1) N := by
  induction N with
  | zero => rfl
  | succ N ih => cases h : P N with
    | false => rw [cntN_s, fo_f h, ih, h]; rfl
    | true => rw [cntN_s, fo_t h, ih, h]; rfl
theorem cm_add (a b c : Int64) : a + b + c = a + c + b := by rw [Int64.add_assoc, Int64.add_comm b c, ← Int64.add_assoc]
theorem cm_or (a b c : Int32) : a ||| b ||| c = a ||| c ||| b := b_ext (fun i _ => by rw [b_or, b_or, b_or, b_or, Bool.or_assoc, Bool.or_comm (bt b i), ← Bool.or_assoc])
theorem cm_nat (a b c : Nat) : a + b + c = a + c + b := by omega
theorem cntN_mono {P : Nat → Bool} {i j : Nat} (h : i ≤ j) : cntN P i ≤ cntN P j := by
  induction j with
  | zero => rw [Nat.le_zero.mp h]; exact Nat.le_refl _
  | succ j ih =>
    rcases Nat.lt_or_ge i (j + 1) with q | q
    · have := ih (by omega)
      rw [cntN_s]; omega
    · rw [show i = j + 1 by omega]; exact Nat.le_refl _
theorem cntN_ext {P : Nat → Bool} {i j : Nat} (h : i ≤ j) (hf : ∀ w, i ≤ w → w < j → P w = false) : cntN P j = cntN P i := by
  induction j with
  | zero => rw [Nat.le_zero.mp h]
  | succ j ih =>
    rcases Nat.lt_or_ge i (j + 1) with q | q
    · rw [cntN_s, hf j (by omega) (by omega), ih (by omega) (fun w h1 h2 => hf w h1 (by omega))]; rfl
    · rw [show i = j + 1 by omega]
theorem cntN_ex {P : Nat → Bool} {w m : Nat} (h1 : 1 ≤ m) (h2 : m ≤ cntN P w) : ∃ i, i < w ∧ P i = true ∧ cntN P i + 1 = m := by
  induction w with
  | zero => exact absurd h2 (by show ¬ m ≤ 0; omega)
  | succ w ih =>
    rcases Nat.lt_or_ge (cntN P w) m with q | q
    · rw [cntN_s] at h2
      cases h : P w with
      | false => rw [h] at h2; simp at h2; omega
      | true => rw [h] at h2; simp at h2; exact ⟨w, by omega, h, by omega⟩
    · obtain ⟨i, hi, a, b⟩ := ih q
      exact ⟨i, by omega, a, b⟩
