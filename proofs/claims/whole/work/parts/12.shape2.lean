/-! the desk's own shape; what a new delta is -/
def isDk (L : List Nat) (K n : Nat → Nat) (fR : Nat → Nat → Option Nat) (x ra ma d tr od : Nat) : Prop :=
  x ∈ L ∧ K x = 2 ∧ fR x 0 = some ra ∧ fR x 1 = some ma ∧ fR x 2 = some d ∧ fR x 3 = some tr ∧ fR x 4 = some od ∧ ra ∈ L ∧ K ra = 7 ∧ n ra = 6 ∧ ma ∈ L ∧ K ma = 7 ∧ n ma = 250 ∧ od ∈ L ∧ K od = 5 ∧ n od = 250
/-- an int that is an index below N -/
def okI (i : Int32) (N : Nat) : Prop := ∃ r, r < N ∧ i = nI r
theorem okI_of {i : Int32} {N : Nat} (hN : N < 2 ^ 31) (h0 : ¬ i < 0) (h1 : i < nI N) : okI i N := by
  obtain ⟨j, hj, e, -⟩ := pk_mu h0 (by rw [Int32.not_le]; exact h1) hN
  exact ⟨j, hj, e⟩
theorem okI_no {i : Int32} {N : Nat} (hN : N < 2 ^ 31) (h : i < 0 ∨ ¬ i < nI N) : ¬ okI i N := by
  rintro ⟨r, hr, rfl⟩
  rcases h with h | h
  · exact absurd h (nI_pos (by omega))
  · exact h (nI_lt hr hN)
/-- behind openDelta: τ was, τ' is; a bs bl bt the new state's cells; x the desk, ma the row of deltas, nd their number till then -/
def NewD (τ τ' : gS) (x ma nd a bs bl bt : Nat) : Prop :=
  (∀ b, b ∈ τ.1 → b ∈ τ'.1 ∧ τ'.2.1 b = τ.2.1 b ∧ τ'.2.2.1 b = τ.2.2.1 b ∧ τ'.2.2.2.1 b = τ.2.2.2.1 b ∧ τ'.2.2.2.2.1 b = τ.2.2.2.2.1 b ∧ τ'.2.2.2.2.2.2.2 b = τ.2.2.2.2.2.2.2 b ∧ (b ≠ ma → τ'.2.2.2.2.2.1 b = τ.2.2.2.2.2.1 b) ∧ (b ≠ x → τ'.2.2.2.2.2.2.1 b = τ.2.2.2.2.2.2.1 b)) ∧
  (a ∉ τ.1 ∧ bs ∉ τ.1 ∧ bl ∉ τ.1 ∧ bt ∉ τ.1 ∧ a ≠ bs ∧ a ≠ bl ∧ a ≠ bt ∧ bs ≠ bl ∧ bs ≠ bt ∧ bl ≠ bt) ∧
  (τ'.2.2.2.2.2.1 ma = fun j => if j = nd then some a else τ.2.2.2.2.2.1 ma j) ∧ (τ'.2.2.2.2.2.2.1 x = fun j => if j = 5 then nI (nd + 1) else τ.2.2.2.2.2.2.1 x j) ∧
  isSt τ'.1 τ'.2.1 τ'.2.2.1 τ'.2.2.2.2.2.2.2 a bs bl bt ∧ (∀ j, τ'.2.2.2.2.1 bs j = 0) ∧ (∀ j, τ'.2.2.2.2.1 bl j = 0) ∧ (∀ j, τ'.2.2.2.1 bt j = 0) ∧ τ'.2.2.2.2.2.2.1 a 3 = 0 ∧ τ'.2.2.2.2.2.2.1 a 4 = 0
theorem nI_inj {a b : Nat} (ha : a < 2 ^ 31) (hb : b < 2 ^ 31) (h : nI a = nI b) : a = b := (nI_eq ha hb).mp h
