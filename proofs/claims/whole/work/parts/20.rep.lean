/-! what a state of the class IS: a mathematical value, and how the pool holds it -/
/-- ((deltas, dots), greatest, (replica, number, key, part, value of each dot), SEEN, LIVE, put, taken, stamps); states: 0..5 replicas, 6 the trial, 7 + d the delta d -/
abbrev aT : Type := (Nat × Nat) × (Nat → Nat) × ((Nat → Nat) × (Nat → Nat) × (Nat → Int32) × (Nat → Int32) × (Nat → Int64)) × (Nat → Nat → Bool) × (Nat → Nat → Bool) × (Nat → Int32) × (Nat → Int32) × (Nat → Nat → Int32)
abbrev a_nd (α : aT) : Nat := α.1.1
abbrev a_cnt (α : aT) : Nat := α.1.2
abbrev a_g (α : aT) : Nat → Nat := α.2.1
abbrev a_rep (α : aT) : Nat → Nat := α.2.2.1.1
abbrev a_num (α : aT) : Nat → Nat := α.2.2.1.2.1
abbrev a_key (α : aT) : Nat → Int32 := α.2.2.1.2.2.1
abbrev a_part (α : aT) : Nat → Int32 := α.2.2.1.2.2.2.1
abbrev a_val (α : aT) : Nat → Int64 := α.2.2.1.2.2.2.2
abbrev a_S (α : aT) : Nat → Nat → Bool := α.2.2.2.1
abbrev a_L (α : aT) : Nat → Nat → Bool := α.2.2.2.2.1
abbrev a_P (α : aT) : Nat → Int32 := α.2.2.2.2.2.1
abbrev a_T (α : aT) : Nat → Int32 := α.2.2.2.2.2.2.1
abbrev a_M (α : aT) : Nat → Nat → Int32 := α.2.2.2.2.2.2.2
/-- the shape: every address by its number -/
def ShX (τ : gS) (ad : Nat → Nat) (nd : Nat) : Prop :=
  nd ≤ 250 ∧ (∀ i j, i < 11 + 4 * (7 + nd) → j < 11 + 4 * (7 + nd) → ad i = ad j → i = j) ∧
  isDk τ.1 τ.2.1 τ.2.2.1 τ.2.2.2.2.2.2.2 (ad 0) (ad 1) (ad 2) (ad 3) (ad 35) (ad 4) ∧
  isDt τ.1 τ.2.1 τ.2.2.1 τ.2.2.2.2.2.2.2 (ad 3) (ad 5) (ad 6) (ad 7) (ad 8) (ad 9) (ad 10) ∧
  (∀ k, k < 7 + nd → isSt τ.1 τ.2.1 τ.2.2.1 τ.2.2.2.2.2.2.2 (ad (11 + 4 * k)) (ad (12 + 4 * k)) (ad (13 + 4 * k)) (ad (14 + 4 * k))) ∧
  (∀ r, r < 6 → τ.2.2.2.2.2.1 (ad 1) r = some (ad (11 + 4 * r))) ∧ (∀ r, r < nd → τ.2.2.2.2.2.1 (ad 2) r = some (ad (11 + 4 * (7 + r)))) ∧ (∀ r, nd ≤ r → r < 250 → τ.2.2.2.2.2.1 (ad 2) r = none)
/-- what one state holds -/
def StX (τ : gS) (ad : Nat → Nat) (k : Nat) (S L : Nat → Bool) (P T : Int32) (M : Nat → Int32) : Prop :=
  (∀ i, i < 256 → rb (τ.2.2.2.2.1 (ad (12 + 4 * k))) i = S i ∧ rb (τ.2.2.2.2.1 (ad (13 + 4 * k))) i = L i) ∧ τ.2.2.2.2.2.2.1 (ad (11 + 4 * k)) 3 = P ∧ τ.2.2.2.2.2.2.1 (ad (11 + 4 * k)) 4 = T ∧ ∀ e, e < 32 → τ.2.2.2.1 (ad (14 + 4 * k)) e = M e
/-- what the table of dots holds -/
def DtX (τ : gS) (ad : Nat → Nat) (cnt : Nat) (g rep num : Nat → Nat) (key part : Nat → Int32) (val : Nat → Int64) : Prop :=
  τ.2.2.2.2.2.2.1 (ad 3) 6 = nI cnt ∧ (∀ r, r < 6 → τ.2.2.2.1 (ad 10) r = nI (g r) ∧ g r ≤ 100) ∧
  ∀ i, i < cnt → τ.2.2.2.1 (ad 5) i = nI (rep i) ∧ rep i < 6 ∧ τ.2.2.2.1 (ad 6) i = nI (num i) ∧ num i ≤ 100 ∧ τ.2.2.2.1 (ad 7) i = key i ∧ τ.2.2.2.1 (ad 8) i = part i ∧ τ.2.2.2.2.1 (ad 9) i = val i
def RepX (τ : gS) (ad : Nat → Nat) (α : aT) : Prop :=
  ShX τ ad (a_nd α) ∧ τ.2.2.2.2.2.2.1 (ad 0) 5 = nI (a_nd α) ∧ a_cnt α ≤ a_nd α ∧ DtX τ ad (a_cnt α) (a_g α) (a_rep α) (a_num α) (a_key α) (a_part α) (a_val α) ∧
  ∀ k, k < 7 + a_nd α → StX τ ad k (a_S α k) (a_L α k) (a_P α k) (a_T α k) (a_M α k)
/-- what a step of the class leaves: every cell is there, of its kind; and as it was, where it isn't one of the class's -/
def Keep (τ τ' : gS) (X : Nat → Prop) : Prop := ∀ b, b ∈ τ.1 → b ∈ τ'.1 ∧ τ'.2.1 b = τ.2.1 b ∧ τ'.2.2.1 b = τ.2.2.1 b ∧ τ'.2.2.2.2.2.2.2 b = τ.2.2.2.2.2.2.2 b ∧
  (¬ X b → τ'.2.2.2.1 b = τ.2.2.2.1 b ∧ τ'.2.2.2.2.1 b = τ.2.2.2.2.1 b ∧ τ'.2.2.2.2.2.1 b = τ.2.2.2.2.2.1 b ∧ τ'.2.2.2.2.2.2.1 b = τ.2.2.2.2.2.2.1 b)
/-- the class's addresses -/
def inX (ad : Nat → Nat) (nd : Nat) (b : Nat) : Prop := ∃ i, i < 11 + 4 * (7 + nd) ∧ b = ad i
theorem Keep.rf {τ : gS} {X : Nat → Prop} : Keep τ τ X := fun _ h => ⟨h, rfl, rfl, rfl, fun _ => ⟨rfl, rfl, rfl, rfl⟩⟩
theorem Keep.tr {τ τ1 τ2 : gS} {X Y : Nat → Prop} (h : Keep τ τ1 X) (h2 : Keep τ1 τ2 Y) (hXY : ∀ b, b ∈ τ.1 → ¬ X b → ¬ Y b) : Keep τ τ2 X := fun b hb => by
  obtain ⟨a1, a2, a3, a4, a5⟩ := h b hb
  obtain ⟨b1, b2, b3, b4, b5⟩ := h2 b a1
  refine ⟨b1, b2.trans a2, b3.trans a3, b4.trans a4, fun hx => ?_⟩
  obtain ⟨c1, c2, c3, c4⟩ := a5 hx
  obtain ⟨d1, d2, d3, d4⟩ := b5 (hXY b hb hx)
  exact ⟨d1.trans c1, d2.trans c2, d3.trans c3, d4.trans c4⟩
/-! the steps on values -/
def u1 {α : Type} (f : Nat → α) (k : Nat) (x : α) : Nat → α := fun j => if j = k then x else f j
theorem u1_at {α : Type} (f : Nat → α) (k : Nat) (x : α) : u1 f k x k = x := if_pos rfl
theorem u1_ne {α : Type} (f : Nat → α) {k j : Nat} (x : α) (h : j ≠ k) : u1 f k x j = f j := if_neg h
/-- LIVE of a dot behind a join -/
def jb (l1 s1 l2 s2 : Bool) : Bool := (l1 && (l2 || !s2)) || (l2 && !s1)
/-- state k becomes what S L P T M say -/
def aSet (α : aT) (k : Nat) (S L : Nat → Bool) (P T : Int32) (M : Nat → Int32) : aT := (α.1, α.2.1, α.2.2.1, u1 (a_S α) k S, u1 (a_L α) k L, u1 (a_P α) k P, u1 (a_T α) k T, u1 (a_M α) k M)
def aJoin (α : aT) (k o : Nat) : aT := aSet α k (fun i => a_S α k i || a_S α o i) (fun i => jb (a_L α k i) (a_S α k i) (a_L α o i) (a_S α o i)) (a_P α k ||| a_P α o) (a_T α k ||| a_T α o) (fun e => mx (a_M α k e) (a_M α o e))
def aCopy (α : aT) (k o : Nat) : aT := aSet α k (a_S α o) (a_L α o) (a_P α o) (a_T α o) (a_M α o)
def aNew (α : aT) : aT := aSet ((α.1.1 + 1, α.1.2), α.2) (7 + α.1.1) (fun _ => false) (fun _ => false) 0 0 (fun _ => 0)
def aDot (α : aT) (r : Nat) (k p : Int32) (v : Int64) : aT := ((α.1.1, α.1.2 + 1), u1 (a_g α) r (a_g α r + 1), (u1 (a_rep α) (a_cnt α) r, u1 (a_num α) (a_cnt α) (a_g α r + 1), u1 (a_key α) (a_cnt α) k, u1 (a_part α) (a_cnt α) p, u1 (a_val α) (a_cnt α) v), α.2.2.2)
/-- two states are the same -/
def sEq (α β : aT) (k o : Nat) : Prop := (∀ i, i < 256 → a_S α k i = a_S β o i ∧ a_L α k i = a_L β o i) ∧ (a_P α k = a_P β o ∧ a_T α k = a_T β o) ∧ ∀ e, e < 32 → a_M α k e = a_M β o e
/-! bits of rows -/
theorem rb_jl {f1 s1 f2 s2 : Nat → Int64} {g : Nat → Int64} (h : ∀ j, j < 4 → g j = jl (f1 j) (s1 j) (f2 j) (s2 j)) {i : Nat} (hi : i < 256) : rb g i = jb (rb f1 i) (rb s1 i) (rb f2 i) (rb s2 i) := by
  unfold rb
  rw [h (i / 64) (by omega)]
  unfold jl jb
  have h64 : i % 64 < 64 := Nat.mod_lt _ (by decide)
  rw [lb_or, lb_and, lb_and, lb_or, lb_not _ h64, lb_not _ h64]
theorem rb_or {f1 f2 g : Nat → Int64} (h : ∀ j, j < 4 → g j = f1 j ||| f2 j) {i : Nat} (hi : i < 256) : rb g i = (rb f1 i || rb f2 i) := by
  unfold rb
  rw [h (i / 64) (by omega), lb_or]
theorem rb_eq {f g : Nat → Int64} : (∀ j, j < 4 → f j = g j) ↔ ∀ i, i < 256 → rb f i = rb g i := by
  constructor
  · intro h i hi
    unfold rb
    rw [h (i / 64) (by omega)]
  · intro h j hj
    apply lb_ext
    intro b hb
    have := h (64 * j + b) (by omega)
    unfold rb at this
    rw [show (64 * j + b) / 64 = j by omega, show (64 * j + b) % 64 = b by omega] at this
    exact this
theorem rb_see {rJ : Nat → Nat → Int64} {b i : Nat} {j : Nat} : rb (g_up rJ b (i / 64) (rJ b (i / 64) ||| (1 <<< ((nI (i % 64)).toInt64 &&& 63))) b) j = (rb (rJ b) j || decide (j = i)) := by
  unfold rb
  by_cases e : j / 64 = i / 64
  · rw [e, g_up_at, lb_or, lb_one (Nat.mod_lt _ (by decide))]
    congr 1
    by_cases e2 : j = i
    · subst e2; simp
    · have : ¬ j % 64 = i % 64 := fun q => e2 (by omega)
      simp [e2, this]
  · rw [g_up_i _ _ _ _ e]
    have : ¬ j = i := fun q => e (by rw [q])
    simp [this]
theorem rb_0 {f : Nat → Int64} (h : ∀ j, f j = 0) (i : Nat) : rb f i = false := by
  unfold rb
  rw [h, lb_0]
