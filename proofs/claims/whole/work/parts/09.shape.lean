/-! the shapes of the class's objects in the pool, and the words of the joins -/
/-- a State's cells: its object and its three rows -/
def isSt (L : List Nat) (K n : Nat → Nat) (fR : Nat → Nat → Option Nat) (a bs bl bt : Nat) : Prop :=
  a ∈ L ∧ K a = 1 ∧ fR a 0 = some bs ∧ fR a 1 = some bl ∧ fR a 2 = some bt ∧ bs ∈ L ∧ K bs = 5 ∧ n bs = 4 ∧ bl ∈ L ∧ K bl = 5 ∧ n bl = 4 ∧ bt ∈ L ∧ K bt = 4 ∧ n bt = 32
/-- the Dots' cells -/
def isDt (L : List Nat) (K n : Nat → Nat) (fR : Nat → Nat → Option Nat) (d dr dn dk dp dv dg : Nat) : Prop :=
  d ∈ L ∧ K d = 0 ∧ fR d 0 = some dr ∧ fR d 1 = some dn ∧ fR d 2 = some dk ∧ fR d 3 = some dp ∧ fR d 4 = some dv ∧ fR d 5 = some dg ∧ dr ∈ L ∧ K dr = 4 ∧ n dr = 250 ∧ dn ∈ L ∧ K dn = 4 ∧ n dn = 250 ∧ dk ∈ L ∧ K dk = 4 ∧ n dk = 250 ∧ dp ∈ L ∧ K dp = 4 ∧ n dp = 250 ∧ dv ∈ L ∧ K dv = 5 ∧ n dv = 250 ∧ dg ∈ L ∧ K dg = 4 ∧ n dg = 6
/-- a word of LIVE behind a join -/
def jl (l1 s1 l2 s2 : Int64) : Int64 := (l1 &&& (l2 ||| (s2 ^^^ (-1)))) ||| (l2 &&& (s1 ^^^ (-1)))
/-- the first w words of a state's rows are joined -/
def tD (bs bl os ol : Nat) (rJ rJ' : Nat → Nat → Int64) (w : Nat) : Prop :=
  (∀ j, j < w → rJ' bl j = jl (rJ bl j) (rJ bs j) (rJ ol j) (rJ os j) ∧ rJ' bs j = rJ bs j ||| rJ os j) ∧ (∀ b j, w ≤ j → rJ' b j = rJ b j) ∧ (∀ b j, b ≠ bl → b ≠ bs → rJ' b j = rJ b j)
theorem tD_0 (bs bl os ol : Nat) (rJ : Nat → Nat → Int64) : tD bs bl os ol rJ rJ 0 := ⟨fun j h => absurd h (Nat.not_lt_zero j), fun _ _ _ => rfl, fun _ _ _ _ => rfl⟩
theorem tD_s {bs bl os ol : Nat} {rJ r1 : Nat → Nat → Int64} {w : Nat} (hne : bl ≠ bs) (h : tD bs bl os ol rJ r1 w) : tD bs bl os ol rJ (g_up (g_up r1 bl w (jl (r1 bl w) (r1 bs w) (r1 ol w) (r1 os w))) bs w (r1 bs w ||| r1 os w)) (w + 1) := by
  obtain ⟨h1, h2, h3⟩ := h
  refine ⟨fun j hj => ?_, fun b j hj => ?_, fun b j hb1 hb2 => ?_⟩
  · by_cases e : j = w
    · subst e
      rw [g_up_b _ _ _ _ hne, g_up_at, g_up_at, h2 bl j (Nat.le_refl j), h2 bs j (Nat.le_refl j), h2 ol j (Nat.le_refl j), h2 os j (Nat.le_refl j)]
      exact ⟨rfl, rfl⟩
    · rw [g_up_i _ _ _ _ e, g_up_i _ _ _ _ e, g_up_i _ _ _ _ e, g_up_i _ _ _ _ e]
      exact h1 j (by omega)
  · rw [g_up_i _ _ _ _ (by omega), g_up_i _ _ _ _ (by omega)]
    exact h2 b j (by omega)
  · rw [g_up_b _ _ _ _ hb2, g_up_b _ _ _ _ hb1]
    exact h3 b j hb1 hb2
theorem td_keep {bs bl os ol : Nat} {rJ r1 : Nat → Nat → Int64} {w : Nat} (hne : bl ≠ bs) (h : tD bs bl os ol rJ r1 w) (x y : Int64) {j : Nat} (hj : j < w) : g_up (g_up r1 bl w x) bs w y bl j = r1 bl j ∧ g_up (g_up r1 bl w x) bs w y bs j = r1 bs j := by
  rw [g_up_i _ _ _ _ (by omega), g_up_i _ _ _ _ (by omega), g_up_i _ _ _ _ (by omega), g_up_i _ _ _ _ (by omega)]
  exact ⟨rfl, rfl⟩
theorem td_new {bs bl : Nat} {r1 : Nat → Nat → Int64} {w : Nat} (hne : bl ≠ bs) (x y : Int64) : g_up (g_up r1 bl w x) bs w y bl w = x ∧ g_up (g_up r1 bl w x) bs w y bs w = y := by
  rw [g_up_b _ _ _ _ hne, g_up_at, g_up_at]
  exact ⟨rfl, rfl⟩
theorem td_f {bs bl os ol : Nat} {rJ r1 : Nat → Nat → Int64} {w : Nat} {cg : Bool} {x y : Int64} (hne : bl ≠ bs) (h : tD bs bl os ol rJ r1 w) (hcg : cg = false ↔ ∀ j, j < w → r1 bl j = rJ bl j ∧ r1 bs j = rJ bs j) (hc : x = r1 bl w ∧ y = r1 bs w) :
    cg = false ↔ ∀ j, j < w + 1 → g_up (g_up r1 bl w x) bs w y bl j = rJ bl j ∧ g_up (g_up r1 bl w x) bs w y bs j = rJ bs j := by
  rw [hcg]
  constructor
  · intro q j hj
    by_cases e : j = w
    · subst e
      rw [(td_new hne x y).1, (td_new hne x y).2, hc.1, hc.2]
      exact ⟨h.2.1 bl j (Nat.le_refl j), h.2.1 bs j (Nat.le_refl j)⟩
    · rw [(td_keep hne h x y (show j < w by omega)).1, (td_keep hne h x y (show j < w by omega)).2]
      exact q j (by omega)
  · intro q j hj
    have := q j (by omega)
    rw [(td_keep hne h x y hj).1, (td_keep hne h x y hj).2] at this
    exact this
theorem td_t {bs bl os ol : Nat} {rJ r1 : Nat → Nat → Int64} {w : Nat} {x y : Int64} (hne : bl ≠ bs) (h : tD bs bl os ol rJ r1 w) (hc : ¬ x = r1 bl w ∨ ¬ y = r1 bs w) :
    true = false ↔ ∀ j, j < w + 1 → g_up (g_up r1 bl w x) bs w y bl j = rJ bl j ∧ g_up (g_up r1 bl w x) bs w y bs j = rJ bs j := by
  refine ⟨fun q => (nomatch q), fun q => ?_⟩
  have := q w (by omega)
  rw [(td_new hne x y).1, (td_new hne x y).2, ← h.2.1 bl w (Nat.le_refl w), ← h.2.1 bs w (Nat.le_refl w)] at this
  rcases hc with z | z
  · exact absurd this.1 z
  · exact absurd this.2 z
/-- the greater of two stamps -/
def mx (x y : Int32) : Int32 := if y ≤ x then x else y
/-- the first w stamps are joined -/
def tT (bt ot : Nat) (rI rI' : Nat → Nat → Int32) (w : Nat) : Prop :=
  (∀ j, j < w → rI' bt j = mx (rI bt j) (rI ot j)) ∧ (∀ b j, w ≤ j → rI' b j = rI b j) ∧ (∀ b j, b ≠ bt → rI' b j = rI b j)
theorem tT_0 (bt ot : Nat) (rI : Nat → Nat → Int32) : tT bt ot rI rI 0 := ⟨fun j h => absurd h (Nat.not_lt_zero j), fun _ _ _ => rfl, fun _ _ _ => rfl⟩
theorem tT_n {bt ot : Nat} {rI r1 : Nat → Nat → Int32} {w : Nat} (h : tT bt ot rI r1 w) (hc : r1 ot w ≤ r1 bt w) : tT bt ot rI r1 (w + 1) := by
  obtain ⟨h1, h2, h3⟩ := h
  refine ⟨fun j hj => ?_, fun b j hj => h2 b j (by omega), h3⟩
  by_cases e : j = w
  · subst e
    rw [h2 bt j (Nat.le_refl j), h2 ot j (Nat.le_refl j)] at hc
    rw [h2 bt j (Nat.le_refl j)]
    unfold mx
    rw [if_pos hc]
  · exact h1 j (by omega)
theorem tT_w {bt ot : Nat} {rI r1 : Nat → Nat → Int32} {w : Nat} (h : tT bt ot rI r1 w) (hc : ¬ r1 ot w ≤ r1 bt w) : tT bt ot rI (g_up r1 bt w (r1 ot w)) (w + 1) := by
  obtain ⟨h1, h2, h3⟩ := h
  refine ⟨fun j hj => ?_, fun b j hj => ?_, fun b j hb => ?_⟩
  · by_cases e : j = w
    · subst e
      rw [h2 bt j (Nat.le_refl j), h2 ot j (Nat.le_refl j)] at hc
      rw [g_up_at, h2 ot j (Nat.le_refl j)]
      unfold mx
      rw [if_neg hc]
    · rw [g_up_i _ _ _ _ e]
      exact h1 j (by omega)
  · rw [g_up_i _ _ _ _ (by omega)]
    exact h2 b j (by omega)
  · rw [g_up_b _ _ _ _ hb]
    exact h3 b j hb
theorem tT_cf {bt ot : Nat} {rI r1 : Nat → Nat → Int32} {w : Nat} {cg : Bool} (h : tT bt ot rI r1 w) (hcg : cg = false ↔ ∀ j, j < w → r1 bt j = rI bt j) : cg = false ↔ ∀ j, j < w + 1 → r1 bt j = rI bt j := by
  rw [hcg]
  exact ⟨fun q j hj => by
    by_cases e : j = w
    · subst e; exact h.2.1 bt j (Nat.le_refl j)
    · exact q j (by omega), fun q j hj => q j (by omega)⟩
theorem tT_ct {bt ot : Nat} {rI r1 : Nat → Nat → Int32} {w : Nat} (h : tT bt ot rI r1 w) (hc : ¬ r1 ot w ≤ r1 bt w) : true = false ↔ ∀ j, j < w + 1 → g_up r1 bt w (r1 ot w) bt j = rI bt j := by
  refine ⟨fun q => (nomatch q), fun q => ?_⟩
  have := q w (by omega)
  rw [g_up_at, ← h.2.1 bt w (Nat.le_refl w)] at this
  rw [this] at hc
  exact absurd (Int32.le_refl _) hc
theorem il_t {P : Prop} {lk : Bool} {w : Nat} {f g f2 g2 : Nat → Int64} (h : lk = true ↔ P ∧ ∀ j, j < w → f j = g j ∧ f2 j = g2 j) (c1 : lk = true) (c2 : f w = g w) (c3 : f2 w = g2 w) : true = true ↔ P ∧ ∀ j, j < w + 1 → f j = g j ∧ f2 j = g2 j :=
  ⟨fun _ => ⟨(h.mp c1).1, lt_s (h.mp c1).2 ⟨c2, c3⟩⟩, fun _ => rfl⟩
theorem il_f {P : Prop} {lk : Bool} {w : Nat} {f g f2 g2 : Nat → Int64} (h : lk = true ↔ P ∧ ∀ j, j < w → f j = g j ∧ f2 j = g2 j) (hd : ¬ (lk = true ∧ f w = g w ∧ f2 w = g2 w)) : false = true ↔ P ∧ ∀ j, j < w + 1 → f j = g j ∧ f2 j = g2 j :=
  ⟨fun q => (nomatch q), fun q => absurd ⟨h.mpr ⟨q.1, fun j hj => q.2 j (by omega)⟩, q.2 w (by omega)⟩ hd⟩
theorem il_t2 {P : Prop} {l2 : Bool} {w : Nat} {f g : Nat → Int32} (h : l2 = true ↔ P ∧ ∀ j, j < w → f j = g j) (c1 : l2 = true) (c2 : f w = g w) : true = true ↔ P ∧ ∀ j, j < w + 1 → f j = g j :=
  ⟨fun _ => ⟨(h.mp c1).1, lt_s (h.mp c1).2 c2⟩, fun _ => rfl⟩
theorem il_f2 {P : Prop} {l2 : Bool} {w : Nat} {f g : Nat → Int32} (h : l2 = true ↔ P ∧ ∀ j, j < w → f j = g j) (hd : ¬ (l2 = true ∧ f w = g w)) : false = true ↔ P ∧ ∀ j, j < w + 1 → f j = g j :=
  ⟨fun q => (nomatch q), fun q => absurd ⟨h.mpr ⟨q.1, fun j hj => q.2 j (by omega)⟩, q.2 w (by omega)⟩ hd⟩
