/-! the reference's joins, copies and comparisons, on values -/
theorem upR_F {α : Type} {f f' : Nat → α} {lo w : Nat} {F F' : Nat → α} (h : upR f f' lo w F) (e : ∀ v, v < w → F v = F' v) : upR f f' lo w F' := ⟨fun v hv => (h.1 v hv).trans (e v hv), h.2⟩
theorem upR_2 {α : Type} {f1 f2 : Nat → α} {r1 : Nat → Nat → α} {a b lo w : Nat} {F1 F2 : Nat → α} {x y : α} (hne : a ≠ b) (h1 : upR f1 (r1 a) lo w F1) (h2 : upR f2 (r1 b) lo w F2) (e1 : x = F1 w) (e2 : y = F2 w) :
    upR f1 (g_up (g_up r1 a (lo + w) x) b (lo + w) y a) lo (w + 1) F1 ∧ upR f2 (g_up (g_up r1 a (lo + w) x) b (lo + w) y b) lo (w + 1) F2 := by
  refine ⟨?_, upR_g (f' := g_up r1 a (lo + w) x) (by rw [g_up_other _ _ _ hne.symm]; exact h2) e2⟩
  rw [g_up_other _ _ _ hne]
  exact upR_g h1 e1
theorem upR_3 {α : Type} {f1 f2 f3 : Nat → α} {r1 : Nat → Nat → α} {a b c lo w : Nat} {F1 F2 F3 : Nat → α} {x y z : α} (hab : a ≠ b) (hac : a ≠ c) (hbc : b ≠ c) (h1 : upR f1 (r1 a) lo w F1) (h2 : upR f2 (r1 b) lo w F2) (h3 : upR f3 (r1 c) lo w F3) (e1 : x = F1 w) (e2 : y = F2 w) (e3 : z = F3 w) :
    upR f1 (g_up (g_up (g_up r1 a (lo + w) x) b (lo + w) y) c (lo + w) z a) lo (w + 1) F1 ∧ upR f2 (g_up (g_up (g_up r1 a (lo + w) x) b (lo + w) y) c (lo + w) z b) lo (w + 1) F2 ∧ upR f3 (g_up (g_up (g_up r1 a (lo + w) x) b (lo + w) y) c (lo + w) z c) lo (w + 1) F3 := by
  obtain ⟨q1, q2⟩ := upR_2 hab h1 h2 e1 e2
  refine ⟨by rw [g_up_other _ _ _ hac]; exact q1, by rw [g_up_other _ _ _ hbc]; exact q2, upR_g (f' := g_up (g_up r1 a (lo + w) x) b (lo + w) y) ?_ e3⟩
  rw [g_up_other _ _ _ hbc.symm, g_up_other _ _ _ hac.symm]
  exact h3
theorem upR_n {α : Type} {f f' : Nat → α} {lo w : Nat} {F : Nat → α} (h : upR f f' lo w F) (e : f (lo + w) = F w) : upR f f' lo (w + 1) F := upR_s h ((h.2 _ (by omega)).trans e) (fun _ _ => rfl)
/-- put and taken: the two stores -/
theorem gP4 {rI : Nat → Nat → Int32} {a b k : Nat} {x y : Int32} (hne : a ≠ b) (j : Nat) : g_up (g_up rI a k x) b k y a j = if j = k then x else rI a j := by rw [g_up_other _ _ _ hne, g_up_same]
theorem gP5 {rI : Nat → Nat → Int32} {a b k : Nat} {x y : Int32} (hne : a ≠ b) (j : Nat) : g_up (g_up rI a k x) b k y b j = if j = k then y else rI b j := by rw [g_up_same, g_up_other _ _ _ hne.symm]
theorem gPo {rI : Nat → Nat → Int32} {a b k c : Nat} {x y : Int32} (h1 : c ≠ a) (h2 : c ≠ b) : g_up (g_up rI a k x) b k y c = rI c := by rw [g_up_other _ _ _ h2, g_up_other _ _ _ h1]
theorem g3o {α : Type} {rI : Nat → Nat → α} {a b c d j : Nat} {x y z : α} (h1 : d ≠ a) (h2 : d ≠ b) (h3 : d ≠ c) : g_up (g_up (g_up rI a j x) b j y) c j z d = rI d := by rw [g_up_other _ _ _ h3, g_up_other _ _ _ h2, g_up_other _ _ _ h1]
/-- a time's stamp is after another -/
def aftV (t1 b1 : Int32) (i1 : Bool) (t2 b2 : Int32) (i2 : Bool) : Bool := if t1 = t2 then (if b1 = b2 then i1 && !i2 else decide (b2 < b1)) else decide (t2 < t1)
def bAll (β : bT) (k : Nat) (S L : Nat → Bool) (P T : Int32) (t b : Nat → Int32) (i : Nat → Bool) : bT := bTI (bPT (bSL β k S L) k P T) k t b i
def bEmp (β : bT) (k : Nat) : bT := bAll β k (fun _ => false) (fun _ => false) 0 0 (fun _ => 0) (fun _ => 0) (fun _ => false)
def bCopy (β : bT) (o k : Nat) : bT := bAll β k (b_S β o) (b_L β o) (b_P β o) (b_T β o) (b_tm β o) (b_by β o) (b_in β o)
def bAft (β : bT) (o k i : Nat) : Bool := aftV (b_tm β o i) (b_by β o i) (b_in β o i) (b_tm β k i) (b_by β k i) (b_in β k i)
def bJoin (β : bT) (o k : Nat) : bT := bAll β k (fun i => b_S β k i || b_S β o i) (fun i => jb (b_L β k i) (b_S β k i) (b_L β o i) (b_S β o i)) (b_P β k ||| b_P β o) (b_T β k ||| b_T β o)
  (fun i => if bAft β o k i then b_tm β o i else b_tm β k i) (fun i => if bAft β o k i then b_by β o i else b_by β k i) (fun i => if bAft β o k i then b_in β o i else b_in β k i)
def bEq (β : bT) (k o : Nat) : Prop := (∀ i, i < 768 → b_S β k i = b_S β o i ∧ b_L β k i = b_L β o i) ∧ (b_P β k = b_P β o ∧ b_T β k = b_T β o) ∧ ∀ i, i < 32 → b_tm β k i = b_tm β o i ∧ b_by β k i = b_by β o i ∧ b_in β k i = b_in β o i
theorem bi_inj {x y : Bool} : bi x = bi y ↔ x = y := by cases x <;> cases y <;> simp [bi]
theorem rb_eq12 {f g : Nat → Int64} : (∀ j, j < 12 → f j = g j) ↔ ∀ i, i < 768 → rb f i = rb g i := by
  constructor
  · intro h i hi
    unfold rb
    rw [h (i / 64) (by omega)]
  · intro h j hj
    apply lb_ext
    intro b hb
    have := h (64 * j + b) (by omega)
    unfold rb at this
    rw [show (64 * j + b) / 64 = j by omega, show (64 * j + b) % 64 = b by omega] at this
    exact this
/-- one word of a join -/
theorem jw {lo lk so sk : Int64} {i : Nat} (hi : i < 64) : lb (((lo &&& lk) ||| (lo &&& (sk ^^^ (-1)))) ||| (lk &&& (so ^^^ (-1)))) i = jb (lb lk i) (lb sk i) (lb lo i) (lb so i) := by
  rw [lb_or, lb_or, lb_and, lb_and, lb_and, lb_not _ hi, lb_not _ hi]
  unfold jb
  cases lb lk i <;> cases lb sk i <;> cases lb lo i <;> cases lb so i <;> rfl
/-! a chain of comparisons -/
theorem sm_f1 {sm : Bool} {A : Prop} {B : Nat → Prop} {w : Nat} (h : sm = true ↔ (A ∧ ∀ v, v < w → B v)) (e : sm = false) : false = true ↔ (A ∧ ∀ v, v < w + 1 → B v) :=
  ⟨fun z => Bool.noConfusion z, fun z => absurd (h.mpr ⟨z.1, fun v hv => z.2 v (by omega)⟩) (by rw [e]; decide)⟩
theorem sm_f2 {A : Prop} {B : Nat → Prop} {w : Nat} (e : ¬ B w) : false = true ↔ (A ∧ ∀ v, v < w + 1 → B v) :=
  ⟨fun z => Bool.noConfusion z, fun z => absurd (z.2 w (by omega)) e⟩
theorem sm_t {sm : Bool} {A : Prop} {B : Nat → Prop} {w : Nat} (h : sm = true ↔ (A ∧ ∀ v, v < w → B v)) (e : sm = true) (b : B w) : true = true ↔ (A ∧ ∀ v, v < w + 1 → B v) :=
  ⟨fun _ => ⟨(h.mp e).1, fun v hv => (Nat.lt_succ_iff_lt_or_eq.mp hv).elim ((h.mp e).2 v) (fun q => q ▸ b)⟩, fun _ => rfl⟩
theorem sm_0 {A : Prop} {B : Nat → Prop} {sm : Bool} (h : sm = true ↔ A) : sm = true ↔ (A ∧ ∀ v, v < 0 → B v) := h.trans ⟨fun z => ⟨z, fun v hv => absurd hv (Nat.not_lt_zero v)⟩, fun z => z.1⟩
