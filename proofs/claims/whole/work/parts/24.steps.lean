/-! steps of the whole class: the value before and behind, and what else stays -/
def StpX (τ : gS) (ad : Nat → Nat) (α : aT) (τ' : gS) (ad' : Nat → Nat) (α' : aT) : Prop := RepX τ' ad' α' ∧ Keep τ τ' (inX ad (a_nd α)) ∧ (∀ b, b ∈ τ.1 → inX ad' (a_nd α') b → inX ad (a_nd α) b) ∧ ad' 0 = ad 0
theorem StpX.tr {τ τ1 τ2 : gS} {ad ad1 ad2 : Nat → Nat} {α α1 α2 : aT} (h : StpX τ ad α τ1 ad1 α1) (h2 : StpX τ1 ad1 α1 τ2 ad2 α2) : StpX τ ad α τ2 ad2 α2 :=
  ⟨h2.1, h.2.1.tr h2.2.1 (fun b hb hx hy => hx (h.2.2.1 b hb hy)), fun b hb hy => h.2.2.1 b hb (h2.2.2.1 b (h.2.1 b hb).1 hy), h2.2.2.2.trans h.2.2.2⟩
theorem StpX.of {τ τ' : gS} {ad : Nat → Nat} {α α' : aT} (hn : a_nd α' = a_nd α) (h : RepX τ' ad α' ∧ Keep τ τ' (inX ad (a_nd α))) : StpX τ ad α τ' ad α' := ⟨h.1, h.2, fun _ _ hy => by rw [hn] at hy; exact hy, rfl⟩
theorem StpX.new {τ τ' : gS} {ad : Nat → Nat} {α : aT} {a bs bl bt : Nat} (h : RepX τ ad α) (hlt : a_nd α < 250) (hN : NewD τ τ' (ad 0) (ad 2) (a_nd α) a bs bl bt) : StpX τ ad α τ' (adN ad (11 + 4 * (7 + a_nd α)) a bs bl bt) (aNew α) := by
  obtain ⟨h1, h2⟩ := repX_new h hlt hN
  refine ⟨h1, h2, fun b hb hy => ?_, adN_lt (by omega)⟩
  obtain ⟨i, hi, e⟩ := hy
  have hi : i < 11 + 4 * (7 + (a_nd α + 1)) := hi
  obtain ⟨m1, m2, m3, m4, -⟩ := hN.2.1
  rcases (show i < 11 + 4 * (7 + a_nd α) ∨ i = 11 + 4 * (7 + a_nd α) ∨ i = 11 + 4 * (7 + a_nd α) + 1 ∨ i = 11 + 4 * (7 + a_nd α) + 2 ∨ i = 11 + 4 * (7 + a_nd α) + 3 by omega) with q | q | q | q | q
  · exact ⟨i, q, by rw [e, adN_lt q]⟩
  · subst q; rw [adN_0] at e; subst e; exact absurd hb m1
  · subst q; rw [adN_1] at e; subst e; exact absurd hb m2
  · subst q; rw [adN_2] at e; subst e; exact absurd hb m3
  · subst q; rw [adN_3] at e; subst e; exact absurd hb m4
def aBack (α : aT) (s D : Nat) (k p r : Int32) : aT := aSet α D (tbk (a_S α D) (livA α s k p r) (a_cnt α)) (a_L α D) (a_P α D) (a_T α D) (a_M α D)
def aLive (α : aT) (D i : Nat) : aT := aSet α D (fun j => a_S α D j || decide (j = i)) (fun j => a_L α D j || decide (j = i)) (a_P α D) (a_T α D) (a_M α D)
def aMake (α : aT) (D r : Nat) (k p : Int32) (v : Int64) : aT := aLive (aDot α r k p v) D (a_cnt α)
/-- add, remove, a flag on, off -/
def aTurn (α : aT) (r : Nat) (k p : Int32) (on : Bool) : aT := aJoin (if on then aMake (aBack (aNew α) r (7 + a_nd α) k p (-1)) (7 + a_nd α) r k p 0 else aBack (aNew α) r (7 + a_nd α) k p (-1)) r (7 + a_nd α)
def aWrite (α : aT) (r : Nat) (k : Int32) (v : Int64) : aT := aJoin (aMake (aBack (aNew α) r (7 + a_nd α) k (-1) (-1)) (7 + a_nd α) r k 0 v) r (7 + a_nd α)
def aCount (α : aT) (r : Nat) (k : Int32) (x : Int64) : aT := aJoin (aMake (aBack (aNew α) r (7 + a_nd α) k (-1) (nI r)) (7 + a_nd α) r k 0 (sumN (livA (aNew α) r k (-1) (nI r)) (a_val α) (a_cnt α) + x)) r (7 + a_nd α)
def aClear (α : aT) (r : Nat) (k : Int32) : aT := aJoin (aBack (aNew α) r (7 + a_nd α) k (-1) (-1)) r (7 + a_nd α)
def aTwice (α : aT) (r e : Nat) (put : Bool) : aT := aJoin (if put then aSet (aNew α) (7 + a_nd α) (a_S (aNew α) (7 + a_nd α)) (a_L (aNew α) (7 + a_nd α)) (1 <<< (nI e &&& 31)) (a_T (aNew α) (7 + a_nd α)) (a_M (aNew α) (7 + a_nd α)) else aSet (aNew α) (7 + a_nd α) (a_S (aNew α) (7 + a_nd α)) (a_L (aNew α) (7 + a_nd α)) (a_P (aNew α) (7 + a_nd α)) (1 <<< (nI e &&& 31)) (a_M (aNew α) (7 + a_nd α))) r (7 + a_nd α)
def stampI (t : Int32) (r : Nat) (on : Bool) : Int32 := 1 + (t * 6 + nI r) * 2 + bi on
def aTimed (α : aT) (r e : Nat) (t : Int32) (on : Bool) : aT := aJoin (aSet (aNew α) (7 + a_nd α) (a_S (aNew α) (7 + a_nd α)) (a_L (aNew α) (7 + a_nd α)) (a_P (aNew α) (7 + a_nd α)) (a_T (aNew α) (7 + a_nd α)) (u1 (a_M (aNew α) (7 + a_nd α)) e (stampI t r on))) r (7 + a_nd α)
def aGroup (α : aT) (d e : Nat) : aT := aJoin (aCopy (aNew α) (7 + a_nd α) (7 + d)) (7 + a_nd α) (7 + e)
def aWhole (α : aT) (r : Nat) : aT := aCopy (aNew α) (7 + a_nd α) r
