/-! THE CLAIM OUT OF ONE WALK OF THE LAW'S BODY. Your part is whole_start (and what it stands on); all else here is the same for every law, but numbers. -/
def R_law : String := "DotStoresLaw"
def lw_P (b : Addr) (xs : List Int32) (args : Array Value) (s : State) : Prop := args = #[.ref b] ∧ s.IntsAt b xs ∧ xs.length ≤ 2560 ∧ (Jvm.Cond.and given_1 narrow_1).before args s = true
def lw_Q (_ : Array Value) (s : State) (o : Outcome) (t : State) : Prop := o = .returned (some (.int 1)) ∧ Framed s o t [] 601024 7293033
def lw_Z (below : List Frame) (a : Array Value) (s : State) : State → Prop := fun t => ∃ o, t.status = .running ∧ Ended t below o ∧ lw_Q a s o t
/-- the law's own end, with 1 on the stack, nothing written that was there before, its room as the claim has it -/
theorem lw_ret {p : Program} {l : Launch} {e : Env} {s : State} {m : MethodId} {below : List Frame} {meth : Method} {c : Code} {b : Nat} (hx : p.tables.exec = Jvm.exec) (hb : c.code = code) (hr : meth.sig.returnType = ret) (hlocks : meth.locks = false) {pc : Nat} {H : Heap} {ls : Array Slot} (hdg : decode code pc = .ok (.ireturn, 1)) : W p l e room_1 s m #[Value.ref b] below meth c H [] 601024 7293033 (lw_Z below #[Value.ref b] s) (F0 m pc ls [.int 1]) := by
  intro T hT X
  obtain ⟨fs, hret, hrun, hended, hW, hframe⟩ := X.leave (v := some (.int 1)) (hlocks := hlocks) (fun h => by rw [hr] at h; cases h)
  have hmeth' : T.vm.method? m = some meth := X.method'
  refine ⟨T.setFrames fs, ?_, .returned (some (.int 1)), hrun, hended, rfl, ⟨_, rfl⟩, hW, hframe⟩
  jvm_step X.here [X.here.top, hx, hb, hdg, hmeth', hr, ret, narrow_b1]
  (try refine ⟨rfl, ?_⟩); (try refine ⟨rfl, ?_⟩)
  first | (intro acts; rw [hret _ acts rfl rfl rfl]) | rw [hret _ _ rfl rfl rfl]
  exact Steps.refl _
/-- what holds at the law's entry: the machine, the code, the tables' words (any of lw_tbl by 'hts w (by decide +kernel)'), the script of L ints xs at the cell b, what the Statement gives of the start (any of its parts by flat_of_before) -/
def lw_At (p : Program) (s : State) (m : MethodId) (meth : Method) (c : Code) (b L : Nat) (xs : Nat → Int32) : Prop :=
  p.tables.exec = Jvm.exec ∧ c.code = code ∧ meth.sig.returnType = ret ∧ c.maxLocals = 8 ∧ s.vm.findClass R_law = some m.cls ∧ (∀ w ∈ lw_tbl, w.before #[Value.ref b] s = true) ∧ va_X b L xs s s.heap ∧ b < s.heap.size ∧ meth.locks = false ∧ (Jvm.Cond.and given_1 narrow_1).before #[Value.ref b] s = true
/-! the two sides, side by side -/
theorem inX_kn {τ : gS} {ad : Nat → Nat} {α : aT} (h : RepX τ ad α) {b : Nat} (hb : inX ad (a_nd α) b) : τ.2.1 b ≠ 3 ∧ τ.2.1 b ≠ 6 ∧ ((τ.2.1 b = 4 ∨ τ.2.1 b = 5) → 4 ≤ τ.2.2.1 b ∧ τ.2.2.1 b ≤ 250) := by
  obtain ⟨⟨-, -, hk, ht, hs, -⟩, -⟩ := h
  obtain ⟨-, k0, -, -, -, -, -, -, k1, -, -, k2, -, -, k4, n4⟩ := hk
  obtain ⟨-, t0, -, -, -, -, -, -, -, t1, m1, -, t2, m2, -, t3, m3, -, t4, m4, -, t5, m5, -, t6, m6⟩ := ht
  obtain ⟨i, hi, rfl⟩ := hb
  rcases Nat.lt_or_ge i 11 with q | q
  · rcases (show i = 0 ∨ i = 1 ∨ i = 2 ∨ i = 3 ∨ i = 4 ∨ i = 5 ∨ i = 6 ∨ i = 7 ∨ i = 8 ∨ i = 9 ∨ i = 10 by omega) with q | q | q | q | q | q | q | q | q | q | q <;> subst q <;> (refine ⟨?_, ?_, ?_⟩ <;> omega)
  · obtain ⟨k, hk7, hj⟩ : ∃ k, k < 7 + a_nd α ∧ (i = 11 + 4 * k ∨ i = 12 + 4 * k ∨ i = 13 + 4 * k ∨ i = 14 + 4 * k) := ⟨(i - 11) / 4, by omega, by omega⟩
    obtain ⟨-, s1, -, -, -, -, s2, o2, -, s3, o3, -, s4, o4⟩ := hs k hk7
    rcases hj with q | q | q | q <;> subst q <;> (refine ⟨?_, ?_, ?_⟩ <;> omega)
theorem bm_kn {τ : gS} {bm : Nat → Nat} {β : bT} (h : RepM τ bm β) {i : Nat} (hi : okM i) : τ.2.1 (bm i) = 3 ∨ τ.2.1 (bm i) = 6 ∨ ((τ.2.1 (bm i) = 4 ∨ τ.2.1 (bm i) = 5) ∧ 257 ≤ τ.2.2.1 (bm i)) := by
  obtain ⟨-, -, k0, -, ⟨-, k2, n2⟩, ⟨-, k3, n3⟩, ⟨-, k4, n4⟩, ⟨-, k5, n5⟩, ⟨-, k6, n6⟩, ⟨-, k7, n7⟩, ⟨-, k8, n8⟩, ⟨-, k9, n9⟩, ⟨-, k10, n10⟩, ⟨-, k11, n11⟩, ⟨-, k13, n13⟩⟩ := h.1
  rcases (show i = 0 ∨ i = 2 ∨ i = 3 ∨ i = 4 ∨ i = 5 ∨ i = 6 ∨ i = 7 ∨ i = 8 ∨ i = 9 ∨ i = 10 ∨ i = 11 ∨ i = 13 by omega) with q | q | q | q | q | q | q | q | q | q | q | q <;> subst q <;> omega
theorem dj_m {τ : gS} {ad : Nat → Nat} {α : aT} {bm : Nat → Nat} {β : bT} (h : RepX τ ad α) (hm : RepM τ bm β) {i : Nat} (hi : okM i) : ¬ inX ad (a_nd α) (bm i) := fun q => by
  obtain ⟨a1, a2, a3⟩ := inX_kn h q
  rcases bm_kn hm hi with z | z | ⟨z, z2⟩
  · exact a1 z
  · exact a2 z
  · have := a3 z; omega
theorem dj_o {τ : gS} {ad : Nat → Nat} {α : aT} {oa : Nat} (h : RepX τ ad α) (hk : τ.2.1 oa = 5) (hn : τ.2.2.1 oa = 1) : ¬ inX ad (a_nd α) oa := fun q => by
  have := (inX_kn h q).2.2 (Or.inr hk)
  omega
theorem dj_mo {τ : gS} {bm : Nat → Nat} {β : bT} {oa : Nat} (hm : RepM τ bm β) (hk : τ.2.1 oa = 5) (hn : τ.2.2.1 oa = 1) {i : Nat} (hi : okM i) : bm i ≠ oa := fun q => by
  have := bm_kn hm hi
  rw [q] at this
  omega
/-- at the law's loop: the class's value, the reference's, and that they are alike -/
def LI (τ : gS) (ad : Nat → Nat) (α : aT) (bm : Nat → Nat) (β : bT) (oa : Nat) : Prop := RepX τ ad α ∧ RepM τ bm β ∧ Sim α β ∧ oa ∈ τ.1 ∧ τ.2.1 oa = 5 ∧ τ.2.2.1 oa = 1
section LIs
variable {τ τ1 τ2 : gS} {ad ad1 : Nat → Nat} {α a1 : aT} {bm : Nat → Nat} {β β2 : bT} {oa : Nat}
theorem LI.w (h : LI τ ad α bm β oa) (hs : StpO τ ad α oa τ1 ad1 a1) : RepM τ1 bm β ∧ oa ∈ τ1.1 ∧ τ1.2.1 oa = 5 ∧ τ1.2.2.1 oa = 1 := by
  obtain ⟨h1, h2, h3, h4, h5, h6⟩ := h
  have ho := hs.2.1 oa h4
  exact ⟨repM_keep h2 hs.2.1 (fun i hi q => q.elim (dj_m h1 h2 hi) (dj_mo h2 h5 h6 hi)), ho.1, ho.2.1.trans h5, ho.2.2.1.trans h6⟩
theorem LI.m (h : LI τ ad α bm β oa) (hs : StpO τ ad α oa τ1 ad1 a1) (hm : StpM τ1 bm τ2 β2) (hS : Sim a1 β2) : LI τ2 ad1 a1 bm β2 oa ∧ τ2.2.2.2.2.1 oa = τ1.2.2.2.2.1 oa := by
  obtain ⟨w1, w2, w3, w4⟩ := h.w hs
  have ho := hm.2 oa w2
  have hno : ¬ inM bm oa := fun q => by
    obtain ⟨i, hi, e⟩ := q
    exact dj_mo w1 w3 w4 hi e.symm
  refine ⟨⟨repX_keep hs.1 hm.2 (fun b hb q => ?_), hm.1, hS, ho.1, ho.2.1.trans w3, ho.2.2.1.trans w4⟩, (ho.2.2.2.2 hno).2.1⟩
  obtain ⟨i, hi, e⟩ := q
  subst e
  exact dj_m hs.1 w1 hi hb
end LIs
/-- the four ints behind the op -/
def rdS (Ls : Nat) (xs : Nat → Int32) (i9 v1 v2 v3 v4 : Int32) : Prop := (vp_in (i9 + 1) Ls ∧ xs (i9 + 1).toNatClampNeg = v1) ∧ (vp_in (i9 + 2) Ls ∧ xs (i9 + 2).toNatClampNeg = v2) ∧ (vp_in (i9 + 3) Ls ∧ xs (i9 + 3).toNatClampNeg = v3) ∧ (vp_in (i9 + 4) Ls ∧ xs (i9 + 4).toNatClampNeg = v4)
theorem g_sld {p : Program} {l : Launch} {e : Env} {R : Room} {s : State} {m : MethodId} {args : Array Value} {below : List Frame} {meth : Method} {c : Code} {H : Heap} {locs : List Loc} {cells slots : Nat} {Q : State → Prop} {cc : ByteArray} {pc : Nat} {ls : Array Slot} {rest : List Value} {G : gG} {τ : gS} {b Ls : Nat} {xs : Nat → Int32} (hx : p.tables.exec = Jvm.exec) (hb : c.code = cc) (hX : va_X b Ls xs s s.heap) (hbl : b < s.heap.size) (hG : gw G s.heap.size s.heap τ H locs) {i v : Int32} (hin : vp_in i Ls ∧ xs i.toNatClampNeg = v) (hdg : decode cc pc = .ok (.iaload, 1))
    (kk : W p l e R s m args below meth c H locs cells slots Q (F0 m (pc + 1) ls (.int v :: rest))) : W p l e R s m args below meth c H locs cells slots Q (F0 m pc ls (.int i :: .ref b :: rest)) := by
  obtain ⟨h1, h2⟩ := hin
  subst h2
  exact va_sld hx hb hX hbl (Nat.not_le.mpr hbl) hG.2.2.1 h1 hdg kk
def lwK (p : Program) (l : Launch) (e : Env) (s : State) (m : MethodId) (below : List Frame) (meth : Method) (c : Code) (b : Nat) (G : gG) (bm : Nat → Nat) (oa : Nat) (i9 : Int32) (cells slots : Nat) (Q : State → Prop) : Prop :=
  ∀ (τ : gS) (ad : Nat → Nat) (α : aT) (β : bT) (H : Heap) (locs : List Loc) (ls : Array Slot), LI τ ad α bm β oa → gw G s.heap.size s.heap τ H locs → lv_has ls 8 [(0, .ref b), (1, .ref (ad 0)), (2, .ref (bm 0)), (3, .ref oa), (4, .int i9)] → W p l e room_1 s m #[Value.ref b] below meth c H locs (cells + 12) (slots + 100) Q (F0 m 1911 ls [])
