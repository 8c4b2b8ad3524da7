/-! the law's calls: what they need of the start, what they leave -/
/-- which of the four classes is which -/
def g_N (U : State) : Prop := (va_Nw (.castable "java/lang/IndexOutOfBoundsException" "java/lang/IndexOutOfBoundsException") U ∧ va_Nw (.castable "java/lang/UnsupportedOperationException" "java/lang/UnsupportedOperationException") U ∧ va_Nw (.castable "java/lang/IllegalStateException" "java/lang/IllegalStateException") U ∧ va_Nw (.castable "java/lang/IllegalArgumentException" "java/lang/IllegalArgumentException") U) ∧
  va_Nc "java/lang/UnsupportedOperationException" "java/lang/IndexOutOfBoundsException" U ∧ va_Nc "java/lang/IllegalStateException" "java/lang/IndexOutOfBoundsException" U ∧ va_Nc "java/lang/IllegalStateException" "java/lang/UnsupportedOperationException" U ∧ va_Nc "java/lang/IllegalArgumentException" "java/lang/IndexOutOfBoundsException" U ∧ va_Nc "java/lang/IllegalStateException" "java/lang/IllegalArgumentException" U
theorem g_N.on {s U : State} (h : g_N s) (hW : s.WarmedH U.vm) : g_N U := by
  obtain ⟨⟨a1, a2, a3, a4⟩, b1, b2, b3, b4, b5⟩ := h
  exact ⟨⟨va_Nw.warmC hW a1, va_Nw.warmC hW a2, va_Nw.warmC hW a3, va_Nw.warmC hW a4⟩, va_Nc.moved hW.alike b1, va_Nc.moved hW.alike b2, va_Nc.moved hW.alike b3, va_Nc.moved hW.alike b4, va_Nc.moved hW.alike b5⟩
def g_Py (G : gG) (base : Nat) (τ : gS) (U : State) : Prop := g_Px G base τ U ∧ g_N U
theorem g_blindy {G : gG} {base : Nat} {τ : gS} {av : List Value} : FrameBlind (va_Pc av (g_Py G base τ)) := fun a U g mk q => by
  obtain ⟨q0, q1, q2⟩ := q
  obtain ⟨b0, b1⟩ := g_blindx (av := av) a U g mk ⟨q0, q1⟩
  exact ⟨b0, b1, q2.on (State.WarmedH.refl U)⟩
theorem g_psy {G : gG} {base : Nat} {τ : gS} {s : State} {H : Heap} {locs : List Loc} {As : List Value} (hK : g_K G s) (hX : g_X base s) (hN : g_N s) (hG : gw G base s.heap τ H locs) : PreS s H (va_Pc As (g_Py G base τ)) As :=
  ⟨g_blindy, fun U hU hW => ⟨rfl, ((g_psx (As := As) hK hX hG).2 U hU hW).2, hN.on hW⟩⟩
/-- a method with an exception table that throws nothing -/
theorem met_ofWH {l : Launch} {y : MethodName} {ws ws' : List Cond} {rm : Room} {Pc : Array Value → State → Prop} {Qc : Array Value → State → Outcome → State → Prop} {mc ms : Nat} {free : Addr → Prop} {cc : ByteArray} {maxL : Nat} {ret : Option FieldType} {hh : List (Nat × Nat × Nat × Nat)}
    (hy : plainName y.cls = true) (hw : ws = Cond.codeWith y cc maxL ret hh :: ws')
    (body : ∀ p e s m args below meth c s₁, BodyLoose p l y (headSpec ws rm) cc maxL ret e s m args below meth c s₁ → c.maxLocals = maxL → Pc args s →
      W p l e (headSpec ws rm).room s m args below meth c s.heap [] 0 0 (MQ below Qc args s mc ms free) (entryFrame m args maxL)) : Met l y ws rm Pc Qc mc ms free := by
  refine MetFree.of_bodyS (code := cc) (maxLocals := maxL) (ret := ret) hy ?_ ?_
  · intro args s m h hn
    obtain ⟨m9, meth, c, hn9, h1, h2, h3, h4, -, h5, h6, -⟩ := Cond.codeWith_spec (atoms_spec (ws := ws) h _ (by rw [hw]; exact List.mem_cons_self))
    cases hn.symm.trans hn9
    exact ⟨meth, c, h1, h2, h3, h4, h5, h6⟩
  · intro p e s m args below meth c s₁ B hml hP _
    have hh0 : s₁.heap = s.heap := by rw [B.state]; rfl
    obtain ⟨t, a1, o, b1, b2, b3⟩ := body p e s m args below meth c s₁ B hml hP s₁ hh0 (Stand.of_body B)
    exact ⟨t, o, a1, b1, b2, ⟨b3.1, b3.2⟩⟩
/-- a call whose exception may leave another pool -/
theorem g_xlS {p : Program} {l : Launch} {e : Env} {R : Room} {s : State} {m : MethodId} {args : Array Value} {below : List Frame} {meth : Method} {c : Code} {H : Heap} {locs : List Loc} {cells slots : Nat} {Q : State → Prop} {pc : Nat} {ls : Array Slot} {rest st0 : List Value} {G : gG} {base : Nat} {H0 : Heap} {τ : gS} {mc ms : Nat} {a : Array Value} {S SX : Type} {σ : S → gS} {σx : SX → gS} {PX : String → SX → Prop} {post : Int64 → S → Prop}
    (hr : vx_Run p l e R s m args below meth c H locs cells slots mc ms (F0 m pc ls st0) rest (g_Ql G base σ post a) (g_XS G base σx PX) (g_A base)) (hG : gw G base H0 τ H locs)
    (kx : ∀ (E : String) (ce : Cell) (q9 : Addr) (v : SX) (H1 : Heap) (locs1 : List Loc), PX E v → gw G base H0 (σx v) H1 locs1 → H1[q9]? = some ce → ce.vm = .none → s.vm.findClass E = some ce.cls → vx_W p l e R s m args below meth c H1 locs1 (cells + mc) (slots + ms) Q (F0 m pc ls rest) q9)
    (kk : ∀ (r : Int64) (u : S) (H1 : Heap) (locs1 : List Loc), post r u → gw G base H0 (σ u) H1 locs1 → W p l e R s m args below meth c H1 locs1 (cells + mc) (slots + ms) Q (F0 m (pc + 3) ls (.long r :: rest))) : W p l e R s m args below meth c H locs cells slots Q (F0 m pc ls st0) :=
  vx_calll hr hG.2.2.1 (fun _ _ h => h) (fun _ h => h) (fun _ _ h => h) (fun E ce q9 u t H1 locs1 ht _ _ hB _ _ hS hce hcv hcl => kx E ce q9 u H1 locs1 hB.1 ⟨by rw [← ht]; exact hB.2.1, hB.2.2, hS, hG.2.2.2⟩ hce hcv hcl)
    (fun r u t H1 locs1 ht _ hp hB _ _ hS => kk r u H1 locs1 hp ⟨by rw [← ht]; exact hB.1, hB.2, hS, hG.2.2.2⟩)
/-! what stays -/
theorem repX_keep {τ τ' : gS} {ad : Nat → Nat} {α : aT} {X : Nat → Prop} (h : RepX τ ad α) (hk : Keep τ τ' X) (hX : ∀ b, inX ad (a_nd α) b → ¬ X b) : RepX τ' ad α := by
  obtain ⟨⟨s1, s2, s3, s4, s5, s6, s7, s8⟩, h2, h3, ⟨d1, d2, d3⟩, h5⟩ := id h
  have c : ∀ i, i < 11 + 4 * (7 + a_nd α) → τ'.2.2.2.1 (ad i) = τ.2.2.2.1 (ad i) ∧ τ'.2.2.2.2.1 (ad i) = τ.2.2.2.2.1 (ad i) ∧ τ'.2.2.2.2.2.1 (ad i) = τ.2.2.2.2.2.1 (ad i) ∧ τ'.2.2.2.2.2.2.1 (ad i) = τ.2.2.2.2.2.2.1 (ad i) := fun i hi => (hk _ (shx_mem h.1 hi)).2.2.2.2 (hX _ ⟨i, hi, rfl⟩)
  have ext : Ext τ.1 τ'.1 τ.2.1 τ'.2.1 τ.2.2.1 τ'.2.2.1 τ.2.2.2.2.2.2.2 τ'.2.2.2.2.2.2.2 := fun b hb => ⟨(hk b hb).1, (hk b hb).2.1, (hk b hb).2.2.1, (hk b hb).2.2.2.1⟩
  refine ⟨⟨s1, s2, isDk_ext ext s3, isDt_ext ext s4, fun k hk => isSt_ext ext (s5 k hk), fun r hr => ?_, fun r hr => ?_, fun r h1 h2 => ?_⟩, ?_, h3, ⟨?_, fun r hr => ?_, fun i hi => ?_⟩, fun k hk => ?_⟩
  · rw [(c 1 (by omega)).2.2.1]; exact s6 r hr
  · rw [(c 2 (by omega)).2.2.1]; exact s7 r hr
  · rw [(c 2 (by omega)).2.2.1]; exact s8 r h1 h2
  · rw [(c 0 (by omega)).2.2.2]; exact h2
  · rw [(c 3 (by omega)).2.2.2]; exact d1
  · rw [(c 10 (by omega)).1]; exact d2 r hr
  · rw [(c 5 (by omega)).1, (c 6 (by omega)).1, (c 7 (by omega)).1, (c 8 (by omega)).1, (c 9 (by omega)).2.1]; exact d3 i hi
  · obtain ⟨k1, k2, k3, k4⟩ := h5 k hk
    refine ⟨fun i hi => ?_, ?_, ?_, fun e he => ?_⟩
    · rw [(c (12 + 4 * k) (by omega)).2.1, (c (13 + 4 * k) (by omega)).2.1]; exact k1 i hi
    · rw [(c (11 + 4 * k) (by omega)).2.2.2]; exact k2
    · rw [(c (11 + 4 * k) (by omega)).2.2.2]; exact k3
    · rw [(c (14 + 4 * k) (by omega)).1]; exact k4 e he
theorem isMd_mem {τ : gS} {bm : Nat → Nat} (h : isMd τ.1 τ.2.1 τ.2.2.1 τ.2.2.2.2.2.2.2 bm) {i : Nat} (hi : okM i) : bm i ∈ τ.1 := by
  obtain ⟨-, m0, -, -, ⟨m2, -⟩, ⟨m3, -⟩, ⟨m4, -⟩, ⟨m5, -⟩, ⟨m6, -⟩, ⟨m7, -⟩, ⟨m8, -⟩, ⟨m9, -⟩, ⟨m10, -⟩, ⟨m11, -⟩, ⟨m13, -⟩⟩ := h
  rcases (show i = 0 ∨ i = 2 ∨ i = 3 ∨ i = 4 ∨ i = 5 ∨ i = 6 ∨ i = 7 ∨ i = 8 ∨ i = 9 ∨ i = 10 ∨ i = 11 ∨ i = 13 by omega) with q | q | q | q | q | q | q | q | q | q | q | q <;> subst q <;> assumption
theorem repM_keep {τ τ' : gS} {bm : Nat → Nat} {β : bT} {X : Nat → Prop} (h : RepM τ bm β) (hk : Keep τ τ' X) (hX : ∀ i, okM i → ¬ X (bm i)) : RepM τ' bm β := by
  obtain ⟨m1, m2, m3, m4, m5, m6⟩ := id h
  have c : ∀ i, okM i → τ'.2.2.2.1 (bm i) = τ.2.2.2.1 (bm i) ∧ τ'.2.2.2.2.1 (bm i) = τ.2.2.2.2.1 (bm i) ∧ τ'.2.2.2.2.2.1 (bm i) = τ.2.2.2.2.2.1 (bm i) ∧ τ'.2.2.2.2.2.2.1 (bm i) = τ.2.2.2.2.2.2.1 (bm i) := fun i hi => (hk _ (isMd_mem m1 hi)).2.2.2.2 (hX i hi)
  have e : ∀ i, okM i → bm i ∈ τ'.1 ∧ τ'.2.1 (bm i) = τ.2.1 (bm i) ∧ τ'.2.2.1 (bm i) = τ.2.2.1 (bm i) ∧ τ'.2.2.2.2.2.2.2 (bm i) = τ.2.2.2.2.2.2.2 (bm i) := fun i hi => ⟨(hk _ (isMd_mem m1 hi)).1, (hk _ (isMd_mem m1 hi)).2.1, (hk _ (isMd_mem m1 hi)).2.2.1, (hk _ (isMd_mem m1 hi)).2.2.2.1⟩
  have g : ∀ i a b, okM i → (bm i ∈ τ.1 ∧ τ.2.1 (bm i) = a ∧ τ.2.2.1 (bm i) = b) → (bm i ∈ τ'.1 ∧ τ'.2.1 (bm i) = a ∧ τ'.2.2.1 (bm i) = b) := fun i a b hi q => ⟨(e i hi).1, (e i hi).2.1.trans q.2.1, (e i hi).2.2.1.trans q.2.2⟩
  obtain ⟨i1, i2, i3, i4, a2, a3, a4, a5, a6, a7, a8, a9, a10, a11, a13⟩ := m1
  refine ⟨⟨i1, (e 0 (by decide)).1, (e 0 (by decide)).2.1.trans i3, ?_, g 2 _ _ (by decide) a2, g 3 _ _ (by decide) a3, g 4 _ _ (by decide) a4, g 5 _ _ (by decide) a5, g 6 _ _ (by decide) a6, g 7 _ _ (by decide) a7, g 8 _ _ (by decide) a8, g 9 _ _ (by decide) a9, g 10 _ _ (by decide) a10, g 11 _ _ (by decide) a11, g 13 _ _ (by decide) a13⟩, ?_, fun k hk i hi => ?_, fun k hk => ?_, fun k hk i hi => ?_, fun d hd => ?_⟩
  · rw [(e 0 (by decide)).2.2.2]; exact i4
  · rw [(c 0 (by decide)).2.2.2]; exact m2
  · rw [(c 2 (by decide)).2.1, (c 3 (by decide)).2.1]; exact m3 k hk i hi
  · rw [(c 4 (by decide)).1, (c 5 (by decide)).1]; exact m4 k hk
  · rw [(c 6 (by decide)).1, (c 7 (by decide)).1, (c 8 (by decide)).1]; exact m5 k hk i hi
  · rw [(c 9 (by decide)).1, (c 10 (by decide)).1, (c 11 (by decide)).2.1]; exact m6 d hd
/-- a step of the class, and the row out -/
def StpO (τ : gS) (ad : Nat → Nat) (α : aT) (oa : Nat) (τ' : gS) (ad' : Nat → Nat) (α' : aT) : Prop := RepX τ' ad' α' ∧ Keep τ τ' (fun b => inX ad (a_nd α) b ∨ b = oa) ∧ (∀ b, b ∈ τ.1 → inX ad' (a_nd α') b → inX ad (a_nd α) b) ∧ ad' 0 = ad 0
def uO (τ : gS) (oa : Nat) (y : Int64) : gS := (τ.1, τ.2.1, τ.2.2.1, τ.2.2.2.1, g_up τ.2.2.2.2.1 oa 0 y, τ.2.2.2.2.2.1, τ.2.2.2.2.2.2.1, τ.2.2.2.2.2.2.2)
theorem StpX.rf {τ : gS} {ad : Nat → Nat} {α : aT} (h : RepX τ ad α) : StpX τ ad α τ ad α := ⟨h, Keep.rf, fun _ _ h => h, rfl⟩
theorem stpO_id {τ τ' : gS} {ad ad' : Nat → Nat} {α α' : aT} {oa : Nat} (h : StpX τ ad α τ' ad' α') : StpO τ ad α oa τ' ad' α' :=
  ⟨h.1, fun b hb => ⟨(h.2.1 b hb).1, (h.2.1 b hb).2.1, (h.2.1 b hb).2.2.1, (h.2.1 b hb).2.2.2.1, fun q => (h.2.1 b hb).2.2.2.2 (fun z => q (Or.inl z))⟩, h.2.2⟩
theorem stpO_of {τ τ' : gS} {ad ad' : Nat → Nat} {α α' : aT} {oa : Nat} {y : Int64} (h : StpX τ ad α τ' ad' α') (ho : oa ∈ τ.1) (hn : ¬ inX ad (a_nd α) oa) : StpO τ ad α oa (uO τ' oa y) ad' α' := by
  have k1 : Keep τ' (uO τ' oa y) (fun b => b = oa) := fun b hb => ⟨hb, rfl, rfl, rfl, fun q => ⟨rfl, g_up_other _ _ _ q, rfl, rfl⟩⟩
  refine ⟨repX_keep h.1 k1 (fun b hb q => hn (by subst q; exact h.2.2.1 b ho hb)), ?_, h.2.2⟩
  have k2 := (stpO_id (oa := oa) h).2.1
  exact k2.tr k1 (fun b hb q z => q (Or.inr z))
/-- what a call of the law's own leaves: the code it answers, a step of the class, and the row out -/
abbrev wQ (G : gG) (base : Nat) (τ : gS) (ad : Nat → Nat) (α : aT) (oa : Nat) (P : Nat → Int64 → aT → Prop) : Array Value → State → Outcome → State → Prop :=
  g_Qi G base (fun u : gS × (Nat → Nat) × aT => u.1) (fun x u => ∃ c, x = nI c ∧ StpO τ ad α oa u.1 u.2.1 u.2.2 ∧ P c (u.1.2.2.2.2.1 oa 0) u.2.2)
