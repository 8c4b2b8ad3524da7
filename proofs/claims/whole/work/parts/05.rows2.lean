/-! copies of whole rows, and new cells -/
def g_cp {α : Type} (f : Nat → Nat → α) (a0 a N : Nat) : Nat → Nat → α := fun b j => if b = a ∧ j < N then f a0 j else f b j
theorem g_cp_same {α : Type} (f : Nat → Nat → α) (a0 a N : Nat) : g_cp f a0 a N a = fun j => if j < N then f a0 j else f a j := by
  funext j; simp [g_cp]
theorem g_cp_other {α : Type} (f : Nat → Nat → α) (a0 : Nat) {a b : Nat} (N : Nat) (h : ¬ b = a) : g_cp f a0 a N b = f b := by
  funext j; simp [g_cp, h]
theorem g_cp_at {α : Type} (f : Nat → Nat → α) (a0 a : Nat) {N j : Nat} (h : j < N) : g_cp f a0 a N a j = f a0 j := by simp [g_cp, h]
theorem g_cp_b {α : Type} (f : Nat → Nat → α) (a0 : Nat) {a b : Nat} (N j : Nat) (h : b ≠ a) : g_cp f a0 a N b j = f b j := by simp [g_cp, h]
theorem g_cpy {α : Type} (f g : Nat → α) (N : Nat) : va_cpy f g 0 0 N = fun j => if j < N then f j else g j := by
  funext j; simp [va_cpy]
theorem up_l {L : List Nat} {q b : Nat} (h : b ∈ L) : b ∈ L ++ [q] := List.mem_append_left _ h
theorem up_q {L : List Nat} {q : Nat} : q ∈ L ++ [q] := List.mem_append_right _ (List.mem_singleton.mpr rfl)
theorem up_ne {L : List Nat} {q b : Nat} (hq : q ∉ L) (hb : b ∈ L) : b ≠ q := fun e => hq (e ▸ hb)
theorem up_k {α : Type} {L : List Nat} {q b : Nat} {f : Nat → α} {x y : α} (hq : q ∉ L) (hb : b ∈ L) (h : f b = y) : va_up f q x b = y := by rw [va_up_ne _ _ (up_ne hq hb)]; exact h
theorem up_f {α : Type} {L : List Nat} {q b i : Nat} {f : Nat → Nat → α} {x : Nat → α} {y : α} (hq : q ∉ L) (hb : b ∈ L) (h : f b i = y) : va_up f q x b i = y := by rw [va_up_ne _ _ (up_ne hq hb)]; exact h
theorem g_v4 (G : gG) {K n : Nat → Nat} {rI : Nat → Nat → Int32} {rJ : Nat → Nat → Int64} {rQ : Nat → Nat → Option Nat} {fI : Nat → Nat → Int32} {fR : Nat → Nat → Option Nat} {a : Nat} (h : K a = 4) (a0 N b : Nat) : va_up (g_F G K n rI rJ rQ fI fR) a (.inl (G.2.1, n a, .inl (va_cpy (rI a0) (rI a) 0 0 N))) b = g_F G K n (g_cp rI a0 a N) rJ rQ fI fR b := by
  by_cases hb : b = a
  · subst hb; simp [g_F, h, va_up, g_cp_same, g_cpy]
  · simp [g_F, va_up, g_cp_other _ _ _ hb, hb]
theorem g_v5 (G : gG) {K n : Nat → Nat} {rI : Nat → Nat → Int32} {rJ : Nat → Nat → Int64} {rQ : Nat → Nat → Option Nat} {fI : Nat → Nat → Int32} {fR : Nat → Nat → Option Nat} {a : Nat} (h : K a = 5) (a0 N b : Nat) : va_up (g_F G K n rI rJ rQ fI fR) a (.inl (G.2.2.1, n a, .inr (.inl (va_cpy (rJ a0) (rJ a) 0 0 N)))) b = g_F G K n rI (g_cp rJ a0 a N) rQ fI fR b := by
  by_cases hb : b = a
  · subst hb; simp [g_F, h, va_up, g_cp_same, g_cpy]
  · simp [g_F, va_up, g_cp_other _ _ _ hb, hb]
theorem g_n4 (G : gG) {K n : Nat → Nat} {rI : Nat → Nat → Int32} {rJ : Nat → Nat → Int64} {rQ : Nat → Nat → Option Nat} {fI : Nat → Nat → Int32} {fR : Nat → Nat → Option Nat} (q N b : Nat) : va_up (g_F G K n rI rJ rQ fI fR) q (.inl (G.2.1, N, .inl (fun _ => 0))) b = g_F G (va_up K q 4) (va_up n q N) (va_up rI q (fun _ => 0)) rJ rQ fI fR b := by
  by_cases hb : b = q
  · subst hb; simp [g_F, va_up]
  · simp [g_F, va_up, hb]
theorem g_n5 (G : gG) {K n : Nat → Nat} {rI : Nat → Nat → Int32} {rJ : Nat → Nat → Int64} {rQ : Nat → Nat → Option Nat} {fI : Nat → Nat → Int32} {fR : Nat → Nat → Option Nat} (q N b : Nat) : va_up (g_F G K n rI rJ rQ fI fR) q (.inl (G.2.2.1, N, .inr (.inl (fun _ => 0)))) b = g_F G (va_up K q 5) (va_up n q N) rI (va_up rJ q (fun _ => 0)) rQ fI fR b := by
  by_cases hb : b = q
  · subst hb; simp [g_F, va_up]
  · simp [g_F, va_up, hb]
theorem g_n6 (G : gG) {K n : Nat → Nat} {rI : Nat → Nat → Int32} {rJ : Nat → Nat → Int64} {rQ : Nat → Nat → Option Nat} {fI : Nat → Nat → Int32} {fR : Nat → Nat → Option Nat} (q N b : Nat) : va_up (g_F G K n rI rJ rQ fI fR) q (.inl (G.2.2.2.1, N, .inl (fun _ => 0))) b = g_F G (va_up K q 6) (va_up n q N) (va_up rI q (fun _ => 0)) rJ rQ fI fR b := by
  by_cases hb : b = q
  · subst hb; simp [g_F, va_up]
  · simp [g_F, va_up, hb]
theorem g_n7 (G : gG) {K n : Nat → Nat} {rI : Nat → Nat → Int32} {rJ : Nat → Nat → Int64} {rQ : Nat → Nat → Option Nat} {fI : Nat → Nat → Int32} {fR : Nat → Nat → Option Nat} (q N b : Nat) : va_up (g_F G K n rI rJ rQ fI fR) q (.inl (G.2.2.2.2, N, .inr (.inr (.inr (.inr (fun _ => none)))))) b = g_F G (va_up K q 7) (va_up n q N) rI rJ (va_up rQ q (fun _ => none)) fI fR b := by
  by_cases hb : b = q
  · subst hb; simp [g_F, va_up]
  · simp [g_F, va_up, hb]
theorem g_n0 (G : gG) {K n : Nat → Nat} {rI : Nat → Nat → Int32} {rJ : Nat → Nat → Int64} {rQ : Nat → Nat → Option Nat} {fI : Nat → Nat → Int32} {fR : Nat → Nat → Option Nat} (q b : Nat) : va_up (g_F G K n rI rJ rQ fI fR) q (.inr (0, [.null, .null, .null, .null, .null, .null, .int 0])) b = g_F G (va_up K q 0) n rI rJ rQ (va_up fI q (fun _ => 0)) (va_up fR q (fun _ => none)) b := by
  by_cases hb : b = q
  · subst hb; simp [g_F, va_up, show va_rf none = Value.null from rfl]
  · simp [g_F, va_up, hb]
theorem g_n1 (G : gG) {K n : Nat → Nat} {rI : Nat → Nat → Int32} {rJ : Nat → Nat → Int64} {rQ : Nat → Nat → Option Nat} {fI : Nat → Nat → Int32} {fR : Nat → Nat → Option Nat} (q b : Nat) : va_up (g_F G K n rI rJ rQ fI fR) q (.inr (1, [.null, .null, .null, .int 0, .int 0])) b = g_F G (va_up K q 1) n rI rJ rQ (va_up fI q (fun _ => 0)) (va_up fR q (fun _ => none)) b := by
  by_cases hb : b = q
  · subst hb; simp [g_F, va_up, show va_rf none = Value.null from rfl]
  · simp [g_F, va_up, hb]
theorem g_n2 (G : gG) {K n : Nat → Nat} {rI : Nat → Nat → Int32} {rJ : Nat → Nat → Int64} {rQ : Nat → Nat → Option Nat} {fI : Nat → Nat → Int32} {fR : Nat → Nat → Option Nat} (q b : Nat) : va_up (g_F G K n rI rJ rQ fI fR) q (.inr (2, [.null, .null, .null, .null, .null, .int 0])) b = g_F G (va_up K q 2) n rI rJ rQ (va_up fI q (fun _ => 0)) (va_up fR q (fun _ => none)) b := by
  by_cases hb : b = q
  · subst hb; simp [g_F, va_up, show va_rf none = Value.null from rfl]
  · simp [g_F, va_up, hb]
theorem g_n3 (G : gG) {K n : Nat → Nat} {rI : Nat → Nat → Int32} {rJ : Nat → Nat → Int64} {rQ : Nat → Nat → Option Nat} {fI : Nat → Nat → Int32} {fR : Nat → Nat → Option Nat} (q b : Nat) : va_up (g_F G K n rI rJ rQ fI fR) q (.inr (3, [.int 0, .int 0, .null, .null, .null, .null, .null, .null, .null, .null, .null, .null, .int 0, .null])) b = g_F G (va_up K q 3) n rI rJ rQ (va_up fI q (fun _ => 0)) (va_up fR q (fun _ => none)) b := by
  by_cases hb : b = q
  · subst hb; simp [g_F, va_up, show va_rf none = Value.null from rfl]
  · simp [g_F, va_up, hb]
theorem g_push {G : gG} {base : Nat} {H0 H1 : Heap} {L : List Nat} {locs : List Loc} {F F2 : Nat → va_E} {q : Nat} {e : va_E} (hb : base ≤ H0.size) (hu : ∀ b, va_up F q e b = F2 b)
    (h1 : va_P G.1 vwCl (va_pl L F ++ [(q, e)]) H1) (h2 : va_D (g_A base) (va_pl L F ++ [(q, e)])) (h3 : va_S (g_A base) H0 H1 locs) : q ∉ L ∧ va_P G.1 vwCl (va_pl (L ++ [q]) F2) H1 ∧ va_D (g_A base) (va_pl (L ++ [q]) F2) ∧ va_S (g_A base) H0 H1 locs ∧ base ≤ H0.size := by
  have hq : q ∉ L := va_pl_fresh2 (X := []) (f := F) (e := e) h2
  have e1 : va_pl L F ++ [(q, e)] = va_pl (L ++ [q]) F2 := (va_pl_push (e := e) hq).trans (va_pl_congr hu)
  rw [e1] at h1 h2
  exact ⟨hq, h1, h2, h3, hb⟩
theorem g_Ap {base : Nat} {H0 : Heap} (h : base ≤ H0.size) : ∀ q, H0.size ≤ q → g_A base q := fun _ hq => Nat.le_trans h hq
section GN
variable {p : Program} {l : Launch} {e : Env} {R : Room} {s : State} {m : MethodId} {args : Array Value} {below : List Frame} {meth : Method} {c : Code} {H : Heap} {locs : List Loc} {cells slots : Nat} {Q : State → Prop}
variable {cc : ByteArray} {pc : Nat} {ls : Array Slot} {rest : List Value} {G : gG} {base : Nat} {H0 : Heap} {L : List Nat} {K n : Nat → Nat} {rI : Nat → Nat → Int32} {rJ : Nat → Nat → Int64} {rQ : Nat → Nat → Option Nat} {fI : Nat → Nat → Int32} {fR : Nat → Nat → Option Nat} {a : Nat}
theorem g_copyi (hx : p.tables.exec = Jvm.exec) (hb : c.code = cc) (hml : c.maxLocals = ls.size) {own : String} {index : Nat} (hown : s.vm.findClass own = some m.cls) (hlink : (Cond.methodLink own index arraycopyName).before args s = true) (hnat : (Cond.native arraycopyName).before args s = true) (hstat : (Cond.static arraycopyName).before args s = true) (hini : (Cond.initialized "java/lang/System").before args s = true)
    (hK : g_K G s) (hG : gw G base H0 (L, K, n, rI, rJ, rQ, fI, fR) H locs) {a0 : Nat} (hL0 : a0 ∈ L) (hk0 : K a0 = 4) (hL : a ∈ L) (hk : K a = 4) {N : Nat} (hn0 : n a0 = N) (hn : n a = N) {nn : Int32} (hN : nn = nI N) (hN31 : N < 2 ^ 31) (hframes : 1 ≤ R.frames) (hlocals : (rest.map fun v => v.category).sum + (nativeFrameWords "java/lang/System" "arraycopy" 5 + 11) ≤ R.locals) (hdg : decode cc pc = .ok (.invokestatic index, 3))
    (kk : ∀ (H1 : Heap) (locs1 : List Loc), gw G base H0 (L, K, n, g_cp rI a0 a N, rJ, rQ, fI, fR) H1 locs1 → W p l e R s m args below meth c H1 locs1 cells slots Q (F0 m (pc + 3) ls rest)) : W p l e R s m args below meth c H locs cells slots Q (F0 m pc ls (.int nn :: .int 0 :: .ref a :: .int 0 :: .ref a0 :: rest)) := by
  obtain ⟨k0, h0⟩ := va_pl_get (X := []) (f := g_F G K n rI rJ rQ fI fR) hL0
  obtain ⟨k1, h1⟩ := va_pl_get (X := []) (f := g_F G K n rI rJ rQ fI fR) hL
  have hc : nn.toNatClampNeg = N := by rw [hN]; exact nI_clamp hN31
  refine va_copyi hx hb hml hown hlink hnat hstat hini hK hG.1 hG.2.1 hG.2.2.1 k0 k1 0 0 (ty := .int) (h0.trans (congrArg (fun e => some (a0, e)) (g_k4 G hk0))) (h1.trans (congrArg (fun e => some (a, e)) (g_k4 G hk))) rfl rfl rfl (by decide) (by decide) (by rw [hN]; exact nI_pos hN31) (by rw [hc, hn0]; exact Nat.le_of_eq (Nat.zero_add N)) (by rw [hc, hn]; exact Nat.le_of_eq (Nat.zero_add N)) (fun i _ => rfl) hframes hlocals hdg (fun H1 locs1 q1 q2 q3 => kk H1 locs1 ?_)
  rw [hc] at q1 q2
  exact g_set hG.2.2.2 hG.2.1 hL h1 (g_v4 G hk a0 N) q1 q2 q3
theorem g_copyl (hx : p.tables.exec = Jvm.exec) (hb : c.code = cc) (hml : c.maxLocals = ls.size) {own : String} {index : Nat} (hown : s.vm.findClass own = some m.cls) (hlink : (Cond.methodLink own index arraycopyName).before args s = true) (hnat : (Cond.native arraycopyName).before args s = true) (hstat : (Cond.static arraycopyName).before args s = true) (hini : (Cond.initialized "java/lang/System").before args s = true)
    (hK : g_K G s) (hG : gw G base H0 (L, K, n, rI, rJ, rQ, fI, fR) H locs) {a0 : Nat} (hL0 : a0 ∈ L) (hk0 : K a0 = 5) (hL : a ∈ L) (hk : K a = 5) {N : Nat} (hn0 : n a0 = N) (hn : n a = N) {nn : Int32} (hN : nn = nI N) (hN31 : N < 2 ^ 31) (hframes : 1 ≤ R.frames) (hlocals : (rest.map fun v => v.category).sum + (nativeFrameWords "java/lang/System" "arraycopy" 5 + 11) ≤ R.locals) (hdg : decode cc pc = .ok (.invokestatic index, 3))
    (kk : ∀ (H1 : Heap) (locs1 : List Loc), gw G base H0 (L, K, n, rI, g_cp rJ a0 a N, rQ, fI, fR) H1 locs1 → W p l e R s m args below meth c H1 locs1 cells slots Q (F0 m (pc + 3) ls rest)) : W p l e R s m args below meth c H locs cells slots Q (F0 m pc ls (.int nn :: .int 0 :: .ref a :: .int 0 :: .ref a0 :: rest)) := by
  obtain ⟨k0, h0⟩ := va_pl_get (X := []) (f := g_F G K n rI rJ rQ fI fR) hL0
  obtain ⟨k1, h1⟩ := va_pl_get (X := []) (f := g_F G K n rI rJ rQ fI fR) hL
  have hc : nn.toNatClampNeg = N := by rw [hN]; exact nI_clamp hN31
  refine va_copyl hx hb hml hown hlink hnat hstat hini hK hG.1 hG.2.1 hG.2.2.1 k0 k1 1 1 (ty := .long) (h0.trans (congrArg (fun e => some (a0, e)) (g_k5 G hk0))) (h1.trans (congrArg (fun e => some (a, e)) (g_k5 G hk))) rfl rfl rfl (by decide) (by decide) (by rw [hN]; exact nI_pos hN31) (by rw [hc, hn0]; exact Nat.le_of_eq (Nat.zero_add N)) (by rw [hc, hn]; exact Nat.le_of_eq (Nat.zero_add N)) (fun i _ => rfl) hframes hlocals hdg (fun H1 locs1 q1 q2 q3 => kk H1 locs1 ?_)
  rw [hc] at q1 q2
  exact g_set hG.2.2.2 hG.2.1 hL h1 (g_v5 G hk a0 N) q1 q2 q3
theorem g_newa4 (hx : p.tables.exec = Jvm.exec) (hb : c.code = cc) (harr : (Cond.arrayClass .int).before args s = true) (hK : g_K G s) (hG : gw G base H0 (L, K, n, rI, rJ, rQ, fI, fR) H locs) {nn : Int32} (N : Nat) (hN : nn = nI N) (hN31 : N < 100000) (hcells : cells + 1 ≤ R.cells) (hslots : slots + N ≤ R.slots) (hdg : decode cc pc = .ok (.newarray .int, 2))
    (kk : ∀ (q : Nat) (H : Heap), q ∉ L → gw G base H0 (L ++ [q], va_up K q 4, va_up n q N, va_up rI q (fun _ => 0), rJ, rQ, fI, fR) H locs → W p l e R s m args below meth c H locs (cells + 1) (slots + N) Q (F0 m (pc + 2) ls (.ref q :: rest))) : W p l e R s m args below meth c H locs cells slots Q (F0 m pc ls (.int nn :: rest)) := by
  refine va_newa (atype := .int) (ty := .int) (a0 := (N, .inl (fun _ => 0))) hx hb harr rfl hK hG.1 hG.2.1 hG.2.2.1 (g_Ap hG.2.2.2) (fun _ => rfl) (by rw [hN]; exact nI_pos (by omega)) (by rw [hN]; exact nI_clamp (by omega)) (by show N * 4 ≤ _; omega) hcells hslots hdg (fun q cA H1 k1 h1 h2 h3 => ?_)
  have e1 : s.vm.findClass ("[" ++ (.int : FieldType).toString) = some cA := (k1.2 4 _ rfl).2
  have e2 : s.vm.findClass ("[" ++ (.int : FieldType).toString) = some G.2.1 := (hK.2 0 _ rfl).2
  obtain rfl : G.2.1 = cA := Option.some.inj (e2.symm.trans e1)
  obtain ⟨hq, h4⟩ := g_push hG.2.2.2 (g_n4 G q N) h1 h2 h3
  exact kk q H1 hq h4
theorem g_newa5 (hx : p.tables.exec = Jvm.exec) (hb : c.code = cc) (harr : (Cond.arrayClass .long).before args s = true) (hK : g_K G s) (hG : gw G base H0 (L, K, n, rI, rJ, rQ, fI, fR) H locs) {nn : Int32} (N : Nat) (hN : nn = nI N) (hN31 : N < 100000) (hcells : cells + 1 ≤ R.cells) (hslots : slots + N ≤ R.slots) (hdg : decode cc pc = .ok (.newarray .long, 2))
    (kk : ∀ (q : Nat) (H : Heap), q ∉ L → gw G base H0 (L ++ [q], va_up K q 5, va_up n q N, rI, va_up rJ q (fun _ => 0), rQ, fI, fR) H locs → W p l e R s m args below meth c H locs (cells + 1) (slots + N) Q (F0 m (pc + 2) ls (.ref q :: rest))) : W p l e R s m args below meth c H locs cells slots Q (F0 m pc ls (.int nn :: rest)) := by
  refine va_newa (atype := .long) (ty := .long) (a0 := (N, .inr (.inl (fun _ => 0)))) hx hb harr rfl hK hG.1 hG.2.1 hG.2.2.1 (g_Ap hG.2.2.2) (fun _ => rfl) (by rw [hN]; exact nI_pos (by omega)) (by rw [hN]; exact nI_clamp (by omega)) (by show N * 8 ≤ _; omega) hcells hslots hdg (fun q cA H1 k1 h1 h2 h3 => ?_)
  have e1 : s.vm.findClass ("[" ++ (.long : FieldType).toString) = some cA := (k1.2 4 _ rfl).2
  have e2 : s.vm.findClass ("[" ++ (.long : FieldType).toString) = some G.2.2.1 := (hK.2 1 _ rfl).2
  obtain rfl : G.2.2.1 = cA := Option.some.inj (e2.symm.trans e1)
  obtain ⟨hq, h4⟩ := g_push hG.2.2.2 (g_n5 G q N) h1 h2 h3
  exact kk q H1 hq h4
theorem g_newa6 (hx : p.tables.exec = Jvm.exec) (hb : c.code = cc) (harr : (Cond.arrayClass .boolean).before args s = true) (hK : g_K G s) (hG : gw G base H0 (L, K, n, rI, rJ, rQ, fI, fR) H locs) {nn : Int32} (N : Nat) (hN : nn = nI N) (hN31 : N < 100000) (hcells : cells + 1 ≤ R.cells) (hslots : slots + N ≤ R.slots) (hdg : decode cc pc = .ok (.newarray .boolean, 2))
    (kk : ∀ (q : Nat) (H : Heap), q ∉ L → gw G base H0 (L ++ [q], va_up K q 6, va_up n q N, va_up rI q (fun _ => 0), rJ, rQ, fI, fR) H locs → W p l e R s m args below meth c H locs (cells + 1) (slots + N) Q (F0 m (pc + 2) ls (.ref q :: rest))) : W p l e R s m args below meth c H locs cells slots Q (F0 m pc ls (.int nn :: rest)) := by
  refine va_newa (atype := .boolean) (ty := .boolean) (a0 := (N, .inl (fun _ => 0))) hx hb harr rfl hK hG.1 hG.2.1 hG.2.2.1 (g_Ap hG.2.2.2) (fun _ => rfl) (by rw [hN]; exact nI_pos (by omega)) (by rw [hN]; exact nI_clamp (by omega)) (by show N * 1 ≤ _; omega) hcells hslots hdg (fun q cA H1 k1 h1 h2 h3 => ?_)
  have e1 : s.vm.findClass ("[" ++ (.boolean : FieldType).toString) = some cA := (k1.2 4 _ rfl).2
  have e2 : s.vm.findClass ("[" ++ (.boolean : FieldType).toString) = some G.2.2.2.1 := (hK.2 2 _ rfl).2
  obtain rfl : G.2.2.2.1 = cA := Option.some.inj (e2.symm.trans e1)
  obtain ⟨hq, h4⟩ := g_push hG.2.2.2 (g_n6 G q N) h1 h2 h3
  exact kk q H1 hq h4
theorem g_newq (hx : p.tables.exec = Jvm.exec) (hb : c.code = cc) {own : String} {index : Nat} (hown : s.vm.findClass own = some m.cls) (hcl : (Cond.classLink own index RX1).before args s = true) (hov : va_AO RX1 s) (hK : g_K G s) (hG : gw G base H0 (L, K, n, rI, rJ, rQ, fI, fR) H locs) {nn : Int32} (N : Nat) (hN : nn = nI N) (hN31 : N < 100000) (hcells : cells + 1 ≤ R.cells) (hslots : slots + N ≤ R.slots) (hdg : decode cc pc = .ok (.anewarray index, 3))
    (kk : ∀ (q : Nat) (H : Heap), q ∉ L → gw G base H0 (L ++ [q], va_up K q 7, va_up n q N, rI, rJ, va_up rQ q (fun _ => none), fI, fR) H locs → W p l e R s m args below meth c H locs (cells + 1) (slots + N) Q (F0 m (pc + 3) ls (.ref q :: rest))) : W p l e R s m args below meth c H locs cells slots Q (F0 m pc ls (.int nn :: rest)) := by
  refine va_newq hx hb hown hcl hov hK hG.1 hG.2.1 hG.2.2.1 (g_Ap hG.2.2.2) (N' := N) (by rw [hN]; exact nI_pos (by omega)) (by rw [hN]; exact nI_clamp (by omega)) (by omega) hcells hslots hdg (fun q cA H1 k1 h1 h2 h3 => ?_)
  obtain ⟨_, _, _, _, _, e1⟩ := (k1.2 4 _ rfl).2
  obtain ⟨_, _, _, _, _, e2⟩ := (hK.2 3 _ rfl).2
  obtain rfl : G.2.2.2.2 = cA := Option.some.inj (e2.symm.trans e1)
  obtain ⟨hq, h4⟩ := g_push hG.2.2.2 (g_n7 G q N) h1 h2 h3
  exact kk q H1 hq h4
theorem g_new0 (hx : p.tables.exec = Jvm.exec) (hb : c.code = cc) {own : String} {index : Nat} {Ts : List Cond} (hts : ∀ w ∈ Ts, w.before args s = true) (hin : ∀ w ∈ wsX00, w ∈ Ts) (hown : s.vm.findClass own = some m.cls) (hcl : (Cond.classLink own index RX0).before args s = true) (hinst : (Cond.instantiable RX0 7).before args s = true) (hini : (Cond.initialized RX0).before args s = true)
    (hK : g_K G s) (hG : gw G base H0 (L, K, n, rI, rJ, rQ, fI, fR) H locs) (hcells : cells + 1 ≤ R.cells) (hslots : slots + 7 ≤ R.slots) (hdg : decode cc pc = .ok (.new index, 3))
    (kk : ∀ (q : Nat) (H : Heap), q ∉ L → gw G base H0 (L ++ [q], va_up K q 0, n, rI, rJ, rQ, va_up fI q (fun _ => 0), va_up fR q (fun _ => none)) H locs → W p l e R s m args below meth c H locs (cells + 1) (slots + 7) Q (F0 m (pc + 3) ls (.ref q :: rest))) : W p l e R s m args below meth c H locs cells slots Q (F0 m pc ls rest) := by
  refine va_new (ci := 0) (fs := [.null, .null, .null, .null, .null, .null, .int 0]) (C := RX0) (T := TX0) (N := 7) hx hb hts hin tyX0 tyX0_ok hown hcl hinst hini hK hG.1 hG.2.1 hG.2.2.1 (g_Ap hG.2.2.2) rfl (fun j hj => by rcases (show j = 0 ∨ j = 1 ∨ j = 2 ∨ j = 3 ∨ j = 4 ∨ j = 5 ∨ j = 6 by omega) with rfl | rfl | rfl | rfl | rfl | rfl | rfl <;> rfl) hcells hslots hdg (fun q H1 h1 h2 h3 => ?_)
  obtain ⟨hq, h4⟩ := g_push hG.2.2.2 (g_n0 G q) h1 h2 h3
  exact kk q H1 hq h4
theorem g_new1 (hx : p.tables.exec = Jvm.exec) (hb : c.code = cc) {own : String} {index : Nat} {Ts : List Cond} (hts : ∀ w ∈ Ts, w.before args s = true) (hin : ∀ w ∈ wsX10, w ∈ Ts) (hown : s.vm.findClass own = some m.cls) (hcl : (Cond.classLink own index RX1).before args s = true) (hinst : (Cond.instantiable RX1 5).before args s = true) (hini : (Cond.initialized RX1).before args s = true)
    (hK : g_K G s) (hG : gw G base H0 (L, K, n, rI, rJ, rQ, fI, fR) H locs) (hcells : cells + 1 ≤ R.cells) (hslots : slots + 5 ≤ R.slots) (hdg : decode cc pc = .ok (.new index, 3))
    (kk : ∀ (q : Nat) (H : Heap), q ∉ L → gw G base H0 (L ++ [q], va_up K q 1, n, rI, rJ, rQ, va_up fI q (fun _ => 0), va_up fR q (fun _ => none)) H locs → W p l e R s m args below meth c H locs (cells + 1) (slots + 5) Q (F0 m (pc + 3) ls (.ref q :: rest))) : W p l e R s m args below meth c H locs cells slots Q (F0 m pc ls rest) := by
  refine va_new (ci := 1) (fs := [.null, .null, .null, .int 0, .int 0]) (C := RX1) (T := TX1) (N := 5) hx hb hts hin tyX1 tyX1_ok hown hcl hinst hini hK hG.1 hG.2.1 hG.2.2.1 (g_Ap hG.2.2.2) rfl (fun j hj => by rcases (show j = 0 ∨ j = 1 ∨ j = 2 ∨ j = 3 ∨ j = 4 by omega) with rfl | rfl | rfl | rfl | rfl <;> rfl) hcells hslots hdg (fun q H1 h1 h2 h3 => ?_)
  obtain ⟨hq, h4⟩ := g_push hG.2.2.2 (g_n1 G q) h1 h2 h3
  exact kk q H1 hq h4
theorem g_new2 (hx : p.tables.exec = Jvm.exec) (hb : c.code = cc) {own : String} {index : Nat} {Ts : List Cond} (hts : ∀ w ∈ Ts, w.before args s = true) (hin : ∀ w ∈ wsX20, w ∈ Ts) (hown : s.vm.findClass own = some m.cls) (hcl : (Cond.classLink own index RX2).before args s = true) (hinst : (Cond.instantiable RX2 6).before args s = true) (hini : (Cond.initialized RX2).before args s = true)
    (hK : g_K G s) (hG : gw G base H0 (L, K, n, rI, rJ, rQ, fI, fR) H locs) (hcells : cells + 1 ≤ R.cells) (hslots : slots + 6 ≤ R.slots) (hdg : decode cc pc = .ok (.new index, 3))
    (kk : ∀ (q : Nat) (H : Heap), q ∉ L → gw G base H0 (L ++ [q], va_up K q 2, n, rI, rJ, rQ, va_up fI q (fun _ => 0), va_up fR q (fun _ => none)) H locs → W p l e R s m args below meth c H locs (cells + 1) (slots + 6) Q (F0 m (pc + 3) ls (.ref q :: rest))) : W p l e R s m args below meth c H locs cells slots Q (F0 m pc ls rest) := by
  refine va_new (ci := 2) (fs := [.null, .null, .null, .null, .null, .int 0]) (C := RX2) (T := TX2) (N := 6) hx hb hts hin tyX2 tyX2_ok hown hcl hinst hini hK hG.1 hG.2.1 hG.2.2.1 (g_Ap hG.2.2.2) rfl (fun j hj => by rcases (show j = 0 ∨ j = 1 ∨ j = 2 ∨ j = 3 ∨ j = 4 ∨ j = 5 by omega) with rfl | rfl | rfl | rfl | rfl | rfl <;> rfl) hcells hslots hdg (fun q H1 h1 h2 h3 => ?_)
  obtain ⟨hq, h4⟩ := g_push hG.2.2.2 (g_n2 G q) h1 h2 h3
  exact kk q H1 hq h4
theorem g_new3 (hx : p.tables.exec = Jvm.exec) (hb : c.code = cc) {own : String} {index : Nat} {Ts : List Cond} (hts : ∀ w ∈ Ts, w.before args s = true) (hin : ∀ w ∈ wsX30, w ∈ Ts) (hown : s.vm.findClass own = some m.cls) (hcl : (Cond.classLink own index RX3).before args s = true) (hinst : (Cond.instantiable RX3 14).before args s = true) (hini : (Cond.initialized RX3).before args s = true)
    (hK : g_K G s) (hG : gw G base H0 (L, K, n, rI, rJ, rQ, fI, fR) H locs) (hcells : cells + 1 ≤ R.cells) (hslots : slots + 14 ≤ R.slots) (hdg : decode cc pc = .ok (.new index, 3))
    (kk : ∀ (q : Nat) (H : Heap), q ∉ L → gw G base H0 (L ++ [q], va_up K q 3, n, rI, rJ, rQ, va_up fI q (fun _ => 0), va_up fR q (fun _ => none)) H locs → W p l e R s m args below meth c H locs (cells + 1) (slots + 14) Q (F0 m (pc + 3) ls (.ref q :: rest))) : W p l e R s m args below meth c H locs cells slots Q (F0 m pc ls rest) := by
  refine va_new (ci := 3) (fs := [.int 0, .int 0, .null, .null, .null, .null, .null, .null, .null, .null, .null, .null, .int 0, .null]) (C := RX3) (T := TX3) (N := 14) hx hb hts hin tyX3 tyX3_ok hown hcl hinst hini hK hG.1 hG.2.1 hG.2.2.1 (g_Ap hG.2.2.2) rfl (fun j hj => by rcases (show j = 0 ∨ j = 1 ∨ j = 2 ∨ j = 3 ∨ j = 4 ∨ j = 5 ∨ j = 6 ∨ j = 7 ∨ j = 8 ∨ j = 9 ∨ j = 10 ∨ j = 11 ∨ j = 12 ∨ j = 13 by omega) with rfl | rfl | rfl | rfl | rfl | rfl | rfl | rfl | rfl | rfl | rfl | rfl | rfl | rfl <;> rfl) hcells hslots hdg (fun q H1 h1 h2 h3 => ?_)
  obtain ⟨hq, h4⟩ := g_push hG.2.2.2 (g_n3 G q) h1 h2 h3
  exact kk q H1 hq h4
end GN
