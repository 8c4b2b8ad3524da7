/-! calls over the pool; exceptions leave the pool as it was -/
theorem g_ps {G : gG} {base : Nat} {H0 H : Heap} {τ : gS} {locs : List Loc} {s : State} {As : List Value} (hK : g_K G s) (hG : gw G base H0 τ H locs) : PreS s H (va_Pc As (g_Pr G base τ)) As :=
  ⟨g_blind, fun U hU hW => ⟨rfl, ⟨by rw [hU]; exact hG.1, hG.2.1⟩, by rw [hU]; exact Nat.le_trans hG.2.2.2 hG.2.2.1.1, g_K.moved hW.alike hK⟩⟩
section GPV
variable {G : gG} {base : Nat} {H0 H : Heap} {L : List Nat} {K n : Nat → Nat} {rI : Nat → Nat → Int32} {rJ : Nat → Nat → Int64} {rQ : Nat → Nat → Option Nat} {fI : Nat → Nat → Int32} {fR : Nat → Nat → Option Nat} {locs : List Loc} {s : State} {As : List Value} {b : Nat}
theorem g_rv0 (hK : g_K G s) (hG : gw G base H0 (L, K, n, rI, rJ, rQ, fI, fR) H locs) (hL : b ∈ L) (hk : K b = 0) : ∃ cell : Cell, H[b]? = some cell ∧ cell.vm.isStatics = false ∧ s.vm.findClass RX0 = some cell.cls := by
  obtain ⟨k0, h0⟩ := va_pl_get (X := []) (f := g_F G K n rI rJ rQ fI fR) hL
  exact va_recv (q := (RX0, TX0, 7)) hK hG.1 (ci := 0) (q0 := k0) rfl (h0.trans (congrArg (fun e => some (b, e)) (g_k0 G hk)))
theorem g_rv1 (hK : g_K G s) (hG : gw G base H0 (L, K, n, rI, rJ, rQ, fI, fR) H locs) (hL : b ∈ L) (hk : K b = 1) : ∃ cell : Cell, H[b]? = some cell ∧ cell.vm.isStatics = false ∧ s.vm.findClass RX1 = some cell.cls := by
  obtain ⟨k0, h0⟩ := va_pl_get (X := []) (f := g_F G K n rI rJ rQ fI fR) hL
  exact va_recv (q := (RX1, TX1, 5)) hK hG.1 (ci := 1) (q0 := k0) rfl (h0.trans (congrArg (fun e => some (b, e)) (g_k1 G hk)))
theorem g_rv2 (hK : g_K G s) (hG : gw G base H0 (L, K, n, rI, rJ, rQ, fI, fR) H locs) (hL : b ∈ L) (hk : K b = 2) : ∃ cell : Cell, H[b]? = some cell ∧ cell.vm.isStatics = false ∧ s.vm.findClass RX2 = some cell.cls := by
  obtain ⟨k0, h0⟩ := va_pl_get (X := []) (f := g_F G K n rI rJ rQ fI fR) hL
  exact va_recv (q := (RX2, TX2, 6)) hK hG.1 (ci := 2) (q0 := k0) rfl (h0.trans (congrArg (fun e => some (b, e)) (g_k2 G hk)))
theorem g_rv3 (hK : g_K G s) (hG : gw G base H0 (L, K, n, rI, rJ, rQ, fI, fR) H locs) (hL : b ∈ L) (hk : K b = 3) : ∃ cell : Cell, H[b]? = some cell ∧ cell.vm.isStatics = false ∧ s.vm.findClass RX3 = some cell.cls := by
  obtain ⟨k0, h0⟩ := va_pl_get (X := []) (f := g_F G K n rI rJ rQ fI fR) hL
  exact va_recv (q := (RX3, TX3, 14)) hK hG.1 (ci := 3) (q0 := k0) rfl (h0.trans (congrArg (fun e => some (b, e)) (g_k3 G hk)))
theorem g_pv0 (hK : g_K G s) (hG : gw G base H0 (L, K, n, rI, rJ, rQ, fI, fR) H locs) (hL : b ∈ L) (hk : K b = 0) : PreV s H RX0 b (va_Pc (.ref b :: As) (g_Pr G base (L, K, n, rI, rJ, rQ, fI, fR))) As := ⟨g_blind, g_rv0 hK hG hL hk, (g_ps hK hG).2⟩
theorem g_pv1 (hK : g_K G s) (hG : gw G base H0 (L, K, n, rI, rJ, rQ, fI, fR) H locs) (hL : b ∈ L) (hk : K b = 1) : PreV s H RX1 b (va_Pc (.ref b :: As) (g_Pr G base (L, K, n, rI, rJ, rQ, fI, fR))) As := ⟨g_blind, g_rv1 hK hG hL hk, (g_ps hK hG).2⟩
theorem g_pv2 (hK : g_K G s) (hG : gw G base H0 (L, K, n, rI, rJ, rQ, fI, fR) H locs) (hL : b ∈ L) (hk : K b = 2) : PreV s H RX2 b (va_Pc (.ref b :: As) (g_Pr G base (L, K, n, rI, rJ, rQ, fI, fR))) As := ⟨g_blind, g_rv2 hK hG hL hk, (g_ps hK hG).2⟩
theorem g_pv3 (hK : g_K G s) (hG : gw G base H0 (L, K, n, rI, rJ, rQ, fI, fR) H locs) (hL : b ∈ L) (hk : K b = 3) : PreV s H RX3 b (va_Pc (.ref b :: As) (g_Pr G base (L, K, n, rI, rJ, rQ, fI, fR))) As := ⟨g_blind, g_rv3 hK hG hL hk, (g_ps hK hG).2⟩
end GPV
/-- a contract's end: the answer, and the pool behind it -/
abbrev g_Qi {S : Type} (G : gG) (base : Nat) (σ : S → gS) (post : Int32 → S → Prop) : Array Value → State → Outcome → State → Prop := va_Qi post (fun u t => g_at G base (σ u) t) (g_A base)
abbrev g_Ql {S : Type} (G : gG) (base : Nat) (σ : S → gS) (post : Int64 → S → Prop) : Array Value → State → Outcome → State → Prop := va_Ql post (fun u t => g_at G base (σ u) t) (g_A base)
abbrev g_Qv {S : Type} (G : gG) (base : Nat) (σ : S → gS) (post : S → Prop) : Array Value → State → Outcome → State → Prop := va_Qv post (fun u t => g_at G base (σ u) t) (g_A base)
/-- an answer that is an object: its address among what is told -/
def g_Qr {S : Type} (G : gG) (base : Nat) (σ : S → gS) (post : Nat → S → Prop) : Array Value → State → Outcome → State → Prop := fun _ st oc t => (∃ (r : Nat) (u : S), oc = .returned (some (.ref r)) ∧ post r u ∧ g_at G base (σ u) t) ∧ va_F (g_A base) st t
section GC
variable {p : Program} {l : Launch} {e : Env} {R : Room} {s : State} {m : MethodId} {args : Array Value} {below : List Frame} {meth : Method} {c : Code} {H : Heap} {locs : List Loc} {cells slots : Nat} {Q : State → Prop}
variable {pc : Nat} {ls : Array Slot} {rest st0 : List Value} {G : gG} {base : Nat} {H0 : Heap} {τ : gS} {mc ms : Nat} {a : Array Value}
theorem g_calli {S : Type} {σ : S → gS} {post : Int32 → S → Prop} (hr : va_Run p l e R s m args below meth c H locs cells slots mc ms (F0 m pc ls st0) rest (g_Qi G base σ post a) (g_A base)) (hG : gw G base H0 τ H locs)
    (kk : ∀ (r : Int32) (u : S) (H1 : Heap) (locs1 : List Loc), post r u → gw G base H0 (σ u) H1 locs1 → W p l e R s m args below meth c H1 locs1 (cells + mc) (slots + ms) Q (F0 m (pc + 3) ls (.int r :: rest))) : W p l e R s m args below meth c H locs cells slots Q (F0 m pc ls st0) :=
  va_calli hr hG.2.2.1 (fun _ _ h => h) (fun _ h => h) (fun r u t H1 locs1 ht _ hp hB _ _ hS => kk r u H1 locs1 hp ⟨by rw [← ht]; exact hB.1, hB.2, hS, hG.2.2.2⟩)
theorem g_calll {S : Type} {σ : S → gS} {post : Int64 → S → Prop} (hr : va_Run p l e R s m args below meth c H locs cells slots mc ms (F0 m pc ls st0) rest (g_Ql G base σ post a) (g_A base)) (hG : gw G base H0 τ H locs)
    (kk : ∀ (r : Int64) (u : S) (H1 : Heap) (locs1 : List Loc), post r u → gw G base H0 (σ u) H1 locs1 → W p l e R s m args below meth c H1 locs1 (cells + mc) (slots + ms) Q (F0 m (pc + 3) ls (.long r :: rest))) : W p l e R s m args below meth c H locs cells slots Q (F0 m pc ls st0) :=
  va_calll hr hG.2.2.1 (fun _ _ h => h) (fun _ h => h) (fun r u t H1 locs1 ht _ hp hB _ _ hS => kk r u H1 locs1 hp ⟨by rw [← ht]; exact hB.1, hB.2, hS, hG.2.2.2⟩)
theorem g_callv {S : Type} {σ : S → gS} {post : S → Prop} (hr : va_Run p l e R s m args below meth c H locs cells slots mc ms (F0 m pc ls st0) rest (g_Qv G base σ post a) (g_A base)) (hG : gw G base H0 τ H locs)
    (kk : ∀ (u : S) (H1 : Heap) (locs1 : List Loc), post u → gw G base H0 (σ u) H1 locs1 → W p l e R s m args below meth c H1 locs1 (cells + mc) (slots + ms) Q (F0 m (pc + 3) ls rest)) : W p l e R s m args below meth c H locs cells slots Q (F0 m pc ls st0) :=
  va_callv hr hG.2.2.1 (fun _ _ h => h) (fun _ h => h) (fun u t H1 locs1 ht _ hp hB _ _ hS => kk u H1 locs1 hp ⟨by rw [← ht]; exact hB.1, hB.2, hS, hG.2.2.2⟩)
/-! exceptions -/
abbrev g_bad : List Cond := (vx_atS RX2 165 "java/lang/IndexOutOfBoundsException" ["java/lang/RuntimeException", "java/lang/Exception"]).filter (fun w => !goodWord w) ++ (vx_atS RX2 176 "java/lang/UnsupportedOperationException" ["java/lang/RuntimeException", "java/lang/Exception"]).filter (fun w => !goodWord w) ++ (vx_atS RX2 190 "java/lang/IllegalStateException" ["java/lang/RuntimeException", "java/lang/Exception"]).filter (fun w => !goodWord w) ++ (vx_atS RX2 182 "java/lang/IllegalArgumentException" ["java/lang/RuntimeException", "java/lang/Exception"]).filter (fun w => !goodWord w) ++ [.methodLinkNest RX2 20 yX0_init "DotStores", .methodLinkNest RX2 25 yX1_init "DotStores"]
/-- words that warmer tables keep -/
def g_wok : Cond → Bool
  | .castable _ _ => true
  | .declares _ => true
  | .methodLinkNest _ _ _ _ => true
  | w => goodWord w
theorem g_bad_ok : ∀ w ∈ g_bad, g_wok w = true := by decide +kernel
theorem g_warm {w : Cond} (hw : g_wok w = true) {s U : State} (hW : s.WarmedH U.vm) (h : va_Nw w s) : va_Nw w U := by
  cases w <;> first | exact va_Nw.warmC hW h | exact va_Nw.warmD hW h | exact va_Nw.warmM hW h | exact word_at hW (good_of_word hw) h
/-- what a throw needs of the start: the two statics of Throwable, the texts, and the words that aren't good ones -/
def g_X (base : Nat) (U : State) : Prop := vx_Zq Bundle.tN "UNASSIGNED_STACK" Bundle.steD (g_A base) U U.heap ∧ vx_Zq Bundle.tN "SUPPRESSED_SENTINEL" Bundle.listD (g_A base) U U.heap ∧
  (∃ sa, vk_R RX2 163 "no such replica" sa U) ∧ (∃ sa, vk_R RX2 168 "no such delta" sa U) ∧ (∃ sa, vk_R RX2 170 "no such key, part, element, value or question" sa U) ∧ (∃ sa, vk_R RX2 174 "the key is of another kind" sa U) ∧ (∃ sa, vk_R RX2 180 "no such time" sa U) ∧ (∃ sa, vk_R RX2 188 "the replica has no dot any more" sa U) ∧ (∃ sa, vk_R RX2 191 "there are as many deltas as may be" sa U) ∧
  (∀ w ∈ g_bad, va_Nw w U) ∧ va_AO RX1 U
theorem g_str {o t : String} {k : Nat} {s U : State} (hW : s.WarmedH U.vm) (h : ∃ sa, vk_R o k t sa s) : ∃ sa, vk_R o k t sa U := by
  obtain ⟨sa, h⟩ := h
  exact ⟨sa, vk_R.warm hW h⟩
theorem g_X.on {s U : State} {H1 : Heap} (h : g_X base s) (hS : va_S (g_A base) s.heap H1 locs) (hU : U.heap = H1) (hW : s.WarmedH U.vm) : g_X base U := by
  obtain ⟨h1, h2, h3, h4, h5, h6, h7, h8, h9, h10, h11⟩ := h
  subst hU
  exact ⟨vx_Zq.moved hW.alike (h1.kept hS.2.1), vx_Zq.moved hW.alike (h2.kept hS.2.1), g_str hW h3, g_str hW h4, g_str hW h5, g_str hW h6, g_str hW h7, g_str hW h8, g_str hW h9, fun w hw => g_warm (g_bad_ok w hw) hW (h10 w hw), va_AO.moved hW.alike h11⟩
/-- the start of a method that may throw -/
def g_Px (G : gG) (base : Nat) (τ : gS) (U : State) : Prop := g_Pr G base τ U ∧ g_X base U
theorem g_calling {U : State} {g : JFrame} {mk : MethodId} {a : Array Value} (h : g_X base U) : g_X base (U.calling g mk a) := by
  refine g_X.on (s := U) (H1 := U.heap) (locs := []) h va_S.rf rfl ?_
  exact State.WarmedH.refl U
theorem g_blindx {av : List Value} : FrameBlind (va_Pc av (g_Px G base τ)) := fun a U g mk q => by
  obtain ⟨q0, q1, q2⟩ := q
  obtain ⟨b0, b1⟩ := g_blind (av := av) a U g mk ⟨q0, q1⟩
  exact ⟨b0, b1, g_calling q2⟩
theorem g_psx {As : List Value} (hK : g_K G s) (hX : g_X base s) (hG : gw G base s.heap τ H locs) : PreS s H (va_Pc As (g_Px G base τ)) As :=
  ⟨g_blindx, fun U hU hW => ⟨rfl, ((g_ps (As := As) hK hG).2 U hU hW).2, hX.on hG.2.2.1 hU hW⟩⟩
/-- what an exception tells: its class, and that the pool is as it was -/
abbrev g_XC (G : gG) (base : Nat) (τ : gS) (PX : String → Prop) : String → State → State → Prop := vx_X (S := Unit) (fun _ => True) (fun E _ t => PX E ∧ g_at G base τ t) (g_A base)
theorem g_out {Qc : Array Value → State → Outcome → State → Prop} {PX : String → Prop} {E : String} {ce : Cell} {q : Addr} {mc ms : Nat} (hnt : ∀ x ∈ c.exceptionTable.toList, False) (hlocks : meth.locks = false) (hce : H[q]? = some ce) (hcv : ce.vm = .none) (hcl : s.vm.findClass E = some ce.cls) (px : PX E)
    (hG : gw G base s.heap τ H locs) (hc : cells ≤ mc) (hs : slots ≤ ms) : vx_W p l e R s m args below meth c H locs cells slots (vx_MQ below Qc (g_XC G base τ PX) args s mc ms (g_A base)) (F0 m pc ls rest) q :=
  vx_out (fun x hx => (hnt x hx).elim) hlocks hce hcv hcl (fun t ht _ => ⟨(), trivial, ⟨px, hG.at ht⟩, hG.2.2.1.F ht⟩) hG.2.2.1.2.2 hc hs
theorem g_throw {cc : ByteArray} {Qc : Array Value → State → Outcome → State → Prop} {PX : String → Prop} {cls text : String} {ik is ic mc ms : Nat} (hx : p.tables.exec = Jvm.exec) (hb : c.code = cc) (hl0 : l.stackTraces = false) (hown : s.vm.findClass RX2 = some m.cls) (hcls : Bundle.fit cls = true)
    (hk : (Cond.classLink RX2 ik cls).before args s = true) (hini : (Cond.initialized cls).before args s = true) (hstr : ∃ sa, vk_R RX2 is text sa s) (hat : ∀ w ∈ (vx_atS RX2 ic cls ["java/lang/RuntimeException", "java/lang/Exception"]).filter goodWord, w.before args s = true)
    (hbad : ∀ w ∈ (vx_atS RX2 ic cls ["java/lang/RuntimeException", "java/lang/Exception"]).filter (fun w => !goodWord w), w ∈ g_bad)
    (hgood : ∀ w ∈ Cond.classLink RX2 ik cls :: Cond.initialized cls :: vx_atS RX2 ic cls ["java/lang/RuntimeException", "java/lang/Exception"], vx_ot w = true)
    (hX : g_X base s) (hG : gw G base s.heap τ H locs) (hsize : ls.size = c.maxLocals)
    (d0 : decode cc pc = .ok (.new ik, 3)) (d3 : decode cc (pc + 3) = .ok (.dup, 1)) (d4 : decode cc (pc + 4) = .ok (.ldc is, 2)) (d6 : decode cc (pc + 6) = .ok (.invokespecial ic, 3)) (d9 : decode cc (pc + 9) = .ok (.athrow, 1))
    (hnt : ∀ x ∈ c.exceptionTable.toList, False) (hRframes : 5 < R.frames) (hRlocals : (rest.map fun v => v.category).sum + 82 ≤ R.locals) (hRcells : cells + 1 ≤ R.cells) (hRslots : slots + 6 ≤ R.slots) (hlocks : meth.locks = false)
    (px : PX cls) (hc : cells + 1 ≤ mc) (hs : slots + 6 ≤ ms) :
    W p l e R s m args below meth c H locs cells slots (vx_MQ below Qc (g_XC G base τ PX) args s mc ms (g_A base)) (F0 m pc ls rest) := by
  obtain ⟨sa, hstr⟩ := hstr
  refine vx_throwS (names := ["java/lang/RuntimeException", "java/lang/Exception"]) (A := g_A base) hx hb hl0 hown hcls (by decide +kernel) hk hini hstr (vx_hat hat hbad (fun w hw => va_Nw.use (A := args) ?_ (hX.2.2.2.2.2.2.2.2.2.1 w hw))) hgood hX.1 hX.2.1 hG.2.2.1 hsize d0 d3 d4 d6 d9 (fun x hx => (hnt x hx).elim) hRframes hRlocals hRcells hRslots hlocks ?_ hG.2.2.1.2.2 hc hs
  · exact (show ∀ w ∈ g_bad, w.onTables = true by decide +kernel) w hw
  · intro t hvm hz hk
    refine ⟨(), trivial, ⟨px, ?_, hG.2.1⟩, ?_⟩
    · intro k q hq
      exact (hG.1 k q hq).kept (hk q.1 (hG.1 k q hq).lt)
    · exact ⟨Nat.le_trans hG.2.2.1.1 hz, fun q h1 h2 => by rw [hk q (Nat.lt_of_lt_of_le h1 hG.2.2.1.1)]; exact hG.2.2.1.2.1 q h1 h2⟩
section GX
variable {S : Type} {σ : S → gS} {PX : String → Prop} {τ1 : gS}
theorem g_xi {post : Int32 → S → Prop} (hr : vx_Run p l e R s m args below meth c H locs cells slots mc ms (F0 m pc ls st0) rest (g_Qi G base σ post a) (g_XC G base τ1 PX) (g_A base)) (hG : gw G base H0 τ H locs)
    (kx : ∀ (E : String) (ce : Cell) (q9 : Addr) (H1 : Heap) (locs1 : List Loc), PX E → gw G base H0 τ1 H1 locs1 → H1[q9]? = some ce → ce.vm = .none → s.vm.findClass E = some ce.cls → vx_W p l e R s m args below meth c H1 locs1 (cells + mc) (slots + ms) Q (F0 m pc ls rest) q9)
    (kk : ∀ (r : Int32) (u : S) (H1 : Heap) (locs1 : List Loc), post r u → gw G base H0 (σ u) H1 locs1 → W p l e R s m args below meth c H1 locs1 (cells + mc) (slots + ms) Q (F0 m (pc + 3) ls (.int r :: rest))) : W p l e R s m args below meth c H locs cells slots Q (F0 m pc ls st0) :=
  vx_calli hr hG.2.2.1 (fun _ _ h => h) (fun _ h => h) (fun _ _ h => h) (fun E ce q9 u t H1 locs1 ht _ _ hB _ _ hS hce hcv hcl => kx E ce q9 H1 locs1 hB.1 ⟨by rw [← ht]; exact hB.2.1, hB.2.2, hS, hG.2.2.2⟩ hce hcv hcl)
    (fun r u t H1 locs1 ht _ hp hB _ _ hS => kk r u H1 locs1 hp ⟨by rw [← ht]; exact hB.1, hB.2, hS, hG.2.2.2⟩)
theorem g_xl {post : Int64 → S → Prop} (hr : vx_Run p l e R s m args below meth c H locs cells slots mc ms (F0 m pc ls st0) rest (g_Ql G base σ post a) (g_XC G base τ1 PX) (g_A base)) (hG : gw G base H0 τ H locs)
    (kx : ∀ (E : String) (ce : Cell) (q9 : Addr) (H1 : Heap) (locs1 : List Loc), PX E → gw G base H0 τ1 H1 locs1 → H1[q9]? = some ce → ce.vm = .none → s.vm.findClass E = some ce.cls → vx_W p l e R s m args below meth c H1 locs1 (cells + mc) (slots + ms) Q (F0 m pc ls rest) q9)
    (kk : ∀ (r : Int64) (u : S) (H1 : Heap) (locs1 : List Loc), post r u → gw G base H0 (σ u) H1 locs1 → W p l e R s m args below meth c H1 locs1 (cells + mc) (slots + ms) Q (F0 m (pc + 3) ls (.long r :: rest))) : W p l e R s m args below meth c H locs cells slots Q (F0 m pc ls st0) :=
  vx_calll hr hG.2.2.1 (fun _ _ h => h) (fun _ h => h) (fun _ _ h => h) (fun E ce q9 u t H1 locs1 ht _ _ hB _ _ hS hce hcv hcl => kx E ce q9 H1 locs1 hB.1 ⟨by rw [← ht]; exact hB.2.1, hB.2.2, hS, hG.2.2.2⟩ hce hcv hcl)
    (fun r u t H1 locs1 ht _ hp hB _ _ hS => kk r u H1 locs1 hp ⟨by rw [← ht]; exact hB.1, hB.2, hS, hG.2.2.2⟩)
theorem g_xv {post : S → Prop} (hr : vx_Run p l e R s m args below meth c H locs cells slots mc ms (F0 m pc ls st0) rest (g_Qv G base σ post a) (g_XC G base τ1 PX) (g_A base)) (hG : gw G base H0 τ H locs)
    (kx : ∀ (E : String) (ce : Cell) (q9 : Addr) (H1 : Heap) (locs1 : List Loc), PX E → gw G base H0 τ1 H1 locs1 → H1[q9]? = some ce → ce.vm = .none → s.vm.findClass E = some ce.cls → vx_W p l e R s m args below meth c H1 locs1 (cells + mc) (slots + ms) Q (F0 m pc ls rest) q9)
    (kk : ∀ (u : S) (H1 : Heap) (locs1 : List Loc), post u → gw G base H0 (σ u) H1 locs1 → W p l e R s m args below meth c H1 locs1 (cells + mc) (slots + ms) Q (F0 m (pc + 3) ls rest)) : W p l e R s m args below meth c H locs cells slots Q (F0 m pc ls st0) :=
  vx_callv hr hG.2.2.1 (fun _ _ h => h) (fun _ h => h) (fun _ _ h => h) (fun E ce q9 u t H1 locs1 ht _ _ hB _ _ hS hce hcv hcl => kx E ce q9 H1 locs1 hB.1 ⟨by rw [← ht]; exact hB.2.1, hB.2.2, hS, hG.2.2.2⟩ hce hcv hcl)
    (fun u t H1 locs1 ht _ hp hB _ _ hS => kk u H1 locs1 hp ⟨by rw [← ht]; exact hB.1, hB.2, hS, hG.2.2.2⟩)
theorem g_xr {post : Nat → S → Prop} (hr : vx_Run p l e R s m args below meth c H locs cells slots mc ms (F0 m pc ls st0) rest (g_Qr G base σ post a) (g_XC G base τ1 PX) (g_A base)) (hG : gw G base H0 τ H locs)
    (kx : ∀ (E : String) (ce : Cell) (q9 : Addr) (H1 : Heap) (locs1 : List Loc), PX E → gw G base H0 τ1 H1 locs1 → H1[q9]? = some ce → ce.vm = .none → s.vm.findClass E = some ce.cls → vx_W p l e R s m args below meth c H1 locs1 (cells + mc) (slots + ms) Q (F0 m pc ls rest) q9)
    (kk : ∀ (r : Nat) (u : S) (H1 : Heap) (locs1 : List Loc), post r u → gw G base H0 (σ u) H1 locs1 → W p l e R s m args below meth c H1 locs1 (cells + mc) (slots + ms) Q (F0 m (pc + 3) ls (.ref r :: rest))) : W p l e R s m args below meth c H locs cells slots Q (F0 m pc ls st0) := by
  intro T hT X
  rcases hr T hT X with ⟨v, st₀, t, T', L, h0, X', hL, e1, e2, ⟨⟨r, u, hv, hp, hb⟩, hF⟩, st⟩ | ⟨q, st₀, t, T', L, E, ce, h0, X', hL, e1, e2, ⟨u, _, hb, hF⟩, hce, hcv, hcl, st⟩
  · cases hv
    obtain ⟨k1, k2, k3⟩ := vx_keep h0 e1 hG.2.2.1 (fun _ _ h => h) (fun _ h => h) hL hF
    obtain ⟨t2, a1, b1⟩ := kk r u T'.heap (locs ++ L) hp ⟨by rw [e1]; exact hb.1, hb.2, k3, hG.2.2.2⟩ T' rfl X'
    exact ⟨t2, st t2 a1, b1⟩
  · obtain ⟨k1, k2, k3⟩ := vx_keep h0 e1 hG.2.2.1 (fun _ _ h => h) (fun _ h => h) hL hF
    obtain ⟨t2, a1, b1⟩ := kx E ce q T'.heap (locs ++ L) hb.1 ⟨by rw [e1]; exact hb.2.1, hb.2.2, k3, hG.2.2.2⟩ (by rw [e1]; exact hce) hcv hcl T' rfl X'
    exact ⟨t2, st.trans a1, b1⟩
end GX
end GC
section GPX
variable {G : gG} {base : Nat} {H : Heap} {L : List Nat} {K n : Nat → Nat} {rI : Nat → Nat → Int32} {rJ : Nat → Nat → Int64} {rQ : Nat → Nat → Option Nat} {fI : Nat → Nat → Int32} {fR : Nat → Nat → Option Nat} {locs : List Loc} {s : State} {As : List Value} {b : Nat}
theorem g_px2 (hK : g_K G s) (hX : g_X base s) (hG : gw G base s.heap (L, K, n, rI, rJ, rQ, fI, fR) H locs) (hL : b ∈ L) (hk : K b = 2) : PreV s H RX2 b (va_Pc (.ref b :: As) (g_Px G base (L, K, n, rI, rJ, rQ, fI, fR))) As := ⟨g_blindx, g_rv2 hK hG hL hk, (g_psx hK hX hG).2⟩
end GPX
theorem g_start {p : Program} {l : Launch} {e : Env} {R : Room} {s : State} {m : MethodId} {args : Array Value} {below : List Frame} {meth : Method} {c : Code} {Q : State → Prop} {G : gG} {base : Nat} {τ : gS} {g : JFrame} (hPr : g_Pr G base τ s)
    (k : ∀ (H : Heap) (locs : List Loc), gw G base s.heap τ H locs → W p l e R s m args below meth c H locs 0 0 Q g) : W p l e R s m args below meth c s.heap [] 0 0 Q g := k _ _ hPr.gw
