/-! values in order, each once -/
def Sd (f : Nat → Int64) (m : Nat) : Prop := ∀ i j, i < j → j < m → f i < f j
def Mb (f : Nat → Int64) (m : Nat) (x : Int64) : Prop := ∃ i, i < m ∧ f i = x
theorem i64_tr {a b c : Int64} (h1 : a < b) (h2 : b < c) : a < c := by
  rw [Int64.lt_iff_toInt_lt] at *; omega
theorem i64_ir {a : Int64} (h : a < a) : False := by
  rw [Int64.lt_iff_toInt_lt] at h; omega
theorem i64_le {a b : Int64} (h : ¬ a < b) (e : ¬ a = b) : b < a := by
  rw [Int64.lt_iff_toInt_lt] at *
  have : a.toInt ≠ b.toInt := fun q => e (Int64.toInt_inj.mp q)
  omega
theorem ord_ins {f g : Nat → Int64} {m k : Nat} {v : Int64} (hs : Sd f m) (hk : k ≤ m) (h1 : ∀ i, i < k → f i < v) (h2 : k < m → v < f k) (e1 : ∀ i, i < k → g i = f i) (e2 : g k = v) (e3 : ∀ i, k < i → i ≤ m → g i = f (i - 1)) :
    Sd g (m + 1) ∧ ∀ x, Mb g (m + 1) x ↔ (Mb f m x ∨ x = v) := by
  constructor
  · intro i j hij hj
    rcases Nat.lt_trichotomy i k with q | q | q
    · rw [e1 i q]
      rcases Nat.lt_trichotomy j k with p | p | p
      · rw [e1 j p]; exact hs i j hij (by omega)
      · subst p; rw [e2]; exact h1 i q
      · rw [e3 j p (by omega)]
        rcases Nat.lt_or_ge i (j - 1) with z | z
        · exact hs i (j - 1) z (by omega)
        · omega
    · subst q
      rw [e2, e3 j hij (by omega)]
      have h3 := h2 (by omega)
      rcases Nat.eq_or_lt_of_le (show i ≤ j - 1 by omega) with z | z
      · rw [← z]; exact h3
      · exact i64_tr h3 (hs i (j - 1) z (by omega))
    · rw [e3 i q (by omega), e3 j (by omega) (by omega)]
      exact hs (i - 1) (j - 1) (by omega) (by omega)
  · intro x
    constructor
    · rintro ⟨i, hi, rfl⟩
      rcases Nat.lt_trichotomy i k with q | q | q
      · exact Or.inl ⟨i, by omega, (e1 i q).symm⟩
      · subst q; exact Or.inr e2
      · exact Or.inl ⟨i - 1, by omega, (e3 i q (by omega)).symm⟩
    · rintro (⟨i, hi, rfl⟩ | rfl)
      · rcases Nat.lt_or_ge i k with q | q
        · exact ⟨i, by omega, e1 i q⟩
        · exact ⟨i + 1, by omega, e3 (i + 1) (by omega) (by omega)⟩
      · exact ⟨k, by omega, e2⟩
theorem ord_has {f : Nat → Int64} {m k : Nat} {v : Int64} (hk : k < m) (e : f k = v) (x : Int64) : Mb f m x ↔ (Mb f m x ∨ x = v) :=
  ⟨Or.inl, fun h => h.elim id (fun q => ⟨k, hk, e.trans q.symm⟩)⟩
/-- two rows in order with the same values are the same -/
theorem ord_le {f g : Nat → Int64} {m k : Nat} (hf : Sd f m) (hg : Sd g k) (h : ∀ x, Mb f m x ↔ Mb g k x) : ∀ i, i < m → i < k ∧ f i = g i := by
  intro i
  induction i using Nat.strongRecOn with
  | ind i ih =>
    intro hi
    obtain ⟨j, hj, ej⟩ := (h (f i)).mp ⟨i, hi, rfl⟩
    have hji : ¬ j < i := fun q => by
      have z := (ih j q (by omega)).2
      have := hf j i q hi
      rw [z, ej] at this
      exact i64_ir this
    refine ⟨by omega, ?_⟩
    rcases Nat.eq_or_lt_of_le (Nat.le_of_not_lt hji) with q | q
    · subst q; exact ej.symm
    · exfalso
      obtain ⟨a, ha, ea⟩ := (h (g i)).mpr ⟨i, by omega, rfl⟩
      have hai : ¬ a < i := fun p => by
        have z := (ih a p ha).2
        have := hg a i p (by omega)
        rw [← z, ea] at this
        exact i64_ir this
      have h3 := hg i j q hj
      rw [ej, ← ea] at h3
      rcases Nat.eq_or_lt_of_le (Nat.le_of_not_lt hai) with p | p
      · subst p; exact i64_ir h3
      · exact i64_ir (i64_tr h3 (hf i a p ha))
theorem ord_same {f g : Nat → Int64} {m k : Nat} (hf : Sd f m) (hg : Sd g k) (h : ∀ x, Mb f m x ↔ Mb g k x) : m = k ∧ ∀ i, i < m → f i = g i := by
  have a := ord_le hf hg h
  have b := ord_le hg hf (fun x => (h x).symm)
  refine ⟨?_, fun i hi => (a i hi).2⟩
  rcases Nat.lt_trichotomy m k with q | q | q
  · have := (b m q).1; omega
  · exact q
  · have := (a k q).1; omega
theorem nI_pr {a : Nat} (h : 0 < a) : nI a - 1 = nI (a - 1) := by
  obtain ⟨b, rfl⟩ : ∃ b, a = b + 1 := ⟨a - 1, by omega⟩
  exact nI_pred b
theorem nI_mn {a : Nat} (h : 0 < a) : nI a + (-1) = nI (a - 1) := by
  rw [← nI_pr h, Int32.sub_eq_add_neg]
/-- what throws may leave: a pool of its own -/
abbrev g_XS {S : Type} (G : gG) (base : Nat) (σ : S → gS) (PX : String → S → Prop) : String → State → State → Prop := vx_X (S := S) (fun _ => True) (fun E u t => PX E u ∧ g_at G base (σ u) t) (g_A base)
theorem g_outS {p : Program} {l : Launch} {e : Env} {R : Room} {s : State} {m : MethodId} {args : Array Value} {below : List Frame} {meth : Method} {c : Code} {H : Heap} {locs : List Loc} {cells slots : Nat} {pc : Nat} {ls : Array Slot} {rest : List Value} {G : gG} {base : Nat} {S : Type} {σ : S → gS} {Qc : Array Value → State → Outcome → State → Prop} {PX : String → S → Prop} {E : String} {ce : Cell} {q : Addr} {mc ms : Nat} (u : S) (hnt : ∀ x ∈ c.exceptionTable.toList, False) (hlocks : meth.locks = false) (hce : H[q]? = some ce) (hcv : ce.vm = .none) (hcl : s.vm.findClass E = some ce.cls) (px : PX E u)
    (hG : gw G base s.heap (σ u) H locs) (hc : cells ≤ mc) (hs : slots ≤ ms) : vx_W p l e R s m args below meth c H locs cells slots (vx_MQ below Qc (g_XS G base σ PX) args s mc ms (g_A base)) (F0 m pc ls rest) q :=
  vx_out (fun x hx => (hnt x hx).elim) hlocks hce hcv hcl (fun t ht _ => ⟨u, trivial, ⟨px, hG.at ht⟩, hG.2.2.1.F ht⟩) hG.2.2.1.2.2 hc hs
/-- the row of ordered values isn't part of the value -/
theorem repX_ord {L : List Nat} {K n : Nat → Nat} {rI : Nat → Nat → Int32} {rJ rJ' : Nat → Nat → Int64} {rQ : Nat → Nat → Option Nat} {fI : Nat → Nat → Int32} {fR : Nat → Nat → Option Nat} {ad : Nat → Nat} {α : aT} (h : RepX (L, K, n, rI, rJ, rQ, fI, fR) ad α) (hJ : ∀ b, b ≠ ad 4 → rJ' b = rJ b) :
    RepX (L, K, n, rI, rJ', rQ, fI, fR) ad α ∧ Keep (L, K, n, rI, rJ, rQ, fI, fR) (L, K, n, rI, rJ', rQ, fI, fR) (inX ad (a_nd α)) := by
  obtain ⟨h1, h2, h3, ⟨d1, d2, d3⟩, h5⟩ := id h
  refine ⟨⟨h1, h2, h3, ⟨d1, d2, fun i hi => ?_⟩, fun k hk => ?_⟩, fun b hb => ⟨hb, rfl, rfl, rfl, fun hx => ⟨rfl, hJ b (fun q => hx ⟨4, by omega, q⟩), rfl, rfl⟩⟩⟩
  · obtain ⟨q1, q2, q3, q4, q5, q6, q7⟩ := d3 i hi
    refine ⟨q1, q2, q3, q4, q5, q6, ?_⟩
    show rJ' (ad 9) i = _
    rw [hJ _ (repX_ne h (by omega) (by omega) (by omega))]; exact q7
  · obtain ⟨k1, k2, k3, k4⟩ := h5 k hk
    refine ⟨fun i hi => ?_, k2, k3, k4⟩
    show rb (rJ' (ad (12 + 4 * k))) i = _ ∧ rb (rJ' (ad (13 + 4 * k))) i = _
    rw [hJ _ (repX_ne h (by omega) (by omega) (by omega)), hJ _ (repX_ne h (by omega) (by omega) (by omega))]
    exact k1 i hi
set_option maxHeartbeats 4000000 in
set_option maxRecDepth 100000 in
/-- orderValue(v, found) -/
theorem c_orderValue (l : Launch) (G : gG) (base : Nat) {L : List Nat} {K n : Nat → Nat} {rI : Nat → Nat → Int32} {rJ : Nat → Nat → Int64} {rQ : Nat → Nat → Option Nat} {fI : Nat → Nat → Int32} {fR : Nat → Nat → Option Nat} {x ra ma d tr od : Nat} (hDk : isDk L K n fR x ra ma d tr od) {v : Int64} {mm : Nat} (hmm : mm < 250) (hsd : Sd (rJ od) mm) : Met l yX2_orderValue wsX2_orderValue ({ frames := 0, cells := 0, slots := 0, locals := 0 }) (va_Pc [.ref x, .long v, .int (nI mm)] (g_Pr G base (L, K, n, rI, rJ, rQ, fI, fR))) (g_Qi G base (fun u : Nat × (Nat → Nat → Int64) => (L, K, n, rI, u.2, rQ, fI, fR)) (fun x u => x = nI u.1 ∧ u.1 ≤ mm + 1 ∧ (∀ b, b ≠ od → u.2 b = rJ b) ∧ Sd (u.2 od) u.1 ∧ ∀ y, Mb (u.2 od) u.1 y ↔ (Mb (rJ od) mm y ∨ y = v))) 0 0 (g_A base) := by
  have hDk0 := hDk
  obtain ⟨hLx, hKx, h0x, h1x, h2x, h3x, h4x, hLra, hKra, hnra, hLma, hKma, hnma, hLod, hKod, hnod⟩ := hDk0
  refine Met.ofW (cc := cX2_orderValue) (maxL := 6) (ret := (some .int)) (by decide) rfl ?_
  intro p e s m args below meth c s₁ B hml hv
  obtain ⟨rfl, hPr⟩ := hv
  have hx := B.exec
  have hb := B.bytes
  have hr := B.returns
  have hts := atoms_spec (ws := wsX2_orderValue) B.pre
  have hown : s.vm.findClass RX2 = some m.cls := findClass_of_methodNamed B.named
  have hlocks := B.notSynchronized
  have hin : meth.name = "orderValue" := (name_of_methodNamed B.named B.method).1
  have hK := hPr.2.2
  have hG := hPr.gw
  have hl := lv_entry ([.ref x, .long v, .int (nI mm)]) (n := 6) (Nat.le_of_ble_eq_true rfl)
  rw [lg_entry_eq]
  generalize (lg_sl ([.ref x, .long v, .int (nI mm)]) ++ List.replicate (6 - (lg_sl ([.ref x, .long v, .int (nI mm)])).length) Slot.unset).toArray = ls at hl ⊢
  have hl : lv_has ls 6 [(0, .ref x), (1, .long v), (3, .int (nI mm))] := hl
  refine g_start hPr (fun H locs hG => ?_)
  refine lv_iconst (v := 0) hx hb dX2_orderValue_0 (by decide) ?_
  refine lv_istore (lv' := [(4, .int 0), (0, .ref x), (1, .long v), (3, .int (nI mm))]) hx hb dX2_orderValue_1 hl (by decide) rfl (fun ls hl => ?_)
  obtain ⟨k, ek⟩ : ∃ z : Nat, z = 0 := ⟨_, rfl⟩
  replace hl : lv_has ls 6 [(0, .ref x), (1, .long v), (3, .int (nI mm)), (4, .int (nI k))] := by subst ek; exact (lv_sub hl [1, 2, 3, 0] rfl)
  have inv : k ≤ mm ∧ ∀ i, i < k → rJ od i < v := by
    subst ek
    exact ⟨by omega, fun i hi => absurd hi (Nat.not_lt_zero i)⟩
  have hf : mm < k + 251 := by omega
  clear ek
  generalize 251 = d at hf
  induction d generalizing k H locs ls with
  | zero => exact absurd hf (by have := inv.1; omega)
  | succ d ih =>
    refine lv_iload hx hb dX2_orderValue_3 (lv_at hl 3 rfl) ?_
    refine lv_iload_n hx hb dX2_orderValue_5 rfl (lv_at hl 2 rfl) ?_
    refine lv_icmp_ge (tgt := 27) hx hb dX2_orderValue_6 (by decide) (fun c0 => ?_) (fun c0 => ?_)
    · have hle : k < mm → ¬ rJ od k < v := fun q => absurd q (by have := nI_le_of (by omega) c0; omega)
      refine lv_iload hx hb dX2_orderValue_27 (lv_at hl 3 rfl) ?_
      refine lv_iload_n hx hb dX2_orderValue_29 rfl (lv_at hl 2 rfl) ?_
      refine lv_icmp_ge (tgt := 47) hx hb dX2_orderValue_30 (by decide) (fun c2 => ?_) (fun c2 => ?_)
      · have h2 : k < mm → v < rJ od k := fun q => absurd q (by have := nI_le_of (by omega) c2; omega)
        refine lv_iload_n hx hb dX2_orderValue_47 rfl (lv_at hl 2 rfl) ?_
        refine lv_istore (lv' := [(5, .int (nI mm)), (0, .ref x), (1, .long v), (3, .int (nI mm)), (4, .int (nI k))]) hx hb dX2_orderValue_48 hl (by decide) rfl (fun ls hl => ?_)
        clear ih hf
        have h1 := inv.2
        have hkm := inv.1
        clear inv
        obtain ⟨w, ew⟩ : ∃ z : Nat, z = 0 := ⟨_, rfl⟩
        obtain ⟨r1, er1⟩ : ∃ z : Nat → Nat → Int64, z = rJ := ⟨_, rfl⟩
        replace hl : lv_has ls 6 [(0, .ref x), (1, .long v), (3, .int (nI mm)), (4, .int (nI k)), (5, .int (nI (mm - w)))] := by subst ew er1; exact (lv_sub hl [1, 2, 3, 4, 0] rfl)
        replace hG : gw G base s.heap (L, K, n, rI, r1, rQ, fI, fR) H locs := by subst ew er1; exact hG
        have inv : w + k ≤ mm ∧ (∀ b, b ≠ od → r1 b = rJ b) ∧ (∀ i, i < mm - w → r1 od i = rJ od i) ∧ ∀ i, mm - w < i → i ≤ mm → r1 od i = rJ od (i - 1) := by
          subst ew er1
          exact ⟨by omega, fun _ _ => rfl, fun _ _ => rfl, fun i h1 h2 => by omega⟩
        have hf : mm < w + 252 := by omega
        clear ew er1
        generalize 252 = d at hf
        induction d generalizing w r1 H locs ls with
        | zero => exact absurd hf (by have := inv.1; omega)
        | succ d ih =>
          refine lv_iload hx hb dX2_orderValue_50 (lv_at hl 4 rfl) ?_
          refine lv_iload hx hb dX2_orderValue_52 (lv_at hl 3 rfl) ?_
          refine lv_icmp_le (tgt := 79) hx hb dX2_orderValue_54 (by decide) (fun c4 => ?_) (fun c4 => ?_)
          · have hwk : mm - w = k := Nat.le_antisymm (nI_le_of (by omega) c4) (by omega)
            refine lv_aload_n hx hb dX2_orderValue_79 rfl (lv_at hl 0 rfl) ?_
            refine r_Desk_ordered hx hb hts (by decide +kernel) hown hK hG hLx hKx h4x (hts (.fieldLink RX2 30 "DotStores" "ordered" "[J") (by decide +kernel)) dX2_orderValue_80 ?_
            refine lv_iload hx hb dX2_orderValue_83 (lv_at hl 3 rfl) ?_
            refine lv_lload_n hx hb dX2_orderValue_85 rfl (lv_at hl 1 rfl) ?_
            refine g_last hx hb hK hG hLod hKod (k) rfl (by rw [hnod]; omega) (by rw [hnod]; decide) dX2_orderValue_86 (fun H locs hG => ?_)
            obtain ⟨r2, er2⟩ : ∃ z, z = g_up r1 od k v := ⟨_, rfl⟩
            rw [← er2] at hG
            have ho2 : ∀ b, b ≠ od → r2 b = rJ b := fun b hb => by rw [er2, g_up_other _ _ _ hb]; exact inv.2.1 b hb
            have hfin : Sd (r2 od) (mm + 1) ∧ ∀ y, Mb (r2 od) (mm + 1) y ↔ (Mb (rJ od) mm y ∨ y = v) := ord_ins hsd hkm h1 h2 (fun i hi => by rw [er2, g_up_i _ _ _ _ (by omega)]; exact inv.2.2.1 i (by omega)) (by rw [er2, g_up_at]) (fun i q1 q2 => by rw [er2, g_up_i _ _ _ _ (by omega)]; exact inv.2.2.2 i (by omega) q2)
            refine lv_iload_n hx hb dX2_orderValue_87 rfl (lv_at hl 2 rfl) ?_
            refine lv_iconst (v := 1) hx hb dX2_orderValue_88 (by decide) ?_
            refine lv_iadd hx hb dX2_orderValue_89 ?_
            refine lv_topi (fun z1 ez1 => ?_)
            obtain rfl : z1 = nI (mm + 1) := ez1.trans (nI_1 mm)
            refine W.widen (k := 0) (n := 0) (by omega) (by omega) ?_
            exact W.iret (v := (nI (mm + 1))) hx hb hr (fun t9 h9 hW9 => ⟨⟨(nI (mm + 1)), (mm + 1, r2), rfl, ⟨rfl, by omega, ho2, hfin⟩, hG.at h9⟩, hG.2.2.1.F h9⟩) hG.2.2.1.2.2 dX2_orderValue_90
          · have hwk : k < mm - w := nI_lt_of (by omega) c4
            refine lv_aload_n hx hb dX2_orderValue_57 rfl (lv_at hl 0 rfl) ?_
            refine r_Desk_ordered hx hb hts (by decide +kernel) hown hK hG hLx hKx h4x (hts (.fieldLink RX2 30 "DotStores" "ordered" "[J") (by decide +kernel)) dX2_orderValue_58 ?_
            refine lv_iload hx hb dX2_orderValue_61 (lv_at hl 4 rfl) ?_
            refine lv_aload_n hx hb dX2_orderValue_63 rfl (lv_at hl 0 rfl) ?_
            refine r_Desk_ordered hx hb hts (by decide +kernel) hown hK hG hLx hKx h4x (hts (.fieldLink RX2 30 "DotStores" "ordered" "[J") (by decide +kernel)) dX2_orderValue_64 ?_
            refine lv_iload hx hb dX2_orderValue_67 (lv_at hl 4 rfl) ?_
            refine lv_iconst (v := 1) hx hb dX2_orderValue_69 (by decide) ?_
            refine lv_isub hx hb dX2_orderValue_70 ?_
            refine lv_topi (fun z2 ez2 => ?_)
            obtain rfl : z2 = nI (mm - w - 1) := ez2.trans (nI_pr (by omega))
            refine g_lald hx hb hK hG hLod hKod (mm - w - 1) rfl (by rw [hnod]; omega) (by rw [hnod]; decide) dX2_orderValue_71 ?_
            refine g_last hx hb hK hG hLod hKod (mm - w) rfl (by rw [hnod]; omega) (by rw [hnod]; decide) dX2_orderValue_72 (fun H locs hG => ?_)
            refine lv_iinc (v := (nI (mm - (w + 1)))) (lv' := [(5, .int (nI (mm - (w + 1)))), (0, .ref x), (1, .long v), (3, .int (nI mm)), (4, .int (nI k))]) hx hb dX2_orderValue_73 hl (k := 4) rfl ((nI_mn (show 0 < mm - w by omega)).trans (congrArg nI (by omega))) (by decide) rfl (fun ls hl => ?_)
            refine lv_goto (tgt := 50) hx hb dX2_orderValue_76 (by decide) ?_
            exact ih (w := w + 1) (hl := (lv_sub hl [1, 2, 3, 4, 0] rfl)) (hG := hG) (inv := ⟨by omega, fun b hb => by rw [g_up_other _ _ _ hb]; exact inv.2.1 b hb, fun i hi => by rw [g_up_i _ _ _ _ (by omega)]; exact inv.2.2.1 i (by omega), fun i q1 q2 => by
                rcases Nat.eq_or_lt_of_le (show mm - w ≤ i by omega) with q | q
                · subst q; rw [g_up_at]; exact inv.2.2.1 _ (by omega)
                · rw [g_up_i _ _ _ _ (by omega)]; exact inv.2.2.2 i q q2⟩) (hf := by omega)
      · have hkl : k < mm := nI_lt_of (by omega) c2
        refine lv_aload_n hx hb dX2_orderValue_33 rfl (lv_at hl 0 rfl) ?_
        refine r_Desk_ordered hx hb hts (by decide +kernel) hown hK hG hLx hKx h4x (hts (.fieldLink RX2 30 "DotStores" "ordered" "[J") (by decide +kernel)) dX2_orderValue_34 ?_
        refine lv_iload hx hb dX2_orderValue_37 (lv_at hl 3 rfl) ?_
        refine g_lald hx hb hK hG hLod hKod (k) rfl (by rw [hnod]; omega) (by rw [hnod]; decide) dX2_orderValue_39 ?_
        refine lv_lload_n hx hb dX2_orderValue_40 rfl (lv_at hl 1 rfl) ?_
        refine W.lcmp hx hb dX2_orderValue_41 ?_
        refine lv_if_ne (tgt := 47) hx hb dX2_orderValue_42 (by decide) (fun c3 => ?_) (fun c3 => ?_)
        · have h2 : k < mm → v < rJ od k := fun q => i64_le (hle q) (fun z => c3 ((lg_cmp_eq _ _).mpr z))
          refine lv_iload_n hx hb dX2_orderValue_47 rfl (lv_at hl 2 rfl) ?_
          refine lv_istore (lv' := [(5, .int (nI mm)), (0, .ref x), (1, .long v), (3, .int (nI mm)), (4, .int (nI k))]) hx hb dX2_orderValue_48 hl (by decide) rfl (fun ls hl => ?_)
          clear ih hf
          have h1 := inv.2
          have hkm := inv.1
          clear inv
          obtain ⟨w, ew⟩ : ∃ z : Nat, z = 0 := ⟨_, rfl⟩
          obtain ⟨r1, er1⟩ : ∃ z : Nat → Nat → Int64, z = rJ := ⟨_, rfl⟩
          replace hl : lv_has ls 6 [(0, .ref x), (1, .long v), (3, .int (nI mm)), (4, .int (nI k)), (5, .int (nI (mm - w)))] := by subst ew er1; exact (lv_sub hl [1, 2, 3, 4, 0] rfl)
          replace hG : gw G base s.heap (L, K, n, rI, r1, rQ, fI, fR) H locs := by subst ew er1; exact hG
          have inv : w + k ≤ mm ∧ (∀ b, b ≠ od → r1 b = rJ b) ∧ (∀ i, i < mm - w → r1 od i = rJ od i) ∧ ∀ i, mm - w < i → i ≤ mm → r1 od i = rJ od (i - 1) := by
            subst ew er1
            exact ⟨by omega, fun _ _ => rfl, fun _ _ => rfl, fun i h1 h2 => by omega⟩
          have hf : mm < w + 252 := by omega
          clear ew er1
          generalize 252 = d at hf
          induction d generalizing w r1 H locs ls with
          | zero => exact absurd hf (by have := inv.1; omega)
          | succ d ih =>
            refine lv_iload hx hb dX2_orderValue_50 (lv_at hl 4 rfl) ?_
            refine lv_iload hx hb dX2_orderValue_52 (lv_at hl 3 rfl) ?_
            refine lv_icmp_le (tgt := 79) hx hb dX2_orderValue_54 (by decide) (fun c4 => ?_) (fun c4 => ?_)
            · have hwk : mm - w = k := Nat.le_antisymm (nI_le_of (by omega) c4) (by omega)
              refine lv_aload_n hx hb dX2_orderValue_79 rfl (lv_at hl 0 rfl) ?_
              refine r_Desk_ordered hx hb hts (by decide +kernel) hown hK hG hLx hKx h4x (hts (.fieldLink RX2 30 "DotStores" "ordered" "[J") (by decide +kernel)) dX2_orderValue_80 ?_
              refine lv_iload hx hb dX2_orderValue_83 (lv_at hl 3 rfl) ?_
              refine lv_lload_n hx hb dX2_orderValue_85 rfl (lv_at hl 1 rfl) ?_
              refine g_last hx hb hK hG hLod hKod (k) rfl (by rw [hnod]; omega) (by rw [hnod]; decide) dX2_orderValue_86 (fun H locs hG => ?_)
              obtain ⟨r2, er2⟩ : ∃ z, z = g_up r1 od k v := ⟨_, rfl⟩
              rw [← er2] at hG
              have ho2 : ∀ b, b ≠ od → r2 b = rJ b := fun b hb => by rw [er2, g_up_other _ _ _ hb]; exact inv.2.1 b hb
              have hfin : Sd (r2 od) (mm + 1) ∧ ∀ y, Mb (r2 od) (mm + 1) y ↔ (Mb (rJ od) mm y ∨ y = v) := ord_ins hsd hkm h1 h2 (fun i hi => by rw [er2, g_up_i _ _ _ _ (by omega)]; exact inv.2.2.1 i (by omega)) (by rw [er2, g_up_at]) (fun i q1 q2 => by rw [er2, g_up_i _ _ _ _ (by omega)]; exact inv.2.2.2 i (by omega) q2)
              refine lv_iload_n hx hb dX2_orderValue_87 rfl (lv_at hl 2 rfl) ?_
              refine lv_iconst (v := 1) hx hb dX2_orderValue_88 (by decide) ?_
              refine lv_iadd hx hb dX2_orderValue_89 ?_
              refine lv_topi (fun z3 ez3 => ?_)
              obtain rfl : z3 = nI (mm + 1) := ez3.trans (nI_1 mm)
              refine W.widen (k := 0) (n := 0) (by omega) (by omega) ?_
              exact W.iret (v := (nI (mm + 1))) hx hb hr (fun t9 h9 hW9 => ⟨⟨(nI (mm + 1)), (mm + 1, r2), rfl, ⟨rfl, by omega, ho2, hfin⟩, hG.at h9⟩, hG.2.2.1.F h9⟩) hG.2.2.1.2.2 dX2_orderValue_90
            · have hwk : k < mm - w := nI_lt_of (by omega) c4
              refine lv_aload_n hx hb dX2_orderValue_57 rfl (lv_at hl 0 rfl) ?_
              refine r_Desk_ordered hx hb hts (by decide +kernel) hown hK hG hLx hKx h4x (hts (.fieldLink RX2 30 "DotStores" "ordered" "[J") (by decide +kernel)) dX2_orderValue_58 ?_
              refine lv_iload hx hb dX2_orderValue_61 (lv_at hl 4 rfl) ?_
              refine lv_aload_n hx hb dX2_orderValue_63 rfl (lv_at hl 0 rfl) ?_
              refine r_Desk_ordered hx hb hts (by decide +kernel) hown hK hG hLx hKx h4x (hts (.fieldLink RX2 30 "DotStores" "ordered" "[J") (by decide +kernel)) dX2_orderValue_64 ?_
              refine lv_iload hx hb dX2_orderValue_67 (lv_at hl 4 rfl) ?_
              refine lv_iconst (v := 1) hx hb dX2_orderValue_69 (by decide) ?_
              refine lv_isub hx hb dX2_orderValue_70 ?_
              refine lv_topi (fun z4 ez4 => ?_)
              obtain rfl : z4 = nI (mm - w - 1) := ez4.trans (nI_pr (by omega))
              refine g_lald hx hb hK hG hLod hKod (mm - w - 1) rfl (by rw [hnod]; omega) (by rw [hnod]; decide) dX2_orderValue_71 ?_
              refine g_last hx hb hK hG hLod hKod (mm - w) rfl (by rw [hnod]; omega) (by rw [hnod]; decide) dX2_orderValue_72 (fun H locs hG => ?_)
              refine lv_iinc (v := (nI (mm - (w + 1)))) (lv' := [(5, .int (nI (mm - (w + 1)))), (0, .ref x), (1, .long v), (3, .int (nI mm)), (4, .int (nI k))]) hx hb dX2_orderValue_73 hl (k := 4) rfl ((nI_mn (show 0 < mm - w by omega)).trans (congrArg nI (by omega))) (by decide) rfl (fun ls hl => ?_)
              refine lv_goto (tgt := 50) hx hb dX2_orderValue_76 (by decide) ?_
              exact ih (w := w + 1) (hl := (lv_sub hl [1, 2, 3, 4, 0] rfl)) (hG := hG) (inv := ⟨by omega, fun b hb => by rw [g_up_other _ _ _ hb]; exact inv.2.1 b hb, fun i hi => by rw [g_up_i _ _ _ _ (by omega)]; exact inv.2.2.1 i (by omega), fun i q1 q2 => by
                  rcases Nat.eq_or_lt_of_le (show mm - w ≤ i by omega) with q | q
                  · subst q; rw [g_up_at]; exact inv.2.2.1 _ (by omega)
                  · rw [g_up_i _ _ _ _ (by omega)]; exact inv.2.2.2 i q q2⟩) (hf := by omega)
        · have c3 : rJ od k = v := (lg_cmp_eq _ _).mp (by first | exact c3 | exact Classical.not_not.mp c3)
          refine lv_iload_n hx hb dX2_orderValue_45 rfl (lv_at hl 2 rfl) ?_
          refine W.widen (k := 0) (n := 0) (by omega) (by omega) ?_
          exact W.iret (v := (nI mm)) hx hb hr (fun t9 h9 hW9 => ⟨⟨(nI mm), (mm, rJ), rfl, ⟨rfl, by omega, fun _ _ => rfl, hsd, ord_has hkl c3⟩, hG.at h9⟩, hG.2.2.1.F h9⟩) hG.2.2.1.2.2 dX2_orderValue_46
    · have hkl : k < mm := nI_lt_of (by omega) c0
      refine lv_aload_n hx hb dX2_orderValue_9 rfl (lv_at hl 0 rfl) ?_
      refine r_Desk_ordered hx hb hts (by decide +kernel) hown hK hG hLx hKx h4x (hts (.fieldLink RX2 30 "DotStores" "ordered" "[J") (by decide +kernel)) dX2_orderValue_10 ?_
      refine lv_iload hx hb dX2_orderValue_13 (lv_at hl 3 rfl) ?_
      refine g_lald hx hb hK hG hLod hKod (k) rfl (by rw [hnod]; omega) (by rw [hnod]; decide) dX2_orderValue_15 ?_
      refine lv_lload_n hx hb dX2_orderValue_16 rfl (lv_at hl 1 rfl) ?_
      refine W.lcmp hx hb dX2_orderValue_17 ?_
      refine lv_if_ge (tgt := 27) hx hb dX2_orderValue_18 (by decide) (fun c1 => ?_) (fun c1 => ?_)
      · have hle : k < mm → ¬ rJ od k < v := fun _ q => i64_ir (Int64.lt_of_le_of_lt ((lg_cmp_ge _ _).mp c1) q)
        refine lv_iload hx hb dX2_orderValue_27 (lv_at hl 3 rfl) ?_
        refine lv_iload_n hx hb dX2_orderValue_29 rfl (lv_at hl 2 rfl) ?_
        refine lv_icmp_ge (tgt := 47) hx hb dX2_orderValue_30 (by decide) (fun c2 => ?_) (fun c2 => ?_)
        · have h2 : k < mm → v < rJ od k := fun q => absurd q (by have := nI_le_of (by omega) c2; omega)
          refine lv_iload_n hx hb dX2_orderValue_47 rfl (lv_at hl 2 rfl) ?_
          refine lv_istore (lv' := [(5, .int (nI mm)), (0, .ref x), (1, .long v), (3, .int (nI mm)), (4, .int (nI k))]) hx hb dX2_orderValue_48 hl (by decide) rfl (fun ls hl => ?_)
          clear ih hf
          have h1 := inv.2
          have hkm := inv.1
          clear inv
          obtain ⟨w, ew⟩ : ∃ z : Nat, z = 0 := ⟨_, rfl⟩
          obtain ⟨r1, er1⟩ : ∃ z : Nat → Nat → Int64, z = rJ := ⟨_, rfl⟩
          replace hl : lv_has ls 6 [(0, .ref x), (1, .long v), (3, .int (nI mm)), (4, .int (nI k)), (5, .int (nI (mm - w)))] := by subst ew er1; exact (lv_sub hl [1, 2, 3, 4, 0] rfl)
          replace hG : gw G base s.heap (L, K, n, rI, r1, rQ, fI, fR) H locs := by subst ew er1; exact hG
          have inv : w + k ≤ mm ∧ (∀ b, b ≠ od → r1 b = rJ b) ∧ (∀ i, i < mm - w → r1 od i = rJ od i) ∧ ∀ i, mm - w < i → i ≤ mm → r1 od i = rJ od (i - 1) := by
            subst ew er1
            exact ⟨by omega, fun _ _ => rfl, fun _ _ => rfl, fun i h1 h2 => by omega⟩
          have hf : mm < w + 252 := by omega
          clear ew er1
          generalize 252 = d at hf
          induction d generalizing w r1 H locs ls with
          | zero => exact absurd hf (by have := inv.1; omega)
          | succ d ih =>
            refine lv_iload hx hb dX2_orderValue_50 (lv_at hl 4 rfl) ?_
            refine lv_iload hx hb dX2_orderValue_52 (lv_at hl 3 rfl) ?_
            refine lv_icmp_le (tgt := 79) hx hb dX2_orderValue_54 (by decide) (fun c4 => ?_) (fun c4 => ?_)
            · have hwk : mm - w = k := Nat.le_antisymm (nI_le_of (by omega) c4) (by omega)
              refine lv_aload_n hx hb dX2_orderValue_79 rfl (lv_at hl 0 rfl) ?_
              refine r_Desk_ordered hx hb hts (by decide +kernel) hown hK hG hLx hKx h4x (hts (.fieldLink RX2 30 "DotStores" "ordered" "[J") (by decide +kernel)) dX2_orderValue_80 ?_
              refine lv_iload hx hb dX2_orderValue_83 (lv_at hl 3 rfl) ?_
              refine lv_lload_n hx hb dX2_orderValue_85 rfl (lv_at hl 1 rfl) ?_
              refine g_last hx hb hK hG hLod hKod (k) rfl (by rw [hnod]; omega) (by rw [hnod]; decide) dX2_orderValue_86 (fun H locs hG => ?_)
              obtain ⟨r2, er2⟩ : ∃ z, z = g_up r1 od k v := ⟨_, rfl⟩
              rw [← er2] at hG
              have ho2 : ∀ b, b ≠ od → r2 b = rJ b := fun b hb => by rw [er2, g_up_other _ _ _ hb]; exact inv.2.1 b hb
              have hfin : Sd (r2 od) (mm + 1) ∧ ∀ y, Mb (r2 od) (mm + 1) y ↔ (Mb (rJ od) mm y ∨ y = v) := ord_ins hsd hkm h1 h2 (fun i hi => by rw [er2, g_up_i _ _ _ _ (by omega)]; exact inv.2.2.1 i (by omega)) (by rw [er2, g_up_at]) (fun i q1 q2 => by rw [er2, g_up_i _ _ _ _ (by omega)]; exact inv.2.2.2 i (by omega) q2)
              refine lv_iload_n hx hb dX2_orderValue_87 rfl (lv_at hl 2 rfl) ?_
              refine lv_iconst (v := 1) hx hb dX2_orderValue_88 (by decide) ?_
              refine lv_iadd hx hb dX2_orderValue_89 ?_
              refine lv_topi (fun z5 ez5 => ?_)
              obtain rfl : z5 = nI (mm + 1) := ez5.trans (nI_1 mm)
              refine W.widen (k := 0) (n := 0) (by omega) (by omega) ?_
              exact W.iret (v := (nI (mm + 1))) hx hb hr (fun t9 h9 hW9 => ⟨⟨(nI (mm + 1)), (mm + 1, r2), rfl, ⟨rfl, by omega, ho2, hfin⟩, hG.at h9⟩, hG.2.2.1.F h9⟩) hG.2.2.1.2.2 dX2_orderValue_90
            · have hwk : k < mm - w := nI_lt_of (by omega) c4
              refine lv_aload_n hx hb dX2_orderValue_57 rfl (lv_at hl 0 rfl) ?_
              refine r_Desk_ordered hx hb hts (by decide +kernel) hown hK hG hLx hKx h4x (hts (.fieldLink RX2 30 "DotStores" "ordered" "[J") (by decide +kernel)) dX2_orderValue_58 ?_
              refine lv_iload hx hb dX2_orderValue_61 (lv_at hl 4 rfl) ?_
              refine lv_aload_n hx hb dX2_orderValue_63 rfl (lv_at hl 0 rfl) ?_
              refine r_Desk_ordered hx hb hts (by decide +kernel) hown hK hG hLx hKx h4x (hts (.fieldLink RX2 30 "DotStores" "ordered" "[J") (by decide +kernel)) dX2_orderValue_64 ?_
              refine lv_iload hx hb dX2_orderValue_67 (lv_at hl 4 rfl) ?_
              refine lv_iconst (v := 1) hx hb dX2_orderValue_69 (by decide) ?_
              refine lv_isub hx hb dX2_orderValue_70 ?_
              refine lv_topi (fun z6 ez6 => ?_)
              obtain rfl : z6 = nI (mm - w - 1) := ez6.trans (nI_pr (by omega))
              refine g_lald hx hb hK hG hLod hKod (mm - w - 1) rfl (by rw [hnod]; omega) (by rw [hnod]; decide) dX2_orderValue_71 ?_
              refine g_last hx hb hK hG hLod hKod (mm - w) rfl (by rw [hnod]; omega) (by rw [hnod]; decide) dX2_orderValue_72 (fun H locs hG => ?_)
              refine lv_iinc (v := (nI (mm - (w + 1)))) (lv' := [(5, .int (nI (mm - (w + 1)))), (0, .ref x), (1, .long v), (3, .int (nI mm)), (4, .int (nI k))]) hx hb dX2_orderValue_73 hl (k := 4) rfl ((nI_mn (show 0 < mm - w by omega)).trans (congrArg nI (by omega))) (by decide) rfl (fun ls hl => ?_)
              refine lv_goto (tgt := 50) hx hb dX2_orderValue_76 (by decide) ?_
              exact ih (w := w + 1) (hl := (lv_sub hl [1, 2, 3, 4, 0] rfl)) (hG := hG) (inv := ⟨by omega, fun b hb => by rw [g_up_other _ _ _ hb]; exact inv.2.1 b hb, fun i hi => by rw [g_up_i _ _ _ _ (by omega)]; exact inv.2.2.1 i (by omega), fun i q1 q2 => by
                  rcases Nat.eq_or_lt_of_le (show mm - w ≤ i by omega) with q | q
                  · subst q; rw [g_up_at]; exact inv.2.2.1 _ (by omega)
                  · rw [g_up_i _ _ _ _ (by omega)]; exact inv.2.2.2 i q q2⟩) (hf := by omega)
        · have hkl : k < mm := nI_lt_of (by omega) c2
          refine lv_aload_n hx hb dX2_orderValue_33 rfl (lv_at hl 0 rfl) ?_
          refine r_Desk_ordered hx hb hts (by decide +kernel) hown hK hG hLx hKx h4x (hts (.fieldLink RX2 30 "DotStores" "ordered" "[J") (by decide +kernel)) dX2_orderValue_34 ?_
          refine lv_iload hx hb dX2_orderValue_37 (lv_at hl 3 rfl) ?_
          refine g_lald hx hb hK hG hLod hKod (k) rfl (by rw [hnod]; omega) (by rw [hnod]; decide) dX2_orderValue_39 ?_
          refine lv_lload_n hx hb dX2_orderValue_40 rfl (lv_at hl 1 rfl) ?_
          refine W.lcmp hx hb dX2_orderValue_41 ?_
          refine lv_if_ne (tgt := 47) hx hb dX2_orderValue_42 (by decide) (fun c3 => ?_) (fun c3 => ?_)
          · have h2 : k < mm → v < rJ od k := fun q => i64_le (hle q) (fun z => c3 ((lg_cmp_eq _ _).mpr z))
            refine lv_iload_n hx hb dX2_orderValue_47 rfl (lv_at hl 2 rfl) ?_
            refine lv_istore (lv' := [(5, .int (nI mm)), (0, .ref x), (1, .long v), (3, .int (nI mm)), (4, .int (nI k))]) hx hb dX2_orderValue_48 hl (by decide) rfl (fun ls hl => ?_)
            clear ih hf
            have h1 := inv.2
            have hkm := inv.1
            clear inv
            obtain ⟨w, ew⟩ : ∃ z : Nat, z = 0 := ⟨_, rfl⟩
            obtain ⟨r1, er1⟩ : ∃ z : Nat → Nat → Int64, z = rJ := ⟨_, rfl⟩
            replace hl : lv_has ls 6 [(0, .ref x), (1, .long v), (3, .int (nI mm)), (4, .int (nI k)), (5, .int (nI (mm - w)))] := by subst ew er1; exact (lv_sub hl [1, 2, 3, 4, 0] rfl)
            replace hG : gw G base s.heap (L, K, n, rI, r1, rQ, fI, fR) H locs := by subst ew er1; exact hG
            have inv : w + k ≤ mm ∧ (∀ b, b ≠ od → r1 b = rJ b) ∧ (∀ i, i < mm - w → r1 od i = rJ od i) ∧ ∀ i, mm - w < i → i ≤ mm → r1 od i = rJ od (i - 1) := by
              subst ew er1
              exact ⟨by omega, fun _ _ => rfl, fun _ _ => rfl, fun i h1 h2 => by omega⟩
            have hf : mm < w + 252 := by omega
            clear ew er1
            generalize 252 = d at hf
            induction d generalizing w r1 H locs ls with
            | zero => exact absurd hf (by have := inv.1; omega)
            | succ d ih =>
              refine lv_iload hx hb dX2_orderValue_50 (lv_at hl 4 rfl) ?_
              refine lv_iload hx hb dX2_orderValue_52 (lv_at hl 3 rfl) ?_
              refine lv_icmp_le (tgt := 79) hx hb dX2_orderValue_54 (by decide) (fun c4 => ?_) (fun c4 => ?_)
              · have hwk : mm - w = k := Nat.le_antisymm (nI_le_of (by omega) c4) (by omega)
                refine lv_aload_n hx hb dX2_orderValue_79 rfl (lv_at hl 0 rfl) ?_
                refine r_Desk_ordered hx hb hts (by decide +kernel) hown hK hG hLx hKx h4x (hts (.fieldLink RX2 30 "DotStores" "ordered" "[J") (by decide +kernel)) dX2_orderValue_80 ?_
                refine lv_iload hx hb dX2_orderValue_83 (lv_at hl 3 rfl) ?_
                refine lv_lload_n hx hb dX2_orderValue_85 rfl (lv_at hl 1 rfl) ?_
                refine g_last hx hb hK hG hLod hKod (k) rfl (by rw [hnod]; omega) (by rw [hnod]; decide) dX2_orderValue_86 (fun H locs hG => ?_)
                obtain ⟨r2, er2⟩ : ∃ z, z = g_up r1 od k v := ⟨_, rfl⟩
                rw [← er2] at hG
                have ho2 : ∀ b, b ≠ od → r2 b = rJ b := fun b hb => by rw [er2, g_up_other _ _ _ hb]; exact inv.2.1 b hb
                have hfin : Sd (r2 od) (mm + 1) ∧ ∀ y, Mb (r2 od) (mm + 1) y ↔ (Mb (rJ od) mm y ∨ y = v) := ord_ins hsd hkm h1 h2 (fun i hi => by rw [er2, g_up_i _ _ _ _ (by omega)]; exact inv.2.2.1 i (by omega)) (by rw [er2, g_up_at]) (fun i q1 q2 => by rw [er2, g_up_i _ _ _ _ (by omega)]; exact inv.2.2.2 i (by omega) q2)
                refine lv_iload_n hx hb dX2_orderValue_87 rfl (lv_at hl 2 rfl) ?_
                refine lv_iconst (v := 1) hx hb dX2_orderValue_88 (by decide) ?_
                refine lv_iadd hx hb dX2_orderValue_89 ?_
                refine lv_topi (fun z7 ez7 => ?_)
                obtain rfl : z7 = nI (mm + 1) := ez7.trans (nI_1 mm)
                refine W.widen (k := 0) (n := 0) (by omega) (by omega) ?_
                exact W.iret (v := (nI (mm + 1))) hx hb hr (fun t9 h9 hW9 => ⟨⟨(nI (mm + 1)), (mm + 1, r2), rfl, ⟨rfl, by omega, ho2, hfin⟩, hG.at h9⟩, hG.2.2.1.F h9⟩) hG.2.2.1.2.2 dX2_orderValue_90
              · have hwk : k < mm - w := nI_lt_of (by omega) c4
                refine lv_aload_n hx hb dX2_orderValue_57 rfl (lv_at hl 0 rfl) ?_
                refine r_Desk_ordered hx hb hts (by decide +kernel) hown hK hG hLx hKx h4x (hts (.fieldLink RX2 30 "DotStores" "ordered" "[J") (by decide +kernel)) dX2_orderValue_58 ?_
                refine lv_iload hx hb dX2_orderValue_61 (lv_at hl 4 rfl) ?_
                refine lv_aload_n hx hb dX2_orderValue_63 rfl (lv_at hl 0 rfl) ?_
                refine r_Desk_ordered hx hb hts (by decide +kernel) hown hK hG hLx hKx h4x (hts (.fieldLink RX2 30 "DotStores" "ordered" "[J") (by decide +kernel)) dX2_orderValue_64 ?_
                refine lv_iload hx hb dX2_orderValue_67 (lv_at hl 4 rfl) ?_
                refine lv_iconst (v := 1) hx hb dX2_orderValue_69 (by decide) ?_
                refine lv_isub hx hb dX2_orderValue_70 ?_
                refine lv_topi (fun z8 ez8 => ?_)
                obtain rfl : z8 = nI (mm - w - 1) := ez8.trans (nI_pr (by omega))
                refine g_lald hx hb hK hG hLod hKod (mm - w - 1) rfl (by rw [hnod]; omega) (by rw [hnod]; decide) dX2_orderValue_71 ?_
                refine g_last hx hb hK hG hLod hKod (mm - w) rfl (by rw [hnod]; omega) (by rw [hnod]; decide) dX2_orderValue_72 (fun H locs hG => ?_)
                refine lv_iinc (v := (nI (mm - (w + 1)))) (lv' := [(5, .int (nI (mm - (w + 1)))), (0, .ref x), (1, .long v), (3, .int (nI mm)), (4, .int (nI k))]) hx hb dX2_orderValue_73 hl (k := 4) rfl ((nI_mn (show 0 < mm - w by omega)).trans (congrArg nI (by omega))) (by decide) rfl (fun ls hl => ?_)
                refine lv_goto (tgt := 50) hx hb dX2_orderValue_76 (by decide) ?_
                exact ih (w := w + 1) (hl := (lv_sub hl [1, 2, 3, 4, 0] rfl)) (hG := hG) (inv := ⟨by omega, fun b hb => by rw [g_up_other _ _ _ hb]; exact inv.2.1 b hb, fun i hi => by rw [g_up_i _ _ _ _ (by omega)]; exact inv.2.2.1 i (by omega), fun i q1 q2 => by
                    rcases Nat.eq_or_lt_of_le (show mm - w ≤ i by omega) with q | q
                    · subst q; rw [g_up_at]; exact inv.2.2.1 _ (by omega)
                    · rw [g_up_i _ _ _ _ (by omega)]; exact inv.2.2.2 i q q2⟩) (hf := by omega)
          · have c3 : rJ od k = v := (lg_cmp_eq _ _).mp (by first | exact c3 | exact Classical.not_not.mp c3)
            refine lv_iload_n hx hb dX2_orderValue_45 rfl (lv_at hl 2 rfl) ?_
            refine W.widen (k := 0) (n := 0) (by omega) (by omega) ?_
            exact W.iret (v := (nI mm)) hx hb hr (fun t9 h9 hW9 => ⟨⟨(nI mm), (mm, rJ), rfl, ⟨rfl, by omega, fun _ _ => rfl, hsd, ord_has hkl c3⟩, hG.at h9⟩, hG.2.2.1.F h9⟩) hG.2.2.1.2.2 dX2_orderValue_46
      · have c1 : rJ od k < v := (lg_cmp_lt _ _).mp (Int32.not_le.mp c1)
        refine lv_iinc (v := (nI (k + 1))) (lv' := [(4, .int (nI (k + 1))), (0, .ref x), (1, .long v), (3, .int (nI mm))]) hx hb dX2_orderValue_21 hl (k := 3) rfl (nI_1 k) (by decide) rfl (fun ls hl => ?_)
        refine lv_goto (tgt := 3) hx hb dX2_orderValue_24 (by decide) ?_
        exact ih (k := k + 1) (hl := (lv_sub hl [1, 2, 3, 0] rfl)) (hG := hG) (inv := ⟨by omega, fun i hi => (Nat.lt_succ_iff_lt_or_eq.mp hi).elim (inv.2 i) (fun q => by rw [q]; exact c1)⟩) (hf := by omega)
