/-! the class's constructor -/
def Zst (τ : gS) (a bs bl bt : Nat) : Prop := (∀ j, τ.2.2.2.2.1 bs j = 0) ∧ (∀ j, τ.2.2.2.2.1 bl j = 0) ∧ (∀ j, τ.2.2.2.1 bt j = 0) ∧ τ.2.2.2.2.2.2.1 a 3 = 0 ∧ τ.2.2.2.2.2.2.1 a 4 = 0
def nd_ok (L l : List Nat) : Prop := l.Nodup ∧ ∀ a ∈ l, a ∈ L
theorem nd_app {L l : List Nat} {b : Nat} (h : nd_ok L l) (hb : b ∉ L) : nd_ok (L ++ [b]) (l ++ [b]) := by
  refine ⟨?_, fun a ha => ?_⟩
  · rw [List.nodup_append]
    refine ⟨h.1, by simp, fun a ha c hc => ?_⟩
    rw [List.mem_singleton] at hc
    subst hc
    exact fun e => hb (e ▸ h.2 a ha)
  · rcases List.mem_append.mp ha with q | q
    · exact up_l (h.2 a q)
    · rw [List.mem_singleton.mp q]; exact up_q
/-- the constructor's loop: w replicas are there, their cells in m -/
def InitX (τ : gS) (x ra ma d dr dn dk dp dv dg tr ts tl tt od : Nat) (m : List Nat) (w : Nat) : Prop :=
  m.length = 4 * w ∧ nd_ok τ.1 ([x, ra, ma, d, dr, dn, dk, dp, dv, dg, tr, ts, tl, tt, od] ++ m) ∧
  isDk τ.1 τ.2.1 τ.2.2.1 τ.2.2.2.2.2.2.2 x ra ma d tr od ∧ isDt τ.1 τ.2.1 τ.2.2.1 τ.2.2.2.2.2.2.2 d dr dn dk dp dv dg ∧
  (isSt τ.1 τ.2.1 τ.2.2.1 τ.2.2.2.2.2.2.2 tr ts tl tt ∧ Zst τ tr ts tl tt) ∧
  (∀ k, k < w → (isSt τ.1 τ.2.1 τ.2.2.1 τ.2.2.2.2.2.2.2 (m.getD (4 * k) 0) (m.getD (4 * k + 1) 0) (m.getD (4 * k + 2) 0) (m.getD (4 * k + 3) 0) ∧ Zst τ (m.getD (4 * k) 0) (m.getD (4 * k + 1) 0) (m.getD (4 * k + 2) 0) (m.getD (4 * k + 3) 0)) ∧ τ.2.2.2.2.2.1 ra k = some (m.getD (4 * k) 0)) ∧
  (∀ r, τ.2.2.2.2.2.1 ma r = none) ∧ τ.2.2.2.2.2.2.1 x 5 = 0 ∧ τ.2.2.2.2.2.2.1 d 6 = 0 ∧ ∀ j, τ.2.2.2.1 dg j = 0
/-- a new State in the row of replicas -/
def NewS (τ τ' : gS) (ra w a bs bl bt : Nat) : Prop :=
  (∀ b, b ∈ τ.1 → b ∈ τ'.1 ∧ τ'.2.1 b = τ.2.1 b ∧ τ'.2.2.1 b = τ.2.2.1 b ∧ τ'.2.2.2.1 b = τ.2.2.2.1 b ∧ τ'.2.2.2.2.1 b = τ.2.2.2.2.1 b ∧ τ'.2.2.2.2.2.2.2 b = τ.2.2.2.2.2.2.2 b ∧ (b ≠ ra → τ'.2.2.2.2.2.1 b = τ.2.2.2.2.2.1 b) ∧ τ'.2.2.2.2.2.2.1 b = τ.2.2.2.2.2.2.1 b) ∧
  τ'.1 = (((τ.1 ++ [a]) ++ [bs]) ++ [bl]) ++ [bt] ∧ (a ∉ τ.1 ∧ bs ∉ τ.1 ++ [a] ∧ bl ∉ (τ.1 ++ [a]) ++ [bs] ∧ bt ∉ ((τ.1 ++ [a]) ++ [bs]) ++ [bl]) ∧
  (τ'.2.2.2.2.2.1 ra = fun j => if j = w then some a else τ.2.2.2.2.2.1 ra j) ∧
  isSt τ'.1 τ'.2.1 τ'.2.2.1 τ'.2.2.2.2.2.2.2 a bs bl bt ∧ Zst τ' a bs bl bt
theorem Zst_ext {τ τ' : gS} {a bs bl bt : Nat} (h : Zst τ a bs bl bt) (e1 : τ'.2.2.2.2.1 bs = τ.2.2.2.2.1 bs) (e2 : τ'.2.2.2.2.1 bl = τ.2.2.2.2.1 bl) (e3 : τ'.2.2.2.1 bt = τ.2.2.2.1 bt) (e4 : τ'.2.2.2.2.2.2.1 a = τ.2.2.2.2.2.2.1 a) : Zst τ' a bs bl bt := by
  obtain ⟨h1, h2, h3, h4, h5⟩ := h
  exact ⟨fun j => by rw [e1]; exact h1 j, fun j => by rw [e2]; exact h2 j, fun j => by rw [e3]; exact h3 j, by rw [e4]; exact h4, by rw [e4]; exact h5⟩
theorem getD_l {l m : List Nat} {i : Nat} (h : i < l.length) : (l ++ m).getD i 0 = l.getD i 0 := by
  rw [List.getD_eq_getElem?_getD, List.getD_eq_getElem?_getD, List.getElem?_append_left h]
theorem getD_r {l m : List Nat} {i k : Nat} (h : i = l.length + k) : (l ++ m).getD i 0 = m.getD k 0 := by
  rw [List.getD_eq_getElem?_getD, List.getD_eq_getElem?_getD, h, List.getElem?_append_right (by omega)]
  congr 2
  omega
theorem initX_s {τ τ' : gS} {x ra ma d dr dn dk dp dv dg tr ts tl tt od : Nat} {m : List Nat} {w a bs bl bt : Nat} (h : InitX τ x ra ma d dr dn dk dp dv dg tr ts tl tt od m w) (hN : NewS τ τ' ra w a bs bl bt) :
    InitX τ' x ra ma d dr dn dk dp dv dg tr ts tl tt od (m ++ [a, bs, bl, bt]) (w + 1) := by
  obtain ⟨h1, h2, h3, h4, ⟨h5, h6⟩, h7, h8, h9, h10, h11⟩ := h
  obtain ⟨n1, n2, ⟨n3, n4, n5, n6⟩, n7, n8, n9⟩ := hN
  have ext : Ext τ.1 τ'.1 τ.2.1 τ'.2.1 τ.2.2.1 τ'.2.2.1 τ.2.2.2.2.2.2.2 τ'.2.2.2.2.2.2.2 := fun b hb => ⟨(n1 b hb).1, (n1 b hb).2.1, (n1 b hb).2.2.1, (n1 b hb).2.2.2.2.2.1⟩
  have mem : ∀ b, b ∈ [x, ra, ma, d, dr, dn, dk, dp, dv, dg, tr, ts, tl, tt, od] ++ m → b ∈ τ.1 := h2.2
  have z : ∀ {p q r t : Nat}, isSt τ.1 τ.2.1 τ.2.2.1 τ.2.2.2.2.2.2.2 p q r t → Zst τ p q r t → isSt τ'.1 τ'.2.1 τ'.2.2.1 τ'.2.2.2.2.2.2.2 p q r t ∧ Zst τ' p q r t := fun hs hz => by
    refine ⟨isSt_ext ext hs, Zst_ext hz ?_ ?_ ?_ ?_⟩
    · exact (n1 _ hs.2.2.2.2.2.1).2.2.2.2.1
    · exact (n1 _ hs.2.2.2.2.2.2.2.2.1).2.2.2.2.1
    · exact (n1 _ hs.2.2.2.2.2.2.2.2.2.2.2.1).2.2.2.1
    · exact (n1 _ hs.1).2.2.2.2.2.2.2
  refine ⟨by rw [List.length_append, h1]; rfl, ?_, isDk_ext ext h3, isDt_ext ext h4, z h5 h6, fun k hk => ?_, fun r => ?_, ?_, ?_, fun j => ?_⟩
  · rw [n2, show m ++ [a, bs, bl, bt] = (((m ++ [a]) ++ [bs]) ++ [bl]) ++ [bt] by simp, ← List.append_assoc, ← List.append_assoc, ← List.append_assoc, ← List.append_assoc]
    exact nd_app (nd_app (nd_app (nd_app h2 n3) n4) n5) n6
  · rcases Nat.lt_succ_iff_lt_or_eq.mp hk with q | q
    · obtain ⟨⟨k1, k2⟩, k3⟩ := h7 k q
      rw [getD_l (show 4 * k < m.length by omega), getD_l (show 4 * k + 1 < m.length by omega), getD_l (show 4 * k + 2 < m.length by omega), getD_l (show 4 * k + 3 < m.length by omega)]
      refine ⟨z k1 k2, ?_⟩
      rw [n7]
      show (if k = w then some a else _) = _
      rw [if_neg (by omega)]; exact k3
    · subst q
      rw [getD_r (show 4 * k = m.length + 0 by omega), getD_r (show 4 * k + 1 = m.length + 1 by omega), getD_r (show 4 * k + 2 = m.length + 2 by omega), getD_r (show 4 * k + 3 = m.length + 3 by omega)]
      refine ⟨⟨n8, n9⟩, ?_⟩
      rw [n7]
      show (if k = k then some a else _) = _
      rw [if_pos rfl]; rfl
  · have hne : ma ≠ ra := fun e => by
      have := h2.1
      rw [e] at this
      simp at this
    rw [(n1 ma h3.2.2.2.2.2.2.2.2.2.2.1).2.2.2.2.2.2.1 hne]; exact h8 r
  · rw [(n1 x h3.1).2.2.2.2.2.2.2]; exact h9
  · rw [(n1 d h4.1).2.2.2.2.2.2.2]; exact h10
  · rw [(n1 dg h4.2.2.2.2.2.2.2.2.2.2.2.2.2.2.2.2.2.2.2.2.2.2.2.1).2.2.2.1]; exact h11 j
/-- where the cell of number i stands in the row of the constructor's cells -/
def permI (i : Nat) : Nat := if i < 4 then i else if i = 4 then 14 else if i < 11 then i - 1 else if i < 35 then i + 4 else i - 25
def adI (l : List Nat) (i : Nat) : Nat := l.getD (permI i) 0
def a0 : aT := ((0, 0), fun _ => 0, (fun _ => 0, fun _ => 0, fun _ => 0, fun _ => 0, fun _ => 0), fun _ _ => false, fun _ _ => false, fun _ => 0, fun _ => 0, fun _ _ => 0)
theorem Zst_X {τ : gS} {ad : Nat → Nat} {k : Nat} (h : Zst τ (ad (11 + 4 * k)) (ad (12 + 4 * k)) (ad (13 + 4 * k)) (ad (14 + 4 * k))) : StX τ ad k (fun _ => false) (fun _ => false) 0 0 (fun _ => 0) :=
  ⟨fun i _ => ⟨rb_0 h.1 i, rb_0 h.2.1 i⟩, h.2.2.2.1, h.2.2.2.2, fun e _ => h.2.2.1 e⟩
theorem initX_rep {τ : gS} {x ra ma d dr dn dk dp dv dg tr ts tl tt od : Nat} {m : List Nat} (h : InitX τ x ra ma d dr dn dk dp dv dg tr ts tl tt od m 6) : RepX τ (adI ([x, ra, ma, d, dr, dn, dk, dp, dv, dg, tr, ts, tl, tt, od] ++ m)) a0 := by
  obtain ⟨h1, h2, h3, h4, ⟨h5, h6⟩, h7, h8, h9, h10, h11⟩ := h
  have len : ([x, ra, ma, d, dr, dn, dk, dp, dv, dg, tr, ts, tl, tt, od] ++ m).length = 39 := by rw [List.length_append, h1]; rfl
  have pm : ∀ k c, k < 6 → c < 4 → adI ([x, ra, ma, d, dr, dn, dk, dp, dv, dg, tr, ts, tl, tt, od] ++ m) (11 + c + 4 * k) = m.getD (4 * k + c) 0 := by
    intro k c hk hc
    unfold adI
    have e : permI (11 + c + 4 * k) = [x, ra, ma, d, dr, dn, dk, dp, dv, dg, tr, ts, tl, tt, od].length + (4 * k + c) := by
      unfold permI
      rw [if_neg (by omega), if_neg (by omega), if_neg (by omega), if_pos (by omega)]
      show _ = 15 + _
      omega
    exact getD_r e
  have st : ∀ k, k < 7 → isSt τ.1 τ.2.1 τ.2.2.1 τ.2.2.2.2.2.2.2 (adI ([x, ra, ma, d, dr, dn, dk, dp, dv, dg, tr, ts, tl, tt, od] ++ m) (11 + 4 * k)) (adI ([x, ra, ma, d, dr, dn, dk, dp, dv, dg, tr, ts, tl, tt, od] ++ m) (12 + 4 * k)) (adI ([x, ra, ma, d, dr, dn, dk, dp, dv, dg, tr, ts, tl, tt, od] ++ m) (13 + 4 * k)) (adI ([x, ra, ma, d, dr, dn, dk, dp, dv, dg, tr, ts, tl, tt, od] ++ m) (14 + 4 * k)) ∧
      Zst τ (adI ([x, ra, ma, d, dr, dn, dk, dp, dv, dg, tr, ts, tl, tt, od] ++ m) (11 + 4 * k)) (adI ([x, ra, ma, d, dr, dn, dk, dp, dv, dg, tr, ts, tl, tt, od] ++ m) (12 + 4 * k)) (adI ([x, ra, ma, d, dr, dn, dk, dp, dv, dg, tr, ts, tl, tt, od] ++ m) (13 + 4 * k)) (adI ([x, ra, ma, d, dr, dn, dk, dp, dv, dg, tr, ts, tl, tt, od] ++ m) (14 + 4 * k)) := by
    intro k hk
    rcases Nat.lt_or_ge k 6 with q | q
    · rw [show 11 + 4 * k = 11 + 0 + 4 * k from rfl, show 12 + 4 * k = 11 + 1 + 4 * k from rfl, show 13 + 4 * k = 11 + 2 + 4 * k from rfl, show 14 + 4 * k = 11 + 3 + 4 * k from rfl, pm k 0 q (by omega), pm k 1 q (by omega), pm k 2 q (by omega), pm k 3 q (by omega)]
      exact (h7 k q).1
    · have : k = 6 := by omega
      subst this
      exact ⟨h5, h6⟩
  refine ⟨⟨by decide, fun i j hi hj e => ?_, h3, h4, fun k hk => (st k hk).1, fun r hr => ?_, fun r hr => absurd hr (Nat.not_lt_zero r), fun r _ _ => h8 r⟩, h9, Nat.le_refl _, ⟨h10, fun r _ => ⟨h11 r, Nat.zero_le _⟩, fun i hi => absurd hi (Nat.not_lt_zero i)⟩, fun k hk => Zst_X (st k hk).2⟩
  · replace hi : i < 39 := hi
    replace hj : j < 39 := hj
    have pb : ∀ i, i < 39 → permI i < 39 := fun i hi => by unfold permI; split <;> (try split) <;> (try split) <;> (try split) <;> omega
    have e2 : permI i = permI j := by
      unfold adI at e
      rw [List.getD_eq_getElem?_getD, List.getD_eq_getElem?_getD, List.getElem?_eq_getElem (by rw [len]; exact pb i hi), List.getElem?_eq_getElem (by rw [len]; exact pb j hj)] at e
      have P := List.pairwise_iff_getElem.mp h2.1
      rcases Nat.lt_trichotomy (permI i) (permI j) with q | q | q
      · exact absurd e (P _ _ _ _ q)
      · exact q
      · exact absurd e.symm (P _ _ _ _ q)
    unfold permI at e2
    revert e2
    (repeat' split) <;> intro e2 <;> omega
  · show τ.2.2.2.2.2.1 ra r = some (adI _ (11 + 0 + 4 * r))
    rw [pm r 0 hr (by omega)]
    exact (h7 r hr).2
theorem newS_mk {L : List Nat} {K n : Nat → Nat} {rI : Nat → Nat → Int32} {rJ : Nat → Nat → Int64} {rQ : Nat → Nat → Option Nat} {fI : Nat → Nat → Int32} {fR : Nat → Nat → Option Nat} {ra w q qs ql qt : Nat} (hLra : ra ∈ L) (hq : q ∉ L) (hqs : qs ∉ L ++ [q]) (hql : ql ∉ L ++ [q] ++ [qs]) (hqt : qt ∉ L ++ [q] ++ [qs] ++ [ql]) :
    NewS (L, K, n, rI, rJ, rQ, fI, fR) (((((L ++ [q]) ++ [qs]) ++ [ql]) ++ [qt]), (va_up (va_up (va_up (va_up K q 1) qs 5) ql 5) qt 4), (va_up (va_up (va_up n qs 4) ql 4) qt 32), (va_up rI qt (fun _ => 0)), (va_up (va_up rJ qs (fun _ => 0)) ql (fun _ => 0)), (g_up (rQ) ra (w) (some q)), (g_up ((g_up ((va_up fI q (fun _ => 0))) q 3 0)) q 4 0), (g_up ((g_up ((g_up ((va_up fR q (fun _ => none))) q 0 (some qs))) q 1 (some ql))) q 2 (some qt))) ra w q qs ql qt := by
  have e1 : q ≠ qs := fun e => hqs (e ▸ up_q)
  have e2 : q ≠ ql := fun e => hql (e ▸ up_l up_q)
  have e3 : q ≠ qt := fun e => hqt (e ▸ up_l (up_l up_q))
  have e4 : qs ≠ ql := fun e => hql (e ▸ up_q)
  have e5 : qs ≠ qt := fun e => hqt (e ▸ up_l up_q)
  have e6 : ql ≠ qt := fun e => hqt (e ▸ up_q)
  have nq : ∀ b, b ∈ L → b ≠ q := fun b hb => up_ne hq hb
  have ns : ∀ b, b ∈ L → b ≠ qs := fun b hb => up_ne hqs (up_l hb)
  have nl : ∀ b, b ∈ L → b ≠ ql := fun b hb => up_ne hql (up_l (up_l hb))
  have nt : ∀ b, b ∈ L → b ≠ qt := fun b hb => up_ne hqt (up_l (up_l (up_l hb)))
  refine ⟨fun b hb => ⟨up_l (up_l (up_l (up_l hb))), ?_, ?_, ?_, ?_, ?_, fun hm => ?_, ?_⟩, rfl, ⟨hq, hqs, hql, hqt⟩, ?_, ⟨up_l (up_l (up_l up_q)), ?_, ?_, ?_, ?_, up_l (up_l up_q), ?_, ?_, up_l up_q, ?_, ?_, up_q, ?_, ?_⟩, fun j => ?_, fun j => ?_, fun j => ?_, ?_, ?_⟩
  · simp [va_up, nq b hb, ns b hb, nl b hb, nt b hb]
  · simp [va_up, ns b hb, nl b hb, nt b hb]
  · simp [va_up, nt b hb]
  · simp [va_up, ns b hb, nl b hb]
  · funext j; simp [va_up, g_up, nq b hb]
  · funext j; simp [g_up, hm]
  · funext j; simp [va_up, g_up, nq b hb]
  · funext j; simp [g_up]
  · simp [va_up, e1, e2, e3]
  · simp [va_up, g_up]
  · simp [va_up, g_up]
  · simp [va_up, g_up]
  · simp [va_up, e4, e5]
  · simp [va_up, e4, e5]
  · simp [va_up, e6]
  · simp [va_up, e6]
  · simp [va_up]
  · simp [va_up]
  · simp [va_up, e4]
  · simp [va_up]
  · simp [va_up]
  · simp [va_up, g_up]
  · simp [va_up, g_up]
set_option maxHeartbeats 4000000 in
set_option maxRecDepth 100000 in
/-- DotStores() -/
theorem c_Desk_init (l : Launch) (G : gG) (base : Nat) {L : List Nat} {K n : Nat → Nat} {rI : Nat → Nat → Int32} {rJ : Nat → Nat → Int64} {rQ : Nat → Nat → Option Nat} {fI : Nat → Nat → Int32} {fR : Nat → Nat → Option Nat} {x : Nat} (hLx : x ∈ L) (hKx : K x = 2) : Met l yX2_init wsX2_init ({ frames := 2, cells := 38, slots := 2084, locals := 34 }) (va_Pc [.ref x] (g_Px G base (L, K, n, rI, rJ, rQ, fI, fR))) (g_Qv G base (fun u : gS × (Nat → Nat) => u.1) (fun u => u.2 0 = x ∧ RepX u.1 u.2 a0)) 38 2084 (g_A base) := by
  refine Met.ofW (cc := cX2_init) (maxL := 2) (ret := none) (by decide) rfl ?_
  intro p e s m args below meth c s₁ B hml hv
  obtain ⟨rfl, hPr, hX⟩ := hv
  have hx := B.exec
  have hb := B.bytes
  have hr := B.returns
  have hts := atoms_spec (ws := wsX2_init) B.pre
  have hown : s.vm.findClass RX2 = some m.cls := findClass_of_methodNamed B.named
  have hlocks := B.notSynchronized
  have hin : meth.name = "<init>" := (name_of_methodNamed B.named B.method).1
  have hK := hPr.2.2
  have hG := hPr.gw
  have hl := lv_entry ([.ref x]) (n := 2) (Nat.le_of_ble_eq_true rfl)
  rw [lg_entry_eq]
  generalize (lg_sl ([.ref x]) ++ List.replicate (2 - (lg_sl ([.ref x])).length) Slot.unset).toArray = ls at hl ⊢
  have hl : lv_has ls 2 [(0, .ref x)] := hl
  refine g_start hPr (fun H locs hG => ?_)
  refine lv_aload_n hx hb dX2_init_0 rfl (lv_at hl 0 rfl) ?_
  refine W.objInit hx hb hown (hts (.methodLink RX2 3 objectInit) (by decide +kernel)) (hts (.instanceMethod objectInit) (by decide +kernel)) (hts (.code objectInit ⟨#[0xb1]⟩ 1 none) (by decide +kernel)) rfl (by rw [hml]; exact hl.1) rfl dX2_init_1 (Nat.le_of_ble_eq_true rfl) (Nat.le_of_ble_eq_true rfl) ?_
  refine W.eq (g2 := F0 m 4 ls []) rfl ?_
  refine lv_aload_n hx hb dX2_init_4 rfl (lv_at hl 0 rfl) ?_
  refine lv_bipush (v := 6) hx hb dX2_init_5 (by decide) ?_
  refine g_newq hx hb hown (hts (.classLink RX2 9 RX1) (by decide +kernel)) hX.2.2.2.2.2.2.2.2.2.2 hK hG 6 rfl (by decide) (Nat.le_of_ble_eq_true rfl) (Nat.le_of_ble_eq_true rfl) dX2_init_7 (fun ra H hra hG => ?_)
  refine w_Desk_replicas hx hb hts (by decide +kernel) hown hK hG (up_l hLx) (up_k hra hLx hKx) hin (hts (.fieldLink RX2 11 "DotStores" "replicas" "[LDotStores$State;") (by decide +kernel)) dX2_init_10 (fun H locs hG => ?_)
  refine lv_aload_n hx hb dX2_init_13 rfl (lv_at hl 0 rfl) ?_
  refine lv_sipush (v := 250) hx hb dX2_init_14 (by decide) ?_
  refine g_newq hx hb hown (hts (.classLink RX2 9 RX1) (by decide +kernel)) hX.2.2.2.2.2.2.2.2.2.2 hK hG 250 rfl (by decide) (Nat.le_of_ble_eq_true rfl) (Nat.le_of_ble_eq_true rfl) dX2_init_17 (fun ma H hma hG => ?_)
  refine w_Desk_made hx hb hts (by decide +kernel) hown hK hG (up_l (up_l hLx)) (up_k hma (up_l hLx) (up_k hra hLx hKx)) hin (hts (.fieldLink RX2 15 "DotStores" "made" "[LDotStores$State;") (by decide +kernel)) dX2_init_20 (fun H locs hG => ?_)
  refine lv_aload_n hx hb dX2_init_23 rfl (lv_at hl 0 rfl) ?_
  refine g_new0 hx hb hts (by decide +kernel) hown (hts (.classLink RX2 18 RX0) (by decide +kernel)) (hts (.instantiable RX0 7) (by decide +kernel)) (hts (.initialized RX0) (by decide +kernel)) hK hG (Nat.le_of_ble_eq_true rfl) (Nat.le_of_ble_eq_true rfl) dX2_init_24 (fun d H hd hG => ?_)
  refine lv_dup hx hb dX2_init_27 rfl ?_
  refine g_callv (va_runIN (As := []) (rest := [.ref d, .ref x]) ⟨hx, hb, hml, hown, hts⟩ (c_Dots_init l G base up_q (va_up_self _ _ _)) ⟨va_cnB (host := "DotStores") 0 hts ggX2_init_X0_init rfl rfl rfl (hX.2.2.2.2.2.2.2.2.2.1 _ (List.mem_append_right _ (by decide +kernel))) (hts (.initialized RX0) (by decide +kernel)) (by decide +kernel) ⟨(Nat.le_of_ble_eq_true rfl), (Nat.le_of_ble_eq_true rfl)⟩, rfl, (hts (.instanceMethod yX0_init) (by decide +kernel))⟩ (g_ps hK hG) rfl rfl hl.1 rfl (lv_room (Nat.le_of_ble_eq_true rfl)) dX2_init_28 ⟨(Nat.le_of_ble_eq_true rfl), (Nat.le_of_ble_eq_true rfl)⟩) hG (fun u H locs hp hG => ?_)
  obtain ⟨dr, dn, dk, dp, dv, dg⟩ := u
  obtain ⟨hdr, hdn, hdk, hdp, hdv, hdg⟩ := hp
  replace hG : gw G base s.heap (((((((((((L ++ [ra]) ++ [ma]) ++ [d]) ++ [dr]) ++ [dn]) ++ [dk]) ++ [dp]) ++ [dv]) ++ [dg])), (va_up (va_up (va_up (va_up (va_up (va_up (va_up (va_up (va_up K ra 7) ma 7) d 0) dr 4) dn 4) dk 4) dp 4) dv 5) dg 4), (va_up (va_up (va_up (va_up (va_up (va_up (va_up (va_up n ra 6) ma 250) dr 250) dn 250) dk 250) dp 250) dv 250) dg 6), (va_up (va_up (va_up (va_up (va_up rI dr (fun _ => 0)) dn (fun _ => 0)) dk (fun _ => 0)) dp (fun _ => 0)) dg (fun _ => 0)), (va_up rJ dv (fun _ => 0)), (va_up (va_up rQ ra (fun _ => none)) ma (fun _ => none)), (g_up ((va_up fI d (fun _ => 0))) d 6 0), (g_up ((g_up ((g_up ((g_up ((g_up ((g_up ((va_up (g_up ((g_up (fR) x 0 (some ra))) x 1 (some ma)) d (fun _ => none))) d 0 (some dr))) d 1 (some dn))) d 2 (some dk))) d 3 (some dp))) d 4 (some dv))) d 5 (some dg))) H locs := hG
  refine w_Desk_dots hx hb hts (by decide +kernel) hown hK hG (up_l (up_l (up_l (up_l (up_l (up_l (up_l (up_l (up_l hLx))))))))) (up_k hdg (up_l (up_l (up_l (up_l (up_l (up_l (up_l (up_l hLx)))))))) (up_k hdv (up_l (up_l (up_l (up_l (up_l (up_l (up_l hLx))))))) (up_k hdp (up_l (up_l (up_l (up_l (up_l (up_l hLx)))))) (up_k hdk (up_l (up_l (up_l (up_l (up_l hLx))))) (up_k hdn (up_l (up_l (up_l (up_l hLx)))) (up_k hdr (up_l (up_l (up_l hLx))) (up_k hd (up_l (up_l hLx)) (up_k hma (up_l hLx) (up_k hra hLx hKx))))))))) hin (hts (.fieldLink RX2 21 "DotStores" "dots" "LDotStores$Dots;") (by decide +kernel)) dX2_init_31 (fun H locs hG => ?_)
  refine lv_aload_n hx hb dX2_init_34 rfl (lv_at hl 0 rfl) ?_
  refine g_new1 hx hb hts (by decide +kernel) hown (hts (.classLink RX2 9 RX1) (by decide +kernel)) (hts (.instantiable RX1 5) (by decide +kernel)) (hts (.initialized RX1) (by decide +kernel)) hK hG (Nat.le_of_ble_eq_true rfl) (Nat.le_of_ble_eq_true rfl) dX2_init_35 (fun tr H htr hG => ?_)
  refine lv_dup hx hb dX2_init_38 rfl ?_
  refine g_callv (va_runIN (As := []) (rest := [.ref tr, .ref x]) ⟨hx, hb, hml, hown, hts⟩ (c_State_init l G base up_q (va_up_self _ _ _)) ⟨va_cnB (host := "DotStores") 0 hts ggX2_init_X1_init rfl rfl rfl (hX.2.2.2.2.2.2.2.2.2.1 _ (List.mem_append_right _ (by decide +kernel))) (hts (.initialized RX1) (by decide +kernel)) (by decide +kernel) ⟨(Nat.le_of_ble_eq_true rfl), (Nat.le_of_ble_eq_true rfl)⟩, rfl, (hts (.instanceMethod yX1_init) (by decide +kernel))⟩ (g_ps hK hG) rfl rfl hl.1 rfl (lv_room (Nat.le_of_ble_eq_true rfl)) dX2_init_39 ⟨(Nat.le_of_ble_eq_true rfl), (Nat.le_of_ble_eq_true rfl)⟩) hG (fun u H locs hp hG => ?_)
  obtain ⟨ta, tb, tc⟩ := u
  obtain ⟨hta, htb, htc⟩ := hp
  replace hG : gw G base s.heap (((((((((((((((L ++ [ra]) ++ [ma]) ++ [d]) ++ [dr]) ++ [dn]) ++ [dk]) ++ [dp]) ++ [dv]) ++ [dg])) ++ [tr]) ++ [ta]) ++ [tb]) ++ [tc]), (va_up (va_up (va_up (va_up (va_up (va_up (va_up (va_up (va_up (va_up (va_up (va_up (va_up K ra 7) ma 7) d 0) dr 4) dn 4) dk 4) dp 4) dv 5) dg 4) tr 1) ta 5) tb 5) tc 4), (va_up (va_up (va_up (va_up (va_up (va_up (va_up (va_up (va_up (va_up (va_up n ra 6) ma 250) dr 250) dn 250) dk 250) dp 250) dv 250) dg 6) ta 4) tb 4) tc 32), (va_up (va_up (va_up (va_up (va_up (va_up rI dr (fun _ => 0)) dn (fun _ => 0)) dk (fun _ => 0)) dp (fun _ => 0)) dg (fun _ => 0)) tc (fun _ => 0)), (va_up (va_up (va_up rJ dv (fun _ => 0)) ta (fun _ => 0)) tb (fun _ => 0)), (va_up (va_up rQ ra (fun _ => none)) ma (fun _ => none)), (g_up ((g_up ((va_up (g_up ((va_up fI d (fun _ => 0))) d 6 0) tr (fun _ => 0))) tr 3 0)) tr 4 0), (g_up ((g_up ((g_up ((va_up (g_up ((g_up ((g_up ((g_up ((g_up ((g_up ((g_up ((va_up (g_up ((g_up (fR) x 0 (some ra))) x 1 (some ma)) d (fun _ => none))) d 0 (some dr))) d 1 (some dn))) d 2 (some dk))) d 3 (some dp))) d 4 (some dv))) d 5 (some dg))) x 2 (some d)) tr (fun _ => none))) tr 0 (some ta))) tr 1 (some tb))) tr 2 (some tc))) H locs := hG
  refine w_Desk_trial hx hb hts (by decide +kernel) hown hK hG (up_l (up_l (up_l (up_l (up_l (up_l (up_l (up_l (up_l (up_l (up_l (up_l (up_l hLx))))))))))))) (up_k htc (up_l (up_l (up_l (up_l (up_l (up_l (up_l (up_l (up_l (up_l (up_l (up_l hLx)))))))))))) (up_k htb (up_l (up_l (up_l (up_l (up_l (up_l (up_l (up_l (up_l (up_l (up_l hLx))))))))))) (up_k hta (up_l (up_l (up_l (up_l (up_l (up_l (up_l (up_l (up_l (up_l hLx)))))))))) (up_k htr (up_l (up_l (up_l (up_l (up_l (up_l (up_l (up_l (up_l hLx))))))))) (up_k hdg (up_l (up_l (up_l (up_l (up_l (up_l (up_l (up_l hLx)))))))) (up_k hdv (up_l (up_l (up_l (up_l (up_l (up_l (up_l hLx))))))) (up_k hdp (up_l (up_l (up_l (up_l (up_l (up_l hLx)))))) (up_k hdk (up_l (up_l (up_l (up_l (up_l hLx))))) (up_k hdn (up_l (up_l (up_l (up_l hLx)))) (up_k hdr (up_l (up_l (up_l hLx))) (up_k hd (up_l (up_l hLx)) (up_k hma (up_l hLx) (up_k hra hLx hKx))))))))))))) hin (hts (.fieldLink RX2 26 "DotStores" "trial" "LDotStores$State;") (by decide +kernel)) dX2_init_42 (fun H locs hG => ?_)
  refine lv_aload_n hx hb dX2_init_45 rfl (lv_at hl 0 rfl) ?_
  refine lv_sipush (v := 250) hx hb dX2_init_46 (by decide) ?_
  refine g_newa5 hx hb (hts (.arrayClass .long) (by decide +kernel)) hK hG 250 rfl (by decide) (Nat.le_of_ble_eq_true rfl) (Nat.le_of_ble_eq_true rfl) dX2_init_49 (fun od H hod hG => ?_)
  refine w_Desk_ordered hx hb hts (by decide +kernel) hown hK hG (up_l (up_l (up_l (up_l (up_l (up_l (up_l (up_l (up_l (up_l (up_l (up_l (up_l (up_l hLx)))))))))))))) (up_k hod (up_l (up_l (up_l (up_l (up_l (up_l (up_l (up_l (up_l (up_l (up_l (up_l (up_l hLx))))))))))))) (up_k htc (up_l (up_l (up_l (up_l (up_l (up_l (up_l (up_l (up_l (up_l (up_l (up_l hLx)))))))))))) (up_k htb (up_l (up_l (up_l (up_l (up_l (up_l (up_l (up_l (up_l (up_l (up_l hLx))))))))))) (up_k hta (up_l (up_l (up_l (up_l (up_l (up_l (up_l (up_l (up_l (up_l hLx)))))))))) (up_k htr (up_l (up_l (up_l (up_l (up_l (up_l (up_l (up_l (up_l hLx))))))))) (up_k hdg (up_l (up_l (up_l (up_l (up_l (up_l (up_l (up_l hLx)))))))) (up_k hdv (up_l (up_l (up_l (up_l (up_l (up_l (up_l hLx))))))) (up_k hdp (up_l (up_l (up_l (up_l (up_l (up_l hLx)))))) (up_k hdk (up_l (up_l (up_l (up_l (up_l hLx))))) (up_k hdn (up_l (up_l (up_l (up_l hLx)))) (up_k hdr (up_l (up_l (up_l hLx))) (up_k hd (up_l (up_l hLx)) (up_k hma (up_l hLx) (up_k hra hLx hKx)))))))))))))) hin (hts (.fieldLink RX2 30 "DotStores" "ordered" "[J") (by decide +kernel)) dX2_init_51 (fun H locs hG => ?_)
  refine lv_aload_n hx hb dX2_init_54 rfl (lv_at hl 0 rfl) ?_
  refine lv_iconst (v := 0) hx hb dX2_init_55 (by decide) ?_
  refine w_Desk_madeCount hx hb hts (by decide +kernel) hown hK hG (up_l (up_l (up_l (up_l (up_l (up_l (up_l (up_l (up_l (up_l (up_l (up_l (up_l (up_l hLx)))))))))))))) (up_k hod (up_l (up_l (up_l (up_l (up_l (up_l (up_l (up_l (up_l (up_l (up_l (up_l (up_l hLx))))))))))))) (up_k htc (up_l (up_l (up_l (up_l (up_l (up_l (up_l (up_l (up_l (up_l (up_l (up_l hLx)))))))))))) (up_k htb (up_l (up_l (up_l (up_l (up_l (up_l (up_l (up_l (up_l (up_l (up_l hLx))))))))))) (up_k hta (up_l (up_l (up_l (up_l (up_l (up_l (up_l (up_l (up_l (up_l hLx)))))))))) (up_k htr (up_l (up_l (up_l (up_l (up_l (up_l (up_l (up_l (up_l hLx))))))))) (up_k hdg (up_l (up_l (up_l (up_l (up_l (up_l (up_l (up_l hLx)))))))) (up_k hdv (up_l (up_l (up_l (up_l (up_l (up_l (up_l hLx))))))) (up_k hdp (up_l (up_l (up_l (up_l (up_l (up_l hLx)))))) (up_k hdk (up_l (up_l (up_l (up_l (up_l hLx))))) (up_k hdn (up_l (up_l (up_l (up_l hLx)))) (up_k hdr (up_l (up_l (up_l hLx))) (up_k hd (up_l (up_l hLx)) (up_k hma (up_l hLx) (up_k hra hLx hKx)))))))))))))) (hts (.fieldLink RX2 34 "DotStores" "madeCount" "I") (by decide +kernel)) dX2_init_56 (fun H locs hG => ?_)
  refine lv_iconst (v := 0) hx hb dX2_init_59 (by decide) ?_
  refine lv_istore_n (lv' := [(1, .int 0), (0, .ref x)]) hx hb dX2_init_60 rfl hl (by decide) rfl (fun ls hl => ?_)
  have hN0 : nd_ok L [x] := ⟨by simp, fun a ha => by rw [List.mem_singleton.mp ha]; exact hLx⟩
  have hND : nd_ok (((((((((((((((L ++ [ra]) ++ [ma]) ++ [d]) ++ [dr]) ++ [dn]) ++ [dk]) ++ [dp]) ++ [dv]) ++ [dg])) ++ [tr]) ++ [ta]) ++ [tb]) ++ [tc]) ++ [od]) [x, ra, ma, d, dr, dn, dk, dp, dv, dg, tr, ta, tb, tc, od] := nd_app (nd_app (nd_app (nd_app (nd_app (nd_app (nd_app (nd_app (nd_app (nd_app (nd_app (nd_app (nd_app (nd_app (hN0) hra) hma) hd) hdr) hdn) hdk) hdp) hdv) hdg) htr) hta) htb) htc) hod
  have hDK : isDk (((((((((((((((L ++ [ra]) ++ [ma]) ++ [d]) ++ [dr]) ++ [dn]) ++ [dk]) ++ [dp]) ++ [dv]) ++ [dg])) ++ [tr]) ++ [ta]) ++ [tb]) ++ [tc]) ++ [od]) (va_up (va_up (va_up (va_up (va_up (va_up (va_up (va_up (va_up (va_up (va_up (va_up (va_up (va_up K ra 7) ma 7) d 0) dr 4) dn 4) dk 4) dp 4) dv 5) dg 4) tr 1) ta 5) tb 5) tc 4) od 5) (va_up (va_up (va_up (va_up (va_up (va_up (va_up (va_up (va_up (va_up (va_up (va_up n ra 6) ma 250) dr 250) dn 250) dk 250) dp 250) dv 250) dg 6) ta 4) tb 4) tc 32) od 250) (g_up ((g_up ((g_up ((g_up ((g_up ((va_up (g_up ((g_up ((g_up ((g_up ((g_up ((g_up ((g_up ((va_up (g_up ((g_up (fR) x 0 (some ra))) x 1 (some ma)) d (fun _ => none))) d 0 (some dr))) d 1 (some dn))) d 2 (some dk))) d 3 (some dp))) d 4 (some dv))) d 5 (some dg))) x 2 (some d)) tr (fun _ => none))) tr 0 (some ta))) tr 1 (some tb))) tr 2 (some tc))) x 3 (some tr))) x 4 (some od)) x ra ma d tr od := ⟨(up_l (up_l (up_l (up_l (up_l (up_l (up_l (up_l (up_l (up_l (up_l (up_l (up_l (up_l hLx)))))))))))))), (up_k hod (up_l (up_l (up_l (up_l (up_l (up_l (up_l (up_l (up_l (up_l (up_l (up_l (up_l hLx))))))))))))) (up_k htc (up_l (up_l (up_l (up_l (up_l (up_l (up_l (up_l (up_l (up_l (up_l (up_l hLx)))))))))))) (up_k htb (up_l (up_l (up_l (up_l (up_l (up_l (up_l (up_l (up_l (up_l (up_l hLx))))))))))) (up_k hta (up_l (up_l (up_l (up_l (up_l (up_l (up_l (up_l (up_l (up_l hLx)))))))))) (up_k htr (up_l (up_l (up_l (up_l (up_l (up_l (up_l (up_l (up_l hLx))))))))) (up_k hdg (up_l (up_l (up_l (up_l (up_l (up_l (up_l (up_l hLx)))))))) (up_k hdv (up_l (up_l (up_l (up_l (up_l (up_l (up_l hLx))))))) (up_k hdp (up_l (up_l (up_l (up_l (up_l (up_l hLx)))))) (up_k hdk (up_l (up_l (up_l (up_l (up_l hLx))))) (up_k hdn (up_l (up_l (up_l (up_l hLx)))) (up_k hdr (up_l (up_l (up_l hLx))) (up_k hd (up_l (up_l hLx)) (up_k hma (up_l hLx) (up_k hra hLx hKx)))))))))))))), (by rw [g_up_i _ _ _ _ (by decide)]; exact (by rw [g_up_i _ _ _ _ (by decide)]; exact (by rw [g_up_b _ _ _ _ (up_ne htr (up_l (up_l (up_l (up_l (up_l (up_l (up_l (up_l (up_l hLx)))))))))), g_up_b _ _ _ _ (up_ne htr (up_l (up_l (up_l (up_l (up_l (up_l (up_l (up_l (up_l hLx)))))))))), g_up_b _ _ _ _ (up_ne htr (up_l (up_l (up_l (up_l (up_l (up_l (up_l (up_l (up_l hLx))))))))))]; exact (up_f htr (up_l (up_l (up_l (up_l (up_l (up_l (up_l (up_l (up_l hLx))))))))) (by rw [g_up_i _ _ _ _ (by decide)]; exact (by rw [g_up_b _ _ _ _ (up_ne hd (up_l (up_l hLx))), g_up_b _ _ _ _ (up_ne hd (up_l (up_l hLx))), g_up_b _ _ _ _ (up_ne hd (up_l (up_l hLx))), g_up_b _ _ _ _ (up_ne hd (up_l (up_l hLx))), g_up_b _ _ _ _ (up_ne hd (up_l (up_l hLx))), g_up_b _ _ _ _ (up_ne hd (up_l (up_l hLx)))]; exact (up_f hd (up_l (up_l hLx)) (by rw [g_up_i _ _ _ _ (by decide)]; exact (g_up_at _ _ _ _))))))))), (by rw [g_up_i _ _ _ _ (by decide)]; exact (by rw [g_up_i _ _ _ _ (by decide)]; exact (by rw [g_up_b _ _ _ _ (up_ne htr (up_l (up_l (up_l (up_l (up_l (up_l (up_l (up_l (up_l hLx)))))))))), g_up_b _ _ _ _ (up_ne htr (up_l (up_l (up_l (up_l (up_l (up_l (up_l (up_l (up_l hLx)))))))))), g_up_b _ _ _ _ (up_ne htr (up_l (up_l (up_l (up_l (up_l (up_l (up_l (up_l (up_l hLx))))))))))]; exact (up_f htr (up_l (up_l (up_l (up_l (up_l (up_l (up_l (up_l (up_l hLx))))))))) (by rw [g_up_i _ _ _ _ (by decide)]; exact (by rw [g_up_b _ _ _ _ (up_ne hd (up_l (up_l hLx))), g_up_b _ _ _ _ (up_ne hd (up_l (up_l hLx))), g_up_b _ _ _ _ (up_ne hd (up_l (up_l hLx))), g_up_b _ _ _ _ (up_ne hd (up_l (up_l hLx))), g_up_b _ _ _ _ (up_ne hd (up_l (up_l hLx))), g_up_b _ _ _ _ (up_ne hd (up_l (up_l hLx)))]; exact (up_f hd (up_l (up_l hLx)) (g_up_at _ _ _ _)))))))), (by rw [g_up_i _ _ _ _ (by decide)]; exact (by rw [g_up_i _ _ _ _ (by decide)]; exact (by rw [g_up_b _ _ _ _ (up_ne htr (up_l (up_l (up_l (up_l (up_l (up_l (up_l (up_l (up_l hLx)))))))))), g_up_b _ _ _ _ (up_ne htr (up_l (up_l (up_l (up_l (up_l (up_l (up_l (up_l (up_l hLx)))))))))), g_up_b _ _ _ _ (up_ne htr (up_l (up_l (up_l (up_l (up_l (up_l (up_l (up_l (up_l hLx))))))))))]; exact (up_f htr (up_l (up_l (up_l (up_l (up_l (up_l (up_l (up_l (up_l hLx))))))))) (g_up_at _ _ _ _))))), (by rw [g_up_i _ _ _ _ (by decide)]; exact (g_up_at _ _ _ _)), (g_up_at _ _ _ _), (up_l (up_l (up_l (up_l (up_l (up_l (up_l (up_l (up_l (up_l (up_l (up_l (up_l up_q))))))))))))), (up_k hod (up_l (up_l (up_l (up_l (up_l (up_l (up_l (up_l (up_l (up_l (up_l (up_l up_q)))))))))))) (up_k htc (up_l (up_l (up_l (up_l (up_l (up_l (up_l (up_l (up_l (up_l (up_l up_q))))))))))) (up_k htb (up_l (up_l (up_l (up_l (up_l (up_l (up_l (up_l (up_l (up_l up_q)))))))))) (up_k hta (up_l (up_l (up_l (up_l (up_l (up_l (up_l (up_l (up_l up_q))))))))) (up_k htr (up_l (up_l (up_l (up_l (up_l (up_l (up_l (up_l up_q)))))))) (up_k hdg (up_l (up_l (up_l (up_l (up_l (up_l (up_l up_q))))))) (up_k hdv (up_l (up_l (up_l (up_l (up_l (up_l up_q)))))) (up_k hdp (up_l (up_l (up_l (up_l (up_l up_q))))) (up_k hdk (up_l (up_l (up_l (up_l up_q)))) (up_k hdn (up_l (up_l (up_l up_q))) (up_k hdr (up_l (up_l up_q)) (up_k hd (up_l up_q) (up_k hma up_q (va_up_self _ _ _)))))))))))))), (up_k hod (up_l (up_l (up_l (up_l (up_l (up_l (up_l (up_l (up_l (up_l (up_l (up_l up_q)))))))))))) (up_k htc (up_l (up_l (up_l (up_l (up_l (up_l (up_l (up_l (up_l (up_l (up_l up_q))))))))))) (up_k htb (up_l (up_l (up_l (up_l (up_l (up_l (up_l (up_l (up_l (up_l up_q)))))))))) (up_k hta (up_l (up_l (up_l (up_l (up_l (up_l (up_l (up_l (up_l up_q))))))))) (up_k hdg (up_l (up_l (up_l (up_l (up_l (up_l (up_l up_q))))))) (up_k hdv (up_l (up_l (up_l (up_l (up_l (up_l up_q)))))) (up_k hdp (up_l (up_l (up_l (up_l (up_l up_q))))) (up_k hdk (up_l (up_l (up_l (up_l up_q)))) (up_k hdn (up_l (up_l (up_l up_q))) (up_k hdr (up_l (up_l up_q)) (up_k hma up_q (va_up_self _ _ _)))))))))))), (up_l (up_l (up_l (up_l (up_l (up_l (up_l (up_l (up_l (up_l (up_l (up_l up_q)))))))))))), (up_k hod (up_l (up_l (up_l (up_l (up_l (up_l (up_l (up_l (up_l (up_l (up_l up_q))))))))))) (up_k htc (up_l (up_l (up_l (up_l (up_l (up_l (up_l (up_l (up_l (up_l up_q)))))))))) (up_k htb (up_l (up_l (up_l (up_l (up_l (up_l (up_l (up_l (up_l up_q))))))))) (up_k hta (up_l (up_l (up_l (up_l (up_l (up_l (up_l (up_l up_q)))))))) (up_k htr (up_l (up_l (up_l (up_l (up_l (up_l (up_l up_q))))))) (up_k hdg (up_l (up_l (up_l (up_l (up_l (up_l up_q)))))) (up_k hdv (up_l (up_l (up_l (up_l (up_l up_q))))) (up_k hdp (up_l (up_l (up_l (up_l up_q)))) (up_k hdk (up_l (up_l (up_l up_q))) (up_k hdn (up_l (up_l up_q)) (up_k hdr (up_l up_q) (up_k hd up_q (va_up_self _ _ _))))))))))))), (up_k hod (up_l (up_l (up_l (up_l (up_l (up_l (up_l (up_l (up_l (up_l (up_l up_q))))))))))) (up_k htc (up_l (up_l (up_l (up_l (up_l (up_l (up_l (up_l (up_l (up_l up_q)))))))))) (up_k htb (up_l (up_l (up_l (up_l (up_l (up_l (up_l (up_l (up_l up_q))))))))) (up_k hta (up_l (up_l (up_l (up_l (up_l (up_l (up_l (up_l up_q)))))))) (up_k hdg (up_l (up_l (up_l (up_l (up_l (up_l up_q)))))) (up_k hdv (up_l (up_l (up_l (up_l (up_l up_q))))) (up_k hdp (up_l (up_l (up_l (up_l up_q)))) (up_k hdk (up_l (up_l (up_l up_q))) (up_k hdn (up_l (up_l up_q)) (up_k hdr (up_l up_q) (va_up_self _ _ _))))))))))), up_q, (va_up_self _ _ _), (va_up_self _ _ _)⟩
  have hDT : isDt (((((((((((((((L ++ [ra]) ++ [ma]) ++ [d]) ++ [dr]) ++ [dn]) ++ [dk]) ++ [dp]) ++ [dv]) ++ [dg])) ++ [tr]) ++ [ta]) ++ [tb]) ++ [tc]) ++ [od]) (va_up (va_up (va_up (va_up (va_up (va_up (va_up (va_up (va_up (va_up (va_up (va_up (va_up (va_up K ra 7) ma 7) d 0) dr 4) dn 4) dk 4) dp 4) dv 5) dg 4) tr 1) ta 5) tb 5) tc 4) od 5) (va_up (va_up (va_up (va_up (va_up (va_up (va_up (va_up (va_up (va_up (va_up (va_up n ra 6) ma 250) dr 250) dn 250) dk 250) dp 250) dv 250) dg 6) ta 4) tb 4) tc 32) od 250) (g_up ((g_up ((g_up ((g_up ((g_up ((va_up (g_up ((g_up ((g_up ((g_up ((g_up ((g_up ((g_up ((va_up (g_up ((g_up (fR) x 0 (some ra))) x 1 (some ma)) d (fun _ => none))) d 0 (some dr))) d 1 (some dn))) d 2 (some dk))) d 3 (some dp))) d 4 (some dv))) d 5 (some dg))) x 2 (some d)) tr (fun _ => none))) tr 0 (some ta))) tr 1 (some tb))) tr 2 (some tc))) x 3 (some tr))) x 4 (some od)) d dr dn dk dp dv dg := ⟨(up_l (up_l (up_l (up_l (up_l (up_l (up_l (up_l (up_l (up_l (up_l up_q))))))))))), (up_k hod (up_l (up_l (up_l (up_l (up_l (up_l (up_l (up_l (up_l (up_l up_q)))))))))) (up_k htc (up_l (up_l (up_l (up_l (up_l (up_l (up_l (up_l (up_l up_q))))))))) (up_k htb (up_l (up_l (up_l (up_l (up_l (up_l (up_l (up_l up_q)))))))) (up_k hta (up_l (up_l (up_l (up_l (up_l (up_l (up_l up_q))))))) (up_k htr (up_l (up_l (up_l (up_l (up_l (up_l up_q)))))) (up_k hdg (up_l (up_l (up_l (up_l (up_l up_q))))) (up_k hdv (up_l (up_l (up_l (up_l up_q)))) (up_k hdp (up_l (up_l (up_l up_q))) (up_k hdk (up_l (up_l up_q)) (up_k hdn (up_l up_q) (up_k hdr up_q (va_up_self _ _ _)))))))))))), (by rw [g_up_b _ _ _ _ (up_ne hd (up_l (up_l hLx))).symm]; exact (by rw [g_up_b _ _ _ _ (up_ne hd (up_l (up_l hLx))).symm]; exact (by rw [g_up_b _ _ _ _ (up_ne htr (up_l (up_l (up_l (up_l (up_l (up_l up_q))))))), g_up_b _ _ _ _ (up_ne htr (up_l (up_l (up_l (up_l (up_l (up_l up_q))))))), g_up_b _ _ _ _ (up_ne htr (up_l (up_l (up_l (up_l (up_l (up_l up_q)))))))]; exact (up_f htr (up_l (up_l (up_l (up_l (up_l (up_l up_q)))))) (by rw [g_up_b _ _ _ _ (up_ne hd (up_l (up_l hLx))).symm]; exact (by rw [g_up_i _ _ _ _ (by decide), g_up_i _ _ _ _ (by decide), g_up_i _ _ _ _ (by decide), g_up_i _ _ _ _ (by decide), g_up_i _ _ _ _ (by decide), g_up_at])))))), (by rw [g_up_b _ _ _ _ (up_ne hd (up_l (up_l hLx))).symm]; exact (by rw [g_up_b _ _ _ _ (up_ne hd (up_l (up_l hLx))).symm]; exact (by rw [g_up_b _ _ _ _ (up_ne htr (up_l (up_l (up_l (up_l (up_l (up_l up_q))))))), g_up_b _ _ _ _ (up_ne htr (up_l (up_l (up_l (up_l (up_l (up_l up_q))))))), g_up_b _ _ _ _ (up_ne htr (up_l (up_l (up_l (up_l (up_l (up_l up_q)))))))]; exact (up_f htr (up_l (up_l (up_l (up_l (up_l (up_l up_q)))))) (by rw [g_up_b _ _ _ _ (up_ne hd (up_l (up_l hLx))).symm]; exact (by rw [g_up_i _ _ _ _ (by decide), g_up_i _ _ _ _ (by decide), g_up_i _ _ _ _ (by decide), g_up_i _ _ _ _ (by decide), g_up_at])))))), (by rw [g_up_b _ _ _ _ (up_ne hd (up_l (up_l hLx))).symm]; exact (by rw [g_up_b _ _ _ _ (up_ne hd (up_l (up_l hLx))).symm]; exact (by rw [g_up_b _ _ _ _ (up_ne htr (up_l (up_l (up_l (up_l (up_l (up_l up_q))))))), g_up_b _ _ _ _ (up_ne htr (up_l (up_l (up_l (up_l (up_l (up_l up_q))))))), g_up_b _ _ _ _ (up_ne htr (up_l (up_l (up_l (up_l (up_l (up_l up_q)))))))]; exact (up_f htr (up_l (up_l (up_l (up_l (up_l (up_l up_q)))))) (by rw [g_up_b _ _ _ _ (up_ne hd (up_l (up_l hLx))).symm]; exact (by rw [g_up_i _ _ _ _ (by decide), g_up_i _ _ _ _ (by decide), g_up_i _ _ _ _ (by decide), g_up_at])))))), (by rw [g_up_b _ _ _ _ (up_ne hd (up_l (up_l hLx))).symm]; exact (by rw [g_up_b _ _ _ _ (up_ne hd (up_l (up_l hLx))).symm]; exact (by rw [g_up_b _ _ _ _ (up_ne htr (up_l (up_l (up_l (up_l (up_l (up_l up_q))))))), g_up_b _ _ _ _ (up_ne htr (up_l (up_l (up_l (up_l (up_l (up_l up_q))))))), g_up_b _ _ _ _ (up_ne htr (up_l (up_l (up_l (up_l (up_l (up_l up_q)))))))]; exact (up_f htr (up_l (up_l (up_l (up_l (up_l (up_l up_q)))))) (by rw [g_up_b _ _ _ _ (up_ne hd (up_l (up_l hLx))).symm]; exact (by rw [g_up_i _ _ _ _ (by decide), g_up_i _ _ _ _ (by decide), g_up_at])))))), (by rw [g_up_b _ _ _ _ (up_ne hd (up_l (up_l hLx))).symm]; exact (by rw [g_up_b _ _ _ _ (up_ne hd (up_l (up_l hLx))).symm]; exact (by rw [g_up_b _ _ _ _ (up_ne htr (up_l (up_l (up_l (up_l (up_l (up_l up_q))))))), g_up_b _ _ _ _ (up_ne htr (up_l (up_l (up_l (up_l (up_l (up_l up_q))))))), g_up_b _ _ _ _ (up_ne htr (up_l (up_l (up_l (up_l (up_l (up_l up_q)))))))]; exact (up_f htr (up_l (up_l (up_l (up_l (up_l (up_l up_q)))))) (by rw [g_up_b _ _ _ _ (up_ne hd (up_l (up_l hLx))).symm]; exact (by rw [g_up_i _ _ _ _ (by decide), g_up_at])))))), (by rw [g_up_b _ _ _ _ (up_ne hd (up_l (up_l hLx))).symm]; exact (by rw [g_up_b _ _ _ _ (up_ne hd (up_l (up_l hLx))).symm]; exact (by rw [g_up_b _ _ _ _ (up_ne htr (up_l (up_l (up_l (up_l (up_l (up_l up_q))))))), g_up_b _ _ _ _ (up_ne htr (up_l (up_l (up_l (up_l (up_l (up_l up_q))))))), g_up_b _ _ _ _ (up_ne htr (up_l (up_l (up_l (up_l (up_l (up_l up_q)))))))]; exact (up_f htr (up_l (up_l (up_l (up_l (up_l (up_l up_q)))))) (by rw [g_up_b _ _ _ _ (up_ne hd (up_l (up_l hLx))).symm]; exact (by rw [g_up_at])))))), (up_l (up_l (up_l (up_l (up_l (up_l (up_l (up_l (up_l (up_l up_q)))))))))), (up_k hod (up_l (up_l (up_l (up_l (up_l (up_l (up_l (up_l (up_l up_q))))))))) (up_k htc (up_l (up_l (up_l (up_l (up_l (up_l (up_l (up_l up_q)))))))) (up_k htb (up_l (up_l (up_l (up_l (up_l (up_l (up_l up_q))))))) (up_k hta (up_l (up_l (up_l (up_l (up_l (up_l up_q)))))) (up_k htr (up_l (up_l (up_l (up_l (up_l up_q))))) (up_k hdg (up_l (up_l (up_l (up_l up_q)))) (up_k hdv (up_l (up_l (up_l up_q))) (up_k hdp (up_l (up_l up_q)) (up_k hdk (up_l up_q) (up_k hdn up_q (va_up_self _ _ _))))))))))), (up_k hod (up_l (up_l (up_l (up_l (up_l (up_l (up_l (up_l (up_l up_q))))))))) (up_k htc (up_l (up_l (up_l (up_l (up_l (up_l (up_l (up_l up_q)))))))) (up_k htb (up_l (up_l (up_l (up_l (up_l (up_l (up_l up_q))))))) (up_k hta (up_l (up_l (up_l (up_l (up_l (up_l up_q)))))) (up_k hdg (up_l (up_l (up_l (up_l up_q)))) (up_k hdv (up_l (up_l (up_l up_q))) (up_k hdp (up_l (up_l up_q)) (up_k hdk (up_l up_q) (up_k hdn up_q (va_up_self _ _ _)))))))))), (up_l (up_l (up_l (up_l (up_l (up_l (up_l (up_l (up_l up_q))))))))), (up_k hod (up_l (up_l (up_l (up_l (up_l (up_l (up_l (up_l up_q)))))))) (up_k htc (up_l (up_l (up_l (up_l (up_l (up_l (up_l up_q))))))) (up_k htb (up_l (up_l (up_l (up_l (up_l (up_l up_q)))))) (up_k hta (up_l (up_l (up_l (up_l (up_l up_q))))) (up_k htr (up_l (up_l (up_l (up_l up_q)))) (up_k hdg (up_l (up_l (up_l up_q))) (up_k hdv (up_l (up_l up_q)) (up_k hdp (up_l up_q) (up_k hdk up_q (va_up_self _ _ _)))))))))), (up_k hod (up_l (up_l (up_l (up_l (up_l (up_l (up_l (up_l up_q)))))))) (up_k htc (up_l (up_l (up_l (up_l (up_l (up_l (up_l up_q))))))) (up_k htb (up_l (up_l (up_l (up_l (up_l (up_l up_q)))))) (up_k hta (up_l (up_l (up_l (up_l (up_l up_q))))) (up_k hdg (up_l (up_l (up_l up_q))) (up_k hdv (up_l (up_l up_q)) (up_k hdp (up_l up_q) (up_k hdk up_q (va_up_self _ _ _))))))))), (up_l (up_l (up_l (up_l (up_l (up_l (up_l (up_l up_q)))))))), (up_k hod (up_l (up_l (up_l (up_l (up_l (up_l (up_l up_q))))))) (up_k htc (up_l (up_l (up_l (up_l (up_l (up_l up_q)))))) (up_k htb (up_l (up_l (up_l (up_l (up_l up_q))))) (up_k hta (up_l (up_l (up_l (up_l up_q)))) (up_k htr (up_l (up_l (up_l up_q))) (up_k hdg (up_l (up_l up_q)) (up_k hdv (up_l up_q) (up_k hdp up_q (va_up_self _ _ _))))))))), (up_k hod (up_l (up_l (up_l (up_l (up_l (up_l (up_l up_q))))))) (up_k htc (up_l (up_l (up_l (up_l (up_l (up_l up_q)))))) (up_k htb (up_l (up_l (up_l (up_l (up_l up_q))))) (up_k hta (up_l (up_l (up_l (up_l up_q)))) (up_k hdg (up_l (up_l up_q)) (up_k hdv (up_l up_q) (up_k hdp up_q (va_up_self _ _ _)))))))), (up_l (up_l (up_l (up_l (up_l (up_l (up_l up_q))))))), (up_k hod (up_l (up_l (up_l (up_l (up_l (up_l up_q)))))) (up_k htc (up_l (up_l (up_l (up_l (up_l up_q))))) (up_k htb (up_l (up_l (up_l (up_l up_q)))) (up_k hta (up_l (up_l (up_l up_q))) (up_k htr (up_l (up_l up_q)) (up_k hdg (up_l up_q) (up_k hdv up_q (va_up_self _ _ _)))))))), (up_k hod (up_l (up_l (up_l (up_l (up_l (up_l up_q)))))) (up_k htc (up_l (up_l (up_l (up_l (up_l up_q))))) (up_k htb (up_l (up_l (up_l (up_l up_q)))) (up_k hta (up_l (up_l (up_l up_q))) (up_k hdg (up_l up_q) (up_k hdv up_q (va_up_self _ _ _))))))), (up_l (up_l (up_l (up_l (up_l (up_l up_q)))))), (up_k hod (up_l (up_l (up_l (up_l (up_l up_q))))) (up_k htc (up_l (up_l (up_l (up_l up_q)))) (up_k htb (up_l (up_l (up_l up_q))) (up_k hta (up_l (up_l up_q)) (up_k htr (up_l up_q) (up_k hdg up_q (va_up_self _ _ _))))))), (up_k hod (up_l (up_l (up_l (up_l (up_l up_q))))) (up_k htc (up_l (up_l (up_l (up_l up_q)))) (up_k htb (up_l (up_l (up_l up_q))) (up_k hta (up_l (up_l up_q)) (up_k hdg up_q (va_up_self _ _ _)))))), (up_l (up_l (up_l (up_l (up_l up_q))))), (up_k hod (up_l (up_l (up_l (up_l up_q)))) (up_k htc (up_l (up_l (up_l up_q))) (up_k htb (up_l (up_l up_q)) (up_k hta (up_l up_q) (up_k htr up_q (va_up_self _ _ _)))))), (up_k hod (up_l (up_l (up_l (up_l up_q)))) (up_k htc (up_l (up_l (up_l up_q))) (up_k htb (up_l (up_l up_q)) (up_k hta (up_l up_q) (va_up_self _ _ _)))))⟩
  have hST : isSt (((((((((((((((L ++ [ra]) ++ [ma]) ++ [d]) ++ [dr]) ++ [dn]) ++ [dk]) ++ [dp]) ++ [dv]) ++ [dg])) ++ [tr]) ++ [ta]) ++ [tb]) ++ [tc]) ++ [od]) (va_up (va_up (va_up (va_up (va_up (va_up (va_up (va_up (va_up (va_up (va_up (va_up (va_up (va_up K ra 7) ma 7) d 0) dr 4) dn 4) dk 4) dp 4) dv 5) dg 4) tr 1) ta 5) tb 5) tc 4) od 5) (va_up (va_up (va_up (va_up (va_up (va_up (va_up (va_up (va_up (va_up (va_up (va_up n ra 6) ma 250) dr 250) dn 250) dk 250) dp 250) dv 250) dg 6) ta 4) tb 4) tc 32) od 250) (g_up ((g_up ((g_up ((g_up ((g_up ((va_up (g_up ((g_up ((g_up ((g_up ((g_up ((g_up ((g_up ((va_up (g_up ((g_up (fR) x 0 (some ra))) x 1 (some ma)) d (fun _ => none))) d 0 (some dr))) d 1 (some dn))) d 2 (some dk))) d 3 (some dp))) d 4 (some dv))) d 5 (some dg))) x 2 (some d)) tr (fun _ => none))) tr 0 (some ta))) tr 1 (some tb))) tr 2 (some tc))) x 3 (some tr))) x 4 (some od)) tr ta tb tc := ⟨(up_l (up_l (up_l (up_l up_q)))), (up_k hod (up_l (up_l (up_l up_q))) (up_k htc (up_l (up_l up_q)) (up_k htb (up_l up_q) (up_k hta up_q (va_up_self _ _ _))))), (by rw [g_up_b _ _ _ _ (up_ne htr (up_l (up_l (up_l (up_l (up_l (up_l (up_l (up_l (up_l hLx)))))))))).symm]; exact (by rw [g_up_b _ _ _ _ (up_ne htr (up_l (up_l (up_l (up_l (up_l (up_l (up_l (up_l (up_l hLx)))))))))).symm]; exact (by rw [g_up_i _ _ _ _ (by decide), g_up_i _ _ _ _ (by decide), g_up_at]))), (by rw [g_up_b _ _ _ _ (up_ne htr (up_l (up_l (up_l (up_l (up_l (up_l (up_l (up_l (up_l hLx)))))))))).symm]; exact (by rw [g_up_b _ _ _ _ (up_ne htr (up_l (up_l (up_l (up_l (up_l (up_l (up_l (up_l (up_l hLx)))))))))).symm]; exact (by rw [g_up_i _ _ _ _ (by decide), g_up_at]))), (by rw [g_up_b _ _ _ _ (up_ne htr (up_l (up_l (up_l (up_l (up_l (up_l (up_l (up_l (up_l hLx)))))))))).symm]; exact (by rw [g_up_b _ _ _ _ (up_ne htr (up_l (up_l (up_l (up_l (up_l (up_l (up_l (up_l (up_l hLx)))))))))).symm]; exact (by rw [g_up_at]))), (up_l (up_l (up_l up_q))), (up_k hod (up_l (up_l up_q)) (up_k htc (up_l up_q) (up_k htb up_q (va_up_self _ _ _)))), (up_k hod (up_l (up_l up_q)) (up_k htc (up_l up_q) (up_k htb up_q (va_up_self _ _ _)))), (up_l (up_l up_q)), (up_k hod (up_l up_q) (up_k htc up_q (va_up_self _ _ _))), (up_k hod (up_l up_q) (up_k htc up_q (va_up_self _ _ _))), (up_l up_q), (up_k hod up_q (va_up_self _ _ _)), (up_k hod up_q (va_up_self _ _ _))⟩
  have hz1 : (va_up (va_up (va_up (va_up rJ dv (fun _ => 0)) ta (fun _ => 0)) tb (fun _ => 0)) od (fun _ => 0)) ta = fun _ => 0 := (up_k hod (up_l (up_l up_q)) (up_k htb up_q (va_up_self _ _ _)))
  have hz2 : (va_up (va_up (va_up (va_up rJ dv (fun _ => 0)) ta (fun _ => 0)) tb (fun _ => 0)) od (fun _ => 0)) tb = fun _ => 0 := (up_k hod (up_l up_q) (va_up_self _ _ _))
  have hz3 : (va_up (va_up (va_up (va_up (va_up (va_up rI dr (fun _ => 0)) dn (fun _ => 0)) dk (fun _ => 0)) dp (fun _ => 0)) dg (fun _ => 0)) tc (fun _ => 0)) tc = fun _ => 0 := (va_up_self _ _ _)
  have hz4 : (g_up ((g_up ((g_up ((va_up (g_up ((va_up fI d (fun _ => 0))) d 6 0) tr (fun _ => 0))) tr 3 0)) tr 4 0)) x 5 0) tr 3 = 0 := (by rw [g_up_b _ _ _ _ (up_ne htr (up_l (up_l (up_l (up_l (up_l (up_l (up_l (up_l (up_l hLx)))))))))).symm]; exact (by rw [g_up_i _ _ _ _ (by decide), g_up_at]))
  have hz5 : (g_up ((g_up ((g_up ((va_up (g_up ((va_up fI d (fun _ => 0))) d 6 0) tr (fun _ => 0))) tr 3 0)) tr 4 0)) x 5 0) tr 4 = 0 := (by rw [g_up_b _ _ _ _ (up_ne htr (up_l (up_l (up_l (up_l (up_l (up_l (up_l (up_l (up_l hLx)))))))))).symm]; exact (by rw [g_up_at]))
  have hz6 : (va_up (va_up rQ ra (fun _ => none)) ma (fun _ => none)) ma = fun _ => none := (va_up_self _ _ _)
  have hz7 : (g_up ((g_up ((g_up ((va_up (g_up ((va_up fI d (fun _ => 0))) d 6 0) tr (fun _ => 0))) tr 3 0)) tr 4 0)) x 5 0) x 5 = 0 := (g_up_at _ _ _ _)
  have hz8 : (g_up ((g_up ((g_up ((va_up (g_up ((va_up fI d (fun _ => 0))) d 6 0) tr (fun _ => 0))) tr 3 0)) tr 4 0)) x 5 0) d 6 = 0 := (by rw [g_up_b _ _ _ _ (up_ne hd (up_l (up_l hLx))).symm]; exact (by rw [g_up_b _ _ _ _ (up_ne htr (up_l (up_l (up_l (up_l (up_l (up_l up_q))))))), g_up_b _ _ _ _ (up_ne htr (up_l (up_l (up_l (up_l (up_l (up_l up_q)))))))]; exact (up_f htr (up_l (up_l (up_l (up_l (up_l (up_l up_q)))))) (by rw [g_up_at]))))
  have hz9 : (va_up (va_up (va_up (va_up (va_up (va_up rI dr (fun _ => 0)) dn (fun _ => 0)) dk (fun _ => 0)) dp (fun _ => 0)) dg (fun _ => 0)) tc (fun _ => 0)) dg = fun _ => 0 := (up_k htc (up_l (up_l (up_l up_q))) (va_up_self _ _ _))
  have hI : InitX ((((((((((((((((L ++ [ra]) ++ [ma]) ++ [d]) ++ [dr]) ++ [dn]) ++ [dk]) ++ [dp]) ++ [dv]) ++ [dg])) ++ [tr]) ++ [ta]) ++ [tb]) ++ [tc]) ++ [od]), (va_up (va_up (va_up (va_up (va_up (va_up (va_up (va_up (va_up (va_up (va_up (va_up (va_up (va_up K ra 7) ma 7) d 0) dr 4) dn 4) dk 4) dp 4) dv 5) dg 4) tr 1) ta 5) tb 5) tc 4) od 5), (va_up (va_up (va_up (va_up (va_up (va_up (va_up (va_up (va_up (va_up (va_up (va_up n ra 6) ma 250) dr 250) dn 250) dk 250) dp 250) dv 250) dg 6) ta 4) tb 4) tc 32) od 250), (va_up (va_up (va_up (va_up (va_up (va_up rI dr (fun _ => 0)) dn (fun _ => 0)) dk (fun _ => 0)) dp (fun _ => 0)) dg (fun _ => 0)) tc (fun _ => 0)), (va_up (va_up (va_up (va_up rJ dv (fun _ => 0)) ta (fun _ => 0)) tb (fun _ => 0)) od (fun _ => 0)), (va_up (va_up rQ ra (fun _ => none)) ma (fun _ => none)), (g_up ((g_up ((g_up ((va_up (g_up ((va_up fI d (fun _ => 0))) d 6 0) tr (fun _ => 0))) tr 3 0)) tr 4 0)) x 5 0), (g_up ((g_up ((g_up ((g_up ((g_up ((va_up (g_up ((g_up ((g_up ((g_up ((g_up ((g_up ((g_up ((va_up (g_up ((g_up (fR) x 0 (some ra))) x 1 (some ma)) d (fun _ => none))) d 0 (some dr))) d 1 (some dn))) d 2 (some dk))) d 3 (some dp))) d 4 (some dv))) d 5 (some dg))) x 2 (some d)) tr (fun _ => none))) tr 0 (some ta))) tr 1 (some tb))) tr 2 (some tc))) x 3 (some tr))) x 4 (some od))) x ra ma d dr dn dk dp dv dg tr ta tb tc od [] 0 := ⟨rfl, by rw [List.append_nil]; exact hND, hDK, hDT, ⟨hST, fun j => congrFun hz1 j, fun j => congrFun hz2 j, fun j => congrFun hz3 j, hz4, hz5⟩, fun k hk => absurd hk (Nat.not_lt_zero k), fun r => congrFun hz6 r, hz7, hz8, fun j => congrFun hz9 j⟩
  clear hN0 hND hDK hDT hST hz1 hz2 hz3 hz4 hz5 hz6 hz7 hz8 hz9
  obtain ⟨L1, e9⟩ : ∃ z, z = (((((((((((((((L ++ [ra]) ++ [ma]) ++ [d]) ++ [dr]) ++ [dn]) ++ [dk]) ++ [dp]) ++ [dv]) ++ [dg])) ++ [tr]) ++ [ta]) ++ [tb]) ++ [tc]) ++ [od]) := ⟨_, rfl⟩
  rw [← e9] at hG hI
  clear e9
  obtain ⟨K1, e9⟩ : ∃ z, z = (va_up (va_up (va_up (va_up (va_up (va_up (va_up (va_up (va_up (va_up (va_up (va_up (va_up (va_up K ra 7) ma 7) d 0) dr 4) dn 4) dk 4) dp 4) dv 5) dg 4) tr 1) ta 5) tb 5) tc 4) od 5) := ⟨_, rfl⟩
  rw [← e9] at hG hI
  clear e9
  obtain ⟨n1, e9⟩ : ∃ z, z = (va_up (va_up (va_up (va_up (va_up (va_up (va_up (va_up (va_up (va_up (va_up (va_up n ra 6) ma 250) dr 250) dn 250) dk 250) dp 250) dv 250) dg 6) ta 4) tb 4) tc 32) od 250) := ⟨_, rfl⟩
  rw [← e9] at hG hI
  clear e9
  obtain ⟨rI1, e9⟩ : ∃ z, z = (va_up (va_up (va_up (va_up (va_up (va_up rI dr (fun _ => 0)) dn (fun _ => 0)) dk (fun _ => 0)) dp (fun _ => 0)) dg (fun _ => 0)) tc (fun _ => 0)) := ⟨_, rfl⟩
  rw [← e9] at hG hI
  clear e9
  obtain ⟨rJ1, e9⟩ : ∃ z, z = (va_up (va_up (va_up (va_up rJ dv (fun _ => 0)) ta (fun _ => 0)) tb (fun _ => 0)) od (fun _ => 0)) := ⟨_, rfl⟩
  rw [← e9] at hG hI
  clear e9
  obtain ⟨rQ1, e9⟩ : ∃ z, z = (va_up (va_up rQ ra (fun _ => none)) ma (fun _ => none)) := ⟨_, rfl⟩
  rw [← e9] at hG hI
  clear e9
  obtain ⟨fI1, e9⟩ : ∃ z, z = (g_up ((g_up ((g_up ((va_up (g_up ((va_up fI d (fun _ => 0))) d 6 0) tr (fun _ => 0))) tr 3 0)) tr 4 0)) x 5 0) := ⟨_, rfl⟩
  rw [← e9] at hG hI
  clear e9
  obtain ⟨fR1, e9⟩ : ∃ z, z = (g_up ((g_up ((g_up ((g_up ((g_up ((va_up (g_up ((g_up ((g_up ((g_up ((g_up ((g_up ((g_up ((va_up (g_up ((g_up (fR) x 0 (some ra))) x 1 (some ma)) d (fun _ => none))) d 0 (some dr))) d 1 (some dn))) d 2 (some dk))) d 3 (some dp))) d 4 (some dv))) d 5 (some dg))) x 2 (some d)) tr (fun _ => none))) tr 0 (some ta))) tr 1 (some tb))) tr 2 (some tc))) x 3 (some tr))) x 4 (some od)) := ⟨_, rfl⟩
  rw [← e9] at hG hI
  clear e9
  have hL1 : x ∈ L1 := hI.2.2.1.1
  have hK1 : K1 x = 2 := hI.2.2.1.2.1
  have hF1 : fR1 x 0 = some ra := hI.2.2.1.2.2.1
  have hLra1 : ra ∈ L1 := hI.2.2.1.2.2.2.2.2.2.2.1
  have hKra1 : K1 ra = 7 := hI.2.2.1.2.2.2.2.2.2.2.2.1
  have hnra1 : n1 ra = 6 := hI.2.2.1.2.2.2.2.2.2.2.2.2.1
  refine lv_iload_n hx hb dX2_init_61 rfl (lv_at hl 0 rfl) ?_
  refine lv_bipush (v := 6) hx hb dX2_init_62 (by decide) ?_
  refine lv_icmp_ge (tgt := 86) hx hb dX2_init_64 (by decide) (fun cq => ?_) (fun cq => ?_)
  · exact absurd cq (by decide)
  · refine lv_aload_n hx hb dX2_init_67 rfl (lv_at hl 1 rfl) ?_
    refine r_Desk_replicas hx hb hts (by decide +kernel) hown hK hG hL1 hK1 hF1 (hts (.fieldLink RX2 11 "DotStores" "replicas" "[LDotStores$State;") (by decide +kernel)) dX2_init_68 ?_
    refine lv_iload_n hx hb dX2_init_71 rfl (lv_at hl 0 rfl) ?_
    refine g_new1 hx hb hts (by decide +kernel) hown (hts (.classLink RX2 9 RX1) (by decide +kernel)) (hts (.instantiable RX1 5) (by decide +kernel)) (hts (.initialized RX1) (by decide +kernel)) hK hG (Nat.le_of_ble_eq_true rfl) (Nat.le_of_ble_eq_true rfl) dX2_init_72 (fun a0 H ha0 hG => ?_)
    refine lv_dup hx hb dX2_init_75 rfl ?_
    refine g_callv (va_runIN (As := []) (rest := [.ref a0, .int 0, .ref ra]) ⟨hx, hb, hml, hown, hts⟩ (c_State_init l G base up_q (va_up_self _ _ _)) ⟨va_cnB (host := "DotStores") 0 hts ggX2_init_X1_init rfl rfl rfl (hX.2.2.2.2.2.2.2.2.2.1 _ (List.mem_append_right _ (by decide +kernel))) (hts (.initialized RX1) (by decide +kernel)) (by decide +kernel) ⟨(Nat.le_of_ble_eq_true rfl), (Nat.le_of_ble_eq_true rfl)⟩, rfl, (hts (.instanceMethod yX1_init) (by decide +kernel))⟩ (g_ps hK hG) rfl rfl hl.1 rfl (lv_room (Nat.le_of_ble_eq_true rfl)) dX2_init_76 ⟨(Nat.le_of_ble_eq_true rfl), (Nat.le_of_ble_eq_true rfl)⟩) hG (fun u H locs hp hG => ?_)
    obtain ⟨b0, c0, e0⟩ := u
    obtain ⟨hb0, hc0, he0⟩ := hp
    replace hG : gw G base s.heap (((((L1 ++ [a0]) ++ [b0]) ++ [c0]) ++ [e0]), (va_up (va_up (va_up (va_up K1 a0 1) b0 5) c0 5) e0 4), (va_up (va_up (va_up n1 b0 4) c0 4) e0 32), (va_up rI1 e0 (fun _ => 0)), (va_up (va_up rJ1 b0 (fun _ => 0)) c0 (fun _ => 0)), rQ1, (g_up ((g_up ((va_up fI1 a0 (fun _ => 0))) a0 3 0)) a0 4 0), (g_up ((g_up ((g_up ((va_up fR1 a0 (fun _ => none))) a0 0 (some b0))) a0 1 (some c0))) a0 2 (some e0))) H locs := hG
    refine g_aast hx hb hK hG (up_l (up_l (up_l (up_l hLra1)))) (up_k he0 (up_l (up_l (up_l hLra1))) (up_k hc0 (up_l (up_l hLra1)) (up_k hb0 (up_l hLra1) (up_k ha0 hLra1 hKra1)))) (up_l (up_l (up_l up_q))) (up_k he0 (up_l (up_l up_q)) (up_k hc0 (up_l up_q) (up_k hb0 up_q (va_up_self _ _ _)))) (0) rfl (by rw [(up_k he0 (up_l (up_l (up_l hLra1))) (up_k hc0 (up_l (up_l hLra1)) (up_k hb0 (up_l hLra1) hnra1)))]; decide) (by rw [(up_k he0 (up_l (up_l (up_l hLra1))) (up_k hc0 (up_l (up_l hLra1)) (up_k hb0 (up_l hLra1) hnra1)))]; decide) dX2_init_79 (fun H locs hG => ?_)
    refine lv_iinc (v := 1) (lv' := [(1, .int 1), (0, .ref x)]) hx hb dX2_init_80 hl (k := 0) rfl (rfl) (by decide) rfl (fun ls hl => ?_)
    refine lv_goto (tgt := 61) hx hb dX2_init_83 (by decide) ?_
    have hN : NewS (L1, K1, n1, rI1, rJ1, rQ1, fI1, fR1) (((((L1 ++ [a0]) ++ [b0]) ++ [c0]) ++ [e0]), (va_up (va_up (va_up (va_up K1 a0 1) b0 5) c0 5) e0 4), (va_up (va_up (va_up n1 b0 4) c0 4) e0 32), (va_up rI1 e0 (fun _ => 0)), (va_up (va_up rJ1 b0 (fun _ => 0)) c0 (fun _ => 0)), (g_up (rQ1) ra (0) (some a0)), (g_up ((g_up ((va_up fI1 a0 (fun _ => 0))) a0 3 0)) a0 4 0), (g_up ((g_up ((g_up ((va_up fR1 a0 (fun _ => none))) a0 0 (some b0))) a0 1 (some c0))) a0 2 (some e0))) ra 0 a0 b0 c0 e0 := newS_mk hLra1 ha0 hb0 hc0 he0
    replace hI := initX_s hI hN
    clear hN
    clear hL1 hK1 hF1 hLra1 hKra1 hnra1
    obtain ⟨L2, e9⟩ : ∃ z, z = ((((L1 ++ [a0]) ++ [b0]) ++ [c0]) ++ [e0]) := ⟨_, rfl⟩
    rw [← e9] at hG hI
    clear e9
    obtain ⟨K2, e9⟩ : ∃ z, z = (va_up (va_up (va_up (va_up K1 a0 1) b0 5) c0 5) e0 4) := ⟨_, rfl⟩
    rw [← e9] at hG hI
    clear e9
    obtain ⟨n2, e9⟩ : ∃ z, z = (va_up (va_up (va_up n1 b0 4) c0 4) e0 32) := ⟨_, rfl⟩
    rw [← e9] at hG hI
    clear e9
    obtain ⟨rI2, e9⟩ : ∃ z, z = (va_up rI1 e0 (fun _ => 0)) := ⟨_, rfl⟩
    rw [← e9] at hG hI
    clear e9
    obtain ⟨rJ2, e9⟩ : ∃ z, z = (va_up (va_up rJ1 b0 (fun _ => 0)) c0 (fun _ => 0)) := ⟨_, rfl⟩
    rw [← e9] at hG hI
    clear e9
    obtain ⟨rQ2, e9⟩ : ∃ z, z = (g_up (rQ1) ra (0) (some a0)) := ⟨_, rfl⟩
    rw [← e9] at hG hI
    clear e9
    obtain ⟨fI2, e9⟩ : ∃ z, z = (g_up ((g_up ((va_up fI1 a0 (fun _ => 0))) a0 3 0)) a0 4 0) := ⟨_, rfl⟩
    rw [← e9] at hG hI
    clear e9
    obtain ⟨fR2, e9⟩ : ∃ z, z = (g_up ((g_up ((g_up ((va_up fR1 a0 (fun _ => none))) a0 0 (some b0))) a0 1 (some c0))) a0 2 (some e0)) := ⟨_, rfl⟩
    rw [← e9] at hG hI
    clear e9
    have hL1 : x ∈ L2 := hI.2.2.1.1
    have hK1 : K2 x = 2 := hI.2.2.1.2.1
    have hF1 : fR2 x 0 = some ra := hI.2.2.1.2.2.1
    have hLra1 : ra ∈ L2 := hI.2.2.1.2.2.2.2.2.2.2.1
    have hKra1 : K2 ra = 7 := hI.2.2.1.2.2.2.2.2.2.2.2.1
    have hnra1 : n2 ra = 6 := hI.2.2.1.2.2.2.2.2.2.2.2.2.1
    refine lv_iload_n hx hb dX2_init_61 rfl (lv_at hl 0 rfl) ?_
    refine lv_bipush (v := 6) hx hb dX2_init_62 (by decide) ?_
    refine lv_icmp_ge (tgt := 86) hx hb dX2_init_64 (by decide) (fun cq => ?_) (fun cq => ?_)
    · exact absurd cq (by decide)
    · refine lv_aload_n hx hb dX2_init_67 rfl (lv_at hl 1 rfl) ?_
      refine r_Desk_replicas hx hb hts (by decide +kernel) hown hK hG hL1 hK1 hF1 (hts (.fieldLink RX2 11 "DotStores" "replicas" "[LDotStores$State;") (by decide +kernel)) dX2_init_68 ?_
      refine lv_iload_n hx hb dX2_init_71 rfl (lv_at hl 0 rfl) ?_
      refine g_new1 hx hb hts (by decide +kernel) hown (hts (.classLink RX2 9 RX1) (by decide +kernel)) (hts (.instantiable RX1 5) (by decide +kernel)) (hts (.initialized RX1) (by decide +kernel)) hK hG (Nat.le_of_ble_eq_true rfl) (Nat.le_of_ble_eq_true rfl) dX2_init_72 (fun a1 H ha1 hG => ?_)
      refine lv_dup hx hb dX2_init_75 rfl ?_
      refine g_callv (va_runIN (As := []) (rest := [.ref a1, .int 1, .ref ra]) ⟨hx, hb, hml, hown, hts⟩ (c_State_init l G base up_q (va_up_self _ _ _)) ⟨va_cnB (host := "DotStores") 0 hts ggX2_init_X1_init rfl rfl rfl (hX.2.2.2.2.2.2.2.2.2.1 _ (List.mem_append_right _ (by decide +kernel))) (hts (.initialized RX1) (by decide +kernel)) (by decide +kernel) ⟨(Nat.le_of_ble_eq_true rfl), (Nat.le_of_ble_eq_true rfl)⟩, rfl, (hts (.instanceMethod yX1_init) (by decide +kernel))⟩ (g_ps hK hG) rfl rfl hl.1 rfl (lv_room (Nat.le_of_ble_eq_true rfl)) dX2_init_76 ⟨(Nat.le_of_ble_eq_true rfl), (Nat.le_of_ble_eq_true rfl)⟩) hG (fun u H locs hp hG => ?_)
      obtain ⟨b1, c1, e1⟩ := u
      obtain ⟨hb1, hc1, he1⟩ := hp
      replace hG : gw G base s.heap (((((L2 ++ [a1]) ++ [b1]) ++ [c1]) ++ [e1]), (va_up (va_up (va_up (va_up K2 a1 1) b1 5) c1 5) e1 4), (va_up (va_up (va_up n2 b1 4) c1 4) e1 32), (va_up rI2 e1 (fun _ => 0)), (va_up (va_up rJ2 b1 (fun _ => 0)) c1 (fun _ => 0)), rQ2, (g_up ((g_up ((va_up fI2 a1 (fun _ => 0))) a1 3 0)) a1 4 0), (g_up ((g_up ((g_up ((va_up fR2 a1 (fun _ => none))) a1 0 (some b1))) a1 1 (some c1))) a1 2 (some e1))) H locs := hG
      refine g_aast hx hb hK hG (up_l (up_l (up_l (up_l hLra1)))) (up_k he1 (up_l (up_l (up_l hLra1))) (up_k hc1 (up_l (up_l hLra1)) (up_k hb1 (up_l hLra1) (up_k ha1 hLra1 hKra1)))) (up_l (up_l (up_l up_q))) (up_k he1 (up_l (up_l up_q)) (up_k hc1 (up_l up_q) (up_k hb1 up_q (va_up_self _ _ _)))) (1) rfl (by rw [(up_k he1 (up_l (up_l (up_l hLra1))) (up_k hc1 (up_l (up_l hLra1)) (up_k hb1 (up_l hLra1) hnra1)))]; decide) (by rw [(up_k he1 (up_l (up_l (up_l hLra1))) (up_k hc1 (up_l (up_l hLra1)) (up_k hb1 (up_l hLra1) hnra1)))]; decide) dX2_init_79 (fun H locs hG => ?_)
      refine lv_iinc (v := 2) (lv' := [(1, .int 2), (0, .ref x)]) hx hb dX2_init_80 hl (k := 0) rfl (rfl) (by decide) rfl (fun ls hl => ?_)
      refine lv_goto (tgt := 61) hx hb dX2_init_83 (by decide) ?_
      have hN : NewS (L2, K2, n2, rI2, rJ2, rQ2, fI2, fR2) (((((L2 ++ [a1]) ++ [b1]) ++ [c1]) ++ [e1]), (va_up (va_up (va_up (va_up K2 a1 1) b1 5) c1 5) e1 4), (va_up (va_up (va_up n2 b1 4) c1 4) e1 32), (va_up rI2 e1 (fun _ => 0)), (va_up (va_up rJ2 b1 (fun _ => 0)) c1 (fun _ => 0)), (g_up (rQ2) ra (1) (some a1)), (g_up ((g_up ((va_up fI2 a1 (fun _ => 0))) a1 3 0)) a1 4 0), (g_up ((g_up ((g_up ((va_up fR2 a1 (fun _ => none))) a1 0 (some b1))) a1 1 (some c1))) a1 2 (some e1))) ra 1 a1 b1 c1 e1 := newS_mk hLra1 ha1 hb1 hc1 he1
      replace hI := initX_s hI hN
      clear hN
      clear hL1 hK1 hF1 hLra1 hKra1 hnra1
      obtain ⟨L3, e9⟩ : ∃ z, z = ((((L2 ++ [a1]) ++ [b1]) ++ [c1]) ++ [e1]) := ⟨_, rfl⟩
      rw [← e9] at hG hI
      clear e9
      obtain ⟨K3, e9⟩ : ∃ z, z = (va_up (va_up (va_up (va_up K2 a1 1) b1 5) c1 5) e1 4) := ⟨_, rfl⟩
      rw [← e9] at hG hI
      clear e9
      obtain ⟨n3, e9⟩ : ∃ z, z = (va_up (va_up (va_up n2 b1 4) c1 4) e1 32) := ⟨_, rfl⟩
      rw [← e9] at hG hI
      clear e9
      obtain ⟨rI3, e9⟩ : ∃ z, z = (va_up rI2 e1 (fun _ => 0)) := ⟨_, rfl⟩
      rw [← e9] at hG hI
      clear e9
      obtain ⟨rJ3, e9⟩ : ∃ z, z = (va_up (va_up rJ2 b1 (fun _ => 0)) c1 (fun _ => 0)) := ⟨_, rfl⟩
      rw [← e9] at hG hI
      clear e9
      obtain ⟨rQ3, e9⟩ : ∃ z, z = (g_up (rQ2) ra (1) (some a1)) := ⟨_, rfl⟩
      rw [← e9] at hG hI
      clear e9
      obtain ⟨fI3, e9⟩ : ∃ z, z = (g_up ((g_up ((va_up fI2 a1 (fun _ => 0))) a1 3 0)) a1 4 0) := ⟨_, rfl⟩
      rw [← e9] at hG hI
      clear e9
      obtain ⟨fR3, e9⟩ : ∃ z, z = (g_up ((g_up ((g_up ((va_up fR2 a1 (fun _ => none))) a1 0 (some b1))) a1 1 (some c1))) a1 2 (some e1)) := ⟨_, rfl⟩
      rw [← e9] at hG hI
      clear e9
      have hL1 : x ∈ L3 := hI.2.2.1.1
      have hK1 : K3 x = 2 := hI.2.2.1.2.1
      have hF1 : fR3 x 0 = some ra := hI.2.2.1.2.2.1
      have hLra1 : ra ∈ L3 := hI.2.2.1.2.2.2.2.2.2.2.1
      have hKra1 : K3 ra = 7 := hI.2.2.1.2.2.2.2.2.2.2.2.1
      have hnra1 : n3 ra = 6 := hI.2.2.1.2.2.2.2.2.2.2.2.2.1
      refine lv_iload_n hx hb dX2_init_61 rfl (lv_at hl 0 rfl) ?_
      refine lv_bipush (v := 6) hx hb dX2_init_62 (by decide) ?_
      refine lv_icmp_ge (tgt := 86) hx hb dX2_init_64 (by decide) (fun cq => ?_) (fun cq => ?_)
      · exact absurd cq (by decide)
      · refine lv_aload_n hx hb dX2_init_67 rfl (lv_at hl 1 rfl) ?_
        refine r_Desk_replicas hx hb hts (by decide +kernel) hown hK hG hL1 hK1 hF1 (hts (.fieldLink RX2 11 "DotStores" "replicas" "[LDotStores$State;") (by decide +kernel)) dX2_init_68 ?_
        refine lv_iload_n hx hb dX2_init_71 rfl (lv_at hl 0 rfl) ?_
        refine g_new1 hx hb hts (by decide +kernel) hown (hts (.classLink RX2 9 RX1) (by decide +kernel)) (hts (.instantiable RX1 5) (by decide +kernel)) (hts (.initialized RX1) (by decide +kernel)) hK hG (Nat.le_of_ble_eq_true rfl) (Nat.le_of_ble_eq_true rfl) dX2_init_72 (fun a2 H ha2 hG => ?_)
        refine lv_dup hx hb dX2_init_75 rfl ?_
        refine g_callv (va_runIN (As := []) (rest := [.ref a2, .int 2, .ref ra]) ⟨hx, hb, hml, hown, hts⟩ (c_State_init l G base up_q (va_up_self _ _ _)) ⟨va_cnB (host := "DotStores") 0 hts ggX2_init_X1_init rfl rfl rfl (hX.2.2.2.2.2.2.2.2.2.1 _ (List.mem_append_right _ (by decide +kernel))) (hts (.initialized RX1) (by decide +kernel)) (by decide +kernel) ⟨(Nat.le_of_ble_eq_true rfl), (Nat.le_of_ble_eq_true rfl)⟩, rfl, (hts (.instanceMethod yX1_init) (by decide +kernel))⟩ (g_ps hK hG) rfl rfl hl.1 rfl (lv_room (Nat.le_of_ble_eq_true rfl)) dX2_init_76 ⟨(Nat.le_of_ble_eq_true rfl), (Nat.le_of_ble_eq_true rfl)⟩) hG (fun u H locs hp hG => ?_)
        obtain ⟨b2, c2, e2⟩ := u
        obtain ⟨hb2, hc2, he2⟩ := hp
        replace hG : gw G base s.heap (((((L3 ++ [a2]) ++ [b2]) ++ [c2]) ++ [e2]), (va_up (va_up (va_up (va_up K3 a2 1) b2 5) c2 5) e2 4), (va_up (va_up (va_up n3 b2 4) c2 4) e2 32), (va_up rI3 e2 (fun _ => 0)), (va_up (va_up rJ3 b2 (fun _ => 0)) c2 (fun _ => 0)), rQ3, (g_up ((g_up ((va_up fI3 a2 (fun _ => 0))) a2 3 0)) a2 4 0), (g_up ((g_up ((g_up ((va_up fR3 a2 (fun _ => none))) a2 0 (some b2))) a2 1 (some c2))) a2 2 (some e2))) H locs := hG
        refine g_aast hx hb hK hG (up_l (up_l (up_l (up_l hLra1)))) (up_k he2 (up_l (up_l (up_l hLra1))) (up_k hc2 (up_l (up_l hLra1)) (up_k hb2 (up_l hLra1) (up_k ha2 hLra1 hKra1)))) (up_l (up_l (up_l up_q))) (up_k he2 (up_l (up_l up_q)) (up_k hc2 (up_l up_q) (up_k hb2 up_q (va_up_self _ _ _)))) (2) rfl (by rw [(up_k he2 (up_l (up_l (up_l hLra1))) (up_k hc2 (up_l (up_l hLra1)) (up_k hb2 (up_l hLra1) hnra1)))]; decide) (by rw [(up_k he2 (up_l (up_l (up_l hLra1))) (up_k hc2 (up_l (up_l hLra1)) (up_k hb2 (up_l hLra1) hnra1)))]; decide) dX2_init_79 (fun H locs hG => ?_)
        refine lv_iinc (v := 3) (lv' := [(1, .int 3), (0, .ref x)]) hx hb dX2_init_80 hl (k := 0) rfl (rfl) (by decide) rfl (fun ls hl => ?_)
        refine lv_goto (tgt := 61) hx hb dX2_init_83 (by decide) ?_
        have hN : NewS (L3, K3, n3, rI3, rJ3, rQ3, fI3, fR3) (((((L3 ++ [a2]) ++ [b2]) ++ [c2]) ++ [e2]), (va_up (va_up (va_up (va_up K3 a2 1) b2 5) c2 5) e2 4), (va_up (va_up (va_up n3 b2 4) c2 4) e2 32), (va_up rI3 e2 (fun _ => 0)), (va_up (va_up rJ3 b2 (fun _ => 0)) c2 (fun _ => 0)), (g_up (rQ3) ra (2) (some a2)), (g_up ((g_up ((va_up fI3 a2 (fun _ => 0))) a2 3 0)) a2 4 0), (g_up ((g_up ((g_up ((va_up fR3 a2 (fun _ => none))) a2 0 (some b2))) a2 1 (some c2))) a2 2 (some e2))) ra 2 a2 b2 c2 e2 := newS_mk hLra1 ha2 hb2 hc2 he2
        replace hI := initX_s hI hN
        clear hN
        clear hL1 hK1 hF1 hLra1 hKra1 hnra1
        obtain ⟨L4, e9⟩ : ∃ z, z = ((((L3 ++ [a2]) ++ [b2]) ++ [c2]) ++ [e2]) := ⟨_, rfl⟩
        rw [← e9] at hG hI
        clear e9
        obtain ⟨K4, e9⟩ : ∃ z, z = (va_up (va_up (va_up (va_up K3 a2 1) b2 5) c2 5) e2 4) := ⟨_, rfl⟩
        rw [← e9] at hG hI
        clear e9
        obtain ⟨n4, e9⟩ : ∃ z, z = (va_up (va_up (va_up n3 b2 4) c2 4) e2 32) := ⟨_, rfl⟩
        rw [← e9] at hG hI
        clear e9
        obtain ⟨rI4, e9⟩ : ∃ z, z = (va_up rI3 e2 (fun _ => 0)) := ⟨_, rfl⟩
        rw [← e9] at hG hI
        clear e9
        obtain ⟨rJ4, e9⟩ : ∃ z, z = (va_up (va_up rJ3 b2 (fun _ => 0)) c2 (fun _ => 0)) := ⟨_, rfl⟩
        rw [← e9] at hG hI
        clear e9
        obtain ⟨rQ4, e9⟩ : ∃ z, z = (g_up (rQ3) ra (2) (some a2)) := ⟨_, rfl⟩
        rw [← e9] at hG hI
        clear e9
        obtain ⟨fI4, e9⟩ : ∃ z, z = (g_up ((g_up ((va_up fI3 a2 (fun _ => 0))) a2 3 0)) a2 4 0) := ⟨_, rfl⟩
        rw [← e9] at hG hI
        clear e9
        obtain ⟨fR4, e9⟩ : ∃ z, z = (g_up ((g_up ((g_up ((va_up fR3 a2 (fun _ => none))) a2 0 (some b2))) a2 1 (some c2))) a2 2 (some e2)) := ⟨_, rfl⟩
        rw [← e9] at hG hI
        clear e9
        have hL1 : x ∈ L4 := hI.2.2.1.1
        have hK1 : K4 x = 2 := hI.2.2.1.2.1
        have hF1 : fR4 x 0 = some ra := hI.2.2.1.2.2.1
        have hLra1 : ra ∈ L4 := hI.2.2.1.2.2.2.2.2.2.2.1
        have hKra1 : K4 ra = 7 := hI.2.2.1.2.2.2.2.2.2.2.2.1
        have hnra1 : n4 ra = 6 := hI.2.2.1.2.2.2.2.2.2.2.2.2.1
        refine lv_iload_n hx hb dX2_init_61 rfl (lv_at hl 0 rfl) ?_
        refine lv_bipush (v := 6) hx hb dX2_init_62 (by decide) ?_
        refine lv_icmp_ge (tgt := 86) hx hb dX2_init_64 (by decide) (fun cq => ?_) (fun cq => ?_)
        · exact absurd cq (by decide)
        · refine lv_aload_n hx hb dX2_init_67 rfl (lv_at hl 1 rfl) ?_
          refine r_Desk_replicas hx hb hts (by decide +kernel) hown hK hG hL1 hK1 hF1 (hts (.fieldLink RX2 11 "DotStores" "replicas" "[LDotStores$State;") (by decide +kernel)) dX2_init_68 ?_
          refine lv_iload_n hx hb dX2_init_71 rfl (lv_at hl 0 rfl) ?_
          refine g_new1 hx hb hts (by decide +kernel) hown (hts (.classLink RX2 9 RX1) (by decide +kernel)) (hts (.instantiable RX1 5) (by decide +kernel)) (hts (.initialized RX1) (by decide +kernel)) hK hG (Nat.le_of_ble_eq_true rfl) (Nat.le_of_ble_eq_true rfl) dX2_init_72 (fun a3 H ha3 hG => ?_)
          refine lv_dup hx hb dX2_init_75 rfl ?_
          refine g_callv (va_runIN (As := []) (rest := [.ref a3, .int 3, .ref ra]) ⟨hx, hb, hml, hown, hts⟩ (c_State_init l G base up_q (va_up_self _ _ _)) ⟨va_cnB (host := "DotStores") 0 hts ggX2_init_X1_init rfl rfl rfl (hX.2.2.2.2.2.2.2.2.2.1 _ (List.mem_append_right _ (by decide +kernel))) (hts (.initialized RX1) (by decide +kernel)) (by decide +kernel) ⟨(Nat.le_of_ble_eq_true rfl), (Nat.le_of_ble_eq_true rfl)⟩, rfl, (hts (.instanceMethod yX1_init) (by decide +kernel))⟩ (g_ps hK hG) rfl rfl hl.1 rfl (lv_room (Nat.le_of_ble_eq_true rfl)) dX2_init_76 ⟨(Nat.le_of_ble_eq_true rfl), (Nat.le_of_ble_eq_true rfl)⟩) hG (fun u H locs hp hG => ?_)
          obtain ⟨b3, c3, e3⟩ := u
          obtain ⟨hb3, hc3, he3⟩ := hp
          replace hG : gw G base s.heap (((((L4 ++ [a3]) ++ [b3]) ++ [c3]) ++ [e3]), (va_up (va_up (va_up (va_up K4 a3 1) b3 5) c3 5) e3 4), (va_up (va_up (va_up n4 b3 4) c3 4) e3 32), (va_up rI4 e3 (fun _ => 0)), (va_up (va_up rJ4 b3 (fun _ => 0)) c3 (fun _ => 0)), rQ4, (g_up ((g_up ((va_up fI4 a3 (fun _ => 0))) a3 3 0)) a3 4 0), (g_up ((g_up ((g_up ((va_up fR4 a3 (fun _ => none))) a3 0 (some b3))) a3 1 (some c3))) a3 2 (some e3))) H locs := hG
          refine g_aast hx hb hK hG (up_l (up_l (up_l (up_l hLra1)))) (up_k he3 (up_l (up_l (up_l hLra1))) (up_k hc3 (up_l (up_l hLra1)) (up_k hb3 (up_l hLra1) (up_k ha3 hLra1 hKra1)))) (up_l (up_l (up_l up_q))) (up_k he3 (up_l (up_l up_q)) (up_k hc3 (up_l up_q) (up_k hb3 up_q (va_up_self _ _ _)))) (3) rfl (by rw [(up_k he3 (up_l (up_l (up_l hLra1))) (up_k hc3 (up_l (up_l hLra1)) (up_k hb3 (up_l hLra1) hnra1)))]; decide) (by rw [(up_k he3 (up_l (up_l (up_l hLra1))) (up_k hc3 (up_l (up_l hLra1)) (up_k hb3 (up_l hLra1) hnra1)))]; decide) dX2_init_79 (fun H locs hG => ?_)
          refine lv_iinc (v := 4) (lv' := [(1, .int 4), (0, .ref x)]) hx hb dX2_init_80 hl (k := 0) rfl (rfl) (by decide) rfl (fun ls hl => ?_)
          refine lv_goto (tgt := 61) hx hb dX2_init_83 (by decide) ?_
          have hN : NewS (L4, K4, n4, rI4, rJ4, rQ4, fI4, fR4) (((((L4 ++ [a3]) ++ [b3]) ++ [c3]) ++ [e3]), (va_up (va_up (va_up (va_up K4 a3 1) b3 5) c3 5) e3 4), (va_up (va_up (va_up n4 b3 4) c3 4) e3 32), (va_up rI4 e3 (fun _ => 0)), (va_up (va_up rJ4 b3 (fun _ => 0)) c3 (fun _ => 0)), (g_up (rQ4) ra (3) (some a3)), (g_up ((g_up ((va_up fI4 a3 (fun _ => 0))) a3 3 0)) a3 4 0), (g_up ((g_up ((g_up ((va_up fR4 a3 (fun _ => none))) a3 0 (some b3))) a3 1 (some c3))) a3 2 (some e3))) ra 3 a3 b3 c3 e3 := newS_mk hLra1 ha3 hb3 hc3 he3
          replace hI := initX_s hI hN
          clear hN
          clear hL1 hK1 hF1 hLra1 hKra1 hnra1
          obtain ⟨L5, e9⟩ : ∃ z, z = ((((L4 ++ [a3]) ++ [b3]) ++ [c3]) ++ [e3]) := ⟨_, rfl⟩
          rw [← e9] at hG hI
          clear e9
          obtain ⟨K5, e9⟩ : ∃ z, z = (va_up (va_up (va_up (va_up K4 a3 1) b3 5) c3 5) e3 4) := ⟨_, rfl⟩
          rw [← e9] at hG hI
          clear e9
          obtain ⟨n5, e9⟩ : ∃ z, z = (va_up (va_up (va_up n4 b3 4) c3 4) e3 32) := ⟨_, rfl⟩
          rw [← e9] at hG hI
          clear e9
          obtain ⟨rI5, e9⟩ : ∃ z, z = (va_up rI4 e3 (fun _ => 0)) := ⟨_, rfl⟩
          rw [← e9] at hG hI
          clear e9
          obtain ⟨rJ5, e9⟩ : ∃ z, z = (va_up (va_up rJ4 b3 (fun _ => 0)) c3 (fun _ => 0)) := ⟨_, rfl⟩
          rw [← e9] at hG hI
          clear e9
          obtain ⟨rQ5, e9⟩ : ∃ z, z = (g_up (rQ4) ra (3) (some a3)) := ⟨_, rfl⟩
          rw [← e9] at hG hI
          clear e9
          obtain ⟨fI5, e9⟩ : ∃ z, z = (g_up ((g_up ((va_up fI4 a3 (fun _ => 0))) a3 3 0)) a3 4 0) := ⟨_, rfl⟩
          rw [← e9] at hG hI
          clear e9
          obtain ⟨fR5, e9⟩ : ∃ z, z = (g_up ((g_up ((g_up ((va_up fR4 a3 (fun _ => none))) a3 0 (some b3))) a3 1 (some c3))) a3 2 (some e3)) := ⟨_, rfl⟩
          rw [← e9] at hG hI
          clear e9
          have hL1 : x ∈ L5 := hI.2.2.1.1
          have hK1 : K5 x = 2 := hI.2.2.1.2.1
          have hF1 : fR5 x 0 = some ra := hI.2.2.1.2.2.1
          have hLra1 : ra ∈ L5 := hI.2.2.1.2.2.2.2.2.2.2.1
          have hKra1 : K5 ra = 7 := hI.2.2.1.2.2.2.2.2.2.2.2.1
          have hnra1 : n5 ra = 6 := hI.2.2.1.2.2.2.2.2.2.2.2.2.1
          refine lv_iload_n hx hb dX2_init_61 rfl (lv_at hl 0 rfl) ?_
          refine lv_bipush (v := 6) hx hb dX2_init_62 (by decide) ?_
          refine lv_icmp_ge (tgt := 86) hx hb dX2_init_64 (by decide) (fun cq => ?_) (fun cq => ?_)
          · exact absurd cq (by decide)
          · refine lv_aload_n hx hb dX2_init_67 rfl (lv_at hl 1 rfl) ?_
            refine r_Desk_replicas hx hb hts (by decide +kernel) hown hK hG hL1 hK1 hF1 (hts (.fieldLink RX2 11 "DotStores" "replicas" "[LDotStores$State;") (by decide +kernel)) dX2_init_68 ?_
            refine lv_iload_n hx hb dX2_init_71 rfl (lv_at hl 0 rfl) ?_
            refine g_new1 hx hb hts (by decide +kernel) hown (hts (.classLink RX2 9 RX1) (by decide +kernel)) (hts (.instantiable RX1 5) (by decide +kernel)) (hts (.initialized RX1) (by decide +kernel)) hK hG (Nat.le_of_ble_eq_true rfl) (Nat.le_of_ble_eq_true rfl) dX2_init_72 (fun a4 H ha4 hG => ?_)
            refine lv_dup hx hb dX2_init_75 rfl ?_
            refine g_callv (va_runIN (As := []) (rest := [.ref a4, .int 4, .ref ra]) ⟨hx, hb, hml, hown, hts⟩ (c_State_init l G base up_q (va_up_self _ _ _)) ⟨va_cnB (host := "DotStores") 0 hts ggX2_init_X1_init rfl rfl rfl (hX.2.2.2.2.2.2.2.2.2.1 _ (List.mem_append_right _ (by decide +kernel))) (hts (.initialized RX1) (by decide +kernel)) (by decide +kernel) ⟨(Nat.le_of_ble_eq_true rfl), (Nat.le_of_ble_eq_true rfl)⟩, rfl, (hts (.instanceMethod yX1_init) (by decide +kernel))⟩ (g_ps hK hG) rfl rfl hl.1 rfl (lv_room (Nat.le_of_ble_eq_true rfl)) dX2_init_76 ⟨(Nat.le_of_ble_eq_true rfl), (Nat.le_of_ble_eq_true rfl)⟩) hG (fun u H locs hp hG => ?_)
            obtain ⟨b4, c4, e4⟩ := u
            obtain ⟨hb4, hc4, he4⟩ := hp
            replace hG : gw G base s.heap (((((L5 ++ [a4]) ++ [b4]) ++ [c4]) ++ [e4]), (va_up (va_up (va_up (va_up K5 a4 1) b4 5) c4 5) e4 4), (va_up (va_up (va_up n5 b4 4) c4 4) e4 32), (va_up rI5 e4 (fun _ => 0)), (va_up (va_up rJ5 b4 (fun _ => 0)) c4 (fun _ => 0)), rQ5, (g_up ((g_up ((va_up fI5 a4 (fun _ => 0))) a4 3 0)) a4 4 0), (g_up ((g_up ((g_up ((va_up fR5 a4 (fun _ => none))) a4 0 (some b4))) a4 1 (some c4))) a4 2 (some e4))) H locs := hG
            refine g_aast hx hb hK hG (up_l (up_l (up_l (up_l hLra1)))) (up_k he4 (up_l (up_l (up_l hLra1))) (up_k hc4 (up_l (up_l hLra1)) (up_k hb4 (up_l hLra1) (up_k ha4 hLra1 hKra1)))) (up_l (up_l (up_l up_q))) (up_k he4 (up_l (up_l up_q)) (up_k hc4 (up_l up_q) (up_k hb4 up_q (va_up_self _ _ _)))) (4) rfl (by rw [(up_k he4 (up_l (up_l (up_l hLra1))) (up_k hc4 (up_l (up_l hLra1)) (up_k hb4 (up_l hLra1) hnra1)))]; decide) (by rw [(up_k he4 (up_l (up_l (up_l hLra1))) (up_k hc4 (up_l (up_l hLra1)) (up_k hb4 (up_l hLra1) hnra1)))]; decide) dX2_init_79 (fun H locs hG => ?_)
            refine lv_iinc (v := 5) (lv' := [(1, .int 5), (0, .ref x)]) hx hb dX2_init_80 hl (k := 0) rfl (rfl) (by decide) rfl (fun ls hl => ?_)
            refine lv_goto (tgt := 61) hx hb dX2_init_83 (by decide) ?_
            have hN : NewS (L5, K5, n5, rI5, rJ5, rQ5, fI5, fR5) (((((L5 ++ [a4]) ++ [b4]) ++ [c4]) ++ [e4]), (va_up (va_up (va_up (va_up K5 a4 1) b4 5) c4 5) e4 4), (va_up (va_up (va_up n5 b4 4) c4 4) e4 32), (va_up rI5 e4 (fun _ => 0)), (va_up (va_up rJ5 b4 (fun _ => 0)) c4 (fun _ => 0)), (g_up (rQ5) ra (4) (some a4)), (g_up ((g_up ((va_up fI5 a4 (fun _ => 0))) a4 3 0)) a4 4 0), (g_up ((g_up ((g_up ((va_up fR5 a4 (fun _ => none))) a4 0 (some b4))) a4 1 (some c4))) a4 2 (some e4))) ra 4 a4 b4 c4 e4 := newS_mk hLra1 ha4 hb4 hc4 he4
            replace hI := initX_s hI hN
            clear hN
            clear hL1 hK1 hF1 hLra1 hKra1 hnra1
            obtain ⟨L6, e9⟩ : ∃ z, z = ((((L5 ++ [a4]) ++ [b4]) ++ [c4]) ++ [e4]) := ⟨_, rfl⟩
            rw [← e9] at hG hI
            clear e9
            obtain ⟨K6, e9⟩ : ∃ z, z = (va_up (va_up (va_up (va_up K5 a4 1) b4 5) c4 5) e4 4) := ⟨_, rfl⟩
            rw [← e9] at hG hI
            clear e9
            obtain ⟨n6, e9⟩ : ∃ z, z = (va_up (va_up (va_up n5 b4 4) c4 4) e4 32) := ⟨_, rfl⟩
            rw [← e9] at hG hI
            clear e9
            obtain ⟨rI6, e9⟩ : ∃ z, z = (va_up rI5 e4 (fun _ => 0)) := ⟨_, rfl⟩
            rw [← e9] at hG hI
            clear e9
            obtain ⟨rJ6, e9⟩ : ∃ z, z = (va_up (va_up rJ5 b4 (fun _ => 0)) c4 (fun _ => 0)) := ⟨_, rfl⟩
            rw [← e9] at hG hI
            clear e9
            obtain ⟨rQ6, e9⟩ : ∃ z, z = (g_up (rQ5) ra (4) (some a4)) := ⟨_, rfl⟩
            rw [← e9] at hG hI
            clear e9
            obtain ⟨fI6, e9⟩ : ∃ z, z = (g_up ((g_up ((va_up fI5 a4 (fun _ => 0))) a4 3 0)) a4 4 0) := ⟨_, rfl⟩
            rw [← e9] at hG hI
            clear e9
            obtain ⟨fR6, e9⟩ : ∃ z, z = (g_up ((g_up ((g_up ((va_up fR5 a4 (fun _ => none))) a4 0 (some b4))) a4 1 (some c4))) a4 2 (some e4)) := ⟨_, rfl⟩
            rw [← e9] at hG hI
            clear e9
            have hL1 : x ∈ L6 := hI.2.2.1.1
            have hK1 : K6 x = 2 := hI.2.2.1.2.1
            have hF1 : fR6 x 0 = some ra := hI.2.2.1.2.2.1
            have hLra1 : ra ∈ L6 := hI.2.2.1.2.2.2.2.2.2.2.1
            have hKra1 : K6 ra = 7 := hI.2.2.1.2.2.2.2.2.2.2.2.1
            have hnra1 : n6 ra = 6 := hI.2.2.1.2.2.2.2.2.2.2.2.2.1
            refine lv_iload_n hx hb dX2_init_61 rfl (lv_at hl 0 rfl) ?_
            refine lv_bipush (v := 6) hx hb dX2_init_62 (by decide) ?_
            refine lv_icmp_ge (tgt := 86) hx hb dX2_init_64 (by decide) (fun cq => ?_) (fun cq => ?_)
            · exact absurd cq (by decide)
            · refine lv_aload_n hx hb dX2_init_67 rfl (lv_at hl 1 rfl) ?_
              refine r_Desk_replicas hx hb hts (by decide +kernel) hown hK hG hL1 hK1 hF1 (hts (.fieldLink RX2 11 "DotStores" "replicas" "[LDotStores$State;") (by decide +kernel)) dX2_init_68 ?_
              refine lv_iload_n hx hb dX2_init_71 rfl (lv_at hl 0 rfl) ?_
              refine g_new1 hx hb hts (by decide +kernel) hown (hts (.classLink RX2 9 RX1) (by decide +kernel)) (hts (.instantiable RX1 5) (by decide +kernel)) (hts (.initialized RX1) (by decide +kernel)) hK hG (Nat.le_of_ble_eq_true rfl) (Nat.le_of_ble_eq_true rfl) dX2_init_72 (fun a5 H ha5 hG => ?_)
              refine lv_dup hx hb dX2_init_75 rfl ?_
              refine g_callv (va_runIN (As := []) (rest := [.ref a5, .int 5, .ref ra]) ⟨hx, hb, hml, hown, hts⟩ (c_State_init l G base up_q (va_up_self _ _ _)) ⟨va_cnB (host := "DotStores") 0 hts ggX2_init_X1_init rfl rfl rfl (hX.2.2.2.2.2.2.2.2.2.1 _ (List.mem_append_right _ (by decide +kernel))) (hts (.initialized RX1) (by decide +kernel)) (by decide +kernel) ⟨(Nat.le_of_ble_eq_true rfl), (Nat.le_of_ble_eq_true rfl)⟩, rfl, (hts (.instanceMethod yX1_init) (by decide +kernel))⟩ (g_ps hK hG) rfl rfl hl.1 rfl (lv_room (Nat.le_of_ble_eq_true rfl)) dX2_init_76 ⟨(Nat.le_of_ble_eq_true rfl), (Nat.le_of_ble_eq_true rfl)⟩) hG (fun u H locs hp hG => ?_)
              obtain ⟨b5, c5, e5⟩ := u
              obtain ⟨hb5, hc5, he5⟩ := hp
              replace hG : gw G base s.heap (((((L6 ++ [a5]) ++ [b5]) ++ [c5]) ++ [e5]), (va_up (va_up (va_up (va_up K6 a5 1) b5 5) c5 5) e5 4), (va_up (va_up (va_up n6 b5 4) c5 4) e5 32), (va_up rI6 e5 (fun _ => 0)), (va_up (va_up rJ6 b5 (fun _ => 0)) c5 (fun _ => 0)), rQ6, (g_up ((g_up ((va_up fI6 a5 (fun _ => 0))) a5 3 0)) a5 4 0), (g_up ((g_up ((g_up ((va_up fR6 a5 (fun _ => none))) a5 0 (some b5))) a5 1 (some c5))) a5 2 (some e5))) H locs := hG
              refine g_aast hx hb hK hG (up_l (up_l (up_l (up_l hLra1)))) (up_k he5 (up_l (up_l (up_l hLra1))) (up_k hc5 (up_l (up_l hLra1)) (up_k hb5 (up_l hLra1) (up_k ha5 hLra1 hKra1)))) (up_l (up_l (up_l up_q))) (up_k he5 (up_l (up_l up_q)) (up_k hc5 (up_l up_q) (up_k hb5 up_q (va_up_self _ _ _)))) (5) rfl (by rw [(up_k he5 (up_l (up_l (up_l hLra1))) (up_k hc5 (up_l (up_l hLra1)) (up_k hb5 (up_l hLra1) hnra1)))]; decide) (by rw [(up_k he5 (up_l (up_l (up_l hLra1))) (up_k hc5 (up_l (up_l hLra1)) (up_k hb5 (up_l hLra1) hnra1)))]; decide) dX2_init_79 (fun H locs hG => ?_)
              refine lv_iinc (v := 6) (lv' := [(1, .int 6), (0, .ref x)]) hx hb dX2_init_80 hl (k := 0) rfl (rfl) (by decide) rfl (fun ls hl => ?_)
              refine lv_goto (tgt := 61) hx hb dX2_init_83 (by decide) ?_
              have hN : NewS (L6, K6, n6, rI6, rJ6, rQ6, fI6, fR6) (((((L6 ++ [a5]) ++ [b5]) ++ [c5]) ++ [e5]), (va_up (va_up (va_up (va_up K6 a5 1) b5 5) c5 5) e5 4), (va_up (va_up (va_up n6 b5 4) c5 4) e5 32), (va_up rI6 e5 (fun _ => 0)), (va_up (va_up rJ6 b5 (fun _ => 0)) c5 (fun _ => 0)), (g_up (rQ6) ra (5) (some a5)), (g_up ((g_up ((va_up fI6 a5 (fun _ => 0))) a5 3 0)) a5 4 0), (g_up ((g_up ((g_up ((va_up fR6 a5 (fun _ => none))) a5 0 (some b5))) a5 1 (some c5))) a5 2 (some e5))) ra 5 a5 b5 c5 e5 := newS_mk hLra1 ha5 hb5 hc5 he5
              replace hI := initX_s hI hN
              clear hN
              clear hL1 hK1 hF1 hLra1 hKra1 hnra1
              obtain ⟨L7, e9⟩ : ∃ z, z = ((((L6 ++ [a5]) ++ [b5]) ++ [c5]) ++ [e5]) := ⟨_, rfl⟩
              rw [← e9] at hG hI
              clear e9
              obtain ⟨K7, e9⟩ : ∃ z, z = (va_up (va_up (va_up (va_up K6 a5 1) b5 5) c5 5) e5 4) := ⟨_, rfl⟩
              rw [← e9] at hG hI
              clear e9
              obtain ⟨n7, e9⟩ : ∃ z, z = (va_up (va_up (va_up n6 b5 4) c5 4) e5 32) := ⟨_, rfl⟩
              rw [← e9] at hG hI
              clear e9
              obtain ⟨rI7, e9⟩ : ∃ z, z = (va_up rI6 e5 (fun _ => 0)) := ⟨_, rfl⟩
              rw [← e9] at hG hI
              clear e9
              obtain ⟨rJ7, e9⟩ : ∃ z, z = (va_up (va_up rJ6 b5 (fun _ => 0)) c5 (fun _ => 0)) := ⟨_, rfl⟩
              rw [← e9] at hG hI
              clear e9
              obtain ⟨rQ7, e9⟩ : ∃ z, z = (g_up (rQ6) ra (5) (some a5)) := ⟨_, rfl⟩
              rw [← e9] at hG hI
              clear e9
              obtain ⟨fI7, e9⟩ : ∃ z, z = (g_up ((g_up ((va_up fI6 a5 (fun _ => 0))) a5 3 0)) a5 4 0) := ⟨_, rfl⟩
              rw [← e9] at hG hI
              clear e9
              obtain ⟨fR7, e9⟩ : ∃ z, z = (g_up ((g_up ((g_up ((va_up fR6 a5 (fun _ => none))) a5 0 (some b5))) a5 1 (some c5))) a5 2 (some e5)) := ⟨_, rfl⟩
              rw [← e9] at hG hI
              clear e9
              have hL1 : x ∈ L7 := hI.2.2.1.1
              have hK1 : K7 x = 2 := hI.2.2.1.2.1
              have hF1 : fR7 x 0 = some ra := hI.2.2.1.2.2.1
              have hLra1 : ra ∈ L7 := hI.2.2.1.2.2.2.2.2.2.2.1
              have hKra1 : K7 ra = 7 := hI.2.2.1.2.2.2.2.2.2.2.2.1
              have hnra1 : n7 ra = 6 := hI.2.2.1.2.2.2.2.2.2.2.2.2.1
              refine lv_iload_n hx hb dX2_init_61 rfl (lv_at hl 0 rfl) ?_
              refine lv_bipush (v := 6) hx hb dX2_init_62 (by decide) ?_
              refine lv_icmp_ge (tgt := 86) hx hb dX2_init_64 (by decide) (fun cq => ?_) (fun cq => ?_)
              · refine W.widen (k := 38) (n := 2084) (by omega) (by omega) ?_
                exact W.vret hx hb hr (fun t9 h9 hW9 => ⟨⟨((L7, K7, n7, rI7, rJ7, rQ7, fI7, fR7), adI ([x, ra, ma, d, dr, dn, dk, dp, dv, dg, tr, ta, tb, tc, od] ++ (((((([] ++ [a0, b0, c0, e0]) ++ [a1, b1, c1, e1]) ++ [a2, b2, c2, e2]) ++ [a3, b3, c3, e3]) ++ [a4, b4, c4, e4]) ++ [a5, b5, c5, e5]))), rfl, ⟨rfl, initX_rep hI⟩, hG.at h9⟩, hG.2.2.1.F h9⟩) hG.2.2.1.2.2 dX2_init_86
              · exact absurd (by decide) cq
