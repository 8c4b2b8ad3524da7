/-! the reference: its value, and how the pool holds it -/
/-- (deltas, (SEEN, LIVE), (put, taken), (time, by, in), (key, part, value of each dot)); states: 0..5 replicas, 6 + d the delta d, 256 the draft; a dot (r, n) has the bit 128 r + n - 1, and the place 101 r + n -/
abbrev bT : Type := Nat × ((Nat → Nat → Bool) × (Nat → Nat → Bool)) × ((Nat → Int32) × (Nat → Int32)) × ((Nat → Nat → Int32) × (Nat → Nat → Int32) × (Nat → Nat → Bool)) × ((Nat → Int32) × (Nat → Int32) × (Nat → Int64))
abbrev b_nd (β : bT) : Nat := β.1
abbrev b_S (β : bT) : Nat → Nat → Bool := β.2.1.1
abbrev b_L (β : bT) : Nat → Nat → Bool := β.2.1.2
abbrev b_P (β : bT) : Nat → Int32 := β.2.2.1.1
abbrev b_T (β : bT) : Nat → Int32 := β.2.2.1.2
abbrev b_tm (β : bT) : Nat → Nat → Int32 := β.2.2.2.1.1
abbrev b_by (β : bT) : Nat → Nat → Int32 := β.2.2.2.1.2.1
abbrev b_in (β : bT) : Nat → Nat → Bool := β.2.2.2.1.2.2
abbrev b_key (β : bT) : Nat → Int32 := β.2.2.2.2.1
abbrev b_part (β : bT) : Nat → Int32 := β.2.2.2.2.2.1
abbrev b_val (β : bT) : Nat → Int64 := β.2.2.2.2.2.2
/-- the numbers of the reference's cells: its fields' numbers -/
abbrev okM (i : Nat) : Prop := i < 14 ∧ i ≠ 1 ∧ i ≠ 12
def isMd (L : List Nat) (K n : Nat → Nat) (fR : Nat → Nat → Option Nat) (bm : Nat → Nat) : Prop :=
  (∀ i j, okM i → okM j → bm i = bm j → i = j) ∧ bm 0 ∈ L ∧ K (bm 0) = 3 ∧
  (fR (bm 0) 2 = some (bm 2) ∧ fR (bm 0) 3 = some (bm 3) ∧ fR (bm 0) 4 = some (bm 4) ∧ fR (bm 0) 5 = some (bm 5) ∧ fR (bm 0) 6 = some (bm 6) ∧ fR (bm 0) 7 = some (bm 7) ∧ fR (bm 0) 8 = some (bm 8) ∧ fR (bm 0) 9 = some (bm 9) ∧ fR (bm 0) 10 = some (bm 10) ∧ fR (bm 0) 11 = some (bm 11) ∧ fR (bm 0) 13 = some (bm 13)) ∧
  (bm 2 ∈ L ∧ K (bm 2) = 5 ∧ n (bm 2) = 3084) ∧ (bm 3 ∈ L ∧ K (bm 3) = 5 ∧ n (bm 3) = 3084) ∧ (bm 4 ∈ L ∧ K (bm 4) = 4 ∧ n (bm 4) = 257) ∧ (bm 5 ∈ L ∧ K (bm 5) = 4 ∧ n (bm 5) = 257) ∧
  (bm 6 ∈ L ∧ K (bm 6) = 4 ∧ n (bm 6) = 8224) ∧ (bm 7 ∈ L ∧ K (bm 7) = 4 ∧ n (bm 7) = 8224) ∧ (bm 8 ∈ L ∧ K (bm 8) = 6 ∧ n (bm 8) = 8224) ∧
  (bm 9 ∈ L ∧ K (bm 9) = 4 ∧ n (bm 9) = 606) ∧ (bm 10 ∈ L ∧ K (bm 10) = 4 ∧ n (bm 10) = 606) ∧ (bm 11 ∈ L ∧ K (bm 11) = 5 ∧ n (bm 11) = 606) ∧ (bm 13 ∈ L ∧ K (bm 13) = 5 ∧ n (bm 13) = 600)
/-- the words of state k -/
def mr (f : Nat → Int64) (k : Nat) : Nat → Int64 := fun w => f (12 * k + w)
def RepM (τ : gS) (bm : Nat → Nat) (β : bT) : Prop :=
  isMd τ.1 τ.2.1 τ.2.2.1 τ.2.2.2.2.2.2.2 bm ∧ (τ.2.2.2.2.2.2.1 (bm 0) 1 = nI (b_nd β) ∧ b_nd β ≤ 250) ∧
  (∀ k, k < 257 → ∀ i, i < 768 → rb (mr (τ.2.2.2.2.1 (bm 2)) k) i = b_S β k i ∧ rb (mr (τ.2.2.2.2.1 (bm 3)) k) i = b_L β k i) ∧
  (∀ k, k < 257 → τ.2.2.2.1 (bm 4) k = b_P β k ∧ τ.2.2.2.1 (bm 5) k = b_T β k) ∧
  (∀ k, k < 257 → ∀ i, i < 32 → τ.2.2.2.1 (bm 6) (32 * k + i) = b_tm β k i ∧ τ.2.2.2.1 (bm 7) (32 * k + i) = b_by β k i ∧ τ.2.2.2.1 (bm 8) (32 * k + i) = bi (b_in β k i)) ∧
  ∀ d, d < 606 → τ.2.2.2.1 (bm 9) d = b_key β d ∧ τ.2.2.2.1 (bm 10) d = b_part β d ∧ τ.2.2.2.2.1 (bm 11) d = b_val β d
def inM (bm : Nat → Nat) (b : Nat) : Prop := ∃ i, okM i ∧ b = bm i
/-- a step of the reference -/
def StpM (τ : gS) (bm : Nat → Nat) (τ' : gS) (β' : bT) : Prop := RepM τ' bm β' ∧ Keep τ τ' (inM bm)
theorem StpM.rf {τ : gS} {bm : Nat → Nat} {β : bT} (h : RepM τ bm β) : StpM τ bm τ β := ⟨h, Keep.rf⟩
theorem StpM.tr {τ τ1 τ2 : gS} {bm : Nat → Nat} {β1 β2 : bT} (h : StpM τ bm τ1 β1) (h2 : StpM τ1 bm τ2 β2) : StpM τ bm τ2 β2 := ⟨h2.1, h.2.tr h2.2 (fun _ _ hx => hx)⟩
/-! steps on values -/
def bSL (β : bT) (k : Nat) (S L : Nat → Bool) : bT := (β.1, (u1 (b_S β) k S, u1 (b_L β) k L), β.2.2)
def bPT (β : bT) (k : Nat) (P T : Int32) : bT := (β.1, β.2.1, (u1 (b_P β) k P, u1 (b_T β) k T), β.2.2.2)
def bTI (β : bT) (k : Nat) (t b : Nat → Int32) (i : Nat → Bool) : bT := (β.1, β.2.1, β.2.2.1, (u1 (b_tm β) k t, u1 (b_by β) k b, u1 (b_in β) k i), β.2.2.2.2)
def bND (β : bT) (m : Nat) : bT := (m, β.2)
def bDot (β : bT) (d : Nat) (k p : Int32) (v : Int64) : bT := (β.1, β.2.1, β.2.2.1, β.2.2.2.1, u1 (b_key β) d k, u1 (b_part β) d p, u1 (b_val β) d v)
/-- w places of a row from lo on hold F; the others are as they were -/
def upR {α : Type} (f f' : Nat → α) (lo w : Nat) (F : Nat → α) : Prop := (∀ v, v < w → f' (lo + v) = F v) ∧ ∀ j, ¬ (lo ≤ j ∧ j < lo + w) → f' j = f j
theorem upR_0 {α : Type} {f : Nat → α} {lo : Nat} {F : Nat → α} : upR f f lo 0 F := ⟨fun v h => absurd h (Nat.not_lt_zero v), fun _ _ => rfl⟩
theorem upR_s {α : Type} {f f' f'' : Nat → α} {lo w : Nat} {F : Nat → α} (h : upR f f' lo w F) (h1 : f'' (lo + w) = F w) (h2 : ∀ j, j ≠ lo + w → f'' j = f' j) : upR f f'' lo (w + 1) F := by
  refine ⟨fun v hv => ?_, fun j hj => ?_⟩
  · rcases Nat.lt_succ_iff_lt_or_eq.mp hv with q | q
    · rw [h2 _ (by omega)]; exact h.1 v q
    · subst q; exact h1
  · rw [h2 j (by omega)]; exact h.2 j (by omega)
theorem upR_g {α : Type} {f : Nat → α} {f' : Nat → Nat → α} {a lo w : Nat} {F : Nat → α} {x : α} (h : upR f (f' a) lo w F) (h1 : x = F w) : upR f (g_up f' a (lo + w) x a) lo (w + 1) F :=
  upR_s h (by rw [g_up_at]; exact h1) (fun j hj => g_up_i _ _ _ _ hj)
/-- the words of a state behind it -/
theorem upR_mr {f f' : Nat → Int64} {k : Nat} {F : Nat → Int64} (h : upR f f' (12 * k) 12 F) {i : Nat} (hi : i < 768) : rb (mr f' k) i = rb F i := by
  unfold rb mr
  rw [h.1 (i / 64) (by omega)]
theorem upR_mr' {f f' : Nat → Int64} {k k' : Nat} {F : Nat → Int64} (h : upR f f' (12 * k) 12 F) (hk : k' ≠ k) {i : Nat} (hi : i < 768) : rb (mr f' k') i = rb (mr f k') i := by
  unfold rb mr
  rw [h.2 (12 * k' + i / 64) (by omega)]
section MM
variable {L : List Nat} {K n : Nat → Nat} {rI rI' : Nat → Nat → Int32} {rJ rJ' : Nat → Nat → Int64} {rQ : Nat → Nat → Option Nat} {fI fI' : Nat → Nat → Int32} {fR : Nat → Nat → Option Nat} {bm : Nat → Nat} {β : bT} {k : Nat}
theorem isMd_ne (h : isMd L K n fR bm) {i j : Nat} (hi : okM i) (hj : okM j) (e : i ≠ j) : bm i ≠ bm j := fun q => e (h.1 i j hi hj q)
/-- SEEN and LIVE of state k are changed -/
theorem repM_J {FS FL : Nat → Int64} (h : RepM (L, K, n, rI, rJ, rQ, fI, fR) bm β) (hk : k < 257) (h1 : upR (rJ (bm 2)) (rJ' (bm 2)) (12 * k) 12 FS) (h2 : upR (rJ (bm 3)) (rJ' (bm 3)) (12 * k) 12 FL) (h3 : ∀ b, b ≠ bm 2 → b ≠ bm 3 → rJ' b = rJ b) {S Lv : Nat → Bool} (hS : ∀ i, i < 768 → rb FS i = S i) (hL : ∀ i, i < 768 → rb FL i = Lv i) :
    StpM (L, K, n, rI, rJ, rQ, fI, fR) bm (L, K, n, rI, rJ', rQ, fI, fR) (bSL β k S Lv) := by
  obtain ⟨m1, m2, m3, m4, m5, m6⟩ := h
  refine ⟨⟨m1, m2, fun k' hk' i hi => ?_, m4, m5, fun d hd => ⟨(m6 d hd).1, (m6 d hd).2.1, ?_⟩⟩, fun b hb => ⟨hb, rfl, rfl, rfl, fun hx => ⟨rfl, h3 b (fun e => hx ⟨2, by decide, e⟩) (fun e => hx ⟨3, by decide, e⟩), rfl, rfl⟩⟩⟩
  · show rb (mr (rJ' (bm 2)) k') i = u1 (b_S β) k S k' i ∧ rb (mr (rJ' (bm 3)) k') i = u1 (b_L β) k Lv k' i
    by_cases q : k' = k
    · subst q
      rw [u1_at, u1_at, upR_mr h1 hi, upR_mr h2 hi]
      exact ⟨hS i hi, hL i hi⟩
    · rw [u1_ne _ _ q, u1_ne _ _ q, upR_mr' h1 q hi, upR_mr' h2 q hi]
      exact m3 k' hk' i hi
  · show rJ' (bm 11) d = b_val β d
    rw [h3 _ (isMd_ne m1 (by decide) (by decide) (by decide)) (isMd_ne m1 (by decide) (by decide) (by decide))]
    exact (m6 d hd).2.2
/-- put and taken of state k -/
theorem repM_P {P T : Int32} (h : RepM (L, K, n, rI, rJ, rQ, fI, fR) bm β) (h1 : ∀ j, rI' (bm 4) j = if j = k then P else rI (bm 4) j) (h2 : ∀ j, rI' (bm 5) j = if j = k then T else rI (bm 5) j) (h3 : ∀ b, b ≠ bm 4 → b ≠ bm 5 → rI' b = rI b) :
    StpM (L, K, n, rI, rJ, rQ, fI, fR) bm (L, K, n, rI', rJ, rQ, fI, fR) (bPT β k P T) := by
  obtain ⟨m1, m2, m3, m4, m5, m6⟩ := h
  have ne : ∀ {i j : Nat}, okM i → okM j → i ≠ j → bm i ≠ bm j := fun a b c => isMd_ne m1 a b c
  refine ⟨⟨m1, m2, m3, fun k' hk' => ?_, fun k' hk' i hi => ?_, fun d hd => ?_⟩, fun b hb => ⟨hb, rfl, rfl, rfl, fun hx => ⟨h3 b (fun e => hx ⟨4, by decide, e⟩) (fun e => hx ⟨5, by decide, e⟩), rfl, rfl, rfl⟩⟩⟩
  · show rI' (bm 4) k' = u1 (b_P β) k P k' ∧ rI' (bm 5) k' = u1 (b_T β) k T k'
    rw [h1, h2]
    by_cases q : k' = k
    · rw [if_pos q, if_pos q, q, u1_at, u1_at]; exact ⟨rfl, rfl⟩
    · rw [if_neg q, if_neg q, u1_ne _ _ q, u1_ne _ _ q]; exact m4 k' hk'
  · show rI' (bm 6) _ = _ ∧ rI' (bm 7) _ = _ ∧ rI' (bm 8) _ = _
    rw [h3 _ (ne (by decide) (by decide) (by decide)) (ne (by decide) (by decide) (by decide)), h3 _ (ne (by decide) (by decide) (by decide)) (ne (by decide) (by decide) (by decide)), h3 _ (ne (by decide) (by decide) (by decide)) (ne (by decide) (by decide) (by decide))]
    exact m5 k' hk' i hi
  · show rI' (bm 9) _ = _ ∧ rI' (bm 10) _ = _ ∧ _
    rw [h3 _ (ne (by decide) (by decide) (by decide)) (ne (by decide) (by decide) (by decide)), h3 _ (ne (by decide) (by decide) (by decide)) (ne (by decide) (by decide) (by decide))]
    exact m6 d hd
/-- the times of state k -/
theorem repM_T {t b : Nat → Int32} {z : Nat → Bool} (h : RepM (L, K, n, rI, rJ, rQ, fI, fR) bm β) (hk : k < 257) (h1 : upR (rI (bm 6)) (rI' (bm 6)) (32 * k) 32 t) (h2 : upR (rI (bm 7)) (rI' (bm 7)) (32 * k) 32 b) (h3 : upR (rI (bm 8)) (rI' (bm 8)) (32 * k) 32 (fun i => bi (z i))) (h4 : ∀ c, c ≠ bm 6 → c ≠ bm 7 → c ≠ bm 8 → rI' c = rI c) :
    StpM (L, K, n, rI, rJ, rQ, fI, fR) bm (L, K, n, rI', rJ, rQ, fI, fR) (bTI β k t b z) := by
  obtain ⟨m1, m2, m3, m4, m5, m6⟩ := h
  have ne : ∀ {i j : Nat}, okM i → okM j → i ≠ j → bm i ≠ bm j := fun a b c => isMd_ne m1 a b c
  have o : ∀ {i : Nat}, okM i → i ≠ 6 → i ≠ 7 → i ≠ 8 → rI' (bm i) = rI (bm i) := fun hi a b c => h4 _ (ne hi (by decide) a) (ne hi (by decide) b) (ne hi (by decide) c)
  refine ⟨⟨m1, m2, m3, fun k' hk' => ?_, fun k' hk' i hi => ?_, fun d hd => ?_⟩, fun c hc => ⟨hc, rfl, rfl, rfl, fun hx => ⟨h4 c (fun e => hx ⟨6, by decide, e⟩) (fun e => hx ⟨7, by decide, e⟩) (fun e => hx ⟨8, by decide, e⟩), rfl, rfl, rfl⟩⟩⟩
  · show rI' (bm 4) k' = _ ∧ rI' (bm 5) k' = _
    rw [o (by decide) (by decide) (by decide) (by decide), o (by decide) (by decide) (by decide) (by decide)]
    exact m4 k' hk'
  · show rI' (bm 6) _ = u1 (b_tm β) k t k' i ∧ rI' (bm 7) _ = u1 (b_by β) k b k' i ∧ rI' (bm 8) _ = bi (u1 (b_in β) k z k' i)
    by_cases q : k' = k
    · subst q
      rw [u1_at, u1_at, u1_at]
      exact ⟨h1.1 i hi, h2.1 i hi, h3.1 i hi⟩
    · rw [u1_ne _ _ q, u1_ne _ _ q, u1_ne _ _ q, h1.2 _ (by omega), h2.2 _ (by omega), h3.2 _ (by omega)]
      exact m5 k' hk' i hi
  · show rI' (bm 9) _ = _ ∧ rI' (bm 10) _ = _ ∧ _
    rw [o (by decide) (by decide) (by decide) (by decide), o (by decide) (by decide) (by decide) (by decide)]
    exact m6 d hd
/-- its own int fields -/
theorem repM_F {m : Nat} (h : RepM (L, K, n, rI, rJ, rQ, fI, fR) bm β) (h1 : fI' (bm 0) 1 = nI m) (hm : m ≤ 250) (h2 : ∀ b, b ≠ bm 0 → fI' b = fI b) : StpM (L, K, n, rI, rJ, rQ, fI, fR) bm (L, K, n, rI, rJ, rQ, fI', fR) (bND β m) :=
  ⟨⟨h.1, ⟨h1, hm⟩, h.2.2⟩, fun b hb => ⟨hb, rfl, rfl, rfl, fun hx => ⟨rfl, rfl, rfl, h2 b (fun e => hx ⟨0, by decide, e⟩)⟩⟩⟩
theorem repM_F0 (h : RepM (L, K, n, rI, rJ, rQ, fI, fR) bm β) (h1 : fI' (bm 0) 1 = fI (bm 0) 1) (h2 : ∀ b, b ≠ bm 0 → fI' b = fI b) : StpM (L, K, n, rI, rJ, rQ, fI, fR) bm (L, K, n, rI, rJ, rQ, fI', fR) β :=
  ⟨⟨h.1, ⟨h1.trans h.2.1.1, h.2.1.2⟩, h.2.2⟩, fun b hb => ⟨hb, rfl, rfl, rfl, fun hx => ⟨rfl, rfl, rfl, h2 b (fun e => hx ⟨0, by decide, e⟩)⟩⟩⟩
/-- the row of values in order -/
theorem repM_O (h : RepM (L, K, n, rI, rJ, rQ, fI, fR) bm β) (h2 : ∀ b, b ≠ bm 13 → rJ' b = rJ b) : StpM (L, K, n, rI, rJ, rQ, fI, fR) bm (L, K, n, rI, rJ', rQ, fI, fR) β := by
  obtain ⟨m1, m2, m3, m4, m5, m6⟩ := h
  have o : ∀ {i : Nat}, okM i → i ≠ 13 → rJ' (bm i) = rJ (bm i) := fun hi a => h2 _ (isMd_ne m1 hi (by decide) a)
  refine ⟨⟨m1, m2, fun k' hk' i hi => ?_, m4, m5, fun d hd => ⟨(m6 d hd).1, (m6 d hd).2.1, ?_⟩⟩, fun b hb => ⟨hb, rfl, rfl, rfl, fun hx => ⟨rfl, h2 b (fun e => hx ⟨13, by decide, e⟩), rfl, rfl⟩⟩⟩
  · show rb (mr (rJ' (bm 2)) k') i = _ ∧ rb (mr (rJ' (bm 3)) k') i = _
    rw [o (by decide) (by decide), o (by decide) (by decide)]; exact m3 k' hk' i hi
  · show rJ' (bm 11) d = _
    rw [o (by decide) (by decide)]; exact (m6 d hd).2.2
/-- a dot's key, part and value -/
theorem repM_D {d : Nat} {x y : Int32} {v : Int64} (h : RepM (L, K, n, rI, rJ, rQ, fI, fR) bm β) (h1 : rI' = g_up (g_up rI (bm 9) d x) (bm 10) d y) (h2 : rJ' = g_up rJ (bm 11) d v) :
    StpM (L, K, n, rI, rJ, rQ, fI, fR) bm (L, K, n, rI', rJ', rQ, fI, fR) (bDot β d x y v) := by
  obtain ⟨m1, m2, m3, m4, m5, m6⟩ := h
  have o : ∀ {i : Nat}, okM i → i ≠ 9 → i ≠ 10 → rI' (bm i) = rI (bm i) := fun hi a b => by rw [h1, g_up_other _ _ _ (isMd_ne m1 hi (by decide) b), g_up_other _ _ _ (isMd_ne m1 hi (by decide) a)]
  have oJ : ∀ {i : Nat}, okM i → i ≠ 11 → rJ' (bm i) = rJ (bm i) := fun hi a => by rw [h2, g_up_other _ _ _ (isMd_ne m1 hi (by decide) a)]
  refine ⟨⟨m1, m2, fun k' hk' i hi => ?_, fun k' hk' => ?_, fun k' hk' i hi => ?_, fun j hj => ?_⟩, fun b hb => ⟨hb, rfl, rfl, rfl, fun hx => ⟨?_, ?_, rfl, rfl⟩⟩⟩
  · show rb (mr (rJ' (bm 2)) k') i = _ ∧ rb (mr (rJ' (bm 3)) k') i = _
    rw [oJ (by decide) (by decide), oJ (by decide) (by decide)]; exact m3 k' hk' i hi
  · show rI' (bm 4) k' = _ ∧ rI' (bm 5) k' = _
    rw [o (by decide) (by decide) (by decide), o (by decide) (by decide) (by decide)]; exact m4 k' hk'
  · show rI' (bm 6) _ = _ ∧ rI' (bm 7) _ = _ ∧ rI' (bm 8) _ = _
    rw [o (by decide) (by decide) (by decide), o (by decide) (by decide) (by decide), o (by decide) (by decide) (by decide)]; exact m5 k' hk' i hi
  · show rI' (bm 9) j = u1 (b_key β) d x j ∧ rI' (bm 10) j = u1 (b_part β) d y j ∧ rJ' (bm 11) j = u1 (b_val β) d v j
    have e1 : rI' (bm 9) j = g_up rI (bm 9) d x (bm 9) j := by rw [h1, g_up_other _ _ _ (isMd_ne m1 (by decide) (by decide) (by decide))]
    have e2 : rI' (bm 10) j = if j = d then y else rI (bm 10) j := by rw [h1, g_up_same]; by_cases q : j = d <;> simp [q, g_up_other _ _ _ (isMd_ne m1 (show okM 10 by decide) (show okM 9 by decide) (by decide))]
    rw [e1, e2, h2, g_up_same, g_up_same]
    by_cases q : j = d
    · subst q; simp [u1_at]
    · simp only [if_neg q, u1_ne _ _ q]; exact m6 j hj
  · show rI' b = rI b
    rw [h1, g_up_other _ _ _ (fun e => hx ⟨10, by decide, e⟩), g_up_other _ _ _ (fun e => hx ⟨9, by decide, e⟩)]
  · show rJ' b = rJ b
    rw [h2, g_up_other _ _ _ (fun e => hx ⟨11, by decide, e⟩)]
end MM
theorem nI_mul (a b : Nat) : nI a * nI b = nI (a * b) := (Int32.ofNat_mul a b).symm
theorem m12 (k w : Nat) : 12 * nI k + nI w = nI (12 * k + w) := by rw [show (12 : Int32) = nI 12 from rfl, nI_mul, nI_add]
theorem m32 (k w : Nat) : 32 * nI k + nI w = nI (32 * k + w) := by rw [show (32 : Int32) = nI 32 from rfl, nI_mul, nI_add]
theorem m101 (k w : Nat) : 101 * nI k + nI w = nI (101 * k + w) := by rw [show (101 : Int32) = nI 101 from rfl, nI_mul, nI_add]
theorem okI_le {v : Int32} {N : Nat} (hN : N < 2 ^ 31) : (0 ≤ v ∧ v ≤ nI N - 1) ↔ okI v N := by
  cases N with
  | zero =>
    constructor
    · rintro ⟨h1, h2⟩
      have h3 : (0 : Int32) ≤ nI 0 - 1 := Int32.le_trans h1 h2
      exact absurd h3 (by decide)
    · rintro ⟨r, hr, -⟩; exact absurd hr (Nat.not_lt_zero r)
  | succ M =>
    rw [nI_pred]
    constructor
    · rintro ⟨h1, h2⟩
      exact okI_of hN (Int32.not_lt.mpr h1) (Int32.lt_of_le_of_lt h2 (nI_lt (by omega) hN))
    · rintro ⟨r, hr, rfl⟩
      exact ⟨nI_pos' (by omega), nI_le (by omega) (by omega)⟩
