/-! how the pool's steps are the value's steps -/
theorem shx_ne {τ : gS} {ad : Nat → Nat} {nd : Nat} (h : ShX τ ad nd) {i j : Nat} (hi : i < 11 + 4 * (7 + nd)) (hj : j < 11 + 4 * (7 + nd)) (e : i ≠ j) : ad i ≠ ad j := fun q => e (h.2.1 i j hi hj q)
theorem aSet_S (α : aT) (k : Nat) (S L : Nat → Bool) (P T : Int32) (M : Nat → Int32) : a_S (aSet α k S L P T M) k = S := u1_at _ _ _
theorem aSet_L (α : aT) (k : Nat) (S L : Nat → Bool) (P T : Int32) (M : Nat → Int32) : a_L (aSet α k S L P T M) k = L := u1_at _ _ _
theorem aSet_P (α : aT) (k : Nat) (S L : Nat → Bool) (P T : Int32) (M : Nat → Int32) : a_P (aSet α k S L P T M) k = P := u1_at _ _ _
theorem aSet_T (α : aT) (k : Nat) (S L : Nat → Bool) (P T : Int32) (M : Nat → Int32) : a_T (aSet α k S L P T M) k = T := u1_at _ _ _
theorem aSet_M (α : aT) (k : Nat) (S L : Nat → Bool) (P T : Int32) (M : Nat → Int32) : a_M (aSet α k S L P T M) k = M := u1_at _ _ _
section RO
variable {L : List Nat} {K n : Nat → Nat} {rI rI' : Nat → Nat → Int32} {rJ rJ' : Nat → Nat → Int64} {rQ : Nat → Nat → Option Nat} {fI fI' : Nat → Nat → Int32} {fR : Nat → Nat → Option Nat} {ad : Nat → Nat} {α : aT} {k o : Nat}
theorem repX_set {S Lv : Nat → Bool} {P T : Int32} {M : Nat → Int32} (h : RepX (L, K, n, rI, rJ, rQ, fI, fR) ad α) (hk : k < 7 + a_nd α)
    (hJ : ∀ b, b ≠ ad (12 + 4 * k) → b ≠ ad (13 + 4 * k) → rJ' b = rJ b) (hI : ∀ b, b ≠ ad (14 + 4 * k) → rI' b = rI b) (hF : ∀ b, b ≠ ad (11 + 4 * k) → fI' b = fI b)
    (hst : StX (L, K, n, rI', rJ', rQ, fI', fR) ad k S Lv P T M) : RepX (L, K, n, rI', rJ', rQ, fI', fR) ad (aSet α k S Lv P T M) := by
  obtain ⟨hs, hn, hc, hd, h0⟩ := h
  have ne : ∀ {i j : Nat}, i < 11 + 4 * (7 + a_nd α) → j < 11 + 4 * (7 + a_nd α) → i ≠ j → ad i ≠ ad j := fun a b e => shx_ne hs a b e
  refine ⟨hs, ?_, hc, ?_, fun k2 hk2 => ?_⟩
  · show fI' (ad 0) 5 = _
    rw [hF _ (ne (by omega) (by omega) (by omega))]
    exact hn
  · obtain ⟨d1, d2, d3⟩ := hd
    refine ⟨?_, fun r hr => ?_, fun i hi => ?_⟩
    · show fI' (ad 3) 6 = _
      rw [hF _ (ne (by omega) (by omega) (by omega))]
      exact d1
    · show rI' (ad 10) r = _ ∧ _
      rw [hI _ (ne (by omega) (by omega) (by omega))]
      exact d2 r hr
    · show rI' (ad 5) i = _ ∧ _ ∧ rI' (ad 6) i = _ ∧ _ ∧ rI' (ad 7) i = _ ∧ rI' (ad 8) i = _ ∧ rJ' (ad 9) i = _
      rw [hI _ (ne (i := 5) (by omega) (by omega) (by omega)), hI _ (ne (i := 6) (by omega) (by omega) (by omega)), hI _ (ne (i := 7) (by omega) (by omega) (by omega)), hI _ (ne (i := 8) (by omega) (by omega) (by omega)), hJ _ (ne (i := 9) (by omega) (by omega) (by omega)) (ne (i := 9) (by omega) (by omega) (by omega))]
      exact d3 i hi
  · have hk2 : k2 < 7 + a_nd α := hk2
    by_cases e : k2 = k
    · subst e
      show StX _ _ _ (u1 _ _ _ k2) (u1 _ _ _ k2) (u1 _ _ _ k2) (u1 _ _ _ k2) (u1 _ _ _ k2)
      rw [u1_at, u1_at, u1_at, u1_at, u1_at]
      exact hst
    · show StX _ _ _ (u1 _ _ _ k2) (u1 _ _ _ k2) (u1 _ _ _ k2) (u1 _ _ _ k2) (u1 _ _ _ k2)
      rw [u1_ne _ _ e, u1_ne _ _ e, u1_ne _ _ e, u1_ne _ _ e, u1_ne _ _ e]
      obtain ⟨s1, s2, s3, s4⟩ := h0 k2 hk2
      refine ⟨fun i hi => ?_, ?_, ?_, fun j hj => ?_⟩
      · show rb (rJ' (ad (12 + 4 * k2))) i = _ ∧ rb (rJ' (ad (13 + 4 * k2))) i = _
        rw [hJ _ (ne (by omega) (by omega) (by omega)) (ne (by omega) (by omega) (by omega)), hJ _ (ne (by omega) (by omega) (by omega)) (ne (by omega) (by omega) (by omega))]
        exact s1 i hi
      · show fI' (ad (11 + 4 * k2)) 3 = _
        rw [hF _ (ne (by omega) (by omega) (by omega))]
        exact s2
      · show fI' (ad (11 + 4 * k2)) 4 = _
        rw [hF _ (ne (by omega) (by omega) (by omega))]
        exact s3
      · show rI' (ad (14 + 4 * k2)) j = _
        rw [hI _ (ne (by omega) (by omega) (by omega))]
        exact s4 j hj
theorem keep_set (hk : k < 7 + a_nd α) (hJ : ∀ b, b ≠ ad (12 + 4 * k) → b ≠ ad (13 + 4 * k) → rJ' b = rJ b) (hI : ∀ b, b ≠ ad (14 + 4 * k) → rI' b = rI b) (hF : ∀ b, b ≠ ad (11 + 4 * k) → fI' b = fI b) :
    Keep (L, K, n, rI, rJ, rQ, fI, fR) (L, K, n, rI', rJ', rQ, fI', fR) (inX ad (a_nd α)) := fun b hb => ⟨hb, rfl, rfl, rfl, fun hx => by
  have q : ∀ i, i < 11 + 4 * (7 + a_nd α) → b ≠ ad i := fun i hi e => hx ⟨i, hi, e⟩
  exact ⟨hI b (q _ (by omega)), hJ b (q _ (by omega)) (q _ (by omega)), rfl, hF b (q _ (by omega))⟩⟩
theorem tD_J {bs bl os ol w : Nat} (h : tD bs bl os ol rJ rJ' w) : ∀ b, b ≠ bs → b ≠ bl → rJ' b = rJ b := fun b h1 h2 => funext fun j => h.2.2 b j h2 h1
theorem tT_I {bt ot w : Nat} (h : tT bt ot rI rI' w) : ∀ b, b ≠ bt → rI' b = rI b := fun b h1 => funext fun j => h.2.2 b j h1
theorem up_F {a : Nat} {x y : Int32} (h : fI' = g_up (g_up fI a 3 x) a 4 y) : ∀ b, b ≠ a → fI' b = fI b := fun b hb => by rw [h, g_up_other _ _ _ hb, g_up_other _ _ _ hb]
/-- take: the join of two states -/
theorem repX_join (h : RepX (L, K, n, rI, rJ, rQ, fI, fR) ad α) (hk : k < 7 + a_nd α) (ho : o < 7 + a_nd α)
    (htd : tD (ad (12 + 4 * k)) (ad (13 + 4 * k)) (ad (12 + 4 * o)) (ad (13 + 4 * o)) rJ rJ' 4) (htt : tT (ad (14 + 4 * k)) (ad (14 + 4 * o)) rI rI' 32)
    (hf : fI' = g_up (g_up fI (ad (11 + 4 * k)) 3 (fI (ad (11 + 4 * k)) 3 ||| fI (ad (11 + 4 * o)) 3)) (ad (11 + 4 * k)) 4 (fI (ad (11 + 4 * k)) 4 ||| fI (ad (11 + 4 * o)) 4)) :
    RepX (L, K, n, rI', rJ', rQ, fI', fR) ad (aJoin α k o) ∧ Keep (L, K, n, rI, rJ, rQ, fI, fR) (L, K, n, rI', rJ', rQ, fI', fR) (inX ad (a_nd α)) ∧
    (((∀ j, j < 4 → rJ' (ad (13 + 4 * k)) j = rJ (ad (13 + 4 * k)) j ∧ rJ' (ad (12 + 4 * k)) j = rJ (ad (12 + 4 * k)) j) ∧ ((fI (ad (11 + 4 * k)) 3 ||| fI (ad (11 + 4 * o)) 3) = fI (ad (11 + 4 * k)) 3 ∧ (fI (ad (11 + 4 * k)) 4 ||| fI (ad (11 + 4 * o)) 4) = fI (ad (11 + 4 * k)) 4) ∧ ∀ j, j < 32 → rI' (ad (14 + 4 * k)) j = rI (ad (14 + 4 * k)) j) ↔ sEq (aJoin α k o) α k k) := by
  have sk := h.2.2.2.2 k hk
  have so := h.2.2.2.2 o ho
  obtain ⟨k1, k2, k3, k4⟩ := sk
  obtain ⟨o1, o2, o3, o4⟩ := so
  have hst : StX (L, K, n, rI', rJ', rQ, fI', fR) ad k (fun i => a_S α k i || a_S α o i) (fun i => jb (a_L α k i) (a_S α k i) (a_L α o i) (a_S α o i)) (a_P α k ||| a_P α o) (a_T α k ||| a_T α o) (fun e => mx (a_M α k e) (a_M α o e)) := by
    refine ⟨fun i hi => ⟨?_, ?_⟩, ?_, ?_, fun e he => ?_⟩
    · show rb (rJ' (ad (12 + 4 * k))) i = (a_S α k i || a_S α o i)
      rw [rb_or (fun j hj => (htd.1 j hj).2) hi, ← (k1 i hi).1, ← (o1 i hi).1]
    · show rb (rJ' (ad (13 + 4 * k))) i = jb _ _ _ _
      rw [rb_jl (fun j hj => (htd.1 j hj).1) hi, ← (k1 i hi).1, ← (o1 i hi).1, ← (k1 i hi).2, ← (o1 i hi).2]
    · show fI' _ 3 = _
      rw [hf, g_up_i _ _ _ _ (by decide), g_up_at, ← k2, ← o2]
    · show fI' _ 4 = _
      rw [hf, g_up_at, ← k3, ← o3]
    · show rI' _ e = mx (a_M α k e) (a_M α o e)
      rw [htt.1 e he, ← k4 e he, ← o4 e he]
  refine ⟨repX_set h hk (tD_J htd) (tT_I htt) (up_F hf) hst, keep_set hk (tD_J htd) (tT_I htt) (up_F hf), ?_⟩
  have e1 : (∀ j, j < 4 → rJ' (ad (13 + 4 * k)) j = rJ (ad (13 + 4 * k)) j ∧ rJ' (ad (12 + 4 * k)) j = rJ (ad (12 + 4 * k)) j) ↔ ∀ i, i < 256 → a_S (aJoin α k o) k i = a_S α k i ∧ a_L (aJoin α k o) k i = a_L α k i := by
    constructor
    · intro q i hi
      have q1 := rb_eq.mp (fun j hj => (q j hj).2) i hi
      have q2 := rb_eq.mp (fun j hj => (q j hj).1) i hi
      have z := hst.1 i hi
      unfold aJoin
      rw [aSet_S, aSet_L]
      exact ⟨z.1.symm.trans (q1.trans (k1 i hi).1), z.2.symm.trans (q2.trans (k1 i hi).2)⟩
    · intro q
      have q' : ∀ i, i < 256 → rb (rJ' (ad (12 + 4 * k))) i = rb (rJ (ad (12 + 4 * k))) i ∧ rb (rJ' (ad (13 + 4 * k))) i = rb (rJ (ad (13 + 4 * k))) i := by
        intro i hi
        have z := hst.1 i hi
        have y := q i hi
        unfold aJoin at y
        rw [aSet_S, aSet_L] at y
        exact ⟨z.1.trans (y.1.trans (k1 i hi).1.symm), z.2.trans (y.2.trans (k1 i hi).2.symm)⟩
      intro j hj
      exact ⟨rb_eq.mpr (fun i hi => (q' i hi).2) j hj, rb_eq.mpr (fun i hi => (q' i hi).1) j hj⟩
  unfold sEq
  rw [e1]
  refine and_congr_right fun _ => and_congr ?_ ?_
  · unfold aJoin
    rw [aSet_P, aSet_T, ← show fI (ad (11 + 4 * k)) 3 = a_P α k from k2, ← show fI (ad (11 + 4 * k)) 4 = a_T α k from k3, ← show fI (ad (11 + 4 * o)) 3 = a_P α o from o2, ← show fI (ad (11 + 4 * o)) 4 = a_T α o from o3]
  · unfold aJoin
    rw [aSet_M]
    constructor
    · intro q e he
      have := q e he
      rw [htt.1 e he] at this
      show mx (a_M α k e) (a_M α o e) = a_M α k e
      rw [← k4 e he, ← o4 e he]
      exact this
    · intro q e he
      have : mx (a_M α k e) (a_M α o e) = a_M α k e := q e he
      rw [← k4 e he, ← o4 e he] at this
      rw [htt.1 e he]
      exact this
/-- become: a copy of a state -/
theorem repX_copy (h : RepX (L, K, n, rI, rJ, rQ, fI, fR) ad α) (hk : k < 7 + a_nd α) (ho : o < 7 + a_nd α) (hko : k ≠ o) :
    RepX (L, K, n, g_cp rI (ad (14 + 4 * o)) (ad (14 + 4 * k)) 32, g_cp (g_cp rJ (ad (12 + 4 * o)) (ad (12 + 4 * k)) 4) (ad (13 + 4 * o)) (ad (13 + 4 * k)) 4, rQ, g_up (g_up fI (ad (11 + 4 * k)) 3 (fI (ad (11 + 4 * o)) 3)) (ad (11 + 4 * k)) 4 (g_up fI (ad (11 + 4 * k)) 3 (fI (ad (11 + 4 * o)) 3) (ad (11 + 4 * o)) 4), fR) ad (aCopy α k o) ∧
    Keep (L, K, n, rI, rJ, rQ, fI, fR) (L, K, n, g_cp rI (ad (14 + 4 * o)) (ad (14 + 4 * k)) 32, g_cp (g_cp rJ (ad (12 + 4 * o)) (ad (12 + 4 * k)) 4) (ad (13 + 4 * o)) (ad (13 + 4 * k)) 4, rQ, g_up (g_up fI (ad (11 + 4 * k)) 3 (fI (ad (11 + 4 * o)) 3)) (ad (11 + 4 * k)) 4 (g_up fI (ad (11 + 4 * k)) 3 (fI (ad (11 + 4 * o)) 3) (ad (11 + 4 * o)) 4), fR) (inX ad (a_nd α)) := by
  have hs := h.1
  have ne : ∀ {i j : Nat}, i < 11 + 4 * (7 + a_nd α) → j < 11 + 4 * (7 + a_nd α) → i ≠ j → ad i ≠ ad j := fun a b e => shx_ne hs a b e
  obtain ⟨o1, o2, o3, o4⟩ := h.2.2.2.2 o ho
  have hJ : ∀ b, b ≠ ad (12 + 4 * k) → b ≠ ad (13 + 4 * k) → g_cp (g_cp rJ (ad (12 + 4 * o)) (ad (12 + 4 * k)) 4) (ad (13 + 4 * o)) (ad (13 + 4 * k)) 4 b = rJ b := fun b h1 h2 => by rw [g_cp_other _ _ _ h2, g_cp_other _ _ _ h1]
  have hI : ∀ b, b ≠ ad (14 + 4 * k) → g_cp rI (ad (14 + 4 * o)) (ad (14 + 4 * k)) 32 b = rI b := fun b h1 => by rw [g_cp_other _ _ _ h1]
  have hF : ∀ b, b ≠ ad (11 + 4 * k) → g_up (g_up fI (ad (11 + 4 * k)) 3 (fI (ad (11 + 4 * o)) 3)) (ad (11 + 4 * k)) 4 (g_up fI (ad (11 + 4 * k)) 3 (fI (ad (11 + 4 * o)) 3) (ad (11 + 4 * o)) 4) b = fI b := up_F rfl
  refine ⟨repX_set h hk hJ hI hF ⟨fun i hi => ⟨?_, ?_⟩, ?_, ?_, fun e he => ?_⟩, keep_set hk hJ hI hF⟩
  · show rb (g_cp (g_cp rJ (ad (12 + 4 * o)) (ad (12 + 4 * k)) 4) (ad (13 + 4 * o)) (ad (13 + 4 * k)) 4 (ad (12 + 4 * k))) i = _
    rw [← (o1 i hi).1]
    exact rb_eq.mp (fun j hj => by rw [g_cp_b _ _ _ _ (ne (by omega) (by omega) (by omega)), g_cp_at _ _ _ hj]) i hi
  · show rb (g_cp (g_cp rJ (ad (12 + 4 * o)) (ad (12 + 4 * k)) 4) (ad (13 + 4 * o)) (ad (13 + 4 * k)) 4 (ad (13 + 4 * k))) i = _
    rw [← (o1 i hi).2]
    exact rb_eq.mp (fun j hj => by rw [g_cp_at _ _ _ hj, g_cp_b _ _ _ _ (ne (by omega) (by omega) (by omega))]) i hi
  · show g_up (g_up fI _ 3 _) _ 4 _ _ 3 = _
    rw [g_up_i _ _ _ _ (by decide), g_up_at]
    exact o2
  · show g_up (g_up fI _ 3 _) _ 4 _ _ 4 = _
    rw [g_up_at, g_up_i _ _ _ _ (by decide)]
    exact o3
  · show g_cp rI _ _ 32 _ e = _
    rw [g_cp_at _ _ _ he]
    exact o4 e he
/-- the cells of state k, for the contracts -/
theorem repX_st {τ : gS} (h : RepX τ ad α) (hk : k < 7 + a_nd α) : isSt τ.1 τ.2.1 τ.2.2.1 τ.2.2.2.2.2.2.2 (ad (11 + 4 * k)) (ad (12 + 4 * k)) (ad (13 + 4 * k)) (ad (14 + 4 * k)) := h.1.2.2.2.2.1 k hk
theorem repX_ne {τ : gS} (h : RepX τ ad α) {i j : Nat} (hi : i < 11 + 4 * (7 + a_nd α)) (hj : j < 11 + 4 * (7 + a_nd α)) (e : i ≠ j) : ad i ≠ ad j := shx_ne h.1 hi hj e
/-- the seen row of state k is changed -/
theorem repX_see {Z : Nat → Bool} (h : RepX (L, K, n, rI, rJ, rQ, fI, fR) ad α) (hk : k < 7 + a_nd α) (hJ : ∀ b, b ≠ ad (12 + 4 * k) → rJ' b = rJ b) (hb : ∀ i, i < 256 → rb (rJ' (ad (12 + 4 * k))) i = Z i) :
    RepX (L, K, n, rI, rJ', rQ, fI, fR) ad (aSet α k Z (a_L α k) (a_P α k) (a_T α k) (a_M α k)) ∧ Keep (L, K, n, rI, rJ, rQ, fI, fR) (L, K, n, rI, rJ', rQ, fI, fR) (inX ad (a_nd α)) := by
  obtain ⟨k1, k2, k3, k4⟩ := h.2.2.2.2 k hk
  refine ⟨repX_set h hk (fun b h1 _ => hJ b h1) (fun _ _ => rfl) (fun _ _ => rfl) ⟨fun i hi => ⟨hb i hi, ?_⟩, k2, k3, k4⟩, keep_set hk (fun b h1 _ => hJ b h1) (fun _ _ => rfl) (fun _ _ => rfl)⟩
  show rb (rJ' (ad (13 + 4 * k))) i = _
  rw [hJ _ (repX_ne h (by omega) (by omega) (by omega))]
  exact (k1 i hi).2
/-- put or taken of state k is changed -/
theorem repX_put {x : Int32} (h : RepX (L, K, n, rI, rJ, rQ, fI, fR) ad α) (hk : k < 7 + a_nd α) :
    RepX (L, K, n, rI, rJ, rQ, g_up fI (ad (11 + 4 * k)) 3 x, fR) ad (aSet α k (a_S α k) (a_L α k) x (a_T α k) (a_M α k)) ∧ Keep (L, K, n, rI, rJ, rQ, fI, fR) (L, K, n, rI, rJ, rQ, g_up fI (ad (11 + 4 * k)) 3 x, fR) (inX ad (a_nd α)) := by
  obtain ⟨k1, k2, k3, k4⟩ := h.2.2.2.2 k hk
  have hF : ∀ b, b ≠ ad (11 + 4 * k) → g_up fI (ad (11 + 4 * k)) 3 x b = fI b := fun b hb => g_up_other _ _ _ hb
  refine ⟨repX_set h hk (fun _ _ _ => rfl) (fun _ _ => rfl) hF ⟨k1, g_up_at _ _ _ _, ?_, k4⟩, keep_set hk (fun _ _ _ => rfl) (fun _ _ => rfl) hF⟩
  show g_up fI _ 3 x _ 4 = _
  rw [g_up_i _ _ _ _ (by decide)]
  exact k3
theorem repX_taken {x : Int32} (h : RepX (L, K, n, rI, rJ, rQ, fI, fR) ad α) (hk : k < 7 + a_nd α) :
    RepX (L, K, n, rI, rJ, rQ, g_up fI (ad (11 + 4 * k)) 4 x, fR) ad (aSet α k (a_S α k) (a_L α k) (a_P α k) x (a_M α k)) ∧ Keep (L, K, n, rI, rJ, rQ, fI, fR) (L, K, n, rI, rJ, rQ, g_up fI (ad (11 + 4 * k)) 4 x, fR) (inX ad (a_nd α)) := by
  obtain ⟨k1, k2, k3, k4⟩ := h.2.2.2.2 k hk
  have hF : ∀ b, b ≠ ad (11 + 4 * k) → g_up fI (ad (11 + 4 * k)) 4 x b = fI b := fun b hb => g_up_other _ _ _ hb
  refine ⟨repX_set h hk (fun _ _ _ => rfl) (fun _ _ => rfl) hF ⟨k1, ?_, g_up_at _ _ _ _, k4⟩, keep_set hk (fun _ _ _ => rfl) (fun _ _ => rfl) hF⟩
  show g_up fI _ 4 x _ 3 = _
  rw [g_up_i _ _ _ _ (by decide)]
  exact k2
theorem repX_stamp {x : Int32} {j : Nat} (h : RepX (L, K, n, rI, rJ, rQ, fI, fR) ad α) (hk : k < 7 + a_nd α) :
    RepX (L, K, n, g_up rI (ad (14 + 4 * k)) j x, rJ, rQ, fI, fR) ad (aSet α k (a_S α k) (a_L α k) (a_P α k) (a_T α k) (u1 (a_M α k) j x)) ∧ Keep (L, K, n, rI, rJ, rQ, fI, fR) (L, K, n, g_up rI (ad (14 + 4 * k)) j x, rJ, rQ, fI, fR) (inX ad (a_nd α)) := by
  obtain ⟨k1, k2, k3, k4⟩ := h.2.2.2.2 k hk
  have hI : ∀ b, b ≠ ad (14 + 4 * k) → g_up rI (ad (14 + 4 * k)) j x b = rI b := fun b hb => g_up_other _ _ _ hb
  refine ⟨repX_set h hk (fun _ _ _ => rfl) hI (fun _ _ => rfl) ⟨k1, k2, k3, fun e he => ?_⟩, keep_set hk (fun _ _ _ => rfl) hI (fun _ _ => rfl)⟩
  show g_up rI _ j x _ e = u1 _ _ _ e
  by_cases q : e = j
  · subst q; rw [g_up_at, u1_at]
  · rw [g_up_i _ _ _ _ q, u1_ne _ _ q]; exact k4 e he
/-- enliven: the bits i of SEEN and LIVE -/
theorem repX_live {i : Nat} (h : RepX (L, K, n, rI, rJ, rQ, fI, fR) ad α) (hk : k < 7 + a_nd α)
    (hu : rJ' = g_up (g_up rJ (ad (12 + 4 * k)) (i / 64) (rJ (ad (12 + 4 * k)) (i / 64) ||| (1 <<< ((nI (i % 64)).toInt64 &&& 63)))) (ad (13 + 4 * k)) (i / 64) (g_up rJ (ad (12 + 4 * k)) (i / 64) (rJ (ad (12 + 4 * k)) (i / 64) ||| (1 <<< ((nI (i % 64)).toInt64 &&& 63))) (ad (13 + 4 * k)) (i / 64) ||| (1 <<< ((nI (i % 64)).toInt64 &&& 63)))) :
    RepX (L, K, n, rI, rJ', rQ, fI, fR) ad (aSet α k (fun j => a_S α k j || decide (j = i)) (fun j => a_L α k j || decide (j = i)) (a_P α k) (a_T α k) (a_M α k)) ∧ Keep (L, K, n, rI, rJ, rQ, fI, fR) (L, K, n, rI, rJ', rQ, fI, fR) (inX ad (a_nd α)) := by
  obtain ⟨k1, k2, k3, k4⟩ := h.2.2.2.2 k hk
  have ne : ad (13 + 4 * k) ≠ ad (12 + 4 * k) := repX_ne h (by omega) (by omega) (by omega)
  have hJ : ∀ b, b ≠ ad (12 + 4 * k) → b ≠ ad (13 + 4 * k) → rJ' b = rJ b := fun b h1 h2 => by rw [hu, g_up_other _ _ _ h2, g_up_other _ _ _ h1]
  refine ⟨repX_set h hk hJ (fun _ _ => rfl) (fun _ _ => rfl) ⟨fun j hj => ⟨?_, ?_⟩, k2, k3, k4⟩, keep_set hk hJ (fun _ _ => rfl) (fun _ _ => rfl)⟩
  · show rb (rJ' (ad (12 + 4 * k))) j = _
    rw [hu, g_up_other _ _ _ ne.symm, rb_see]
    exact congrArg (· || decide (j = i)) (k1 j hj).1
  · show rb (rJ' (ad (13 + 4 * k))) j = _
    rw [hu]
    generalize hz : g_up rJ (ad (12 + 4 * k)) (i / 64) (rJ (ad (12 + 4 * k)) (i / 64) ||| (1 <<< ((nI (i % 64)).toInt64 &&& 63))) = z
    have e : z (ad (13 + 4 * k)) = rJ (ad (13 + 4 * k)) := by rw [← hz, g_up_other _ _ _ ne]
    rw [rb_see, e]
    exact congrArg (· || decide (j = i)) (k1 j hj).2
end RO
/-- where the new state's cells come -/
def adN (ad : Nat → Nat) (N a bs bl bt : Nat) : Nat → Nat := fun i => if i < N then ad i else if i = N then a else if i = N + 1 then bs else if i = N + 2 then bl else bt
theorem adN_lt {ad : Nat → Nat} {N a bs bl bt i : Nat} (h : i < N) : adN ad N a bs bl bt i = ad i := if_pos h
theorem adN_0 {ad : Nat → Nat} {N a bs bl bt : Nat} : adN ad N a bs bl bt N = a := by simp [adN]
theorem adN_1 {ad : Nat → Nat} {N a bs bl bt : Nat} : adN ad N a bs bl bt (N + 1) = bs := by
  unfold adN
  rw [if_neg (by omega), if_neg (by omega), if_pos rfl]
theorem adN_2 {ad : Nat → Nat} {N a bs bl bt : Nat} : adN ad N a bs bl bt (N + 2) = bl := by
  unfold adN
  rw [if_neg (by omega), if_neg (by omega), if_neg (by omega), if_pos rfl]
theorem adN_3 {ad : Nat → Nat} {N a bs bl bt : Nat} : adN ad N a bs bl bt (N + 3) = bt := by
  unfold adN
  rw [if_neg (by omega), if_neg (by omega), if_neg (by omega), if_neg (by omega)]

def Ext (L L' : List Nat) (K K' n n' : Nat → Nat) (fR fR' : Nat → Nat → Option Nat) : Prop := ∀ b, b ∈ L → b ∈ L' ∧ K' b = K b ∧ n' b = n b ∧ fR' b = fR b
section EX
variable {L L' : List Nat} {K K' n n' : Nat → Nat} {fR fR' : Nat → Nat → Option Nat}
theorem isSt_ext (h : Ext L L' K K' n n' fR fR') {a bs bl bt : Nat} (hs : isSt L K n fR a bs bl bt) : isSt L' K' n' fR' a bs bl bt := by
  obtain ⟨a1, a2, a3, a4, a5, b1, b2, b3, c1, c2, c3, d1, d2, d3⟩ := hs
  obtain ⟨p1, p2, p3, p4⟩ := h a a1
  obtain ⟨q1, q2, q3, q4⟩ := h bs b1
  obtain ⟨r1, r2, r3, r4⟩ := h bl c1
  obtain ⟨s1, s2, s3, s4⟩ := h bt d1
  exact ⟨p1, p2.trans a2, by rw [p4]; exact a3, by rw [p4]; exact a4, by rw [p4]; exact a5, q1, q2.trans b2, q3.trans b3, r1, r2.trans c2, r3.trans c3, s1, s2.trans d2, s3.trans d3⟩
theorem isDt_ext (h : Ext L L' K K' n n' fR fR') {d dr dn dk dp dv dg : Nat} (hs : isDt L K n fR d dr dn dk dp dv dg) : isDt L' K' n' fR' d dr dn dk dp dv dg := by
  obtain ⟨a1, a2, a3, a4, a5, a6, a7, a8, b1, b2, b3, c1, c2, c3, d1, d2, d3, e1, e2, e3, f1, f2, f3, g1, g2, g3⟩ := hs
  obtain ⟨p1, p2, p3, p4⟩ := h d a1
  obtain ⟨q1, q2, q3, q4⟩ := h dr b1
  obtain ⟨r1, r2, r3, r4⟩ := h dn c1
  obtain ⟨s1, s2, s3, s4⟩ := h dk d1
  obtain ⟨t1, t2, t3, t4⟩ := h dp e1
  obtain ⟨u1, u2, u3, u4⟩ := h dv f1
  obtain ⟨v1, v2, v3, v4⟩ := h dg g1
  exact ⟨p1, p2.trans a2, by rw [p4]; exact a3, by rw [p4]; exact a4, by rw [p4]; exact a5, by rw [p4]; exact a6, by rw [p4]; exact a7, by rw [p4]; exact a8, q1, q2.trans b2, q3.trans b3, r1, r2.trans c2, r3.trans c3, s1, s2.trans d2, s3.trans d3, t1, t2.trans e2, t3.trans e3, u1, u2.trans f2, u3.trans f3, v1, v2.trans g2, v3.trans g3⟩
theorem isDk_ext (h : Ext L L' K K' n n' fR fR') {x ra ma d tr od : Nat} (hs : isDk L K n fR x ra ma d tr od) : isDk L' K' n' fR' x ra ma d tr od := by
  obtain ⟨a1, a2, a3, a4, a5, a6, a7, b1, b2, b3, c1, c2, c3, d1, d2, d3⟩ := hs
  obtain ⟨p1, p2, p3, p4⟩ := h x a1
  obtain ⟨q1, q2, q3, q4⟩ := h ra b1
  obtain ⟨r1, r2, r3, r4⟩ := h ma c1
  obtain ⟨s1, s2, s3, s4⟩ := h od d1
  exact ⟨p1, p2.trans a2, by rw [p4]; exact a3, by rw [p4]; exact a4, by rw [p4]; exact a5, by rw [p4]; exact a6, by rw [p4]; exact a7, q1, q2.trans b2, q3.trans b3, r1, r2.trans c2, r3.trans c3, s1, s2.trans d2, s3.trans d3⟩
end EX
theorem shx_mem {τ : gS} {ad : Nat → Nat} {nd : Nat} (h : ShX τ ad nd) {i : Nat} (hi : i < 11 + 4 * (7 + nd)) : ad i ∈ τ.1 := by
  obtain ⟨-, -, hk, hd, hs, -⟩ := h
  rcases Nat.lt_or_ge i 11 with q | q
  · rcases (show i = 0 ∨ i = 1 ∨ i = 2 ∨ i = 3 ∨ i = 4 ∨ i = 5 ∨ i = 6 ∨ i = 7 ∨ i = 8 ∨ i = 9 ∨ i = 10 by omega) with rfl | rfl | rfl | rfl | rfl | rfl | rfl | rfl | rfl | rfl | rfl
    · exact hk.1
    · exact hk.2.2.2.2.2.2.2.1
    · exact hk.2.2.2.2.2.2.2.2.2.2.1
    · exact hd.1
    · exact hk.2.2.2.2.2.2.2.2.2.2.2.2.2.1
    · exact hd.2.2.2.2.2.2.2.2.1
    · exact hd.2.2.2.2.2.2.2.2.2.2.2.1
    · exact hd.2.2.2.2.2.2.2.2.2.2.2.2.2.2.1
    · exact hd.2.2.2.2.2.2.2.2.2.2.2.2.2.2.2.2.2.1
    · exact hd.2.2.2.2.2.2.2.2.2.2.2.2.2.2.2.2.2.2.2.2.1
    · exact hd.2.2.2.2.2.2.2.2.2.2.2.2.2.2.2.2.2.2.2.2.2.2.2.1
  · have h2 := hs ((i - 11) / 4) (by omega)
    rcases (show i = 11 + 4 * ((i - 11) / 4) ∨ i = 12 + 4 * ((i - 11) / 4) ∨ i = 13 + 4 * ((i - 11) / 4) ∨ i = 14 + 4 * ((i - 11) / 4) by omega) with e | e | e | e
    · rw [e]; exact h2.1
    · rw [e]; exact h2.2.2.2.2.2.1
    · rw [e]; exact h2.2.2.2.2.2.2.2.2.1
    · rw [e]; exact h2.2.2.2.2.2.2.2.2.2.2.2.1
/-- openDelta: a new, empty state -/
theorem repX_new {τ τ' : gS} {ad : Nat → Nat} {α : aT} {a bs bl bt : Nat} (h : RepX τ ad α) (hlt : a_nd α < 250) (hN : NewD τ τ' (ad 0) (ad 2) (a_nd α) a bs bl bt) :
    RepX τ' (adN ad (11 + 4 * (7 + a_nd α)) a bs bl bt) (aNew α) ∧ Keep τ τ' (inX ad (a_nd α)) := by
  obtain ⟨n1, ⟨m1, m2, m3, m4, e1, e2, e3, e4, e5, e6⟩, n3, n4, n5, n6, n7, n8, n9, n10⟩ := hN
  obtain ⟨hs, hn, hc, hd, h0⟩ := h
  have hs0 := hs
  obtain ⟨s1, s2, s3, s4, s5, s6, s7, s8⟩ := hs
  have hx : Ext τ.1 τ'.1 τ.2.1 τ'.2.1 τ.2.2.1 τ'.2.2.1 τ.2.2.2.2.2.2.2 τ'.2.2.2.2.2.2.2 := fun b hb => ⟨(n1 b hb).1, (n1 b hb).2.1, (n1 b hb).2.2.1, (n1 b hb).2.2.2.2.2.1⟩
  have mem : ∀ {i : Nat}, i < 11 + 4 * (7 + a_nd α) → ad i ∈ τ.1 := fun hi => shx_mem hs0 hi
  have ne : ∀ {i j : Nat}, i < 11 + 4 * (7 + a_nd α) → j < 11 + 4 * (7 + a_nd α) → i ≠ j → ad i ≠ ad j := fun a b e => shx_ne hs0 a b e
  have rI : ∀ {i : Nat}, i < 11 + 4 * (7 + a_nd α) → τ'.2.2.2.1 (ad i) = τ.2.2.2.1 (ad i) := fun hi => (n1 _ (mem hi)).2.2.2.1
  have rJ : ∀ {i : Nat}, i < 11 + 4 * (7 + a_nd α) → τ'.2.2.2.2.1 (ad i) = τ.2.2.2.2.1 (ad i) := fun hi => (n1 _ (mem hi)).2.2.2.2.1
  have rQ : ∀ {i : Nat}, i < 11 + 4 * (7 + a_nd α) → i ≠ 2 → τ'.2.2.2.2.2.1 (ad i) = τ.2.2.2.2.2.1 (ad i) := fun hi e => (n1 _ (mem hi)).2.2.2.2.2.2.1 (ne hi (by omega) e)
  have fI : ∀ {i : Nat}, i < 11 + 4 * (7 + a_nd α) → i ≠ 0 → τ'.2.2.2.2.2.2.1 (ad i) = τ.2.2.2.2.2.2.1 (ad i) := fun hi e => (n1 _ (mem hi)).2.2.2.2.2.2.2 (ne hi (by omega) e)
  have lo : ∀ {i : Nat}, i < 11 + 4 * (7 + a_nd α) → adN ad (11 + 4 * (7 + a_nd α)) a bs bl bt i = ad i := fun hi => adN_lt hi
  refine ⟨⟨⟨?_, ?_, ?_, ?_, ?_, ?_, ?_, ?_⟩, ?_, ?_, ?_, ?_⟩, ?_⟩
  · show a_nd α + 1 ≤ 250; omega
  · intro i j hi hj e
    have hi : i < 11 + 4 * (7 + (a_nd α + 1)) := hi
    have hj : j < 11 + 4 * (7 + (a_nd α + 1)) := hj
    have cs : ∀ i, i < 11 + 4 * (7 + (a_nd α + 1)) → (i < 11 + 4 * (7 + a_nd α) ∧ adN ad (11 + 4 * (7 + a_nd α)) a bs bl bt i = ad i) ∨ (i = 11 + 4 * (7 + a_nd α) ∧ adN ad (11 + 4 * (7 + a_nd α)) a bs bl bt i = a) ∨ (i = 11 + 4 * (7 + a_nd α) + 1 ∧ adN ad (11 + 4 * (7 + a_nd α)) a bs bl bt i = bs) ∨ (i = 11 + 4 * (7 + a_nd α) + 2 ∧ adN ad (11 + 4 * (7 + a_nd α)) a bs bl bt i = bl) ∨ (i = 11 + 4 * (7 + a_nd α) + 3 ∧ adN ad (11 + 4 * (7 + a_nd α)) a bs bl bt i = bt) := by
      intro i hi
      rcases (show i < 11 + 4 * (7 + a_nd α) ∨ i = 11 + 4 * (7 + a_nd α) ∨ i = 11 + 4 * (7 + a_nd α) + 1 ∨ i = 11 + 4 * (7 + a_nd α) + 2 ∨ i = 11 + 4 * (7 + a_nd α) + 3 by omega) with q | q | q | q | q
      · exact Or.inl ⟨q, lo q⟩
      · exact Or.inr (Or.inl ⟨q, by rw [q]; exact adN_0⟩)
      · exact Or.inr (Or.inr (Or.inl ⟨q, by rw [q]; exact adN_1⟩))
      · exact Or.inr (Or.inr (Or.inr (Or.inl ⟨q, by rw [q]; exact adN_2⟩)))
      · exact Or.inr (Or.inr (Or.inr (Or.inr ⟨q, by rw [q]; exact adN_3⟩)))
    rcases cs i hi with ⟨q, w⟩ | ⟨q, w⟩ | ⟨q, w⟩ | ⟨q, w⟩ | ⟨q, w⟩ <;> rcases cs j hj with ⟨q', w'⟩ | ⟨q', w'⟩ | ⟨q', w'⟩ | ⟨q', w'⟩ | ⟨q', w'⟩ <;> rw [w, w'] at e <;>
      first | exact s2 i j q q' e | omega | exact absurd (e ▸ mem q) (by assumption) | exact absurd (e.symm ▸ mem q') (by assumption) | exact absurd e (by assumption) | exact absurd e.symm (by assumption)
  · rw [lo (by omega), lo (by omega), lo (by omega), lo (by omega), lo (by omega), lo (by omega)]
    exact isDk_ext hx s3
  · rw [lo (by omega), lo (by omega), lo (by omega), lo (by omega), lo (by omega), lo (by omega), lo (by omega)]
    exact isDt_ext hx s4
  · intro k hk
    have hk : k < 7 + (a_nd α + 1) := hk
    rcases (show k < 7 + a_nd α ∨ k = 7 + a_nd α by omega) with q | q
    · rw [lo (by omega), lo (by omega), lo (by omega), lo (by omega)]
      exact isSt_ext hx (s5 k q)
    · subst q
      rw [adN_0, show 12 + 4 * (7 + a_nd α) = 11 + 4 * (7 + a_nd α) + 1 by omega, adN_1, show 13 + 4 * (7 + a_nd α) = 11 + 4 * (7 + a_nd α) + 2 by omega, adN_2, show 14 + 4 * (7 + a_nd α) = 11 + 4 * (7 + a_nd α) + 3 by omega, adN_3]
      exact n5
  · intro r hr
    rw [lo (by omega), lo (by omega), rQ (by omega) (by decide)]
    exact s6 r hr
  · intro r hr
    have hr : r < a_nd α + 1 := hr
    rw [lo (i := 2) (by omega), n3]
    show (if r = a_nd α then some a else _) = _
    by_cases q : r = a_nd α
    · subst q; rw [if_pos rfl, adN_0]
    · rw [if_neg q, lo (by omega)]
      exact s7 r (by omega)
  · intro r hr hr2
    have hr : a_nd α + 1 ≤ r := hr
    rw [lo (i := 2) (by omega), n3]
    show (if r = a_nd α then some a else _) = _
    rw [if_neg (by omega)]
    exact s8 r (by omega) hr2
  · rw [lo (i := 0) (by omega), n4]; rfl
  · show a_cnt α ≤ a_nd α + 1; omega
  · obtain ⟨d1, d2, d3⟩ := hd
    refine ⟨?_, fun r hr => ?_, fun i hi => ?_⟩
    · rw [lo (i := 3) (by omega), fI (by omega) (by decide)]; exact d1
    · rw [lo (i := 10) (by omega), rI (by omega)]; exact d2 r hr
    · rw [lo (i := 5) (by omega), lo (i := 6) (by omega), lo (i := 7) (by omega), lo (i := 8) (by omega), lo (i := 9) (by omega), rI (i := 5) (by omega), rI (i := 6) (by omega), rI (i := 7) (by omega), rI (i := 8) (by omega), rJ (i := 9) (by omega)]
      exact d3 i hi
  · intro k hk
    have hk : k < 7 + (a_nd α + 1) := hk
    unfold aNew
    rcases (show k < 7 + a_nd α ∨ k = 7 + a_nd α by omega) with q | q
    · show StX _ _ _ (u1 _ _ _ k) (u1 _ _ _ k) (u1 _ _ _ k) (u1 _ _ _ k) (u1 _ _ _ k)
      have q2 : k ≠ 7 + α.1.1 := by show k ≠ 7 + a_nd α; omega
      rw [u1_ne _ _ q2, u1_ne _ _ q2, u1_ne _ _ q2, u1_ne _ _ q2, u1_ne _ _ q2]
      obtain ⟨k1, k2, k3, k4⟩ := h0 k q
      refine ⟨fun i hi => ?_, ?_, ?_, fun e he => ?_⟩
      · rw [lo (by omega), lo (by omega), rJ (by omega), rJ (by omega)]; exact k1 i hi
      · rw [lo (by omega), fI (by omega) (by omega)]; exact k2
      · rw [lo (by omega), fI (by omega) (by omega)]; exact k3
      · rw [lo (by omega), rI (by omega)]; exact k4 e he
    · subst q
      rw [aSet_S, aSet_L, aSet_P, aSet_T, aSet_M]
      refine ⟨fun i hi => ?_, ?_, ?_, fun e he => ?_⟩
      · rw [show 12 + 4 * (7 + a_nd α) = 11 + 4 * (7 + a_nd α) + 1 by omega, adN_1, show 13 + 4 * (7 + a_nd α) = 11 + 4 * (7 + a_nd α) + 2 by omega, adN_2]
        exact ⟨rb_0 n6 i, rb_0 n7 i⟩
      · rw [adN_0]; exact n9
      · rw [adN_0]; exact n10
      · rw [show 14 + 4 * (7 + a_nd α) = 11 + 4 * (7 + a_nd α) + 3 by omega, adN_3]; exact n8 e
  · intro b hb
    obtain ⟨q1, q2, q3, q4, q5, q6, q7, q8⟩ := n1 b hb
    exact ⟨q1, q2, q3, q6, fun hx => ⟨q4, q5, q7 (fun e => hx ⟨2, by omega, e⟩), q8 (fun e => hx ⟨0, by omega, e⟩)⟩⟩
