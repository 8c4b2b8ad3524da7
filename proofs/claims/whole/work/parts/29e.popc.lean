/-! how many bits are set -/
def cntN (P : Nat → Bool) : Nat → Nat
  | 0 => 0
  | w + 1 => cntN P w + (if P w then 1 else 0)
theorem cntN_s (P : Nat → Bool) (w : Nat) : cntN P (w + 1) = cntN P w + (if P w then 1 else 0) := rfl
theorem cntN_add (P : Nat → Bool) (a b : Nat) : cntN P (a + b) = cntN P a + cntN (fun j => P (a + j)) b := by
  induction b with
  | zero => rfl
  | succ b ih => rw [← Nat.add_assoc, cntN_s, ih, cntN_s]; omega
theorem cntN_le (P : Nat → Bool) (w : Nat) : cntN P w ≤ w := by
  induction w with
  | zero => exact Nat.le_refl _
  | succ w ih => rw [cntN_s]; split <;> omega
theorem cntN_congr {P Q : Nat → Bool} {w : Nat} (h : ∀ i, i < w → P i = Q i) : cntN P w = cntN Q w := by
  induction w with
  | zero => rfl
  | succ w ih => rw [cntN_s, cntN_s, ih (fun i hi => h i (by omega)), h w (by omega)]
/-- bytes -/
def V8 (d : Nat → Nat) : Nat → Nat
  | 0 => 0
  | k + 1 => d 0 + 256 * V8 (fun i => d (i + 1)) k
theorem land8 {a b x y : Nat} (ha : a < 256) (hb : b < 256) : (a + 256 * x) &&& (b + 256 * y) = (a &&& b) + 256 * (x &&& y) := by
  have hab : a &&& b < 2 ^ 8 := Nat.and_lt_two_pow _ hb
  rw [show a + 256 * x = 2 ^ 8 * x + a by omega, show b + 256 * y = 2 ^ 8 * y + b by omega, show (a &&& b) + 256 * (x &&& y) = 2 ^ 8 * (x &&& y) + (a &&& b) by omega]
  apply Nat.eq_of_testBit_eq
  intro j
  rw [Nat.testBit_and, Nat.testBit_two_pow_mul_add _ ha, Nat.testBit_two_pow_mul_add _ hb, Nat.testBit_two_pow_mul_add _ hab]
  split <;> rw [Nat.testBit_and]
theorem V8_and {d e : Nat → Nat} {k : Nat} (hd : ∀ i, i < k → d i < 256) (he : ∀ i, i < k → e i < 256) : V8 d k &&& V8 e k = V8 (fun i => d i &&& e i) k := by
  induction k generalizing d e with
  | zero => simp [V8]
  | succ k ih =>
    show (d 0 + 256 * _) &&& (e 0 + 256 * _) = (d 0 &&& e 0) + 256 * _
    rw [land8 (hd 0 (by omega)) (he 0 (by omega)), ih (fun i hi => hd (i + 1) (by omega)) (fun i hi => he (i + 1) (by omega))]
theorem V8_add {d e : Nat → Nat} {k : Nat} : V8 d k + V8 e k = V8 (fun i => d i + e i) k := by
  induction k generalizing d e with
  | zero => rfl
  | succ k ih =>
    show (d 0 + 256 * _) + (e 0 + 256 * _) = (d 0 + e 0) + 256 * _
    rw [← ih]; omega
theorem V8_le {d e : Nat → Nat} {k : Nat} (h : ∀ i, i < k → e i ≤ d i) : V8 e k ≤ V8 d k := by
  induction k generalizing d e with
  | zero => exact Nat.le_refl _
  | succ k ih =>
    show e 0 + 256 * _ ≤ d 0 + 256 * _
    have := ih (fun i hi => h (i + 1) (by omega))
    have := h 0 (by omega)
    omega
theorem V8_sub {d e : Nat → Nat} {k : Nat} (h : ∀ i, i < k → e i ≤ d i) : V8 d k - V8 e k = V8 (fun i => d i - e i) k := by
  induction k generalizing d e with
  | zero => rfl
  | succ k ih =>
    show (d 0 + 256 * _) - (e 0 + 256 * _) = (d 0 - e 0) + 256 * _
    rw [← ih (fun i hi => h (i + 1) (by omega))]
    have := V8_le (k := k) (fun i hi => h (i + 1) (by omega))
    have := h 0 (by omega)
    omega
theorem V8_congr {d e : Nat → Nat} {k : Nat} (h : ∀ i, i < k → d i = e i) : V8 d k = V8 e k := by
  induction k generalizing d e with
  | zero => rfl
  | succ k ih =>
    show d 0 + 256 * _ = e 0 + 256 * _
    rw [h 0 (by omega), ih (fun i hi => h (i + 1) (by omega))]
theorem V8_lt {d : Nat → Nat} {k : Nat} (h : ∀ i, i < k → d i < 256) : V8 d k < 256 ^ k := by
  induction k generalizing d with
  | zero => simp [V8]
  | succ k ih =>
    show d 0 + 256 * _ < _
    have := ih (fun i hi => h (i + 1) (by omega))
    have := h 0 (by omega)
    rw [Nat.pow_succ]; omega
theorem V8_d2 {d : Nat → Nat} {k : Nat} (h : d k % 2 = 0) : V8 d k / 2 = V8 (fun i => d i / 2 + 128 * (d (i + 1) % 2)) k := by
  induction k generalizing d with
  | zero => simp [V8]
  | succ k ih =>
    show (d 0 + 256 * _) / 2 = (d 0 / 2 + 128 * (d 1 % 2)) + 256 * _
    have e := ih (d := fun i => d (i + 1)) h
    rw [show (fun i => d (i + 1) / 2 + 128 * (d (i + 1 + 1) % 2)) = (fun i => (fun i => d (i + 1)) i / 2 + 128 * ((fun i => d (i + 1)) (i + 1) % 2)) from rfl, ← e]
    have : V8 (fun i => d (i + 1)) k % 2 = d 1 % 2 := by
      cases k with
      | zero => show 0 % 2 = d 1 % 2; rw [show d 1 = d (0 + 1) from rfl, h]
      | succ k => show (d (0 + 1) + 256 * _) % 2 = d 1 % 2; rw [Nat.zero_add]; omega
    omega
theorem V8_d4 {d : Nat → Nat} {k : Nat} (h : d k % 4 = 0) : V8 d k / 4 = V8 (fun i => d i / 4 + 64 * (d (i + 1) % 4)) k := by
  induction k generalizing d with
  | zero => simp [V8]
  | succ k ih =>
    show (d 0 + 256 * _) / 4 = (d 0 / 4 + 64 * (d 1 % 4)) + 256 * _
    have e := ih (d := fun i => d (i + 1)) h
    rw [show (fun i => d (i + 1) / 4 + 64 * (d (i + 1 + 1) % 4)) = (fun i => (fun i => d (i + 1)) i / 4 + 64 * ((fun i => d (i + 1)) (i + 1) % 4)) from rfl, ← e]
    have : V8 (fun i => d (i + 1)) k % 4 = d 1 % 4 := by
      cases k with
      | zero => show 0 % 4 = d 1 % 4; rw [show d 1 = d (0 + 1) from rfl, h]
      | succ k => show (d (0 + 1) + 256 * _) % 4 = d 1 % 4; rw [Nat.zero_add]; omega
    omega
theorem V8_d16 {d : Nat → Nat} {k : Nat} (h : d k % 16 = 0) : V8 d k / 16 = V8 (fun i => d i / 16 + 16 * (d (i + 1) % 16)) k := by
  induction k generalizing d with
  | zero => simp [V8]
  | succ k ih =>
    show (d 0 + 256 * _) / 16 = (d 0 / 16 + 16 * (d 1 % 16)) + 256 * _
    have e := ih (d := fun i => d (i + 1)) h
    rw [show (fun i => d (i + 1) / 16 + 16 * (d (i + 1 + 1) % 16)) = (fun i => (fun i => d (i + 1)) i / 16 + 16 * ((fun i => d (i + 1)) (i + 1) % 16)) from rfl, ← e]
    have : V8 (fun i => d (i + 1)) k % 16 = d 1 % 16 := by
      cases k with
      | zero => show 0 % 16 = d 1 % 16; rw [show d 1 = d (0 + 1) from rfl, h]
      | succ k => show (d (0 + 1) + 256 * _) % 16 = d 1 % 16; rw [Nat.zero_add]; omega
    omega
theorem V8_of (n k : Nat) : V8 (fun i => n / 256 ^ i % 256) k = n % 256 ^ k := by
  induction k generalizing n with
  | zero => show 0 = n % 1; omega
  | succ k ih =>
    show n / 256 ^ 0 % 256 + 256 * V8 (fun i => n / 256 ^ (i + 1) % 256) k = _
    have e : (fun i => n / 256 ^ (i + 1) % 256) = (fun i => (n / 256) / 256 ^ i % 256) := by
      funext i
      rw [Nat.div_div_eq_div_mul, Nat.pow_succ, Nat.mul_comm]
    rw [e, ih, Nat.pow_zero, Nat.div_one, Nat.pow_succ, Nat.mul_comm (256 ^ k) 256, Nat.mod_mul]
/-- of one byte -/
def p8a (a : Nat) : Nat := a - (a / 2 &&& 85)
def p8b (a : Nat) : Nat := (p8a a &&& 51) + (p8a a / 4 &&& 51)
theorem p8_1 : ∀ a, a < 128 → ∀ b, b < 2 → (a + 128 * b) &&& 85 = a &&& 85 := by decide +kernel
theorem p8_2 : ∀ a, a < 64 → ∀ b, b < 4 → (a + 64 * b) &&& 51 = a &&& 51 := by decide +kernel
theorem p8_3 : ∀ a, a < 256 → (a / 2 &&& 85) ≤ a ∧ p8a a < 256 ∧ p8b a < 256 ∧ p8b a % 16 ≤ 4 ∧ p8b a / 16 ≤ 4 ∧ p8b a % 16 + p8b a / 16 = cntN (fun j => a.testBit j) 8 := by decide +kernel
theorem p8_15 (x : Nat) : x &&& 15 = x % 16 := Nat.and_two_pow_sub_one_eq_mod x 4
/-- the word's bits, byte by byte -/
theorem cnt8 (n : Nat) : cntN (fun j => n.testBit j) 64 = cntN (fun j => (n / 256 ^ 0 % 256).testBit j) 8 + (cntN (fun j => (n / 256 ^ 1 % 256).testBit j) 8 + (cntN (fun j => (n / 256 ^ 2 % 256).testBit j) 8 + (cntN (fun j => (n / 256 ^ 3 % 256).testBit j) 8 + (cntN (fun j => (n / 256 ^ 4 % 256).testBit j) 8 + (cntN (fun j => (n / 256 ^ 5 % 256).testBit j) 8 + (cntN (fun j => (n / 256 ^ 6 % 256).testBit j) 8 + cntN (fun j => (n / 256 ^ 7 % 256).testBit j) 8)))))) := by
  have key : ∀ i, cntN (fun j => (n / 256 ^ i % 256).testBit j) 8 = cntN (fun j => n.testBit (8 * i + j)) 8 := by
    intro i
    apply cntN_congr
    intro j hj
    rw [show 256 ^ i = 2 ^ (8 * i) by rw [Nat.pow_mul], show (256 : Nat) = 2 ^ 8 from rfl, Nat.testBit_mod_two_pow, Nat.testBit_div_two_pow]
    simp [hj, Nat.add_comm]
  rw [key, key, key, key, key, key, key, key]
  rw [show (64 : Nat) = 8 + (8 + (8 + (8 + (8 + (8 + (8 + 8)))))) from rfl]
  simp only [cntN_add]
  simp only [Nat.mul_zero, Nat.zero_add, ← Nat.add_assoc, Nat.reduceMul, Nat.reduceAdd]
/-- the arithmetic of bitCount -/
theorem pop_nat {n : Nat} (hn : n < 2 ^ 64) {x1 x2 x3 x4 x5 x6 : Nat} (h1 : x1 = n - (n / 2 &&& 6148914691236517205)) (h2 : x2 = (x1 &&& 3689348814741910323) + (x1 / 4 &&& 3689348814741910323)) (h3 : x3 = (x2 + x2 / 16) &&& 1085102592571150095)
    (h4 : x4 = x3 + x3 / 256) (h5 : x5 = x4 + x4 / 65536) (h6 : x6 = x5 + x5 / 4294967296) :
    (n / 2 &&& 6148914691236517205) ≤ n ∧ x1 < 2 ^ 64 ∧ x2 < 2 ^ 64 ∧ x2 + x2 / 16 < 2 ^ 64 ∧ x3 < 2 ^ 64 ∧ x4 < 2 ^ 64 ∧ x5 < 2 ^ 64 ∧ x6 % 128 = cntN (fun j => n.testBit j) 64 := by
  obtain ⟨d, hd⟩ : ∃ d : Nat → Nat, d = fun i => if i < 8 then n / 256 ^ i % 256 else 0 := ⟨_, rfl⟩
  have hdl : ∀ i, d i < 256 := fun i => by rw [hd]; show (if i < 8 then _ else _) < 256; split <;> omega
  have hd8 : d 8 = 0 := by rw [hd]; rfl
  have hV : n = V8 d 8 := by
    have := V8_of n 8
    rw [Nat.mod_eq_of_lt (show n < 256 ^ 8 by omega)] at this
    rw [← this]
    exact V8_congr (fun i hi => by rw [hd]; simp [hi])
  have m1 : (6148914691236517205 : Nat) = V8 (fun _ => 85) 8 := by decide
  have m2 : (3689348814741910323 : Nat) = V8 (fun _ => 51) 8 := by decide
  have m3 : (1085102592571150095 : Nat) = V8 (fun _ => 15) 8 := by decide
  have a1 : n / 2 &&& 6148914691236517205 = V8 (fun i => d i / 2 &&& 85) 8 := by
    rw [hV, V8_d2 (by rw [hd8]), m1, V8_and (fun i _ => by have := hdl i; omega) (fun _ _ => by decide)]
    exact V8_congr (fun i _ => p8_1 _ (by have := hdl i; omega) _ (by omega))
  have b1 : x1 = V8 (fun i => p8a (d i)) 8 := by
    rw [h1, a1, hV, V8_sub (fun i _ => (p8_3 _ (hdl i)).1)]
    rfl
  have b2 : x2 = V8 (fun i => p8b (d i)) 8 := by
    rw [h2, b1, V8_d4 (by rw [hd8]; decide), m2, V8_and (fun i _ => (p8_3 _ (hdl i)).2.1) (fun _ _ => by decide), V8_and (fun i _ => by have := (p8_3 _ (hdl i)).2.1; omega) (fun _ _ => by decide), V8_add]
    refine V8_congr (fun i _ => ?_)
    show (p8a (d i) &&& 51) + _ = (p8a (d i) &&& 51) + _
    rw [p8_2 _ (by have := (p8_3 _ (hdl i)).2.1; omega) _ (by omega)]
  have b3 : x2 + x2 / 16 = V8 (fun i => p8b (d i) + (p8b (d i) / 16 + 16 * (p8b (d (i + 1)) % 16))) 8 := by
    rw [b2, V8_d16 (by rw [hd8]; decide), V8_add]
  have l3 : ∀ i, p8b (d i) + (p8b (d i) / 16 + 16 * (p8b (d (i + 1)) % 16)) < 256 := fun i => by
    have z1 := (p8_3 _ (hdl i)).2.2.2
    have z2 := (p8_3 _ (hdl (i + 1))).2.2.2
    omega
  obtain ⟨c, hc⟩ : ∃ c : Nat → Nat, c = fun i => cntN (fun j => (d i).testBit j) 8 := ⟨_, rfl⟩
  have hcl : ∀ i, c i ≤ 8 := fun i => by rw [hc]; exact cntN_le _ _
  have b4 : x3 = V8 c 8 := by
    rw [h3, b3, m3, V8_and (fun i _ => l3 i) (fun _ _ => by decide)]
    refine V8_congr (fun i _ => ?_)
    show (p8b (d i) + (p8b (d i) / 16 + 16 * (p8b (d (i + 1)) % 16))) &&& 15 = c i
    rw [p8_15, hc]
    show _ = cntN (fun j => (d i).testBit j) 8
    have z1 := (p8_3 _ (hdl i)).2.2.2
    rw [← z1.2.2]
    omega
  have L1 : x1 < 2 ^ 64 := by omega
  have L2 : x2 < 2 ^ 64 := by rw [b2]; exact V8_lt (k := 8) (fun i _ => (p8_3 _ (hdl i)).2.2.1)
  have L3 : x2 + x2 / 16 < 2 ^ 64 := by rw [b3]; exact V8_lt (k := 8) (fun i _ => l3 i)
  have e8 : cntN (fun j => n.testBit j) 64 = c 0 + (c 1 + (c 2 + (c 3 + (c 4 + (c 5 + (c 6 + c 7)))))) := by
    rw [cnt8 n, hc, hd]
    rfl
  have b5 : x3 = c 0 + 256 * (c 1 + 256 * (c 2 + 256 * (c 3 + 256 * (c 4 + 256 * (c 5 + 256 * (c 6 + 256 * c 7)))))) := b4
  have q0 := hcl 0
  have q1 := hcl 1
  have q2 := hcl 2
  have q3 := hcl 3
  have q4 := hcl 4
  have q5 := hcl 5
  have q6 := hcl 6
  have q7 := hcl 7
  rw [e8]
  generalize c 0 = c0 at *
  generalize c 1 = c1 at *
  generalize c 2 = c2 at *
  generalize c 3 = c3 at *
  generalize c 4 = c4 at *
  generalize c 5 = c5 at *
  generalize c 6 = c6 at *
  generalize c 7 = c7 at *
  have f1 : x3 / 256 = c1 + 256 * (c2 + 256 * (c3 + 256 * (c4 + 256 * (c5 + 256 * (c6 + 256 * c7))))) := by omega
  have f2 : x4 = (c0 + c1) + 256 * ((c1 + c2) + 256 * ((c2 + c3) + 256 * ((c3 + c4) + 256 * ((c4 + c5) + 256 * ((c5 + c6) + 256 * ((c6 + c7) + 256 * c7)))))) := by omega
  have f3 : x4 / 65536 = (c2 + c3) + 256 * ((c3 + c4) + 256 * ((c4 + c5) + 256 * ((c5 + c6) + 256 * ((c6 + c7) + 256 * c7)))) := by omega
  have f4 : x5 = (c0 + c1 + (c2 + c3)) + 256 * ((c1 + c2 + (c3 + c4)) + 256 * ((c2 + c3 + (c4 + c5)) + 256 * ((c3 + c4 + (c5 + c6)) + 256 * ((c4 + c5 + (c6 + c7)) + 256 * ((c5 + c6 + c7) + 256 * ((c6 + c7) + 256 * c7)))))) := by omega
  have f5 : x5 / 4294967296 = (c4 + c5 + (c6 + c7)) + 256 * ((c5 + c6 + c7) + 256 * ((c6 + c7) + 256 * c7)) := by omega
  refine ⟨?_, L1, L2, L3, by omega, by omega, by omega, by omega⟩
  rw [a1, hV]
  exact V8_le (fun i _ => (p8_3 _ (hdl i)).1)
theorem wb_add (a b : Nat) : lN a + lN b = lN (a + b) := by
  apply wb_inj
  rw [Int64.toBitVec_add, wb_tb, wb_tb, wb_tb, BitVec.ofNat_add]
theorem wb_sub {a b : Nat} (h : b ≤ a) : lN a - lN b = lN (a - b) := by
  have e := wb_add (a - b) b
  rw [Nat.sub_add_cancel h] at e
  rw [← e, Int64.add_sub_cancel]
theorem wb_lb {n : Nat} (hn : n < 2 ^ 64) (j : Nat) : lb (lN n) j = n.testBit j := by
  unfold lb
  rw [wb_tb, BitVec.getLsbD_ofNat]
  by_cases h : j < 64
  · simp [h]
  · have z := Nat.testBit_lt_two_pow (x := n) (i := j) (Nat.lt_of_lt_of_le hn (Nat.pow_le_pow_right (by decide) (by omega)))
    simp [h, z]
theorem wb_l2i (n : Nat) : (lN n).toInt32 &&& 127 = nI (n % 128) := by
  apply Int32.toBitVec_inj.mp
  apply BitVec.eq_of_toNat_eq
  show ((BitVec.ofNat 64 n).signExtend 32 &&& 127#32).toNat = (BitVec.ofNat 32 (n % 128)).toNat
  rw [BitVec.signExtend_eq_setWidth_of_le _ (by decide), BitVec.toNat_and, BitVec.toNat_setWidth, BitVec.toNat_ofNat, BitVec.toNat_ofNat, show 127 % 2 ^ 32 = 2 ^ 7 - 1 from rfl, Nat.and_two_pow_sub_one_eq_mod, BitVec.toNat_ofNat]
  omega
