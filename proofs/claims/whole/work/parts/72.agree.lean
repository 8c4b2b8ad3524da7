/-! the class's answers and the reference's agree -/
section AG
variable {α a9 : aT} {β : bT} {τ : gS} {ad : Nat → Nat} {c k : Nat} {y : Int64} {thr : Int32} {St : bT → Prop}
def Agr (a9 : aT) (St : bT → Prop) (thr : Int32) (c : Nat) (E : Prop) : Prop := ∃ β', St β' ∧ Sim a9 β' ∧ thr = nI c ∧ (nI c = 0 → E)
def cod3 (A B C : Prop) (c : Nat) : Prop := (c = 1 ∧ ¬ A) ∨ (c = 2 ∧ A ∧ ¬ B) ∨ (c = 3 ∧ A ∧ B ∧ ¬ C) ∨ (c = 0 ∧ A ∧ B ∧ C)
theorem cod3_eq {A B C : Prop} (h : cod3 A B C c) (h' : cod3 A B C k) : c = k := by
  rcases h with ⟨rfl, h1⟩ | ⟨rfl, h1, h2⟩ | ⟨rfl, h1, h2, h3⟩ | ⟨rfl, h1, h2, h3⟩ <;> rcases h' with ⟨rfl, g1⟩ | ⟨rfl, g1, g2⟩ | ⟨rfl, g1, g2, g3⟩ | ⟨rfl, g1, g2, g3⟩ <;> first | rfl | (exfalso; first | exact h1 g1 | exact g1 h1 | exact h2 g2 | exact g2 h2 | exact h3 g3 | exact g3 h3)
theorem ag_gen {P0 M0 E : Prop} (hS : Sim α β) (hP : (c = 0 ∧ P0) ∨ ((c ≠ 0 ∧ c < 4) ∧ a9 = α)) (hM : (k = 0 ∧ M0) ∨ (k ≠ 0 ∧ St β)) (ht : thr = nI k) (hck : c = k) (hz : P0 → M0 → ∃ β', St β' ∧ Sim a9 β' ∧ E) : Agr a9 St thr c E := by
  subst hck
  rcases hP with ⟨c0, hp⟩ | ⟨c0, hp⟩
  · rcases hM with ⟨_, hm⟩ | ⟨k0, _⟩
    · obtain ⟨β', h1, h2, h3⟩ := hz hp hm
      exact ⟨β', h1, h2, ht, fun _ => h3⟩
    · exact absurd c0 k0
  · rcases hM with ⟨k0, _⟩ | ⟨_, hm⟩
    · exact absurd k0 c0.1
    · exact ⟨β, hm, by rw [hp]; exact hS, ht, fun z => absurd (nI_inj (by omega) (by decide) (show nI c = nI 0 from z)) c0.1⟩
theorem n6 {a b : Nat} {v : Int32} (ha : a < 1000) (hb : b < 1000) (h1 : v = nI a) (h2 : v = nI b) : a = b := nI_inj (by omega) (by omega) (h1.symm.trans h2)
theorem bb_f {a b : Bool} {P Q : Prop} (h1 : a = false ↔ P) (h2 : b = false ↔ Q) (h : P ↔ Q) : a = b := by
  have : a = false ↔ b = false := h1.trans (h.trans h2.symm)
  cases a <;> cases b <;> simp at this ⊢
theorem bb_t {a b : Bool} {P Q : Prop} (h1 : a = true ↔ P) (h2 : b = true ↔ Q) (h : P ↔ Q) : a = b := by
  have : a = true ↔ b = true := h1.trans (h.trans h2.symm)
  cases a <;> cases b <;> simp at this ⊢
theorem refI_cod {v key : Int32} {pb on : Bool} {kd : Int32} {A : Prop} {r : Nat} (hS : Sim α β) (hA : pb = true ↔ A) (hr : r < 6) (hv : v = nI r) (h : refI β v key pb kd on k) : cod3 (okI v 6 ∧ okI key 16 ∧ A) (key - key / 4 * 4 = kd) (a_nd α < 250 ∧ (on = true → a_g α r < 100)) k := by
  rcases h with ⟨e, h⟩ | ⟨e, h, h2⟩ | ⟨q, hq, hv', hk, hp, hkd, h⟩
  · exact Or.inl ⟨e, fun z => h ⟨z.1, z.2.1, hA.mpr z.2.2⟩⟩
  · exact Or.inr (Or.inl ⟨e, ⟨h.1, h.2.1, hA.mp h.2.2⟩, h2⟩)
  · have := n6 (by omega) (by omega) hv' hv
    subst this
    have hg : grN (fun i => b_S β q (128 * q + i)) 100 = a_g α q := hS.g hq
    rw [hg, hS.2.2] at h
    rcases h with ⟨e, h⟩ | ⟨e, h⟩
    · exact Or.inr (Or.inr (Or.inr ⟨e, ⟨⟨q, hq, hv⟩, hk, hA.mp hp⟩, hkd, h⟩))
    · exact Or.inr (Or.inr (Or.inl ⟨e, ⟨⟨q, hq, hv⟩, hk, hA.mp hp⟩, hkd, h⟩))
theorem ag_dot {v key : Int32} {on : Bool} {kd : Int32} {A A' : Prop} {F : Nat → Prop} {fa : Nat → aT} {fb : Nat → bT} {x : Int32} (hS : Sim α β) (hcn : a_cnt α ≤ a_nd α) (hA : A' ↔ (okI v 6 ∧ okI key 16 ∧ A)) (hF : ∀ r, F r → (on = true ∧ ¬ (a_cnt α < 250 ∧ a_g α r < 100)) ∨ ¬ a_nd α < 250)
    (hP : (c = 0 ∧ ∃ r, r < 6 ∧ v = nI r ∧ A' ∧ key - key / 4 * 4 = kd ∧ y = (nI (a_nd α)).toInt64 ∧ a9 = fa r) ∨ (a9 = α ∧ ((c = 1 ∧ ¬ A') ∨ (c = 2 ∧ A' ∧ ¬ key - key / 4 * 4 = kd) ∨ (c = 3 ∧ A' ∧ key - key / 4 * 4 = kd ∧ ∃ r, r < 6 ∧ v = nI r ∧ F r))))
    (hroom : ∀ r, r < 6 → a9 = fa r → a_nd α < 250 ∧ (on = true → a_g α r < 100))
    (hsim : ∀ r, r < 6 → a_nd α < 250 → (on = true → a_g α r < 100) → Sim (fa r) (fb r))
    (hM : thr = nI k ∧ (∃ pb, (pb = true ↔ A) ∧ refI β v key pb kd on k) ∧ ((k = 0 ∧ x = nI (b_nd β) ∧ ∃ q, q < 6 ∧ v = nI q ∧ St (fb q)) ∨ (k ≠ 0 ∧ St β))) : Agr a9 St thr c (y = x.toInt64) := by
  obtain ⟨ht, ⟨pb, hpb, hI⟩, hM⟩ := hM
  have hP2 : (c = 0 ∧ ∃ r, r < 6 ∧ v = nI r ∧ y = (nI (a_nd α)).toInt64 ∧ a9 = fa r) ∨ ((c ≠ 0 ∧ c < 4) ∧ a9 = α) := by
    rcases hP with ⟨e0, r', hr', e', h1, h2, h3, h4⟩ | ⟨e0, h⟩
    · exact Or.inl ⟨e0, r', hr', e', h3, h4⟩
    · exact Or.inr ⟨by rcases h with ⟨z, _⟩ | ⟨z, _⟩ | ⟨z, _⟩ <;> omega, e0⟩
  refine ag_gen hS hP2 hM ht ?_ ?_
  · by_cases hv : okI v 6
    · obtain ⟨r, hr, e⟩ := hv
      have hk := refI_cod hS hpb hr e hI
      refine cod3_eq ?_ hk
      rcases hP with ⟨e0, r', hr', e', h1, h2, h3, h4⟩ | ⟨e0, h⟩
      · have := n6 (by omega) (by omega) e' e
        subst this
        exact Or.inr (Or.inr (Or.inr ⟨e0, hA.mp h1, h2, hroom _ hr h4⟩))
      · rcases h with ⟨e1, h1⟩ | ⟨e1, h1, h2⟩ | ⟨e1, h1, h2, r', hr', e', h3⟩
        · exact Or.inl ⟨e1, fun z => h1 (hA.mpr z)⟩
        · exact Or.inr (Or.inl ⟨e1, hA.mp h1, h2⟩)
        · have := n6 (by omega) (by omega) e' e
          subst this
          refine Or.inr (Or.inr (Or.inl ⟨e1, hA.mp h1, h2, fun z => ?_⟩))
          rcases hF _ h3 with ⟨on1, q⟩ | q
          · exact q ⟨by omega, z.2 on1⟩
          · exact q z.1
    · have hk : k = 1 := by
        rcases hI with ⟨e, _⟩ | ⟨_, h, _⟩ | ⟨q, hq, e, _⟩
        · exact e
        · exact absurd h.1 hv
        · exact absurd ⟨q, hq, e⟩ hv
      rw [hk]
      rcases hP with ⟨_, r, hr, e, _⟩ | ⟨e0, ⟨e1, _⟩ | ⟨_, h1, _⟩ | ⟨_, h1, _⟩⟩
      · exact absurd ⟨r, hr, e⟩ hv
      · exact e1
      · exact absurd (hA.mp h1).1 hv
      · exact absurd (hA.mp h1).1 hv
  · rintro ⟨r, hr, e, h3, h4⟩ ⟨hx, q, hq, e', hSt⟩
    have := n6 (by omega) (by omega) e' e
    subst this
    have hro := hroom _ hq h4
    exact ⟨fb q, hSt, by rw [h4]; exact hsim q hq hro.1 hro.2, by rw [h3, hx, hS.2.2]⟩
theorem ag_two {A A1 A2 : Prop} {P0 M0 E : Prop} (hS : Sim α β) (hA : A ↔ (A1 ∧ A2)) (hP : (c = 0 ∧ P0) ∨ (a9 = α ∧ ((c = 1 ∧ ¬ A) ∨ (c = 2 ∧ A ∧ ¬ a_nd α < 250)))) (hP0 : P0 → A ∧ a_nd α < 250) (hM : thr = nI k ∧ ref2 β A1 A2 k ∧ ((k = 0 ∧ M0) ∨ (k ≠ 0 ∧ St β))) (hz : P0 → M0 → ∃ β', St β' ∧ Sim a9 β' ∧ E) : Agr a9 St thr c E := by
  obtain ⟨ht, hr, hM⟩ := hM
  refine ag_gen hS (P0 := P0) ?_ hM ht ?_ hz
  · rcases hP with ⟨z, h⟩ | ⟨e, ⟨z, _⟩ | ⟨z, _⟩⟩
    · exact Or.inl ⟨z, h⟩
    · exact Or.inr ⟨by omega, e⟩
    · exact Or.inr ⟨by omega, e⟩
  · unfold ref2 at hr
    rw [hS.2.2, ← hA] at hr
    rcases hP with ⟨z, h⟩ | ⟨e, ⟨z, h⟩ | ⟨z, h, h2⟩⟩
    · have hp := hP0 h
      rcases hr with ⟨k1, g⟩ | ⟨k1, g, g2⟩ | ⟨k1, g, g2⟩
      · exact absurd hp.1 g
      · exact absurd hp.2 g2
      · omega
    · rcases hr with ⟨k1, g⟩ | ⟨k1, g, g2⟩ | ⟨k1, g, g2⟩
      · omega
      · exact absurd g h
      · exact absurd g h
    · rcases hr with ⟨k1, g⟩ | ⟨k1, g, g2⟩ | ⟨k1, g, g2⟩
      · exact absurd h g
      · omega
      · exact absurd g2 h2
theorem ag_one {A A' P0 M0 E : Prop} (hS : Sim α β) (hA : A ↔ A') (hP : (c = 0 ∧ P0) ∨ (a9 = α ∧ c = 1 ∧ ¬ A)) (hP0 : P0 → A) (hM : (thr = 0 ∧ M0) ∨ (thr = 1 ∧ ¬ A' ∧ St β)) (hM0 : M0 → A') (hz : P0 → M0 → ∃ β', St β' ∧ Sim a9 β' ∧ E) : Agr a9 St thr c E := by
  rcases hP with ⟨z, h⟩ | ⟨e, z, h⟩
  · rcases hM with ⟨t, g⟩ | ⟨_, g, _⟩
    · obtain ⟨β', h1, h2, h3⟩ := hz h g
      exact ⟨β', h1, h2, by rw [t, z]; rfl, fun _ => h3⟩
    · exact absurd (hA.mp (hP0 h)) g
  · rcases hM with ⟨_, g⟩ | ⟨t, g, h2⟩
    · exact absurd (hA.mpr (hM0 g)) h
    · exact ⟨β, h2, by rw [e]; exact hS, by rw [t, z]; rfl, fun q => absurd q (by rw [z]; decide)⟩
theorem ag_q {A A' P0 M0 E : Prop} (hS : Sim α β) (hA : A ↔ A') (hP : (c = 0 ∧ P0) ∨ (a9 = α ∧ c = 1 ∧ ¬ A)) (hP0 : P0 → A ∧ a9 = α) (hM : ((thr = 0 ∧ M0) ∨ (thr = 1 ∧ ¬ A')) ∧ St β) (hM0 : M0 → A') (hz : P0 → M0 → E) : Agr a9 St thr c E := by
  refine ag_one (M0 := M0) hS hA hP (fun h => (hP0 h).1) ?_ hM0 (fun h g => ⟨β, hM.2, by rw [(hP0 h).2]; exact hS, hz h g⟩)
  rcases hM.1 with h | h
  · exact Or.inl h
  · exact Or.inr ⟨h.1, h.2, hM.2⟩
theorem rx_g (h : RepX τ ad a9) {r : Nat} (hr : r < 6) : a_g a9 r ≤ 100 := (h.2.2.2.1.2.1 r hr).2
theorem ag_element {τ0 : gS} {ad0 : Nat → Nat} {i key el : Int32} {on : Bool} {u : ((Nat → Nat → Int32) × (Nat → Nat → Int64) × (Nat → Nat → Int32)) × Nat} {x : Int32} (hS : Sim α β) (hA0 : RepX τ0 ad0 α) (hR : RepX τ ad a9) (hP : (c = 0 ∧ ∃ r, r < 6 ∧ i = nI r ∧ (okI i 6 ∧ okI key 16 ∧ okI el 32) ∧ key - key / 4 * 4 = 0 ∧ y = (nI (a_nd α)).toInt64 ∧ a9 = aTurn α r key el on) ∨ (a9 = α ∧ ((c = 1 ∧ ¬ (okI i 6 ∧ okI key 16 ∧ okI el 32)) ∨ (c = 2 ∧ (okI i 6 ∧ okI key 16 ∧ okI el 32) ∧ ¬ key - key / 4 * 4 = 0) ∨ (c = 3 ∧ (okI i 6 ∧ okI key 16 ∧ okI el 32) ∧ key - key / 4 * 4 = 0 ∧ ∃ r, r < 6 ∧ i = nI r ∧ ((on = true ∧ ¬ (a_cnt α < 250 ∧ a_g α r < 100)) ∨ ¬ a_nd α < 250))))) (hM : thr = nI u.2 ∧ (∃ pb, (pb = true ↔ okI el 32) ∧ refI β i key pb 0 on u.2) ∧ ((u.2 = 0 ∧ x = nI (b_nd β) ∧ ∃ q, q < 6 ∧ i = nI q ∧ St (bTurn β q key el on)) ∨ (u.2 ≠ 0 ∧ St β))) : Agr a9 St thr c (y = x.toInt64) := by
  refine ag_dot hS hA0.2.2.1 Iff.rfl (fun r h => h) hP (fun r hr e => ?_) (fun r hr h1 h2 => sim_turn hS hr h2 (Nat.lt_of_le_of_lt hA0.2.2.1 h1)) hM
  have h1 := hR.1.1
  have h2 := rx_g hR hr
  rw [e] at h1 h2
  have e1 : a_nd (aTurn α r key el on) = a_nd α + 1 := by cases on <;> rfl
  refine ⟨by omega, fun q => ?_⟩
  subst q
  have e2 : a_g (aTurn α r key el true) r = a_g α r + 1 := u1_at _ _ _
  omega
theorem ag_flag {τ0 : gS} {ad0 : Nat → Nat} {i key el : Int32} {on : Bool} {u : ((Nat → Nat → Int32) × (Nat → Nat → Int64) × (Nat → Nat → Int32)) × Nat} {x : Int32} (hS : Sim α β) (hA0 : RepX τ0 ad0 α) (hR : RepX τ ad a9) (hP : (c = 0 ∧ ∃ r, r < 6 ∧ i = nI r ∧ (okI i 6 ∧ okI key 16 ∧ okI el 8) ∧ key - key / 4 * 4 = 3 ∧ y = (nI (a_nd α)).toInt64 ∧ a9 = aTurn α r key el on) ∨ (a9 = α ∧ ((c = 1 ∧ ¬ (okI i 6 ∧ okI key 16 ∧ okI el 8)) ∨ (c = 2 ∧ (okI i 6 ∧ okI key 16 ∧ okI el 8) ∧ ¬ key - key / 4 * 4 = 3) ∨ (c = 3 ∧ (okI i 6 ∧ okI key 16 ∧ okI el 8) ∧ key - key / 4 * 4 = 3 ∧ ∃ r, r < 6 ∧ i = nI r ∧ ((on = true ∧ ¬ (a_cnt α < 250 ∧ a_g α r < 100)) ∨ ¬ a_nd α < 250))))) (hM : thr = nI u.2 ∧ (∃ pb, (pb = true ↔ okI el 8) ∧ refI β i key pb 3 on u.2) ∧ ((u.2 = 0 ∧ x = nI (b_nd β) ∧ ∃ q, q < 6 ∧ i = nI q ∧ St (bTurn β q key el on)) ∨ (u.2 ≠ 0 ∧ St β))) : Agr a9 St thr c (y = x.toInt64) := by
  refine ag_dot hS hA0.2.2.1 Iff.rfl (fun r h => h) hP (fun r hr e => ?_) (fun r hr h1 h2 => sim_turn hS hr h2 (Nat.lt_of_le_of_lt hA0.2.2.1 h1)) hM
  have h1 := hR.1.1
  have h2 := rx_g hR hr
  rw [e] at h1 h2
  have e1 : a_nd (aTurn α r key el on) = a_nd α + 1 := by cases on <;> rfl
  refine ⟨by omega, fun q => ?_⟩
  subst q
  have e2 : a_g (aTurn α r key el true) r = a_g α r + 1 := u1_at _ _ _
  omega
theorem ag_write {τ0 : gS} {ad0 : Nat → Nat} {i key : Int32} {v : Int64} {u : ((Nat → Nat → Int32) × (Nat → Nat → Int64) × (Nat → Nat → Int32)) × Nat} {x : Int32} (hS : Sim α β) (hA0 : RepX τ0 ad0 α) (hR : RepX τ ad a9) (hP : (c = 0 ∧ ∃ r, r < 6 ∧ i = nI r ∧ (okI i 6 ∧ okI key 16) ∧ key - key / 4 * 4 = 1 ∧ y = (nI (a_nd α)).toInt64 ∧ a9 = aWrite α r key v) ∨ (a9 = α ∧ ((c = 1 ∧ ¬ (okI i 6 ∧ okI key 16)) ∨ (c = 2 ∧ (okI i 6 ∧ okI key 16) ∧ ¬ key - key / 4 * 4 = 1) ∨ (c = 3 ∧ (okI i 6 ∧ okI key 16) ∧ key - key / 4 * 4 = 1 ∧ ∃ r, r < 6 ∧ i = nI r ∧ (¬ (a_cnt α < 250 ∧ a_g α r < 100) ∨ ¬ a_nd α < 250))))) (hM : thr = nI u.2 ∧ refI β i key true 1 true u.2 ∧ ((u.2 = 0 ∧ x = nI (b_nd β) ∧ ∃ q, q < 6 ∧ i = nI q ∧ St (bWrite β q key v)) ∨ (u.2 ≠ 0 ∧ St β))) : Agr a9 St thr c (y = x.toInt64) := by
  refine ag_dot (A := True) (on := true) hS hA0.2.2.1 (by simp) (fun r h => h.imp (fun q => ⟨rfl, q⟩) id) hP (fun r hr e => ?_) (fun r hr h1 h2 => sim_write hS hr (h2 rfl) (Nat.lt_of_le_of_lt hA0.2.2.1 h1)) ⟨hM.1, ⟨true, by simp, hM.2.1⟩, hM.2.2⟩
  have h1 := hR.1.1
  have h2 := rx_g hR hr
  rw [e] at h1 h2
  have e1 : a_nd (aWrite α r key v) = a_nd α + 1 := rfl
  have e2 : a_g (aWrite α r key v) r = a_g α r + 1 := u1_at _ _ _
  exact ⟨by omega, fun _ => by omega⟩
theorem ag_count {τ0 : gS} {ad0 : Nat → Nat} {i key : Int32} {v : Int64} {u : ((Nat → Nat → Int32) × (Nat → Nat → Int64) × (Nat → Nat → Int32)) × Nat} {x : Int32} (hS : Sim α β) (hA0 : RepX τ0 ad0 α) (hR : RepX τ ad a9) (hP : (c = 0 ∧ ∃ r, r < 6 ∧ i = nI r ∧ (okI i 6 ∧ okI key 16) ∧ key - key / 4 * 4 = 2 ∧ y = (nI (a_nd α)).toInt64 ∧ a9 = aCount α r key v) ∨ (a9 = α ∧ ((c = 1 ∧ ¬ (okI i 6 ∧ okI key 16)) ∨ (c = 2 ∧ (okI i 6 ∧ okI key 16) ∧ ¬ key - key / 4 * 4 = 2) ∨ (c = 3 ∧ (okI i 6 ∧ okI key 16) ∧ key - key / 4 * 4 = 2 ∧ ∃ r, r < 6 ∧ i = nI r ∧ (¬ (a_cnt α < 250 ∧ a_g α r < 100) ∨ ¬ a_nd α < 250))))) (hM : thr = nI u.2 ∧ refI β i key true 2 true u.2 ∧ ((u.2 = 0 ∧ x = nI (b_nd β) ∧ ∃ q, q < 6 ∧ i = nI q ∧ St (bCount β q key v)) ∨ (u.2 ≠ 0 ∧ St β))) : Agr a9 St thr c (y = x.toInt64) := by
  refine ag_dot (A := True) (on := true) hS hA0.2.2.1 (by simp) (fun r h => h.imp (fun q => ⟨rfl, q⟩) id) hP (fun r hr e => ?_) (fun r hr h1 h2 => sim_count hS hr (h2 rfl) (Nat.lt_of_le_of_lt hA0.2.2.1 h1)) ⟨hM.1, ⟨true, by simp, hM.2.1⟩, hM.2.2⟩
  have h1 := hR.1.1
  have h2 := rx_g hR hr
  rw [e] at h1 h2
  have e1 : a_nd (aCount α r key v) = a_nd α + 1 := rfl
  have e2 : a_g (aCount α r key v) r = a_g α r + 1 := u1_at _ _ _
  exact ⟨by omega, fun _ => by omega⟩
theorem ag_clear {τ0 : gS} {ad0 : Nat → Nat} {i key : Int32} {u : ((Nat → Nat → Int32) × (Nat → Nat → Int64) × (Nat → Nat → Int32)) × Nat} {x : Int32} (hS : Sim α β) (hA0 : RepX τ0 ad0 α) (hR : RepX τ ad a9) (hP : (c = 0 ∧ ∃ r, r < 6 ∧ i = nI r ∧ (okI i 6 ∧ okI key 16) ∧ y = (nI (a_nd α)).toInt64 ∧ a9 = aClear α r key) ∨ (a9 = α ∧ ((c = 1 ∧ ¬ (okI i 6 ∧ okI key 16)) ∨ (c = 2 ∧ (okI i 6 ∧ okI key 16) ∧ ¬ a_nd α < 250)))) (hM : thr = nI u.2 ∧ ref2 β (okI i 6) (okI key 16) u.2 ∧ ((u.2 = 0 ∧ x = nI (b_nd β) ∧ ∃ q, q < 6 ∧ i = nI q ∧ St (bClear β q key)) ∨ (u.2 ≠ 0 ∧ St β))) : Agr a9 St thr c (y = x.toInt64) := by
  refine ag_two hS Iff.rfl hP ?_ hM ?_
  · rintro ⟨r, hr, e, h1, h2, h3⟩
    have h4 := hR.1.1
    rw [h3] at h4
    have e1 : a_nd (aClear α r key) = a_nd α + 1 := rfl
    exact ⟨h1, by omega⟩
  · rintro ⟨r, hr, e, h1, h2, h3⟩ ⟨hx, q, hq, e', hSt⟩
    have := n6 (by omega) (by omega) e' e
    subst this
    exact ⟨_, hSt, by rw [h3]; exact sim_clear hS hr, by rw [h2, hx, hS.2.2]⟩
theorem ag_twice {τ0 : gS} {ad0 : Nat → Nat} {i el : Int32} {on : Bool} {u : ((Nat → Nat → Int32) × (Nat → Nat → Int64) × (Nat → Nat → Int32)) × Nat} {x : Int32} (hS : Sim α β) (hA0 : RepX τ0 ad0 α) (hR : RepX τ ad a9) (hP : (c = 0 ∧ ∃ r ee, r < 6 ∧ i = nI r ∧ ee < 32 ∧ el = nI ee ∧ y = (nI (a_nd α)).toInt64 ∧ a9 = aTwice α r ee on) ∨ (a9 = α ∧ ((c = 1 ∧ ¬ (okI i 6 ∧ okI el 32)) ∨ (c = 2 ∧ (okI i 6 ∧ okI el 32) ∧ ¬ a_nd α < 250)))) (hM : thr = nI u.2 ∧ ref2 β (okI i 6) (okI el 32) u.2 ∧ ((u.2 = 0 ∧ x = nI (b_nd β) ∧ ∃ q ee, q < 6 ∧ i = nI q ∧ ee < 32 ∧ el = nI ee ∧ St (bTwice β q ee on)) ∨ (u.2 ≠ 0 ∧ St β))) : Agr a9 St thr c (y = x.toInt64) := by
  refine ag_two hS Iff.rfl hP ?_ hM ?_
  · rintro ⟨r, ee, hr, e, he, e2, h2, h3⟩
    have h4 := hR.1.1
    rw [h3] at h4
    have e1 : a_nd (aTwice α r ee on) = a_nd α + 1 := by cases on <;> rfl
    exact ⟨⟨⟨r, hr, e⟩, ⟨ee, he, e2⟩⟩, by omega⟩
  · rintro ⟨r, ee, hr, e, he, e2, h2, h3⟩ ⟨hx, q, ee', hq, e', he', e2', hSt⟩
    have := n6 (by omega) (by omega) e' e
    subst this
    have := n6 (by omega) (by omega) e2' e2
    subst this
    exact ⟨_, hSt, by rw [h3]; exact sim_twice hS hr, by rw [h2, hx, hS.2.2]⟩
theorem ag_timed {τ0 : gS} {ad0 : Nat → Nat} {i el tm : Int32} {on : Bool} {u : ((Nat → Nat → Int32) × (Nat → Nat → Int64) × (Nat → Nat → Int32)) × Nat} {x : Int32} (hS : Sim α β) (hA0 : RepX τ0 ad0 α) (hR : RepX τ ad a9) (hP : (c = 0 ∧ ∃ r ee, r < 6 ∧ i = nI r ∧ ee < 32 ∧ el = nI ee ∧ (¬ tm < 0 ∧ tm ≤ 1000000) ∧ y = (nI (a_nd α)).toInt64 ∧ a9 = aTimed α r ee tm on) ∨ (a9 = α ∧ ((c = 1 ∧ ¬ (okI i 6 ∧ okI el 32)) ∨ (c = 2 ∧ (okI i 6 ∧ okI el 32) ∧ ¬ (¬ tm < 0 ∧ tm ≤ 1000000)) ∨ (c = 3 ∧ (okI i 6 ∧ okI el 32) ∧ (¬ tm < 0 ∧ tm ≤ 1000000) ∧ ¬ a_nd α < 250)))) (hM : thr = nI u.2 ∧ ref3 β (okI i 6) (okI el 32) (0 ≤ tm ∧ tm ≤ 1000000) u.2 ∧ ((u.2 = 0 ∧ x = nI (b_nd β) ∧ ∃ q ee, q < 6 ∧ i = nI q ∧ ee < 32 ∧ el = nI ee ∧ St (bTimed β q ee tm on)) ∨ (u.2 ≠ 0 ∧ St β))) : Agr a9 St thr c (y = x.toInt64) := by
  obtain ⟨ht, hr, hM⟩ := hM
  have hT : (¬ tm < 0 ∧ tm ≤ 1000000) ↔ (0 ≤ tm ∧ tm ≤ 1000000) := by rw [Int32.not_lt]
  rw [hT] at hP
  refine ag_gen (P0 := ∃ r ee, r < 6 ∧ i = nI r ∧ ee < 32 ∧ el = nI ee ∧ (0 ≤ tm ∧ tm ≤ 1000000) ∧ y = (nI (a_nd α)).toInt64 ∧ a9 = aTimed α r ee tm on) hS ?_ hM ht ?_ ?_
  · rcases hP with ⟨z, h⟩ | ⟨e, ⟨z, _⟩ | ⟨z, _⟩ | ⟨z, _⟩⟩
    · exact Or.inl ⟨z, h⟩
    · exact Or.inr ⟨by omega, e⟩
    · exact Or.inr ⟨by omega, e⟩
    · exact Or.inr ⟨by omega, e⟩
  · unfold ref3 at hr
    rw [hS.2.2] at hr
    refine cod3_eq (A := okI i 6 ∧ okI el 32) (B := 0 ≤ tm ∧ tm ≤ 1000000) (C := a_nd α < 250) ?_ hr
    rcases hP with ⟨z, r, ee, hr, e, he, e2, hb, h2, h3⟩ | ⟨e, h⟩
    · have h4 := hR.1.1
      rw [h3] at h4
      have e1 : a_nd (aTimed α r ee tm on) = a_nd α + 1 := rfl
      exact Or.inr (Or.inr (Or.inr ⟨z, ⟨⟨r, hr, e⟩, ⟨ee, he, e2⟩⟩, hb, by omega⟩))
    · rcases h with ⟨z, h⟩ | ⟨z, h, h2⟩ | ⟨z, h, h2, h3⟩
      · exact Or.inl ⟨z, h⟩
      · exact Or.inr (Or.inl ⟨z, h, h2⟩)
      · exact Or.inr (Or.inr (Or.inl ⟨z, h, h2, h3⟩))
  · rintro ⟨r, ee, hr, e, he, e2, hb, h2, h3⟩ ⟨hx, q, ee', hq, e', he', e2', hSt⟩
    have := n6 (by omega) (by omega) e' e
    subst this
    have := n6 (by omega) (by omega) e2' e2
    subst this
    exact ⟨_, hSt, by rw [h3]; exact sim_timed hS hr hb.1 hb.2, by rw [h2, hx, hS.2.2]⟩
theorem ag_join {τ0 : gS} {ad0 : Nat → Nat} {i j : Int32} {u : ((Nat → Nat → Int32) × (Nat → Nat → Int64) × (Nat → Nat → Int32)) × Nat × Nat × Bool} {x : Int32} (hS : Sim α β) (hA0 : RepX τ0 ad0 α) (hR : RepX τ ad a9) (hP : (c = 0 ∧ ∃ r d cg, r < 6 ∧ i = nI r ∧ d < (a_nd α) ∧ j = nI d ∧ y = (bi cg).toInt64 ∧ (cg = false ↔ sEq (aJoin α r (7 + d)) α r r) ∧ a9 = aJoin α r (7 + d)) ∨ (a9 = α ∧ ((c = 1 ∧ ¬ (okI i 6 ∧ okI j (a_nd α)))))) (hM : (thr = 0 ∧ (u.2.1 < 6 ∧ i = nI u.2.1) ∧ (u.2.2.1 < (b_nd β) ∧ j = nI u.2.2.1) ∧ x = bi u.2.2.2 ∧ (u.2.2.2 = false ↔ bEq (bJoin (bCopy β u.2.1 256) (6 + u.2.2.1) u.2.1) u.2.1 256) ∧ St (bJoin (bCopy β u.2.1 256) (6 + u.2.2.1) u.2.1)) ∨ (thr = 1 ∧ ¬ (okI i 6 ∧ okI j (b_nd β)) ∧ St β)) : Agr a9 St thr c (y = x.toInt64) := by
  obtain ⟨u0, q, d', b⟩ := u
  dsimp only at hM
  rw [hS.2.2] at hM
  refine ag_one hS Iff.rfl hP ?_ hM ?_ ?_
  · rintro ⟨r, d, cg, hr, e, hd, e2, h⟩
    exact ⟨⟨r, hr, e⟩, ⟨d, hd, e2⟩⟩
  · rintro ⟨h1, h2, h⟩
    exact ⟨⟨q, h1⟩, ⟨d', h2⟩⟩
  · rintro ⟨r, d, cg, hr, e, hd, e2, h2, h3, h4⟩ ⟨⟨hq, e'⟩, ⟨hd', e2'⟩, hx, hb, hSt⟩
    have := n6 (by omega) (by omega) e' e
    subst this
    have hn := hA0.1.1
    have := n6 (by omega) (by omega) e2' e2
    subst this
    have hs := sim_joined hS hn (Nat.le_trans hA0.2.2.1 (Nat.le_trans hn (by decide))) hr (pr_d hd)
    exact ⟨_, hSt, by rw [h4]; exact hs.1, by rw [h2, hx, bb_f h3 hb hs.2]⟩
theorem ag_merge {τ0 : gS} {ad0 : Nat → Nat} {i j : Int32} {u : ((Nat → Nat → Int32) × (Nat → Nat → Int64) × (Nat → Nat → Int32)) × Nat × Nat × Bool} {x : Int32} (hS : Sim α β) (hA0 : RepX τ0 ad0 α) (hR : RepX τ ad a9) (hP : (c = 0 ∧ ∃ r d cg, r < 6 ∧ i = nI r ∧ d < 6 ∧ j = nI d ∧ y = (bi cg).toInt64 ∧ (cg = false ↔ sEq (aJoin α r d) α r r) ∧ a9 = aJoin α r d) ∨ (a9 = α ∧ ((c = 1 ∧ ¬ (okI i 6 ∧ okI j 6))))) (hM : (thr = 0 ∧ (u.2.1 < 6 ∧ i = nI u.2.1) ∧ (u.2.2.1 < 6 ∧ j = nI u.2.2.1) ∧ x = bi u.2.2.2 ∧ (u.2.2.2 = false ↔ bEq (bJoin (bCopy β u.2.1 256) (u.2.2.1) u.2.1) u.2.1 256) ∧ St (bJoin (bCopy β u.2.1 256) (u.2.2.1) u.2.1)) ∨ (thr = 1 ∧ ¬ (okI i 6 ∧ okI j 6) ∧ St β)) : Agr a9 St thr c (y = x.toInt64) := by
  obtain ⟨u0, q, d', b⟩ := u
  dsimp only at hM
  refine ag_one hS Iff.rfl hP ?_ hM ?_ ?_
  · rintro ⟨r, d, cg, hr, e, hd, e2, h⟩
    exact ⟨⟨r, hr, e⟩, ⟨d, hd, e2⟩⟩
  · rintro ⟨h1, h2, h⟩
    exact ⟨⟨q, h1⟩, ⟨d', h2⟩⟩
  · rintro ⟨r, d, cg, hr, e, hd, e2, h2, h3, h4⟩ ⟨⟨hq, e'⟩, ⟨hd', e2'⟩, hx, hb, hSt⟩
    have := n6 (by omega) (by omega) e' e
    subst this
    have hn := hA0.1.1
    have := n6 (by omega) (by omega) e2' e2
    subst this
    have hs := sim_joined hS hn (Nat.le_trans hA0.2.2.1 (Nat.le_trans hn (by decide))) hr (pr_r hd)
    exact ⟨_, hSt, by rw [h4]; exact hs.1, by rw [h2, hx, bb_f h3 hb hs.2]⟩
theorem ag_group {τ0 : gS} {ad0 : Nat → Nat} {i j : Int32} {u : ((Nat → Nat → Int32) × (Nat → Nat → Int64) × (Nat → Nat → Int32)) × Nat × Nat × Nat} {x : Int32} (hS : Sim α β) (hA0 : RepX τ0 ad0 α) (hR : RepX τ ad a9) (hP : (c = 0 ∧ ∃ r ee, r < a_nd α ∧ i = nI r ∧ ee < a_nd α ∧ j = nI ee ∧ y = (nI (a_nd α)).toInt64 ∧ a9 = aGroup α r ee) ∨ (a9 = α ∧ ((c = 1 ∧ ¬ (okI i (a_nd α) ∧ okI j (a_nd α))) ∨ (c = 2 ∧ (okI i (a_nd α) ∧ okI j (a_nd α)) ∧ ¬ a_nd α < 250)))) (hM : (thr = 0 ∧ (u.2.1 < b_nd β ∧ i = nI u.2.1) ∧ (u.2.2.1 < b_nd β ∧ j = nI u.2.2.1) ∧ b_nd β < 250 ∧ x = nI (b_nd β) ∧ St (bGroup β u.2.1 u.2.2.1)) ∨ (thr = nI u.2.1 ∧ ((u.2.1 = 1 ∧ ¬ (okI i (b_nd β) ∧ okI j (b_nd β))) ∨ (u.2.1 = 2 ∧ (okI i (b_nd β) ∧ okI j (b_nd β)) ∧ ¬ b_nd β < 250)) ∧ St β)) : Agr a9 St thr c (y = x.toInt64) := by
  obtain ⟨u0, q, d', kk⟩ := u
  dsimp only at hM
  have hM : ∃ k, thr = nI k ∧ ref2 β (okI i (a_nd α)) (okI j (a_nd α)) k ∧ ((k = 0 ∧ (q < a_nd α ∧ i = nI q) ∧ (d' < a_nd α ∧ j = nI d') ∧ x = nI (a_nd α) ∧ St (bGroup β q d')) ∨ (k ≠ 0 ∧ St β)) := by
    unfold ref2
    rw [hS.2.2] at hM ⊢
    rcases hM with ⟨t, h1, h2, h3, h4, h5⟩ | ⟨t, h, h5⟩
    · exact ⟨0, t, Or.inr (Or.inr ⟨rfl, ⟨⟨q, h1⟩, ⟨d', h2⟩⟩, h3⟩), Or.inl ⟨rfl, h1, h2, h4, h5⟩⟩
    · refine ⟨q, t, ?_, Or.inr ⟨?_, h5⟩⟩
      · rcases h with h | h
        · exact Or.inl h
        · exact Or.inr (Or.inl h)
      · rcases h with h | h <;> omega
  obtain ⟨k, hM⟩ := hM
  have hn := hA0.1.1
  refine ag_two hS Iff.rfl hP ?_ hM ?_
  · rintro ⟨r, ee, hr, e, he, e2, h2, h3⟩
    have h4 := hR.1.1
    rw [h3] at h4
    have e1 : a_nd (aGroup α r ee) = a_nd α + 1 := rfl
    exact ⟨⟨⟨r, hr, e⟩, ⟨ee, he, e2⟩⟩, by omega⟩
  · rintro ⟨r, ee, hr, e, he, e2, h2, h3⟩ ⟨⟨hq, e'⟩, ⟨hd, e2'⟩, hx, hSt⟩
    have := n6 (by omega) (by omega) e' e
    subst this
    have := n6 (by omega) (by omega) e2' e2
    subst this
    exact ⟨_, hSt, by rw [h3]; exact sim_group hS hr he, by rw [h2, hx]⟩
theorem ag_whole {τ0 : gS} {ad0 : Nat → Nat} {i : Int32} {u : ((Nat → Nat → Int32) × (Nat → Nat → Int64) × (Nat → Nat → Int32)) × Nat × Nat × Nat} {x : Int32} (hS : Sim α β) (hA0 : RepX τ0 ad0 α) (hR : RepX τ ad a9) (hP : (c = 0 ∧ ∃ r, r < 6 ∧ i = nI r ∧ y = (nI (a_nd α)).toInt64 ∧ a9 = aWhole α r) ∨ (a9 = α ∧ ((c = 1 ∧ ¬ okI i 6) ∨ (c = 2 ∧ okI i 6 ∧ ¬ a_nd α < 250)))) (hM : (thr = 0 ∧ (u.2.1 < 6 ∧ i = nI u.2.1) ∧ b_nd β < 250 ∧ x = nI (b_nd β) ∧ St (bWhole β u.2.1)) ∨ (thr = nI u.2.1 ∧ ((u.2.1 = 1 ∧ ¬ okI i 6) ∨ (u.2.1 = 2 ∧ okI i 6 ∧ ¬ b_nd β < 250)) ∧ St β)) : Agr a9 St thr c (y = x.toInt64) := by
  obtain ⟨u0, q, d', kk⟩ := u
  dsimp only at hM
  have hM : ∃ k, thr = nI k ∧ ref2 β (okI i 6) True k ∧ ((k = 0 ∧ (q < 6 ∧ i = nI q) ∧ x = nI (a_nd α) ∧ St (bWhole β q)) ∨ (k ≠ 0 ∧ St β)) := by
    unfold ref2
    rw [hS.2.2] at hM ⊢
    rcases hM with ⟨t, h1, h3, h4, h5⟩ | ⟨t, h, h5⟩
    · exact ⟨0, t, Or.inr (Or.inr ⟨rfl, ⟨⟨q, h1⟩, trivial⟩, h3⟩), Or.inl ⟨rfl, h1, h4, h5⟩⟩
    · refine ⟨q, t, ?_, Or.inr ⟨?_, h5⟩⟩
      · rcases h with ⟨h1, h2⟩ | ⟨h1, h2, h3⟩
        · exact Or.inl ⟨h1, fun z => h2 z.1⟩
        · exact Or.inr (Or.inl ⟨h1, ⟨h2, trivial⟩, h3⟩)
      · rcases h with h | h <;> omega
  obtain ⟨k, hM⟩ := hM
  refine ag_two hS (by simp) hP ?_ hM ?_
  · rintro ⟨r, hr, e, h2, h3⟩
    have h4 := hR.1.1
    rw [h3] at h4
    have e1 : a_nd (aWhole α r) = a_nd α + 1 := rfl
    exact ⟨⟨r, hr, e⟩, by omega⟩
  · rintro ⟨r, hr, e, h2, h3⟩ ⟨⟨hq, e'⟩, hx, hSt⟩
    have := n6 (by omega) (by omega) e' e
    subst this
    exact ⟨_, hSt, by rw [h3]; exact sim_whole hS hr, by rw [h2, hx]⟩
theorem ag_has {τ0 : gS} {ad0 : Nat → Nat} {i key part : Int32} {u : (Nat → Nat → Int32) × Nat} {x : Int32} (hS : Sim α β) (hA0 : RepX τ0 ad0 α) (hR : RepX τ ad a9) (hP : (c = 0 ∧ (∃ r, r < 6 ∧ i = nI r ∧ (okI i 6 ∧ okI key 16 ∧ okI part 32) ∧ y = (bi (anyN (livA α r key part (-1)) (a_cnt α))).toInt64) ∧ a9 = α) ∨ (a9 = α ∧ ((c = 1 ∧ ¬ (okI i 6 ∧ okI key 16 ∧ okI part 32))))) (hM : ((thr = 0 ∧ (u.2 < 6 ∧ i = nI u.2) ∧ okI key 16 ∧ okI part 32 ∧ x = bi (anyN (livB β u.2 key part (-1)) 600)) ∨ (thr = 1 ∧ ¬ (okI i 6 ∧ okI key 16 ∧ okI part 32))) ∧ St β) : Agr a9 St thr c (y = x.toInt64) := by
  obtain ⟨u0, q⟩ := u
  dsimp only at hM
  refine ag_q hS Iff.rfl hP ?_ hM ?_ ?_
  · rintro ⟨⟨r, hr, e, h1, h2⟩, h3⟩
    exact ⟨h1, h3⟩
  · rintro ⟨h1, h2, h3, _⟩
    exact ⟨⟨q, h1⟩, h2, h3⟩
  · rintro ⟨⟨r, hr, e, h1, h2⟩, h3⟩ ⟨⟨hq, e'⟩, _, _, hx⟩
    have := n6 (by omega) (by omega) e' e
    subst this
    rw [h2, hx, sim_any hS.1.1 hS.1.2.1 (hS.S hq)]
theorem ag_values {τ0 : gS} {ad0 : Nat → Nat} {i key : Int32} {u : (Nat × (Nat → Nat → Int64) × (Nat → Nat → Int32)) × Nat} {bm : Nat → Nat} {x : Int32} (hS : Sim α β) (hA0 : RepX τ0 ad0 α) (hR : RepX τ ad a9) (hP : (c = 0 ∧ ∃ r m2 f2, r < 6 ∧ i = nI r ∧ (okI i 6 ∧ okI key 16) ∧ y = (nI m2).toInt64 ∧ OrdA α r key f2 m2 ∧ a9 = α) ∨ (a9 = α ∧ ((c = 1 ∧ ¬ (okI i 6 ∧ okI key 16))))) (hM : ((thr = 0 ∧ (u.2 < 6 ∧ i = nI u.2) ∧ okI key 16 ∧ x = nI u.1.1 ∧ u.1.1 ≤ 600 ∧ OrdB β u.2 key (u.1.2.1 (bm 13)) u.1.1) ∨ (thr = 1 ∧ ¬ (okI i 6 ∧ okI key 16))) ∧ St β) : Agr a9 St thr c (y = x.toInt64) := by
  obtain ⟨⟨m0, u1, u2⟩, q⟩ := u
  dsimp only at hM
  refine ag_q hS Iff.rfl hP ?_ hM ?_ ?_
  · rintro ⟨r, m2, f2, hr, e, h1, h2, h3, h4⟩
    exact ⟨h1, h4⟩
  · rintro ⟨h1, h2, _⟩
    exact ⟨⟨q, h1⟩, h2⟩
  · rintro ⟨r, m2, f2, hr, e, h1, h2, h3, h4⟩ ⟨⟨hq, e'⟩, _, hx, _, ho⟩
    have := n6 (by omega) (by omega) e' e
    subst this
    rw [h2, hx, (sim_ord hS.1.1 hS.1.2.1 (hS.S hq) h3 ho).1]
theorem ag_value {τ0 : gS} {ad0 : Nat → Nat} {i key gx : Int32} {u : ((Nat × (Nat → Nat → Int64) × (Nat → Nat → Int32)) × Nat) × Nat} {bm : Nat → Nat} {x : Int64} (hS : Sim α β) (hA0 : RepX τ0 ad0 α) (hR : RepX τ ad a9) (hP : (c = 0 ∧ ∃ r m2 f2 xx, r < 6 ∧ i = nI r ∧ (okI i 6 ∧ okI key 16) ∧ xx < m2 ∧ gx = nI xx ∧ m2 ≤ 250 ∧ y = f2 xx ∧ OrdA α r key f2 m2 ∧ a9 = α) ∨ (a9 = α ∧ c = 1 ∧ (¬ (okI i 6 ∧ okI key 16) ∨ ∃ r m2 f2, r < 6 ∧ i = nI r ∧ (okI i 6 ∧ okI key 16) ∧ ¬ okI gx m2 ∧ m2 ≤ 250 ∧ OrdA α r key f2 m2))) (hM : ((thr = 0 ∧ (u.1.2 < 6 ∧ i = nI u.1.2) ∧ okI key 16 ∧ (u.2 < u.1.1.1 ∧ gx = nI u.2) ∧ u.1.1.1 ≤ 600 ∧ x = u.1.1.2.1 (bm 13) u.2 ∧ OrdB β u.1.2 key (u.1.1.2.1 (bm 13)) u.1.1.1) ∨ (thr = 1 ∧ (¬ (okI i 6 ∧ okI key 16) ∨ ((u.1.2 < 6 ∧ i = nI u.1.2) ∧ okI key 16 ∧ ¬ okI gx u.1.1.1 ∧ u.1.1.1 ≤ 600 ∧ OrdB β u.1.2 key (u.1.1.2.1 (bm 13)) u.1.1.1)))) ∧ St β) : Agr a9 St thr c (y = x) := by
  obtain ⟨⟨⟨m0, u1, u2⟩, q⟩, w⟩ := u
  dsimp only at hM
  obtain ⟨hM, hSt⟩ := hM
  rcases hP with ⟨z, r, m2, f2, xx, hr, e, h1, hxx, hgx, hm2, h2, h3, h4⟩ | ⟨e0, z, h⟩
  · rcases hM with ⟨t, ⟨hq, e'⟩, _, ⟨hw, hgw⟩, hm0, hx, ho⟩ | ⟨t, h⟩
    · have := n6 (by omega) (by omega) e' e
      subst this
      have hs := sim_ord hS.1.1 hS.1.2.1 (hS.S hq) h3 ho
      have := n6 (by omega) (by omega) hgw hgx
      subst this
      exact ⟨β, hSt, by rw [h4]; exact hS, by rw [t, z]; rfl, fun _ => by rw [h2, hx]; exact hs.2 _ hxx⟩
    · rcases h with h | ⟨⟨hq, e'⟩, _, hn, hm0, ho⟩
      · exact absurd h1 h
      · have := n6 (by omega) (by omega) e' e
        subst this
        have hs := sim_ord hS.1.1 hS.1.2.1 (hS.S hq) h3 ho
        exact absurd ⟨xx, by rw [← hs.1]; exact hxx, hgx⟩ hn
  · rcases hM with ⟨t, ⟨hq, e'⟩, hk, ⟨hw, hgw⟩, hm0, hx, ho⟩ | ⟨t, _⟩
    · rcases h with h | ⟨r, m2, f2, hr, e, h1, hn, hm2, h3⟩
      · exact absurd ⟨⟨q, hq, e'⟩, hk⟩ h
      · have := n6 (by omega) (by omega) e' e
        subst this
        have hs := sim_ord hS.1.1 hS.1.2.1 (hS.S hq) h3 ho
        exact absurd ⟨w, by rw [hs.1]; exact hw, hgw⟩ hn
    · exact ⟨β, hSt, by rw [e0]; exact hS, by rw [t, z]; rfl, fun q => absurd q (by rw [z]; decide)⟩
theorem ag_sum {τ0 : gS} {ad0 : Nat → Nat} {i key : Int32} {u : (Nat → Nat → Int32) × Nat} {x : Int64} (hS : Sim α β) (hA0 : RepX τ0 ad0 α) (hR : RepX τ ad a9) (hP : (c = 0 ∧ (∃ r, r < 6 ∧ i = nI r ∧ (okI i 6 ∧ okI key 16) ∧ y = sumN (livA α r key (-1) (-1)) (a_val α) (a_cnt α)) ∧ a9 = α) ∨ (a9 = α ∧ ((c = 1 ∧ ¬ (okI i 6 ∧ okI key 16))))) (hM : ((thr = 0 ∧ (u.2 < 6 ∧ i = nI u.2) ∧ okI key 16 ∧ x = sumN (livB β u.2 key (-1) (-1)) (valB β) 600) ∨ (thr = 1 ∧ ¬ (okI i 6 ∧ okI key 16))) ∧ St β) : Agr a9 St thr c (y = x) := by
  obtain ⟨u0, q⟩ := u
  dsimp only at hM
  refine ag_q hS Iff.rfl hP ?_ hM ?_ ?_
  · rintro ⟨⟨r, hr, e, h1, h2⟩, h3⟩
    exact ⟨h1, h3⟩
  · rintro ⟨h1, h2, _⟩
    exact ⟨⟨q, h1⟩, h2⟩
  · rintro ⟨⟨r, hr, e, h1, h2⟩, h3⟩ ⟨⟨hq, e'⟩, _, hx⟩
    have := n6 (by omega) (by omega) e' e
    subst this
    rw [h2, hx, sim_sum hS.1.1 hS.1.2.1 (hS.S hq)]
theorem ag_keys {τ0 : gS} {ad0 : Nat → Nat} {i : Int32} {u : (Nat → Nat → Int32) × Nat} {x : Int32} (hS : Sim α β) (hA0 : RepX τ0 ad0 α) (hR : RepX τ ad a9) (hP : (c = 0 ∧ (∃ r, r < 6 ∧ i = nI r ∧ y = (orK (a_L α r) (a_key α) (a_cnt α)).toInt64) ∧ a9 = α) ∨ (a9 = α ∧ ((c = 1 ∧ ¬ okI i 6)))) (hM : ((thr = 0 ∧ (u.2 < 6 ∧ i = nI u.2) ∧ x = orK (fun f => b_L β u.2 (slot f)) (fun f => b_key β (plc f)) 600) ∨ (thr = 1 ∧ ¬ okI i 6)) ∧ St β) : Agr a9 St thr c (y = x.toInt64) := by
  obtain ⟨u0, q⟩ := u
  dsimp only at hM
  refine ag_q hS Iff.rfl hP ?_ hM ?_ ?_
  · rintro ⟨⟨r, hr, e, h2⟩, h3⟩
    exact ⟨⟨r, hr, e⟩, h3⟩
  · rintro ⟨h1, _⟩
    exact ⟨q, h1⟩
  · rintro ⟨⟨r, hr, e, h2⟩, h3⟩ ⟨⟨hq, e'⟩, hx⟩
    have := n6 (by omega) (by omega) e' e
    subst this
    rw [h2, hx, sim_keys hS.1.1 hS.1.2.1 (hS.S hq)]
theorem ag_inTwice {τ0 : gS} {ad0 : Nat → Nat} {i el : Int32} {u : (Nat → Nat → Int32) × Nat × Nat} {x : Int32} (hS : Sim α β) (hA0 : RepX τ0 ad0 α) (hR : RepX τ ad a9) (hP : (c = 0 ∧ (∃ r ee, r < 6 ∧ i = nI r ∧ ee < 32 ∧ el = nI ee ∧ y = (((a_P α r &&& (a_T α r ^^^ (-1))).toUInt32 >>> ((nI ee).toUInt32 &&& Int32.toUInt32 31)).toInt32 &&& 1).toInt64) ∧ a9 = α) ∨ (a9 = α ∧ ((c = 1 ∧ ¬ (okI i 6 ∧ okI el 32))))) (hM : ((thr = 0 ∧ (u.2.1 < 6 ∧ i = nI u.2.1) ∧ (u.2.2 < 32 ∧ el = nI u.2.2) ∧ x = ((b_P β u.2.1 &&& (b_T β u.2.1 ^^^ (-1))) >>> (nI u.2.2 &&& 31)) &&& 1) ∨ (thr = 1 ∧ ¬ (okI i 6 ∧ okI el 32))) ∧ St β) : Agr a9 St thr c (y = x.toInt64) := by
  obtain ⟨u0, q, w⟩ := u
  dsimp only at hM
  refine ag_q hS Iff.rfl hP ?_ hM ?_ ?_
  · rintro ⟨⟨r, ee, hr, e, he, e2, h2⟩, h3⟩
    exact ⟨⟨⟨r, hr, e⟩, ⟨ee, he, e2⟩⟩, h3⟩
  · rintro ⟨h1, h2, _⟩
    exact ⟨⟨q, h1⟩, ⟨w, h2⟩⟩
  · rintro ⟨⟨r, ee, hr, e, he, e2, h2⟩, h3⟩ ⟨⟨hq, e'⟩, ⟨hw, e2'⟩, hx⟩
    have := n6 (by omega) (by omega) e' e
    subst this
    have := n6 (by omega) (by omega) e2' e2
    subst this
    have hs := (hS.S hq).2.2.2.1
    rw [h2, hx, sim_twiceA he, hs.1, hs.2]
theorem ag_inTimed {τ0 : gS} {ad0 : Nat → Nat} {i el wh : Int32} {u : (Nat → Nat → Int32) × Nat × Nat} {x : Int32} (hS : Sim α β) (hA0 : RepX τ0 ad0 α) (hR : RepX τ ad a9) (hP : (c = 0 ∧ (∃ r ee, r < 6 ∧ i = nI r ∧ ee < 32 ∧ el = nI ee ∧ okI wh 3 ∧ y = (timA (a_M α r ee) wh).toInt64) ∧ a9 = α) ∨ (a9 = α ∧ ((c = 1 ∧ ¬ (okI i 6 ∧ okI el 32 ∧ okI wh 3))))) (hM : ((thr = 0 ∧ (u.2.1 < 6 ∧ i = nI u.2.1) ∧ (u.2.2 < 32 ∧ el = nI u.2.2) ∧ okI wh 3 ∧ x = timB (b_tm β u.2.1 u.2.2) (b_by β u.2.1 u.2.2) (b_in β u.2.1 u.2.2) wh) ∨ (thr = 1 ∧ ¬ (okI i 6 ∧ okI el 32 ∧ okI wh 3))) ∧ St β) : Agr a9 St thr c (y = x.toInt64) := by
  obtain ⟨u0, q, w⟩ := u
  dsimp only at hM
  refine ag_q hS Iff.rfl hP ?_ hM ?_ ?_
  · rintro ⟨⟨r, ee, hr, e, he, e2, h1, h2⟩, h3⟩
    exact ⟨⟨⟨r, hr, e⟩, ⟨ee, he, e2⟩, h1⟩, h3⟩
  · rintro ⟨h1, h2, h3, _⟩
    exact ⟨⟨q, h1⟩, ⟨w, h2⟩, h3⟩
  · rintro ⟨⟨r, ee, hr, e, he, e2, h1, h2⟩, h3⟩ ⟨⟨hq, e'⟩, ⟨hw, e2'⟩, _, hx⟩
    have := n6 (by omega) (by omega) e' e
    subst this
    have := n6 (by omega) (by omega) e2' e2
    subst this
    rw [h2, hx, sim_timedA ((hS.S hq).2.2.2.2 _ hw) h1]
theorem ag_seen {τ0 : gS} {ad0 : Nat → Nat} {i j wh : Int32} {u : (Nat → Nat → Int32) × Nat × Nat × Nat} {x : Int32} (hS : Sim α β) (hA0 : RepX τ0 ad0 α) (hR : RepX τ ad a9) (hP : (c = 0 ∧ (∃ r qq, r < 6 ∧ i = nI r ∧ qq < 6 ∧ j = nI qq ∧ okI wh 3 ∧ y = (nI (seeW (seeF (seA α r qq) (a_num α) (a_cnt α)) wh)).toInt64) ∧ a9 = α) ∨ (a9 = α ∧ ((c = 1 ∧ ¬ (okI i 6 ∧ okI j 6 ∧ okI wh 3))))) (hM : ((thr = 0 ∧ (u.2.1 < 6 ∧ i = nI u.2.1) ∧ (u.2.2.1 < 6 ∧ j = nI u.2.2.1) ∧ okI wh 3 ∧ x = nI u.2.2.2 ∧ seeB (fun i => b_S β u.2.1 (128 * u.2.2.1 + i)) wh u.2.2.2) ∨ (thr = 1 ∧ ¬ (okI i 6 ∧ okI j 6 ∧ okI wh 3))) ∧ St β) : Agr a9 St thr c (y = x.toInt64) := by
  obtain ⟨u0, q, w, mm⟩ := u
  dsimp only at hM
  refine ag_q hS Iff.rfl hP ?_ hM ?_ ?_
  · rintro ⟨⟨r, ee, hr, e, he, e2, h1, h2⟩, h3⟩
    exact ⟨⟨⟨r, hr, e⟩, ⟨ee, he, e2⟩, h1⟩, h3⟩
  · rintro ⟨h1, h2, h3, _⟩
    exact ⟨⟨q, h1⟩, ⟨w, h2⟩, h3⟩
  · rintro ⟨⟨r, ee, hr, e, he, e2, h1, h2⟩, h3⟩ ⟨⟨hq, e'⟩, ⟨hw, e2'⟩, _, hx, hs⟩
    have := n6 (by omega) (by omega) e' e
    subst this
    have := n6 (by omega) (by omega) e2' e2
    subst this
    rw [h2, hx, sim_seen hS hq hw hs]
theorem ag_size {τ0 : gS} {ad0 : Nat → Nat} {i wh : Int32} {u : (Nat → Nat → Int32) × Nat} {x : Int32} (hS : Sim α β) (hA0 : RepX τ0 ad0 α) (hR : RepX τ ad a9) (hP : (c = 0 ∧ (∃ u, szK (a_nd α) i u ∧ okI wh 2 ∧ y = (nI (cntN (if wh = 0 then a_L α u else a_S α u) 256)).toInt64) ∧ a9 = α) ∨ (a9 = α ∧ ((c = 1 ∧ (¬ (∃ k, szK (a_nd α) i k) ∨ ¬ okI wh 2))))) (hM : ((thr = 0 ∧ szB (b_nd β) i u.2 ∧ okI wh 2 ∧ x = nI (cntN (fun f => (if wh = 0 then b_L β u.2 else b_S β u.2) (slot f)) 600)) ∨ (thr = 1 ∧ ¬ ((∃ k, szB (b_nd β) i k) ∧ okI wh 2))) ∧ St β) : Agr a9 St thr c (y = x.toInt64) := by
  obtain ⟨u0, q⟩ := u
  dsimp only at hM
  have hn := hA0.1.1
  have hP : (c = 0 ∧ (∃ u, szK (a_nd α) i u ∧ okI wh 2 ∧ y = (nI (cntN (if wh = 0 then a_L α u else a_S α u) 256)).toInt64) ∧ a9 = α) ∨ (a9 = α ∧ c = 1 ∧ ¬ ((∃ k, szK (a_nd α) i k) ∧ okI wh 2)) := by
    rcases hP with h | ⟨h1, h2, h3⟩
    · exact Or.inl h
    · exact Or.inr ⟨h1, h2, fun z => h3.elim (fun q => q z.1) (fun q => q z.2)⟩
  rw [hS.2.2] at hM
  refine ag_q hS (by rw [sz_ex hn]) hP ?_ hM ?_ ?_
  · rintro ⟨⟨r, h1, h2, _⟩, h3⟩
    exact ⟨⟨⟨r, h1⟩, h2⟩, h3⟩
  · rintro ⟨h1, h2, _⟩
    exact ⟨⟨q, h1⟩, h2⟩
  · rintro ⟨⟨r, h1, h2, h4⟩, h3⟩ ⟨g1, g2, hx⟩
    have hs := sim_size hS.1.1 (Nat.le_trans hA0.2.2.1 (Nat.le_trans hA0.1.1 (by decide))) (hS.1.2.2 _ _ (sz_pr hn h1 g1))
    rw [h4, hx]
    split
    · rw [hs.1]
    · rw [hs.2]
theorem ag_same {τ0 : gS} {ad0 : Nat → Nat} {i j : Int32} {u : (Nat → Nat → Int32) × Nat × Nat × Bool} {x : Int32} (hS : Sim α β) (hA0 : RepX τ0 ad0 α) (hR : RepX τ ad a9) (hP : (c = 0 ∧ (∃ r d cg, r < 6 ∧ i = nI r ∧ d < 6 ∧ j = nI d ∧ y = (bi cg).toInt64 ∧ (cg = true ↔ sEq α α r d)) ∧ a9 = α) ∨ (a9 = α ∧ ((c = 1 ∧ ¬ (okI i 6 ∧ okI j 6))))) (hM : ((thr = 0 ∧ (u.2.1 < 6 ∧ i = nI u.2.1) ∧ (u.2.2.1 < 6 ∧ j = nI u.2.2.1) ∧ x = bi u.2.2.2 ∧ (u.2.2.2 = true ↔ bEq β u.2.1 u.2.2.1)) ∨ (thr = 1 ∧ ¬ (okI i 6 ∧ okI j 6))) ∧ St β) : Agr a9 St thr c (y = x.toInt64) := by
  obtain ⟨u0, q, d', b⟩ := u
  dsimp only at hM
  refine ag_q hS Iff.rfl hP ?_ hM ?_ ?_
  · rintro ⟨⟨r, d, cg, hr, e, hd, e2, h⟩, h3⟩
    exact ⟨⟨⟨r, hr, e⟩, ⟨d, hd, e2⟩⟩, h3⟩
  · rintro ⟨h1, h2, h⟩
    exact ⟨⟨q, h1⟩, ⟨d', h2⟩⟩
  · rintro ⟨⟨r, d, cg, hr, e, hd, e2, h2, h3⟩, h4⟩ ⟨⟨hq, e'⟩, ⟨hd', e2'⟩, hx, hb⟩
    have := n6 (by omega) (by omega) e' e
    subst this
    have := n6 (by omega) (by omega) e2' e2
    subst this
    rw [h2, hx, bb_t h3 hb (sim_same hS (Nat.le_trans hA0.2.2.1 (Nat.le_trans hA0.1.1 (by decide))) hq hd)]
theorem ag_below {τ0 : gS} {ad0 : Nat → Nat} {i j : Int32} {u : ((Nat → Nat → Int32) × (Nat → Nat → Int64) × (Nat → Nat → Int32)) × Nat × Nat × Bool} {x : Int32} (hS : Sim α β) (hA0 : RepX τ0 ad0 α) (hR : RepX τ ad a9) (hP : (c = 0 ∧ ∃ r d cg, r < 6 ∧ i = nI r ∧ d < 6 ∧ j = nI d ∧ y = (bi cg).toInt64 ∧ (cg = true ↔ sEq (aJoin (aCopy α 6 d) 6 r) (aCopy α 6 d) 6 6) ∧ a9 = aJoin (aCopy α 6 d) 6 r) ∨ (a9 = α ∧ ((c = 1 ∧ ¬ (okI i 6 ∧ okI j 6))))) (hM : (thr = 0 ∧ (u.2.1 < 6 ∧ i = nI u.2.1) ∧ (u.2.2.1 < 6 ∧ j = nI u.2.2.1) ∧ x = bi u.2.2.2 ∧ (u.2.2.2 = true ↔ bEq (bJoin (bCopy β u.2.2.1 256) u.2.1 256) u.2.2.1 256) ∧ St (bJoin (bCopy β u.2.2.1 256) u.2.1 256)) ∨ (thr = 1 ∧ ¬ (okI i 6 ∧ okI j 6) ∧ St β)) : Agr a9 St thr c (y = x.toInt64) := by
  obtain ⟨u0, q, d', b⟩ := u
  dsimp only at hM
  refine ag_one hS Iff.rfl hP ?_ hM ?_ ?_
  · rintro ⟨r, d, cg, hr, e, hd, e2, h⟩
    exact ⟨⟨r, hr, e⟩, ⟨d, hd, e2⟩⟩
  · rintro ⟨h1, h2, h⟩
    exact ⟨⟨q, h1⟩, ⟨d', h2⟩⟩
  · rintro ⟨r, d, cg, hr, e, hd, e2, h2, h3, h4⟩ ⟨⟨hq, e'⟩, ⟨hd', e2'⟩, hx, hb, hSt⟩
    have := n6 (by omega) (by omega) e' e
    subst this
    have hn := hA0.1.1
    have := n6 (by omega) (by omega) e2' e2
    subst this
    have hs := sim_below hS hn (Nat.le_trans hA0.2.2.1 (Nat.le_trans hA0.1.1 (by decide))) hr hd
    exact ⟨_, hSt, by rw [h4]; exact hs.1, by rw [h2, hx, bb_t h3 hb hs.2]⟩
end AG
