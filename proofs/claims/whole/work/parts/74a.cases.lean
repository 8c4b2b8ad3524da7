set_option maxHeartbeats 4000000 in
set_option maxRecDepth 100000 in
/-- the law's case element -/
theorem law_element {p : Program} {l : Launch} {e : Env} {s : State} {m : MethodId} {below : List Frame} {meth : Method} {c : Code} {b Ls : Nat} {xs : Nat → Int32} {Q : State → Prop} (hl0 : l.stackTraces = false) (C0 : lw_At p s m meth c b Ls xs) {G : gG} (hK : g_K G s) (hX : g_X s.heap.size s) (hN : g_N s) {i9 v1 v2 v3 v4 : Int32} (hrd : rdS Ls xs i9 v1 v2 v3 v4) {cells slots : Nat} (hcs : cells + 12 ≤ room_1.cells ∧ slots + 100 ≤ room_1.slots) {L : List Nat} {K n : Nat → Nat} {rI : Nat → Nat → Int32} {rJ : Nat → Nat → Int64} {rQ : Nat → Nat → Option Nat} {fI : Nat → Nat → Int32} {fR : Nat → Nat → Option Nat} {ad : Nat → Nat} {α : aT} {bm : Nat → Nat} {β : bT} {oa : Nat} (hI : LI (L, K, n, rI, rJ, rQ, fI, fR) ad α bm β oa) {H : Heap} {locs : List Loc} (hG : gw G s.heap.size s.heap (L, K, n, rI, rJ, rQ, fI, fR) H locs) {ls : Array Slot} (hl : lv_has ls 8 [(0, .ref b), (1, .ref (ad 0)), (2, .ref (bm 0)), (3, .ref oa), (4, .int i9)]) (kk : lwK p l e s m below meth c b G bm oa i9 cells slots Q) : W p l e room_1 s m #[Value.ref b] below meth c H locs cells slots Q (F0 m 144 ls []) := by
  obtain ⟨hx, hb, hr, hml, hown, hts, hXs, hbl, hlocks, hgv⟩ := C0
  have hown : s.vm.findClass RL = some m.cls := hown
  have hts : ∀ w ∈ wsL_law, w.before #[Value.ref b] s = true := fun w h => hts w (wsL_law_in w h)
  have hLo := hI.2.2.2.1
  have hKo := hI.2.2.2.2.1
  have hno := hI.2.2.2.2.2
  have hio := dj_o hI.1 hKo hno
  refine lv_aload_n hx hb dL_law_144 rfl (lv_at hl 1 rfl) ?_
  refine lv_aload_n hx hb dL_law_145 rfl (lv_at hl 0 rfl) ?_
  refine lv_iload hx hb dL_law_146 (lv_at hl 4 rfl) ?_
  refine lv_iconst (v := 1) hx hb dL_law_148 (by decide) ?_
  refine lv_iadd hx hb dL_law_149 ?_
  refine g_sld hx hb hXs hbl hG hrd.1 dL_law_150 ?_
  refine lv_aload_n hx hb dL_law_151 rfl (lv_at hl 0 rfl) ?_
  refine lv_iload hx hb dL_law_152 (lv_at hl 4 rfl) ?_
  refine lv_iconst (v := 2) hx hb dL_law_154 (by decide) ?_
  refine lv_iadd hx hb dL_law_155 ?_
  refine g_sld hx hb hXs hbl hG hrd.2.1 dL_law_156 ?_
  refine lv_aload_n hx hb dL_law_157 rfl (lv_at hl 0 rfl) ?_
  refine lv_iload hx hb dL_law_158 (lv_at hl 4 rfl) ?_
  refine lv_iconst (v := 3) hx hb dL_law_160 (by decide) ?_
  refine lv_iadd hx hb dL_law_161 ?_
  refine g_sld hx hb hXs hbl hG hrd.2.2.1 dL_law_162 ?_
  refine lv_aload_n hx hb dL_law_163 rfl (lv_at hl 0 rfl) ?_
  refine lv_iload hx hb dL_law_164 (lv_at hl 4 rfl) ?_
  refine lv_iconst (v := 4) hx hb dL_law_166 (by decide) ?_
  refine lv_iadd hx hb dL_law_167 ?_
  refine g_sld hx hb hXs hbl hG hrd.2.2.2 dL_law_168 ?_
  refine lv_if_eq (tgt := 176) hx hb dL_law_169 (by decide) (fun on1 => ?_) (fun on1 => ?_)
  · refine lv_iconst (v := 0) hx hb dL_law_176 (by decide) ?_
    refine lv_aload_n hx hb dL_law_177 rfl (lv_at hl 3 rfl) ?_
    refine g_calli (vx_runSW (As := [.ref (ad 0), .int v1, .int v2, .int v3, .int (bi false), .ref oa]) (rest := []) ⟨hx, hb, hml, hown, hts⟩ (w_element l G s.heap.size hl0 hI.1 hLo hKo hno hio (i := (v1)) (key := (v2)) (el := (v3)) (on := false)) (vx_cwSW 6 hts gL_law_L_element rfl rfl rfl (by decide +kernel) ⟨(Nat.le_of_ble_eq_true rfl), (Nat.le_of_ble_eq_true rfl)⟩) (g_psy hK hX hN hG) rfl rfl hl.1 rfl (lv_room (Nat.le_of_ble_eq_true rfl)) dL_law_178 hcs) hG (fun y1 u H locs hp hG => ?_)
    obtain ⟨⟨L1, K1, n1, i1, j1, q1, f1, R1⟩, ad1, a1⟩ := u
    replace hG : gw G s.heap.size s.heap (L1, K1, n1, i1, j1, q1, f1, R1) H locs := hG
    obtain ⟨cc, rfl, hO, hP⟩ := hp
    replace hO : StpO (L, K, n, rI, rJ, rQ, fI, fR) ad α oa (L1, K1, n1, i1, j1, q1, f1, R1) ad1 a1 := hO
    obtain ⟨hM1, hLo1, hKo1, hno1⟩ := hI.w hO
    refine lv_istore (lv' := [(5, .int (nI cc)), (0, .ref b), (1, .ref (ad 0)), (2, .ref (bm 0)), (3, .ref oa), (4, .int i9)]) hx hb dL_law_181 hl (by decide) rfl (fun ls hl => ?_)
    refine lv_aload_n hx hb dL_law_183 rfl (lv_at hl 3 rfl) ?_
    refine lv_aload_n hx hb dL_law_184 rfl (lv_at hl 1 rfl) ?_
    refine lv_iload hx hb dL_law_185 (lv_at hl 5 rfl) ?_
    refine lv_iconst (v := 1) hx hb dL_law_187 (by decide) ?_
    refine lv_iadd hx hb dL_law_188 ?_
    refine g_sld hx hb hXs hbl hG hrd.1 dL_law_189 ?_
    refine lv_aload_n hx hb dL_law_190 rfl (lv_at hl 1 rfl) ?_
    refine lv_iload hx hb dL_law_191 (lv_at hl 5 rfl) ?_
    refine lv_iconst (v := 2) hx hb dL_law_193 (by decide) ?_
    refine lv_iadd hx hb dL_law_194 ?_
    refine g_sld hx hb hXs hbl hG hrd.2.1 dL_law_195 ?_
    refine lv_aload_n hx hb dL_law_196 rfl (lv_at hl 1 rfl) ?_
    refine lv_iload hx hb dL_law_197 (lv_at hl 5 rfl) ?_
    refine lv_iconst (v := 3) hx hb dL_law_199 (by decide) ?_
    refine lv_iadd hx hb dL_law_200 ?_
    refine g_sld hx hb hXs hbl hG hrd.2.2.1 dL_law_201 ?_
    refine lv_aload_n hx hb dL_law_202 rfl (lv_at hl 1 rfl) ?_
    refine lv_iload hx hb dL_law_203 (lv_at hl 5 rfl) ?_
    refine lv_iconst (v := 4) hx hb dL_law_205 (by decide) ?_
    refine lv_iadd hx hb dL_law_206 ?_
    refine g_sld hx hb hXs hbl hG hrd.2.2.2 dL_law_207 ?_
    refine lv_if_eq (tgt := 215) hx hb dL_law_208 (by decide) (fun on2 => ?_) (fun on2 => ?_)
    · refine lv_iconst (v := 0) hx hb dL_law_215 (by decide) ?_
      refine g_calli (va_runV (As := [.int v1, .int v2, .int v3, .int (bi false)]) (rest := []) ⟨hx, hb, hml, hown, hts⟩ (k_element l G s.heap.size hM1 (v := (v1)) (key := (v2)) (el := (v3)) (on := false)) (cwV 4 hts gL_law_X3_element rfl rfl rfl (by decide +kernel) ⟨(Nat.le_of_ble_eq_true rfl), (Nat.le_of_ble_eq_true rfl)⟩) (g_pv3 hK hG hM1.1.2.1 hM1.1.2.2.1) rfl rfl hl.1 rfl (lv_room (Nat.le_of_ble_eq_true rfl)) dL_law_216 hcs) hG (fun y2 u H locs hp hG => ?_)
      replace hG : gw G s.heap.size s.heap (L1, K1, n1, u.1.1, u.1.2.1, q1, u.1.2.2, R1) H locs := hG
      obtain ⟨β1, hSt, hS1, ht, hyx⟩ := ag_element (u := u) hI.2.2.1 hI.1 hO.1 hP hp
      replace hSt : StpM (L1, K1, n1, i1, j1, q1, f1, R1) bm (L1, K1, n1, u.1.1, u.1.2.1, q1, u.1.2.2, R1) β1 := hSt
      have hI2 := hI.m hO hSt hS1
      have hM2 := hSt.1
      have hLo2 : oa ∈ L1 := hI2.1.2.2.2.1
      have hKo2 : K1 oa = 5 := hI2.1.2.2.2.2.1
      have hno2 : n1 oa = 1 := hI2.1.2.2.2.2.2
      refine lv_istore (lv' := [(6, .int y2), (5, .int (nI cc)), (0, .ref b), (1, .ref (ad 0)), (2, .ref (bm 0)), (3, .ref oa), (4, .int i9)]) hx hb dL_law_219 hl (by decide) rfl (fun ls hl => ?_)
      refine lv_aload_n hx hb dL_law_221 rfl (lv_at hl 4 rfl) ?_
      refine g_calli (va_runV (As := []) (rest := []) ⟨hx, hb, hml, hown, hts⟩ (k_thrown l G s.heap.size hM2) (cwV 0 hts gL_law_X3_thrown rfl rfl rfl (by decide +kernel) ⟨(Nat.le_of_ble_eq_true rfl), (Nat.le_of_ble_eq_true rfl)⟩) (g_pv3 hK hG hM2.1.2.1 hM2.1.2.2.1) rfl rfl hl.1 rfl (lv_room (Nat.le_of_ble_eq_true rfl)) dL_law_222 hcs) hG (fun y3 _ H locs hp hG => ?_)
      obtain rfl : y3 = nI cc := hp.trans ht
      refine lv_iload hx hb dL_law_225 (lv_at hl 1 rfl) ?_
      refine lv_icmp_eq (tgt := 232) hx hb dL_law_227 (by decide) (fun c1 => ?_) (fun c1 => ?_)
      · refine lv_iload hx hb dL_law_232 (lv_at hl 1 rfl) ?_
        refine lv_if_ne (tgt := 249) hx hb dL_law_234 (by decide) (fun c2 => ?_) (fun c2 => ?_)
        · refine lv_goto (tgt := 1911) hx hb dL_law_249 (by decide) ?_
          exact kk (L1, K1, n1, u.1.1, u.1.2.1, q1, u.1.2.2, R1) ad1 a1 β1 _ _ _ hI2.1 hG (by rw [hO.2.2.2]; exact lv_sub hl [2, 3, 4, 5, 6] rfl)
        · refine lv_aload_n hx hb dL_law_237 rfl (lv_at hl 5 rfl) ?_
          refine lv_iconst (v := 0) hx hb dL_law_238 (by decide) ?_
          refine g_lald hx hb hK hG hLo2 hKo2 (0) rfl (by rw [hno2]; decide) (by rw [hno2]; decide) dL_law_239 ?_
          refine lv_iload hx hb dL_law_240 (lv_at hl 0 rfl) ?_
          refine lv_i2l hx hb dL_law_242 rfl ?_
          refine W.lcmp hx hb dL_law_243 ?_
          refine lv_if_eq (tgt := 249) hx hb dL_law_244 (by decide) (fun c3 => ?_) (fun c3 => ?_)
          · refine lv_goto (tgt := 1911) hx hb dL_law_249 (by decide) ?_
            exact kk (L1, K1, n1, u.1.1, u.1.2.1, q1, u.1.2.2, R1) ad1 a1 β1 _ _ _ hI2.1 hG (by rw [hO.2.2.2]; exact lv_sub hl [2, 3, 4, 5, 6] rfl)
          · exact absurd ((lg_cmp_eq _ _).mpr ((congrFun hI2.2 0).trans (hyx (by first | exact c2 | exact Classical.not_not.mp c2)))) c3
      · exact absurd rfl c1
    · exact absurd on1 on2
  · refine lv_iconst (v := 1) hx hb dL_law_172 (by decide) ?_
    refine lv_goto (tgt := 177) hx hb dL_law_173 (by decide) ?_
    refine lv_aload_n hx hb dL_law_177 rfl (lv_at hl 3 rfl) ?_
    refine g_calli (vx_runSW (As := [.ref (ad 0), .int v1, .int v2, .int v3, .int (bi true), .ref oa]) (rest := []) ⟨hx, hb, hml, hown, hts⟩ (w_element l G s.heap.size hl0 hI.1 hLo hKo hno hio (i := (v1)) (key := (v2)) (el := (v3)) (on := true)) (vx_cwSW 6 hts gL_law_L_element rfl rfl rfl (by decide +kernel) ⟨(Nat.le_of_ble_eq_true rfl), (Nat.le_of_ble_eq_true rfl)⟩) (g_psy hK hX hN hG) rfl rfl hl.1 rfl (lv_room (Nat.le_of_ble_eq_true rfl)) dL_law_178 hcs) hG (fun y1 u H locs hp hG => ?_)
    obtain ⟨⟨L1, K1, n1, i1, j1, q1, f1, R1⟩, ad1, a1⟩ := u
    replace hG : gw G s.heap.size s.heap (L1, K1, n1, i1, j1, q1, f1, R1) H locs := hG
    obtain ⟨cc, rfl, hO, hP⟩ := hp
    replace hO : StpO (L, K, n, rI, rJ, rQ, fI, fR) ad α oa (L1, K1, n1, i1, j1, q1, f1, R1) ad1 a1 := hO
    obtain ⟨hM1, hLo1, hKo1, hno1⟩ := hI.w hO
    refine lv_istore (lv' := [(5, .int (nI cc)), (0, .ref b), (1, .ref (ad 0)), (2, .ref (bm 0)), (3, .ref oa), (4, .int i9)]) hx hb dL_law_181 hl (by decide) rfl (fun ls hl => ?_)
    refine lv_aload_n hx hb dL_law_183 rfl (lv_at hl 3 rfl) ?_
    refine lv_aload_n hx hb dL_law_184 rfl (lv_at hl 1 rfl) ?_
    refine lv_iload hx hb dL_law_185 (lv_at hl 5 rfl) ?_
    refine lv_iconst (v := 1) hx hb dL_law_187 (by decide) ?_
    refine lv_iadd hx hb dL_law_188 ?_
    refine g_sld hx hb hXs hbl hG hrd.1 dL_law_189 ?_
    refine lv_aload_n hx hb dL_law_190 rfl (lv_at hl 1 rfl) ?_
    refine lv_iload hx hb dL_law_191 (lv_at hl 5 rfl) ?_
    refine lv_iconst (v := 2) hx hb dL_law_193 (by decide) ?_
    refine lv_iadd hx hb dL_law_194 ?_
    refine g_sld hx hb hXs hbl hG hrd.2.1 dL_law_195 ?_
    refine lv_aload_n hx hb dL_law_196 rfl (lv_at hl 1 rfl) ?_
    refine lv_iload hx hb dL_law_197 (lv_at hl 5 rfl) ?_
    refine lv_iconst (v := 3) hx hb dL_law_199 (by decide) ?_
    refine lv_iadd hx hb dL_law_200 ?_
    refine g_sld hx hb hXs hbl hG hrd.2.2.1 dL_law_201 ?_
    refine lv_aload_n hx hb dL_law_202 rfl (lv_at hl 1 rfl) ?_
    refine lv_iload hx hb dL_law_203 (lv_at hl 5 rfl) ?_
    refine lv_iconst (v := 4) hx hb dL_law_205 (by decide) ?_
    refine lv_iadd hx hb dL_law_206 ?_
    refine g_sld hx hb hXs hbl hG hrd.2.2.2 dL_law_207 ?_
    refine lv_if_eq (tgt := 215) hx hb dL_law_208 (by decide) (fun on2 => ?_) (fun on2 => ?_)
    · exact absurd on2 on1
    · refine lv_iconst (v := 1) hx hb dL_law_211 (by decide) ?_
      refine lv_goto (tgt := 216) hx hb dL_law_212 (by decide) ?_
      refine g_calli (va_runV (As := [.int v1, .int v2, .int v3, .int (bi true)]) (rest := []) ⟨hx, hb, hml, hown, hts⟩ (k_element l G s.heap.size hM1 (v := (v1)) (key := (v2)) (el := (v3)) (on := true)) (cwV 4 hts gL_law_X3_element rfl rfl rfl (by decide +kernel) ⟨(Nat.le_of_ble_eq_true rfl), (Nat.le_of_ble_eq_true rfl)⟩) (g_pv3 hK hG hM1.1.2.1 hM1.1.2.2.1) rfl rfl hl.1 rfl (lv_room (Nat.le_of_ble_eq_true rfl)) dL_law_216 hcs) hG (fun y2 u H locs hp hG => ?_)
      replace hG : gw G s.heap.size s.heap (L1, K1, n1, u.1.1, u.1.2.1, q1, u.1.2.2, R1) H locs := hG
      obtain ⟨β1, hSt, hS1, ht, hyx⟩ := ag_element (u := u) hI.2.2.1 hI.1 hO.1 hP hp
      replace hSt : StpM (L1, K1, n1, i1, j1, q1, f1, R1) bm (L1, K1, n1, u.1.1, u.1.2.1, q1, u.1.2.2, R1) β1 := hSt
      have hI2 := hI.m hO hSt hS1
      have hM2 := hSt.1
      have hLo2 : oa ∈ L1 := hI2.1.2.2.2.1
      have hKo2 : K1 oa = 5 := hI2.1.2.2.2.2.1
      have hno2 : n1 oa = 1 := hI2.1.2.2.2.2.2
      refine lv_istore (lv' := [(6, .int y2), (5, .int (nI cc)), (0, .ref b), (1, .ref (ad 0)), (2, .ref (bm 0)), (3, .ref oa), (4, .int i9)]) hx hb dL_law_219 hl (by decide) rfl (fun ls hl => ?_)
      refine lv_aload_n hx hb dL_law_221 rfl (lv_at hl 4 rfl) ?_
      refine g_calli (va_runV (As := []) (rest := []) ⟨hx, hb, hml, hown, hts⟩ (k_thrown l G s.heap.size hM2) (cwV 0 hts gL_law_X3_thrown rfl rfl rfl (by decide +kernel) ⟨(Nat.le_of_ble_eq_true rfl), (Nat.le_of_ble_eq_true rfl)⟩) (g_pv3 hK hG hM2.1.2.1 hM2.1.2.2.1) rfl rfl hl.1 rfl (lv_room (Nat.le_of_ble_eq_true rfl)) dL_law_222 hcs) hG (fun y3 _ H locs hp hG => ?_)
      obtain rfl : y3 = nI cc := hp.trans ht
      refine lv_iload hx hb dL_law_225 (lv_at hl 1 rfl) ?_
      refine lv_icmp_eq (tgt := 232) hx hb dL_law_227 (by decide) (fun c1 => ?_) (fun c1 => ?_)
      · refine lv_iload hx hb dL_law_232 (lv_at hl 1 rfl) ?_
        refine lv_if_ne (tgt := 249) hx hb dL_law_234 (by decide) (fun c2 => ?_) (fun c2 => ?_)
        · refine lv_goto (tgt := 1911) hx hb dL_law_249 (by decide) ?_
          exact kk (L1, K1, n1, u.1.1, u.1.2.1, q1, u.1.2.2, R1) ad1 a1 β1 _ _ _ hI2.1 hG (by rw [hO.2.2.2]; exact lv_sub hl [2, 3, 4, 5, 6] rfl)
        · refine lv_aload_n hx hb dL_law_237 rfl (lv_at hl 5 rfl) ?_
          refine lv_iconst (v := 0) hx hb dL_law_238 (by decide) ?_
          refine g_lald hx hb hK hG hLo2 hKo2 (0) rfl (by rw [hno2]; decide) (by rw [hno2]; decide) dL_law_239 ?_
          refine lv_iload hx hb dL_law_240 (lv_at hl 0 rfl) ?_
          refine lv_i2l hx hb dL_law_242 rfl ?_
          refine W.lcmp hx hb dL_law_243 ?_
          refine lv_if_eq (tgt := 249) hx hb dL_law_244 (by decide) (fun c3 => ?_) (fun c3 => ?_)
          · refine lv_goto (tgt := 1911) hx hb dL_law_249 (by decide) ?_
            exact kk (L1, K1, n1, u.1.1, u.1.2.1, q1, u.1.2.2, R1) ad1 a1 β1 _ _ _ hI2.1 hG (by rw [hO.2.2.2]; exact lv_sub hl [2, 3, 4, 5, 6] rfl)
          · exact absurd ((lg_cmp_eq _ _).mpr ((congrFun hI2.2 0).trans (hyx (by first | exact c2 | exact Classical.not_not.mp c2)))) c3
      · exact absurd rfl c1
set_option maxHeartbeats 4000000 in
set_option maxRecDepth 100000 in
/-- the law's case write -/
theorem law_write {p : Program} {l : Launch} {e : Env} {s : State} {m : MethodId} {below : List Frame} {meth : Method} {c : Code} {b Ls : Nat} {xs : Nat → Int32} {Q : State → Prop} (hl0 : l.stackTraces = false) (C0 : lw_At p s m meth c b Ls xs) {G : gG} (hK : g_K G s) (hX : g_X s.heap.size s) (hN : g_N s) {i9 v1 v2 v3 v4 : Int32} (hrd : rdS Ls xs i9 v1 v2 v3 v4) {cells slots : Nat} (hcs : cells + 12 ≤ room_1.cells ∧ slots + 100 ≤ room_1.slots) {L : List Nat} {K n : Nat → Nat} {rI : Nat → Nat → Int32} {rJ : Nat → Nat → Int64} {rQ : Nat → Nat → Option Nat} {fI : Nat → Nat → Int32} {fR : Nat → Nat → Option Nat} {ad : Nat → Nat} {α : aT} {bm : Nat → Nat} {β : bT} {oa : Nat} (hI : LI (L, K, n, rI, rJ, rQ, fI, fR) ad α bm β oa) {H : Heap} {locs : List Loc} (hG : gw G s.heap.size s.heap (L, K, n, rI, rJ, rQ, fI, fR) H locs) {ls : Array Slot} (hl : lv_has ls 8 [(0, .ref b), (1, .ref (ad 0)), (2, .ref (bm 0)), (3, .ref oa), (4, .int i9)]) (kk : lwK p l e s m below meth c b G bm oa i9 cells slots Q) : W p l e room_1 s m #[Value.ref b] below meth c H locs cells slots Q (F0 m 252 ls []) := by
  obtain ⟨hx, hb, hr, hml, hown, hts, hXs, hbl, hlocks, hgv⟩ := C0
  have hown : s.vm.findClass RL = some m.cls := hown
  have hts : ∀ w ∈ wsL_law, w.before #[Value.ref b] s = true := fun w h => hts w (wsL_law_in w h)
  have hLo := hI.2.2.2.1
  have hKo := hI.2.2.2.2.1
  have hno := hI.2.2.2.2.2
  have hio := dj_o hI.1 hKo hno
  refine lv_aload_n hx hb dL_law_252 rfl (lv_at hl 1 rfl) ?_
  refine lv_aload_n hx hb dL_law_253 rfl (lv_at hl 0 rfl) ?_
  refine lv_iload hx hb dL_law_254 (lv_at hl 4 rfl) ?_
  refine lv_iconst (v := 1) hx hb dL_law_256 (by decide) ?_
  refine lv_iadd hx hb dL_law_257 ?_
  refine g_sld hx hb hXs hbl hG hrd.1 dL_law_258 ?_
  refine lv_aload_n hx hb dL_law_259 rfl (lv_at hl 0 rfl) ?_
  refine lv_iload hx hb dL_law_260 (lv_at hl 4 rfl) ?_
  refine lv_iconst (v := 2) hx hb dL_law_262 (by decide) ?_
  refine lv_iadd hx hb dL_law_263 ?_
  refine g_sld hx hb hXs hbl hG hrd.2.1 dL_law_264 ?_
  refine lv_aload_n hx hb dL_law_265 rfl (lv_at hl 0 rfl) ?_
  refine lv_iload hx hb dL_law_266 (lv_at hl 4 rfl) ?_
  refine lv_iconst (v := 3) hx hb dL_law_268 (by decide) ?_
  refine lv_iadd hx hb dL_law_269 ?_
  refine g_sld hx hb hXs hbl hG hrd.2.2.1 dL_law_270 ?_
  refine lv_i2l hx hb dL_law_271 rfl ?_
  refine lv_bipush (v := 32) hx hb dL_law_272 (by decide) ?_
  refine lv_lshl hx hb dL_law_274 rfl ?_
  refine lv_aload_n hx hb dL_law_275 rfl (lv_at hl 0 rfl) ?_
  refine lv_iload hx hb dL_law_276 (lv_at hl 4 rfl) ?_
  refine lv_iconst (v := 4) hx hb dL_law_278 (by decide) ?_
  refine lv_iadd hx hb dL_law_279 ?_
  refine g_sld hx hb hXs hbl hG hrd.2.2.2 dL_law_280 ?_
  refine lv_i2l hx hb dL_law_281 rfl ?_
  refine lv_ldc2 (v := (4294967295)) hx hb hown (hts (.constantLong RL 105 (4294967295)) (by decide +kernel)) dL_law_282 ?_
  refine lv_land hx hb dL_law_285 ?_
  refine lv_lor hx hb dL_law_286 ?_
  refine lv_aload_n hx hb dL_law_287 rfl (lv_at hl 3 rfl) ?_
  refine g_calli (vx_runSW (As := [.ref (ad 0), .int v1, .int v2, .long (((v3).toInt64 <<< (((32 : Int32)).toInt64 &&& 63)) ||| ((v4).toInt64 &&& (4294967295))), .ref oa]) (rest := []) ⟨hx, hb, hml, hown, hts⟩ (w_write l G s.heap.size hl0 hI.1 hLo hKo hno hio (i := (v1)) (key := (v2)) (v := ((((v3).toInt64 <<< (((32 : Int32)).toInt64 &&& 63)) ||| ((v4).toInt64 &&& (4294967295)))))) (vx_cwSW 5 hts gL_law_L_write rfl rfl rfl (by decide +kernel) ⟨(Nat.le_of_ble_eq_true rfl), (Nat.le_of_ble_eq_true rfl)⟩) (g_psy hK hX hN hG) rfl rfl hl.1 rfl (lv_room (Nat.le_of_ble_eq_true rfl)) dL_law_288 hcs) hG (fun y1 u H locs hp hG => ?_)
  obtain ⟨⟨L1, K1, n1, i1, j1, q1, f1, R1⟩, ad1, a1⟩ := u
  replace hG : gw G s.heap.size s.heap (L1, K1, n1, i1, j1, q1, f1, R1) H locs := hG
  obtain ⟨cc, rfl, hO, hP⟩ := hp
  replace hO : StpO (L, K, n, rI, rJ, rQ, fI, fR) ad α oa (L1, K1, n1, i1, j1, q1, f1, R1) ad1 a1 := hO
  obtain ⟨hM1, hLo1, hKo1, hno1⟩ := hI.w hO
  refine lv_istore (lv' := [(5, .int (nI cc)), (0, .ref b), (1, .ref (ad 0)), (2, .ref (bm 0)), (3, .ref oa), (4, .int i9)]) hx hb dL_law_291 hl (by decide) rfl (fun ls hl => ?_)
  refine lv_aload_n hx hb dL_law_293 rfl (lv_at hl 3 rfl) ?_
  refine lv_aload_n hx hb dL_law_294 rfl (lv_at hl 1 rfl) ?_
  refine lv_iload hx hb dL_law_295 (lv_at hl 5 rfl) ?_
  refine lv_iconst (v := 1) hx hb dL_law_297 (by decide) ?_
  refine lv_iadd hx hb dL_law_298 ?_
  refine g_sld hx hb hXs hbl hG hrd.1 dL_law_299 ?_
  refine lv_aload_n hx hb dL_law_300 rfl (lv_at hl 1 rfl) ?_
  refine lv_iload hx hb dL_law_301 (lv_at hl 5 rfl) ?_
  refine lv_iconst (v := 2) hx hb dL_law_303 (by decide) ?_
  refine lv_iadd hx hb dL_law_304 ?_
  refine g_sld hx hb hXs hbl hG hrd.2.1 dL_law_305 ?_
  refine lv_aload_n hx hb dL_law_306 rfl (lv_at hl 1 rfl) ?_
  refine lv_iload hx hb dL_law_307 (lv_at hl 5 rfl) ?_
  refine lv_iconst (v := 3) hx hb dL_law_309 (by decide) ?_
  refine lv_iadd hx hb dL_law_310 ?_
  refine g_sld hx hb hXs hbl hG hrd.2.2.1 dL_law_311 ?_
  refine lv_i2l hx hb dL_law_312 rfl ?_
  refine lv_bipush (v := 32) hx hb dL_law_313 (by decide) ?_
  refine lv_lshl hx hb dL_law_315 rfl ?_
  refine lv_aload_n hx hb dL_law_316 rfl (lv_at hl 1 rfl) ?_
  refine lv_iload hx hb dL_law_317 (lv_at hl 5 rfl) ?_
  refine lv_iconst (v := 4) hx hb dL_law_319 (by decide) ?_
  refine lv_iadd hx hb dL_law_320 ?_
  refine g_sld hx hb hXs hbl hG hrd.2.2.2 dL_law_321 ?_
  refine lv_i2l hx hb dL_law_322 rfl ?_
  refine lv_ldc2 (v := (4294967295)) hx hb hown (hts (.constantLong RL 105 (4294967295)) (by decide +kernel)) dL_law_323 ?_
  refine lv_land hx hb dL_law_326 ?_
  refine lv_lor hx hb dL_law_327 ?_
  refine g_calli (va_runV (As := [.int v1, .int v2, .long (((v3).toInt64 <<< (((32 : Int32)).toInt64 &&& 63)) ||| ((v4).toInt64 &&& (4294967295)))]) (rest := []) ⟨hx, hb, hml, hown, hts⟩ (k_write l G s.heap.size hM1 (v := (v1)) (key := (v2)) (x9 := ((((v3).toInt64 <<< (((32 : Int32)).toInt64 &&& 63)) ||| ((v4).toInt64 &&& (4294967295)))))) (cwV 3 hts gL_law_X3_write rfl rfl rfl (by decide +kernel) ⟨(Nat.le_of_ble_eq_true rfl), (Nat.le_of_ble_eq_true rfl)⟩) (g_pv3 hK hG hM1.1.2.1 hM1.1.2.2.1) rfl rfl hl.1 rfl (lv_room (Nat.le_of_ble_eq_true rfl)) dL_law_328 hcs) hG (fun y2 u H locs hp hG => ?_)
  replace hG : gw G s.heap.size s.heap (L1, K1, n1, u.1.1, u.1.2.1, q1, u.1.2.2, R1) H locs := hG
  obtain ⟨β1, hSt, hS1, ht, hyx⟩ := ag_write (u := u) hI.2.2.1 hI.1 hO.1 hP hp
  replace hSt : StpM (L1, K1, n1, i1, j1, q1, f1, R1) bm (L1, K1, n1, u.1.1, u.1.2.1, q1, u.1.2.2, R1) β1 := hSt
  have hI2 := hI.m hO hSt hS1
  have hM2 := hSt.1
  have hLo2 : oa ∈ L1 := hI2.1.2.2.2.1
  have hKo2 : K1 oa = 5 := hI2.1.2.2.2.2.1
  have hno2 : n1 oa = 1 := hI2.1.2.2.2.2.2
  refine lv_istore (lv' := [(6, .int y2), (5, .int (nI cc)), (0, .ref b), (1, .ref (ad 0)), (2, .ref (bm 0)), (3, .ref oa), (4, .int i9)]) hx hb dL_law_331 hl (by decide) rfl (fun ls hl => ?_)
  refine lv_aload_n hx hb dL_law_333 rfl (lv_at hl 4 rfl) ?_
  refine g_calli (va_runV (As := []) (rest := []) ⟨hx, hb, hml, hown, hts⟩ (k_thrown l G s.heap.size hM2) (cwV 0 hts gL_law_X3_thrown rfl rfl rfl (by decide +kernel) ⟨(Nat.le_of_ble_eq_true rfl), (Nat.le_of_ble_eq_true rfl)⟩) (g_pv3 hK hG hM2.1.2.1 hM2.1.2.2.1) rfl rfl hl.1 rfl (lv_room (Nat.le_of_ble_eq_true rfl)) dL_law_334 hcs) hG (fun y3 _ H locs hp hG => ?_)
  obtain rfl : y3 = nI cc := hp.trans ht
  refine lv_iload hx hb dL_law_337 (lv_at hl 1 rfl) ?_
  refine lv_icmp_eq (tgt := 344) hx hb dL_law_339 (by decide) (fun c1 => ?_) (fun c1 => ?_)
  · refine lv_iload hx hb dL_law_344 (lv_at hl 1 rfl) ?_
    refine lv_if_ne (tgt := 361) hx hb dL_law_346 (by decide) (fun c2 => ?_) (fun c2 => ?_)
    · refine lv_goto (tgt := 1911) hx hb dL_law_361 (by decide) ?_
      exact kk (L1, K1, n1, u.1.1, u.1.2.1, q1, u.1.2.2, R1) ad1 a1 β1 _ _ _ hI2.1 hG (by rw [hO.2.2.2]; exact lv_sub hl [2, 3, 4, 5, 6] rfl)
    · refine lv_aload_n hx hb dL_law_349 rfl (lv_at hl 5 rfl) ?_
      refine lv_iconst (v := 0) hx hb dL_law_350 (by decide) ?_
      refine g_lald hx hb hK hG hLo2 hKo2 (0) rfl (by rw [hno2]; decide) (by rw [hno2]; decide) dL_law_351 ?_
      refine lv_iload hx hb dL_law_352 (lv_at hl 0 rfl) ?_
      refine lv_i2l hx hb dL_law_354 rfl ?_
      refine W.lcmp hx hb dL_law_355 ?_
      refine lv_if_eq (tgt := 361) hx hb dL_law_356 (by decide) (fun c3 => ?_) (fun c3 => ?_)
      · refine lv_goto (tgt := 1911) hx hb dL_law_361 (by decide) ?_
        exact kk (L1, K1, n1, u.1.1, u.1.2.1, q1, u.1.2.2, R1) ad1 a1 β1 _ _ _ hI2.1 hG (by rw [hO.2.2.2]; exact lv_sub hl [2, 3, 4, 5, 6] rfl)
      · exact absurd ((lg_cmp_eq _ _).mpr ((congrFun hI2.2 0).trans (hyx (by first | exact c2 | exact Classical.not_not.mp c2)))) c3
  · exact absurd rfl c1
set_option maxHeartbeats 4000000 in
set_option maxRecDepth 100000 in
/-- the law's case count -/
theorem law_count {p : Program} {l : Launch} {e : Env} {s : State} {m : MethodId} {below : List Frame} {meth : Method} {c : Code} {b Ls : Nat} {xs : Nat → Int32} {Q : State → Prop} (hl0 : l.stackTraces = false) (C0 : lw_At p s m meth c b Ls xs) {G : gG} (hK : g_K G s) (hX : g_X s.heap.size s) (hN : g_N s) {i9 v1 v2 v3 v4 : Int32} (hrd : rdS Ls xs i9 v1 v2 v3 v4) {cells slots : Nat} (hcs : cells + 12 ≤ room_1.cells ∧ slots + 100 ≤ room_1.slots) {L : List Nat} {K n : Nat → Nat} {rI : Nat → Nat → Int32} {rJ : Nat → Nat → Int64} {rQ : Nat → Nat → Option Nat} {fI : Nat → Nat → Int32} {fR : Nat → Nat → Option Nat} {ad : Nat → Nat} {α : aT} {bm : Nat → Nat} {β : bT} {oa : Nat} (hI : LI (L, K, n, rI, rJ, rQ, fI, fR) ad α bm β oa) {H : Heap} {locs : List Loc} (hG : gw G s.heap.size s.heap (L, K, n, rI, rJ, rQ, fI, fR) H locs) {ls : Array Slot} (hl : lv_has ls 8 [(0, .ref b), (1, .ref (ad 0)), (2, .ref (bm 0)), (3, .ref oa), (4, .int i9)]) (kk : lwK p l e s m below meth c b G bm oa i9 cells slots Q) : W p l e room_1 s m #[Value.ref b] below meth c H locs cells slots Q (F0 m 364 ls []) := by
  obtain ⟨hx, hb, hr, hml, hown, hts, hXs, hbl, hlocks, hgv⟩ := C0
  have hown : s.vm.findClass RL = some m.cls := hown
  have hts : ∀ w ∈ wsL_law, w.before #[Value.ref b] s = true := fun w h => hts w (wsL_law_in w h)
  have hLo := hI.2.2.2.1
  have hKo := hI.2.2.2.2.1
  have hno := hI.2.2.2.2.2
  have hio := dj_o hI.1 hKo hno
  refine lv_aload_n hx hb dL_law_364 rfl (lv_at hl 1 rfl) ?_
  refine lv_aload_n hx hb dL_law_365 rfl (lv_at hl 0 rfl) ?_
  refine lv_iload hx hb dL_law_366 (lv_at hl 4 rfl) ?_
  refine lv_iconst (v := 1) hx hb dL_law_368 (by decide) ?_
  refine lv_iadd hx hb dL_law_369 ?_
  refine g_sld hx hb hXs hbl hG hrd.1 dL_law_370 ?_
  refine lv_aload_n hx hb dL_law_371 rfl (lv_at hl 0 rfl) ?_
  refine lv_iload hx hb dL_law_372 (lv_at hl 4 rfl) ?_
  refine lv_iconst (v := 2) hx hb dL_law_374 (by decide) ?_
  refine lv_iadd hx hb dL_law_375 ?_
  refine g_sld hx hb hXs hbl hG hrd.2.1 dL_law_376 ?_
  refine lv_aload_n hx hb dL_law_377 rfl (lv_at hl 0 rfl) ?_
  refine lv_iload hx hb dL_law_378 (lv_at hl 4 rfl) ?_
  refine lv_iconst (v := 3) hx hb dL_law_380 (by decide) ?_
  refine lv_iadd hx hb dL_law_381 ?_
  refine g_sld hx hb hXs hbl hG hrd.2.2.1 dL_law_382 ?_
  refine lv_i2l hx hb dL_law_383 rfl ?_
  refine lv_bipush (v := 32) hx hb dL_law_384 (by decide) ?_
  refine lv_lshl hx hb dL_law_386 rfl ?_
  refine lv_aload_n hx hb dL_law_387 rfl (lv_at hl 0 rfl) ?_
  refine lv_iload hx hb dL_law_388 (lv_at hl 4 rfl) ?_
  refine lv_iconst (v := 4) hx hb dL_law_390 (by decide) ?_
  refine lv_iadd hx hb dL_law_391 ?_
  refine g_sld hx hb hXs hbl hG hrd.2.2.2 dL_law_392 ?_
  refine lv_i2l hx hb dL_law_393 rfl ?_
  refine lv_ldc2 (v := (4294967295)) hx hb hown (hts (.constantLong RL 105 (4294967295)) (by decide +kernel)) dL_law_394 ?_
  refine lv_land hx hb dL_law_397 ?_
  refine lv_lor hx hb dL_law_398 ?_
  refine lv_aload_n hx hb dL_law_399 rfl (lv_at hl 3 rfl) ?_
  refine g_calli (vx_runSW (As := [.ref (ad 0), .int v1, .int v2, .long (((v3).toInt64 <<< (((32 : Int32)).toInt64 &&& 63)) ||| ((v4).toInt64 &&& (4294967295))), .ref oa]) (rest := []) ⟨hx, hb, hml, hown, hts⟩ (w_count l G s.heap.size hl0 hI.1 hLo hKo hno hio (i := (v1)) (key := (v2)) (v := ((((v3).toInt64 <<< (((32 : Int32)).toInt64 &&& 63)) ||| ((v4).toInt64 &&& (4294967295)))))) (vx_cwSW 5 hts gL_law_L_count rfl rfl rfl (by decide +kernel) ⟨(Nat.le_of_ble_eq_true rfl), (Nat.le_of_ble_eq_true rfl)⟩) (g_psy hK hX hN hG) rfl rfl hl.1 rfl (lv_room (Nat.le_of_ble_eq_true rfl)) dL_law_400 hcs) hG (fun y1 u H locs hp hG => ?_)
  obtain ⟨⟨L1, K1, n1, i1, j1, q1, f1, R1⟩, ad1, a1⟩ := u
  replace hG : gw G s.heap.size s.heap (L1, K1, n1, i1, j1, q1, f1, R1) H locs := hG
  obtain ⟨cc, rfl, hO, hP⟩ := hp
  replace hO : StpO (L, K, n, rI, rJ, rQ, fI, fR) ad α oa (L1, K1, n1, i1, j1, q1, f1, R1) ad1 a1 := hO
  obtain ⟨hM1, hLo1, hKo1, hno1⟩ := hI.w hO
  refine lv_istore (lv' := [(5, .int (nI cc)), (0, .ref b), (1, .ref (ad 0)), (2, .ref (bm 0)), (3, .ref oa), (4, .int i9)]) hx hb dL_law_403 hl (by decide) rfl (fun ls hl => ?_)
  refine lv_aload_n hx hb dL_law_405 rfl (lv_at hl 3 rfl) ?_
  refine lv_aload_n hx hb dL_law_406 rfl (lv_at hl 1 rfl) ?_
  refine lv_iload hx hb dL_law_407 (lv_at hl 5 rfl) ?_
  refine lv_iconst (v := 1) hx hb dL_law_409 (by decide) ?_
  refine lv_iadd hx hb dL_law_410 ?_
  refine g_sld hx hb hXs hbl hG hrd.1 dL_law_411 ?_
  refine lv_aload_n hx hb dL_law_412 rfl (lv_at hl 1 rfl) ?_
  refine lv_iload hx hb dL_law_413 (lv_at hl 5 rfl) ?_
  refine lv_iconst (v := 2) hx hb dL_law_415 (by decide) ?_
  refine lv_iadd hx hb dL_law_416 ?_
  refine g_sld hx hb hXs hbl hG hrd.2.1 dL_law_417 ?_
  refine lv_aload_n hx hb dL_law_418 rfl (lv_at hl 1 rfl) ?_
  refine lv_iload hx hb dL_law_419 (lv_at hl 5 rfl) ?_
  refine lv_iconst (v := 3) hx hb dL_law_421 (by decide) ?_
  refine lv_iadd hx hb dL_law_422 ?_
  refine g_sld hx hb hXs hbl hG hrd.2.2.1 dL_law_423 ?_
  refine lv_i2l hx hb dL_law_424 rfl ?_
  refine lv_bipush (v := 32) hx hb dL_law_425 (by decide) ?_
  refine lv_lshl hx hb dL_law_427 rfl ?_
  refine lv_aload_n hx hb dL_law_428 rfl (lv_at hl 1 rfl) ?_
  refine lv_iload hx hb dL_law_429 (lv_at hl 5 rfl) ?_
  refine lv_iconst (v := 4) hx hb dL_law_431 (by decide) ?_
  refine lv_iadd hx hb dL_law_432 ?_
  refine g_sld hx hb hXs hbl hG hrd.2.2.2 dL_law_433 ?_
  refine lv_i2l hx hb dL_law_434 rfl ?_
  refine lv_ldc2 (v := (4294967295)) hx hb hown (hts (.constantLong RL 105 (4294967295)) (by decide +kernel)) dL_law_435 ?_
  refine lv_land hx hb dL_law_438 ?_
  refine lv_lor hx hb dL_law_439 ?_
  refine g_calli (va_runV (As := [.int v1, .int v2, .long (((v3).toInt64 <<< (((32 : Int32)).toInt64 &&& 63)) ||| ((v4).toInt64 &&& (4294967295)))]) (rest := []) ⟨hx, hb, hml, hown, hts⟩ (k_count l G s.heap.size hM1 (v := (v1)) (key := (v2)) (x9 := ((((v3).toInt64 <<< (((32 : Int32)).toInt64 &&& 63)) ||| ((v4).toInt64 &&& (4294967295)))))) (cwV 3 hts gL_law_X3_count rfl rfl rfl (by decide +kernel) ⟨(Nat.le_of_ble_eq_true rfl), (Nat.le_of_ble_eq_true rfl)⟩) (g_pv3 hK hG hM1.1.2.1 hM1.1.2.2.1) rfl rfl hl.1 rfl (lv_room (Nat.le_of_ble_eq_true rfl)) dL_law_440 hcs) hG (fun y2 u H locs hp hG => ?_)
  replace hG : gw G s.heap.size s.heap (L1, K1, n1, u.1.1, u.1.2.1, q1, u.1.2.2, R1) H locs := hG
  obtain ⟨β1, hSt, hS1, ht, hyx⟩ := ag_count (u := u) hI.2.2.1 hI.1 hO.1 hP hp
  replace hSt : StpM (L1, K1, n1, i1, j1, q1, f1, R1) bm (L1, K1, n1, u.1.1, u.1.2.1, q1, u.1.2.2, R1) β1 := hSt
  have hI2 := hI.m hO hSt hS1
  have hM2 := hSt.1
  have hLo2 : oa ∈ L1 := hI2.1.2.2.2.1
  have hKo2 : K1 oa = 5 := hI2.1.2.2.2.2.1
  have hno2 : n1 oa = 1 := hI2.1.2.2.2.2.2
  refine lv_istore (lv' := [(6, .int y2), (5, .int (nI cc)), (0, .ref b), (1, .ref (ad 0)), (2, .ref (bm 0)), (3, .ref oa), (4, .int i9)]) hx hb dL_law_443 hl (by decide) rfl (fun ls hl => ?_)
  refine lv_aload_n hx hb dL_law_445 rfl (lv_at hl 4 rfl) ?_
  refine g_calli (va_runV (As := []) (rest := []) ⟨hx, hb, hml, hown, hts⟩ (k_thrown l G s.heap.size hM2) (cwV 0 hts gL_law_X3_thrown rfl rfl rfl (by decide +kernel) ⟨(Nat.le_of_ble_eq_true rfl), (Nat.le_of_ble_eq_true rfl)⟩) (g_pv3 hK hG hM2.1.2.1 hM2.1.2.2.1) rfl rfl hl.1 rfl (lv_room (Nat.le_of_ble_eq_true rfl)) dL_law_446 hcs) hG (fun y3 _ H locs hp hG => ?_)
  obtain rfl : y3 = nI cc := hp.trans ht
  refine lv_iload hx hb dL_law_449 (lv_at hl 1 rfl) ?_
  refine lv_icmp_eq (tgt := 456) hx hb dL_law_451 (by decide) (fun c1 => ?_) (fun c1 => ?_)
  · refine lv_iload hx hb dL_law_456 (lv_at hl 1 rfl) ?_
    refine lv_if_ne (tgt := 473) hx hb dL_law_458 (by decide) (fun c2 => ?_) (fun c2 => ?_)
    · refine lv_goto (tgt := 1911) hx hb dL_law_473 (by decide) ?_
      exact kk (L1, K1, n1, u.1.1, u.1.2.1, q1, u.1.2.2, R1) ad1 a1 β1 _ _ _ hI2.1 hG (by rw [hO.2.2.2]; exact lv_sub hl [2, 3, 4, 5, 6] rfl)
    · refine lv_aload_n hx hb dL_law_461 rfl (lv_at hl 5 rfl) ?_
      refine lv_iconst (v := 0) hx hb dL_law_462 (by decide) ?_
      refine g_lald hx hb hK hG hLo2 hKo2 (0) rfl (by rw [hno2]; decide) (by rw [hno2]; decide) dL_law_463 ?_
      refine lv_iload hx hb dL_law_464 (lv_at hl 0 rfl) ?_
      refine lv_i2l hx hb dL_law_466 rfl ?_
      refine W.lcmp hx hb dL_law_467 ?_
      refine lv_if_eq (tgt := 473) hx hb dL_law_468 (by decide) (fun c3 => ?_) (fun c3 => ?_)
      · refine lv_goto (tgt := 1911) hx hb dL_law_473 (by decide) ?_
        exact kk (L1, K1, n1, u.1.1, u.1.2.1, q1, u.1.2.2, R1) ad1 a1 β1 _ _ _ hI2.1 hG (by rw [hO.2.2.2]; exact lv_sub hl [2, 3, 4, 5, 6] rfl)
      · exact absurd ((lg_cmp_eq _ _).mpr ((congrFun hI2.2 0).trans (hyx (by first | exact c2 | exact Classical.not_not.mp c2)))) c3
  · exact absurd rfl c1
set_option maxHeartbeats 4000000 in
set_option maxRecDepth 100000 in
/-- the law's case flag -/
theorem law_flag {p : Program} {l : Launch} {e : Env} {s : State} {m : MethodId} {below : List Frame} {meth : Method} {c : Code} {b Ls : Nat} {xs : Nat → Int32} {Q : State → Prop} (hl0 : l.stackTraces = false) (C0 : lw_At p s m meth c b Ls xs) {G : gG} (hK : g_K G s) (hX : g_X s.heap.size s) (hN : g_N s) {i9 v1 v2 v3 v4 : Int32} (hrd : rdS Ls xs i9 v1 v2 v3 v4) {cells slots : Nat} (hcs : cells + 12 ≤ room_1.cells ∧ slots + 100 ≤ room_1.slots) {L : List Nat} {K n : Nat → Nat} {rI : Nat → Nat → Int32} {rJ : Nat → Nat → Int64} {rQ : Nat → Nat → Option Nat} {fI : Nat → Nat → Int32} {fR : Nat → Nat → Option Nat} {ad : Nat → Nat} {α : aT} {bm : Nat → Nat} {β : bT} {oa : Nat} (hI : LI (L, K, n, rI, rJ, rQ, fI, fR) ad α bm β oa) {H : Heap} {locs : List Loc} (hG : gw G s.heap.size s.heap (L, K, n, rI, rJ, rQ, fI, fR) H locs) {ls : Array Slot} (hl : lv_has ls 8 [(0, .ref b), (1, .ref (ad 0)), (2, .ref (bm 0)), (3, .ref oa), (4, .int i9)]) (kk : lwK p l e s m below meth c b G bm oa i9 cells slots Q) : W p l e room_1 s m #[Value.ref b] below meth c H locs cells slots Q (F0 m 476 ls []) := by
  obtain ⟨hx, hb, hr, hml, hown, hts, hXs, hbl, hlocks, hgv⟩ := C0
  have hown : s.vm.findClass RL = some m.cls := hown
  have hts : ∀ w ∈ wsL_law, w.before #[Value.ref b] s = true := fun w h => hts w (wsL_law_in w h)
  have hLo := hI.2.2.2.1
  have hKo := hI.2.2.2.2.1
  have hno := hI.2.2.2.2.2
  have hio := dj_o hI.1 hKo hno
  refine lv_aload_n hx hb dL_law_476 rfl (lv_at hl 1 rfl) ?_
  refine lv_aload_n hx hb dL_law_477 rfl (lv_at hl 0 rfl) ?_
  refine lv_iload hx hb dL_law_478 (lv_at hl 4 rfl) ?_
  refine lv_iconst (v := 1) hx hb dL_law_480 (by decide) ?_
  refine lv_iadd hx hb dL_law_481 ?_
  refine g_sld hx hb hXs hbl hG hrd.1 dL_law_482 ?_
  refine lv_aload_n hx hb dL_law_483 rfl (lv_at hl 0 rfl) ?_
  refine lv_iload hx hb dL_law_484 (lv_at hl 4 rfl) ?_
  refine lv_iconst (v := 2) hx hb dL_law_486 (by decide) ?_
  refine lv_iadd hx hb dL_law_487 ?_
  refine g_sld hx hb hXs hbl hG hrd.2.1 dL_law_488 ?_
  refine lv_aload_n hx hb dL_law_489 rfl (lv_at hl 0 rfl) ?_
  refine lv_iload hx hb dL_law_490 (lv_at hl 4 rfl) ?_
  refine lv_iconst (v := 3) hx hb dL_law_492 (by decide) ?_
  refine lv_iadd hx hb dL_law_493 ?_
  refine g_sld hx hb hXs hbl hG hrd.2.2.1 dL_law_494 ?_
  refine lv_aload_n hx hb dL_law_495 rfl (lv_at hl 0 rfl) ?_
  refine lv_iload hx hb dL_law_496 (lv_at hl 4 rfl) ?_
  refine lv_iconst (v := 4) hx hb dL_law_498 (by decide) ?_
  refine lv_iadd hx hb dL_law_499 ?_
  refine g_sld hx hb hXs hbl hG hrd.2.2.2 dL_law_500 ?_
  refine lv_if_eq (tgt := 508) hx hb dL_law_501 (by decide) (fun on1 => ?_) (fun on1 => ?_)
  · refine lv_iconst (v := 0) hx hb dL_law_508 (by decide) ?_
    refine lv_aload_n hx hb dL_law_509 rfl (lv_at hl 3 rfl) ?_
    refine g_calli (vx_runSW (As := [.ref (ad 0), .int v1, .int v2, .int v3, .int (bi false), .ref oa]) (rest := []) ⟨hx, hb, hml, hown, hts⟩ (w_flag l G s.heap.size hl0 hI.1 hLo hKo hno hio (i := (v1)) (key := (v2)) (el := (v3)) (on := false)) (vx_cwSW 6 hts gL_law_L_flag rfl rfl rfl (by decide +kernel) ⟨(Nat.le_of_ble_eq_true rfl), (Nat.le_of_ble_eq_true rfl)⟩) (g_psy hK hX hN hG) rfl rfl hl.1 rfl (lv_room (Nat.le_of_ble_eq_true rfl)) dL_law_510 hcs) hG (fun y1 u H locs hp hG => ?_)
    obtain ⟨⟨L1, K1, n1, i1, j1, q1, f1, R1⟩, ad1, a1⟩ := u
    replace hG : gw G s.heap.size s.heap (L1, K1, n1, i1, j1, q1, f1, R1) H locs := hG
    obtain ⟨cc, rfl, hO, hP⟩ := hp
    replace hO : StpO (L, K, n, rI, rJ, rQ, fI, fR) ad α oa (L1, K1, n1, i1, j1, q1, f1, R1) ad1 a1 := hO
    obtain ⟨hM1, hLo1, hKo1, hno1⟩ := hI.w hO
    refine lv_istore (lv' := [(5, .int (nI cc)), (0, .ref b), (1, .ref (ad 0)), (2, .ref (bm 0)), (3, .ref oa), (4, .int i9)]) hx hb dL_law_513 hl (by decide) rfl (fun ls hl => ?_)
    refine lv_aload_n hx hb dL_law_515 rfl (lv_at hl 3 rfl) ?_
    refine lv_aload_n hx hb dL_law_516 rfl (lv_at hl 1 rfl) ?_
    refine lv_iload hx hb dL_law_517 (lv_at hl 5 rfl) ?_
    refine lv_iconst (v := 1) hx hb dL_law_519 (by decide) ?_
    refine lv_iadd hx hb dL_law_520 ?_
    refine g_sld hx hb hXs hbl hG hrd.1 dL_law_521 ?_
    refine lv_aload_n hx hb dL_law_522 rfl (lv_at hl 1 rfl) ?_
    refine lv_iload hx hb dL_law_523 (lv_at hl 5 rfl) ?_
    refine lv_iconst (v := 2) hx hb dL_law_525 (by decide) ?_
    refine lv_iadd hx hb dL_law_526 ?_
    refine g_sld hx hb hXs hbl hG hrd.2.1 dL_law_527 ?_
    refine lv_aload_n hx hb dL_law_528 rfl (lv_at hl 1 rfl) ?_
    refine lv_iload hx hb dL_law_529 (lv_at hl 5 rfl) ?_
    refine lv_iconst (v := 3) hx hb dL_law_531 (by decide) ?_
    refine lv_iadd hx hb dL_law_532 ?_
    refine g_sld hx hb hXs hbl hG hrd.2.2.1 dL_law_533 ?_
    refine lv_aload_n hx hb dL_law_534 rfl (lv_at hl 1 rfl) ?_
    refine lv_iload hx hb dL_law_535 (lv_at hl 5 rfl) ?_
    refine lv_iconst (v := 4) hx hb dL_law_537 (by decide) ?_
    refine lv_iadd hx hb dL_law_538 ?_
    refine g_sld hx hb hXs hbl hG hrd.2.2.2 dL_law_539 ?_
    refine lv_if_eq (tgt := 547) hx hb dL_law_540 (by decide) (fun on2 => ?_) (fun on2 => ?_)
    · refine lv_iconst (v := 0) hx hb dL_law_547 (by decide) ?_
      refine g_calli (va_runV (As := [.int v1, .int v2, .int v3, .int (bi false)]) (rest := []) ⟨hx, hb, hml, hown, hts⟩ (k_flag l G s.heap.size hM1 (v := (v1)) (key := (v2)) (el := (v3)) (on := false)) (cwV 4 hts gL_law_X3_flag rfl rfl rfl (by decide +kernel) ⟨(Nat.le_of_ble_eq_true rfl), (Nat.le_of_ble_eq_true rfl)⟩) (g_pv3 hK hG hM1.1.2.1 hM1.1.2.2.1) rfl rfl hl.1 rfl (lv_room (Nat.le_of_ble_eq_true rfl)) dL_law_548 hcs) hG (fun y2 u H locs hp hG => ?_)
      replace hG : gw G s.heap.size s.heap (L1, K1, n1, u.1.1, u.1.2.1, q1, u.1.2.2, R1) H locs := hG
      obtain ⟨β1, hSt, hS1, ht, hyx⟩ := ag_flag (u := u) hI.2.2.1 hI.1 hO.1 hP hp
      replace hSt : StpM (L1, K1, n1, i1, j1, q1, f1, R1) bm (L1, K1, n1, u.1.1, u.1.2.1, q1, u.1.2.2, R1) β1 := hSt
      have hI2 := hI.m hO hSt hS1
      have hM2 := hSt.1
      have hLo2 : oa ∈ L1 := hI2.1.2.2.2.1
      have hKo2 : K1 oa = 5 := hI2.1.2.2.2.2.1
      have hno2 : n1 oa = 1 := hI2.1.2.2.2.2.2
      refine lv_istore (lv' := [(6, .int y2), (5, .int (nI cc)), (0, .ref b), (1, .ref (ad 0)), (2, .ref (bm 0)), (3, .ref oa), (4, .int i9)]) hx hb dL_law_551 hl (by decide) rfl (fun ls hl => ?_)
      refine lv_aload_n hx hb dL_law_553 rfl (lv_at hl 4 rfl) ?_
      refine g_calli (va_runV (As := []) (rest := []) ⟨hx, hb, hml, hown, hts⟩ (k_thrown l G s.heap.size hM2) (cwV 0 hts gL_law_X3_thrown rfl rfl rfl (by decide +kernel) ⟨(Nat.le_of_ble_eq_true rfl), (Nat.le_of_ble_eq_true rfl)⟩) (g_pv3 hK hG hM2.1.2.1 hM2.1.2.2.1) rfl rfl hl.1 rfl (lv_room (Nat.le_of_ble_eq_true rfl)) dL_law_554 hcs) hG (fun y3 _ H locs hp hG => ?_)
      obtain rfl : y3 = nI cc := hp.trans ht
      refine lv_iload hx hb dL_law_557 (lv_at hl 1 rfl) ?_
      refine lv_icmp_eq (tgt := 564) hx hb dL_law_559 (by decide) (fun c1 => ?_) (fun c1 => ?_)
      · refine lv_iload hx hb dL_law_564 (lv_at hl 1 rfl) ?_
        refine lv_if_ne (tgt := 581) hx hb dL_law_566 (by decide) (fun c2 => ?_) (fun c2 => ?_)
        · refine lv_goto (tgt := 1911) hx hb dL_law_581 (by decide) ?_
          exact kk (L1, K1, n1, u.1.1, u.1.2.1, q1, u.1.2.2, R1) ad1 a1 β1 _ _ _ hI2.1 hG (by rw [hO.2.2.2]; exact lv_sub hl [2, 3, 4, 5, 6] rfl)
        · refine lv_aload_n hx hb dL_law_569 rfl (lv_at hl 5 rfl) ?_
          refine lv_iconst (v := 0) hx hb dL_law_570 (by decide) ?_
          refine g_lald hx hb hK hG hLo2 hKo2 (0) rfl (by rw [hno2]; decide) (by rw [hno2]; decide) dL_law_571 ?_
          refine lv_iload hx hb dL_law_572 (lv_at hl 0 rfl) ?_
          refine lv_i2l hx hb dL_law_574 rfl ?_
          refine W.lcmp hx hb dL_law_575 ?_
          refine lv_if_eq (tgt := 581) hx hb dL_law_576 (by decide) (fun c3 => ?_) (fun c3 => ?_)
          · refine lv_goto (tgt := 1911) hx hb dL_law_581 (by decide) ?_
            exact kk (L1, K1, n1, u.1.1, u.1.2.1, q1, u.1.2.2, R1) ad1 a1 β1 _ _ _ hI2.1 hG (by rw [hO.2.2.2]; exact lv_sub hl [2, 3, 4, 5, 6] rfl)
          · exact absurd ((lg_cmp_eq _ _).mpr ((congrFun hI2.2 0).trans (hyx (by first | exact c2 | exact Classical.not_not.mp c2)))) c3
      · exact absurd rfl c1
    · exact absurd on1 on2
  · refine lv_iconst (v := 1) hx hb dL_law_504 (by decide) ?_
    refine lv_goto (tgt := 509) hx hb dL_law_505 (by decide) ?_
    refine lv_aload_n hx hb dL_law_509 rfl (lv_at hl 3 rfl) ?_
    refine g_calli (vx_runSW (As := [.ref (ad 0), .int v1, .int v2, .int v3, .int (bi true), .ref oa]) (rest := []) ⟨hx, hb, hml, hown, hts⟩ (w_flag l G s.heap.size hl0 hI.1 hLo hKo hno hio (i := (v1)) (key := (v2)) (el := (v3)) (on := true)) (vx_cwSW 6 hts gL_law_L_flag rfl rfl rfl (by decide +kernel) ⟨(Nat.le_of_ble_eq_true rfl), (Nat.le_of_ble_eq_true rfl)⟩) (g_psy hK hX hN hG) rfl rfl hl.1 rfl (lv_room (Nat.le_of_ble_eq_true rfl)) dL_law_510 hcs) hG (fun y1 u H locs hp hG => ?_)
    obtain ⟨⟨L1, K1, n1, i1, j1, q1, f1, R1⟩, ad1, a1⟩ := u
    replace hG : gw G s.heap.size s.heap (L1, K1, n1, i1, j1, q1, f1, R1) H locs := hG
    obtain ⟨cc, rfl, hO, hP⟩ := hp
    replace hO : StpO (L, K, n, rI, rJ, rQ, fI, fR) ad α oa (L1, K1, n1, i1, j1, q1, f1, R1) ad1 a1 := hO
    obtain ⟨hM1, hLo1, hKo1, hno1⟩ := hI.w hO
    refine lv_istore (lv' := [(5, .int (nI cc)), (0, .ref b), (1, .ref (ad 0)), (2, .ref (bm 0)), (3, .ref oa), (4, .int i9)]) hx hb dL_law_513 hl (by decide) rfl (fun ls hl => ?_)
    refine lv_aload_n hx hb dL_law_515 rfl (lv_at hl 3 rfl) ?_
    refine lv_aload_n hx hb dL_law_516 rfl (lv_at hl 1 rfl) ?_
    refine lv_iload hx hb dL_law_517 (lv_at hl 5 rfl) ?_
    refine lv_iconst (v := 1) hx hb dL_law_519 (by decide) ?_
    refine lv_iadd hx hb dL_law_520 ?_
    refine g_sld hx hb hXs hbl hG hrd.1 dL_law_521 ?_
    refine lv_aload_n hx hb dL_law_522 rfl (lv_at hl 1 rfl) ?_
    refine lv_iload hx hb dL_law_523 (lv_at hl 5 rfl) ?_
    refine lv_iconst (v := 2) hx hb dL_law_525 (by decide) ?_
    refine lv_iadd hx hb dL_law_526 ?_
    refine g_sld hx hb hXs hbl hG hrd.2.1 dL_law_527 ?_
    refine lv_aload_n hx hb dL_law_528 rfl (lv_at hl 1 rfl) ?_
    refine lv_iload hx hb dL_law_529 (lv_at hl 5 rfl) ?_
    refine lv_iconst (v := 3) hx hb dL_law_531 (by decide) ?_
    refine lv_iadd hx hb dL_law_532 ?_
    refine g_sld hx hb hXs hbl hG hrd.2.2.1 dL_law_533 ?_
    refine lv_aload_n hx hb dL_law_534 rfl (lv_at hl 1 rfl) ?_
    refine lv_iload hx hb dL_law_535 (lv_at hl 5 rfl) ?_
    refine lv_iconst (v := 4) hx hb dL_law_537 (by decide) ?_
    refine lv_iadd hx hb dL_law_538 ?_
    refine g_sld hx hb hXs hbl hG hrd.2.2.2 dL_law_539 ?_
    refine lv_if_eq (tgt := 547) hx hb dL_law_540 (by decide) (fun on2 => ?_) (fun on2 => ?_)
    · exact absurd on2 on1
    · refine lv_iconst (v := 1) hx hb dL_law_543 (by decide) ?_
      refine lv_goto (tgt := 548) hx hb dL_law_544 (by decide) ?_
      refine g_calli (va_runV (As := [.int v1, .int v2, .int v3, .int (bi true)]) (rest := []) ⟨hx, hb, hml, hown, hts⟩ (k_flag l G s.heap.size hM1 (v := (v1)) (key := (v2)) (el := (v3)) (on := true)) (cwV 4 hts gL_law_X3_flag rfl rfl rfl (by decide +kernel) ⟨(Nat.le_of_ble_eq_true rfl), (Nat.le_of_ble_eq_true rfl)⟩) (g_pv3 hK hG hM1.1.2.1 hM1.1.2.2.1) rfl rfl hl.1 rfl (lv_room (Nat.le_of_ble_eq_true rfl)) dL_law_548 hcs) hG (fun y2 u H locs hp hG => ?_)
      replace hG : gw G s.heap.size s.heap (L1, K1, n1, u.1.1, u.1.2.1, q1, u.1.2.2, R1) H locs := hG
      obtain ⟨β1, hSt, hS1, ht, hyx⟩ := ag_flag (u := u) hI.2.2.1 hI.1 hO.1 hP hp
      replace hSt : StpM (L1, K1, n1, i1, j1, q1, f1, R1) bm (L1, K1, n1, u.1.1, u.1.2.1, q1, u.1.2.2, R1) β1 := hSt
      have hI2 := hI.m hO hSt hS1
      have hM2 := hSt.1
      have hLo2 : oa ∈ L1 := hI2.1.2.2.2.1
      have hKo2 : K1 oa = 5 := hI2.1.2.2.2.2.1
      have hno2 : n1 oa = 1 := hI2.1.2.2.2.2.2
      refine lv_istore (lv' := [(6, .int y2), (5, .int (nI cc)), (0, .ref b), (1, .ref (ad 0)), (2, .ref (bm 0)), (3, .ref oa), (4, .int i9)]) hx hb dL_law_551 hl (by decide) rfl (fun ls hl => ?_)
      refine lv_aload_n hx hb dL_law_553 rfl (lv_at hl 4 rfl) ?_
      refine g_calli (va_runV (As := []) (rest := []) ⟨hx, hb, hml, hown, hts⟩ (k_thrown l G s.heap.size hM2) (cwV 0 hts gL_law_X3_thrown rfl rfl rfl (by decide +kernel) ⟨(Nat.le_of_ble_eq_true rfl), (Nat.le_of_ble_eq_true rfl)⟩) (g_pv3 hK hG hM2.1.2.1 hM2.1.2.2.1) rfl rfl hl.1 rfl (lv_room (Nat.le_of_ble_eq_true rfl)) dL_law_554 hcs) hG (fun y3 _ H locs hp hG => ?_)
      obtain rfl : y3 = nI cc := hp.trans ht
      refine lv_iload hx hb dL_law_557 (lv_at hl 1 rfl) ?_
      refine lv_icmp_eq (tgt := 564) hx hb dL_law_559 (by decide) (fun c1 => ?_) (fun c1 => ?_)
      · refine lv_iload hx hb dL_law_564 (lv_at hl 1 rfl) ?_
        refine lv_if_ne (tgt := 581) hx hb dL_law_566 (by decide) (fun c2 => ?_) (fun c2 => ?_)
        · refine lv_goto (tgt := 1911) hx hb dL_law_581 (by decide) ?_
          exact kk (L1, K1, n1, u.1.1, u.1.2.1, q1, u.1.2.2, R1) ad1 a1 β1 _ _ _ hI2.1 hG (by rw [hO.2.2.2]; exact lv_sub hl [2, 3, 4, 5, 6] rfl)
        · refine lv_aload_n hx hb dL_law_569 rfl (lv_at hl 5 rfl) ?_
          refine lv_iconst (v := 0) hx hb dL_law_570 (by decide) ?_
          refine g_lald hx hb hK hG hLo2 hKo2 (0) rfl (by rw [hno2]; decide) (by rw [hno2]; decide) dL_law_571 ?_
          refine lv_iload hx hb dL_law_572 (lv_at hl 0 rfl) ?_
          refine lv_i2l hx hb dL_law_574 rfl ?_
          refine W.lcmp hx hb dL_law_575 ?_
          refine lv_if_eq (tgt := 581) hx hb dL_law_576 (by decide) (fun c3 => ?_) (fun c3 => ?_)
          · refine lv_goto (tgt := 1911) hx hb dL_law_581 (by decide) ?_
            exact kk (L1, K1, n1, u.1.1, u.1.2.1, q1, u.1.2.2, R1) ad1 a1 β1 _ _ _ hI2.1 hG (by rw [hO.2.2.2]; exact lv_sub hl [2, 3, 4, 5, 6] rfl)
          · exact absurd ((lg_cmp_eq _ _).mpr ((congrFun hI2.2 0).trans (hyx (by first | exact c2 | exact Classical.not_not.mp c2)))) c3
      · exact absurd rfl c1
