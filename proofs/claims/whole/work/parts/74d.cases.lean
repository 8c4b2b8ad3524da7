set_option maxHeartbeats 4000000 in
set_option maxRecDepth 100000 in
/-- the law's case has -/
theorem law_has {p : Program} {l : Launch} {e : Env} {s : State} {m : MethodId} {below : List Frame} {meth : Method} {c : Code} {b Ls : Nat} {xs : Nat → Int32} {Q : State → Prop} (hl0 : l.stackTraces = false) (C0 : lw_At p s m meth c b Ls xs) {G : gG} (hK : g_K G s) (hX : g_X s.heap.size s) (hN : g_N s) {i9 v1 v2 v3 v4 : Int32} (hrd : rdS Ls xs i9 v1 v2 v3 v4) {cells slots : Nat} (hcs : cells + 12 ≤ room_1.cells ∧ slots + 100 ≤ room_1.slots) {L : List Nat} {K n : Nat → Nat} {rI : Nat → Nat → Int32} {rJ : Nat → Nat → Int64} {rQ : Nat → Nat → Option Nat} {fI : Nat → Nat → Int32} {fR : Nat → Nat → Option Nat} {ad : Nat → Nat} {α : aT} {bm : Nat → Nat} {β : bT} {oa : Nat} (hI : LI (L, K, n, rI, rJ, rQ, fI, fR) ad α bm β oa) {H : Heap} {locs : List Loc} (hG : gw G s.heap.size s.heap (L, K, n, rI, rJ, rQ, fI, fR) H locs) {ls : Array Slot} (hl : lv_has ls 8 [(0, .ref b), (1, .ref (ad 0)), (2, .ref (bm 0)), (3, .ref oa), (4, .int i9)]) (kk : lwK p l e s m below meth c b G bm oa i9 cells slots Q) : W p l e room_1 s m #[Value.ref b] below meth c H locs cells slots Q (F0 m 1129 ls []) := by
  obtain ⟨hx, hb, hr, hml, hown, hts, hXs, hbl, hlocks, hgv⟩ := C0
  have hown : s.vm.findClass RL = some m.cls := hown
  have hts : ∀ w ∈ wsL_law, w.before #[Value.ref b] s = true := fun w h => hts w (wsL_law_in w h)
  have hLo := hI.2.2.2.1
  have hKo := hI.2.2.2.2.1
  have hno := hI.2.2.2.2.2
  have hio := dj_o hI.1 hKo hno
  refine lv_aload_n hx hb dL_law_1129 rfl (lv_at hl 1 rfl) ?_
  refine lv_aload_n hx hb dL_law_1130 rfl (lv_at hl 0 rfl) ?_
  refine lv_iload hx hb dL_law_1131 (lv_at hl 4 rfl) ?_
  refine lv_iconst (v := 1) hx hb dL_law_1133 (by decide) ?_
  refine lv_iadd hx hb dL_law_1134 ?_
  refine g_sld hx hb hXs hbl hG hrd.1 dL_law_1135 ?_
  refine lv_aload_n hx hb dL_law_1136 rfl (lv_at hl 0 rfl) ?_
  refine lv_iload hx hb dL_law_1137 (lv_at hl 4 rfl) ?_
  refine lv_iconst (v := 2) hx hb dL_law_1139 (by decide) ?_
  refine lv_iadd hx hb dL_law_1140 ?_
  refine g_sld hx hb hXs hbl hG hrd.2.1 dL_law_1141 ?_
  refine lv_aload_n hx hb dL_law_1142 rfl (lv_at hl 0 rfl) ?_
  refine lv_iload hx hb dL_law_1143 (lv_at hl 4 rfl) ?_
  refine lv_iconst (v := 3) hx hb dL_law_1145 (by decide) ?_
  refine lv_iadd hx hb dL_law_1146 ?_
  refine g_sld hx hb hXs hbl hG hrd.2.2.1 dL_law_1147 ?_
  refine lv_aload_n hx hb dL_law_1148 rfl (lv_at hl 3 rfl) ?_
  refine g_calli (vx_runSW (As := [.ref (ad 0), .int v1, .int v2, .int v3, .ref oa]) (rest := []) ⟨hx, hb, hml, hown, hts⟩ (w_has l G s.heap.size hl0 hI.1 hLo hKo hno hio (i := (v1)) (key := (v2)) (part := (v3))) (vx_cwSW 5 hts gL_law_L_has rfl rfl rfl (by decide +kernel) ⟨(Nat.le_of_ble_eq_true rfl), (Nat.le_of_ble_eq_true rfl)⟩) (g_psy hK hX hN hG) rfl rfl hl.1 rfl (lv_room (Nat.le_of_ble_eq_true rfl)) dL_law_1149 hcs) hG (fun y1 u H locs hp hG => ?_)
  obtain ⟨⟨L1, K1, n1, i1, j1, q1, f1, R1⟩, ad1, a1⟩ := u
  replace hG : gw G s.heap.size s.heap (L1, K1, n1, i1, j1, q1, f1, R1) H locs := hG
  obtain ⟨cc, rfl, hO, hP⟩ := hp
  replace hO : StpO (L, K, n, rI, rJ, rQ, fI, fR) ad α oa (L1, K1, n1, i1, j1, q1, f1, R1) ad1 a1 := hO
  obtain ⟨hM1, hLo1, hKo1, hno1⟩ := hI.w hO
  refine lv_istore (lv' := [(5, .int (nI cc)), (0, .ref b), (1, .ref (ad 0)), (2, .ref (bm 0)), (3, .ref oa), (4, .int i9)]) hx hb dL_law_1152 hl (by decide) rfl (fun ls hl => ?_)
  refine lv_aload_n hx hb dL_law_1154 rfl (lv_at hl 3 rfl) ?_
  refine lv_aload_n hx hb dL_law_1155 rfl (lv_at hl 1 rfl) ?_
  refine lv_iload hx hb dL_law_1156 (lv_at hl 5 rfl) ?_
  refine lv_iconst (v := 1) hx hb dL_law_1158 (by decide) ?_
  refine lv_iadd hx hb dL_law_1159 ?_
  refine g_sld hx hb hXs hbl hG hrd.1 dL_law_1160 ?_
  refine lv_aload_n hx hb dL_law_1161 rfl (lv_at hl 1 rfl) ?_
  refine lv_iload hx hb dL_law_1162 (lv_at hl 5 rfl) ?_
  refine lv_iconst (v := 2) hx hb dL_law_1164 (by decide) ?_
  refine lv_iadd hx hb dL_law_1165 ?_
  refine g_sld hx hb hXs hbl hG hrd.2.1 dL_law_1166 ?_
  refine lv_aload_n hx hb dL_law_1167 rfl (lv_at hl 1 rfl) ?_
  refine lv_iload hx hb dL_law_1168 (lv_at hl 5 rfl) ?_
  refine lv_iconst (v := 3) hx hb dL_law_1170 (by decide) ?_
  refine lv_iadd hx hb dL_law_1171 ?_
  refine g_sld hx hb hXs hbl hG hrd.2.2.1 dL_law_1172 ?_
  refine g_calli (va_runV (As := [.int v1, .int v2, .int v3]) (rest := []) ⟨hx, hb, hml, hown, hts⟩ (k_has l G s.heap.size hM1 (v := (v1)) (key := (v2)) (part := (v3))) (cwV 3 hts gL_law_X3_has rfl rfl rfl (by decide +kernel) ⟨(Nat.le_of_ble_eq_true rfl), (Nat.le_of_ble_eq_true rfl)⟩) (g_pv3 hK hG hM1.1.2.1 hM1.1.2.2.1) rfl rfl hl.1 rfl (lv_room (Nat.le_of_ble_eq_true rfl)) dL_law_1173 hcs) hG (fun y2 u H locs hp hG => ?_)
  replace hG : gw G s.heap.size s.heap (L1, K1, n1, i1, j1, q1, u.1, R1) H locs := hG
  obtain ⟨β1, hSt, hS1, ht, hyx⟩ := ag_has (u := u) hI.2.2.1 hI.1 hO.1 hP hp
  replace hSt : StpM (L1, K1, n1, i1, j1, q1, f1, R1) bm (L1, K1, n1, i1, j1, q1, u.1, R1) β1 := hSt
  have hI2 := hI.m hO hSt hS1
  have hM2 := hSt.1
  have hLo2 : oa ∈ L1 := hI2.1.2.2.2.1
  have hKo2 : K1 oa = 5 := hI2.1.2.2.2.2.1
  have hno2 : n1 oa = 1 := hI2.1.2.2.2.2.2
  refine lv_istore (lv' := [(6, .int y2), (5, .int (nI cc)), (0, .ref b), (1, .ref (ad 0)), (2, .ref (bm 0)), (3, .ref oa), (4, .int i9)]) hx hb dL_law_1176 hl (by decide) rfl (fun ls hl => ?_)
  refine lv_aload_n hx hb dL_law_1178 rfl (lv_at hl 4 rfl) ?_
  refine g_calli (va_runV (As := []) (rest := []) ⟨hx, hb, hml, hown, hts⟩ (k_thrown l G s.heap.size hM2) (cwV 0 hts gL_law_X3_thrown rfl rfl rfl (by decide +kernel) ⟨(Nat.le_of_ble_eq_true rfl), (Nat.le_of_ble_eq_true rfl)⟩) (g_pv3 hK hG hM2.1.2.1 hM2.1.2.2.1) rfl rfl hl.1 rfl (lv_room (Nat.le_of_ble_eq_true rfl)) dL_law_1179 hcs) hG (fun y3 _ H locs hp hG => ?_)
  obtain rfl : y3 = nI cc := hp.trans ht
  refine lv_iload hx hb dL_law_1182 (lv_at hl 1 rfl) ?_
  refine lv_icmp_eq (tgt := 1189) hx hb dL_law_1184 (by decide) (fun c1 => ?_) (fun c1 => ?_)
  · refine lv_iload hx hb dL_law_1189 (lv_at hl 1 rfl) ?_
    refine lv_if_ne (tgt := 1206) hx hb dL_law_1191 (by decide) (fun c2 => ?_) (fun c2 => ?_)
    · refine lv_goto (tgt := 1911) hx hb dL_law_1206 (by decide) ?_
      exact kk (L1, K1, n1, i1, j1, q1, u.1, R1) ad1 a1 β1 _ _ _ hI2.1 hG (by rw [hO.2.2.2]; exact lv_sub hl [2, 3, 4, 5, 6] rfl)
    · refine lv_aload_n hx hb dL_law_1194 rfl (lv_at hl 5 rfl) ?_
      refine lv_iconst (v := 0) hx hb dL_law_1195 (by decide) ?_
      refine g_lald hx hb hK hG hLo2 hKo2 (0) rfl (by rw [hno2]; decide) (by rw [hno2]; decide) dL_law_1196 ?_
      refine lv_iload hx hb dL_law_1197 (lv_at hl 0 rfl) ?_
      refine lv_i2l hx hb dL_law_1199 rfl ?_
      refine W.lcmp hx hb dL_law_1200 ?_
      refine lv_if_eq (tgt := 1206) hx hb dL_law_1201 (by decide) (fun c3 => ?_) (fun c3 => ?_)
      · refine lv_goto (tgt := 1911) hx hb dL_law_1206 (by decide) ?_
        exact kk (L1, K1, n1, i1, j1, q1, u.1, R1) ad1 a1 β1 _ _ _ hI2.1 hG (by rw [hO.2.2.2]; exact lv_sub hl [2, 3, 4, 5, 6] rfl)
      · exact absurd ((lg_cmp_eq _ _).mpr ((congrFun hI2.2 0).trans (hyx (by first | exact c2 | exact Classical.not_not.mp c2)))) c3
  · exact absurd rfl c1
set_option maxHeartbeats 4000000 in
set_option maxRecDepth 100000 in
/-- the law's case values -/
theorem law_values {p : Program} {l : Launch} {e : Env} {s : State} {m : MethodId} {below : List Frame} {meth : Method} {c : Code} {b Ls : Nat} {xs : Nat → Int32} {Q : State → Prop} (hl0 : l.stackTraces = false) (C0 : lw_At p s m meth c b Ls xs) {G : gG} (hK : g_K G s) (hX : g_X s.heap.size s) (hN : g_N s) {i9 v1 v2 v3 v4 : Int32} (hrd : rdS Ls xs i9 v1 v2 v3 v4) {cells slots : Nat} (hcs : cells + 12 ≤ room_1.cells ∧ slots + 100 ≤ room_1.slots) {L : List Nat} {K n : Nat → Nat} {rI : Nat → Nat → Int32} {rJ : Nat → Nat → Int64} {rQ : Nat → Nat → Option Nat} {fI : Nat → Nat → Int32} {fR : Nat → Nat → Option Nat} {ad : Nat → Nat} {α : aT} {bm : Nat → Nat} {β : bT} {oa : Nat} (hI : LI (L, K, n, rI, rJ, rQ, fI, fR) ad α bm β oa) {H : Heap} {locs : List Loc} (hG : gw G s.heap.size s.heap (L, K, n, rI, rJ, rQ, fI, fR) H locs) {ls : Array Slot} (hl : lv_has ls 8 [(0, .ref b), (1, .ref (ad 0)), (2, .ref (bm 0)), (3, .ref oa), (4, .int i9)]) (kk : lwK p l e s m below meth c b G bm oa i9 cells slots Q) : W p l e room_1 s m #[Value.ref b] below meth c H locs cells slots Q (F0 m 1209 ls []) := by
  obtain ⟨hx, hb, hr, hml, hown, hts, hXs, hbl, hlocks, hgv⟩ := C0
  have hown : s.vm.findClass RL = some m.cls := hown
  have hts : ∀ w ∈ wsL_law, w.before #[Value.ref b] s = true := fun w h => hts w (wsL_law_in w h)
  have hLo := hI.2.2.2.1
  have hKo := hI.2.2.2.2.1
  have hno := hI.2.2.2.2.2
  have hio := dj_o hI.1 hKo hno
  refine lv_aload_n hx hb dL_law_1209 rfl (lv_at hl 1 rfl) ?_
  refine lv_aload_n hx hb dL_law_1210 rfl (lv_at hl 0 rfl) ?_
  refine lv_iload hx hb dL_law_1211 (lv_at hl 4 rfl) ?_
  refine lv_iconst (v := 1) hx hb dL_law_1213 (by decide) ?_
  refine lv_iadd hx hb dL_law_1214 ?_
  refine g_sld hx hb hXs hbl hG hrd.1 dL_law_1215 ?_
  refine lv_aload_n hx hb dL_law_1216 rfl (lv_at hl 0 rfl) ?_
  refine lv_iload hx hb dL_law_1217 (lv_at hl 4 rfl) ?_
  refine lv_iconst (v := 2) hx hb dL_law_1219 (by decide) ?_
  refine lv_iadd hx hb dL_law_1220 ?_
  refine g_sld hx hb hXs hbl hG hrd.2.1 dL_law_1221 ?_
  refine lv_aload_n hx hb dL_law_1222 rfl (lv_at hl 3 rfl) ?_
  refine g_calli (vx_runSW (As := [.ref (ad 0), .int v1, .int v2, .ref oa]) (rest := []) ⟨hx, hb, hml, hown, hts⟩ (w_values l G s.heap.size hl0 hI.1 hLo hKo hno hio (i := (v1)) (key := (v2))) (vx_cwSW 4 hts gL_law_L_values rfl rfl rfl (by decide +kernel) ⟨(Nat.le_of_ble_eq_true rfl), (Nat.le_of_ble_eq_true rfl)⟩) (g_psy hK hX hN hG) rfl rfl hl.1 rfl (lv_room (Nat.le_of_ble_eq_true rfl)) dL_law_1223 hcs) hG (fun y1 u H locs hp hG => ?_)
  obtain ⟨⟨L1, K1, n1, i1, j1, q1, f1, R1⟩, ad1, a1⟩ := u
  replace hG : gw G s.heap.size s.heap (L1, K1, n1, i1, j1, q1, f1, R1) H locs := hG
  obtain ⟨cc, rfl, hO, hP⟩ := hp
  replace hO : StpO (L, K, n, rI, rJ, rQ, fI, fR) ad α oa (L1, K1, n1, i1, j1, q1, f1, R1) ad1 a1 := hO
  obtain ⟨hM1, hLo1, hKo1, hno1⟩ := hI.w hO
  refine lv_istore (lv' := [(5, .int (nI cc)), (0, .ref b), (1, .ref (ad 0)), (2, .ref (bm 0)), (3, .ref oa), (4, .int i9)]) hx hb dL_law_1226 hl (by decide) rfl (fun ls hl => ?_)
  refine lv_aload_n hx hb dL_law_1228 rfl (lv_at hl 3 rfl) ?_
  refine lv_aload_n hx hb dL_law_1229 rfl (lv_at hl 1 rfl) ?_
  refine lv_iload hx hb dL_law_1230 (lv_at hl 5 rfl) ?_
  refine lv_iconst (v := 1) hx hb dL_law_1232 (by decide) ?_
  refine lv_iadd hx hb dL_law_1233 ?_
  refine g_sld hx hb hXs hbl hG hrd.1 dL_law_1234 ?_
  refine lv_aload_n hx hb dL_law_1235 rfl (lv_at hl 1 rfl) ?_
  refine lv_iload hx hb dL_law_1236 (lv_at hl 5 rfl) ?_
  refine lv_iconst (v := 2) hx hb dL_law_1238 (by decide) ?_
  refine lv_iadd hx hb dL_law_1239 ?_
  refine g_sld hx hb hXs hbl hG hrd.2.1 dL_law_1240 ?_
  refine g_calli (va_runV (As := [.int v1, .int v2]) (rest := []) ⟨hx, hb, hml, hown, hts⟩ (k_values l G s.heap.size hM1 (v := (v1)) (key := (v2))) (cwV 2 hts gL_law_X3_values rfl rfl rfl (by decide +kernel) ⟨(Nat.le_of_ble_eq_true rfl), (Nat.le_of_ble_eq_true rfl)⟩) (g_pv3 hK hG hM1.1.2.1 hM1.1.2.2.1) rfl rfl hl.1 rfl (lv_room (Nat.le_of_ble_eq_true rfl)) dL_law_1241 hcs) hG (fun y2 u H locs hp hG => ?_)
  replace hG : gw G s.heap.size s.heap (L1, K1, n1, i1, u.1.2.1, q1, u.1.2.2, R1) H locs := hG
  obtain ⟨β1, hSt, hS1, ht, hyx⟩ := ag_values (u := u) hI.2.2.1 hI.1 hO.1 hP hp
  replace hSt : StpM (L1, K1, n1, i1, j1, q1, f1, R1) bm (L1, K1, n1, i1, u.1.2.1, q1, u.1.2.2, R1) β1 := hSt
  have hI2 := hI.m hO hSt hS1
  have hM2 := hSt.1
  have hLo2 : oa ∈ L1 := hI2.1.2.2.2.1
  have hKo2 : K1 oa = 5 := hI2.1.2.2.2.2.1
  have hno2 : n1 oa = 1 := hI2.1.2.2.2.2.2
  refine lv_istore (lv' := [(6, .int y2), (5, .int (nI cc)), (0, .ref b), (1, .ref (ad 0)), (2, .ref (bm 0)), (3, .ref oa), (4, .int i9)]) hx hb dL_law_1244 hl (by decide) rfl (fun ls hl => ?_)
  refine lv_aload_n hx hb dL_law_1246 rfl (lv_at hl 4 rfl) ?_
  refine g_calli (va_runV (As := []) (rest := []) ⟨hx, hb, hml, hown, hts⟩ (k_thrown l G s.heap.size hM2) (cwV 0 hts gL_law_X3_thrown rfl rfl rfl (by decide +kernel) ⟨(Nat.le_of_ble_eq_true rfl), (Nat.le_of_ble_eq_true rfl)⟩) (g_pv3 hK hG hM2.1.2.1 hM2.1.2.2.1) rfl rfl hl.1 rfl (lv_room (Nat.le_of_ble_eq_true rfl)) dL_law_1247 hcs) hG (fun y3 _ H locs hp hG => ?_)
  obtain rfl : y3 = nI cc := hp.trans ht
  refine lv_iload hx hb dL_law_1250 (lv_at hl 1 rfl) ?_
  refine lv_icmp_eq (tgt := 1257) hx hb dL_law_1252 (by decide) (fun c1 => ?_) (fun c1 => ?_)
  · refine lv_iload hx hb dL_law_1257 (lv_at hl 1 rfl) ?_
    refine lv_if_ne (tgt := 1274) hx hb dL_law_1259 (by decide) (fun c2 => ?_) (fun c2 => ?_)
    · refine lv_goto (tgt := 1911) hx hb dL_law_1274 (by decide) ?_
      exact kk (L1, K1, n1, i1, u.1.2.1, q1, u.1.2.2, R1) ad1 a1 β1 _ _ _ hI2.1 hG (by rw [hO.2.2.2]; exact lv_sub hl [2, 3, 4, 5, 6] rfl)
    · refine lv_aload_n hx hb dL_law_1262 rfl (lv_at hl 5 rfl) ?_
      refine lv_iconst (v := 0) hx hb dL_law_1263 (by decide) ?_
      refine g_lald hx hb hK hG hLo2 hKo2 (0) rfl (by rw [hno2]; decide) (by rw [hno2]; decide) dL_law_1264 ?_
      refine lv_iload hx hb dL_law_1265 (lv_at hl 0 rfl) ?_
      refine lv_i2l hx hb dL_law_1267 rfl ?_
      refine W.lcmp hx hb dL_law_1268 ?_
      refine lv_if_eq (tgt := 1274) hx hb dL_law_1269 (by decide) (fun c3 => ?_) (fun c3 => ?_)
      · refine lv_goto (tgt := 1911) hx hb dL_law_1274 (by decide) ?_
        exact kk (L1, K1, n1, i1, u.1.2.1, q1, u.1.2.2, R1) ad1 a1 β1 _ _ _ hI2.1 hG (by rw [hO.2.2.2]; exact lv_sub hl [2, 3, 4, 5, 6] rfl)
      · exact absurd ((lg_cmp_eq _ _).mpr ((congrFun hI2.2 0).trans (hyx (by first | exact c2 | exact Classical.not_not.mp c2)))) c3
  · exact absurd rfl c1
set_option maxHeartbeats 4000000 in
set_option maxRecDepth 100000 in
/-- the law's case value -/
theorem law_value {p : Program} {l : Launch} {e : Env} {s : State} {m : MethodId} {below : List Frame} {meth : Method} {c : Code} {b Ls : Nat} {xs : Nat → Int32} {Q : State → Prop} (hl0 : l.stackTraces = false) (C0 : lw_At p s m meth c b Ls xs) {G : gG} (hK : g_K G s) (hX : g_X s.heap.size s) (hN : g_N s) {i9 v1 v2 v3 v4 : Int32} (hrd : rdS Ls xs i9 v1 v2 v3 v4) {cells slots : Nat} (hcs : cells + 12 ≤ room_1.cells ∧ slots + 100 ≤ room_1.slots) {L : List Nat} {K n : Nat → Nat} {rI : Nat → Nat → Int32} {rJ : Nat → Nat → Int64} {rQ : Nat → Nat → Option Nat} {fI : Nat → Nat → Int32} {fR : Nat → Nat → Option Nat} {ad : Nat → Nat} {α : aT} {bm : Nat → Nat} {β : bT} {oa : Nat} (hI : LI (L, K, n, rI, rJ, rQ, fI, fR) ad α bm β oa) {H : Heap} {locs : List Loc} (hG : gw G s.heap.size s.heap (L, K, n, rI, rJ, rQ, fI, fR) H locs) {ls : Array Slot} (hl : lv_has ls 8 [(0, .ref b), (1, .ref (ad 0)), (2, .ref (bm 0)), (3, .ref oa), (4, .int i9)]) (kk : lwK p l e s m below meth c b G bm oa i9 cells slots Q) : W p l e room_1 s m #[Value.ref b] below meth c H locs cells slots Q (F0 m 1277 ls []) := by
  obtain ⟨hx, hb, hr, hml, hown, hts, hXs, hbl, hlocks, hgv⟩ := C0
  have hown : s.vm.findClass RL = some m.cls := hown
  have hts : ∀ w ∈ wsL_law, w.before #[Value.ref b] s = true := fun w h => hts w (wsL_law_in w h)
  have hLo := hI.2.2.2.1
  have hKo := hI.2.2.2.2.1
  have hno := hI.2.2.2.2.2
  have hio := dj_o hI.1 hKo hno
  refine lv_aload_n hx hb dL_law_1277 rfl (lv_at hl 1 rfl) ?_
  refine lv_aload_n hx hb dL_law_1278 rfl (lv_at hl 0 rfl) ?_
  refine lv_iload hx hb dL_law_1279 (lv_at hl 4 rfl) ?_
  refine lv_iconst (v := 1) hx hb dL_law_1281 (by decide) ?_
  refine lv_iadd hx hb dL_law_1282 ?_
  refine g_sld hx hb hXs hbl hG hrd.1 dL_law_1283 ?_
  refine lv_aload_n hx hb dL_law_1284 rfl (lv_at hl 0 rfl) ?_
  refine lv_iload hx hb dL_law_1285 (lv_at hl 4 rfl) ?_
  refine lv_iconst (v := 2) hx hb dL_law_1287 (by decide) ?_
  refine lv_iadd hx hb dL_law_1288 ?_
  refine g_sld hx hb hXs hbl hG hrd.2.1 dL_law_1289 ?_
  refine lv_aload_n hx hb dL_law_1290 rfl (lv_at hl 0 rfl) ?_
  refine lv_iload hx hb dL_law_1291 (lv_at hl 4 rfl) ?_
  refine lv_iconst (v := 3) hx hb dL_law_1293 (by decide) ?_
  refine lv_iadd hx hb dL_law_1294 ?_
  refine g_sld hx hb hXs hbl hG hrd.2.2.1 dL_law_1295 ?_
  refine lv_aload_n hx hb dL_law_1296 rfl (lv_at hl 3 rfl) ?_
  refine g_calli (vx_runSW (As := [.ref (ad 0), .int v1, .int v2, .int v3, .ref oa]) (rest := []) ⟨hx, hb, hml, hown, hts⟩ (w_value l G s.heap.size hl0 hI.1 hLo hKo hno hio (i := (v1)) (key := (v2)) (gx := (v3))) (vx_cwSW 5 hts gL_law_L_value rfl rfl rfl (by decide +kernel) ⟨(Nat.le_of_ble_eq_true rfl), (Nat.le_of_ble_eq_true rfl)⟩) (g_psy hK hX hN hG) rfl rfl hl.1 rfl (lv_room (Nat.le_of_ble_eq_true rfl)) dL_law_1297 hcs) hG (fun y1 u H locs hp hG => ?_)
  obtain ⟨⟨L1, K1, n1, i1, j1, q1, f1, R1⟩, ad1, a1⟩ := u
  replace hG : gw G s.heap.size s.heap (L1, K1, n1, i1, j1, q1, f1, R1) H locs := hG
  obtain ⟨cc, rfl, hO, hP⟩ := hp
  replace hO : StpO (L, K, n, rI, rJ, rQ, fI, fR) ad α oa (L1, K1, n1, i1, j1, q1, f1, R1) ad1 a1 := hO
  obtain ⟨hM1, hLo1, hKo1, hno1⟩ := hI.w hO
  refine lv_istore (lv' := [(5, .int (nI cc)), (0, .ref b), (1, .ref (ad 0)), (2, .ref (bm 0)), (3, .ref oa), (4, .int i9)]) hx hb dL_law_1300 hl (by decide) rfl (fun ls hl => ?_)
  refine lv_aload_n hx hb dL_law_1302 rfl (lv_at hl 3 rfl) ?_
  refine lv_aload_n hx hb dL_law_1303 rfl (lv_at hl 1 rfl) ?_
  refine lv_iload hx hb dL_law_1304 (lv_at hl 5 rfl) ?_
  refine lv_iconst (v := 1) hx hb dL_law_1306 (by decide) ?_
  refine lv_iadd hx hb dL_law_1307 ?_
  refine g_sld hx hb hXs hbl hG hrd.1 dL_law_1308 ?_
  refine lv_aload_n hx hb dL_law_1309 rfl (lv_at hl 1 rfl) ?_
  refine lv_iload hx hb dL_law_1310 (lv_at hl 5 rfl) ?_
  refine lv_iconst (v := 2) hx hb dL_law_1312 (by decide) ?_
  refine lv_iadd hx hb dL_law_1313 ?_
  refine g_sld hx hb hXs hbl hG hrd.2.1 dL_law_1314 ?_
  refine lv_aload_n hx hb dL_law_1315 rfl (lv_at hl 1 rfl) ?_
  refine lv_iload hx hb dL_law_1316 (lv_at hl 5 rfl) ?_
  refine lv_iconst (v := 3) hx hb dL_law_1318 (by decide) ?_
  refine lv_iadd hx hb dL_law_1319 ?_
  refine g_sld hx hb hXs hbl hG hrd.2.2.1 dL_law_1320 ?_
  refine g_calll (va_runV (As := [.int v1, .int v2, .int v3]) (rest := []) ⟨hx, hb, hml, hown, hts⟩ (k_value l G s.heap.size hM1 (v := (v1)) (key := (v2)) (ix := (v3))) (cwV 3 hts gL_law_X3_value rfl rfl rfl (by decide +kernel) ⟨(Nat.le_of_ble_eq_true rfl), (Nat.le_of_ble_eq_true rfl)⟩) (g_pv3 hK hG hM1.1.2.1 hM1.1.2.2.1) rfl rfl hl.1 rfl (lv_room (Nat.le_of_ble_eq_true rfl)) dL_law_1321 hcs) hG (fun y2 u H locs hp hG => ?_)
  replace hG : gw G s.heap.size s.heap (L1, K1, n1, i1, u.1.1.2.1, q1, u.1.1.2.2, R1) H locs := hG
  obtain ⟨β1, hSt, hS1, ht, hyx⟩ := ag_value (u := u) hI.2.2.1 hI.1 hO.1 hP hp
  replace hSt : StpM (L1, K1, n1, i1, j1, q1, f1, R1) bm (L1, K1, n1, i1, u.1.1.2.1, q1, u.1.1.2.2, R1) β1 := hSt
  have hI2 := hI.m hO hSt hS1
  have hM2 := hSt.1
  have hLo2 : oa ∈ L1 := hI2.1.2.2.2.1
  have hKo2 : K1 oa = 5 := hI2.1.2.2.2.2.1
  have hno2 : n1 oa = 1 := hI2.1.2.2.2.2.2
  refine lv_lstore (lv' := [(6, .long y2), (5, .int (nI cc)), (0, .ref b), (1, .ref (ad 0)), (2, .ref (bm 0)), (3, .ref oa), (4, .int i9)]) hx hb dL_law_1324 hl (by decide) rfl (fun ls hl => ?_)
  refine lv_aload_n hx hb dL_law_1326 rfl (lv_at hl 4 rfl) ?_
  refine g_calli (va_runV (As := []) (rest := []) ⟨hx, hb, hml, hown, hts⟩ (k_thrown l G s.heap.size hM2) (cwV 0 hts gL_law_X3_thrown rfl rfl rfl (by decide +kernel) ⟨(Nat.le_of_ble_eq_true rfl), (Nat.le_of_ble_eq_true rfl)⟩) (g_pv3 hK hG hM2.1.2.1 hM2.1.2.2.1) rfl rfl hl.1 rfl (lv_room (Nat.le_of_ble_eq_true rfl)) dL_law_1327 hcs) hG (fun y3 _ H locs hp hG => ?_)
  obtain rfl : y3 = nI cc := hp.trans ht
  refine lv_iload hx hb dL_law_1330 (lv_at hl 1 rfl) ?_
  refine lv_icmp_eq (tgt := 1337) hx hb dL_law_1332 (by decide) (fun c1 => ?_) (fun c1 => ?_)
  · refine lv_iload hx hb dL_law_1337 (lv_at hl 1 rfl) ?_
    refine lv_if_ne (tgt := 1353) hx hb dL_law_1339 (by decide) (fun c2 => ?_) (fun c2 => ?_)
    · refine lv_goto (tgt := 1911) hx hb dL_law_1353 (by decide) ?_
      exact kk (L1, K1, n1, i1, u.1.1.2.1, q1, u.1.1.2.2, R1) ad1 a1 β1 _ _ _ hI2.1 hG (by rw [hO.2.2.2]; exact lv_sub hl [2, 3, 4, 5, 6] rfl)
    · refine lv_aload_n hx hb dL_law_1342 rfl (lv_at hl 5 rfl) ?_
      refine lv_iconst (v := 0) hx hb dL_law_1343 (by decide) ?_
      refine g_lald hx hb hK hG hLo2 hKo2 (0) rfl (by rw [hno2]; decide) (by rw [hno2]; decide) dL_law_1344 ?_
      refine lv_lload hx hb dL_law_1345 (lv_at hl 0 rfl) ?_
      refine W.lcmp hx hb dL_law_1347 ?_
      refine lv_if_eq (tgt := 1353) hx hb dL_law_1348 (by decide) (fun c3 => ?_) (fun c3 => ?_)
      · refine lv_goto (tgt := 1911) hx hb dL_law_1353 (by decide) ?_
        exact kk (L1, K1, n1, i1, u.1.1.2.1, q1, u.1.1.2.2, R1) ad1 a1 β1 _ _ _ hI2.1 hG (by rw [hO.2.2.2]; exact lv_sub hl [2, 3, 4, 5, 6] rfl)
      · exact absurd ((lg_cmp_eq _ _).mpr ((congrFun hI2.2 0).trans (hyx (by first | exact c2 | exact Classical.not_not.mp c2)))) c3
  · exact absurd rfl c1
set_option maxHeartbeats 4000000 in
set_option maxRecDepth 100000 in
/-- the law's case sum -/
theorem law_sum {p : Program} {l : Launch} {e : Env} {s : State} {m : MethodId} {below : List Frame} {meth : Method} {c : Code} {b Ls : Nat} {xs : Nat → Int32} {Q : State → Prop} (hl0 : l.stackTraces = false) (C0 : lw_At p s m meth c b Ls xs) {G : gG} (hK : g_K G s) (hX : g_X s.heap.size s) (hN : g_N s) {i9 v1 v2 v3 v4 : Int32} (hrd : rdS Ls xs i9 v1 v2 v3 v4) {cells slots : Nat} (hcs : cells + 12 ≤ room_1.cells ∧ slots + 100 ≤ room_1.slots) {L : List Nat} {K n : Nat → Nat} {rI : Nat → Nat → Int32} {rJ : Nat → Nat → Int64} {rQ : Nat → Nat → Option Nat} {fI : Nat → Nat → Int32} {fR : Nat → Nat → Option Nat} {ad : Nat → Nat} {α : aT} {bm : Nat → Nat} {β : bT} {oa : Nat} (hI : LI (L, K, n, rI, rJ, rQ, fI, fR) ad α bm β oa) {H : Heap} {locs : List Loc} (hG : gw G s.heap.size s.heap (L, K, n, rI, rJ, rQ, fI, fR) H locs) {ls : Array Slot} (hl : lv_has ls 8 [(0, .ref b), (1, .ref (ad 0)), (2, .ref (bm 0)), (3, .ref oa), (4, .int i9)]) (kk : lwK p l e s m below meth c b G bm oa i9 cells slots Q) : W p l e room_1 s m #[Value.ref b] below meth c H locs cells slots Q (F0 m 1356 ls []) := by
  obtain ⟨hx, hb, hr, hml, hown, hts, hXs, hbl, hlocks, hgv⟩ := C0
  have hown : s.vm.findClass RL = some m.cls := hown
  have hts : ∀ w ∈ wsL_law, w.before #[Value.ref b] s = true := fun w h => hts w (wsL_law_in w h)
  have hLo := hI.2.2.2.1
  have hKo := hI.2.2.2.2.1
  have hno := hI.2.2.2.2.2
  have hio := dj_o hI.1 hKo hno
  refine lv_aload_n hx hb dL_law_1356 rfl (lv_at hl 1 rfl) ?_
  refine lv_aload_n hx hb dL_law_1357 rfl (lv_at hl 0 rfl) ?_
  refine lv_iload hx hb dL_law_1358 (lv_at hl 4 rfl) ?_
  refine lv_iconst (v := 1) hx hb dL_law_1360 (by decide) ?_
  refine lv_iadd hx hb dL_law_1361 ?_
  refine g_sld hx hb hXs hbl hG hrd.1 dL_law_1362 ?_
  refine lv_aload_n hx hb dL_law_1363 rfl (lv_at hl 0 rfl) ?_
  refine lv_iload hx hb dL_law_1364 (lv_at hl 4 rfl) ?_
  refine lv_iconst (v := 2) hx hb dL_law_1366 (by decide) ?_
  refine lv_iadd hx hb dL_law_1367 ?_
  refine g_sld hx hb hXs hbl hG hrd.2.1 dL_law_1368 ?_
  refine lv_aload_n hx hb dL_law_1369 rfl (lv_at hl 3 rfl) ?_
  refine g_calli (vx_runSW (As := [.ref (ad 0), .int v1, .int v2, .ref oa]) (rest := []) ⟨hx, hb, hml, hown, hts⟩ (w_sum l G s.heap.size hl0 hI.1 hLo hKo hno hio (i := (v1)) (key := (v2))) (vx_cwSW 4 hts gL_law_L_sum rfl rfl rfl (by decide +kernel) ⟨(Nat.le_of_ble_eq_true rfl), (Nat.le_of_ble_eq_true rfl)⟩) (g_psy hK hX hN hG) rfl rfl hl.1 rfl (lv_room (Nat.le_of_ble_eq_true rfl)) dL_law_1370 hcs) hG (fun y1 u H locs hp hG => ?_)
  obtain ⟨⟨L1, K1, n1, i1, j1, q1, f1, R1⟩, ad1, a1⟩ := u
  replace hG : gw G s.heap.size s.heap (L1, K1, n1, i1, j1, q1, f1, R1) H locs := hG
  obtain ⟨cc, rfl, hO, hP⟩ := hp
  replace hO : StpO (L, K, n, rI, rJ, rQ, fI, fR) ad α oa (L1, K1, n1, i1, j1, q1, f1, R1) ad1 a1 := hO
  obtain ⟨hM1, hLo1, hKo1, hno1⟩ := hI.w hO
  refine lv_istore (lv' := [(5, .int (nI cc)), (0, .ref b), (1, .ref (ad 0)), (2, .ref (bm 0)), (3, .ref oa), (4, .int i9)]) hx hb dL_law_1373 hl (by decide) rfl (fun ls hl => ?_)
  refine lv_aload_n hx hb dL_law_1375 rfl (lv_at hl 3 rfl) ?_
  refine lv_aload_n hx hb dL_law_1376 rfl (lv_at hl 1 rfl) ?_
  refine lv_iload hx hb dL_law_1377 (lv_at hl 5 rfl) ?_
  refine lv_iconst (v := 1) hx hb dL_law_1379 (by decide) ?_
  refine lv_iadd hx hb dL_law_1380 ?_
  refine g_sld hx hb hXs hbl hG hrd.1 dL_law_1381 ?_
  refine lv_aload_n hx hb dL_law_1382 rfl (lv_at hl 1 rfl) ?_
  refine lv_iload hx hb dL_law_1383 (lv_at hl 5 rfl) ?_
  refine lv_iconst (v := 2) hx hb dL_law_1385 (by decide) ?_
  refine lv_iadd hx hb dL_law_1386 ?_
  refine g_sld hx hb hXs hbl hG hrd.2.1 dL_law_1387 ?_
  refine g_calll (va_runV (As := [.int v1, .int v2]) (rest := []) ⟨hx, hb, hml, hown, hts⟩ (k_sum l G s.heap.size hM1 (v := (v1)) (key := (v2))) (cwV 2 hts gL_law_X3_sum rfl rfl rfl (by decide +kernel) ⟨(Nat.le_of_ble_eq_true rfl), (Nat.le_of_ble_eq_true rfl)⟩) (g_pv3 hK hG hM1.1.2.1 hM1.1.2.2.1) rfl rfl hl.1 rfl (lv_room (Nat.le_of_ble_eq_true rfl)) dL_law_1388 hcs) hG (fun y2 u H locs hp hG => ?_)
  replace hG : gw G s.heap.size s.heap (L1, K1, n1, i1, j1, q1, u.1, R1) H locs := hG
  obtain ⟨β1, hSt, hS1, ht, hyx⟩ := ag_sum (u := u) hI.2.2.1 hI.1 hO.1 hP hp
  replace hSt : StpM (L1, K1, n1, i1, j1, q1, f1, R1) bm (L1, K1, n1, i1, j1, q1, u.1, R1) β1 := hSt
  have hI2 := hI.m hO hSt hS1
  have hM2 := hSt.1
  have hLo2 : oa ∈ L1 := hI2.1.2.2.2.1
  have hKo2 : K1 oa = 5 := hI2.1.2.2.2.2.1
  have hno2 : n1 oa = 1 := hI2.1.2.2.2.2.2
  refine lv_lstore (lv' := [(6, .long y2), (5, .int (nI cc)), (0, .ref b), (1, .ref (ad 0)), (2, .ref (bm 0)), (3, .ref oa), (4, .int i9)]) hx hb dL_law_1391 hl (by decide) rfl (fun ls hl => ?_)
  refine lv_aload_n hx hb dL_law_1393 rfl (lv_at hl 4 rfl) ?_
  refine g_calli (va_runV (As := []) (rest := []) ⟨hx, hb, hml, hown, hts⟩ (k_thrown l G s.heap.size hM2) (cwV 0 hts gL_law_X3_thrown rfl rfl rfl (by decide +kernel) ⟨(Nat.le_of_ble_eq_true rfl), (Nat.le_of_ble_eq_true rfl)⟩) (g_pv3 hK hG hM2.1.2.1 hM2.1.2.2.1) rfl rfl hl.1 rfl (lv_room (Nat.le_of_ble_eq_true rfl)) dL_law_1394 hcs) hG (fun y3 _ H locs hp hG => ?_)
  obtain rfl : y3 = nI cc := hp.trans ht
  refine lv_iload hx hb dL_law_1397 (lv_at hl 1 rfl) ?_
  refine lv_icmp_eq (tgt := 1404) hx hb dL_law_1399 (by decide) (fun c1 => ?_) (fun c1 => ?_)
  · refine lv_iload hx hb dL_law_1404 (lv_at hl 1 rfl) ?_
    refine lv_if_ne (tgt := 1420) hx hb dL_law_1406 (by decide) (fun c2 => ?_) (fun c2 => ?_)
    · refine lv_goto (tgt := 1911) hx hb dL_law_1420 (by decide) ?_
      exact kk (L1, K1, n1, i1, j1, q1, u.1, R1) ad1 a1 β1 _ _ _ hI2.1 hG (by rw [hO.2.2.2]; exact lv_sub hl [2, 3, 4, 5, 6] rfl)
    · refine lv_aload_n hx hb dL_law_1409 rfl (lv_at hl 5 rfl) ?_
      refine lv_iconst (v := 0) hx hb dL_law_1410 (by decide) ?_
      refine g_lald hx hb hK hG hLo2 hKo2 (0) rfl (by rw [hno2]; decide) (by rw [hno2]; decide) dL_law_1411 ?_
      refine lv_lload hx hb dL_law_1412 (lv_at hl 0 rfl) ?_
      refine W.lcmp hx hb dL_law_1414 ?_
      refine lv_if_eq (tgt := 1420) hx hb dL_law_1415 (by decide) (fun c3 => ?_) (fun c3 => ?_)
      · refine lv_goto (tgt := 1911) hx hb dL_law_1420 (by decide) ?_
        exact kk (L1, K1, n1, i1, j1, q1, u.1, R1) ad1 a1 β1 _ _ _ hI2.1 hG (by rw [hO.2.2.2]; exact lv_sub hl [2, 3, 4, 5, 6] rfl)
      · exact absurd ((lg_cmp_eq _ _).mpr ((congrFun hI2.2 0).trans (hyx (by first | exact c2 | exact Classical.not_not.mp c2)))) c3
  · exact absurd rfl c1
