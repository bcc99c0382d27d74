/-! THE LAW: more of its cases (mine; laid by wip/whole/gen) -/
set_option maxHeartbeats 4000000 in
set_option maxRecDepth 100000 in
theorem g_lying {p : Program} {l : Launch} {e : Env} {s : State} {m : MethodId} {below : List Frame} {meth : Method} {c : Code} {H : Heap} {locs : List Loc} {cells slots : Nat} {Q : State → Prop} {b L : Nat} {xs : Nat → Int32} {ls : Array Slot} {G : mG} (B : gB p l s m c b L xs G) {k : Nat} (hk : 5 * k + 5 ≤ L) {a1 o : Nat} {ad : Nat → Nat} (hJ : gJ G s a1 ad o H locs) (hl : lv_has ls 7 (gLv b a1 (ad 0) o (nI (5 * k)))) (hc : cells + 47 ≤ 601024) (hs : slots + 3000 ≤ 7293034)
    (kk : ∀ (H : Heap) (locs : List Loc) (ls : Array Slot), gJ G s a1 ad o H locs → lv_has ls 7 (gLv b a1 (ad 0) o (nI (5 * k))) → W p l e room_1 s m #[Value.ref b] below meth c H locs (cells + 47) (slots + 3000) Q (F0 m 1593 ls [])) : W p l e room_1 s m #[Value.ref b] below meth c H locs cells slots Q (F0 m 1221 ls []) := by
  obtain ⟨hx, hb, hml, hown, hts, hX, hbl, hK, hE, hN, hL, hst⟩ := id B
  obtain ⟨M, N, Γ, σ, ρ, f, hI, h00, hW⟩ := hJ
  obtain ⟨u1, hu1, eu1⟩ := nU_of (xs (5 * k + 1))
  subst h00
  have hA : ∀ q, s.heap.size ≤ q → gA s q := fun _ h => h
  have hB : RB σ := hI.1.1.1.b
  obtain ⟨⟨b0, b8, b24⟩, b7, b3, b12, b45, -⟩ := id hB
  refine lv_aload_n hx hb dL_law_1221 rfl (lv_at hl 1 rfl) ?_
  refine g_arg (j := 1) hx hb hX hbl hW.2.1 hL hk (by decide) (by decide) eu1 (lv_sub hl [0, 4] rfl) dL_law_1222 dL_law_1223 dL_law_1225 dL_law_1226 dL_law_1227 ?_
  refine lv_aload_n hx hb dL_law_1228 rfl (lv_at hl 3 rfl) ?_
  refine mk_w (vx_runSX (As := [.ref (Γ 0 0), .int (nI u1), .ref o]) (rest := []) (nL := 7) ⟨hx, hb, hml, hown, hts⟩ (l_lying l hst G N Γ σ ρ u1 hu1 hI.1 o f hI.2.2.2.1 M H.size hI.2.1) (vx_cwSW 3 hts gL_law_L_lying rfl rfl rfl (by decide +kernel) ⟨(Nat.le_of_ble_eq_true rfl), (Nat.le_of_ble_eq_true rfl)⟩) (wp_S hK hE hN hW hA) rfl rfl hl.1 rfl (lv_room (Nat.le_of_ble_eq_true rfl)) dL_law_1229 ⟨(show cells + 5 ≤ 601024 by omega), (show slots + 30 ≤ 7293034 by omega)⟩) hW hA (fun r1 M1 H locs hp hW => ?_)
  have hp : wEnd G N Γ o f (thI σ u1) (lyF σ u1 (σ 8 0)) ((st σ 25 0 0)) M r1 M1 := wE25 hp
  obtain ⟨hr1, hA1, hst2⟩ := hI.step hp (fun _ => st_s)
  subst hr1
  refine lv_istore (lv' := [(5, .int (nI (thI σ u1))), (0, .ref b), (1, .ref (Γ 0 0)), (2, .ref (ad 0)), (3, .ref o), (4, .int (nI (5 * k)))]) hx hb dL_law_1232 hl (by decide) rfl (fun ls hl => ?_)
  refine lv_aload_n hx hb dL_law_1234 rfl (lv_at hl 3 rfl) ?_
  refine g_arg (j := 1) hx hb hX hbl hW.2.1 hL hk (by decide) (by decide) eu1 (lv_sub hl [1, 5] rfl) dL_law_1235 dL_law_1236 dL_law_1238 dL_law_1239 dL_law_1240 ?_
  refine mk_i (va_runV (As := [.int (nI u1)]) (rest := []) (nL := 7) ⟨hx, hb, hml, hown, hts⟩ (c5_lying l G ad σ u1 hu1 hI.1.1 M1 H.size hA1) (cwV 1 hts gL_law_X5_lying rfl rfl rfl (by decide +kernel) ⟨(Nat.le_of_ble_eq_true rfl), (Nat.le_of_ble_eq_true rfl)⟩) (mp_V hK hE hW hA (mW_recv hK hW.1 (hA1.1 0 (by decide)) (by rfl))) rfl rfl hl.1 rfl (lv_room (Nat.le_of_ble_eq_true rfl)) dL_law_1241 ⟨(show cells + 5 + 0 ≤ 601024 by omega), (show slots + 30 + 0 ≤ 7293034 by omega)⟩) hW hA (fun r2 M2 H locs hp hW => ?_)
  obtain ⟨σ2, hp1, hA2, hF2⟩ := hp
  obtain ⟨h25, N2, Γ2, ρ2, f2, hI2, h002, h0⟩ := hst2 r2 σ2 M2 hp1 hA2 hF2
  exact g_tail (a1 := Γ 0 0) (i4 := nI (5 * k)) B hW hI2 h25 (by unfold thI; (repeat' split) <;> omega) h0 hl dL_law_1244 dL_law_1246 dL_law_1247 dL_law_1250 dL_law_1252 dL_law_1257 dL_law_1259 dL_law_1262 dL_law_1263 dL_law_1264 dL_law_1265 dL_law_1267 dL_law_1268 dL_law_1269 dL_law_1274 (by decide) (show cells + 5 + 0 ≤ 601024 by omega) (show slots + 30 + 0 ≤ 7293034 by omega) (fun H locs ls M N hW hI hl => W.widen (k := cells + 47) (n := slots + 3000) (by omega) (by omega) (kk H locs ls ⟨M, N, Γ2, σ2, ρ2, f2, hI, h002, hW⟩ hl))

set_option maxHeartbeats 4000000 in
set_option maxRecDepth 100000 in
theorem g_deadAt {p : Program} {l : Launch} {e : Env} {s : State} {m : MethodId} {below : List Frame} {meth : Method} {c : Code} {H : Heap} {locs : List Loc} {cells slots : Nat} {Q : State → Prop} {b L : Nat} {xs : Nat → Int32} {ls : Array Slot} {G : mG} (B : gB p l s m c b L xs G) {k : Nat} (hk : 5 * k + 5 ≤ L) {a1 o : Nat} {ad : Nat → Nat} (hJ : gJ G s a1 ad o H locs) (hl : lv_has ls 7 (gLv b a1 (ad 0) o (nI (5 * k)))) (hc : cells + 47 ≤ 601024) (hs : slots + 3000 ≤ 7293034)
    (kk : ∀ (H : Heap) (locs : List Loc) (ls : Array Slot), gJ G s a1 ad o H locs → lv_has ls 7 (gLv b a1 (ad 0) o (nI (5 * k))) → W p l e room_1 s m #[Value.ref b] below meth c H locs (cells + 47) (slots + 3000) Q (F0 m 1593 ls [])) : W p l e room_1 s m #[Value.ref b] below meth c H locs cells slots Q (F0 m 1277 ls []) := by
  obtain ⟨hx, hb, hml, hown, hts, hX, hbl, hK, hE, hN, hL, hst⟩ := id B
  obtain ⟨M, N, Γ, σ, ρ, f, hI, h00, hW⟩ := hJ
  obtain ⟨u1, hu1, eu1⟩ := nU_of (xs (5 * k + 1))
  subst h00
  have hA : ∀ q, s.heap.size ≤ q → gA s q := fun _ h => h
  have hB : RB σ := hI.1.1.1.b
  obtain ⟨⟨b0, b8, b24⟩, b7, b3, b12, b45, -⟩ := id hB
  refine lv_aload_n hx hb dL_law_1277 rfl (lv_at hl 1 rfl) ?_
  refine g_arg (j := 1) hx hb hX hbl hW.2.1 hL hk (by decide) (by decide) eu1 (lv_sub hl [0, 4] rfl) dL_law_1278 dL_law_1279 dL_law_1281 dL_law_1282 dL_law_1283 ?_
  refine lv_aload_n hx hb dL_law_1284 rfl (lv_at hl 3 rfl) ?_
  refine mk_w (vx_runSX (As := [.ref (Γ 0 0), .int (nI u1), .ref o]) (rest := []) (nL := 7) ⟨hx, hb, hml, hown, hts⟩ (l_deadAt l hst G N Γ σ ρ u1 hu1 hI.1 o f hI.2.2.2.1 M H.size hI.2.1) (vx_cwSW 3 hts gL_law_L_deadAt rfl rfl rfl (by decide +kernel) ⟨(Nat.le_of_ble_eq_true rfl), (Nat.le_of_ble_eq_true rfl)⟩) (wp_S hK hE hN hW hA) rfl rfl hl.1 rfl (lv_room (Nat.le_of_ble_eq_true rfl)) dL_law_1285 ⟨(show cells + 5 ≤ 601024 by omega), (show slots + 30 ≤ 7293034 by omega)⟩) hW hA (fun r1 M1 H locs hp hW => ?_)
  have hp : wEnd G N Γ o f (thO σ u1) (σ 19 u1) ((st σ 25 0 0)) M r1 M1 := wE25 hp
  obtain ⟨hr1, hA1, hst2⟩ := hI.step hp (fun _ => st_s)
  subst hr1
  refine lv_istore (lv' := [(5, .int (nI (thO σ u1))), (0, .ref b), (1, .ref (Γ 0 0)), (2, .ref (ad 0)), (3, .ref o), (4, .int (nI (5 * k)))]) hx hb dL_law_1288 hl (by decide) rfl (fun ls hl => ?_)
  refine lv_aload_n hx hb dL_law_1290 rfl (lv_at hl 3 rfl) ?_
  refine g_arg (j := 1) hx hb hX hbl hW.2.1 hL hk (by decide) (by decide) eu1 (lv_sub hl [1, 5] rfl) dL_law_1291 dL_law_1292 dL_law_1294 dL_law_1295 dL_law_1296 ?_
  refine mk_i (va_runV (As := [.int (nI u1)]) (rest := []) (nL := 7) ⟨hx, hb, hml, hown, hts⟩ (c5_deadAt l G ad σ u1 hu1 hI.1.1 M1 H.size hA1) (cwV 1 hts gL_law_X5_deadAt rfl rfl rfl (by decide +kernel) ⟨(Nat.le_of_ble_eq_true rfl), (Nat.le_of_ble_eq_true rfl)⟩) (mp_V hK hE hW hA (mW_recv hK hW.1 (hA1.1 0 (by decide)) (by rfl))) rfl rfl hl.1 rfl (lv_room (Nat.le_of_ble_eq_true rfl)) dL_law_1297 ⟨(show cells + 5 + 0 ≤ 601024 by omega), (show slots + 30 + 0 ≤ 7293034 by omega)⟩) hW hA (fun r2 M2 H locs hp hW => ?_)
  obtain ⟨σ2, hp1, hA2, hF2⟩ := hp
  obtain ⟨h25, N2, Γ2, ρ2, f2, hI2, h002, h0⟩ := hst2 r2 σ2 M2 hp1 hA2 hF2
  exact g_tail (a1 := Γ 0 0) (i4 := nI (5 * k)) B hW hI2 h25 (by unfold thO; (repeat' split) <;> omega) h0 hl dL_law_1300 dL_law_1302 dL_law_1303 dL_law_1306 dL_law_1308 dL_law_1313 dL_law_1315 dL_law_1318 dL_law_1319 dL_law_1320 dL_law_1321 dL_law_1323 dL_law_1324 dL_law_1325 dL_law_1330 (by decide) (show cells + 5 + 0 ≤ 601024 by omega) (show slots + 30 + 0 ≤ 7293034 by omega) (fun H locs ls M N hW hI hl => W.widen (k := cells + 47) (n := slots + 3000) (by omega) (by omega) (kk H locs ls ⟨M, N, Γ2, σ2, ρ2, f2, hI, h002, hW⟩ hl))

set_option maxHeartbeats 4000000 in
set_option maxRecDepth 100000 in
theorem g_deliveredAs {p : Program} {l : Launch} {e : Env} {s : State} {m : MethodId} {below : List Frame} {meth : Method} {c : Code} {H : Heap} {locs : List Loc} {cells slots : Nat} {Q : State → Prop} {b L : Nat} {xs : Nat → Int32} {ls : Array Slot} {G : mG} (B : gB p l s m c b L xs G) {k : Nat} (hk : 5 * k + 5 ≤ L) {a1 o : Nat} {ad : Nat → Nat} (hJ : gJ G s a1 ad o H locs) (hl : lv_has ls 7 (gLv b a1 (ad 0) o (nI (5 * k)))) (hc : cells + 47 ≤ 601024) (hs : slots + 3000 ≤ 7293034)
    (kk : ∀ (H : Heap) (locs : List Loc) (ls : Array Slot), gJ G s a1 ad o H locs → lv_has ls 7 (gLv b a1 (ad 0) o (nI (5 * k))) → W p l e room_1 s m #[Value.ref b] below meth c H locs (cells + 47) (slots + 3000) Q (F0 m 1593 ls [])) : W p l e room_1 s m #[Value.ref b] below meth c H locs cells slots Q (F0 m 1333 ls []) := by
  obtain ⟨hx, hb, hml, hown, hts, hX, hbl, hK, hE, hN, hL, hst⟩ := id B
  obtain ⟨M, N, Γ, σ, ρ, f, hI, h00, hW⟩ := hJ
  obtain ⟨u1, hu1, eu1⟩ := nU_of (xs (5 * k + 1))
  obtain ⟨u2, hu2, eu2⟩ := nU_of (xs (5 * k + 2))
  subst h00
  have hA : ∀ q, s.heap.size ≤ q → gA s q := fun _ h => h
  have hB : RB σ := hI.1.1.1.b
  obtain ⟨⟨b0, b8, b24⟩, b7, b3, b12, b45, -⟩ := id hB
  refine lv_aload_n hx hb dL_law_1333 rfl (lv_at hl 1 rfl) ?_
  refine g_arg (j := 1) hx hb hX hbl hW.2.1 hL hk (by decide) (by decide) eu1 (lv_sub hl [0, 4] rfl) dL_law_1334 dL_law_1335 dL_law_1337 dL_law_1338 dL_law_1339 ?_
  refine g_arg (j := 2) hx hb hX hbl hW.2.1 hL hk (by decide) (by decide) eu2 (lv_sub hl [0, 4] rfl) dL_law_1340 dL_law_1341 dL_law_1343 dL_law_1344 dL_law_1345 ?_
  refine lv_aload_n hx hb dL_law_1346 rfl (lv_at hl 3 rfl) ?_
  refine mk_w (vx_runSX (As := [.ref (Γ 0 0), .int (nI u1), .int (nI u2), .ref o]) (rest := []) (nL := 7) ⟨hx, hb, hml, hown, hts⟩ (l_deliveredAs l hst G N Γ σ ρ u1 hu1 u2 hu2 hI.1 o f hI.2.2.2.1 M H.size hI.2.1) (vx_cwSW 4 hts gL_law_L_deliveredAs rfl rfl rfl (by decide +kernel) ⟨(Nat.le_of_ble_eq_true rfl), (Nat.le_of_ble_eq_true rfl)⟩) (wp_S hK hE hN hW hA) rfl rfl hl.1 rfl (lv_room (Nat.le_of_ble_eq_true rfl)) dL_law_1347 ⟨(show cells + 5 ≤ 601024 by omega), (show slots + 30 ≤ 7293034 by omega)⟩) hW hA (fun r1 M1 H locs hp hW => ?_)
  have hp : wEnd G N Γ o f (thV σ u1 u2) (dvF σ u1 u2 (σ 22 0)) ((st σ 25 0 0)) M r1 M1 := wE25 hp
  obtain ⟨hr1, hA1, hst2⟩ := hI.step hp (fun _ => st_s)
  subst hr1
  refine lv_istore (lv' := [(5, .int (nI (thV σ u1 u2))), (0, .ref b), (1, .ref (Γ 0 0)), (2, .ref (ad 0)), (3, .ref o), (4, .int (nI (5 * k)))]) hx hb dL_law_1350 hl (by decide) rfl (fun ls hl => ?_)
  refine lv_aload_n hx hb dL_law_1352 rfl (lv_at hl 3 rfl) ?_
  refine g_arg (j := 1) hx hb hX hbl hW.2.1 hL hk (by decide) (by decide) eu1 (lv_sub hl [1, 5] rfl) dL_law_1353 dL_law_1354 dL_law_1356 dL_law_1357 dL_law_1358 ?_
  refine g_arg (j := 2) hx hb hX hbl hW.2.1 hL hk (by decide) (by decide) eu2 (lv_sub hl [1, 5] rfl) dL_law_1359 dL_law_1360 dL_law_1362 dL_law_1363 dL_law_1364 ?_
  refine mk_i (va_runV (As := [.int (nI u1), .int (nI u2)]) (rest := []) (nL := 7) ⟨hx, hb, hml, hown, hts⟩ (c5_deliveredAs l G ad σ u1 u2 hu1 hu2 hI.1.1 M1 H.size hA1) (cwV 2 hts gL_law_X5_deliveredAs rfl rfl rfl (by decide +kernel) ⟨(Nat.le_of_ble_eq_true rfl), (Nat.le_of_ble_eq_true rfl)⟩) (mp_V hK hE hW hA (mW_recv hK hW.1 (hA1.1 0 (by decide)) (by rfl))) rfl rfl hl.1 rfl (lv_room (Nat.le_of_ble_eq_true rfl)) dL_law_1365 ⟨(show cells + 5 + 0 ≤ 601024 by omega), (show slots + 30 + 0 ≤ 7293034 by omega)⟩) hW hA (fun r2 M2 H locs hp hW => ?_)
  obtain ⟨σ2, hp1, hA2, hF2⟩ := hp
  obtain ⟨h25, N2, Γ2, ρ2, f2, hI2, h002, h0⟩ := hst2 r2 σ2 M2 hp1 hA2 hF2
  exact g_tail (a1 := Γ 0 0) (i4 := nI (5 * k)) B hW hI2 h25 (by unfold thV; (repeat' split) <;> omega) h0 hl dL_law_1368 dL_law_1370 dL_law_1371 dL_law_1374 dL_law_1376 dL_law_1381 dL_law_1383 dL_law_1386 dL_law_1387 dL_law_1388 dL_law_1389 dL_law_1391 dL_law_1392 dL_law_1393 dL_law_1398 (by decide) (show cells + 5 + 0 ≤ 601024 by omega) (show slots + 30 + 0 ≤ 7293034 by omega) (fun H locs ls M N hW hI hl => W.widen (k := cells + 47) (n := slots + 3000) (by omega) (by omega) (kk H locs ls ⟨M, N, Γ2, σ2, ρ2, f2, hI, h002, hW⟩ hl))

set_option maxHeartbeats 4000000 in
set_option maxRecDepth 100000 in
theorem g_marks {p : Program} {l : Launch} {e : Env} {s : State} {m : MethodId} {below : List Frame} {meth : Method} {c : Code} {H : Heap} {locs : List Loc} {cells slots : Nat} {Q : State → Prop} {b L : Nat} {xs : Nat → Int32} {ls : Array Slot} {G : mG} (B : gB p l s m c b L xs G) {k : Nat} (hk : 5 * k + 5 ≤ L) {a1 o : Nat} {ad : Nat → Nat} (hJ : gJ G s a1 ad o H locs) (hl : lv_has ls 7 (gLv b a1 (ad 0) o (nI (5 * k)))) (hc : cells + 47 ≤ 601024) (hs : slots + 3000 ≤ 7293034)
    (kk : ∀ (H : Heap) (locs : List Loc) (ls : Array Slot), gJ G s a1 ad o H locs → lv_has ls 7 (gLv b a1 (ad 0) o (nI (5 * k))) → W p l e room_1 s m #[Value.ref b] below meth c H locs (cells + 47) (slots + 3000) Q (F0 m 1593 ls [])) : W p l e room_1 s m #[Value.ref b] below meth c H locs cells slots Q (F0 m 1401 ls []) := by
  obtain ⟨hx, hb, hml, hown, hts, hX, hbl, hK, hE, hN, hL, hst⟩ := id B
  obtain ⟨M, N, Γ, σ, ρ, f, hI, h00, hW⟩ := hJ
  obtain ⟨u1, hu1, eu1⟩ := nU_of (xs (5 * k + 1))
  subst h00
  have hA : ∀ q, s.heap.size ≤ q → gA s q := fun _ h => h
  have hB : RB σ := hI.1.1.1.b
  obtain ⟨⟨b0, b8, b24⟩, b7, b3, b12, b45, -⟩ := id hB
  refine lv_aload_n hx hb dL_law_1401 rfl (lv_at hl 1 rfl) ?_
  refine g_arg (j := 1) hx hb hX hbl hW.2.1 hL hk (by decide) (by decide) eu1 (lv_sub hl [0, 4] rfl) dL_law_1402 dL_law_1403 dL_law_1405 dL_law_1406 dL_law_1407 ?_
  refine lv_aload_n hx hb dL_law_1408 rfl (lv_at hl 3 rfl) ?_
  refine mk_w (vx_runSX (As := [.ref (Γ 0 0), .int (nI u1), .ref o]) (rest := []) (nL := 7) ⟨hx, hb, hml, hown, hts⟩ (l_marks l hst G N Γ σ ρ u1 hu1 hI.1 o f hI.2.2.2.1 M H.size hI.2.1) (vx_cwSW 3 hts gL_law_L_marks rfl rfl rfl (by decide +kernel) ⟨(Nat.le_of_ble_eq_true rfl), (Nat.le_of_ble_eq_true rfl)⟩) (wp_S hK hE hN hW hA) rfl rfl hl.1 rfl (lv_room (Nat.le_of_ble_eq_true rfl)) dL_law_1409 ⟨(show cells + 5 ≤ 601024 by omega), (show slots + 30 ≤ 7293034 by omega)⟩) hW hA (fun r1 M1 H locs hp hW => ?_)
  have hp : wEnd G N Γ o f (thL σ u1) (σ 18 u1) ((st σ 25 0 0)) M r1 M1 := wE25 hp
  obtain ⟨hr1, hA1, hst2⟩ := hI.step hp (fun _ => st_s)
  subst hr1
  refine lv_istore (lv' := [(5, .int (nI (thL σ u1))), (0, .ref b), (1, .ref (Γ 0 0)), (2, .ref (ad 0)), (3, .ref o), (4, .int (nI (5 * k)))]) hx hb dL_law_1412 hl (by decide) rfl (fun ls hl => ?_)
  refine lv_aload_n hx hb dL_law_1414 rfl (lv_at hl 3 rfl) ?_
  refine g_arg (j := 1) hx hb hX hbl hW.2.1 hL hk (by decide) (by decide) eu1 (lv_sub hl [1, 5] rfl) dL_law_1415 dL_law_1416 dL_law_1418 dL_law_1419 dL_law_1420 ?_
  refine mk_i (va_runV (As := [.int (nI u1)]) (rest := []) (nL := 7) ⟨hx, hb, hml, hown, hts⟩ (c5_marks l G ad σ u1 hu1 hI.1.1 M1 H.size hA1) (cwV 1 hts gL_law_X5_marks rfl rfl rfl (by decide +kernel) ⟨(Nat.le_of_ble_eq_true rfl), (Nat.le_of_ble_eq_true rfl)⟩) (mp_V hK hE hW hA (mW_recv hK hW.1 (hA1.1 0 (by decide)) (by rfl))) rfl rfl hl.1 rfl (lv_room (Nat.le_of_ble_eq_true rfl)) dL_law_1421 ⟨(show cells + 5 + 0 ≤ 601024 by omega), (show slots + 30 + 0 ≤ 7293034 by omega)⟩) hW hA (fun r2 M2 H locs hp hW => ?_)
  obtain ⟨σ2, hp1, hA2, hF2⟩ := hp
  obtain ⟨h25, N2, Γ2, ρ2, f2, hI2, h002, h0⟩ := hst2 r2 σ2 M2 hp1 hA2 hF2
  exact g_tail (a1 := Γ 0 0) (i4 := nI (5 * k)) B hW hI2 h25 (by unfold thL; (repeat' split) <;> omega) h0 hl dL_law_1424 dL_law_1426 dL_law_1427 dL_law_1430 dL_law_1432 dL_law_1437 dL_law_1439 dL_law_1442 dL_law_1443 dL_law_1444 dL_law_1445 dL_law_1447 dL_law_1448 dL_law_1449 dL_law_1454 (by decide) (show cells + 5 + 0 ≤ 601024 by omega) (show slots + 30 + 0 ≤ 7293034 by omega) (fun H locs ls M N hW hI hl => W.widen (k := cells + 47) (n := slots + 3000) (by omega) (by omega) (kk H locs ls ⟨M, N, Γ2, σ2, ρ2, f2, hI, h002, hW⟩ hl))

set_option maxHeartbeats 4000000 in
set_option maxRecDepth 100000 in
theorem g_markAt {p : Program} {l : Launch} {e : Env} {s : State} {m : MethodId} {below : List Frame} {meth : Method} {c : Code} {H : Heap} {locs : List Loc} {cells slots : Nat} {Q : State → Prop} {b L : Nat} {xs : Nat → Int32} {ls : Array Slot} {G : mG} (B : gB p l s m c b L xs G) {k : Nat} (hk : 5 * k + 5 ≤ L) {a1 o : Nat} {ad : Nat → Nat} (hJ : gJ G s a1 ad o H locs) (hl : lv_has ls 7 (gLv b a1 (ad 0) o (nI (5 * k)))) (hc : cells + 47 ≤ 601024) (hs : slots + 3000 ≤ 7293034)
    (kk : ∀ (H : Heap) (locs : List Loc) (ls : Array Slot), gJ G s a1 ad o H locs → lv_has ls 7 (gLv b a1 (ad 0) o (nI (5 * k))) → W p l e room_1 s m #[Value.ref b] below meth c H locs (cells + 47) (slots + 3000) Q (F0 m 1593 ls [])) : W p l e room_1 s m #[Value.ref b] below meth c H locs cells slots Q (F0 m 1457 ls []) := by
  obtain ⟨hx, hb, hml, hown, hts, hX, hbl, hK, hE, hN, hL, hst⟩ := id B
  obtain ⟨M, N, Γ, σ, ρ, f, hI, h00, hW⟩ := hJ
  obtain ⟨u1, hu1, eu1⟩ := nU_of (xs (5 * k + 1))
  obtain ⟨u2, hu2, eu2⟩ := nU_of (xs (5 * k + 2))
  subst h00
  have hA : ∀ q, s.heap.size ≤ q → gA s q := fun _ h => h
  have hB : RB σ := hI.1.1.1.b
  obtain ⟨⟨b0, b8, b24⟩, b7, b3, b12, b45, -⟩ := id hB
  refine lv_aload_n hx hb dL_law_1457 rfl (lv_at hl 1 rfl) ?_
  refine g_arg (j := 1) hx hb hX hbl hW.2.1 hL hk (by decide) (by decide) eu1 (lv_sub hl [0, 4] rfl) dL_law_1458 dL_law_1459 dL_law_1461 dL_law_1462 dL_law_1463 ?_
  refine g_arg (j := 2) hx hb hX hbl hW.2.1 hL hk (by decide) (by decide) eu2 (lv_sub hl [0, 4] rfl) dL_law_1464 dL_law_1465 dL_law_1467 dL_law_1468 dL_law_1469 ?_
  refine lv_aload_n hx hb dL_law_1470 rfl (lv_at hl 3 rfl) ?_
  refine mk_w (vx_runSX (As := [.ref (Γ 0 0), .int (nI u1), .int (nI u2), .ref o]) (rest := []) (nL := 7) ⟨hx, hb, hml, hown, hts⟩ (l_markAt l hst G N Γ σ ρ u1 hu1 u2 hu2 hI.1 o f hI.2.2.2.1 M H.size hI.2.1) (vx_cwSW 4 hts gL_law_L_markAt rfl rfl rfl (by decide +kernel) ⟨(Nat.le_of_ble_eq_true rfl), (Nat.le_of_ble_eq_true rfl)⟩) (wp_S hK hE hN hW hA) rfl rfl hl.1 rfl (lv_room (Nat.le_of_ble_eq_true rfl)) dL_law_1471 ⟨(show cells + 5 ≤ 601024 by omega), (show slots + 30 ≤ 7293034 by omega)⟩) hW hA (fun r1 M1 H locs hp hW => ?_)
  have hp : wEnd G N Γ o f (thM σ u1 u2) (σ 17 (200 * u1 + u2)) ((st σ 25 0 0)) M r1 M1 := wE25 hp
  obtain ⟨hr1, hA1, hst2⟩ := hI.step hp (fun _ => st_s)
  subst hr1
  refine lv_istore (lv' := [(5, .int (nI (thM σ u1 u2))), (0, .ref b), (1, .ref (Γ 0 0)), (2, .ref (ad 0)), (3, .ref o), (4, .int (nI (5 * k)))]) hx hb dL_law_1474 hl (by decide) rfl (fun ls hl => ?_)
  refine lv_aload_n hx hb dL_law_1476 rfl (lv_at hl 3 rfl) ?_
  refine g_arg (j := 1) hx hb hX hbl hW.2.1 hL hk (by decide) (by decide) eu1 (lv_sub hl [1, 5] rfl) dL_law_1477 dL_law_1478 dL_law_1480 dL_law_1481 dL_law_1482 ?_
  refine g_arg (j := 2) hx hb hX hbl hW.2.1 hL hk (by decide) (by decide) eu2 (lv_sub hl [1, 5] rfl) dL_law_1483 dL_law_1484 dL_law_1486 dL_law_1487 dL_law_1488 ?_
  refine mk_i (va_runV (As := [.int (nI u1), .int (nI u2)]) (rest := []) (nL := 7) ⟨hx, hb, hml, hown, hts⟩ (c5_markAt l G ad σ u1 u2 hu1 hu2 hI.1.1 M1 H.size hA1) (cwV 2 hts gL_law_X5_markAt rfl rfl rfl (by decide +kernel) ⟨(Nat.le_of_ble_eq_true rfl), (Nat.le_of_ble_eq_true rfl)⟩) (mp_V hK hE hW hA (mW_recv hK hW.1 (hA1.1 0 (by decide)) (by rfl))) rfl rfl hl.1 rfl (lv_room (Nat.le_of_ble_eq_true rfl)) dL_law_1489 ⟨(show cells + 5 + 0 ≤ 601024 by omega), (show slots + 30 + 0 ≤ 7293034 by omega)⟩) hW hA (fun r2 M2 H locs hp hW => ?_)
  obtain ⟨σ2, hp1, hA2, hF2⟩ := hp
  obtain ⟨h25, N2, Γ2, ρ2, f2, hI2, h002, h0⟩ := hst2 r2 σ2 M2 hp1 hA2 hF2
  exact g_tail (a1 := Γ 0 0) (i4 := nI (5 * k)) B hW hI2 h25 (by unfold thM; (repeat' split) <;> omega) h0 hl dL_law_1492 dL_law_1494 dL_law_1495 dL_law_1498 dL_law_1500 dL_law_1505 dL_law_1507 dL_law_1510 dL_law_1511 dL_law_1512 dL_law_1513 dL_law_1515 dL_law_1516 dL_law_1517 dL_law_1522 (by decide) (show cells + 5 + 0 ≤ 601024 by omega) (show slots + 30 + 0 ≤ 7293034 by omega) (fun H locs ls M N hW hI hl => W.widen (k := cells + 47) (n := slots + 3000) (by omega) (by omega) (kk H locs ls ⟨M, N, Γ2, σ2, ρ2, f2, hI, h002, hW⟩ hl))

set_option maxHeartbeats 4000000 in
set_option maxRecDepth 100000 in
theorem g_written {p : Program} {l : Launch} {e : Env} {s : State} {m : MethodId} {below : List Frame} {meth : Method} {c : Code} {H : Heap} {locs : List Loc} {cells slots : Nat} {Q : State → Prop} {b L : Nat} {xs : Nat → Int32} {ls : Array Slot} {G : mG} (B : gB p l s m c b L xs G) {k : Nat} (hk : 5 * k + 5 ≤ L) {a1 o : Nat} {ad : Nat → Nat} (hJ : gJ G s a1 ad o H locs) (hl : lv_has ls 7 (gLv b a1 (ad 0) o (nI (5 * k)))) (hc : cells + 47 ≤ 601024) (hs : slots + 3000 ≤ 7293034)
    (kk : ∀ (H : Heap) (locs : List Loc) (ls : Array Slot), gJ G s a1 ad o H locs → lv_has ls 7 (gLv b a1 (ad 0) o (nI (5 * k))) → W p l e room_1 s m #[Value.ref b] below meth c H locs (cells + 47) (slots + 3000) Q (F0 m 1593 ls [])) : W p l e room_1 s m #[Value.ref b] below meth c H locs cells slots Q (F0 m 1525 ls []) := by
  obtain ⟨hx, hb, hml, hown, hts, hX, hbl, hK, hE, hN, hL, hst⟩ := id B
  obtain ⟨M, N, Γ, σ, ρ, f, hI, h00, hW⟩ := hJ
  obtain ⟨u1, hu1, eu1⟩ := nU_of (xs (5 * k + 1))
  obtain ⟨u2, hu2, eu2⟩ := nU_of (xs (5 * k + 2))
  subst h00
  have hA : ∀ q, s.heap.size ≤ q → gA s q := fun _ h => h
  have hB : RB σ := hI.1.1.1.b
  obtain ⟨⟨b0, b8, b24⟩, b7, b3, b12, b45, -⟩ := id hB
  refine lv_aload_n hx hb dL_law_1525 rfl (lv_at hl 1 rfl) ?_
  refine g_arg (j := 1) hx hb hX hbl hW.2.1 hL hk (by decide) (by decide) eu1 (lv_sub hl [0, 4] rfl) dL_law_1526 dL_law_1527 dL_law_1529 dL_law_1530 dL_law_1531 ?_
  refine g_arg (j := 2) hx hb hX hbl hW.2.1 hL hk (by decide) (by decide) eu2 (lv_sub hl [0, 4] rfl) dL_law_1532 dL_law_1533 dL_law_1535 dL_law_1536 dL_law_1537 ?_
  refine lv_aload_n hx hb dL_law_1538 rfl (lv_at hl 3 rfl) ?_
  refine mk_w (vx_runSX (As := [.ref (Γ 0 0), .int (nI u1), .int (nI u2), .ref o]) (rest := []) (nL := 7) ⟨hx, hb, hml, hown, hts⟩ (l_written l hst G N Γ σ ρ u1 hu1 u2 hu2 hI.1 o f hI.2.2.2.1 M H.size hI.2.1) (vx_cwSW 4 hts gL_law_L_written rfl rfl rfl (by decide +kernel) ⟨(Nat.le_of_ble_eq_true rfl), (Nat.le_of_ble_eq_true rfl)⟩) (wp_S hK hE hN hW hA) rfl rfl hl.1 rfl (lv_room (Nat.le_of_ble_eq_true rfl)) dL_law_1539 ⟨(show cells + 5 ≤ 601024 by omega), (show slots + 30 ≤ 7293034 by omega)⟩) hW hA (fun r1 M1 H locs hp hW => ?_)
  have hp : wEnd G N Γ o f (thN σ u1 u2) (wtS σ u1 u2) ((st σ 25 0 0)) M r1 M1 := wE25 hp
  obtain ⟨hr1, hA1, hst2⟩ := hI.step hp (fun _ => st_s)
  subst hr1
  refine lv_istore (lv' := [(5, .int (nI (thN σ u1 u2))), (0, .ref b), (1, .ref (Γ 0 0)), (2, .ref (ad 0)), (3, .ref o), (4, .int (nI (5 * k)))]) hx hb dL_law_1542 hl (by decide) rfl (fun ls hl => ?_)
  refine lv_aload_n hx hb dL_law_1544 rfl (lv_at hl 3 rfl) ?_
  refine g_arg (j := 1) hx hb hX hbl hW.2.1 hL hk (by decide) (by decide) eu1 (lv_sub hl [1, 5] rfl) dL_law_1545 dL_law_1546 dL_law_1548 dL_law_1549 dL_law_1550 ?_
  refine g_arg (j := 2) hx hb hX hbl hW.2.1 hL hk (by decide) (by decide) eu2 (lv_sub hl [1, 5] rfl) dL_law_1551 dL_law_1552 dL_law_1554 dL_law_1555 dL_law_1556 ?_
  refine mk_i (va_runV (As := [.int (nI u1), .int (nI u2)]) (rest := []) (nL := 7) ⟨hx, hb, hml, hown, hts⟩ (c5_written l G ad σ u1 u2 hu1 hu2 hI.1.1 M1 H.size hA1) (cwV 2 hts gL_law_X5_written rfl rfl rfl (by decide +kernel) ⟨(Nat.le_of_ble_eq_true rfl), (Nat.le_of_ble_eq_true rfl)⟩) (mp_V hK hE hW hA (mW_recv hK hW.1 (hA1.1 0 (by decide)) (by rfl))) rfl rfl hl.1 rfl (lv_room (Nat.le_of_ble_eq_true rfl)) dL_law_1557 ⟨(show cells + 5 + 0 ≤ 601024 by omega), (show slots + 30 + 0 ≤ 7293034 by omega)⟩) hW hA (fun r2 M2 H locs hp hW => ?_)
  obtain ⟨σ2, hp1, hA2, hF2⟩ := hp
  obtain ⟨h25, N2, Γ2, ρ2, f2, hI2, h002, h0⟩ := hst2 r2 σ2 M2 hp1 hA2 hF2
  exact g_tail (a1 := Γ 0 0) (i4 := nI (5 * k)) B hW hI2 h25 (by unfold thN; (repeat' split) <;> omega) h0 hl dL_law_1560 dL_law_1562 dL_law_1563 dL_law_1566 dL_law_1568 dL_law_1573 dL_law_1575 dL_law_1578 dL_law_1579 dL_law_1580 dL_law_1581 dL_law_1583 dL_law_1584 dL_law_1585 dL_law_1590 (by decide) (show cells + 5 + 0 ≤ 601024 by omega) (show slots + 30 + 0 ≤ 7293034 by omega) (fun H locs ls M N hW hI hl => W.widen (k := cells + 47) (n := slots + 3000) (by omega) (by omega) (kk H locs ls ⟨M, N, Γ2, σ2, ρ2, f2, hI, h002, hW⟩ hl))
