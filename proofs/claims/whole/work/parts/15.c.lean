/-! THE LAW: the cases of its switch (mine; the rows are laid by wip/whole/gen) -/
theorem po_25 {σ : Sg} {q u h : Nat} (hI : IV σ) (h8 : σ 8 0 ≠ 40) (hq : q < 10) (hu : u < σ 0 0) (hh : h < 10 ∨ h = 4294967295) (h40 : σ 8 0 ≤ 40) : po σ q u h 25 0 = σ 25 0 := by
  obtain ⟨b1, b2, b3, b4, b5⟩ := poW_ok hI (by omega) hq hu hh
  obtain ⟨c1, c2, c3⟩ := ha_ok b1 b2
  show ha (poW σ q u h) (σ 8 0) 25 0 = _
  rw [c1.1 25 0 (Or.inr (by decide)), b4 25 0 (by decide), poN_f (by decide)]
theorem thP_0 {σ : Sg} {q u h : Nat} (z : thP σ q u h = 0) : (q < 10 ∧ u < σ 0 0 ∧ (h < 10 ∨ h = 4294967295)) ∧ σ 8 0 ≠ 40 := by
  unfold thP at z
  by_cases h1 : q < 10 ∧ u < σ 0 0 ∧ (h < 10 ∨ h = 4294967295)
  · refine ⟨h1, fun h2 => ?_⟩
    rw [if_neg (fun k => k h1), if_pos h2] at z
    cases z
  · rw [if_pos h1] at z
    cases z
theorem thD_0 {σ : Sg} {d : Nat} (z : thD σ d = 0) : σ 24 0 + d ≤ 1000 := by
  unfold thD at z
  by_cases h1 : 1 ≤ d ∧ d < 61
  · by_cases h2 : 1000 < σ 24 0 + d
    · rw [if_neg (fun k => k h1), if_pos h2] at z
      cases z
    · omega
  · rw [if_pos h1] at z
    cases z

set_option maxHeartbeats 4000000 in
set_option maxRecDepth 100000 in
theorem g_addShip {p : Program} {l : Launch} {e : Env} {s : State} {m : MethodId} {below : List Frame} {meth : Method} {c : Code} {H : Heap} {locs : List Loc} {cells slots : Nat} {Q : State → Prop} {b L : Nat} {xs : Nat → Int32} {ls : Array Slot} {G : mG} (B : gB p l s m c b L xs G) {k : Nat} (hk : 5 * k + 5 ≤ L) {a1 o : Nat} {ad : Nat → Nat} (hJ : gJ G s a1 ad o H locs) (hl : lv_has ls 7 (gLv b a1 (ad 0) o (nI (5 * k)))) (hc : cells + 47 ≤ 601024) (hs : slots + 3000 ≤ 7293034)
    (kk : ∀ (H : Heap) (locs : List Loc) (ls : Array Slot), gJ G s a1 ad o H locs → lv_has ls 7 (gLv b a1 (ad 0) o (nI (5 * k))) → W p l e room_1 s m #[Value.ref b] below meth c H locs (cells + 47) (slots + 3000) Q (F0 m 1593 ls [])) : W p l e room_1 s m #[Value.ref b] below meth c H locs cells slots Q (F0 m 152 ls []) := by
  obtain ⟨hx, hb, hml, hown, hts, hX, hbl, hK, hE, hN, hL, hst⟩ := id B
  obtain ⟨M, N, Γ, σ, ρ, f, hI, h00, hW⟩ := hJ
  subst h00
  have hA : ∀ q, s.heap.size ≤ q → gA s q := fun _ h => h
  have hB : RB σ := hI.1.1.1.b
  obtain ⟨⟨b0, b8, b24⟩, b7, b3, b12, b45, -⟩ := id hB
  refine lv_aload_n hx hb dL_law_152 rfl (lv_at hl 1 rfl) ?_
  refine lv_aload_n hx hb dL_law_153 rfl (lv_at hl 3 rfl) ?_
  refine mk_w (vx_runSX (As := [.ref (Γ 0 0), .ref o]) (rest := []) (nL := 7) ⟨hx, hb, hml, hown, hts⟩ (l_addShip l hst G N Γ (st σ 25 0 0) ρ  hI.1.x25 o f hI.2.2.2.1 M H.size (by rw [cs_25]; exact hI.2.1)) (vx_cwSW 2 hts gL_law_L_addShip rfl rfl rfl (by decide +kernel) ⟨(Nat.le_of_ble_eq_true rfl), (Nat.le_of_ble_eq_true rfl)⟩) (wp_S hK hE hN hW hA) rfl rfl hl.1 rfl (lv_room (Nat.le_of_ble_eq_true rfl)) dL_law_154 ⟨(show cells + 14 ≤ 601024 by omega), (show slots + 200 ≤ 7293034 by omega)⟩) hW hA (fun r1 M1 H locs hp hW => ?_)
  have hp : wEnd G N Γ o f (thA σ) (σ 0 0) (nxA (st σ 25 0 0)) M r1 M1 := hp
  obtain ⟨hr1, hA1, hst2⟩ := hI.step hp (fun _ => by unfold nxA; rw [st_f (by decide), st_s])
  subst hr1
  refine lv_istore (lv' := [(5, .int (nI (thA σ))), (0, .ref b), (1, .ref (Γ 0 0)), (2, .ref (ad 0)), (3, .ref o), (4, .int (nI (5 * k)))]) hx hb dL_law_157 hl (by decide) rfl (fun ls hl => ?_)
  refine lv_aload_n hx hb dL_law_159 rfl (lv_at hl 3 rfl) ?_
  refine mk_i (va_runV (As := []) (rest := []) (nL := 7) ⟨hx, hb, hml, hown, hts⟩ (c5_addShip l G ad σ   b0 M1 H.size hA1) (cwV 0 hts gL_law_X5_addShip rfl rfl rfl (by decide +kernel) ⟨(Nat.le_of_ble_eq_true rfl), (Nat.le_of_ble_eq_true rfl)⟩) (mp_V hK hE hW hA (mW_recv hK hW.1 (hA1.1 0 (by decide)) (by rfl))) rfl rfl hl.1 rfl (lv_room (Nat.le_of_ble_eq_true rfl)) dL_law_160 ⟨(show cells + 14 + 0 ≤ 601024 by omega), (show slots + 200 + 0 ≤ 7293034 by omega)⟩) hW hA (fun r2 M2 H locs hp hW => ?_)
  obtain ⟨σ2, hp1, hA2, hF2⟩ := hp
  obtain ⟨h25, N2, Γ2, ρ2, f2, hI2, h002, h0⟩ := hst2 r2 σ2 M2 hp1 hA2 hF2
  exact g_tail (a1 := Γ 0 0) (i4 := nI (5 * k)) B hW hI2 h25 (by unfold thA; (repeat' split) <;> omega) h0 hl dL_law_163 dL_law_165 dL_law_166 dL_law_169 dL_law_171 dL_law_176 dL_law_178 dL_law_181 dL_law_182 dL_law_183 dL_law_184 dL_law_186 dL_law_187 dL_law_188 dL_law_193 (by decide) (show cells + 14 + 0 ≤ 601024 by omega) (show slots + 200 + 0 ≤ 7293034 by omega) (fun H locs ls M N hW hI hl => W.widen (k := cells + 47) (n := slots + 3000) (by omega) (by omega) (kk H locs ls ⟨M, N, Γ2, σ2, ρ2, f2, hI, h002, hW⟩ hl))

set_option maxHeartbeats 4000000 in
set_option maxRecDepth 100000 in
theorem g_call {p : Program} {l : Launch} {e : Env} {s : State} {m : MethodId} {below : List Frame} {meth : Method} {c : Code} {H : Heap} {locs : List Loc} {cells slots : Nat} {Q : State → Prop} {b L : Nat} {xs : Nat → Int32} {ls : Array Slot} {G : mG} (B : gB p l s m c b L xs G) {k : Nat} (hk : 5 * k + 5 ≤ L) {a1 o : Nat} {ad : Nat → Nat} (hJ : gJ G s a1 ad o H locs) (hl : lv_has ls 7 (gLv b a1 (ad 0) o (nI (5 * k)))) (hc : cells + 47 ≤ 601024) (hs : slots + 3000 ≤ 7293034)
    (kk : ∀ (H : Heap) (locs : List Loc) (ls : Array Slot), gJ G s a1 ad o H locs → lv_has ls 7 (gLv b a1 (ad 0) o (nI (5 * k))) → W p l e room_1 s m #[Value.ref b] below meth c H locs (cells + 47) (slots + 3000) Q (F0 m 1593 ls [])) : W p l e room_1 s m #[Value.ref b] below meth c H locs cells slots Q (F0 m 196 ls []) := by
  obtain ⟨hx, hb, hml, hown, hts, hX, hbl, hK, hE, hN, hL, hst⟩ := id B
  obtain ⟨M, N, Γ, σ, ρ, f, hI, h00, hW⟩ := hJ
  obtain ⟨u1, hu1, eu1⟩ := nU_of (xs (5 * k + 1))
  obtain ⟨u2, hu2, eu2⟩ := nU_of (xs (5 * k + 2))
  obtain ⟨u3, hu3, eu3⟩ := nU_of (xs (5 * k + 3))
  obtain ⟨u4, hu4, eu4⟩ := nU_of (xs (5 * k + 4))
  subst h00
  have hA : ∀ q, s.heap.size ≤ q → gA s q := fun _ h => h
  have hB : RB σ := hI.1.1.1.b
  obtain ⟨⟨b0, b8, b24⟩, b7, b3, b12, b45, -⟩ := id hB
  refine lv_aload_n hx hb dL_law_196 rfl (lv_at hl 1 rfl) ?_
  refine g_arg (j := 1) hx hb hX hbl hW.2.1 hL hk (by decide) (by decide) eu1 (lv_sub hl [0, 4] rfl) dL_law_197 dL_law_198 dL_law_200 dL_law_201 dL_law_202 ?_
  refine g_arg (j := 2) hx hb hX hbl hW.2.1 hL hk (by decide) (by decide) eu2 (lv_sub hl [0, 4] rfl) dL_law_203 dL_law_204 dL_law_206 dL_law_207 dL_law_208 ?_
  refine g_arg (j := 3) hx hb hX hbl hW.2.1 hL hk (by decide) (by decide) eu3 (lv_sub hl [0, 4] rfl) dL_law_209 dL_law_210 dL_law_212 dL_law_213 dL_law_214 ?_
  refine g_arg (j := 4) hx hb hX hbl hW.2.1 hL hk (by decide) (by decide) eu4 (lv_sub hl [0, 4] rfl) dL_law_215 dL_law_216 dL_law_218 dL_law_219 dL_law_220 ?_
  refine lv_aload_n hx hb dL_law_221 rfl (lv_at hl 3 rfl) ?_
  refine mk_w (vx_runSX (As := [.ref (Γ 0 0), .int (nI u1), .int (nI u2), .int (nI u3), .int (nI u4), .ref o]) (rest := []) (nL := 7) ⟨hx, hb, hml, hown, hts⟩ (l_call l hst G N Γ (st σ 25 0 0) ρ u1 hu1 u2 hu2 u3 hu3 u4 hu4 hI.1.x25 o f hI.2.2.2.1 M H.size (by rw [cs_25]; exact hI.2.1)) (vx_cwSW 6 hts gL_law_L_call rfl rfl rfl (by decide +kernel) ⟨(Nat.le_of_ble_eq_true rfl), (Nat.le_of_ble_eq_true rfl)⟩) (wp_S hK hE hN hW hA) rfl rfl hl.1 rfl (lv_room (Nat.le_of_ble_eq_true rfl)) dL_law_222 ⟨(show cells + 5 ≤ 601024 by omega), (show slots + 30 ≤ 7293034 by omega)⟩) hW hA (fun r1 M1 H locs hp hW => ?_)
  have hp : wEnd G N Γ o f (thC σ u1 u2 u3 u4) (σ 3 (21 * u1 + 20) + 1) (nxC (st σ 25 0 0) u1 u2 u3 u4) M r1 M1 := hp
  obtain ⟨hr1, hA1, hst2⟩ := hI.step hp (fun _ => by unfold nxC; rw [st_f (by decide), st_f (by decide), st_f (by decide), st_f (by decide), st_s])
  subst hr1
  refine lv_istore (lv' := [(5, .int (nI (thC σ u1 u2 u3 u4))), (0, .ref b), (1, .ref (Γ 0 0)), (2, .ref (ad 0)), (3, .ref o), (4, .int (nI (5 * k)))]) hx hb dL_law_225 hl (by decide) rfl (fun ls hl => ?_)
  refine lv_aload_n hx hb dL_law_227 rfl (lv_at hl 3 rfl) ?_
  refine g_arg (j := 1) hx hb hX hbl hW.2.1 hL hk (by decide) (by decide) eu1 (lv_sub hl [1, 5] rfl) dL_law_228 dL_law_229 dL_law_231 dL_law_232 dL_law_233 ?_
  refine g_arg (j := 2) hx hb hX hbl hW.2.1 hL hk (by decide) (by decide) eu2 (lv_sub hl [1, 5] rfl) dL_law_234 dL_law_235 dL_law_237 dL_law_238 dL_law_239 ?_
  refine g_arg (j := 3) hx hb hX hbl hW.2.1 hL hk (by decide) (by decide) eu3 (lv_sub hl [1, 5] rfl) dL_law_240 dL_law_241 dL_law_243 dL_law_244 dL_law_245 ?_
  refine g_arg (j := 4) hx hb hX hbl hW.2.1 hL hk (by decide) (by decide) eu4 (lv_sub hl [1, 5] rfl) dL_law_246 dL_law_247 dL_law_249 dL_law_250 dL_law_251 ?_
  refine mk_i (va_runV (As := [.int (nI u1), .int (nI u2), .int (nI u3), .int (nI u4)]) (rest := []) (nL := 7) ⟨hx, hb, hml, hown, hts⟩ (c5_call l G ad σ u1 u2 u3 u4 hu1 hu2 hu3 hu4 hB M1 H.size hA1) (cwV 4 hts gL_law_X5_call rfl rfl rfl (by decide +kernel) ⟨(Nat.le_of_ble_eq_true rfl), (Nat.le_of_ble_eq_true rfl)⟩) (mp_V hK hE hW hA (mW_recv hK hW.1 (hA1.1 0 (by decide)) (by rfl))) rfl rfl hl.1 rfl (lv_room (Nat.le_of_ble_eq_true rfl)) dL_law_252 ⟨(show cells + 5 + 0 ≤ 601024 by omega), (show slots + 30 + 0 ≤ 7293034 by omega)⟩) hW hA (fun r2 M2 H locs hp hW => ?_)
  obtain ⟨σ2, hp1, hA2, hF2⟩ := hp
  obtain ⟨h25, N2, Γ2, ρ2, f2, hI2, h002, h0⟩ := hst2 r2 σ2 M2 hp1 hA2 hF2
  exact g_tail (a1 := Γ 0 0) (i4 := nI (5 * k)) B hW hI2 h25 (by unfold thC; (repeat' split) <;> omega) h0 hl dL_law_255 dL_law_257 dL_law_258 dL_law_261 dL_law_263 dL_law_268 dL_law_270 dL_law_273 dL_law_274 dL_law_275 dL_law_276 dL_law_278 dL_law_279 dL_law_280 dL_law_285 (by decide) (show cells + 5 + 0 ≤ 601024 by omega) (show slots + 30 + 0 ≤ 7293034 by omega) (fun H locs ls M N hW hI hl => W.widen (k := cells + 47) (n := slots + 3000) (by omega) (by omega) (kk H locs ls ⟨M, N, Γ2, σ2, ρ2, f2, hI, h002, hW⟩ hl))

set_option maxHeartbeats 4000000 in
set_option maxRecDepth 100000 in
theorem g_tell {p : Program} {l : Launch} {e : Env} {s : State} {m : MethodId} {below : List Frame} {meth : Method} {c : Code} {H : Heap} {locs : List Loc} {cells slots : Nat} {Q : State → Prop} {b L : Nat} {xs : Nat → Int32} {ls : Array Slot} {G : mG} (B : gB p l s m c b L xs G) {k : Nat} (hk : 5 * k + 5 ≤ L) {a1 o : Nat} {ad : Nat → Nat} (hJ : gJ G s a1 ad o H locs) (hl : lv_has ls 7 (gLv b a1 (ad 0) o (nI (5 * k)))) (hc : cells + 47 ≤ 601024) (hs : slots + 3000 ≤ 7293034)
    (kk : ∀ (H : Heap) (locs : List Loc) (ls : Array Slot), gJ G s a1 ad o H locs → lv_has ls 7 (gLv b a1 (ad 0) o (nI (5 * k))) → W p l e room_1 s m #[Value.ref b] below meth c H locs (cells + 47) (slots + 3000) Q (F0 m 1593 ls [])) : W p l e room_1 s m #[Value.ref b] below meth c H locs cells slots Q (F0 m 288 ls []) := by
  obtain ⟨hx, hb, hml, hown, hts, hX, hbl, hK, hE, hN, hL, hst⟩ := id B
  obtain ⟨M, N, Γ, σ, ρ, f, hI, h00, hW⟩ := hJ
  obtain ⟨u1, hu1, eu1⟩ := nU_of (xs (5 * k + 1))
  obtain ⟨u2, hu2, eu2⟩ := nU_of (xs (5 * k + 2))
  subst h00
  have hA : ∀ q, s.heap.size ≤ q → gA s q := fun _ h => h
  have hB : RB σ := hI.1.1.1.b
  obtain ⟨⟨b0, b8, b24⟩, b7, b3, b12, b45, -⟩ := id hB
  refine lv_aload_n hx hb dL_law_288 rfl (lv_at hl 1 rfl) ?_
  refine g_arg (j := 1) hx hb hX hbl hW.2.1 hL hk (by decide) (by decide) eu1 (lv_sub hl [0, 4] rfl) dL_law_289 dL_law_290 dL_law_292 dL_law_293 dL_law_294 ?_
  refine g_arg (j := 2) hx hb hX hbl hW.2.1 hL hk (by decide) (by decide) eu2 (lv_sub hl [0, 4] rfl) dL_law_295 dL_law_296 dL_law_298 dL_law_299 dL_law_300 ?_
  refine lv_aload_n hx hb dL_law_301 rfl (lv_at hl 3 rfl) ?_
  refine mk_w (vx_runSX (As := [.ref (Γ 0 0), .int (nI u1), .int (nI u2), .ref o]) (rest := []) (nL := 7) ⟨hx, hb, hml, hown, hts⟩ (l_tell l hst G N Γ (st σ 25 0 0) ρ u1 hu1 u2 hu2 hI.1.x25 o f hI.2.2.2.1 M H.size (by rw [cs_25]; exact hI.2.1)) (vx_cwSW 4 hts gL_law_L_tell rfl rfl rfl (by decide +kernel) ⟨(Nat.le_of_ble_eq_true rfl), (Nat.le_of_ble_eq_true rfl)⟩) (wp_S hK hE hN hW hA) rfl rfl hl.1 rfl (lv_room (Nat.le_of_ble_eq_true rfl)) dL_law_302 ⟨(show cells + 9 ≤ 601024 by omega), (show slots + 120 ≤ 7293034 by omega)⟩) hW hA (fun r1 M1 H locs hp hW => ?_)
  have hp : wEnd G N Γ o f (thT σ u1 u2) (σ 7 u1) (nxT (st σ 25 0 0) u1 u2) M r1 M1 := hp
  obtain ⟨hr1, hA1, hst2⟩ := hI.step hp (fun _ => by unfold nxT; rw [st_f (by decide), st_f (by decide), cpN_at, if_neg (by omega), st_f (by decide), st_f (by decide), st_f (by decide), st_s])
  subst hr1
  refine lv_istore (lv' := [(5, .int (nI (thT σ u1 u2))), (0, .ref b), (1, .ref (Γ 0 0)), (2, .ref (ad 0)), (3, .ref o), (4, .int (nI (5 * k)))]) hx hb dL_law_305 hl (by decide) rfl (fun ls hl => ?_)
  refine lv_aload_n hx hb dL_law_307 rfl (lv_at hl 3 rfl) ?_
  refine g_arg (j := 1) hx hb hX hbl hW.2.1 hL hk (by decide) (by decide) eu1 (lv_sub hl [1, 5] rfl) dL_law_308 dL_law_309 dL_law_311 dL_law_312 dL_law_313 ?_
  refine g_arg (j := 2) hx hb hX hbl hW.2.1 hL hk (by decide) (by decide) eu2 (lv_sub hl [1, 5] rfl) dL_law_314 dL_law_315 dL_law_317 dL_law_318 dL_law_319 ?_
  refine mk_i (va_runV (As := [.int (nI u1), .int (nI u2)]) (rest := []) (nL := 7) ⟨hx, hb, hml, hown, hts⟩ (c5_tell l G ad σ u1 u2 hu1 hu2 hB M1 H.size hA1) (cwV 2 hts gL_law_X5_tell rfl rfl rfl (by decide +kernel) ⟨(Nat.le_of_ble_eq_true rfl), (Nat.le_of_ble_eq_true rfl)⟩) (mp_V hK hE hW hA (mW_recv hK hW.1 (hA1.1 0 (by decide)) (by rfl))) rfl rfl hl.1 rfl (lv_room (Nat.le_of_ble_eq_true rfl)) dL_law_320 ⟨(show cells + 9 + 0 ≤ 601024 by omega), (show slots + 120 + 0 ≤ 7293034 by omega)⟩) hW hA (fun r2 M2 H locs hp hW => ?_)
  obtain ⟨σ2, hp1, hA2, hF2⟩ := hp
  obtain ⟨h25, N2, Γ2, ρ2, f2, hI2, h002, h0⟩ := hst2 r2 σ2 M2 hp1 hA2 hF2
  exact g_tail (a1 := Γ 0 0) (i4 := nI (5 * k)) B hW hI2 h25 (by unfold thT; (repeat' split) <;> omega) h0 hl dL_law_323 dL_law_325 dL_law_326 dL_law_329 dL_law_331 dL_law_336 dL_law_338 dL_law_341 dL_law_342 dL_law_343 dL_law_344 dL_law_346 dL_law_347 dL_law_348 dL_law_353 (by decide) (show cells + 9 + 0 ≤ 601024 by omega) (show slots + 120 + 0 ≤ 7293034 by omega) (fun H locs ls M N hW hI hl => W.widen (k := cells + 47) (n := slots + 3000) (by omega) (by omega) (kk H locs ls ⟨M, N, Γ2, σ2, ρ2, f2, hI, h002, hW⟩ hl))

set_option maxHeartbeats 4000000 in
set_option maxRecDepth 100000 in
theorem g_shipAt {p : Program} {l : Launch} {e : Env} {s : State} {m : MethodId} {below : List Frame} {meth : Method} {c : Code} {H : Heap} {locs : List Loc} {cells slots : Nat} {Q : State → Prop} {b L : Nat} {xs : Nat → Int32} {ls : Array Slot} {G : mG} (B : gB p l s m c b L xs G) {k : Nat} (hk : 5 * k + 5 ≤ L) {a1 o : Nat} {ad : Nat → Nat} (hJ : gJ G s a1 ad o H locs) (hl : lv_has ls 7 (gLv b a1 (ad 0) o (nI (5 * k)))) (hc : cells + 47 ≤ 601024) (hs : slots + 3000 ≤ 7293034)
    (kk : ∀ (H : Heap) (locs : List Loc) (ls : Array Slot), gJ G s a1 ad o H locs → lv_has ls 7 (gLv b a1 (ad 0) o (nI (5 * k))) → W p l e room_1 s m #[Value.ref b] below meth c H locs (cells + 47) (slots + 3000) Q (F0 m 1593 ls [])) : W p l e room_1 s m #[Value.ref b] below meth c H locs cells slots Q (F0 m 356 ls []) := by
  obtain ⟨hx, hb, hml, hown, hts, hX, hbl, hK, hE, hN, hL, hst⟩ := id B
  obtain ⟨M, N, Γ, σ, ρ, f, hI, h00, hW⟩ := hJ
  obtain ⟨u1, hu1, eu1⟩ := nU_of (xs (5 * k + 1))
  subst h00
  have hA : ∀ q, s.heap.size ≤ q → gA s q := fun _ h => h
  have hB : RB σ := hI.1.1.1.b
  obtain ⟨⟨b0, b8, b24⟩, b7, b3, b12, b45, -⟩ := id hB
  refine lv_aload_n hx hb dL_law_356 rfl (lv_at hl 1 rfl) ?_
  refine g_arg (j := 1) hx hb hX hbl hW.2.1 hL hk (by decide) (by decide) eu1 (lv_sub hl [0, 4] rfl) dL_law_357 dL_law_358 dL_law_360 dL_law_361 dL_law_362 ?_
  refine lv_aload_n hx hb dL_law_363 rfl (lv_at hl 3 rfl) ?_
  refine mk_w (vx_runSX (As := [.ref (Γ 0 0), .int (nI u1), .ref o]) (rest := []) (nL := 7) ⟨hx, hb, hml, hown, hts⟩ (l_shipAt l hst G N Γ (st σ 25 0 0) ρ u1 hu1 hI.1.x25 o f hI.2.2.2.1 M H.size (by rw [cs_25]; exact hI.2.1)) (vx_cwSW 3 hts gL_law_L_shipAt rfl rfl rfl (by decide +kernel) ⟨(Nat.le_of_ble_eq_true rfl), (Nat.le_of_ble_eq_true rfl)⟩) (wp_S hK hE hN hW hA) rfl rfl hl.1 rfl (lv_room (Nat.le_of_ble_eq_true rfl)) dL_law_364 ⟨(show cells + 5 ≤ 601024 by omega), (show slots + 30 ≤ 7293034 by omega)⟩) hW hA (fun r1 M1 H locs hp hW => ?_)
  have hp : wEnd G N Γ o f (thS σ u1) (plS (st σ 25 0 0) u1) ((st σ 25 0 0)) M r1 M1 := hp
  obtain ⟨hr1, hA1, hst2⟩ := hI.step hp (fun _ => st_s)
  subst hr1
  refine lv_istore (lv' := [(5, .int (nI (thS σ u1))), (0, .ref b), (1, .ref (Γ 0 0)), (2, .ref (ad 0)), (3, .ref o), (4, .int (nI (5 * k)))]) hx hb dL_law_367 hl (by decide) rfl (fun ls hl => ?_)
  refine lv_aload_n hx hb dL_law_369 rfl (lv_at hl 3 rfl) ?_
  refine g_arg (j := 1) hx hb hX hbl hW.2.1 hL hk (by decide) (by decide) eu1 (lv_sub hl [1, 5] rfl) dL_law_370 dL_law_371 dL_law_373 dL_law_374 dL_law_375 ?_
  refine mk_i (va_runV (As := [.int (nI u1)]) (rest := []) (nL := 7) ⟨hx, hb, hml, hown, hts⟩ (c5_shipAt l G ad σ u1 hu1 b0 (fun s _ => b7 s) (fun r _ => b3 r) (fun k _ => b45 k) b24 M1 H.size hA1) (cwV 1 hts gL_law_X5_shipAt rfl rfl rfl (by decide +kernel) ⟨(Nat.le_of_ble_eq_true rfl), (Nat.le_of_ble_eq_true rfl)⟩) (mp_V hK hE hW hA (mW_recv hK hW.1 (hA1.1 0 (by decide)) (by rfl))) rfl rfl hl.1 rfl (lv_room (Nat.le_of_ble_eq_true rfl)) dL_law_376 ⟨(show cells + 5 + 0 ≤ 601024 by omega), (show slots + 30 + 0 ≤ 7293034 by omega)⟩) hW hA (fun r2 M2 H locs hp hW => ?_)
  obtain ⟨σ2, hp1, hA2, hF2⟩ := hp
  obtain ⟨h25, N2, Γ2, ρ2, f2, hI2, h002, h0⟩ := hst2 r2 σ2 M2 hp1 hA2 hF2
  exact g_tail (a1 := Γ 0 0) (i4 := nI (5 * k)) B hW hI2 h25 (by unfold thS; (repeat' split) <;> omega) h0 hl dL_law_379 dL_law_381 dL_law_382 dL_law_385 dL_law_387 dL_law_392 dL_law_394 dL_law_397 dL_law_398 dL_law_399 dL_law_400 dL_law_402 dL_law_403 dL_law_404 dL_law_409 (by decide) (show cells + 5 + 0 ≤ 601024 by omega) (show slots + 30 + 0 ≤ 7293034 by omega) (fun H locs ls M N hW hI hl => W.widen (k := cells + 47) (n := slots + 3000) (by omega) (by omega) (kk H locs ls ⟨M, N, Γ2, σ2, ρ2, f2, hI, h002, hW⟩ hl))

set_option maxHeartbeats 4000000 in
set_option maxRecDepth 100000 in
theorem g_today {p : Program} {l : Launch} {e : Env} {s : State} {m : MethodId} {below : List Frame} {meth : Method} {c : Code} {H : Heap} {locs : List Loc} {cells slots : Nat} {Q : State → Prop} {b L : Nat} {xs : Nat → Int32} {ls : Array Slot} {G : mG} (B : gB p l s m c b L xs G) {k : Nat} (hk : 5 * k + 5 ≤ L) {a1 o : Nat} {ad : Nat → Nat} (hJ : gJ G s a1 ad o H locs) (hl : lv_has ls 7 (gLv b a1 (ad 0) o (nI (5 * k)))) (hc : cells + 47 ≤ 601024) (hs : slots + 3000 ≤ 7293034)
    (kk : ∀ (H : Heap) (locs : List Loc) (ls : Array Slot), gJ G s a1 ad o H locs → lv_has ls 7 (gLv b a1 (ad 0) o (nI (5 * k))) → W p l e room_1 s m #[Value.ref b] below meth c H locs (cells + 47) (slots + 3000) Q (F0 m 1593 ls [])) : W p l e room_1 s m #[Value.ref b] below meth c H locs cells slots Q (F0 m 859 ls []) := by
  obtain ⟨hx, hb, hml, hown, hts, hX, hbl, hK, hE, hN, hL, hst⟩ := id B
  obtain ⟨M, N, Γ, σ, ρ, f, hI, h00, hW⟩ := hJ
  subst h00
  have hA : ∀ q, s.heap.size ≤ q → gA s q := fun _ h => h
  refine lv_aload_n hx hb dL_law_859 rfl (lv_at hl 1 rfl) ?_
  refine mk_i (va_runV (As := []) (rest := []) (nL := 7) ⟨hx, hb, hml, hown, hts⟩ (wToday l G N Γ (cs σ ρ) M H.size hI.2.1) (cwV 0 hts gL_law_X4_today rfl rfl rfl (by decide +kernel) ⟨(Nat.le_of_ble_eq_true rfl), (Nat.le_of_ble_eq_true rfl)⟩) (mp_V hK hE hW hA (mW_recv hK hW.1 hI.2.1.o0 (by rfl))) rfl rfl hl.1 rfl (lv_room (Nat.le_of_ble_eq_true rfl)) dL_law_860 ⟨(show cells + 0 ≤ 601024 by omega), (show slots + 0 ≤ 7293034 by omega)⟩) hW hA (fun r1 M1 H locs hp hW => ?_)
  obtain ⟨hr1, hM1⟩ := hp
  have hr1 : r1 = nI (σ 24 0) := hr1
  rw [hM1] at hW
  clear hM1
  subst hr1
  refine lv_aload_n hx hb dL_law_863 rfl (lv_at hl 2 rfl) ?_
  have hA1 := hI.ref
  refine mk_i (va_runV (As := []) (rest := [.int (nI (σ 24 0))]) (nL := 7) ⟨hx, hb, hml, hown, hts⟩ (c5_today l G ad σ M H.size hA1) (cwV 0 hts gL_law_X5_today rfl rfl rfl (by decide +kernel) ⟨(Nat.le_of_ble_eq_true rfl), (Nat.le_of_ble_eq_true rfl)⟩) (mp_V hK hE hW hA (mW_recv hK hW.1 (hA1.1 0 (by decide)) (by rfl))) rfl rfl hl.1 rfl (lv_room (Nat.le_of_ble_eq_true rfl)) dL_law_864 ⟨(show cells + 0 + 0 ≤ 601024 by omega), (show slots + 0 + 0 ≤ 7293034 by omega)⟩) hW hA (fun r2 M2 H locs hp hW => ?_)
  obtain ⟨σ2, ⟨e1, e2⟩, hA2, hF2⟩ := hp
  subst e1
  rw [e2] at hA2
  refine lv_icmp_eq (tgt := 1593) hx hb dL_law_867 (by decide) (fun _ => ?_) (fun z => absurd rfl z)
  exact W.widen (k := cells + 47) (n := slots + 3000) (by omega) (by omega) (kk H locs ls ⟨M2, _, Γ, _, ρ, f, hI.moves hI.1.x25 cs_25 hA2 hF2, rfl, hW⟩ hl)

set_option maxHeartbeats 4000000 in
set_option maxRecDepth 100000 in
theorem g_letters {p : Program} {l : Launch} {e : Env} {s : State} {m : MethodId} {below : List Frame} {meth : Method} {c : Code} {H : Heap} {locs : List Loc} {cells slots : Nat} {Q : State → Prop} {b L : Nat} {xs : Nat → Int32} {ls : Array Slot} {G : mG} (B : gB p l s m c b L xs G) {k : Nat} (hk : 5 * k + 5 ≤ L) {a1 o : Nat} {ad : Nat → Nat} (hJ : gJ G s a1 ad o H locs) (hl : lv_has ls 7 (gLv b a1 (ad 0) o (nI (5 * k)))) (hc : cells + 47 ≤ 601024) (hs : slots + 3000 ≤ 7293034)
    (kk : ∀ (H : Heap) (locs : List Loc) (ls : Array Slot), gJ G s a1 ad o H locs → lv_has ls 7 (gLv b a1 (ad 0) o (nI (5 * k))) → W p l e room_1 s m #[Value.ref b] below meth c H locs (cells + 47) (slots + 3000) Q (F0 m 1593 ls [])) : W p l e room_1 s m #[Value.ref b] below meth c H locs cells slots Q (F0 m 872 ls []) := by
  obtain ⟨hx, hb, hml, hown, hts, hX, hbl, hK, hE, hN, hL, hst⟩ := id B
  obtain ⟨M, N, Γ, σ, ρ, f, hI, h00, hW⟩ := hJ
  subst h00
  have hA : ∀ q, s.heap.size ≤ q → gA s q := fun _ h => h
  refine lv_aload_n hx hb dL_law_872 rfl (lv_at hl 1 rfl) ?_
  refine mk_i (va_runV (As := []) (rest := []) (nL := 7) ⟨hx, hb, hml, hown, hts⟩ (wLetters l G N Γ (cs σ ρ) M H.size hI.2.1) (cwV 0 hts gL_law_X4_letters rfl rfl rfl (by decide +kernel) ⟨(Nat.le_of_ble_eq_true rfl), (Nat.le_of_ble_eq_true rfl)⟩) (mp_V hK hE hW hA (mW_recv hK hW.1 hI.2.1.o0 (by rfl))) rfl rfl hl.1 rfl (lv_room (Nat.le_of_ble_eq_true rfl)) dL_law_873 ⟨(show cells + 0 ≤ 601024 by omega), (show slots + 0 ≤ 7293034 by omega)⟩) hW hA (fun r1 M1 H locs hp hW => ?_)
  obtain ⟨hr1, hM1⟩ := hp
  have hr1 : r1 = nI (σ 8 0) := hr1
  rw [hM1] at hW
  clear hM1
  subst hr1
  refine lv_aload_n hx hb dL_law_876 rfl (lv_at hl 2 rfl) ?_
  have hA1 := hI.ref
  refine mk_i (va_runV (As := []) (rest := [.int (nI (σ 8 0))]) (nL := 7) ⟨hx, hb, hml, hown, hts⟩ (c5_letters l G ad σ M H.size hA1) (cwV 0 hts gL_law_X5_letters rfl rfl rfl (by decide +kernel) ⟨(Nat.le_of_ble_eq_true rfl), (Nat.le_of_ble_eq_true rfl)⟩) (mp_V hK hE hW hA (mW_recv hK hW.1 (hA1.1 0 (by decide)) (by rfl))) rfl rfl hl.1 rfl (lv_room (Nat.le_of_ble_eq_true rfl)) dL_law_877 ⟨(show cells + 0 + 0 ≤ 601024 by omega), (show slots + 0 + 0 ≤ 7293034 by omega)⟩) hW hA (fun r2 M2 H locs hp hW => ?_)
  obtain ⟨σ2, ⟨e1, e2⟩, hA2, hF2⟩ := hp
  subst e1
  rw [e2] at hA2
  refine lv_icmp_eq (tgt := 1593) hx hb dL_law_880 (by decide) (fun _ => ?_) (fun z => absurd rfl z)
  exact W.widen (k := cells + 47) (n := slots + 3000) (by omega) (by omega) (kk H locs ls ⟨M2, _, Γ, _, ρ, f, hI.moves hI.1.x25 cs_25 hA2 hF2, rfl, hW⟩ hl)
