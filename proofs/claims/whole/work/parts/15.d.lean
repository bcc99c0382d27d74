/-! THE LAW: more of its cases (mine; laid by wip/whole/gen) -/
set_option maxHeartbeats 4000000 in
set_option maxRecDepth 100000 in
theorem g_routes {p : Program} {l : Launch} {e : Env} {s : State} {m : MethodId} {below : List Frame} {meth : Method} {c : Code} {H : Heap} {locs : List Loc} {cells slots : Nat} {Q : State → Prop} {b L : Nat} {xs : Nat → Int32} {ls : Array Slot} {G : mG} (B : gB p l s m c b L xs G) {k : Nat} (hk : 5 * k + 5 ≤ L) {a1 o : Nat} {ad : Nat → Nat} (hJ : gJ G s a1 ad o H locs) (hl : lv_has ls 7 (gLv b a1 (ad 0) o (nI (5 * k)))) (hc : cells + 47 ≤ 601024) (hs : slots + 3000 ≤ 7293034)
    (kk : ∀ (H : Heap) (locs : List Loc) (ls : Array Slot), gJ G s a1 ad o H locs → lv_has ls 7 (gLv b a1 (ad 0) o (nI (5 * k))) → W p l e room_1 s m #[Value.ref b] below meth c H locs (cells + 47) (slots + 3000) Q (F0 m 1593 ls [])) : W p l e room_1 s m #[Value.ref b] below meth c H locs cells slots Q (F0 m 412 ls []) := by
  obtain ⟨hx, hb, hml, hown, hts, hX, hbl, hK, hE, hN, hL, hst⟩ := id B
  obtain ⟨M, N, Γ, σ, ρ, f, hI, h00, hW⟩ := hJ
  obtain ⟨u1, hu1, eu1⟩ := nU_of (xs (5 * k + 1))
  subst h00
  have hA : ∀ q, s.heap.size ≤ q → gA s q := fun _ h => h
  have hB : RB σ := hI.1.1.1.b
  obtain ⟨⟨b0, b8, b24⟩, b7, b3, b12, b45, -⟩ := id hB
  refine lv_aload_n hx hb dL_law_412 rfl (lv_at hl 1 rfl) ?_
  refine g_arg (j := 1) hx hb hX hbl hW.2.1 hL hk (by decide) (by decide) eu1 (lv_sub hl [0, 4] rfl) dL_law_413 dL_law_414 dL_law_416 dL_law_417 dL_law_418 ?_
  refine lv_aload_n hx hb dL_law_419 rfl (lv_at hl 3 rfl) ?_
  refine mk_w (vx_runSX (As := [.ref (Γ 0 0), .int (nI u1), .ref o]) (rest := []) (nL := 7) ⟨hx, hb, hml, hown, hts⟩ (l_routes l hst G N Γ σ ρ u1 hu1 hI.1 o f hI.2.2.2.1 M H.size hI.2.1) (vx_cwSW 3 hts gL_law_L_routes rfl rfl rfl (by decide +kernel) ⟨(Nat.le_of_ble_eq_true rfl), (Nat.le_of_ble_eq_true rfl)⟩) (wp_S hK hE hN hW hA) rfl rfl hl.1 rfl (lv_room (Nat.le_of_ble_eq_true rfl)) dL_law_420 ⟨(show cells + 5 ≤ 601024 by omega), (show slots + 30 ≤ 7293034 by omega)⟩) hW hA (fun r1 M1 H locs hp hW => ?_)
  have hp : wEnd G N Γ o f (thS σ u1) (σ 7 u1) ((st σ 25 0 0)) M r1 M1 := wE25 hp
  obtain ⟨hr1, hA1, hst2⟩ := hI.step hp (fun _ => st_s)
  subst hr1
  refine lv_istore (lv' := [(5, .int (nI (thS σ u1))), (0, .ref b), (1, .ref (Γ 0 0)), (2, .ref (ad 0)), (3, .ref o), (4, .int (nI (5 * k)))]) hx hb dL_law_423 hl (by decide) rfl (fun ls hl => ?_)
  refine lv_aload_n hx hb dL_law_425 rfl (lv_at hl 3 rfl) ?_
  refine g_arg (j := 1) hx hb hX hbl hW.2.1 hL hk (by decide) (by decide) eu1 (lv_sub hl [1, 5] rfl) dL_law_426 dL_law_427 dL_law_429 dL_law_430 dL_law_431 ?_
  refine mk_i (va_runV (As := [.int (nI u1)]) (rest := []) (nL := 7) ⟨hx, hb, hml, hown, hts⟩ (c5_routes l G ad σ u1 hu1 b0 M1 H.size hA1) (cwV 1 hts gL_law_X5_routes rfl rfl rfl (by decide +kernel) ⟨(Nat.le_of_ble_eq_true rfl), (Nat.le_of_ble_eq_true rfl)⟩) (mp_V hK hE hW hA (mW_recv hK hW.1 (hA1.1 0 (by decide)) (by rfl))) rfl rfl hl.1 rfl (lv_room (Nat.le_of_ble_eq_true rfl)) dL_law_432 ⟨(show cells + 5 + 0 ≤ 601024 by omega), (show slots + 30 + 0 ≤ 7293034 by omega)⟩) hW hA (fun r2 M2 H locs hp hW => ?_)
  obtain ⟨σ2, hp1, hA2, hF2⟩ := hp
  obtain ⟨h25, N2, Γ2, ρ2, f2, hI2, h002, h0⟩ := hst2 r2 σ2 M2 hp1 hA2 hF2
  exact g_tail (a1 := Γ 0 0) (i4 := nI (5 * k)) B hW hI2 h25 (by unfold thS; (repeat' split) <;> omega) h0 hl dL_law_435 dL_law_437 dL_law_438 dL_law_441 dL_law_443 dL_law_448 dL_law_450 dL_law_453 dL_law_454 dL_law_455 dL_law_456 dL_law_458 dL_law_459 dL_law_460 dL_law_465 (by decide) (show cells + 5 + 0 ≤ 601024 by omega) (show slots + 30 + 0 ≤ 7293034 by omega) (fun H locs ls M N hW hI hl => W.widen (k := cells + 47) (n := slots + 3000) (by omega) (by omega) (kk H locs ls ⟨M, N, Γ2, σ2, ρ2, f2, hI, h002, hW⟩ hl))

set_option maxHeartbeats 4000000 in
set_option maxRecDepth 100000 in
theorem g_word {p : Program} {l : Launch} {e : Env} {s : State} {m : MethodId} {below : List Frame} {meth : Method} {c : Code} {H : Heap} {locs : List Loc} {cells slots : Nat} {Q : State → Prop} {b L : Nat} {xs : Nat → Int32} {ls : Array Slot} {G : mG} (B : gB p l s m c b L xs G) {k : Nat} (hk : 5 * k + 5 ≤ L) {a1 o : Nat} {ad : Nat → Nat} (hJ : gJ G s a1 ad o H locs) (hl : lv_has ls 7 (gLv b a1 (ad 0) o (nI (5 * k)))) (hc : cells + 47 ≤ 601024) (hs : slots + 3000 ≤ 7293034)
    (kk : ∀ (H : Heap) (locs : List Loc) (ls : Array Slot), gJ G s a1 ad o H locs → lv_has ls 7 (gLv b a1 (ad 0) o (nI (5 * k))) → W p l e room_1 s m #[Value.ref b] below meth c H locs (cells + 47) (slots + 3000) Q (F0 m 1593 ls [])) : W p l e room_1 s m #[Value.ref b] below meth c H locs cells slots Q (F0 m 468 ls []) := by
  obtain ⟨hx, hb, hml, hown, hts, hX, hbl, hK, hE, hN, hL, hst⟩ := id B
  obtain ⟨M, N, Γ, σ, ρ, f, hI, h00, hW⟩ := hJ
  obtain ⟨u1, hu1, eu1⟩ := nU_of (xs (5 * k + 1))
  obtain ⟨u2, hu2, eu2⟩ := nU_of (xs (5 * k + 2))
  subst h00
  have hA : ∀ q, s.heap.size ≤ q → gA s q := fun _ h => h
  have hB : RB σ := hI.1.1.1.b
  obtain ⟨⟨b0, b8, b24⟩, b7, b3, b12, b45, -⟩ := id hB
  refine lv_aload_n hx hb dL_law_468 rfl (lv_at hl 1 rfl) ?_
  refine g_arg (j := 1) hx hb hX hbl hW.2.1 hL hk (by decide) (by decide) eu1 (lv_sub hl [0, 4] rfl) dL_law_469 dL_law_470 dL_law_472 dL_law_473 dL_law_474 ?_
  refine g_arg (j := 2) hx hb hX hbl hW.2.1 hL hk (by decide) (by decide) eu2 (lv_sub hl [0, 4] rfl) dL_law_475 dL_law_476 dL_law_478 dL_law_479 dL_law_480 ?_
  refine lv_aload_n hx hb dL_law_481 rfl (lv_at hl 3 rfl) ?_
  refine mk_w (vx_runSX (As := [.ref (Γ 0 0), .int (nI u1), .int (nI u2), .ref o]) (rest := []) (nL := 7) ⟨hx, hb, hml, hown, hts⟩ (l_word l hst G N Γ (st σ 25 0 0) ρ u1 hu1 u2 hu2 hI.1.x25 o f hI.2.2.2.1 M H.size (by rw [cs_25]; exact hI.2.1)) (vx_cwSW 4 hts gL_law_L_word rfl rfl rfl (by decide +kernel) ⟨(Nat.le_of_ble_eq_true rfl), (Nat.le_of_ble_eq_true rfl)⟩) (wp_S hK hE hN hW hA) rfl rfl hl.1 rfl (lv_room (Nat.le_of_ble_eq_true rfl)) dL_law_482 ⟨(show cells + 5 ≤ 601024 by omega), (show slots + 30 ≤ 7293034 by omega)⟩) hW hA (fun r1 M1 H locs hp hW => ?_)
  have hp : wEnd G N Γ o f (thW σ u1 u2) (woS (st σ 25 0 0) u1 u2) ((st σ 25 0 0)) M r1 M1 := hp
  obtain ⟨hr1, hA1, hst2⟩ := hI.step hp (fun _ => st_s)
  subst hr1
  refine lv_istore (lv' := [(5, .int (nI (thW σ u1 u2))), (0, .ref b), (1, .ref (Γ 0 0)), (2, .ref (ad 0)), (3, .ref o), (4, .int (nI (5 * k)))]) hx hb dL_law_485 hl (by decide) rfl (fun ls hl => ?_)
  refine lv_aload_n hx hb dL_law_487 rfl (lv_at hl 3 rfl) ?_
  refine g_arg (j := 1) hx hb hX hbl hW.2.1 hL hk (by decide) (by decide) eu1 (lv_sub hl [1, 5] rfl) dL_law_488 dL_law_489 dL_law_491 dL_law_492 dL_law_493 ?_
  refine g_arg (j := 2) hx hb hX hbl hW.2.1 hL hk (by decide) (by decide) eu2 (lv_sub hl [1, 5] rfl) dL_law_494 dL_law_495 dL_law_497 dL_law_498 dL_law_499 ?_
  refine mk_i (va_runV (As := [.int (nI u1), .int (nI u2)]) (rest := []) (nL := 7) ⟨hx, hb, hml, hown, hts⟩ (c5_word l G ad σ u1 u2 hu1 hu2 b0 (fun s _ => b7 s) (fun r _ => b12 r) b24 M1 H.size hA1) (cwV 2 hts gL_law_X5_word rfl rfl rfl (by decide +kernel) ⟨(Nat.le_of_ble_eq_true rfl), (Nat.le_of_ble_eq_true rfl)⟩) (mp_V hK hE hW hA (mW_recv hK hW.1 (hA1.1 0 (by decide)) (by rfl))) rfl rfl hl.1 rfl (lv_room (Nat.le_of_ble_eq_true rfl)) dL_law_500 ⟨(show cells + 5 + 0 ≤ 601024 by omega), (show slots + 30 + 0 ≤ 7293034 by omega)⟩) hW hA (fun r2 M2 H locs hp hW => ?_)
  obtain ⟨σ2, hp1, hA2, hF2⟩ := hp
  obtain ⟨h25, N2, Γ2, ρ2, f2, hI2, h002, h0⟩ := hst2 r2 σ2 M2 hp1 hA2 hF2
  exact g_tail (a1 := Γ 0 0) (i4 := nI (5 * k)) B hW hI2 h25 (by unfold thW; (repeat' split) <;> omega) h0 hl dL_law_503 dL_law_505 dL_law_506 dL_law_509 dL_law_511 dL_law_516 dL_law_518 dL_law_521 dL_law_522 dL_law_523 dL_law_524 dL_law_526 dL_law_527 dL_law_528 dL_law_533 (by decide) (show cells + 5 + 0 ≤ 601024 by omega) (show slots + 30 + 0 ≤ 7293034 by omega) (fun H locs ls M N hW hI hl => W.widen (k := cells + 47) (n := slots + 3000) (by omega) (by omega) (kk H locs ls ⟨M, N, Γ2, σ2, ρ2, f2, hI, h002, hW⟩ hl))

set_option maxHeartbeats 4000000 in
set_option maxRecDepth 100000 in
theorem g_behind {p : Program} {l : Launch} {e : Env} {s : State} {m : MethodId} {below : List Frame} {meth : Method} {c : Code} {H : Heap} {locs : List Loc} {cells slots : Nat} {Q : State → Prop} {b L : Nat} {xs : Nat → Int32} {ls : Array Slot} {G : mG} (B : gB p l s m c b L xs G) {k : Nat} (hk : 5 * k + 5 ≤ L) {a1 o : Nat} {ad : Nat → Nat} (hJ : gJ G s a1 ad o H locs) (hl : lv_has ls 7 (gLv b a1 (ad 0) o (nI (5 * k)))) (hc : cells + 47 ≤ 601024) (hs : slots + 3000 ≤ 7293034)
    (kk : ∀ (H : Heap) (locs : List Loc) (ls : Array Slot), gJ G s a1 ad o H locs → lv_has ls 7 (gLv b a1 (ad 0) o (nI (5 * k))) → W p l e room_1 s m #[Value.ref b] below meth c H locs (cells + 47) (slots + 3000) Q (F0 m 1593 ls [])) : W p l e room_1 s m #[Value.ref b] below meth c H locs cells slots Q (F0 m 536 ls []) := by
  obtain ⟨hx, hb, hml, hown, hts, hX, hbl, hK, hE, hN, hL, hst⟩ := id B
  obtain ⟨M, N, Γ, σ, ρ, f, hI, h00, hW⟩ := hJ
  obtain ⟨u1, hu1, eu1⟩ := nU_of (xs (5 * k + 1))
  subst h00
  have hA : ∀ q, s.heap.size ≤ q → gA s q := fun _ h => h
  have hB : RB σ := hI.1.1.1.b
  obtain ⟨⟨b0, b8, b24⟩, b7, b3, b12, b45, -⟩ := id hB
  refine lv_aload_n hx hb dL_law_536 rfl (lv_at hl 1 rfl) ?_
  refine g_arg (j := 1) hx hb hX hbl hW.2.1 hL hk (by decide) (by decide) eu1 (lv_sub hl [0, 4] rfl) dL_law_537 dL_law_538 dL_law_540 dL_law_541 dL_law_542 ?_
  refine lv_aload_n hx hb dL_law_543 rfl (lv_at hl 3 rfl) ?_
  refine mk_w (vx_runSX (As := [.ref (Γ 0 0), .int (nI u1), .ref o]) (rest := []) (nL := 7) ⟨hx, hb, hml, hown, hts⟩ (l_behind l hst G N Γ (st σ 25 0 0) ρ u1 hu1 hI.1.x25 o f hI.2.2.2.1 M H.size (by rw [cs_25]; exact hI.2.1)) (vx_cwSW 3 hts gL_law_L_behind rfl rfl rfl (by decide +kernel) ⟨(Nat.le_of_ble_eq_true rfl), (Nat.le_of_ble_eq_true rfl)⟩) (wp_S hK hE hN hW hA) rfl rfl hl.1 rfl (lv_room (Nat.le_of_ble_eq_true rfl)) dL_law_544 ⟨(show cells + 5 ≤ 601024 by omega), (show slots + 30 ≤ 7293034 by omega)⟩) hW hA (fun r1 M1 H locs hp hW => ?_)
  have hp : wEnd G N Γ o f (thS σ u1) (beF (st σ 25 0 0) u1 10) ((st σ 25 0 0)) M r1 M1 := hp
  obtain ⟨hr1, hA1, hst2⟩ := hI.step hp (fun _ => st_s)
  subst hr1
  refine lv_istore (lv' := [(5, .int (nI (thS σ u1))), (0, .ref b), (1, .ref (Γ 0 0)), (2, .ref (ad 0)), (3, .ref o), (4, .int (nI (5 * k)))]) hx hb dL_law_547 hl (by decide) rfl (fun ls hl => ?_)
  refine lv_aload_n hx hb dL_law_549 rfl (lv_at hl 3 rfl) ?_
  refine g_arg (j := 1) hx hb hX hbl hW.2.1 hL hk (by decide) (by decide) eu1 (lv_sub hl [1, 5] rfl) dL_law_550 dL_law_551 dL_law_553 dL_law_554 dL_law_555 ?_
  refine mk_i (va_runV (As := [.int (nI u1)]) (rest := []) (nL := 7) ⟨hx, hb, hml, hown, hts⟩ (c5_behind l G ad σ u1 hu1 b0 (fun s _ => b7 s) (fun r _ => b12 r) b24 M1 H.size hA1) (cwV 1 hts gL_law_X5_behind rfl rfl rfl (by decide +kernel) ⟨(Nat.le_of_ble_eq_true rfl), (Nat.le_of_ble_eq_true rfl)⟩) (mp_V hK hE hW hA (mW_recv hK hW.1 (hA1.1 0 (by decide)) (by rfl))) rfl rfl hl.1 rfl (lv_room (Nat.le_of_ble_eq_true rfl)) dL_law_556 ⟨(show cells + 5 + 0 ≤ 601024 by omega), (show slots + 30 + 0 ≤ 7293034 by omega)⟩) hW hA (fun r2 M2 H locs hp hW => ?_)
  obtain ⟨σ2, hp1, hA2, hF2⟩ := hp
  obtain ⟨h25, N2, Γ2, ρ2, f2, hI2, h002, h0⟩ := hst2 r2 σ2 M2 hp1 hA2 hF2
  exact g_tail (a1 := Γ 0 0) (i4 := nI (5 * k)) B hW hI2 h25 (by unfold thS; (repeat' split) <;> omega) h0 hl dL_law_559 dL_law_561 dL_law_562 dL_law_565 dL_law_567 dL_law_572 dL_law_574 dL_law_577 dL_law_578 dL_law_579 dL_law_580 dL_law_582 dL_law_583 dL_law_584 dL_law_589 (by decide) (show cells + 5 + 0 ≤ 601024 by omega) (show slots + 30 + 0 ≤ 7293034 by omega) (fun H locs ls M N hW hI hl => W.widen (k := cells + 47) (n := slots + 3000) (by omega) (by omega) (kk H locs ls ⟨M, N, Γ2, σ2, ρ2, f2, hI, h002, hW⟩ hl))

set_option maxHeartbeats 4000000 in
set_option maxRecDepth 100000 in
theorem g_post {p : Program} {l : Launch} {e : Env} {s : State} {m : MethodId} {below : List Frame} {meth : Method} {c : Code} {H : Heap} {locs : List Loc} {cells slots : Nat} {Q : State → Prop} {b L : Nat} {xs : Nat → Int32} {ls : Array Slot} {G : mG} (B : gB p l s m c b L xs G) {k : Nat} (hk : 5 * k + 5 ≤ L) {a1 o : Nat} {ad : Nat → Nat} (hJ : gJ G s a1 ad o H locs) (hl : lv_has ls 7 (gLv b a1 (ad 0) o (nI (5 * k)))) (hc : cells + 47 ≤ 601024) (hs : slots + 3000 ≤ 7293034)
    (kk : ∀ (H : Heap) (locs : List Loc) (ls : Array Slot), gJ G s a1 ad o H locs → lv_has ls 7 (gLv b a1 (ad 0) o (nI (5 * k))) → W p l e room_1 s m #[Value.ref b] below meth c H locs (cells + 47) (slots + 3000) Q (F0 m 1593 ls [])) : W p l e room_1 s m #[Value.ref b] below meth c H locs cells slots Q (F0 m 592 ls []) := by
  obtain ⟨hx, hb, hml, hown, hts, hX, hbl, hK, hE, hN, hL, hst⟩ := id B
  obtain ⟨M, N, Γ, σ, ρ, f, hI, h00, hW⟩ := hJ
  obtain ⟨u1, hu1, eu1⟩ := nU_of (xs (5 * k + 1))
  obtain ⟨u2, hu2, eu2⟩ := nU_of (xs (5 * k + 2))
  obtain ⟨u3, hu3, eu3⟩ := nU_of (xs (5 * k + 3))
  subst h00
  have hA : ∀ q, s.heap.size ≤ q → gA s q := fun _ h => h
  have hB : RB σ := hI.1.1.1.b
  obtain ⟨⟨b0, b8, b24⟩, b7, b3, b12, b45, -⟩ := id hB
  refine lv_aload_n hx hb dL_law_592 rfl (lv_at hl 1 rfl) ?_
  refine g_arg (j := 1) hx hb hX hbl hW.2.1 hL hk (by decide) (by decide) eu1 (lv_sub hl [0, 4] rfl) dL_law_593 dL_law_594 dL_law_596 dL_law_597 dL_law_598 ?_
  refine g_arg (j := 2) hx hb hX hbl hW.2.1 hL hk (by decide) (by decide) eu2 (lv_sub hl [0, 4] rfl) dL_law_599 dL_law_600 dL_law_602 dL_law_603 dL_law_604 ?_
  refine g_arg (j := 3) hx hb hX hbl hW.2.1 hL hk (by decide) (by decide) eu3 (lv_sub hl [0, 4] rfl) dL_law_605 dL_law_606 dL_law_608 dL_law_609 dL_law_610 ?_
  refine lv_aload_n hx hb dL_law_611 rfl (lv_at hl 3 rfl) ?_
  refine mk_w (vx_runSX (As := [.ref (Γ 0 0), .int (nI u1), .int (nI u2), .int (nI u3), .ref o]) (rest := []) (nL := 7) ⟨hx, hb, hml, hown, hts⟩ (l_post l hst G N Γ (st σ 25 0 0) ρ u1 hu1 u2 hu2 u3 hu3 hI.1.x25 o f hI.2.2.2.1 M H.size (by rw [cs_25]; exact hI.2.1)) (vx_cwSW 5 hts gL_law_L_post rfl rfl rfl (by decide +kernel) ⟨(Nat.le_of_ble_eq_true rfl), (Nat.le_of_ble_eq_true rfl)⟩) (wp_S hK hE hN hW hA) rfl rfl hl.1 rfl (lv_room (Nat.le_of_ble_eq_true rfl)) dL_law_612 ⟨(show cells + 9 ≤ 601024 by omega), (show slots + 300 ≤ 7293034 by omega)⟩) hW hA (fun r1 M1 H locs hp hW => ?_)
  have hp : wEnd G N Γ o f (thP σ u1 u2 u3) (σ 8 0) (po (st σ 25 0 0) u1 u2 u3) M r1 M1 := hp
  obtain ⟨hr1, hA1, hst2⟩ := hI.step hp (fun z => (po_25 hI.1.1.x25 (thP_0 z).2 (thP_0 z).1.1 (thP_0 z).1.2.1 (thP_0 z).1.2.2 b8).trans st_s)
  subst hr1
  refine lv_istore (lv' := [(5, .int (nI (thP σ u1 u2 u3))), (0, .ref b), (1, .ref (Γ 0 0)), (2, .ref (ad 0)), (3, .ref o), (4, .int (nI (5 * k)))]) hx hb dL_law_615 hl (by decide) rfl (fun ls hl => ?_)
  refine lv_aload_n hx hb dL_law_617 rfl (lv_at hl 3 rfl) ?_
  refine g_arg (j := 1) hx hb hX hbl hW.2.1 hL hk (by decide) (by decide) eu1 (lv_sub hl [1, 5] rfl) dL_law_618 dL_law_619 dL_law_621 dL_law_622 dL_law_623 ?_
  refine g_arg (j := 2) hx hb hX hbl hW.2.1 hL hk (by decide) (by decide) eu2 (lv_sub hl [1, 5] rfl) dL_law_624 dL_law_625 dL_law_627 dL_law_628 dL_law_629 ?_
  refine g_arg (j := 3) hx hb hX hbl hW.2.1 hL hk (by decide) (by decide) eu3 (lv_sub hl [1, 5] rfl) dL_law_630 dL_law_631 dL_law_633 dL_law_634 dL_law_635 ?_
  refine mk_i (va_runV (As := [.int (nI u1), .int (nI u2), .int (nI u3)]) (rest := []) (nL := 7) ⟨hx, hb, hml, hown, hts⟩ (c5_post l G ad σ u1 u2 u3 hu1 hu2 hu3 hI.1.1 M1 H.size hA1) (cwV 3 hts gL_law_X5_post rfl rfl rfl (by decide +kernel) ⟨(Nat.le_of_ble_eq_true rfl), (Nat.le_of_ble_eq_true rfl)⟩) (mp_V hK hE hW hA (mW_recv hK hW.1 (hA1.1 0 (by decide)) (by rfl))) rfl rfl hl.1 rfl (lv_room (Nat.le_of_ble_eq_true rfl)) dL_law_636 ⟨(show cells + 9 + 0 ≤ 601024 by omega), (show slots + 300 + 0 ≤ 7293034 by omega)⟩) hW hA (fun r2 M2 H locs hp hW => ?_)
  obtain ⟨σ2, hp1, hA2, hF2⟩ := hp
  obtain ⟨h25, N2, Γ2, ρ2, f2, hI2, h002, h0⟩ := hst2 r2 σ2 M2 hp1 hA2 hF2
  exact g_tail (a1 := Γ 0 0) (i4 := nI (5 * k)) B hW hI2 h25 (by unfold thP; (repeat' split) <;> omega) h0 hl dL_law_639 dL_law_641 dL_law_642 dL_law_645 dL_law_647 dL_law_652 dL_law_654 dL_law_657 dL_law_658 dL_law_659 dL_law_660 dL_law_662 dL_law_663 dL_law_664 dL_law_669 (by decide) (show cells + 9 + 0 ≤ 601024 by omega) (show slots + 300 + 0 ≤ 7293034 by omega) (fun H locs ls M N hW hI hl => W.widen (k := cells + 47) (n := slots + 3000) (by omega) (by omega) (kk H locs ls ⟨M, N, Γ2, σ2, ρ2, f2, hI, h002, hW⟩ hl))

set_option maxHeartbeats 4000000 in
set_option maxRecDepth 100000 in
theorem g_strike {p : Program} {l : Launch} {e : Env} {s : State} {m : MethodId} {below : List Frame} {meth : Method} {c : Code} {H : Heap} {locs : List Loc} {cells slots : Nat} {Q : State → Prop} {b L : Nat} {xs : Nat → Int32} {ls : Array Slot} {G : mG} (B : gB p l s m c b L xs G) {k : Nat} (hk : 5 * k + 5 ≤ L) {a1 o : Nat} {ad : Nat → Nat} (hJ : gJ G s a1 ad o H locs) (hl : lv_has ls 7 (gLv b a1 (ad 0) o (nI (5 * k)))) (hc : cells + 47 ≤ 601024) (hs : slots + 3000 ≤ 7293034)
    (kk : ∀ (H : Heap) (locs : List Loc) (ls : Array Slot), gJ G s a1 ad o H locs → lv_has ls 7 (gLv b a1 (ad 0) o (nI (5 * k))) → W p l e room_1 s m #[Value.ref b] below meth c H locs (cells + 47) (slots + 3000) Q (F0 m 1593 ls [])) : W p l e room_1 s m #[Value.ref b] below meth c H locs cells slots Q (F0 m 672 ls []) := by
  obtain ⟨hx, hb, hml, hown, hts, hX, hbl, hK, hE, hN, hL, hst⟩ := id B
  obtain ⟨M, N, Γ, σ, ρ, f, hI, h00, hW⟩ := hJ
  obtain ⟨u1, hu1, eu1⟩ := nU_of (xs (5 * k + 1))
  obtain ⟨u2, hu2, eu2⟩ := nU_of (xs (5 * k + 2))
  subst h00
  have hA : ∀ q, s.heap.size ≤ q → gA s q := fun _ h => h
  have hB : RB σ := hI.1.1.1.b
  obtain ⟨⟨b0, b8, b24⟩, b7, b3, b12, b45, -⟩ := id hB
  refine lv_aload_n hx hb dL_law_672 rfl (lv_at hl 1 rfl) ?_
  refine g_arg (j := 1) hx hb hX hbl hW.2.1 hL hk (by decide) (by decide) eu1 (lv_sub hl [0, 4] rfl) dL_law_673 dL_law_674 dL_law_676 dL_law_677 dL_law_678 ?_
  refine g_arg (j := 2) hx hb hX hbl hW.2.1 hL hk (by decide) (by decide) eu2 (lv_sub hl [0, 4] rfl) dL_law_679 dL_law_680 dL_law_682 dL_law_683 dL_law_684 ?_
  refine lv_aload_n hx hb dL_law_685 rfl (lv_at hl 3 rfl) ?_
  refine mk_w (vx_runSX (As := [.ref (Γ 0 0), .int (nI u1), .int (nI u2), .ref o]) (rest := []) (nL := 7) ⟨hx, hb, hml, hown, hts⟩ (l_strike l hst G N Γ (st σ 25 0 0) ρ u1 hu1 u2 hu2 hI.1.x25 o f hI.2.2.2.1 M H.size (by rw [cs_25]; exact hI.2.1)) (vx_cwSW 4 hts gL_law_L_strike rfl rfl rfl (by decide +kernel) ⟨(Nat.le_of_ble_eq_true rfl), (Nat.le_of_ble_eq_true rfl)⟩) (wp_S hK hE hN hW hA) rfl rfl hl.1 rfl (lv_room (Nat.le_of_ble_eq_true rfl)) dL_law_686 ⟨(show cells + 5 ≤ 601024 by omega), (show slots + 30 ≤ 7293034 by omega)⟩) hW hA (fun r1 M1 H locs hp hW => ?_)
  have hp : wEnd G N Γ o f (thK σ u1 u2) (opS σ u1 u2) (nxK (st σ 25 0 0) u1 u2) M r1 M1 := hp
  obtain ⟨hr1, hA1, hst2⟩ := hI.step hp (fun _ => by unfold nxK; rw [st_f (by decide), st_s])
  subst hr1
  refine lv_istore (lv' := [(5, .int (nI (thK σ u1 u2))), (0, .ref b), (1, .ref (Γ 0 0)), (2, .ref (ad 0)), (3, .ref o), (4, .int (nI (5 * k)))]) hx hb dL_law_689 hl (by decide) rfl (fun ls hl => ?_)
  refine lv_aload_n hx hb dL_law_691 rfl (lv_at hl 3 rfl) ?_
  refine g_arg (j := 1) hx hb hX hbl hW.2.1 hL hk (by decide) (by decide) eu1 (lv_sub hl [1, 5] rfl) dL_law_692 dL_law_693 dL_law_695 dL_law_696 dL_law_697 ?_
  refine g_arg (j := 2) hx hb hX hbl hW.2.1 hL hk (by decide) (by decide) eu2 (lv_sub hl [1, 5] rfl) dL_law_698 dL_law_699 dL_law_701 dL_law_702 dL_law_703 ?_
  refine mk_i (va_runV (As := [.int (nI u1), .int (nI u2)]) (rest := []) (nL := 7) ⟨hx, hb, hml, hown, hts⟩ (c5_strike l G ad σ u1 u2 hu1 hu2 hB M1 H.size hA1) (cwV 2 hts gL_law_X5_strike rfl rfl rfl (by decide +kernel) ⟨(Nat.le_of_ble_eq_true rfl), (Nat.le_of_ble_eq_true rfl)⟩) (mp_V hK hE hW hA (mW_recv hK hW.1 (hA1.1 0 (by decide)) (by rfl))) rfl rfl hl.1 rfl (lv_room (Nat.le_of_ble_eq_true rfl)) dL_law_704 ⟨(show cells + 5 + 0 ≤ 601024 by omega), (show slots + 30 + 0 ≤ 7293034 by omega)⟩) hW hA (fun r2 M2 H locs hp hW => ?_)
  obtain ⟨σ2, hp1, hA2, hF2⟩ := hp
  obtain ⟨h25, N2, Γ2, ρ2, f2, hI2, h002, h0⟩ := hst2 r2 σ2 M2 hp1 hA2 hF2
  exact g_tail (a1 := Γ 0 0) (i4 := nI (5 * k)) B hW hI2 h25 (by unfold thK; (repeat' split) <;> omega) h0 hl dL_law_707 dL_law_709 dL_law_710 dL_law_713 dL_law_715 dL_law_720 dL_law_722 dL_law_725 dL_law_726 dL_law_727 dL_law_728 dL_law_730 dL_law_731 dL_law_732 dL_law_737 (by decide) (show cells + 5 + 0 ≤ 601024 by omega) (show slots + 30 + 0 ≤ 7293034 by omega) (fun H locs ls M N hW hI hl => W.widen (k := cells + 47) (n := slots + 3000) (by omega) (by omega) (kk H locs ls ⟨M, N, Γ2, σ2, ρ2, f2, hI, h002, hW⟩ hl))

set_option maxHeartbeats 4000000 in
set_option maxRecDepth 100000 in
theorem g_isClosed {p : Program} {l : Launch} {e : Env} {s : State} {m : MethodId} {below : List Frame} {meth : Method} {c : Code} {H : Heap} {locs : List Loc} {cells slots : Nat} {Q : State → Prop} {b L : Nat} {xs : Nat → Int32} {ls : Array Slot} {G : mG} (B : gB p l s m c b L xs G) {k : Nat} (hk : 5 * k + 5 ≤ L) {a1 o : Nat} {ad : Nat → Nat} (hJ : gJ G s a1 ad o H locs) (hl : lv_has ls 7 (gLv b a1 (ad 0) o (nI (5 * k)))) (hc : cells + 47 ≤ 601024) (hs : slots + 3000 ≤ 7293034)
    (kk : ∀ (H : Heap) (locs : List Loc) (ls : Array Slot), gJ G s a1 ad o H locs → lv_has ls 7 (gLv b a1 (ad 0) o (nI (5 * k))) → W p l e room_1 s m #[Value.ref b] below meth c H locs (cells + 47) (slots + 3000) Q (F0 m 1593 ls [])) : W p l e room_1 s m #[Value.ref b] below meth c H locs cells slots Q (F0 m 740 ls []) := by
  obtain ⟨hx, hb, hml, hown, hts, hX, hbl, hK, hE, hN, hL, hst⟩ := id B
  obtain ⟨M, N, Γ, σ, ρ, f, hI, h00, hW⟩ := hJ
  obtain ⟨u1, hu1, eu1⟩ := nU_of (xs (5 * k + 1))
  subst h00
  have hA : ∀ q, s.heap.size ≤ q → gA s q := fun _ h => h
  have hB : RB σ := hI.1.1.1.b
  obtain ⟨⟨b0, b8, b24⟩, b7, b3, b12, b45, -⟩ := id hB
  refine lv_aload_n hx hb dL_law_740 rfl (lv_at hl 1 rfl) ?_
  refine g_arg (j := 1) hx hb hX hbl hW.2.1 hL hk (by decide) (by decide) eu1 (lv_sub hl [0, 4] rfl) dL_law_741 dL_law_742 dL_law_744 dL_law_745 dL_law_746 ?_
  refine lv_aload_n hx hb dL_law_747 rfl (lv_at hl 3 rfl) ?_
  refine mk_w (vx_runSX (As := [.ref (Γ 0 0), .int (nI u1), .ref o]) (rest := []) (nL := 7) ⟨hx, hb, hml, hown, hts⟩ (l_isClosed l hst G N Γ σ ρ u1 hu1 hI.1 o f hI.2.2.2.1 M H.size hI.2.1) (vx_cwSW 3 hts gL_law_L_isClosed rfl rfl rfl (by decide +kernel) ⟨(Nat.le_of_ble_eq_true rfl), (Nat.le_of_ble_eq_true rfl)⟩) (wp_S hK hE hN hW hA) rfl rfl hl.1 rfl (lv_room (Nat.le_of_ble_eq_true rfl)) dL_law_748 ⟨(show cells + 5 ≤ 601024 by omega), (show slots + 30 ≤ 7293034 by omega)⟩) hW hA (fun r1 M1 H locs hp hW => ?_)
  have hp : wEnd G N Γ o f (thI σ u1) (if shut σ u1 then 1 else 0) ((st σ 25 0 0)) M r1 M1 := wE25 hp
  obtain ⟨hr1, hA1, hst2⟩ := hI.step hp (fun _ => st_s)
  subst hr1
  refine lv_istore (lv' := [(5, .int (nI (thI σ u1))), (0, .ref b), (1, .ref (Γ 0 0)), (2, .ref (ad 0)), (3, .ref o), (4, .int (nI (5 * k)))]) hx hb dL_law_751 hl (by decide) rfl (fun ls hl => ?_)
  refine lv_aload_n hx hb dL_law_753 rfl (lv_at hl 3 rfl) ?_
  refine g_arg (j := 1) hx hb hX hbl hW.2.1 hL hk (by decide) (by decide) eu1 (lv_sub hl [1, 5] rfl) dL_law_754 dL_law_755 dL_law_757 dL_law_758 dL_law_759 ?_
  refine mk_i (va_runV (As := [.int (nI u1)]) (rest := []) (nL := 7) ⟨hx, hb, hml, hown, hts⟩ (c5_isClosed l G ad σ u1 hu1 hB M1 H.size hA1) (cwV 1 hts gL_law_X5_isClosed rfl rfl rfl (by decide +kernel) ⟨(Nat.le_of_ble_eq_true rfl), (Nat.le_of_ble_eq_true rfl)⟩) (mp_V hK hE hW hA (mW_recv hK hW.1 (hA1.1 0 (by decide)) (by rfl))) rfl rfl hl.1 rfl (lv_room (Nat.le_of_ble_eq_true rfl)) dL_law_760 ⟨(show cells + 5 + 0 ≤ 601024 by omega), (show slots + 30 + 0 ≤ 7293034 by omega)⟩) hW hA (fun r2 M2 H locs hp hW => ?_)
  obtain ⟨σ2, hp1, hA2, hF2⟩ := hp
  obtain ⟨h25, N2, Γ2, ρ2, f2, hI2, h002, h0⟩ := hst2 r2 σ2 M2 hp1 hA2 hF2
  refine g_tail1 (a1 := Γ 0 0) (i4 := nI (5 * k)) (T := 800) B hW hI2 h25 (by unfold thI; (repeat' split) <;> omega) hl dL_law_763 dL_law_765 dL_law_766 dL_law_769 dL_law_771 dL_law_776 dL_law_778 (by decide) (show cells + 5 + 0 ≤ 601024 by omega) (show slots + 30 + 0 ≤ 7293034 by omega) (fun H locs ls M N z hW hI hl => ?_) (fun H locs ls M N z hW hI hl => ?_)
  · skip
    refine lv_goto (tgt := 1593) hx hb dL_law_800 (by decide) ?_
    exact W.widen (k := cells + 47) (n := slots + 3000) (by omega) (by omega) (kk H locs ls ⟨M, N, Γ2, σ2, ρ2, f2, hI, h002, hW⟩ (lv_sub hl [2, 3, 4, 5, 6] rfl))
  · obtain ⟨e1, e2⟩ := h0 z
    subst e1
    refine lv_aload_n hx hb dL_law_781 rfl (lv_at hl 5 rfl) ?_
    refine lv_iconst (v := nI 0) hx hb dL_law_782 (by decide) ?_
    refine mr_jald hx hb hK hW 3 (Rp.nb hI.2.1 hI.2.2.2.1) (by rfl) (j := 0) rfl (by decide) (by decide) dL_law_783 ?_
    refine lv_iload hx hb dL_law_784 (lv_at hl 0 rfl) ?_
    refine nb_if_eq (tgt := 793) hx hb dL_law_786 (by decide) (fun c1 => ?_) (fun c1 => ?_)
    · skip
      refine lv_lconst (v := (nI 0).toInt64) hx hb dL_law_793 (by decide) ?_
      refine W.lcmp hx hb dL_law_794 (lv_tope (g_cmp (by rw [e2, if_neg c1])) ?_)
      refine lv_if_eq (tgt := 800) hx hb dL_law_795 (by decide) (fun _ => ?_) (fun z => absurd rfl z)
      refine lv_goto (tgt := 1593) hx hb dL_law_800 (by decide) ?_
      exact W.widen (k := cells + 47) (n := slots + 3000) (by omega) (by omega) (kk H locs ls ⟨M, N, Γ2, σ2, ρ2, f2, hI, h002, hW⟩ (lv_sub hl [2, 3, 4, 5, 6] rfl))
    · skip
      refine lv_lconst (v := (nI 1).toInt64) hx hb dL_law_789 (by decide) ?_
      refine lv_goto (tgt := 794) hx hb dL_law_790 (by decide) ?_
      refine W.lcmp hx hb dL_law_794 (lv_tope (g_cmp (by rw [e2, if_pos c1])) ?_)
      refine lv_if_eq (tgt := 800) hx hb dL_law_795 (by decide) (fun _ => ?_) (fun z => absurd rfl z)
      refine lv_goto (tgt := 1593) hx hb dL_law_800 (by decide) ?_
      exact W.widen (k := cells + 47) (n := slots + 3000) (by omega) (by omega) (kk H locs ls ⟨M, N, Γ2, σ2, ρ2, f2, hI, h002, hW⟩ (lv_sub hl [2, 3, 4, 5, 6] rfl))
