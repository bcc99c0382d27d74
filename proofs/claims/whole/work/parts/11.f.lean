/-! THE CLASS: overtaken letters, what the marks tell (mine; the rows are laid by wip/whole/gen) -/
def wmC (ς : Sg) (i x : Nat) : Nat := if ς 17 (200 * i + (ς 18 i - 1)) = 33 then 4294967293 else if ς 17 (200 * i + (ς 18 i - 1)) = 43 ∨ ς 17 (200 * i + (ς 18 i - 1)) = 42 then 4294967292 else if x = ς 18 i - 1 ∧ ς 17 (200 * i + (x - 1)) = 62 then 4294967294 else ς 17 (200 * i + x) - 65
theorem kPort0 (l : Launch) (G : mG) (N : Mem) (Γ : Adr) (ς : Sg) (i x : Nat) (hi : i < ς 33 1) (h18 : ς 18 i ≤ 128) (hs : ∀ j, j < 128 → ς 17 (200 * i + j) < 65536) (hxp : ptF ς i 0 (ς 18 i) = x) (M : Mem) (sz : Nat) (hR : Rp G N Γ ς M) : cMi l yX0_portIndex wsX0_portIndex 0 0 0 G M sz [.ref (Γ 10 i), .int (nI 0)] (fun y9 M' => y9 = nI x ∧ M' = M) := by
  have h := kPort l G N Γ ς i 0 hi h18 hs (by omega) M sz hR
  rw [hxp] at h
  exact h

set_option maxHeartbeats 4000000 in
set_option maxRecDepth 100000 in
theorem kOver (l : Launch) (G : mG) (N : Mem) (Γ : Adr) (ς : Sg) (u i : Nat) (hs : u < ς 33 0) (hi : i < ς 33 1) (hi40 : i < 40) (hn : ς 30 (20 + u) ≤ 40) (hel : ∀ j, j < ς 30 (20 + u) → ς 31 (64 * (20 + u) + j) < 40 ∧ ς 31 (64 * (20 + u) + j) < ς 33 1) (h16 : ∀ x, x < 40 → ς 16 x < 2147483648) (M : Mem) (sz : Nat) (hR : Rp G N Γ ς M) : cMi l yX3_countOvertakenBy wsX3_countOvertakenBy 3 0 0 G M sz [.ref (Γ 4 u), .ref (Γ 9 i)] (fun y9 M' => y9 = nI (ovC ς u i (ς 30 (20 + u))) ∧ M' = M) := by
  refine m_start cX3_countOvertakenBy 5 (some .int) (by decide) rfl (Nat.le_of_ble_eq_true rfl) ?_
  intro p e s m below meth c ls hx hb hr hml hown hlk hnm hts hK hsz hE hW hl
  have hA := mA_A (M := M) hsz
  have hl : lv_has ls 5 [(0, .ref (Γ 4 u)), (1, .ref (Γ 9 i))] := hl
  have hinX1 : ∀ w ∈ u_ws RX1 TX1 10, w ∈ wsX3_countOvertakenBy := (fun _ h => List.mem_cons_of_mem _ (List.mem_append_left _ (List.mem_append_right _ h)))
  have hinX3 : ∀ w ∈ u_ws RX3 TX3 3, w ∈ wsX3_countOvertakenBy := (fun _ h => List.mem_cons_of_mem _ (List.mem_append_left _ (List.mem_append_left _ (List.mem_append_right _ h))))
  have hinJx4a65c : ∀ w ∈ u_ws RJx4a65c TJx4a65c 3, w ∈ wsX3_countOvertakenBy := (fun _ h => List.mem_cons_of_mem _ (List.mem_append_right _ h))
  refine lv_iconst (v := nI 0) hx hb dX3_countOvertakenBy_0 (by decide) ?_
  refine lv_istore_n (lv' := [(2, .int (nI 0)), (0, .ref (Γ 4 u)), (1, .ref (Γ 9 i))]) hx hb dX3_countOvertakenBy_1 rfl hl (by decide) rfl (fun ls hl => ?_)
  refine lv_iconst (v := nI 0) hx hb dX3_countOvertakenBy_2 (by decide) ?_
  refine lv_istore_n (lv' := [(3, .int (nI 0)), (2, .int (nI 0)), (0, .ref (Γ 4 u)), (1, .ref (Γ 9 i))]) hx hb dX3_countOvertakenBy_3 rfl hl (by decide) rfl (fun ls hl => ?_)
  refine m_loop (ς 30 (20 + u)) (fun j H locs ls => mW G.1 vwCl (mA M sz) s.heap M H locs ∧ lv_has ls 5 [(3, .int (nI j)), (0, .ref (Γ 4 u)), (1, .ref (Γ 9 i)), (2, .int (nI (ovC ς u i j)))]) 0 (by omega) ⟨hW, lv_sub hl [0, 2, 3, 1] rfl⟩ (fun j H locs ls hj hI ih => ?_)
  obtain ⟨hW, hl⟩ := hI
  refine lv_iload_n hx hb dX3_countOvertakenBy_4 rfl (lv_at hl 0 rfl) ?_
  refine lv_aload_n hx hb dX3_countOvertakenBy_5 rfl (lv_at hl 1 rfl) ?_
  refine mr_get hx hb hts hinX3 hown hK hW (hR.o4 (i := u) hs) (by rfl) 1 (by decide) (hts (.fieldLink RX3 18 "SeaPost$Ship" "received" "Ljava/util/ArrayList;") (by decide +kernel)) (fun _ h => h) rfl dX3_countOvertakenBy_6 ?_
  obtain ⟨z_1m, z_1a, z_1f, z_1, -, -⟩ := hR.o2 (x := 20 + u) (isL_r hs)
  refine mk_i (va_runV (As := []) (nL := 5) ⟨hx, hb, hml, hown, hts⟩ (kSize l G N Γ ς (20 + u) (isL_r hs) _ _ hR) (cwV 0 hts gX3_countOvertakenBy_Jx4a65c_size_8abf5 rfl rfl rfl (by decide +kernel) ⟨(Nat.le_of_ble_eq_true rfl), (Nat.le_of_ble_eq_true rfl)⟩) (mp_V hK hE hW hA (mW_recv hK hW.1 z_1 (by rfl))) rfl rfl hl.1 rfl (lv_room (Nat.le_of_ble_eq_true rfl)) dX3_countOvertakenBy_9 ⟨(Nat.le_of_ble_eq_true rfl), (Nat.le_of_ble_eq_true rfl)⟩) hW hA (fun r9 M9 H locs hp_2 hW => ?_)
  obtain ⟨e91, e92⟩ := hp_2
  subst e91
  rw [e92] at hW
  clear e92
  refine W.eq (g2 := F0 m 12 ls [.int (nI (ς 30 (20 + u))), .int (nI j)]) rfl ?_
  refine nv_icmp_ge (u := j) (v := ς 30 (20 + u)) (tgt := 61) hx hb dX3_countOvertakenBy_12 (by decide) (by omega) (by omega) (fun c_3 => ?_) (fun c_3 => ?_)
  · skip
    refine lv_iload_n hx hb dX3_countOvertakenBy_61 rfl (lv_at hl 3 rfl) ?_
    exact mr_iret hx hb hr hlk (Nat.le_of_ble_eq_true rfl) (Nat.le_of_ble_eq_true rfl) hW ⟨congrArg nI (congrArg _ (show j = ς 30 (20 + u) by omega)), rfl⟩ dX3_countOvertakenBy_62
  · skip
    have ho := hel j (by omega)
    have h16o := h16 _ ho.1
    have h16i := h16 i hi40
    refine lv_aload_n hx hb dX3_countOvertakenBy_15 rfl (lv_at hl 1 rfl) ?_
    refine mr_get hx hb hts hinX3 hown hK hW (hR.o4 (i := u) hs) (by rfl) 1 (by decide) (hts (.fieldLink RX3 18 "SeaPost$Ship" "received" "Ljava/util/ArrayList;") (by decide +kernel)) (fun _ h => h) rfl dX3_countOvertakenBy_16 ?_
    refine lv_iload_n hx hb dX3_countOvertakenBy_19 rfl (lv_at hl 0 rfl) ?_
    obtain ⟨z_4m, z_4a, z_4f, z_4, -, -⟩ := hR.o2 (x := 20 + u) (isL_r hs)
    refine mk_q (va_runV (As := [.int (nI j)]) (nL := 5) ⟨hx, hb, hml, hown, hts⟩ (kGetR l G N Γ ς u j hs (by omega) _ _ hR) (cwV 1 hts gX3_countOvertakenBy_Jx4a65c_get_915e3 rfl rfl rfl (by decide +kernel) ⟨(Nat.le_of_ble_eq_true rfl), (Nat.le_of_ble_eq_true rfl)⟩) (mp_V hK hE hW hA (mW_recv hK hW.1 z_4 (by rfl))) rfl rfl hl.1 rfl (lv_room (Nat.le_of_ble_eq_true rfl)) dX3_countOvertakenBy_20 ⟨(Nat.le_of_ble_eq_true rfl), (Nat.le_of_ble_eq_true rfl)⟩) hW hA (fun r9 M9 H locs hp_5 hW => ?_)
    obtain ⟨e91, e92⟩ := hp_5
    subst e91
    rw [e92] at hW
    clear e92
    refine W.eq (g2 := F0 m 23 ls [.ref (Γ 9 (ς 31 (64 * (20 + u) + j)))]) rfl ?_
    refine va_castS hx hb hown (hts (.classLink RX3 55 RX1) (by decide +kernel)) (hK.1 2 _ rfl).2 (mW_recv hK hW.1 (hR.o9 (i := ς 31 (64 * (20 + u) + j)) ho.2) (by rfl)) dX3_countOvertakenBy_23 ?_
    refine lv_astore (lv' := [(4, .ref (Γ 9 (ς 31 (64 * (20 + u) + j)))), (3, .int (nI j)), (0, .ref (Γ 4 u)), (1, .ref (Γ 9 i)), (2, .int (nI (ovC ς u i j)))]) hx hb dX3_countOvertakenBy_26 hl (by decide) rfl (fun ls hl => ?_)
    refine lv_aload hx hb dX3_countOvertakenBy_28 (lv_at hl 0 rfl) ?_
    refine mr_get hx hb hts hinX1 hown hK hW (hR.o9 (i := ς 31 (64 * (20 + u) + j)) ho.2) (by rfl) 0 (by decide) (hts (.fieldLink RX3 57 "SeaPost$Letter" "number" "I") (by decide +kernel)) (fun _ h => h) rfl dX3_countOvertakenBy_30 ?_
    refine lv_aload_n hx hb dX3_countOvertakenBy_33 rfl (lv_at hl 3 rfl) ?_
    refine mr_get hx hb hts hinX1 hown hK hW (hR.o9 (i := i) hi) (by rfl) 0 (by decide) (hts (.fieldLink RX3 57 "SeaPost$Letter" "number" "I") (by decide +kernel)) (fun _ h => h) rfl dX3_countOvertakenBy_34 ?_
    refine nv_icmp_ge (u := ς 31 (64 * (20 + u) + j)) (v := i) (tgt := 55) hx hb dX3_countOvertakenBy_37 (by decide) (by omega) (by omega) (fun c_6 => ?_) (fun c_6 => ?_)
    · skip
      refine lv_iinc (v := nI (j + 1)) (lv' := [(3, .int (nI (j + 1))), (4, .ref (Γ 9 (ς 31 (64 * (20 + u) + j)))), (0, .ref (Γ 4 u)), (1, .ref (Γ 9 i)), (2, .int (nI (ovC ς u i j)))]) hx hb dX3_countOvertakenBy_55 hl (k := 1) rfl (by rw [show (Int32.ofInt 1) = nI 1 by decide, nI_add]) (by decide) rfl (fun ls hl => ?_)
      refine lv_goto (tgt := 4) hx hb dX3_countOvertakenBy_58 (by decide) ?_
      have e8 : ovC ς u i (j + 1) = ovC ς u i j := by show ovC ς u i j + _ = _; rw [if_neg (by omega)]; rfl
      exact ih _ _ _ (by omega) ⟨hW, by rw [e8]; exact lv_sub hl [0, 2, 3, 4] rfl⟩
    · skip
      refine lv_aload hx hb dX3_countOvertakenBy_40 (lv_at hl 0 rfl) ?_
      refine mr_get hx hb hts hinX1 hown hK hW (hR.o9 (i := ς 31 (64 * (20 + u) + j)) ho.2) (by rfl) 9 (by decide) (hts (.fieldLink RX3 60 "SeaPost$Letter" "deliveredOn" "I") (by decide +kernel)) (fun _ h => h) rfl dX3_countOvertakenBy_42 ?_
      refine lv_aload_n hx hb dX3_countOvertakenBy_45 rfl (lv_at hl 3 rfl) ?_
      refine mr_get hx hb hts hinX1 hown hK hW (hR.o9 (i := i) hi) (by rfl) 9 (by decide) (hts (.fieldLink RX3 60 "SeaPost$Letter" "deliveredOn" "I") (by decide +kernel)) (fun _ h => h) rfl dX3_countOvertakenBy_46 ?_
      refine nv_icmp_le (u := ς 16 (ς 31 (64 * (20 + u) + j))) (v := ς 16 i) (tgt := 55) hx hb dX3_countOvertakenBy_49 (by decide) (by omega) (by omega) (fun c_7 => ?_) (fun c_7 => ?_)
      · skip
        refine lv_iinc (v := nI (j + 1)) (lv' := [(3, .int (nI (j + 1))), (4, .ref (Γ 9 (ς 31 (64 * (20 + u) + j)))), (0, .ref (Γ 4 u)), (1, .ref (Γ 9 i)), (2, .int (nI (ovC ς u i j)))]) hx hb dX3_countOvertakenBy_55 hl (k := 1) rfl (by rw [show (Int32.ofInt 1) = nI 1 by decide, nI_add]) (by decide) rfl (fun ls hl => ?_)
        refine lv_goto (tgt := 4) hx hb dX3_countOvertakenBy_58 (by decide) ?_
        have e8 : ovC ς u i (j + 1) = ovC ς u i j := by show ovC ς u i j + _ = _; rw [if_neg (by omega)]; rfl
        exact ih _ _ _ (by omega) ⟨hW, by rw [e8]; exact lv_sub hl [0, 2, 3, 4] rfl⟩
      · skip
        refine lv_iinc (v := nI (ovC ς u i j + 1)) (lv' := [(2, .int (nI (ovC ς u i j + 1))), (4, .ref (Γ 9 (ς 31 (64 * (20 + u) + j)))), (3, .int (nI j)), (0, .ref (Γ 4 u)), (1, .ref (Γ 9 i))]) hx hb dX3_countOvertakenBy_52 hl (k := 4) rfl (by rw [show (Int32.ofInt 1) = nI 1 by decide, nI_add]) (by decide) rfl (fun ls hl => ?_)
        refine lv_iinc (v := nI (j + 1)) (lv' := [(3, .int (nI (j + 1))), (2, .int (nI (ovC ς u i j + 1))), (4, .ref (Γ 9 (ς 31 (64 * (20 + u) + j)))), (0, .ref (Γ 4 u)), (1, .ref (Γ 9 i))]) hx hb dX3_countOvertakenBy_55 hl (k := 2) rfl (by rw [show (Int32.ofInt 1) = nI 1 by decide, nI_add]) (by decide) rfl (fun ls hl => ?_)
        refine lv_goto (tgt := 4) hx hb dX3_countOvertakenBy_58 (by decide) ?_
        have e8 : ovC ς u i (j + 1) = ovC ς u i j + 1 := by show ovC ς u i j + _ = _; rw [if_pos (by omega)]
        exact ih _ _ _ (by omega) ⟨hW, by rw [e8]; exact lv_sub hl [0, 3, 4, 1] rfl⟩

set_option maxHeartbeats 4000000 in
set_option maxRecDepth 100000 in
theorem kRead (l : Launch) (G : mG) (N : Mem) (Γ : Adr) (ς : Sg) (i x : Nat) (hi : i < ς 33 1) (h18 : ς 18 i ≤ 128) (hs : ∀ j, j < 128 → ς 17 (200 * i + j) < 65536) (hxp : ptF ς i 0 (ς 18 i) = x) (hx9 : x < ς 18 i) (hl2 : 2 ≤ ς 18 i) (hpm : 65 ≤ ς 17 (200 * i + x)) (M : Mem) (sz : Nat) (hR : Rp G N Γ ς M) : cMi l yX0_placeRead wsX0_placeRead 1 0 0 G M sz [.ref (Γ 10 i)] (fun y9 M' => y9 = nI (wmC ς i x) ∧ M' = M) := by
  refine m_start cX0_placeRead 3 (some .int) (by decide) rfl (Nat.le_of_ble_eq_true rfl) ?_
  intro p e s m below meth c ls hx hb hr hml hown hlk hnm hts hK hsz hE hW hl
  have hA := mA_A (M := M) hsz
  have hl : lv_has ls 3 [(0, .ref (Γ 10 i))] := hl
  have hinX0 : ∀ w ∈ u_ws RX0 TX0 2, w ∈ wsX0_placeRead := (fun _ h => List.mem_cons_of_mem _ (List.mem_append_right _ h))
  refine lv_aload_n hx hb dX0_placeRead_0 rfl (lv_at hl 0 rfl) ?_
  refine lv_aload_n hx hb dX0_placeRead_1 rfl (lv_at hl 0 rfl) ?_
  refine mr_get hx hb hts hinX0 hown hK hW (hR.o10 (i := i) hi) (by rfl) 1 (by decide) (hts (.fieldLink RX0 15 "SeaPost$Cover" "length" "I") (by decide +kernel)) (fun _ h => h) rfl dX0_placeRead_2 ?_
  refine lv_bipush (v := nI 33) hx hb dX0_placeRead_5 (by decide) ?_
  refine mk_i (va_runV (As := [.int (nI (ς 18 i)), .int (nI 33)]) (nL := 3) ⟨hx, hb, hml, hown, hts⟩ (kStands l G N Γ ς i (ς 18 i) 33 hi h18 (by omega) (by omega) hs _ _ hR) (cwV 2 hts gX0_placeRead_X0_standsBehind rfl rfl rfl (by decide +kernel) ⟨(Nat.le_of_ble_eq_true rfl), (Nat.le_of_ble_eq_true rfl)⟩) (mp_V hK hE hW hA (mW_recv hK hW.1 (hR.o10 (i := i) hi) (by rfl))) rfl rfl hl.1 rfl (lv_room (Nat.le_of_ble_eq_true rfl)) dX0_placeRead_7 ⟨(Nat.le_of_ble_eq_true rfl), (Nat.le_of_ble_eq_true rfl)⟩) hW hA (fun r9 M9 H locs hp_1 hW => ?_)
  obtain ⟨e91, e92⟩ := hp_1
  subst e91
  rw [e92] at hW
  clear e92
  refine W.eq (g2 := F0 m 10 ls [.int (nI (if 0 < ς 18 i ∧ ς 18 i ≤ ς 18 i ∧ ς 17 (200 * i + (ς 18 i - 1)) = 33 then 1 else 0))]) rfl ?_
  refine nb_if_eq (tgt := 16) hx hb dX0_placeRead_10 (by decide) (fun c_2 => ?_) (fun c_2 => ?_)
  · skip
    refine lv_aload_n hx hb dX0_placeRead_16 rfl (lv_at hl 0 rfl) ?_
    refine lv_aload_n hx hb dX0_placeRead_17 rfl (lv_at hl 0 rfl) ?_
    refine mr_get hx hb hts hinX0 hown hK hW (hR.o10 (i := i) hi) (by rfl) 1 (by decide) (hts (.fieldLink RX0 15 "SeaPost$Cover" "length" "I") (by decide +kernel)) (fun _ h => h) rfl dX0_placeRead_18 ?_
    refine lv_bipush (v := nI 43) hx hb dX0_placeRead_21 (by decide) ?_
    refine mk_i (va_runV (As := [.int (nI (ς 18 i)), .int (nI 43)]) (nL := 3) ⟨hx, hb, hml, hown, hts⟩ (kStands l G N Γ ς i (ς 18 i) 43 hi h18 (by omega) (by omega) hs _ _ hR) (cwV 2 hts gX0_placeRead_X0_standsBehind rfl rfl rfl (by decide +kernel) ⟨(Nat.le_of_ble_eq_true rfl), (Nat.le_of_ble_eq_true rfl)⟩) (mp_V hK hE hW hA (mW_recv hK hW.1 (hR.o10 (i := i) hi) (by rfl))) rfl rfl hl.1 rfl (lv_room (Nat.le_of_ble_eq_true rfl)) dX0_placeRead_23 ⟨(Nat.le_of_ble_eq_true rfl), (Nat.le_of_ble_eq_true rfl)⟩) hW hA (fun r9 M9 H locs hp_3 hW => ?_)
    obtain ⟨e91, e92⟩ := hp_3
    subst e91
    rw [e92] at hW
    clear e92
    refine W.eq (g2 := F0 m 26 ls [.int (nI (if 0 < ς 18 i ∧ ς 18 i ≤ ς 18 i ∧ ς 17 (200 * i + (ς 18 i - 1)) = 43 then 1 else 0))]) rfl ?_
    refine nb_if_ne (tgt := 42) hx hb dX0_placeRead_26 (by decide) (fun c_4 => ?_) (fun c_4 => ?_)
    · skip
      refine lv_bipush (v := nI 4294967292) hx hb dX0_placeRead_42 (by decide) ?_
      exact mr_iret hx hb hr hlk (Nat.le_of_ble_eq_true rfl) (Nat.le_of_ble_eq_true rfl) hW ⟨congrArg nI (by unfold wmC; first | rw [if_pos (by omega)] | (rw [if_neg (by omega)]; first | rw [if_pos (by omega)] | (rw [if_neg (by omega)]; first | rw [if_pos (by omega)] | rw [if_neg (by omega)]))), rfl⟩ dX0_placeRead_44
    · skip
      refine lv_aload_n hx hb dX0_placeRead_29 rfl (lv_at hl 0 rfl) ?_
      refine lv_aload_n hx hb dX0_placeRead_30 rfl (lv_at hl 0 rfl) ?_
      refine mr_get hx hb hts hinX0 hown hK hW (hR.o10 (i := i) hi) (by rfl) 1 (by decide) (hts (.fieldLink RX0 15 "SeaPost$Cover" "length" "I") (by decide +kernel)) (fun _ h => h) rfl dX0_placeRead_31 ?_
      refine lv_bipush (v := nI 42) hx hb dX0_placeRead_34 (by decide) ?_
      refine mk_i (va_runV (As := [.int (nI (ς 18 i)), .int (nI 42)]) (nL := 3) ⟨hx, hb, hml, hown, hts⟩ (kStands l G N Γ ς i (ς 18 i) 42 hi h18 (by omega) (by omega) hs _ _ hR) (cwV 2 hts gX0_placeRead_X0_standsBehind rfl rfl rfl (by decide +kernel) ⟨(Nat.le_of_ble_eq_true rfl), (Nat.le_of_ble_eq_true rfl)⟩) (mp_V hK hE hW hA (mW_recv hK hW.1 (hR.o10 (i := i) hi) (by rfl))) rfl rfl hl.1 rfl (lv_room (Nat.le_of_ble_eq_true rfl)) dX0_placeRead_36 ⟨(Nat.le_of_ble_eq_true rfl), (Nat.le_of_ble_eq_true rfl)⟩) hW hA (fun r9 M9 H locs hp_5 hW => ?_)
      obtain ⟨e91, e92⟩ := hp_5
      subst e91
      rw [e92] at hW
      clear e92
      refine W.eq (g2 := F0 m 39 ls [.int (nI (if 0 < ς 18 i ∧ ς 18 i ≤ ς 18 i ∧ ς 17 (200 * i + (ς 18 i - 1)) = 42 then 1 else 0))]) rfl ?_
      refine nb_if_eq (tgt := 45) hx hb dX0_placeRead_39 (by decide) (fun c_6 => ?_) (fun c_6 => ?_)
      · skip
        refine lv_aload_n hx hb dX0_placeRead_45 rfl (lv_at hl 0 rfl) ?_
        refine lv_iconst (v := nI 0) hx hb dX0_placeRead_46 (by decide) ?_
        refine mk_i (va_runV (As := [.int (nI 0)]) (nL := 3) ⟨hx, hb, hml, hown, hts⟩ (kPort0 l G N Γ ς i x hi h18 hs hxp _ _ hR) (cwV 1 hts gX0_placeRead_X0_portIndex rfl rfl rfl (by decide +kernel) ⟨(Nat.le_of_ble_eq_true rfl), (Nat.le_of_ble_eq_true rfl)⟩) (mp_V hK hE hW hA (mW_recv hK hW.1 (hR.o10 (i := i) hi) (by rfl))) rfl rfl hl.1 rfl (lv_room (Nat.le_of_ble_eq_true rfl)) dX0_placeRead_47 ⟨(Nat.le_of_ble_eq_true rfl), (Nat.le_of_ble_eq_true rfl)⟩) hW hA (fun r9 M9 H locs hp_7 hW => ?_)
        obtain ⟨e91, e92⟩ := hp_7
        subst e91
        rw [e92] at hW
        clear e92
        refine W.eq (g2 := F0 m 50 ls [.int (nI x)]) rfl ?_
        refine lv_istore_n (lv' := [(1, .int (nI x)), (0, .ref (Γ 10 i))]) hx hb dX0_placeRead_50 rfl hl (by decide) rfl (fun ls hl => ?_)
        refine lv_iload_n hx hb dX0_placeRead_51 rfl (lv_at hl 0 rfl) ?_
        refine lv_iconst (v := nI 4294967295) hx hb dX0_placeRead_52 (by decide) ?_
        refine nv_icmp_ne (u := x) (v := 4294967295) (tgt := 58) hx hb dX0_placeRead_53 (by decide) (by omega) (by omega) (fun c_8 => ?_) (fun c_8 => ?_)
        · skip
          refine lv_iload_n hx hb dX0_placeRead_58 rfl (lv_at hl 0 rfl) ?_
          refine lv_aload_n hx hb dX0_placeRead_59 rfl (lv_at hl 1 rfl) ?_
          refine mr_get hx hb hts hinX0 hown hK hW (hR.o10 (i := i) hi) (by rfl) 1 (by decide) (hts (.fieldLink RX0 15 "SeaPost$Cover" "length" "I") (by decide +kernel)) (fun _ h => h) rfl dX0_placeRead_60 ?_
          refine lv_iconst (v := nI 1) hx hb dX0_placeRead_63 (by decide) ?_
          refine lv_isub hx hb dX0_placeRead_64 (lv_tope (pk_sub (a := ς 18 i) (b := 1) (by omega)) ?_)
          refine nv_icmp_ne (u := x) (v := ς 18 i - 1) (tgt := 82) hx hb dX0_placeRead_65 (by decide) (by omega) (by omega) (fun c_9 => ?_) (fun c_9 => ?_)
          · skip
            refine lv_iconst (v := nI 0) hx hb dX0_placeRead_82 (by decide) ?_
            refine lv_istore_n (lv' := [(2, .int (nI 0)), (1, .int (nI x)), (0, .ref (Γ 10 i))]) hx hb dX0_placeRead_83 rfl hl (by decide) rfl (fun ls hl => ?_)
            refine lv_iload_n hx hb dX0_placeRead_84 rfl (lv_at hl 0 rfl) ?_
            refine lv_if_eq (tgt := 93) hx hb dX0_placeRead_85 (by decide) (fun _ => ?_) (fun z => absurd (by decide) z)
            have hsx := hs x (by omega)
            refine lv_aload_n hx hb dX0_placeRead_93 rfl (lv_at hl 2 rfl) ?_
            refine mr_get hx hb hts hinX0 hown hK hW (hR.o10 (i := i) hi) (by rfl) 0 (by decide) (hts (.fieldLink RX0 9 "SeaPost$Cover" "signs" "[C") (by decide +kernel)) (fun _ h => h) rfl dX0_placeRead_94 ?_
            refine lv_iload_n hx hb dX0_placeRead_97 rfl (lv_at hl 1 rfl) ?_
            obtain ⟨f_10, f_10a, f_10b⟩ := hR.o11 (i := i) hi
            refine mr_cald (j := x) hx hb hK hW 1 f_10a (by rfl) rfl (by first | omega | assumption) (by omega) dX0_placeRead_98 (lv_tope (f_10b _ (by first | omega | assumption)) ?_)
            refine lv_bipush (v := nI 65) hx hb dX0_placeRead_99 (by decide) ?_
            refine lv_isub hx hb dX0_placeRead_101 (lv_tope (pk_sub (a := ς 17 (200 * i + x)) (b := 65) (by omega)) ?_)
            exact mr_iret hx hb hr hlk (Nat.le_of_ble_eq_true rfl) (Nat.le_of_ble_eq_true rfl) hW ⟨congrArg nI (by unfold wmC; first | rw [if_pos (by omega)] | (rw [if_neg (by omega)]; first | rw [if_pos (by omega)] | (rw [if_neg (by omega)]; first | rw [if_pos (by omega)] | rw [if_neg (by omega)]))), rfl⟩ dX0_placeRead_102
          · skip
            refine lv_aload_n hx hb dX0_placeRead_68 rfl (lv_at hl 1 rfl) ?_
            refine lv_iload_n hx hb dX0_placeRead_69 rfl (lv_at hl 0 rfl) ?_
            refine lv_bipush (v := nI 62) hx hb dX0_placeRead_70 (by decide) ?_
            refine mk_i (va_runV (As := [.int (nI x), .int (nI 62)]) (nL := 3) ⟨hx, hb, hml, hown, hts⟩ (kStands l G N Γ ς i (x) 62 hi h18 (by omega) (by omega) hs _ _ hR) (cwV 2 hts gX0_placeRead_X0_standsBehind rfl rfl rfl (by decide +kernel) ⟨(Nat.le_of_ble_eq_true rfl), (Nat.le_of_ble_eq_true rfl)⟩) (mp_V hK hE hW hA (mW_recv hK hW.1 (hR.o10 (i := i) hi) (by rfl))) rfl rfl hl.1 rfl (lv_room (Nat.le_of_ble_eq_true rfl)) dX0_placeRead_72 ⟨(Nat.le_of_ble_eq_true rfl), (Nat.le_of_ble_eq_true rfl)⟩) hW hA (fun r9 M9 H locs hp_11 hW => ?_)
            obtain ⟨e91, e92⟩ := hp_11
            subst e91
            rw [e92] at hW
            clear e92
            refine W.eq (g2 := F0 m 75 ls [.int (nI (if 0 < x ∧ x ≤ ς 18 i ∧ ς 17 (200 * i + (x - 1)) = 62 then 1 else 0))]) rfl ?_
            refine nb_if_eq (tgt := 82) hx hb dX0_placeRead_75 (by decide) (fun c_12 => ?_) (fun c_12 => ?_)
            · skip
              refine lv_iconst (v := nI 0) hx hb dX0_placeRead_82 (by decide) ?_
              refine lv_istore_n (lv' := [(2, .int (nI 0)), (1, .int (nI x)), (0, .ref (Γ 10 i))]) hx hb dX0_placeRead_83 rfl hl (by decide) rfl (fun ls hl => ?_)
              refine lv_iload_n hx hb dX0_placeRead_84 rfl (lv_at hl 0 rfl) ?_
              refine lv_if_eq (tgt := 93) hx hb dX0_placeRead_85 (by decide) (fun _ => ?_) (fun z => absurd (by decide) z)
              have hsx := hs x (by omega)
              refine lv_aload_n hx hb dX0_placeRead_93 rfl (lv_at hl 2 rfl) ?_
              refine mr_get hx hb hts hinX0 hown hK hW (hR.o10 (i := i) hi) (by rfl) 0 (by decide) (hts (.fieldLink RX0 9 "SeaPost$Cover" "signs" "[C") (by decide +kernel)) (fun _ h => h) rfl dX0_placeRead_94 ?_
              refine lv_iload_n hx hb dX0_placeRead_97 rfl (lv_at hl 1 rfl) ?_
              obtain ⟨f_13, f_13a, f_13b⟩ := hR.o11 (i := i) hi
              refine mr_cald (j := x) hx hb hK hW 1 f_13a (by rfl) rfl (by first | omega | assumption) (by omega) dX0_placeRead_98 (lv_tope (f_13b _ (by first | omega | assumption)) ?_)
              refine lv_bipush (v := nI 65) hx hb dX0_placeRead_99 (by decide) ?_
              refine lv_isub hx hb dX0_placeRead_101 (lv_tope (pk_sub (a := ς 17 (200 * i + x)) (b := 65) (by omega)) ?_)
              exact mr_iret hx hb hr hlk (Nat.le_of_ble_eq_true rfl) (Nat.le_of_ble_eq_true rfl) hW ⟨congrArg nI (by unfold wmC; first | rw [if_pos (by omega)] | (rw [if_neg (by omega)]; first | rw [if_pos (by omega)] | (rw [if_neg (by omega)]; first | rw [if_pos (by omega)] | rw [if_neg (by omega)]))), rfl⟩ dX0_placeRead_102
            · skip
              refine lv_iconst (v := nI 1) hx hb dX0_placeRead_78 (by decide) ?_
              refine lv_goto (tgt := 83) hx hb dX0_placeRead_79 (by decide) ?_
              refine lv_istore_n (lv' := [(2, .int (nI 1)), (1, .int (nI x)), (0, .ref (Γ 10 i))]) hx hb dX0_placeRead_83 rfl hl (by decide) rfl (fun ls hl => ?_)
              refine lv_iload_n hx hb dX0_placeRead_84 rfl (lv_at hl 0 rfl) ?_
              refine lv_if_eq (tgt := 93) hx hb dX0_placeRead_85 (by decide) (fun z => absurd z (by decide)) (fun _ => ?_)
              refine lv_bipush (v := nI 4294967294) hx hb dX0_placeRead_88 (by decide) ?_
              refine lv_goto (tgt := 102) hx hb dX0_placeRead_90 (by decide) ?_
              exact mr_iret hx hb hr hlk (Nat.le_of_ble_eq_true rfl) (Nat.le_of_ble_eq_true rfl) hW ⟨congrArg nI (by unfold wmC; first | rw [if_pos (by omega)] | (rw [if_neg (by omega)]; first | rw [if_pos (by omega)] | (rw [if_neg (by omega)]; first | rw [if_pos (by omega)] | rw [if_neg (by omega)]))), rfl⟩ dX0_placeRead_102
        · skip
          exfalso; omega
      · skip
        refine lv_bipush (v := nI 4294967292) hx hb dX0_placeRead_42 (by decide) ?_
        exact mr_iret hx hb hr hlk (Nat.le_of_ble_eq_true rfl) (Nat.le_of_ble_eq_true rfl) hW ⟨congrArg nI (by unfold wmC; first | rw [if_pos (by omega)] | (rw [if_neg (by omega)]; first | rw [if_pos (by omega)] | (rw [if_neg (by omega)]; first | rw [if_pos (by omega)] | rw [if_neg (by omega)]))), rfl⟩ dX0_placeRead_44
  · skip
    refine lv_bipush (v := nI 4294967293) hx hb dX0_placeRead_13 (by decide) ?_
    exact mr_iret hx hb hr hlk (Nat.le_of_ble_eq_true rfl) (Nat.le_of_ble_eq_true rfl) hW ⟨congrArg nI (by unfold wmC; first | rw [if_pos (by omega)] | (rw [if_neg (by omega)]; first | rw [if_pos (by omega)] | (rw [if_neg (by omega)]; first | rw [if_pos (by omega)] | rw [if_neg (by omega)]))), rfl⟩ dX0_placeRead_15
