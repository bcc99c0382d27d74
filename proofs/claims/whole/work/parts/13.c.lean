/-! THE CLASS: the public methods that change nothing (mine; the rows are laid by wip/whole/gen) -/

set_option maxHeartbeats 4000000 in
set_option maxRecDepth 100000 in
theorem wShipAt (l : Launch) (hst : l.stackTraces = false) (G : mG) (N : Mem) (Γ : Adr) (σ ρ : Sg) (u : Nat) (hu : u < 4294967296) (hH : HS σ ρ) : pXi l yX4_shipAt wsX4_shipAt 7 5 30 G N Γ σ ρ [.ref (Γ 0 0), .int (nI u)] (thS σ u) (plS σ u) (σ) ["java/lang/IndexOutOfBoundsException"] := by
  intro M sz hR
  refine m_startX cX4_shipAt 2 (some .int) (by decide) rfl (Nat.le_of_ble_eq_true rfl) ?_
  intro p e s m below meth c ls hx hb hr hml hown hlk hnm hts hK hsz hE hW hl htab
  have hA := mA_A (M := M) hsz
  have hl : lv_has ls 2 [(0, .ref (Γ 0 0)), (1, .int (nI u))] := hl
  have hinX2 : ∀ w ∈ u_ws RX2 TX2 6, w ∈ wsX4_shipAt := (fun _ h => List.mem_cons_of_mem _ (List.mem_append_left _ (List.mem_append_right _ h)))
  have hinX3 : ∀ w ∈ u_ws RX3 TX3 3, w ∈ wsX4_shipAt := (fun _ h => List.mem_cons_of_mem _ (List.mem_append_left _ (List.mem_append_left _ (List.mem_append_right _ h))))
  have hinX4 : ∀ w ∈ u_ws RX4 TX4 6, w ∈ wsX4_shipAt := (fun _ h => List.mem_cons_of_mem _ (List.mem_append_left _ (List.mem_append_left _ (List.mem_append_left _ (List.mem_append_left _ (List.mem_append_right _ h))))))
  have hinJx4a65c : ∀ w ∈ u_ws RJx4a65c TJx4a65c 3, w ∈ wsX4_shipAt := (fun _ h => List.mem_cons_of_mem _ (List.mem_append_left _ (List.mem_append_left _ (List.mem_append_left _ (List.mem_append_right _ h)))))
  have hI := hH.1
  obtain ⟨hV, hS, hD, hL, hZ, hRI⟩ := id hI
  have b0 : σ 0 0 ≤ 8 := hV 0 0
  have b8 : σ 8 0 ≤ 40 := hV 8 0
  have b24 : σ 24 0 ≤ 1000 := hV 24 0
  have hct := hH.cnt
  refine lv_aload_n hx hb dX4_shipAt_0 rfl (lv_at hl 0 rfl) ?_
  refine lv_iload_n hx hb dX4_shipAt_1 rfl (lv_at hl 1 rfl) ?_
  refine mx_v (vx_runV (As := [.int (nI u)]) (nL := 2) ⟨hx, hb, hml, hown, hts⟩ (xShip l hst G N Γ (cs σ ρ) u (by omega) (show σ 0 0 < 2147483648 by omega) _ _ hR) (cwV 1 hts gX4_shipAt_X4_needShip rfl rfl rfl (by decide +kernel) ⟨(Nat.le_of_ble_eq_true rfl), (Nat.le_of_ble_eq_true rfl)⟩) (mp_V hK hE hW hA (mW_recv hK hW.1 hR.o0 (by rfl))) rfl rfl hl.1 rfl (lv_room (Nat.le_of_ble_eq_true rfl)) dX4_shipAt_2 ⟨(Nat.le_of_ble_eq_true rfl), (Nat.le_of_ble_eq_true rfl)⟩) hW hsz htab hlk (fun E hE9 => by have hu1 := hE9.1; have hu1 : ¬ u < σ 0 0 := hu1; obtain ⟨h1, rfl⟩ := hE9; exact xOk.of (k := 1) (by unfold thS; first | (rw [if_pos (by omega)]; done) | (rw [if_neg (by omega)]; done) | (rw [if_neg (by omega), if_pos (by omega)]; done) | (rw [if_neg (by omega), if_neg (by omega)]; done) | (rw [if_neg (by omega), if_neg (by omega), if_neg (by omega)]; done)) (by decide) rfl) (Nat.le_of_ble_eq_true rfl) (Nat.le_of_ble_eq_true rfl) (fun M9 H locs hp_1 hW => ?_)
  obtain ⟨hu0, e92⟩ := hp_1
  rw [e92] at hW
  clear e92
  refine W.eq (g2 := F0 m 5 ls []) rfl ?_
  have hu0 : u < σ 0 0 := hu0
  refine lv_aload_n hx hb dX4_shipAt_5 rfl (lv_at hl 0 rfl) ?_
  refine mr_get hx hb hts hinX4 hown hK hW hR.o0 (by rfl) 0 (by decide) (hts (.fieldLink RX4 10 "SeaPost" "fleet" "Ljava/util/ArrayList;") (by decide +kernel)) (fun _ h => h) rfl dX4_shipAt_6 ?_
  refine lv_iload_n hx hb dX4_shipAt_9 rfl (lv_at hl 1 rfl) ?_
  obtain ⟨z_2m, z_2a, z_2f, z_2, -, -⟩ := hR.o2 (x := 0) (Or.inl (by decide))
  refine mk_q (va_runV (As := [.int (nI u)]) (nL := 2) ⟨hx, hb, hml, hown, hts⟩ (kGetF l G N Γ (cs σ ρ) u (show u < σ 0 0 by omega) _ _ hR) (cwV 1 hts gX4_shipAt_Jx4a65c_get_915e3 rfl rfl rfl (by decide +kernel) ⟨(Nat.le_of_ble_eq_true rfl), (Nat.le_of_ble_eq_true rfl)⟩) (mp_V hK hE hW hA (mW_recv hK hW.1 z_2 (by rfl))) rfl rfl hl.1 rfl (lv_room (Nat.le_of_ble_eq_true rfl)) dX4_shipAt_10 ⟨(Nat.le_of_ble_eq_true rfl), (Nat.le_of_ble_eq_true rfl)⟩) hW hA (fun r9 M9 H locs hp_3 hW => ?_)
  obtain ⟨e91, e92⟩ := hp_3
  subst e91
  rw [e92] at hW
  clear e92
  refine W.eq (g2 := F0 m 13 ls [.ref (Γ 4 u)]) rfl ?_
  refine va_castS hx hb hown (hts (.classLink RX4 37 RX3) (by decide +kernel)) (hK.1 4 _ rfl).2 (mW_recv hK hW.1 (hR.o4 (i := u) (show u < σ 0 0 by omega)) (by rfl)) dX4_shipAt_13 ?_
  refine lv_aload_n hx hb dX4_shipAt_16 rfl (lv_at hl 0 rfl) ?_
  refine mr_get hx hb hts hinX4 hown hK hW hR.o0 (by rfl) 4 (by decide) (hts (.fieldLink RX4 84 "SeaPost" "day" "I") (by decide +kernel)) (fun _ h => h) rfl dX4_shipAt_17 ?_
  refine lv_tope (congrArg nI (show (cs σ ρ) 24 0 = σ 24 0 from rfl)) ?_
  refine mk_i (va_runV (As := [.int (nI (σ 24 0))]) (nL := 2) ⟨hx, hb, hml, hown, hts⟩ (vSail l G N Γ σ ρ u hH (by omega) _ _ hR) (cwV 1 hts gX4_shipAt_X3_portOn rfl rfl rfl (by decide +kernel) ⟨(Nat.le_of_ble_eq_true rfl), (Nat.le_of_ble_eq_true rfl)⟩) (mp_V hK hE hW hA (mW_recv hK hW.1 (hR.o4 (i := u) (show u < σ 0 0 by omega)) (by rfl))) rfl rfl hl.1 rfl (lv_room (Nat.le_of_ble_eq_true rfl)) dX4_shipAt_20 ⟨(Nat.le_of_ble_eq_true rfl), (Nat.le_of_ble_eq_true rfl)⟩) hW hA (fun r9 M9 H locs hp_4 hW => ?_)
  obtain ⟨e91, e92⟩ := hp_4
  subst e91
  rw [e92] at hW
  clear e92
  refine W.eq (g2 := F0 m 23 ls [.int (nI (plS σ u))]) rfl ?_
  exact vx_ret (mr_iret hx hb hr hlk (Nat.le_of_ble_eq_true rfl) (Nat.le_of_ble_eq_true rfl) hW ⟨by unfold thS; first | (rw [if_pos (by omega)]; done) | (rw [if_neg (by omega)]; done) | (rw [if_neg (by omega), if_neg (by omega)]; done), rfl, Γ, ρ, rfl, hR, hH⟩ dX4_shipAt_23)

set_option maxHeartbeats 4000000 in
set_option maxRecDepth 100000 in
theorem wRoutes (l : Launch) (hst : l.stackTraces = false) (G : mG) (N : Mem) (Γ : Adr) (σ ρ : Sg) (u : Nat) (hu : u < 4294967296) (hH : HS σ ρ) : pXi l yX4_routes wsX4_routes 7 5 30 G N Γ σ ρ [.ref (Γ 0 0), .int (nI u)] (thS σ u) (σ 7 u) (σ) ["java/lang/IndexOutOfBoundsException"] := by
  intro M sz hR
  refine m_startX cX4_routes 2 (some .int) (by decide) rfl (Nat.le_of_ble_eq_true rfl) ?_
  intro p e s m below meth c ls hx hb hr hml hown hlk hnm hts hK hsz hE hW hl htab
  have hA := mA_A (M := M) hsz
  have hl : lv_has ls 2 [(0, .ref (Γ 0 0)), (1, .int (nI u))] := hl
  have hinX3 : ∀ w ∈ u_ws RX3 TX3 3, w ∈ wsX4_routes := (fun _ h => List.mem_cons_of_mem _ (List.mem_append_left _ (List.mem_append_left _ (List.mem_append_right _ h))))
  have hinX4 : ∀ w ∈ u_ws RX4 TX4 6, w ∈ wsX4_routes := (fun _ h => List.mem_cons_of_mem _ (List.mem_append_left _ (List.mem_append_left _ (List.mem_append_left _ (List.mem_append_right _ h)))))
  have hinJx4a65c : ∀ w ∈ u_ws RJx4a65c TJx4a65c 3, w ∈ wsX4_routes := (fun _ h => List.mem_cons_of_mem _ (List.mem_append_left _ (List.mem_append_right _ h)))
  have hI := hH.1
  obtain ⟨hV, hS, hD, hL, hZ, hRI⟩ := id hI
  have b0 : σ 0 0 ≤ 8 := hV 0 0
  have b8 : σ 8 0 ≤ 40 := hV 8 0
  have b24 : σ 24 0 ≤ 1000 := hV 24 0
  have hct := hH.cnt
  refine lv_aload_n hx hb dX4_routes_0 rfl (lv_at hl 0 rfl) ?_
  refine lv_iload_n hx hb dX4_routes_1 rfl (lv_at hl 1 rfl) ?_
  refine mx_v (vx_runV (As := [.int (nI u)]) (nL := 2) ⟨hx, hb, hml, hown, hts⟩ (xShip l hst G N Γ (cs σ ρ) u (by omega) (show σ 0 0 < 2147483648 by omega) _ _ hR) (cwV 1 hts gX4_routes_X4_needShip rfl rfl rfl (by decide +kernel) ⟨(Nat.le_of_ble_eq_true rfl), (Nat.le_of_ble_eq_true rfl)⟩) (mp_V hK hE hW hA (mW_recv hK hW.1 hR.o0 (by rfl))) rfl rfl hl.1 rfl (lv_room (Nat.le_of_ble_eq_true rfl)) dX4_routes_2 ⟨(Nat.le_of_ble_eq_true rfl), (Nat.le_of_ble_eq_true rfl)⟩) hW hsz htab hlk (fun E hE9 => by have hu1 := hE9.1; have hu1 : ¬ u < σ 0 0 := hu1; obtain ⟨h1, rfl⟩ := hE9; exact xOk.of (k := 1) (by unfold thS; first | (rw [if_pos (by omega)]; done) | (rw [if_neg (by omega)]; done) | (rw [if_neg (by omega), if_pos (by omega)]; done) | (rw [if_neg (by omega), if_neg (by omega)]; done) | (rw [if_neg (by omega), if_neg (by omega), if_neg (by omega)]; done)) (by decide) rfl) (Nat.le_of_ble_eq_true rfl) (Nat.le_of_ble_eq_true rfl) (fun M9 H locs hp_1 hW => ?_)
  obtain ⟨hu0, e92⟩ := hp_1
  rw [e92] at hW
  clear e92
  refine W.eq (g2 := F0 m 5 ls []) rfl ?_
  have hu0 : u < σ 0 0 := hu0
  refine lv_aload_n hx hb dX4_routes_5 rfl (lv_at hl 0 rfl) ?_
  refine mr_get hx hb hts hinX4 hown hK hW hR.o0 (by rfl) 0 (by decide) (hts (.fieldLink RX4 10 "SeaPost" "fleet" "Ljava/util/ArrayList;") (by decide +kernel)) (fun _ h => h) rfl dX4_routes_6 ?_
  refine lv_iload_n hx hb dX4_routes_9 rfl (lv_at hl 1 rfl) ?_
  obtain ⟨z_2m, z_2a, z_2f, z_2, -, -⟩ := hR.o2 (x := 0) (Or.inl (by decide))
  refine mk_q (va_runV (As := [.int (nI u)]) (nL := 2) ⟨hx, hb, hml, hown, hts⟩ (kGetF l G N Γ (cs σ ρ) u (show u < σ 0 0 by omega) _ _ hR) (cwV 1 hts gX4_routes_Jx4a65c_get_915e3 rfl rfl rfl (by decide +kernel) ⟨(Nat.le_of_ble_eq_true rfl), (Nat.le_of_ble_eq_true rfl)⟩) (mp_V hK hE hW hA (mW_recv hK hW.1 z_2 (by rfl))) rfl rfl hl.1 rfl (lv_room (Nat.le_of_ble_eq_true rfl)) dX4_routes_10 ⟨(Nat.le_of_ble_eq_true rfl), (Nat.le_of_ble_eq_true rfl)⟩) hW hA (fun r9 M9 H locs hp_3 hW => ?_)
  obtain ⟨e91, e92⟩ := hp_3
  subst e91
  rw [e92] at hW
  clear e92
  refine W.eq (g2 := F0 m 13 ls [.ref (Γ 4 u)]) rfl ?_
  refine va_castS hx hb hown (hts (.classLink RX4 37 RX3) (by decide +kernel)) (hK.1 4 _ rfl).2 (mW_recv hK hW.1 (hR.o4 (i := u) (show u < σ 0 0 by omega)) (by rfl)) dX4_routes_13 ?_
  refine mr_get hx hb hts hinX3 hown hK hW (hR.o4 (i := u) (show u < σ 0 0 by omega)) (by rfl) 0 (by decide) (hts (.fieldLink RX4 79 "SeaPost$Ship" "told" "Ljava/util/ArrayList;") (by decide +kernel)) (fun _ h => h) rfl dX4_routes_16 ?_
  obtain ⟨z_4m, z_4a, z_4f, z_4, -, -⟩ := hR.o2 (x := 10 + u) (isL_t (show u < σ 0 0 by omega))
  refine mk_i (va_runV (As := []) (nL := 2) ⟨hx, hb, hml, hown, hts⟩ (kSize l G N Γ (cs σ ρ) (10 + u) (isL_t (show u < σ 0 0 by omega)) _ _ hR) (cwV 0 hts gX4_routes_Jx4a65c_size_8abf5 rfl rfl rfl (by decide +kernel) ⟨(Nat.le_of_ble_eq_true rfl), (Nat.le_of_ble_eq_true rfl)⟩) (mp_V hK hE hW hA (mW_recv hK hW.1 z_4 (by rfl))) rfl rfl hl.1 rfl (lv_room (Nat.le_of_ble_eq_true rfl)) dX4_routes_19 ⟨(Nat.le_of_ble_eq_true rfl), (Nat.le_of_ble_eq_true rfl)⟩) hW hA (fun r9 M9 H locs hp_5 hW => ?_)
  obtain ⟨e91, e92⟩ := hp_5
  subst e91
  rw [e92] at hW
  clear e92
  refine W.eq (g2 := F0 m 22 ls [.int (nI (cs σ ρ 30 (10 + u)))]) rfl ?_
  refine lv_tope (congrArg nI (show cs σ ρ 30 (10 + u) = σ 7 u from cs_30t (by omega))) ?_
  exact vx_ret (mr_iret hx hb hr hlk (Nat.le_of_ble_eq_true rfl) (Nat.le_of_ble_eq_true rfl) hW ⟨by unfold thS; first | (rw [if_pos (by omega)]; done) | (rw [if_neg (by omega)]; done) | (rw [if_neg (by omega), if_neg (by omega)]; done), rfl, Γ, ρ, rfl, hR, hH⟩ dX4_routes_22)

set_option maxHeartbeats 4000000 in
set_option maxRecDepth 100000 in
theorem wWord (l : Launch) (hst : l.stackTraces = false) (G : mG) (N : Mem) (Γ : Adr) (σ ρ : Sg) (q : Nat) (hq : q < 4294967296) (u : Nat) (hu : u < 4294967296) (hH : HS σ ρ) : pXi l yX4_word wsX4_word 7 5 30 G N Γ σ ρ [.ref (Γ 0 0), .int (nI q), .int (nI u)] (thW σ q u) (woS σ q u) (σ) ["java/lang/IndexOutOfBoundsException"] := by
  intro M sz hR
  refine m_startX cX4_word 3 (some .int) (by decide) rfl (Nat.le_of_ble_eq_true rfl) ?_
  intro p e s m below meth c ls hx hb hr hml hown hlk hnm hts hK hsz hE hW hl htab
  have hA := mA_A (M := M) hsz
  have hl : lv_has ls 3 [(0, .ref (Γ 0 0)), (1, .int (nI q)), (2, .int (nI u))] := hl
  have hinX2 : ∀ w ∈ u_ws RX2 TX2 6, w ∈ wsX4_word := (fun _ h => List.mem_cons_of_mem _ (List.mem_append_left _ (List.mem_append_right _ h)))
  have hinX3 : ∀ w ∈ u_ws RX3 TX3 3, w ∈ wsX4_word := (fun _ h => List.mem_cons_of_mem _ (List.mem_append_left _ (List.mem_append_left _ (List.mem_append_right _ h))))
  have hinX4 : ∀ w ∈ u_ws RX4 TX4 6, w ∈ wsX4_word := (fun _ h => List.mem_cons_of_mem _ (List.mem_append_left _ (List.mem_append_left _ (List.mem_append_left _ (List.mem_append_left _ (List.mem_append_right _ h))))))
  have hinJx4a65c : ∀ w ∈ u_ws RJx4a65c TJx4a65c 3, w ∈ wsX4_word := (fun _ h => List.mem_cons_of_mem _ (List.mem_append_left _ (List.mem_append_left _ (List.mem_append_left _ (List.mem_append_right _ h)))))
  have hI := hH.1
  obtain ⟨hV, hS, hD, hL, hZ, hRI⟩ := id hI
  have b0 : σ 0 0 ≤ 8 := hV 0 0
  have b8 : σ 8 0 ≤ 40 := hV 8 0
  have b24 : σ 24 0 ≤ 1000 := hV 24 0
  have hct := hH.cnt
  refine lv_iload_n hx hb dX4_word_0 rfl (lv_at hl 1 rfl) ?_
  refine mx_v (vx_runS (As := [.int (nI q)]) (nL := 3) ⟨hx, hb, hml, hown, hts⟩ (xPort l hst G _ _ q (by omega)) (va_cwS 1 hts gX4_word_X4_needPort rfl rfl rfl (by decide +kernel) ⟨(Nat.le_of_ble_eq_true rfl), (Nat.le_of_ble_eq_true rfl)⟩) (mp_S hK hE hW hA) rfl rfl hl.1 rfl (lv_room (Nat.le_of_ble_eq_true rfl)) dX4_word_1 ⟨(Nat.le_of_ble_eq_true rfl), (Nat.le_of_ble_eq_true rfl)⟩) hW hsz htab hlk (fun E hE9 => by obtain ⟨h1, rfl⟩ := hE9; exact xOk.of (k := 1) (by unfold thW; first | (rw [if_pos (by omega)]; done) | (rw [if_neg (by omega)]; done) | (rw [if_neg (by omega), if_pos (by omega)]; done) | (rw [if_neg (by omega), if_neg (by omega)]; done) | (rw [if_neg (by omega), if_neg (by omega), if_neg (by omega)]; done)) (by decide) rfl) (Nat.le_of_ble_eq_true rfl) (Nat.le_of_ble_eq_true rfl) (fun M9 H locs hp_1 hW => ?_)
  obtain ⟨hq0, e92⟩ := hp_1
  rw [e92] at hW
  clear e92
  refine W.eq (g2 := F0 m 4 ls []) rfl ?_
  refine lv_aload_n hx hb dX4_word_4 rfl (lv_at hl 0 rfl) ?_
  refine lv_iload_n hx hb dX4_word_5 rfl (lv_at hl 2 rfl) ?_
  refine mx_v (vx_runV (As := [.int (nI u)]) (nL := 3) ⟨hx, hb, hml, hown, hts⟩ (xShip l hst G N Γ (cs σ ρ) u (by omega) (show σ 0 0 < 2147483648 by omega) _ _ hR) (cwV 1 hts gX4_word_X4_needShip rfl rfl rfl (by decide +kernel) ⟨(Nat.le_of_ble_eq_true rfl), (Nat.le_of_ble_eq_true rfl)⟩) (mp_V hK hE hW hA (mW_recv hK hW.1 hR.o0 (by rfl))) rfl rfl hl.1 rfl (lv_room (Nat.le_of_ble_eq_true rfl)) dX4_word_6 ⟨(Nat.le_of_ble_eq_true rfl), (Nat.le_of_ble_eq_true rfl)⟩) hW hsz htab hlk (fun E hE9 => by have hu1 := hE9.1; have hu1 : ¬ u < σ 0 0 := hu1; obtain ⟨h1, rfl⟩ := hE9; exact xOk.of (k := 1) (by unfold thW; first | (rw [if_pos (by omega)]; done) | (rw [if_neg (by omega)]; done) | (rw [if_neg (by omega), if_pos (by omega)]; done) | (rw [if_neg (by omega), if_neg (by omega)]; done) | (rw [if_neg (by omega), if_neg (by omega), if_neg (by omega)]; done)) (by decide) rfl) (Nat.le_of_ble_eq_true rfl) (Nat.le_of_ble_eq_true rfl) (fun M9 H locs hp_2 hW => ?_)
  obtain ⟨hu0, e92⟩ := hp_2
  rw [e92] at hW
  clear e92
  refine W.eq (g2 := F0 m 9 ls []) rfl ?_
  have hu0 : u < σ 0 0 := hu0
  refine lv_aload_n hx hb dX4_word_9 rfl (lv_at hl 0 rfl) ?_
  refine mr_get hx hb hts hinX4 hown hK hW hR.o0 (by rfl) 0 (by decide) (hts (.fieldLink RX4 10 "SeaPost" "fleet" "Ljava/util/ArrayList;") (by decide +kernel)) (fun _ h => h) rfl dX4_word_10 ?_
  refine lv_iload_n hx hb dX4_word_13 rfl (lv_at hl 2 rfl) ?_
  obtain ⟨z_3m, z_3a, z_3f, z_3, -, -⟩ := hR.o2 (x := 0) (Or.inl (by decide))
  refine mk_q (va_runV (As := [.int (nI u)]) (nL := 3) ⟨hx, hb, hml, hown, hts⟩ (kGetF l G N Γ (cs σ ρ) u (show u < σ 0 0 by omega) _ _ hR) (cwV 1 hts gX4_word_Jx4a65c_get_915e3 rfl rfl rfl (by decide +kernel) ⟨(Nat.le_of_ble_eq_true rfl), (Nat.le_of_ble_eq_true rfl)⟩) (mp_V hK hE hW hA (mW_recv hK hW.1 z_3 (by rfl))) rfl rfl hl.1 rfl (lv_room (Nat.le_of_ble_eq_true rfl)) dX4_word_14 ⟨(Nat.le_of_ble_eq_true rfl), (Nat.le_of_ble_eq_true rfl)⟩) hW hA (fun r9 M9 H locs hp_4 hW => ?_)
  obtain ⟨e91, e92⟩ := hp_4
  subst e91
  rw [e92] at hW
  clear e92
  refine W.eq (g2 := F0 m 17 ls [.ref (Γ 4 u)]) rfl ?_
  refine va_castS hx hb hown (hts (.classLink RX4 37 RX3) (by decide +kernel)) (hK.1 4 _ rfl).2 (mW_recv hK hW.1 (hR.o4 (i := u) (show u < σ 0 0 by omega)) (by rfl)) dX4_word_17 ?_
  refine lv_iload_n hx hb dX4_word_20 rfl (lv_at hl 1 rfl) ?_
  refine lv_aload_n hx hb dX4_word_21 rfl (lv_at hl 0 rfl) ?_
  refine mr_get hx hb hts hinX4 hown hK hW hR.o0 (by rfl) 4 (by decide) (hts (.fieldLink RX4 84 "SeaPost" "day" "I") (by decide +kernel)) (fun _ h => h) rfl dX4_word_22 ?_
  refine lv_tope (congrArg nI (show (cs σ ρ) 24 0 = σ 24 0 from rfl)) ?_
  refine mk_i (va_runV (As := [.int (nI q), .int (nI (σ 24 0))]) (nL := 3) ⟨hx, hb, hml, hown, hts⟩ (vWord l G N Γ σ ρ u q hH (by omega) (by omega) _ _ hR) (cwV 2 hts gX4_word_X3_wordIn rfl rfl rfl (by decide +kernel) ⟨(Nat.le_of_ble_eq_true rfl), (Nat.le_of_ble_eq_true rfl)⟩) (mp_V hK hE hW hA (mW_recv hK hW.1 (hR.o4 (i := u) (show u < σ 0 0 by omega)) (by rfl))) rfl rfl hl.1 rfl (lv_room (Nat.le_of_ble_eq_true rfl)) dX4_word_25 ⟨(Nat.le_of_ble_eq_true rfl), (Nat.le_of_ble_eq_true rfl)⟩) hW hA (fun r9 M9 H locs hp_5 hW => ?_)
  obtain ⟨e91, e92⟩ := hp_5
  subst e91
  rw [e92] at hW
  clear e92
  refine W.eq (g2 := F0 m 28 ls [.int (nI (woS σ q u))]) rfl ?_
  exact vx_ret (mr_iret hx hb hr hlk (Nat.le_of_ble_eq_true rfl) (Nat.le_of_ble_eq_true rfl) hW ⟨by unfold thW; first | (rw [if_pos (by omega)]; done) | (rw [if_neg (by omega)]; done) | (rw [if_neg (by omega), if_neg (by omega)]; done), rfl, Γ, ρ, rfl, hR, hH⟩ dX4_word_28)

theorem beF_le {σ : Sg} {u : Nat} : ∀ n, beF σ u n ≤ n
  | 0 => Nat.le_refl _
  | n + 1 => by
    have := beF_le (σ := σ) (u := u) n
    show beF σ u n + (if 0 < σ 7 u ∧ woS σ n u ≠ σ 7 u - 1 then 1 else 0) ≤ n + 1
    split <;> omega
theorem dn_or (k : Nat) : (k = 0 ∧ dn k = 4294967295) ∨ (0 < k ∧ dn k = k - 1) := by
  cases k with
  | zero => exact Or.inl ⟨rfl, rfl⟩
  | succ k => exact Or.inr ⟨by omega, rfl⟩
theorem lyF_le {σ : Sg} {q : Nat} : ∀ n, lyF σ q n ≤ n
  | 0 => Nat.le_refl _
  | n + 1 => by
    have := lyF_le (σ := σ) (q := q) n
    show lyF σ q n + (if lies σ n ∧ σ 13 n = q then 1 else 0) ≤ n + 1
    split <;> omega

set_option maxHeartbeats 4000000 in
set_option maxRecDepth 100000 in
theorem wBehind (l : Launch) (hst : l.stackTraces = false) (G : mG) (N : Mem) (Γ : Adr) (σ ρ : Sg) (u : Nat) (hu : u < 4294967296) (hH : HS σ ρ) : pXi l yX4_behind wsX4_behind 7 5 30 G N Γ σ ρ [.ref (Γ 0 0), .int (nI u)] (thS σ u) (beF σ u 10) (σ) ["java/lang/IndexOutOfBoundsException"] := by
  intro M sz hR
  refine m_startX cX4_behind 6 (some .int) (by decide) rfl (Nat.le_of_ble_eq_true rfl) ?_
  intro p e s m below meth c ls hx hb hr hml hown hlk hnm hts hK hsz hE hW hl htab
  have hA := mA_A (M := M) hsz
  have hl : lv_has ls 6 [(0, .ref (Γ 0 0)), (1, .int (nI u))] := hl
  have hinX2 : ∀ w ∈ u_ws RX2 TX2 6, w ∈ wsX4_behind := (fun _ h => List.mem_cons_of_mem _ (List.mem_append_left _ (List.mem_append_right _ h)))
  have hinX3 : ∀ w ∈ u_ws RX3 TX3 3, w ∈ wsX4_behind := (fun _ h => List.mem_cons_of_mem _ (List.mem_append_left _ (List.mem_append_left _ (List.mem_append_left _ (List.mem_append_right _ h)))))
  have hinX4 : ∀ w ∈ u_ws RX4 TX4 6, w ∈ wsX4_behind := (fun _ h => List.mem_cons_of_mem _ (List.mem_append_left _ (List.mem_append_left _ (List.mem_append_left _ (List.mem_append_left _ (List.mem_append_right _ h))))))
  have hinJx4a65c : ∀ w ∈ u_ws RJx4a65c TJx4a65c 3, w ∈ wsX4_behind := (fun _ h => List.mem_cons_of_mem _ (List.mem_append_left _ (List.mem_append_left _ (List.mem_append_right _ h))))
  have hI := hH.1
  obtain ⟨hV, hS, hD, hL, hZ, hRI⟩ := id hI
  have b0 : σ 0 0 ≤ 8 := hV 0 0
  have b8 : σ 8 0 ≤ 40 := hV 8 0
  have b24 : σ 24 0 ≤ 1000 := hV 24 0
  have hct := hH.cnt
  refine lv_aload_n hx hb dX4_behind_0 rfl (lv_at hl 0 rfl) ?_
  refine lv_iload_n hx hb dX4_behind_1 rfl (lv_at hl 1 rfl) ?_
  refine mx_v (vx_runV (As := [.int (nI u)]) (nL := 6) ⟨hx, hb, hml, hown, hts⟩ (xShip l hst G N Γ (cs σ ρ) u (by omega) (show σ 0 0 < 2147483648 by omega) _ _ hR) (cwV 1 hts gX4_behind_X4_needShip rfl rfl rfl (by decide +kernel) ⟨(Nat.le_of_ble_eq_true rfl), (Nat.le_of_ble_eq_true rfl)⟩) (mp_V hK hE hW hA (mW_recv hK hW.1 hR.o0 (by rfl))) rfl rfl hl.1 rfl (lv_room (Nat.le_of_ble_eq_true rfl)) dX4_behind_2 ⟨(Nat.le_of_ble_eq_true rfl), (Nat.le_of_ble_eq_true rfl)⟩) hW hsz htab hlk (fun E hE9 => by have hu1 := hE9.1; have hu1 : ¬ u < σ 0 0 := hu1; obtain ⟨h1, rfl⟩ := hE9; exact xOk.of (k := 1) (by unfold thS; first | (rw [if_pos (by omega)]; done) | (rw [if_neg (by omega)]; done) | (rw [if_neg (by omega), if_pos (by omega)]; done) | (rw [if_neg (by omega), if_neg (by omega)]; done) | (rw [if_neg (by omega), if_neg (by omega), if_neg (by omega)]; done)) (by decide) rfl) (Nat.le_of_ble_eq_true rfl) (Nat.le_of_ble_eq_true rfl) (fun M9 H locs hp_1 hW => ?_)
  obtain ⟨hu0, e92⟩ := hp_1
  rw [e92] at hW
  clear e92
  refine W.eq (g2 := F0 m 5 ls []) rfl ?_
  have hu0 : u < σ 0 0 := hu0
  refine lv_aload_n hx hb dX4_behind_5 rfl (lv_at hl 0 rfl) ?_
  refine mr_get hx hb hts hinX4 hown hK hW hR.o0 (by rfl) 0 (by decide) (hts (.fieldLink RX4 10 "SeaPost" "fleet" "Ljava/util/ArrayList;") (by decide +kernel)) (fun _ h => h) rfl dX4_behind_6 ?_
  refine lv_iload_n hx hb dX4_behind_9 rfl (lv_at hl 1 rfl) ?_
  obtain ⟨z_2m, z_2a, z_2f, z_2, -, -⟩ := hR.o2 (x := 0) (Or.inl (by decide))
  refine mk_q (va_runV (As := [.int (nI u)]) (nL := 6) ⟨hx, hb, hml, hown, hts⟩ (kGetF l G N Γ (cs σ ρ) u (show u < σ 0 0 by omega) _ _ hR) (cwV 1 hts gX4_behind_Jx4a65c_get_915e3 rfl rfl rfl (by decide +kernel) ⟨(Nat.le_of_ble_eq_true rfl), (Nat.le_of_ble_eq_true rfl)⟩) (mp_V hK hE hW hA (mW_recv hK hW.1 z_2 (by rfl))) rfl rfl hl.1 rfl (lv_room (Nat.le_of_ble_eq_true rfl)) dX4_behind_10 ⟨(Nat.le_of_ble_eq_true rfl), (Nat.le_of_ble_eq_true rfl)⟩) hW hA (fun r9 M9 H locs hp_3 hW => ?_)
  obtain ⟨e91, e92⟩ := hp_3
  subst e91
  rw [e92] at hW
  clear e92
  refine W.eq (g2 := F0 m 13 ls [.ref (Γ 4 u)]) rfl ?_
  refine va_castS hx hb hown (hts (.classLink RX4 37 RX3) (by decide +kernel)) (hK.1 4 _ rfl).2 (mW_recv hK hW.1 (hR.o4 (i := u) (show u < σ 0 0 by omega)) (by rfl)) dX4_behind_13 ?_
  refine lv_astore_n (lv' := [(2, .ref (Γ 4 u)), (0, .ref (Γ 0 0)), (1, .int (nI u))]) hx hb dX4_behind_16 rfl hl (by decide) rfl (fun ls hl => ?_)
  refine lv_aload_n hx hb dX4_behind_17 rfl (lv_at hl 0 rfl) ?_
  refine mr_get hx hb hts hinX3 hown hK hW (hR.o4 (i := u) (show u < σ 0 0 by omega)) (by rfl) 0 (by decide) (hts (.fieldLink RX4 79 "SeaPost$Ship" "told" "Ljava/util/ArrayList;") (by decide +kernel)) (fun _ h => h) rfl dX4_behind_18 ?_
  obtain ⟨z_4m, z_4a, z_4f, z_4, -, -⟩ := hR.o2 (x := 10 + u) (isL_t (show u < σ 0 0 by omega))
  refine mk_i (va_runV (As := []) (nL := 6) ⟨hx, hb, hml, hown, hts⟩ (kSize l G N Γ (cs σ ρ) (10 + u) (isL_t (show u < σ 0 0 by omega)) _ _ hR) (cwV 0 hts gX4_behind_Jx4a65c_size_8abf5 rfl rfl rfl (by decide +kernel) ⟨(Nat.le_of_ble_eq_true rfl), (Nat.le_of_ble_eq_true rfl)⟩) (mp_V hK hE hW hA (mW_recv hK hW.1 z_4 (by rfl))) rfl rfl hl.1 rfl (lv_room (Nat.le_of_ble_eq_true rfl)) dX4_behind_21 ⟨(Nat.le_of_ble_eq_true rfl), (Nat.le_of_ble_eq_true rfl)⟩) hW hA (fun r9 M9 H locs hp_5 hW => ?_)
  obtain ⟨e91, e92⟩ := hp_5
  subst e91
  rw [e92] at hW
  clear e92
  refine W.eq (g2 := F0 m 24 ls [.int (nI (cs σ ρ 30 (10 + u)))]) rfl ?_
  refine lv_tope (congrArg nI (show cs σ ρ 30 (10 + u) = σ 7 u from cs_30t (by omega))) ?_
  refine lv_iconst (v := nI 1) hx hb dX4_behind_24 (by decide) ?_
  refine lv_isub hx hb dX4_behind_25 (lv_tope (nI_dn (σ 7 u)) ?_)
  refine lv_istore_n (lv' := [(3, .int (nI (dn (σ 7 u)))), (2, .ref (Γ 4 u)), (0, .ref (Γ 0 0)), (1, .int (nI u))]) hx hb dX4_behind_26 rfl hl (by decide) rfl (fun ls hl => ?_)
  refine lv_iconst (v := nI 0) hx hb dX4_behind_27 (by decide) ?_
  refine lv_istore (lv' := [(4, .int (nI 0)), (3, .int (nI (dn (σ 7 u)))), (2, .ref (Γ 4 u)), (0, .ref (Γ 0 0)), (1, .int (nI u))]) hx hb dX4_behind_28 hl (by decide) rfl (fun ls hl => ?_)
  refine lv_iconst (v := nI 0) hx hb dX4_behind_30 (by decide) ?_
  refine lv_istore (lv' := [(5, .int (nI 0)), (4, .int (nI 0)), (3, .int (nI (dn (σ 7 u)))), (2, .ref (Γ 4 u)), (0, .ref (Γ 0 0)), (1, .int (nI u))]) hx hb dX4_behind_31 hl (by decide) rfl (fun ls hl => ?_)
  refine m_loop 10 (fun n H locs ls => mW G.1 vwCl (mA M sz) s.heap M H locs ∧ lv_has ls 6 [(5, .int (nI n)), (4, .int (nI (beF σ u n))), (0, .ref (Γ 0 0)), (2, .ref (Γ 4 u)), (3, .int (nI (dn (σ 7 u))))]) 0 (Nat.zero_le _) ⟨hW, lv_sub hl [0, 1, 4, 3, 2] rfl⟩ (fun n H locs ls hn hI9 ih => ?_)
  obtain ⟨hW, hl⟩ := hI9
  have hbf : beF σ u n ≤ n := beF_le n
  refine lv_iload hx hb dX4_behind_33 (lv_at hl 0 rfl) ?_
  refine lv_bipush (v := nI 10) hx hb dX4_behind_35 (by decide) ?_
  refine nv_icmp_ge (u := n) (v := 10) (tgt := 63) hx hb dX4_behind_37 (by decide) (by omega) (by omega) (fun c_6 => ?_) (fun c_6 => ?_)
  · skip
    refine lv_iload hx hb dX4_behind_63 (lv_at hl 1 rfl) ?_
    exact vx_ret (mr_iret hx hb hr hlk (Nat.le_of_ble_eq_true rfl) (Nat.le_of_ble_eq_true rfl) hW ⟨by unfold thS; first | (rw [if_pos (by omega)]; done) | (rw [if_neg (by omega)]; done) | (rw [if_neg (by omega), if_neg (by omega)]; done), congrArg nI (by rw [show n = 10 by omega]), Γ, ρ, rfl, hR, hH⟩ dX4_behind_65)
  · skip
    have hwo := woF_lt (σ := σ) (q := n) (u := u) (σ 7 u)
    have b7 : σ 7 u ≤ 20 := hV 7 u
    have hwo : woS σ n u = 4294967295 ∨ woS σ n u < σ 7 u := hwo
    have hdn : (σ 7 u = 0 ∧ dn (σ 7 u) = 4294967295) ∨ (0 < σ 7 u ∧ dn (σ 7 u) = σ 7 u - 1) := dn_or _
    refine lv_aload_n hx hb dX4_behind_40 rfl (lv_at hl 3 rfl) ?_
    refine lv_iload hx hb dX4_behind_41 (lv_at hl 0 rfl) ?_
    refine lv_aload_n hx hb dX4_behind_43 rfl (lv_at hl 2 rfl) ?_
    refine mr_get hx hb hts hinX4 hown hK hW hR.o0 (by rfl) 4 (by decide) (hts (.fieldLink RX4 84 "SeaPost" "day" "I") (by decide +kernel)) (fun _ h => h) rfl dX4_behind_44 ?_
    refine lv_tope (congrArg nI (show (cs σ ρ) 24 0 = σ 24 0 from rfl)) ?_
    refine mk_i (va_runV (As := [.int (nI n), .int (nI (σ 24 0))]) (nL := 6) ⟨hx, hb, hml, hown, hts⟩ (vWord l G N Γ σ ρ u n hH (by omega) (by omega) _ _ hR) (cwV 2 hts gX4_behind_X3_wordIn rfl rfl rfl (by decide +kernel) ⟨(Nat.le_of_ble_eq_true rfl), (Nat.le_of_ble_eq_true rfl)⟩) (mp_V hK hE hW hA (mW_recv hK hW.1 (hR.o4 (i := u) (show u < σ 0 0 by omega)) (by rfl))) rfl rfl hl.1 rfl (lv_room (Nat.le_of_ble_eq_true rfl)) dX4_behind_47 ⟨(Nat.le_of_ble_eq_true rfl), (Nat.le_of_ble_eq_true rfl)⟩) hW hA (fun r9 M9 H locs hp_7 hW => ?_)
    obtain ⟨e91, e92⟩ := hp_7
    subst e91
    rw [e92] at hW
    clear e92
    refine W.eq (g2 := F0 m 50 ls [.int (nI (woS σ n u))]) rfl ?_
    refine lv_iload_n hx hb dX4_behind_50 rfl (lv_at hl 4 rfl) ?_
    refine nv_icmp_eq (u := woS σ n u) (v := dn (σ 7 u)) (tgt := 57) hx hb dX4_behind_51 (by decide) (by omega) (by omega) (fun c_8 => ?_) (fun c_8 => ?_)
    · skip
      refine lv_iinc (v := nI (n + 1)) (lv' := [(5, .int (nI (n + 1))), (4, .int (nI (beF σ u n))), (0, .ref (Γ 0 0)), (2, .ref (Γ 4 u)), (3, .int (nI (dn (σ 7 u))))]) hx hb dX4_behind_57 hl (k := 0) rfl (by rw [show (Int32.ofInt 1) = nI 1 by decide, nI_add]) (by decide) rfl (fun ls hl => ?_)
      refine lv_goto (tgt := 33) hx hb dX4_behind_60 (by decide) ?_
      exact ih _ _ _ (by omega) ⟨hW, by rw [show beF σ u (n + 1) = beF σ u n by show beF σ u n + _ = _; rw [if_neg (by omega), Nat.add_zero]]; exact lv_sub hl [0, 1, 2, 3, 4] rfl⟩
    · skip
      refine lv_iinc (v := nI (beF σ u n + 1)) (lv' := [(4, .int (nI (beF σ u n + 1))), (5, .int (nI n)), (0, .ref (Γ 0 0)), (2, .ref (Γ 4 u)), (3, .int (nI (dn (σ 7 u))))]) hx hb dX4_behind_54 hl (k := 1) rfl (by rw [show (Int32.ofInt 1) = nI 1 by decide, nI_add]) (by decide) rfl (fun ls hl => ?_)
      refine lv_iinc (v := nI (n + 1)) (lv' := [(5, .int (nI (n + 1))), (4, .int (nI (beF σ u n + 1))), (0, .ref (Γ 0 0)), (2, .ref (Γ 4 u)), (3, .int (nI (dn (σ 7 u))))]) hx hb dX4_behind_57 hl (k := 1) rfl (by rw [show (Int32.ofInt 1) = nI 1 by decide, nI_add]) (by decide) rfl (fun ls hl => ?_)
      refine lv_goto (tgt := 33) hx hb dX4_behind_60 (by decide) ?_
      exact ih _ _ _ (by omega) ⟨hW, by rw [show beF σ u (n + 1) = beF σ u n + 1 by show beF σ u n + _ = _; rw [if_pos (by omega)]]; exact lv_sub hl [0, 1, 2, 3, 4] rfl⟩

set_option maxHeartbeats 4000000 in
set_option maxRecDepth 100000 in
theorem wIsClosed (l : Launch) (hst : l.stackTraces = false) (G : mG) (N : Mem) (Γ : Adr) (σ ρ : Sg) (q : Nat) (hq : q < 4294967296) (hH : HS σ ρ) : pXi l yX4_isClosed wsX4_isClosed 7 5 30 G N Γ σ ρ [.ref (Γ 0 0), .int (nI q)] (thI σ q) (if shut σ q then 1 else 0) (σ) ["java/lang/IndexOutOfBoundsException"] := by
  intro M sz hR
  refine m_startX cX4_isClosed 2 (some .boolean) (by decide) rfl (Nat.le_of_ble_eq_true rfl) ?_
  intro p e s m below meth c ls hx hb hr hml hown hlk hnm hts hK hsz hE hW hl htab
  have hA := mA_A (M := M) hsz
  have hl : lv_has ls 2 [(0, .ref (Γ 0 0)), (1, .int (nI q))] := hl
  have hinX4 : ∀ w ∈ u_ws RX4 TX4 6, w ∈ wsX4_isClosed := (fun _ h => List.mem_cons_of_mem _ (List.mem_append_left _ (List.mem_append_right _ h)))
  have hI := hH.1
  obtain ⟨hV, hS, hD, hL, hZ, hRI⟩ := id hI
  have b0 : σ 0 0 ≤ 8 := hV 0 0
  have b8 : σ 8 0 ≤ 40 := hV 8 0
  have b24 : σ 24 0 ≤ 1000 := hV 24 0
  have hct := hH.cnt
  refine lv_iload_n hx hb dX4_isClosed_0 rfl (lv_at hl 1 rfl) ?_
  refine mx_v (vx_runS (As := [.int (nI q)]) (nL := 2) ⟨hx, hb, hml, hown, hts⟩ (xPort l hst G _ _ q (by omega)) (va_cwS 1 hts gX4_isClosed_X4_needPort rfl rfl rfl (by decide +kernel) ⟨(Nat.le_of_ble_eq_true rfl), (Nat.le_of_ble_eq_true rfl)⟩) (mp_S hK hE hW hA) rfl rfl hl.1 rfl (lv_room (Nat.le_of_ble_eq_true rfl)) dX4_isClosed_1 ⟨(Nat.le_of_ble_eq_true rfl), (Nat.le_of_ble_eq_true rfl)⟩) hW hsz htab hlk (fun E hE9 => by obtain ⟨h1, rfl⟩ := hE9; exact xOk.of (k := 1) (by unfold thI; first | (rw [if_pos (by omega)]; done) | (rw [if_neg (by omega)]; done) | (rw [if_neg (by omega), if_pos (by omega)]; done) | (rw [if_neg (by omega), if_neg (by omega)]; done) | (rw [if_neg (by omega), if_neg (by omega), if_neg (by omega)]; done)) (by decide) rfl) (Nat.le_of_ble_eq_true rfl) (Nat.le_of_ble_eq_true rfl) (fun M9 H locs hp_1 hW => ?_)
  obtain ⟨hq0, e92⟩ := hp_1
  rw [e92] at hW
  clear e92
  refine W.eq (g2 := F0 m 4 ls []) rfl ?_
  refine lv_aload_n hx hb dX4_isClosed_4 rfl (lv_at hl 0 rfl) ?_
  refine lv_iload_n hx hb dX4_isClosed_5 rfl (lv_at hl 1 rfl) ?_
  refine mk_i (va_runV (As := [.int (nI q)]) (nL := 2) ⟨hx, hb, hml, hown, hts⟩ (kShut l G N Γ (cs σ ρ) q (by omega) (show σ 24 0 < 2147483648 by omega) (by have h23 : σ 23 q ≤ 1060 := hV 23 q; show σ 23 q < 2147483648; omega) _ _ hR) (cwV 1 hts gX4_isClosed_X4_isShut rfl rfl rfl (by decide +kernel) ⟨(Nat.le_of_ble_eq_true rfl), (Nat.le_of_ble_eq_true rfl)⟩) (mp_V hK hE hW hA (mW_recv hK hW.1 hR.o0 (by rfl))) rfl rfl hl.1 rfl (lv_room (Nat.le_of_ble_eq_true rfl)) dX4_isClosed_6 ⟨(Nat.le_of_ble_eq_true rfl), (Nat.le_of_ble_eq_true rfl)⟩) hW hA (fun r9 M9 H locs hp_2 hW => ?_)
  obtain ⟨e91, e92⟩ := hp_2
  subst e91
  rw [e92] at hW
  clear e92
  refine W.eq (g2 := F0 m 9 ls [.int (nI (if shut σ q then 1 else 0))]) rfl ?_
  exact vx_ret (mr_zret (v := nI (if shut σ q then 1 else 0)) hx hb hr hlk (by first | rfl | exact mc_nb | exact mc_char (by omega) | (exact mc_nc (by omega))) (Nat.le_of_ble_eq_true rfl) (Nat.le_of_ble_eq_true rfl) hW ⟨by unfold thI; first | (rw [if_pos (by omega)]; done) | (rw [if_neg (by omega)]; done) | (rw [if_neg (by omega), if_neg (by omega)]; done), rfl, Γ, ρ, rfl, hR, hH⟩ dX4_isClosed_9)

set_option maxHeartbeats 4000000 in
set_option maxRecDepth 100000 in
theorem wState (l : Launch) (hst : l.stackTraces = false) (G : mG) (N : Mem) (Γ : Adr) (σ ρ : Sg) (i : Nat) (hi : i < 4294967296) (hH : HS σ ρ) : pXi l yX4_state wsX4_state 7 5 30 G N Γ σ ρ [.ref (Γ 0 0), .int (nI i)] (thL σ i) (σ 12 i) (σ) ["java/lang/IndexOutOfBoundsException"] := by
  intro M sz hR
  refine m_startX cX4_state 2 (some .int) (by decide) rfl (Nat.le_of_ble_eq_true rfl) ?_
  intro p e s m below meth c ls hx hb hr hml hown hlk hnm hts hK hsz hE hW hl htab
  have hA := mA_A (M := M) hsz
  have hl : lv_has ls 2 [(0, .ref (Γ 0 0)), (1, .int (nI i))] := hl
  have hinX1 : ∀ w ∈ u_ws RX1 TX1 10, w ∈ wsX4_state := (fun _ h => List.mem_cons_of_mem _ (List.mem_append_left _ (List.mem_append_left _ (List.mem_append_right _ h))))
  have hinX4 : ∀ w ∈ u_ws RX4 TX4 6, w ∈ wsX4_state := (fun _ h => List.mem_cons_of_mem _ (List.mem_append_left _ (List.mem_append_left _ (List.mem_append_left _ (List.mem_append_right _ h)))))
  have hinJx4a65c : ∀ w ∈ u_ws RJx4a65c TJx4a65c 3, w ∈ wsX4_state := (fun _ h => List.mem_cons_of_mem _ (List.mem_append_left _ (List.mem_append_right _ h)))
  have hI := hH.1
  obtain ⟨hV, hS, hD, hL, hZ, hRI⟩ := id hI
  have b0 : σ 0 0 ≤ 8 := hV 0 0
  have b8 : σ 8 0 ≤ 40 := hV 8 0
  have b24 : σ 24 0 ≤ 1000 := hV 24 0
  have hct := hH.cnt
  refine lv_aload_n hx hb dX4_state_0 rfl (lv_at hl 0 rfl) ?_
  refine lv_iload_n hx hb dX4_state_1 rfl (lv_at hl 1 rfl) ?_
  refine mx_v (vx_runV (As := [.int (nI i)]) (nL := 2) ⟨hx, hb, hml, hown, hts⟩ (xLetter l hst G N Γ (cs σ ρ) i (by omega) (show σ 8 0 < 2147483648 by omega) _ _ hR) (cwV 1 hts gX4_state_X4_needLetter rfl rfl rfl (by decide +kernel) ⟨(Nat.le_of_ble_eq_true rfl), (Nat.le_of_ble_eq_true rfl)⟩) (mp_V hK hE hW hA (mW_recv hK hW.1 hR.o0 (by rfl))) rfl rfl hl.1 rfl (lv_room (Nat.le_of_ble_eq_true rfl)) dX4_state_2 ⟨(Nat.le_of_ble_eq_true rfl), (Nat.le_of_ble_eq_true rfl)⟩) hW hsz htab hlk (fun E hE9 => by have hu1 := hE9.1; have hu1 : ¬ i < σ 8 0 := hu1; obtain ⟨h1, rfl⟩ := hE9; exact xOk.of (k := 1) (by unfold thL; first | (rw [if_pos (by omega)]; done) | (rw [if_neg (by omega)]; done) | (rw [if_neg (by omega), if_pos (by omega)]; done) | (rw [if_neg (by omega), if_neg (by omega)]; done) | (rw [if_neg (by omega), if_neg (by omega), if_neg (by omega)]; done)) (by decide) rfl) (Nat.le_of_ble_eq_true rfl) (Nat.le_of_ble_eq_true rfl) (fun M9 H locs hp_1 hW => ?_)
  obtain ⟨hi0, e92⟩ := hp_1
  rw [e92] at hW
  clear e92
  refine W.eq (g2 := F0 m 5 ls []) rfl ?_
  have hi0 : i < σ 8 0 := hi0
  obtain ⟨l1, l2, l3, l4, l5, l6⟩ := hL i hi0
  have l7 : σ 18 i ≤ 125 := l6.2.2.2.2
  have e12 : cs σ ρ 12 i = σ 12 i := if_neg (by omega)
  refine lv_aload_n hx hb dX4_state_5 rfl (lv_at hl 0 rfl) ?_
  refine mr_get hx hb hts hinX4 hown hK hW hR.o0 (by rfl) 1 (by decide) (hts (.fieldLink RX4 16 "SeaPost" "mail" "Ljava/util/ArrayList;") (by decide +kernel)) (fun _ h => h) rfl dX4_state_6 ?_
  refine lv_iload_n hx hb dX4_state_9 rfl (lv_at hl 1 rfl) ?_
  obtain ⟨z_2m, z_2a, z_2f, z_2, -, -⟩ := hR.o2 (x := 1) (Or.inl (by decide))
  refine mk_q (va_runV (As := [.int (nI i)]) (nL := 2) ⟨hx, hb, hml, hown, hts⟩ (kGetM l G N Γ (cs σ ρ) i (show i < σ 8 0 by omega) _ _ hR) (cwV 1 hts gX4_state_Jx4a65c_get_915e3 rfl rfl rfl (by decide +kernel) ⟨(Nat.le_of_ble_eq_true rfl), (Nat.le_of_ble_eq_true rfl)⟩) (mp_V hK hE hW hA (mW_recv hK hW.1 z_2 (by rfl))) rfl rfl hl.1 rfl (lv_room (Nat.le_of_ble_eq_true rfl)) dX4_state_10 ⟨(Nat.le_of_ble_eq_true rfl), (Nat.le_of_ble_eq_true rfl)⟩) hW hA (fun r9 M9 H locs hp_3 hW => ?_)
  obtain ⟨e91, e92⟩ := hp_3
  subst e91
  rw [e92] at hW
  clear e92
  refine W.eq (g2 := F0 m 13 ls [.ref (Γ 9 i)]) rfl ?_
  refine va_castS hx hb hown (hts (.classLink RX4 101 RX1) (by decide +kernel)) (hK.1 2 _ rfl).2 (mW_recv hK hW.1 (hR.o9 (i := i) (show i < σ 8 0 by omega)) (by rfl)) dX4_state_13 ?_
  refine mr_get hx hb hts hinX1 hown hK hW (hR.o9 (i := i) (show i < σ 8 0 by omega)) (by rfl) 5 (by decide) (hts (.fieldLink RX4 145 "SeaPost$Letter" "condition" "I") (by decide +kernel)) (fun _ h => h) rfl dX4_state_16 ?_
  refine lv_tope (congrArg nI (show (cs σ ρ) 12 i = σ 12 i from e12)) ?_
  exact vx_ret (mr_iret hx hb hr hlk (Nat.le_of_ble_eq_true rfl) (Nat.le_of_ble_eq_true rfl) hW ⟨by unfold thL; first | (rw [if_pos (by omega)]; done) | (rw [if_neg (by omega)]; done) | (rw [if_neg (by omega), if_neg (by omega)]; done), rfl, Γ, ρ, rfl, hR, hH⟩ dX4_state_19)

set_option maxHeartbeats 4000000 in
set_option maxRecDepth 100000 in
theorem wWhere (l : Launch) (hst : l.stackTraces = false) (G : mG) (N : Mem) (Γ : Adr) (σ ρ : Sg) (i : Nat) (hi : i < 4294967296) (hH : HS σ ρ) : pXi l yX4_where wsX4_where 7 5 30 G N Γ σ ρ [.ref (Γ 0 0), .int (nI i)] (thL σ i) (whS σ i) (σ) ["java/lang/IndexOutOfBoundsException"] := by
  intro M sz hR
  refine m_startX cX4_where 2 (some .int) (by decide) rfl (Nat.le_of_ble_eq_true rfl) ?_
  intro p e s m below meth c ls hx hb hr hml hown hlk hnm hts hK hsz hE hW hl htab
  have hA := mA_A (M := M) hsz
  have hl : lv_has ls 2 [(0, .ref (Γ 0 0)), (1, .int (nI i))] := hl
  have hinX1 : ∀ w ∈ u_ws RX1 TX1 10, w ∈ wsX4_where := (fun _ h => List.mem_cons_of_mem _ (List.mem_append_left _ (List.mem_append_right _ h)))
  have hinX4 : ∀ w ∈ u_ws RX4 TX4 6, w ∈ wsX4_where := (fun _ h => List.mem_cons_of_mem _ (List.mem_append_left _ (List.mem_append_left _ (List.mem_append_left _ (List.mem_append_right _ h)))))
  have hinJx4a65c : ∀ w ∈ u_ws RJx4a65c TJx4a65c 3, w ∈ wsX4_where := (fun _ h => List.mem_cons_of_mem _ (List.mem_append_left _ (List.mem_append_left _ (List.mem_append_right _ h))))
  have hI := hH.1
  obtain ⟨hV, hS, hD, hL, hZ, hRI⟩ := id hI
  have b0 : σ 0 0 ≤ 8 := hV 0 0
  have b8 : σ 8 0 ≤ 40 := hV 8 0
  have b24 : σ 24 0 ≤ 1000 := hV 24 0
  have hct := hH.cnt
  refine lv_aload_n hx hb dX4_where_0 rfl (lv_at hl 0 rfl) ?_
  refine lv_iload_n hx hb dX4_where_1 rfl (lv_at hl 1 rfl) ?_
  refine mx_v (vx_runV (As := [.int (nI i)]) (nL := 2) ⟨hx, hb, hml, hown, hts⟩ (xLetter l hst G N Γ (cs σ ρ) i (by omega) (show σ 8 0 < 2147483648 by omega) _ _ hR) (cwV 1 hts gX4_where_X4_needLetter rfl rfl rfl (by decide +kernel) ⟨(Nat.le_of_ble_eq_true rfl), (Nat.le_of_ble_eq_true rfl)⟩) (mp_V hK hE hW hA (mW_recv hK hW.1 hR.o0 (by rfl))) rfl rfl hl.1 rfl (lv_room (Nat.le_of_ble_eq_true rfl)) dX4_where_2 ⟨(Nat.le_of_ble_eq_true rfl), (Nat.le_of_ble_eq_true rfl)⟩) hW hsz htab hlk (fun E hE9 => by have hu1 := hE9.1; have hu1 : ¬ i < σ 8 0 := hu1; obtain ⟨h1, rfl⟩ := hE9; exact xOk.of (k := 1) (by unfold thL; first | (rw [if_pos (by omega)]; done) | (rw [if_neg (by omega)]; done) | (rw [if_neg (by omega), if_pos (by omega)]; done) | (rw [if_neg (by omega), if_neg (by omega)]; done) | (rw [if_neg (by omega), if_neg (by omega), if_neg (by omega)]; done)) (by decide) rfl) (Nat.le_of_ble_eq_true rfl) (Nat.le_of_ble_eq_true rfl) (fun M9 H locs hp_1 hW => ?_)
  obtain ⟨hi0, e92⟩ := hp_1
  rw [e92] at hW
  clear e92
  refine W.eq (g2 := F0 m 5 ls []) rfl ?_
  have hi0 : i < σ 8 0 := hi0
  obtain ⟨l1, l2, l3, l4, l5, l6⟩ := hL i hi0
  have l7 : σ 18 i ≤ 125 := l6.2.2.2.2
  have e12 : cs σ ρ 12 i = σ 12 i := if_neg (by omega)
  refine lv_aload_n hx hb dX4_where_5 rfl (lv_at hl 0 rfl) ?_
  refine mr_get hx hb hts hinX4 hown hK hW hR.o0 (by rfl) 1 (by decide) (hts (.fieldLink RX4 16 "SeaPost" "mail" "Ljava/util/ArrayList;") (by decide +kernel)) (fun _ h => h) rfl dX4_where_6 ?_
  refine lv_iload_n hx hb dX4_where_9 rfl (lv_at hl 1 rfl) ?_
  obtain ⟨z_2m, z_2a, z_2f, z_2, -, -⟩ := hR.o2 (x := 1) (Or.inl (by decide))
  refine mk_q (va_runV (As := [.int (nI i)]) (nL := 2) ⟨hx, hb, hml, hown, hts⟩ (kGetM l G N Γ (cs σ ρ) i (show i < σ 8 0 by omega) _ _ hR) (cwV 1 hts gX4_where_Jx4a65c_get_915e3 rfl rfl rfl (by decide +kernel) ⟨(Nat.le_of_ble_eq_true rfl), (Nat.le_of_ble_eq_true rfl)⟩) (mp_V hK hE hW hA (mW_recv hK hW.1 z_2 (by rfl))) rfl rfl hl.1 rfl (lv_room (Nat.le_of_ble_eq_true rfl)) dX4_where_10 ⟨(Nat.le_of_ble_eq_true rfl), (Nat.le_of_ble_eq_true rfl)⟩) hW hA (fun r9 M9 H locs hp_3 hW => ?_)
  obtain ⟨e91, e92⟩ := hp_3
  subst e91
  rw [e92] at hW
  clear e92
  refine W.eq (g2 := F0 m 13 ls [.ref (Γ 9 i)]) rfl ?_
  refine va_castS hx hb hown (hts (.classLink RX4 101 RX1) (by decide +kernel)) (hK.1 2 _ rfl).2 (mW_recv hK hW.1 (hR.o9 (i := i) (show i < σ 8 0 by omega)) (by rfl)) dX4_where_13 ?_
  refine mk_i (va_runV (As := []) (nL := 2) ⟨hx, hb, hml, hown, hts⟩ (vPlace l G N Γ σ ρ i (by omega) (by omega) _ _ hR) (cwV 0 hts gX4_where_X1_place rfl rfl rfl (by decide +kernel) ⟨(Nat.le_of_ble_eq_true rfl), (Nat.le_of_ble_eq_true rfl)⟩) (mp_V hK hE hW hA (mW_recv hK hW.1 (hR.o9 (i := i) (show i < σ 8 0 by omega)) (by rfl))) rfl rfl hl.1 rfl (lv_room (Nat.le_of_ble_eq_true rfl)) dX4_where_16 ⟨(Nat.le_of_ble_eq_true rfl), (Nat.le_of_ble_eq_true rfl)⟩) hW hA (fun r9 M9 H locs hp_4 hW => ?_)
  obtain ⟨e91, e92⟩ := hp_4
  subst e91
  rw [e92] at hW
  clear e92
  refine W.eq (g2 := F0 m 19 ls [.int (nI (whS σ i))]) rfl ?_
  exact vx_ret (mr_iret hx hb hr hlk (Nat.le_of_ble_eq_true rfl) (Nat.le_of_ble_eq_true rfl) hW ⟨by unfold thL; first | (rw [if_pos (by omega)]; done) | (rw [if_neg (by omega)]; done) | (rw [if_neg (by omega), if_neg (by omega)]; done), rfl, Γ, ρ, rfl, hR, hH⟩ dX4_where_19)

set_option maxHeartbeats 4000000 in
set_option maxRecDepth 100000 in
theorem wByMarks (l : Launch) (hst : l.stackTraces = false) (G : mG) (N : Mem) (Γ : Adr) (σ ρ : Sg) (i : Nat) (hi : i < 4294967296) (hH : HS σ ρ) : pXi l yX4_whereByMarks wsX4_whereByMarks 7 5 30 G N Γ σ ρ [.ref (Γ 0 0), .int (nI i)] (thL σ i) (wmS σ i) (σ) ["java/lang/IndexOutOfBoundsException"] := by
  intro M sz hR
  refine m_startX cX4_whereByMarks 2 (some .int) (by decide) rfl (Nat.le_of_ble_eq_true rfl) ?_
  intro p e s m below meth c ls hx hb hr hml hown hlk hnm hts hK hsz hE hW hl htab
  have hA := mA_A (M := M) hsz
  have hl : lv_has ls 2 [(0, .ref (Γ 0 0)), (1, .int (nI i))] := hl
  have hinX0 : ∀ w ∈ u_ws RX0 TX0 2, w ∈ wsX4_whereByMarks := (fun _ h => List.mem_cons_of_mem _ (List.mem_append_left _ (List.mem_append_right _ h)))
  have hinX1 : ∀ w ∈ u_ws RX1 TX1 10, w ∈ wsX4_whereByMarks := (fun _ h => List.mem_cons_of_mem _ (List.mem_append_left _ (List.mem_append_left _ (List.mem_append_left _ (List.mem_append_right _ h)))))
  have hinX4 : ∀ w ∈ u_ws RX4 TX4 6, w ∈ wsX4_whereByMarks := (fun _ h => List.mem_cons_of_mem _ (List.mem_append_left _ (List.mem_append_left _ (List.mem_append_left _ (List.mem_append_left _ (List.mem_append_right _ h))))))
  have hinJx4a65c : ∀ w ∈ u_ws RJx4a65c TJx4a65c 3, w ∈ wsX4_whereByMarks := (fun _ h => List.mem_cons_of_mem _ (List.mem_append_left _ (List.mem_append_left _ (List.mem_append_right _ h))))
  have hI := hH.1
  obtain ⟨hV, hS, hD, hL, hZ, hRI⟩ := id hI
  have b0 : σ 0 0 ≤ 8 := hV 0 0
  have b8 : σ 8 0 ≤ 40 := hV 8 0
  have b24 : σ 24 0 ≤ 1000 := hV 24 0
  have hct := hH.cnt
  refine lv_aload_n hx hb dX4_whereByMarks_0 rfl (lv_at hl 0 rfl) ?_
  refine lv_iload_n hx hb dX4_whereByMarks_1 rfl (lv_at hl 1 rfl) ?_
  refine mx_v (vx_runV (As := [.int (nI i)]) (nL := 2) ⟨hx, hb, hml, hown, hts⟩ (xLetter l hst G N Γ (cs σ ρ) i (by omega) (show σ 8 0 < 2147483648 by omega) _ _ hR) (cwV 1 hts gX4_whereByMarks_X4_needLetter rfl rfl rfl (by decide +kernel) ⟨(Nat.le_of_ble_eq_true rfl), (Nat.le_of_ble_eq_true rfl)⟩) (mp_V hK hE hW hA (mW_recv hK hW.1 hR.o0 (by rfl))) rfl rfl hl.1 rfl (lv_room (Nat.le_of_ble_eq_true rfl)) dX4_whereByMarks_2 ⟨(Nat.le_of_ble_eq_true rfl), (Nat.le_of_ble_eq_true rfl)⟩) hW hsz htab hlk (fun E hE9 => by have hu1 := hE9.1; have hu1 : ¬ i < σ 8 0 := hu1; obtain ⟨h1, rfl⟩ := hE9; exact xOk.of (k := 1) (by unfold thL; first | (rw [if_pos (by omega)]; done) | (rw [if_neg (by omega)]; done) | (rw [if_neg (by omega), if_pos (by omega)]; done) | (rw [if_neg (by omega), if_neg (by omega)]; done) | (rw [if_neg (by omega), if_neg (by omega), if_neg (by omega)]; done)) (by decide) rfl) (Nat.le_of_ble_eq_true rfl) (Nat.le_of_ble_eq_true rfl) (fun M9 H locs hp_1 hW => ?_)
  obtain ⟨hi0, e92⟩ := hp_1
  rw [e92] at hW
  clear e92
  refine W.eq (g2 := F0 m 5 ls []) rfl ?_
  have hi0 : i < σ 8 0 := hi0
  obtain ⟨l1, l2, l3, l4, l5, l6⟩ := hL i hi0
  have l7 : σ 18 i ≤ 125 := l6.2.2.2.2
  have e12 : cs σ ρ 12 i = σ 12 i := if_neg (by omega)
  refine lv_aload_n hx hb dX4_whereByMarks_5 rfl (lv_at hl 0 rfl) ?_
  refine mr_get hx hb hts hinX4 hown hK hW hR.o0 (by rfl) 1 (by decide) (hts (.fieldLink RX4 16 "SeaPost" "mail" "Ljava/util/ArrayList;") (by decide +kernel)) (fun _ h => h) rfl dX4_whereByMarks_6 ?_
  refine lv_iload_n hx hb dX4_whereByMarks_9 rfl (lv_at hl 1 rfl) ?_
  obtain ⟨z_2m, z_2a, z_2f, z_2, -, -⟩ := hR.o2 (x := 1) (Or.inl (by decide))
  refine mk_q (va_runV (As := [.int (nI i)]) (nL := 2) ⟨hx, hb, hml, hown, hts⟩ (kGetM l G N Γ (cs σ ρ) i (show i < σ 8 0 by omega) _ _ hR) (cwV 1 hts gX4_whereByMarks_Jx4a65c_get_915e3 rfl rfl rfl (by decide +kernel) ⟨(Nat.le_of_ble_eq_true rfl), (Nat.le_of_ble_eq_true rfl)⟩) (mp_V hK hE hW hA (mW_recv hK hW.1 z_2 (by rfl))) rfl rfl hl.1 rfl (lv_room (Nat.le_of_ble_eq_true rfl)) dX4_whereByMarks_10 ⟨(Nat.le_of_ble_eq_true rfl), (Nat.le_of_ble_eq_true rfl)⟩) hW hA (fun r9 M9 H locs hp_3 hW => ?_)
  obtain ⟨e91, e92⟩ := hp_3
  subst e91
  rw [e92] at hW
  clear e92
  refine W.eq (g2 := F0 m 13 ls [.ref (Γ 9 i)]) rfl ?_
  refine va_castS hx hb hown (hts (.classLink RX4 101 RX1) (by decide +kernel)) (hK.1 2 _ rfl).2 (mW_recv hK hW.1 (hR.o9 (i := i) (show i < σ 8 0 by omega)) (by rfl)) dX4_whereByMarks_13 ?_
  refine mr_get hx hb hts hinX1 hown hK hW (hR.o9 (i := i) (show i < σ 8 0 by omega)) (by rfl) 4 (by decide) (hts (.fieldLink RX4 106 "SeaPost$Letter" "cover" "LSeaPost$Cover;") (by decide +kernel)) (fun _ h => h) rfl dX4_whereByMarks_16 ?_
  refine mk_i (va_runV (As := []) (nL := 2) ⟨hx, hb, hml, hown, hts⟩ (vRead l G N Γ σ ρ i hH (by omega) _ _ hR) (cwV 0 hts gX4_whereByMarks_X0_placeRead rfl rfl rfl (by decide +kernel) ⟨(Nat.le_of_ble_eq_true rfl), (Nat.le_of_ble_eq_true rfl)⟩) (mp_V hK hE hW hA (mW_recv hK hW.1 (hR.o10 (i := i) (show i < σ 8 0 by omega)) (by rfl))) rfl rfl hl.1 rfl (lv_room (Nat.le_of_ble_eq_true rfl)) dX4_whereByMarks_19 ⟨(Nat.le_of_ble_eq_true rfl), (Nat.le_of_ble_eq_true rfl)⟩) hW hA (fun r9 M9 H locs hp_4 hW => ?_)
  obtain ⟨e91, e92⟩ := hp_4
  subst e91
  rw [e92] at hW
  clear e92
  refine W.eq (g2 := F0 m 22 ls [.int (nI (wmS σ i))]) rfl ?_
  exact vx_ret (mr_iret hx hb hr hlk (Nat.le_of_ble_eq_true rfl) (Nat.le_of_ble_eq_true rfl) hW ⟨by unfold thL; first | (rw [if_pos (by omega)]; done) | (rw [if_neg (by omega)]; done) | (rw [if_neg (by omega), if_neg (by omega)]; done), rfl, Γ, ρ, rfl, hR, hH⟩ dX4_whereByMarks_22)

set_option maxHeartbeats 4000000 in
set_option maxRecDepth 100000 in
theorem wSentOn (l : Launch) (hst : l.stackTraces = false) (G : mG) (N : Mem) (Γ : Adr) (σ ρ : Sg) (i : Nat) (hi : i < 4294967296) (hH : HS σ ρ) : pXi l yX4_sentOn wsX4_sentOn 7 5 30 G N Γ σ ρ [.ref (Γ 0 0), .int (nI i)] (thL σ i) (σ 15 i) (σ) ["java/lang/IndexOutOfBoundsException"] := by
  intro M sz hR
  refine m_startX cX4_sentOn 2 (some .int) (by decide) rfl (Nat.le_of_ble_eq_true rfl) ?_
  intro p e s m below meth c ls hx hb hr hml hown hlk hnm hts hK hsz hE hW hl htab
  have hA := mA_A (M := M) hsz
  have hl : lv_has ls 2 [(0, .ref (Γ 0 0)), (1, .int (nI i))] := hl
  have hinX1 : ∀ w ∈ u_ws RX1 TX1 10, w ∈ wsX4_sentOn := (fun _ h => List.mem_cons_of_mem _ (List.mem_append_left _ (List.mem_append_left _ (List.mem_append_right _ h))))
  have hinX4 : ∀ w ∈ u_ws RX4 TX4 6, w ∈ wsX4_sentOn := (fun _ h => List.mem_cons_of_mem _ (List.mem_append_left _ (List.mem_append_left _ (List.mem_append_left _ (List.mem_append_right _ h)))))
  have hinJx4a65c : ∀ w ∈ u_ws RJx4a65c TJx4a65c 3, w ∈ wsX4_sentOn := (fun _ h => List.mem_cons_of_mem _ (List.mem_append_left _ (List.mem_append_right _ h)))
  have hI := hH.1
  obtain ⟨hV, hS, hD, hL, hZ, hRI⟩ := id hI
  have b0 : σ 0 0 ≤ 8 := hV 0 0
  have b8 : σ 8 0 ≤ 40 := hV 8 0
  have b24 : σ 24 0 ≤ 1000 := hV 24 0
  have hct := hH.cnt
  refine lv_aload_n hx hb dX4_sentOn_0 rfl (lv_at hl 0 rfl) ?_
  refine lv_iload_n hx hb dX4_sentOn_1 rfl (lv_at hl 1 rfl) ?_
  refine mx_v (vx_runV (As := [.int (nI i)]) (nL := 2) ⟨hx, hb, hml, hown, hts⟩ (xLetter l hst G N Γ (cs σ ρ) i (by omega) (show σ 8 0 < 2147483648 by omega) _ _ hR) (cwV 1 hts gX4_sentOn_X4_needLetter rfl rfl rfl (by decide +kernel) ⟨(Nat.le_of_ble_eq_true rfl), (Nat.le_of_ble_eq_true rfl)⟩) (mp_V hK hE hW hA (mW_recv hK hW.1 hR.o0 (by rfl))) rfl rfl hl.1 rfl (lv_room (Nat.le_of_ble_eq_true rfl)) dX4_sentOn_2 ⟨(Nat.le_of_ble_eq_true rfl), (Nat.le_of_ble_eq_true rfl)⟩) hW hsz htab hlk (fun E hE9 => by have hu1 := hE9.1; have hu1 : ¬ i < σ 8 0 := hu1; obtain ⟨h1, rfl⟩ := hE9; exact xOk.of (k := 1) (by unfold thL; first | (rw [if_pos (by omega)]; done) | (rw [if_neg (by omega)]; done) | (rw [if_neg (by omega), if_pos (by omega)]; done) | (rw [if_neg (by omega), if_neg (by omega)]; done) | (rw [if_neg (by omega), if_neg (by omega), if_neg (by omega)]; done)) (by decide) rfl) (Nat.le_of_ble_eq_true rfl) (Nat.le_of_ble_eq_true rfl) (fun M9 H locs hp_1 hW => ?_)
  obtain ⟨hi0, e92⟩ := hp_1
  rw [e92] at hW
  clear e92
  refine W.eq (g2 := F0 m 5 ls []) rfl ?_
  have hi0 : i < σ 8 0 := hi0
  obtain ⟨l1, l2, l3, l4, l5, l6⟩ := hL i hi0
  have l7 : σ 18 i ≤ 125 := l6.2.2.2.2
  have e12 : cs σ ρ 12 i = σ 12 i := if_neg (by omega)
  refine lv_aload_n hx hb dX4_sentOn_5 rfl (lv_at hl 0 rfl) ?_
  refine mr_get hx hb hts hinX4 hown hK hW hR.o0 (by rfl) 1 (by decide) (hts (.fieldLink RX4 16 "SeaPost" "mail" "Ljava/util/ArrayList;") (by decide +kernel)) (fun _ h => h) rfl dX4_sentOn_6 ?_
  refine lv_iload_n hx hb dX4_sentOn_9 rfl (lv_at hl 1 rfl) ?_
  obtain ⟨z_2m, z_2a, z_2f, z_2, -, -⟩ := hR.o2 (x := 1) (Or.inl (by decide))
  refine mk_q (va_runV (As := [.int (nI i)]) (nL := 2) ⟨hx, hb, hml, hown, hts⟩ (kGetM l G N Γ (cs σ ρ) i (show i < σ 8 0 by omega) _ _ hR) (cwV 1 hts gX4_sentOn_Jx4a65c_get_915e3 rfl rfl rfl (by decide +kernel) ⟨(Nat.le_of_ble_eq_true rfl), (Nat.le_of_ble_eq_true rfl)⟩) (mp_V hK hE hW hA (mW_recv hK hW.1 z_2 (by rfl))) rfl rfl hl.1 rfl (lv_room (Nat.le_of_ble_eq_true rfl)) dX4_sentOn_10 ⟨(Nat.le_of_ble_eq_true rfl), (Nat.le_of_ble_eq_true rfl)⟩) hW hA (fun r9 M9 H locs hp_3 hW => ?_)
  obtain ⟨e91, e92⟩ := hp_3
  subst e91
  rw [e92] at hW
  clear e92
  refine W.eq (g2 := F0 m 13 ls [.ref (Γ 9 i)]) rfl ?_
  refine va_castS hx hb hown (hts (.classLink RX4 101 RX1) (by decide +kernel)) (hK.1 2 _ rfl).2 (mW_recv hK hW.1 (hR.o9 (i := i) (show i < σ 8 0 by omega)) (by rfl)) dX4_sentOn_13 ?_
  refine mr_get hx hb hts hinX1 hown hK hW (hR.o9 (i := i) (show i < σ 8 0 by omega)) (by rfl) 8 (by decide) (hts (.fieldLink RX4 160 "SeaPost$Letter" "sendings" "I") (by decide +kernel)) (fun _ h => h) rfl dX4_sentOn_16 ?_
  refine lv_tope (congrArg nI (show (cs σ ρ) 15 i = σ 15 i from rfl)) ?_
  exact vx_ret (mr_iret hx hb hr hlk (Nat.le_of_ble_eq_true rfl) (Nat.le_of_ble_eq_true rfl) hW ⟨by unfold thL; first | (rw [if_pos (by omega)]; done) | (rw [if_neg (by omega)]; done) | (rw [if_neg (by omega), if_neg (by omega)]; done), rfl, Γ, ρ, rfl, hR, hH⟩ dX4_sentOn_19)

set_option maxHeartbeats 4000000 in
set_option maxRecDepth 100000 in
theorem wMarks (l : Launch) (hst : l.stackTraces = false) (G : mG) (N : Mem) (Γ : Adr) (σ ρ : Sg) (i : Nat) (hi : i < 4294967296) (hH : HS σ ρ) : pXi l yX4_marks wsX4_marks 7 5 30 G N Γ σ ρ [.ref (Γ 0 0), .int (nI i)] (thL σ i) (σ 18 i) (σ) ["java/lang/IndexOutOfBoundsException"] := by
  intro M sz hR
  refine m_startX cX4_marks 2 (some .int) (by decide) rfl (Nat.le_of_ble_eq_true rfl) ?_
  intro p e s m below meth c ls hx hb hr hml hown hlk hnm hts hK hsz hE hW hl htab
  have hA := mA_A (M := M) hsz
  have hl : lv_has ls 2 [(0, .ref (Γ 0 0)), (1, .int (nI i))] := hl
  have hinX0 : ∀ w ∈ u_ws RX0 TX0 2, w ∈ wsX4_marks := (fun _ h => List.mem_cons_of_mem _ (List.mem_append_left _ (List.mem_append_left _ (List.mem_append_right _ h))))
  have hinX1 : ∀ w ∈ u_ws RX1 TX1 10, w ∈ wsX4_marks := (fun _ h => List.mem_cons_of_mem _ (List.mem_append_left _ (List.mem_append_left _ (List.mem_append_left _ (List.mem_append_right _ h)))))
  have hinX4 : ∀ w ∈ u_ws RX4 TX4 6, w ∈ wsX4_marks := (fun _ h => List.mem_cons_of_mem _ (List.mem_append_left _ (List.mem_append_left _ (List.mem_append_left _ (List.mem_append_left _ (List.mem_append_right _ h))))))
  have hinJx4a65c : ∀ w ∈ u_ws RJx4a65c TJx4a65c 3, w ∈ wsX4_marks := (fun _ h => List.mem_cons_of_mem _ (List.mem_append_left _ (List.mem_append_right _ h)))
  have hI := hH.1
  obtain ⟨hV, hS, hD, hL, hZ, hRI⟩ := id hI
  have b0 : σ 0 0 ≤ 8 := hV 0 0
  have b8 : σ 8 0 ≤ 40 := hV 8 0
  have b24 : σ 24 0 ≤ 1000 := hV 24 0
  have hct := hH.cnt
  refine lv_aload_n hx hb dX4_marks_0 rfl (lv_at hl 0 rfl) ?_
  refine lv_iload_n hx hb dX4_marks_1 rfl (lv_at hl 1 rfl) ?_
  refine mx_v (vx_runV (As := [.int (nI i)]) (nL := 2) ⟨hx, hb, hml, hown, hts⟩ (xLetter l hst G N Γ (cs σ ρ) i (by omega) (show σ 8 0 < 2147483648 by omega) _ _ hR) (cwV 1 hts gX4_marks_X4_needLetter rfl rfl rfl (by decide +kernel) ⟨(Nat.le_of_ble_eq_true rfl), (Nat.le_of_ble_eq_true rfl)⟩) (mp_V hK hE hW hA (mW_recv hK hW.1 hR.o0 (by rfl))) rfl rfl hl.1 rfl (lv_room (Nat.le_of_ble_eq_true rfl)) dX4_marks_2 ⟨(Nat.le_of_ble_eq_true rfl), (Nat.le_of_ble_eq_true rfl)⟩) hW hsz htab hlk (fun E hE9 => by have hu1 := hE9.1; have hu1 : ¬ i < σ 8 0 := hu1; obtain ⟨h1, rfl⟩ := hE9; exact xOk.of (k := 1) (by unfold thL; first | (rw [if_pos (by omega)]; done) | (rw [if_neg (by omega)]; done) | (rw [if_neg (by omega), if_pos (by omega)]; done) | (rw [if_neg (by omega), if_neg (by omega)]; done) | (rw [if_neg (by omega), if_neg (by omega), if_neg (by omega)]; done)) (by decide) rfl) (Nat.le_of_ble_eq_true rfl) (Nat.le_of_ble_eq_true rfl) (fun M9 H locs hp_1 hW => ?_)
  obtain ⟨hi0, e92⟩ := hp_1
  rw [e92] at hW
  clear e92
  refine W.eq (g2 := F0 m 5 ls []) rfl ?_
  have hi0 : i < σ 8 0 := hi0
  obtain ⟨l1, l2, l3, l4, l5, l6⟩ := hL i hi0
  have l7 : σ 18 i ≤ 125 := l6.2.2.2.2
  have e12 : cs σ ρ 12 i = σ 12 i := if_neg (by omega)
  refine lv_aload_n hx hb dX4_marks_5 rfl (lv_at hl 0 rfl) ?_
  refine mr_get hx hb hts hinX4 hown hK hW hR.o0 (by rfl) 1 (by decide) (hts (.fieldLink RX4 16 "SeaPost" "mail" "Ljava/util/ArrayList;") (by decide +kernel)) (fun _ h => h) rfl dX4_marks_6 ?_
  refine lv_iload_n hx hb dX4_marks_9 rfl (lv_at hl 1 rfl) ?_
  obtain ⟨z_2m, z_2a, z_2f, z_2, -, -⟩ := hR.o2 (x := 1) (Or.inl (by decide))
  refine mk_q (va_runV (As := [.int (nI i)]) (nL := 2) ⟨hx, hb, hml, hown, hts⟩ (kGetM l G N Γ (cs σ ρ) i (show i < σ 8 0 by omega) _ _ hR) (cwV 1 hts gX4_marks_Jx4a65c_get_915e3 rfl rfl rfl (by decide +kernel) ⟨(Nat.le_of_ble_eq_true rfl), (Nat.le_of_ble_eq_true rfl)⟩) (mp_V hK hE hW hA (mW_recv hK hW.1 z_2 (by rfl))) rfl rfl hl.1 rfl (lv_room (Nat.le_of_ble_eq_true rfl)) dX4_marks_10 ⟨(Nat.le_of_ble_eq_true rfl), (Nat.le_of_ble_eq_true rfl)⟩) hW hA (fun r9 M9 H locs hp_3 hW => ?_)
  obtain ⟨e91, e92⟩ := hp_3
  subst e91
  rw [e92] at hW
  clear e92
  refine W.eq (g2 := F0 m 13 ls [.ref (Γ 9 i)]) rfl ?_
  refine va_castS hx hb hown (hts (.classLink RX4 101 RX1) (by decide +kernel)) (hK.1 2 _ rfl).2 (mW_recv hK hW.1 (hR.o9 (i := i) (show i < σ 8 0 by omega)) (by rfl)) dX4_marks_13 ?_
  refine mr_get hx hb hts hinX1 hown hK hW (hR.o9 (i := i) (show i < σ 8 0 by omega)) (by rfl) 4 (by decide) (hts (.fieldLink RX4 106 "SeaPost$Letter" "cover" "LSeaPost$Cover;") (by decide +kernel)) (fun _ h => h) rfl dX4_marks_16 ?_
  refine mr_get hx hb hts hinX0 hown hK hW (hR.o10 (i := i) (show i < σ 8 0 by omega)) (by rfl) 1 (by decide) (hts (.fieldLink RX4 188 "SeaPost$Cover" "length" "I") (by decide +kernel)) (fun _ h => h) rfl dX4_marks_19 ?_
  refine lv_tope (congrArg nI (show (cs σ ρ) 18 i = σ 18 i from rfl)) ?_
  exact vx_ret (mr_iret hx hb hr hlk (Nat.le_of_ble_eq_true rfl) (Nat.le_of_ble_eq_true rfl) hW ⟨by unfold thL; first | (rw [if_pos (by omega)]; done) | (rw [if_neg (by omega)]; done) | (rw [if_neg (by omega), if_neg (by omega)]; done), rfl, Γ, ρ, rfl, hR, hH⟩ dX4_marks_22)

set_option maxHeartbeats 4000000 in
set_option maxRecDepth 100000 in
theorem wComesTo (l : Launch) (hst : l.stackTraces = false) (G : mG) (N : Mem) (Γ : Adr) (σ ρ : Sg) (i : Nat) (hi : i < 4294967296) (hH : HS σ ρ) : pXi l yX4_comesTo wsX4_comesTo 7 5 30 G N Γ σ ρ [.ref (Γ 0 0), .int (nI i)] (thL σ i) (coS σ i) (σ) ["java/lang/IndexOutOfBoundsException"] := by
  intro M sz hR
  refine m_startX cX4_comesTo 3 (some .int) (by decide) rfl (Nat.le_of_ble_eq_true rfl) ?_
  intro p e s m below meth c ls hx hb hr hml hown hlk hnm hts hK hsz hE hW hl htab
  have hA := mA_A (M := M) hsz
  have hl : lv_has ls 3 [(0, .ref (Γ 0 0)), (1, .int (nI i))] := hl
  have hinX1 : ∀ w ∈ u_ws RX1 TX1 10, w ∈ wsX4_comesTo := (fun _ h => List.mem_cons_of_mem _ (List.mem_append_left _ (List.mem_append_left _ (List.mem_append_right _ h))))
  have hinX4 : ∀ w ∈ u_ws RX4 TX4 6, w ∈ wsX4_comesTo := (fun _ h => List.mem_cons_of_mem _ (List.mem_append_left _ (List.mem_append_left _ (List.mem_append_left _ (List.mem_append_right _ h)))))
  have hinJx4a65c : ∀ w ∈ u_ws RJx4a65c TJx4a65c 3, w ∈ wsX4_comesTo := (fun _ h => List.mem_cons_of_mem _ (List.mem_append_left _ (List.mem_append_right _ h)))
  have hI := hH.1
  obtain ⟨hV, hS, hD, hL, hZ, hRI⟩ := id hI
  have b0 : σ 0 0 ≤ 8 := hV 0 0
  have b8 : σ 8 0 ≤ 40 := hV 8 0
  have b24 : σ 24 0 ≤ 1000 := hV 24 0
  have hct := hH.cnt
  refine lv_aload_n hx hb dX4_comesTo_0 rfl (lv_at hl 0 rfl) ?_
  refine lv_iload_n hx hb dX4_comesTo_1 rfl (lv_at hl 1 rfl) ?_
  refine mx_v (vx_runV (As := [.int (nI i)]) (nL := 3) ⟨hx, hb, hml, hown, hts⟩ (xLetter l hst G N Γ (cs σ ρ) i (by omega) (show σ 8 0 < 2147483648 by omega) _ _ hR) (cwV 1 hts gX4_comesTo_X4_needLetter rfl rfl rfl (by decide +kernel) ⟨(Nat.le_of_ble_eq_true rfl), (Nat.le_of_ble_eq_true rfl)⟩) (mp_V hK hE hW hA (mW_recv hK hW.1 hR.o0 (by rfl))) rfl rfl hl.1 rfl (lv_room (Nat.le_of_ble_eq_true rfl)) dX4_comesTo_2 ⟨(Nat.le_of_ble_eq_true rfl), (Nat.le_of_ble_eq_true rfl)⟩) hW hsz htab hlk (fun E hE9 => by have hu1 := hE9.1; have hu1 : ¬ i < σ 8 0 := hu1; obtain ⟨h1, rfl⟩ := hE9; exact xOk.of (k := 1) (by unfold thL; first | (rw [if_pos (by omega)]; done) | (rw [if_neg (by omega)]; done) | (rw [if_neg (by omega), if_pos (by omega)]; done) | (rw [if_neg (by omega), if_neg (by omega)]; done) | (rw [if_neg (by omega), if_neg (by omega), if_neg (by omega)]; done)) (by decide) rfl) (Nat.le_of_ble_eq_true rfl) (Nat.le_of_ble_eq_true rfl) (fun M9 H locs hp_1 hW => ?_)
  obtain ⟨hi0, e92⟩ := hp_1
  rw [e92] at hW
  clear e92
  refine W.eq (g2 := F0 m 5 ls []) rfl ?_
  have hi0 : i < σ 8 0 := hi0
  obtain ⟨l1, l2, l3, l4, l5, l6⟩ := hL i hi0
  have l7 : σ 18 i ≤ 125 := l6.2.2.2.2
  have e12 : cs σ ρ 12 i = σ 12 i := if_neg (by omega)
  refine lv_aload_n hx hb dX4_comesTo_5 rfl (lv_at hl 0 rfl) ?_
  refine mr_get hx hb hts hinX4 hown hK hW hR.o0 (by rfl) 1 (by decide) (hts (.fieldLink RX4 16 "SeaPost" "mail" "Ljava/util/ArrayList;") (by decide +kernel)) (fun _ h => h) rfl dX4_comesTo_6 ?_
  refine lv_iload_n hx hb dX4_comesTo_9 rfl (lv_at hl 1 rfl) ?_
  obtain ⟨z_2m, z_2a, z_2f, z_2, -, -⟩ := hR.o2 (x := 1) (Or.inl (by decide))
  refine mk_q (va_runV (As := [.int (nI i)]) (nL := 3) ⟨hx, hb, hml, hown, hts⟩ (kGetM l G N Γ (cs σ ρ) i (show i < σ 8 0 by omega) _ _ hR) (cwV 1 hts gX4_comesTo_Jx4a65c_get_915e3 rfl rfl rfl (by decide +kernel) ⟨(Nat.le_of_ble_eq_true rfl), (Nat.le_of_ble_eq_true rfl)⟩) (mp_V hK hE hW hA (mW_recv hK hW.1 z_2 (by rfl))) rfl rfl hl.1 rfl (lv_room (Nat.le_of_ble_eq_true rfl)) dX4_comesTo_10 ⟨(Nat.le_of_ble_eq_true rfl), (Nat.le_of_ble_eq_true rfl)⟩) hW hA (fun r9 M9 H locs hp_3 hW => ?_)
  obtain ⟨e91, e92⟩ := hp_3
  subst e91
  rw [e92] at hW
  clear e92
  refine W.eq (g2 := F0 m 13 ls [.ref (Γ 9 i)]) rfl ?_
  refine va_castS hx hb hown (hts (.classLink RX4 101 RX1) (by decide +kernel)) (hK.1 2 _ rfl).2 (mW_recv hK hW.1 (hR.o9 (i := i) (show i < σ 8 0 by omega)) (by rfl)) dX4_comesTo_13 ?_
  refine lv_astore_n (lv' := [(2, .ref (Γ 9 i)), (0, .ref (Γ 0 0)), (1, .int (nI i))]) hx hb dX4_comesTo_16 rfl hl (by decide) rfl (fun ls hl => ?_)
  refine lv_aload_n hx hb dX4_comesTo_17 rfl (lv_at hl 0 rfl) ?_
  refine mr_get hx hb hts hinX1 hown hK hW (hR.o9 (i := i) (show i < σ 8 0 by omega)) (by rfl) 5 (by decide) (hts (.fieldLink RX4 145 "SeaPost$Letter" "condition" "I") (by decide +kernel)) (fun _ h => h) rfl dX4_comesTo_18 ?_
  refine lv_tope (congrArg nI (show (cs σ ρ) 12 i = σ 12 i from e12)) ?_
  refine lv_iconst (v := nI 3) hx hb dX4_comesTo_21 (by decide) ?_
  refine nv_icmp_ne (u := σ 12 i) (v := 3) (tgt := 40) hx hb dX4_comesTo_22 (by decide) (by omega) (by omega) (fun c_4 => ?_) (fun c_4 => ?_)
  · skip
    refine lv_iconst (v := nI 4294967295) hx hb dX4_comesTo_40 (by decide) ?_
    exact vx_ret (mr_iret hx hb hr hlk (Nat.le_of_ble_eq_true rfl) (Nat.le_of_ble_eq_true rfl) hW ⟨by unfold thL; first | (rw [if_pos (by omega)]; done) | (rw [if_neg (by omega)]; done) | (rw [if_neg (by omega), if_neg (by omega)]; done), congrArg nI (by unfold coS; first | (rw [if_pos (by omega)]; done) | (rw [if_neg (by omega)]; done)), Γ, ρ, rfl, hR, hH⟩ dX4_comesTo_41)
  · skip
    have e13 : cs σ ρ 13 i = σ 13 i := if_neg (by omega)
    refine lv_bipush (v := nI 100) hx hb dX4_comesTo_25 (by decide) ?_
    refine lv_aload_n hx hb dX4_comesTo_27 rfl (lv_at hl 0 rfl) ?_
    refine mr_get hx hb hts hinX1 hown hK hW (hR.o9 (i := i) (show i < σ 8 0 by omega)) (by rfl) 7 (by decide) (hts (.fieldLink RX4 154 "SeaPost$Letter" "comesOn" "I") (by decide +kernel)) (fun _ h => h) rfl dX4_comesTo_28 ?_
    refine lv_tope (congrArg nI (show (cs σ ρ) 14 i = σ 14 i from rfl)) ?_
    refine lv_imul hx hb dX4_comesTo_31 (lv_tope (pk_mul 100 (σ 14 i)) ?_)
    refine lv_aload_n hx hb dX4_comesTo_32 rfl (lv_at hl 0 rfl) ?_
    refine mr_get hx hb hts hinX1 hown hK hW (hR.o9 (i := i) (show i < σ 8 0 by omega)) (by rfl) 6 (by decide) (hts (.fieldLink RX4 157 "SeaPost$Letter" "port" "I") (by decide +kernel)) (fun _ h => h) rfl dX4_comesTo_33 ?_
    refine lv_tope (congrArg nI (show (cs σ ρ) 13 i = σ 13 i from e13)) ?_
    refine lv_iadd hx hb dX4_comesTo_36 (lv_tope (nI_add (100 * (σ 14 i)) (σ 13 i)) ?_)
    refine lv_goto (tgt := 41) hx hb dX4_comesTo_37 (by decide) ?_
    exact vx_ret (mr_iret hx hb hr hlk (Nat.le_of_ble_eq_true rfl) (Nat.le_of_ble_eq_true rfl) hW ⟨by unfold thL; first | (rw [if_pos (by omega)]; done) | (rw [if_neg (by omega)]; done) | (rw [if_neg (by omega), if_neg (by omega)]; done), congrArg nI (by unfold coS; first | (rw [if_pos (by omega)]; done) | (rw [if_neg (by omega)]; done)), Γ, ρ, rfl, hR, hH⟩ dX4_comesTo_41)

set_option maxHeartbeats 4000000 in
set_option maxRecDepth 100000 in
theorem wOvertaken (l : Launch) (hst : l.stackTraces = false) (G : mG) (N : Mem) (Γ : Adr) (σ ρ : Sg) (i : Nat) (hi : i < 4294967296) (hH : HS σ ρ) : pXi l yX4_overtaken wsX4_overtaken 7 5 30 G N Γ σ ρ [.ref (Γ 0 0), .int (nI i)] (thL σ i) (ovS σ i) (σ) ["java/lang/IndexOutOfBoundsException"] := by
  intro M sz hR
  refine m_startX cX4_overtaken 3 (some .int) (by decide) rfl (Nat.le_of_ble_eq_true rfl) ?_
  intro p e s m below meth c ls hx hb hr hml hown hlk hnm hts hK hsz hE hW hl htab
  have hA := mA_A (M := M) hsz
  have hl : lv_has ls 3 [(0, .ref (Γ 0 0)), (1, .int (nI i))] := hl
  have hinX1 : ∀ w ∈ u_ws RX1 TX1 10, w ∈ wsX4_overtaken := (fun _ h => List.mem_cons_of_mem _ (List.mem_append_left _ (List.mem_append_left _ (List.mem_append_left _ (List.mem_append_right _ h)))))
  have hinX3 : ∀ w ∈ u_ws RX3 TX3 3, w ∈ wsX4_overtaken := (fun _ h => List.mem_cons_of_mem _ (List.mem_append_left _ (List.mem_append_right _ h)))
  have hinX4 : ∀ w ∈ u_ws RX4 TX4 6, w ∈ wsX4_overtaken := (fun _ h => List.mem_cons_of_mem _ (List.mem_append_left _ (List.mem_append_left _ (List.mem_append_left _ (List.mem_append_left _ (List.mem_append_right _ h))))))
  have hinJx4a65c : ∀ w ∈ u_ws RJx4a65c TJx4a65c 3, w ∈ wsX4_overtaken := (fun _ h => List.mem_cons_of_mem _ (List.mem_append_left _ (List.mem_append_left _ (List.mem_append_right _ h))))
  have hI := hH.1
  obtain ⟨hV, hS, hD, hL, hZ, hRI⟩ := id hI
  have b0 : σ 0 0 ≤ 8 := hV 0 0
  have b8 : σ 8 0 ≤ 40 := hV 8 0
  have b24 : σ 24 0 ≤ 1000 := hV 24 0
  have hct := hH.cnt
  refine lv_aload_n hx hb dX4_overtaken_0 rfl (lv_at hl 0 rfl) ?_
  refine lv_iload_n hx hb dX4_overtaken_1 rfl (lv_at hl 1 rfl) ?_
  refine mx_v (vx_runV (As := [.int (nI i)]) (nL := 3) ⟨hx, hb, hml, hown, hts⟩ (xLetter l hst G N Γ (cs σ ρ) i (by omega) (show σ 8 0 < 2147483648 by omega) _ _ hR) (cwV 1 hts gX4_overtaken_X4_needLetter rfl rfl rfl (by decide +kernel) ⟨(Nat.le_of_ble_eq_true rfl), (Nat.le_of_ble_eq_true rfl)⟩) (mp_V hK hE hW hA (mW_recv hK hW.1 hR.o0 (by rfl))) rfl rfl hl.1 rfl (lv_room (Nat.le_of_ble_eq_true rfl)) dX4_overtaken_2 ⟨(Nat.le_of_ble_eq_true rfl), (Nat.le_of_ble_eq_true rfl)⟩) hW hsz htab hlk (fun E hE9 => by have hu1 := hE9.1; have hu1 : ¬ i < σ 8 0 := hu1; obtain ⟨h1, rfl⟩ := hE9; exact xOk.of (k := 1) (by unfold thL; first | (rw [if_pos (by omega)]; done) | (rw [if_neg (by omega)]; done) | (rw [if_neg (by omega), if_pos (by omega)]; done) | (rw [if_neg (by omega), if_neg (by omega)]; done) | (rw [if_neg (by omega), if_neg (by omega), if_neg (by omega)]; done)) (by decide) rfl) (Nat.le_of_ble_eq_true rfl) (Nat.le_of_ble_eq_true rfl) (fun M9 H locs hp_1 hW => ?_)
  obtain ⟨hi0, e92⟩ := hp_1
  rw [e92] at hW
  clear e92
  refine W.eq (g2 := F0 m 5 ls []) rfl ?_
  have hi0 : i < σ 8 0 := hi0
  obtain ⟨l1, l2, l3, l4, l5, l6⟩ := hL i hi0
  have l7 : σ 18 i ≤ 125 := l6.2.2.2.2
  have e12 : cs σ ρ 12 i = σ 12 i := if_neg (by omega)
  refine lv_aload_n hx hb dX4_overtaken_5 rfl (lv_at hl 0 rfl) ?_
  refine mr_get hx hb hts hinX4 hown hK hW hR.o0 (by rfl) 1 (by decide) (hts (.fieldLink RX4 16 "SeaPost" "mail" "Ljava/util/ArrayList;") (by decide +kernel)) (fun _ h => h) rfl dX4_overtaken_6 ?_
  refine lv_iload_n hx hb dX4_overtaken_9 rfl (lv_at hl 1 rfl) ?_
  obtain ⟨z_2m, z_2a, z_2f, z_2, -, -⟩ := hR.o2 (x := 1) (Or.inl (by decide))
  refine mk_q (va_runV (As := [.int (nI i)]) (nL := 3) ⟨hx, hb, hml, hown, hts⟩ (kGetM l G N Γ (cs σ ρ) i (show i < σ 8 0 by omega) _ _ hR) (cwV 1 hts gX4_overtaken_Jx4a65c_get_915e3 rfl rfl rfl (by decide +kernel) ⟨(Nat.le_of_ble_eq_true rfl), (Nat.le_of_ble_eq_true rfl)⟩) (mp_V hK hE hW hA (mW_recv hK hW.1 z_2 (by rfl))) rfl rfl hl.1 rfl (lv_room (Nat.le_of_ble_eq_true rfl)) dX4_overtaken_10 ⟨(Nat.le_of_ble_eq_true rfl), (Nat.le_of_ble_eq_true rfl)⟩) hW hA (fun r9 M9 H locs hp_3 hW => ?_)
  obtain ⟨e91, e92⟩ := hp_3
  subst e91
  rw [e92] at hW
  clear e92
  refine W.eq (g2 := F0 m 13 ls [.ref (Γ 9 i)]) rfl ?_
  refine va_castS hx hb hown (hts (.classLink RX4 101 RX1) (by decide +kernel)) (hK.1 2 _ rfl).2 (mW_recv hK hW.1 (hR.o9 (i := i) (show i < σ 8 0 by omega)) (by rfl)) dX4_overtaken_13 ?_
  refine lv_astore_n (lv' := [(2, .ref (Γ 9 i)), (0, .ref (Γ 0 0)), (1, .int (nI i))]) hx hb dX4_overtaken_16 rfl hl (by decide) rfl (fun ls hl => ?_)
  refine lv_aload_n hx hb dX4_overtaken_17 rfl (lv_at hl 0 rfl) ?_
  refine mr_get hx hb hts hinX1 hown hK hW (hR.o9 (i := i) (show i < σ 8 0 by omega)) (by rfl) 5 (by decide) (hts (.fieldLink RX4 145 "SeaPost$Letter" "condition" "I") (by decide +kernel)) (fun _ h => h) rfl dX4_overtaken_18 ?_
  refine lv_tope (congrArg nI (show (cs σ ρ) 12 i = σ 12 i from e12)) ?_
  refine lv_iconst (v := nI 1) hx hb dX4_overtaken_21 (by decide) ?_
  refine nv_icmp_ne (u := σ 12 i) (v := 1) (tgt := 36) hx hb dX4_overtaken_22 (by decide) (by omega) (by omega) (fun c_4 => ?_) (fun c_4 => ?_)
  · skip
    refine lv_iconst (v := nI 0) hx hb dX4_overtaken_36 (by decide) ?_
    exact vx_ret (mr_iret hx hb hr hlk (Nat.le_of_ble_eq_true rfl) (Nat.le_of_ble_eq_true rfl) hW ⟨by unfold thL; first | (rw [if_pos (by omega)]; done) | (rw [if_neg (by omega)]; done) | (rw [if_neg (by omega), if_neg (by omega)]; done), congrArg nI (by unfold ovS; first | (rw [if_pos (by omega)]; done) | (rw [if_neg (by omega)]; done)), Γ, ρ, rfl, hR, hH⟩ dX4_overtaken_37)
  · skip
    refine lv_aload_n hx hb dX4_overtaken_25 rfl (lv_at hl 0 rfl) ?_
    refine mr_get hx hb hts hinX1 hown hK hW (hR.o9 (i := i) (show i < σ 8 0 by omega)) (by rfl) 1 (by decide) (hts (.fieldLink RX4 163 "SeaPost$Letter" "ship" "LSeaPost$Ship;") (by decide +kernel)) (fun _ h => h) rfl dX4_overtaken_26 ?_
    refine lv_aload_n hx hb dX4_overtaken_29 rfl (lv_at hl 0 rfl) ?_
    refine mk_i (va_runV (As := [.ref (Γ 9 i)]) (nL := 3) ⟨hx, hb, hml, hown, hts⟩ (vOver l G N Γ σ ρ i hH (by omega) _ _ hR) (cwV 1 hts gX4_overtaken_X3_countOvertakenBy rfl rfl rfl (by decide +kernel) ⟨(Nat.le_of_ble_eq_true rfl), (Nat.le_of_ble_eq_true rfl)⟩) (mp_V hK hE hW hA (mW_recv hK hW.1 (hR.o4 (i := σ 9 i) (show σ 9 i < σ 0 0 from l1)) (by rfl))) rfl rfl hl.1 rfl (lv_room (Nat.le_of_ble_eq_true rfl)) dX4_overtaken_30 ⟨(Nat.le_of_ble_eq_true rfl), (Nat.le_of_ble_eq_true rfl)⟩) hW hA (fun r9 M9 H locs hp_5 hW => ?_)
    obtain ⟨e91, e92⟩ := hp_5
    subst e91
    rw [e92] at hW
    clear e92
    refine W.eq (g2 := F0 m 33 ls [.int (nI (ovF σ i i))]) rfl ?_
    refine lv_goto (tgt := 37) hx hb dX4_overtaken_33 (by decide) ?_
    exact vx_ret (mr_iret hx hb hr hlk (Nat.le_of_ble_eq_true rfl) (Nat.le_of_ble_eq_true rfl) hW ⟨by unfold thL; first | (rw [if_pos (by omega)]; done) | (rw [if_neg (by omega)]; done) | (rw [if_neg (by omega), if_neg (by omega)]; done), congrArg nI (by unfold ovS; first | (rw [if_pos (by omega)]; done) | (rw [if_neg (by omega)]; done)), Γ, ρ, rfl, hR, hH⟩ dX4_overtaken_37)

theorem kLyC (l : Launch) (G : mG) (N : Mem) (Γ : Adr) (σ ρ : Sg) (i : Nat) (hi : i < σ 8 0) (h7 : σ 12 i ≤ 7) (M : Mem) (sz : Nat) (hR : Rp G N Γ (cs σ ρ) M) : cMi l yX1_isLying wsX1_isLying 0 0 0 G M sz [.ref (Γ 9 i)] (fun y9 M' => y9 = nI (if lies σ i then 1 else 0) ∧ M' = M) := by
  have e12 : cs σ ρ 12 i = σ 12 i := if_neg (by omega)
  have h := kLying l G N Γ (cs σ ρ) i hi (by omega) M sz hR
  rw [e12] at h
  exact h

set_option maxHeartbeats 4000000 in
set_option maxRecDepth 100000 in
theorem wLying (l : Launch) (hst : l.stackTraces = false) (G : mG) (N : Mem) (Γ : Adr) (σ ρ : Sg) (q : Nat) (hq : q < 4294967296) (hH : HS σ ρ) : pXi l yX4_lying wsX4_lying 7 5 30 G N Γ σ ρ [.ref (Γ 0 0), .int (nI q)] (thI σ q) (lyF σ q (σ 8 0)) (σ) ["java/lang/IndexOutOfBoundsException"] := by
  intro M sz hR
  refine m_startX cX4_lying 5 (some .int) (by decide) rfl (Nat.le_of_ble_eq_true rfl) ?_
  intro p e s m below meth c ls hx hb hr hml hown hlk hnm hts hK hsz hE hW hl htab
  have hA := mA_A (M := M) hsz
  have hl : lv_has ls 5 [(0, .ref (Γ 0 0)), (1, .int (nI q))] := hl
  have hinX1 : ∀ w ∈ u_ws RX1 TX1 10, w ∈ wsX4_lying := (fun _ h => List.mem_cons_of_mem _ (List.mem_append_left _ (List.mem_append_left _ (List.mem_append_right _ h))))
  have hinX4 : ∀ w ∈ u_ws RX4 TX4 6, w ∈ wsX4_lying := (fun _ h => List.mem_cons_of_mem _ (List.mem_append_left _ (List.mem_append_left _ (List.mem_append_left _ (List.mem_append_right _ h)))))
  have hinJx4a65c : ∀ w ∈ u_ws RJx4a65c TJx4a65c 3, w ∈ wsX4_lying := (fun _ h => List.mem_cons_of_mem _ (List.mem_append_left _ (List.mem_append_right _ h)))
  have hI := hH.1
  obtain ⟨hV, hS, hD, hL, hZ, hRI⟩ := id hI
  have b0 : σ 0 0 ≤ 8 := hV 0 0
  have b8 : σ 8 0 ≤ 40 := hV 8 0
  have b24 : σ 24 0 ≤ 1000 := hV 24 0
  have hct := hH.cnt
  refine lv_iload_n hx hb dX4_lying_0 rfl (lv_at hl 1 rfl) ?_
  refine mx_v (vx_runS (As := [.int (nI q)]) (nL := 5) ⟨hx, hb, hml, hown, hts⟩ (xPort l hst G _ _ q (by omega)) (va_cwS 1 hts gX4_lying_X4_needPort rfl rfl rfl (by decide +kernel) ⟨(Nat.le_of_ble_eq_true rfl), (Nat.le_of_ble_eq_true rfl)⟩) (mp_S hK hE hW hA) rfl rfl hl.1 rfl (lv_room (Nat.le_of_ble_eq_true rfl)) dX4_lying_1 ⟨(Nat.le_of_ble_eq_true rfl), (Nat.le_of_ble_eq_true rfl)⟩) hW hsz htab hlk (fun E hE9 => by obtain ⟨h1, rfl⟩ := hE9; exact xOk.of (k := 1) (by unfold thI; first | (rw [if_pos (by omega)]; done) | (rw [if_neg (by omega)]; done) | (rw [if_neg (by omega), if_pos (by omega)]; done) | (rw [if_neg (by omega), if_neg (by omega)]; done) | (rw [if_neg (by omega), if_neg (by omega), if_neg (by omega)]; done)) (by decide) rfl) (Nat.le_of_ble_eq_true rfl) (Nat.le_of_ble_eq_true rfl) (fun M9 H locs hp_1 hW => ?_)
  obtain ⟨hq0, e92⟩ := hp_1
  rw [e92] at hW
  clear e92
  refine W.eq (g2 := F0 m 4 ls []) rfl ?_
  refine lv_iconst (v := nI 0) hx hb dX4_lying_4 (by decide) ?_
  refine lv_istore_n (lv' := [(2, .int (nI 0)), (0, .ref (Γ 0 0)), (1, .int (nI q))]) hx hb dX4_lying_5 rfl hl (by decide) rfl (fun ls hl => ?_)
  refine lv_iconst (v := nI 0) hx hb dX4_lying_6 (by decide) ?_
  refine lv_istore_n (lv' := [(3, .int (nI 0)), (2, .int (nI 0)), (0, .ref (Γ 0 0)), (1, .int (nI q))]) hx hb dX4_lying_7 rfl hl (by decide) rfl (fun ls hl => ?_)
  refine m_loop (σ 8 0) (fun n H locs ls => mW G.1 vwCl (mA M sz) s.heap M H locs ∧ lv_has ls 5 [(3, .int (nI n)), (2, .int (nI (lyF σ q n))), (0, .ref (Γ 0 0)), (1, .int (nI q))]) 0 (Nat.zero_le _) ⟨hW, lv_sub hl [0, 1, 2, 3] rfl⟩ (fun n H locs ls hn hI9 ih => ?_)
  obtain ⟨hW, hl⟩ := hI9
  have hbf : lyF σ q n ≤ n := lyF_le n
  refine lv_iload_n hx hb dX4_lying_8 rfl (lv_at hl 0 rfl) ?_
  refine lv_aload_n hx hb dX4_lying_9 rfl (lv_at hl 2 rfl) ?_
  refine mr_get hx hb hts hinX4 hown hK hW hR.o0 (by rfl) 1 (by decide) (hts (.fieldLink RX4 16 "SeaPost" "mail" "Ljava/util/ArrayList;") (by decide +kernel)) (fun _ h => h) rfl dX4_lying_10 ?_
  obtain ⟨z_2m, z_2a, z_2f, z_2, -, -⟩ := hR.o2 (x := 1) (Or.inl (by decide))
  refine mk_i (va_runV (As := []) (nL := 5) ⟨hx, hb, hml, hown, hts⟩ (kSize l G N Γ (cs σ ρ) 1 (Or.inl (by decide)) _ _ hR) (cwV 0 hts gX4_lying_Jx4a65c_size_8abf5 rfl rfl rfl (by decide +kernel) ⟨(Nat.le_of_ble_eq_true rfl), (Nat.le_of_ble_eq_true rfl)⟩) (mp_V hK hE hW hA (mW_recv hK hW.1 z_2 (by rfl))) rfl rfl hl.1 rfl (lv_room (Nat.le_of_ble_eq_true rfl)) dX4_lying_13 ⟨(Nat.le_of_ble_eq_true rfl), (Nat.le_of_ble_eq_true rfl)⟩) hW hA (fun r9 M9 H locs hp_3 hW => ?_)
  obtain ⟨e91, e92⟩ := hp_3
  subst e91
  rw [e92] at hW
  clear e92
  refine W.eq (g2 := F0 m 16 ls [.int (nI (cs σ ρ 30 1)), .int (nI n)]) rfl ?_
  refine lv_tope (congrArg nI (show cs σ ρ 30 1 = σ 8 0 from rfl)) ?_
  refine nv_icmp_ge (u := n) (v := σ 8 0) (tgt := 58) hx hb dX4_lying_16 (by decide) (by omega) (by omega) (fun c_4 => ?_) (fun c_4 => ?_)
  · skip
    refine lv_iload_n hx hb dX4_lying_58 rfl (lv_at hl 1 rfl) ?_
    exact vx_ret (mr_iret hx hb hr hlk (Nat.le_of_ble_eq_true rfl) (Nat.le_of_ble_eq_true rfl) hW ⟨by unfold thI; first | (rw [if_pos (by omega)]; done) | (rw [if_neg (by omega)]; done) | (rw [if_neg (by omega), if_neg (by omega)]; done), congrArg nI (by rw [show n = σ 8 0 by omega]), Γ, ρ, rfl, hR, hH⟩ dX4_lying_59)
  · skip
    obtain ⟨l1, l2, l3, l4, l5, l6⟩ := hL n (by omega)
    have e12 : cs σ ρ 12 n = σ 12 n := if_neg (by omega)
    refine lv_aload_n hx hb dX4_lying_19 rfl (lv_at hl 2 rfl) ?_
    refine mr_get hx hb hts hinX4 hown hK hW hR.o0 (by rfl) 1 (by decide) (hts (.fieldLink RX4 16 "SeaPost" "mail" "Ljava/util/ArrayList;") (by decide +kernel)) (fun _ h => h) rfl dX4_lying_20 ?_
    refine lv_iload_n hx hb dX4_lying_23 rfl (lv_at hl 0 rfl) ?_
    obtain ⟨z_5m, z_5a, z_5f, z_5, -, -⟩ := hR.o2 (x := 1) (Or.inl (by decide))
    refine mk_q (va_runV (As := [.int (nI n)]) (nL := 5) ⟨hx, hb, hml, hown, hts⟩ (kGetM l G N Γ (cs σ ρ) n (show n < σ 8 0 by omega) _ _ hR) (cwV 1 hts gX4_lying_Jx4a65c_get_915e3 rfl rfl rfl (by decide +kernel) ⟨(Nat.le_of_ble_eq_true rfl), (Nat.le_of_ble_eq_true rfl)⟩) (mp_V hK hE hW hA (mW_recv hK hW.1 z_5 (by rfl))) rfl rfl hl.1 rfl (lv_room (Nat.le_of_ble_eq_true rfl)) dX4_lying_24 ⟨(Nat.le_of_ble_eq_true rfl), (Nat.le_of_ble_eq_true rfl)⟩) hW hA (fun r9 M9 H locs hp_6 hW => ?_)
    obtain ⟨e91, e92⟩ := hp_6
    subst e91
    rw [e92] at hW
    clear e92
    refine W.eq (g2 := F0 m 27 ls [.ref (Γ 9 n)]) rfl ?_
    refine va_castS hx hb hown (hts (.classLink RX4 101 RX1) (by decide +kernel)) (hK.1 2 _ rfl).2 (mW_recv hK hW.1 (hR.o9 (i := n) (show n < σ 8 0 by omega)) (by rfl)) dX4_lying_27 ?_
    refine lv_astore (lv' := [(4, .ref (Γ 9 n)), (3, .int (nI n)), (2, .int (nI (lyF σ q n))), (0, .ref (Γ 0 0)), (1, .int (nI q))]) hx hb dX4_lying_30 hl (by decide) rfl (fun ls hl => ?_)
    refine lv_aload hx hb dX4_lying_32 (lv_at hl 0 rfl) ?_
    refine mk_i (va_runV (As := []) (nL := 5) ⟨hx, hb, hml, hown, hts⟩ (kLyC l G N Γ σ ρ n (by omega) (by omega) _ _ hR) (cwV 0 hts gX4_lying_X1_isLying rfl rfl rfl (by decide +kernel) ⟨(Nat.le_of_ble_eq_true rfl), (Nat.le_of_ble_eq_true rfl)⟩) (mp_V hK hE hW hA (mW_recv hK hW.1 (hR.o9 (i := n) (show n < σ 8 0 by omega)) (by rfl))) rfl rfl hl.1 rfl (lv_room (Nat.le_of_ble_eq_true rfl)) dX4_lying_34 ⟨(Nat.le_of_ble_eq_true rfl), (Nat.le_of_ble_eq_true rfl)⟩) hW hA (fun r9 M9 H locs hp_7 hW => ?_)
    obtain ⟨e91, e92⟩ := hp_7
    subst e91
    rw [e92] at hW
    clear e92
    refine W.eq (g2 := F0 m 37 ls [.int (nI (if lies σ n then 1 else 0))]) rfl ?_
    refine nb_if_eq (tgt := 52) hx hb dX4_lying_37 (by decide) (fun c_8 => ?_) (fun c_8 => ?_)
    · skip
      refine lv_iinc (v := nI (n + 1)) (lv' := [(3, .int (nI (n + 1))), (4, .ref (Γ 9 n)), (2, .int (nI (lyF σ q n))), (0, .ref (Γ 0 0)), (1, .int (nI q))]) hx hb dX4_lying_52 hl (k := 1) rfl (by rw [show (Int32.ofInt 1) = nI 1 by decide, nI_add]) (by decide) rfl (fun ls hl => ?_)
      refine lv_goto (tgt := 8) hx hb dX4_lying_55 (by decide) ?_
      exact ih _ _ _ (by omega) ⟨hW, by rw [show lyF σ q (n + 1) = lyF σ q n by show lyF σ q n + _ = _; rw [if_neg (fun z => by first | exact (absurd z.1 (by assumption)) | (have := z.2; omega)), Nat.add_zero]]; exact lv_sub hl [0, 2, 3, 4] rfl⟩
    · skip
      have hly : lies σ n := by assumption
      have e13 : cs σ ρ 13 n = σ 13 n := if_neg (by rcases hly with z | z | z <;> omega)
      have b13 : σ 13 n ≤ 9 := hV 13 n
      refine lv_aload hx hb dX4_lying_40 (lv_at hl 0 rfl) ?_
      refine mr_get hx hb hts hinX1 hown hK hW (hR.o9 (i := n) (show n < σ 8 0 by omega)) (by rfl) 6 (by decide) (hts (.fieldLink RX4 157 "SeaPost$Letter" "port" "I") (by decide +kernel)) (fun _ h => h) rfl dX4_lying_42 ?_
      refine lv_tope (congrArg nI (show (cs σ ρ) 13 n = σ 13 n from e13)) ?_
      refine lv_iload_n hx hb dX4_lying_45 rfl (lv_at hl 4 rfl) ?_
      refine nv_icmp_ne (u := σ 13 n) (v := q) (tgt := 52) hx hb dX4_lying_46 (by decide) (by omega) (by omega) (fun c_9 => ?_) (fun c_9 => ?_)
      · skip
        refine lv_iinc (v := nI (n + 1)) (lv' := [(3, .int (nI (n + 1))), (4, .ref (Γ 9 n)), (2, .int (nI (lyF σ q n))), (0, .ref (Γ 0 0)), (1, .int (nI q))]) hx hb dX4_lying_52 hl (k := 1) rfl (by rw [show (Int32.ofInt 1) = nI 1 by decide, nI_add]) (by decide) rfl (fun ls hl => ?_)
        refine lv_goto (tgt := 8) hx hb dX4_lying_55 (by decide) ?_
        exact ih _ _ _ (by omega) ⟨hW, by rw [show lyF σ q (n + 1) = lyF σ q n by show lyF σ q n + _ = _; rw [if_neg (fun z => by first | exact (absurd z.1 (by assumption)) | (have := z.2; omega)), Nat.add_zero]]; exact lv_sub hl [0, 2, 3, 4] rfl⟩
      · skip
        refine lv_iinc (v := nI (lyF σ q n + 1)) (lv' := [(2, .int (nI (lyF σ q n + 1))), (4, .ref (Γ 9 n)), (3, .int (nI n)), (0, .ref (Γ 0 0)), (1, .int (nI q))]) hx hb dX4_lying_49 hl (k := 2) rfl (by rw [show (Int32.ofInt 1) = nI 1 by decide, nI_add]) (by decide) rfl (fun ls hl => ?_)
        refine lv_iinc (v := nI (n + 1)) (lv' := [(3, .int (nI (n + 1))), (2, .int (nI (lyF σ q n + 1))), (4, .ref (Γ 9 n)), (0, .ref (Γ 0 0)), (1, .int (nI q))]) hx hb dX4_lying_52 hl (k := 2) rfl (by rw [show (Int32.ofInt 1) = nI 1 by decide, nI_add]) (by decide) rfl (fun ls hl => ?_)
        refine lv_goto (tgt := 8) hx hb dX4_lying_55 (by decide) ?_
        exact ih _ _ _ (by omega) ⟨hW, by rw [show lyF σ q (n + 1) = lyF σ q n + 1 by show lyF σ q n + _ = _; rw [if_pos ⟨by assumption, by omega⟩]]; exact lv_sub hl [0, 1, 3, 4] rfl⟩

set_option maxHeartbeats 4000000 in
set_option maxRecDepth 100000 in
theorem wDeadAt (l : Launch) (hst : l.stackTraces = false) (G : mG) (N : Mem) (Γ : Adr) (σ ρ : Sg) (k : Nat) (hk : k < 4294967296) (hH : HS σ ρ) : pXi l yX4_deadAt wsX4_deadAt 7 5 30 G N Γ σ ρ [.ref (Γ 0 0), .int (nI k)] (thO σ k) (σ 19 k) (σ) ["java/lang/IndexOutOfBoundsException"] := by
  intro M sz hR
  refine m_startX cX4_deadAt 2 (some .int) (by decide) rfl (Nat.le_of_ble_eq_true rfl) ?_
  intro p e s m below meth c ls hx hb hr hml hown hlk hnm hts hK hsz hE hW hl htab
  have hA := mA_A (M := M) hsz
  have hl : lv_has ls 2 [(0, .ref (Γ 0 0)), (1, .int (nI k))] := hl
  have hinX1 : ∀ w ∈ u_ws RX1 TX1 10, w ∈ wsX4_deadAt := (fun _ h => List.mem_cons_of_mem _ (List.mem_append_left _ (List.mem_append_left _ (List.mem_append_right _ h))))
  have hinX4 : ∀ w ∈ u_ws RX4 TX4 6, w ∈ wsX4_deadAt := (fun _ h => List.mem_cons_of_mem _ (List.mem_append_left _ (List.mem_append_left _ (List.mem_append_left _ (List.mem_append_right _ h)))))
  have hinJx4a65c : ∀ w ∈ u_ws RJx4a65c TJx4a65c 3, w ∈ wsX4_deadAt := (fun _ h => List.mem_cons_of_mem _ (List.mem_append_left _ (List.mem_append_right _ h)))
  have hI := hH.1
  obtain ⟨hV, hS, hD, hL, hZ, hRI⟩ := id hI
  have b0 : σ 0 0 ≤ 8 := hV 0 0
  have b8 : σ 8 0 ≤ 40 := hV 8 0
  have b24 : σ 24 0 ≤ 1000 := hV 24 0
  have hct := hH.cnt
  refine lv_iload_n hx hb dX4_deadAt_0 rfl (lv_at hl 1 rfl) ?_
  refine nv_if_lt (tgt := 15) hx hb dX4_deadAt_1 (by decide) (by omega) (fun c_1 => ?_) (fun c_1 => ?_)
  · skip
    exact mx_throw (cls := "java/lang/IndexOutOfBoundsException") (text := "not so many letters are dead") (ik := 175) (is := 177) (ic := 179) hx hb hst (hml.trans hl.1.symm) hown hts hlk htab hE (by decide +kernel) (by decide +kernel) (by decide +kernel) (by decide +kernel) (fun _ h => List.mem_cons_of_mem _ (List.mem_append_right _ h)) tb_1 tg_1 (by decide +kernel) hW (xOk.of (k := 1) (by unfold thO; first | (rw [if_pos (by omega)]; done) | (rw [if_neg (by omega)]; done) | (rw [if_neg (by omega), if_pos (by omega)]; done)) (by decide) rfl) dX4_deadAt_15 dX4_deadAt_18 dX4_deadAt_19 dX4_deadAt_21 dX4_deadAt_24 (Nat.le_of_ble_eq_true rfl) (Nat.le_of_ble_eq_true rfl) (Nat.le_of_ble_eq_true rfl) (Nat.le_of_ble_eq_true rfl) (Nat.le_of_ble_eq_true rfl) (Nat.le_of_ble_eq_true rfl)
  · skip
    refine lv_iload_n hx hb dX4_deadAt_4 rfl (lv_at hl 1 rfl) ?_
    refine lv_aload_n hx hb dX4_deadAt_5 rfl (lv_at hl 0 rfl) ?_
    refine mr_get hx hb hts hinX4 hown hK hW hR.o0 (by rfl) 2 (by decide) (hts (.fieldLink RX4 19 "SeaPost" "deadMail" "Ljava/util/ArrayList;") (by decide +kernel)) (fun _ h => h) rfl dX4_deadAt_6 ?_
    obtain ⟨z_2m, z_2a, z_2f, z_2, -, -⟩ := hR.o2 (x := 2) (Or.inl (by decide))
    refine mk_i (va_runV (As := []) (nL := 2) ⟨hx, hb, hml, hown, hts⟩ (kSize l G N Γ (cs σ ρ) 2 (Or.inl (by decide)) _ _ hR) (cwV 0 hts gX4_deadAt_Jx4a65c_size_8abf5 rfl rfl rfl (by decide +kernel) ⟨(Nat.le_of_ble_eq_true rfl), (Nat.le_of_ble_eq_true rfl)⟩) (mp_V hK hE hW hA (mW_recv hK hW.1 z_2 (by rfl))) rfl rfl hl.1 rfl (lv_room (Nat.le_of_ble_eq_true rfl)) dX4_deadAt_9 ⟨(Nat.le_of_ble_eq_true rfl), (Nat.le_of_ble_eq_true rfl)⟩) hW hA (fun r9 M9 H locs hp_3 hW => ?_)
    obtain ⟨e91, e92⟩ := hp_3
    subst e91
    rw [e92] at hW
    clear e92
    refine W.eq (g2 := F0 m 12 ls [.int (nI (cs σ ρ 30 2)), .int (nI k)]) rfl ?_
    refine lv_tope (congrArg nI (show cs σ ρ 30 2 = σ 20 0 from rfl)) ?_
    refine nv_icmp_lt (u := k) (v := σ 20 0) (tgt := 25) hx hb dX4_deadAt_12 (by decide) (by omega) (by omega) (fun c_4 => ?_) (fun c_4 => ?_)
    · skip
      refine lv_aload_n hx hb dX4_deadAt_25 rfl (lv_at hl 0 rfl) ?_
      refine mr_get hx hb hts hinX4 hown hK hW hR.o0 (by rfl) 2 (by decide) (hts (.fieldLink RX4 19 "SeaPost" "deadMail" "Ljava/util/ArrayList;") (by decide +kernel)) (fun _ h => h) rfl dX4_deadAt_26 ?_
      refine lv_iload_n hx hb dX4_deadAt_29 rfl (lv_at hl 1 rfl) ?_
      obtain ⟨z_5m, z_5a, z_5f, z_5, -, -⟩ := hR.o2 (x := 2) (Or.inl (by decide))
      refine mk_q (va_runV (As := [.int (nI k)]) (nL := 2) ⟨hx, hb, hml, hown, hts⟩ (kDead l G N Γ σ ρ k (by omega) (by omega) _ _ hR) (cwV 1 hts gX4_deadAt_Jx4a65c_get_915e3 rfl rfl rfl (by decide +kernel) ⟨(Nat.le_of_ble_eq_true rfl), (Nat.le_of_ble_eq_true rfl)⟩) (mp_V hK hE hW hA (mW_recv hK hW.1 z_5 (by rfl))) rfl rfl hl.1 rfl (lv_room (Nat.le_of_ble_eq_true rfl)) dX4_deadAt_30 ⟨(Nat.le_of_ble_eq_true rfl), (Nat.le_of_ble_eq_true rfl)⟩) hW hA (fun r9 M9 H locs hp_6 hW => ?_)
      obtain ⟨e91, e92⟩ := hp_6
      subst e91
      rw [e92] at hW
      clear e92
      refine W.eq (g2 := F0 m 33 ls [.ref (Γ 9 (σ 19 k))]) rfl ?_
      refine va_castS hx hb hown (hts (.classLink RX4 101 RX1) (by decide +kernel)) (hK.1 2 _ rfl).2 (mW_recv hK hW.1 (hR.o9 (i := σ 19 k) (show σ 19 k < σ 8 0 from (hS.mem (k := k) (by omega)).1)) (by rfl)) dX4_deadAt_33 ?_
      refine mr_get hx hb hts hinX1 hown hK hW (hR.o9 (i := σ 19 k) (show σ 19 k < σ 8 0 from (hS.mem (k := k) (by omega)).1)) (by rfl) 0 (by decide) (hts (.fieldLink RX4 122 "SeaPost$Letter" "number" "I") (by decide +kernel)) (fun _ h => h) rfl dX4_deadAt_36 ?_
      exact vx_ret (mr_iret hx hb hr hlk (Nat.le_of_ble_eq_true rfl) (Nat.le_of_ble_eq_true rfl) hW ⟨by unfold thO; first | (rw [if_pos (by omega)]; done) | (rw [if_neg (by omega)]; done) | (rw [if_neg (by omega), if_neg (by omega)]; done), rfl, Γ, ρ, rfl, hR, hH⟩ dX4_deadAt_39)
    · skip
      exact mx_throw (cls := "java/lang/IndexOutOfBoundsException") (text := "not so many letters are dead") (ik := 175) (is := 177) (ic := 179) hx hb hst (hml.trans hl.1.symm) hown hts hlk htab hE (by decide +kernel) (by decide +kernel) (by decide +kernel) (by decide +kernel) (fun _ h => List.mem_cons_of_mem _ (List.mem_append_right _ h)) tb_1 tg_1 (by decide +kernel) hW (xOk.of (k := 1) (by unfold thO; first | (rw [if_pos (by omega)]; done) | (rw [if_neg (by omega)]; done) | (rw [if_neg (by omega), if_pos (by omega)]; done)) (by decide) rfl) dX4_deadAt_15 dX4_deadAt_18 dX4_deadAt_19 dX4_deadAt_21 dX4_deadAt_24 (Nat.le_of_ble_eq_true rfl) (Nat.le_of_ble_eq_true rfl) (Nat.le_of_ble_eq_true rfl) (Nat.le_of_ble_eq_true rfl) (Nat.le_of_ble_eq_true rfl) (Nat.le_of_ble_eq_true rfl)

theorem kRecC (l : Launch) (G : mG) (N : Mem) (Γ : Adr) (σ ρ : Sg) (u k : Nat) (hu : u < σ 0 0) (hk : k < rcF σ u (σ 22 0)) (h64 : k < 64) (M : Mem) (sz : Nat) (hR : Rp G N Γ (cs σ ρ) M) : cMq l yJx4a65c_get_915e3 wsJx4a65c_get_915e3 2 0 0 G M sz [.ref (Γ 2 (20 + u)), .int (nI k)] (fun r M' => r = some (Γ 9 (dvF σ u k (σ 22 0))) ∧ M' = M) := by
  have h := kGetR l G N Γ (cs σ ρ) u k hu (by rw [cs_30r]; exact hk) M sz hR
  rw [cs_31r h64] at h
  exact h

set_option maxHeartbeats 4000000 in
set_option maxRecDepth 100000 in
theorem wDeliveredAs (l : Launch) (hst : l.stackTraces = false) (G : mG) (N : Mem) (Γ : Adr) (σ ρ : Sg) (u : Nat) (hu : u < 4294967296) (k : Nat) (hk : k < 4294967296) (hH : HS σ ρ) : pXi l yX4_deliveredAs wsX4_deliveredAs 7 5 30 G N Γ σ ρ [.ref (Γ 0 0), .int (nI u), .int (nI k)] (thV σ u k) (dvF σ u k (σ 22 0)) (σ) ["java/lang/IndexOutOfBoundsException", "java/lang/IllegalArgumentException"] := by
  intro M sz hR
  refine m_startX cX4_deliveredAs 4 (some .int) (by decide) rfl (Nat.le_of_ble_eq_true rfl) ?_
  intro p e s m below meth c ls hx hb hr hml hown hlk hnm hts hK hsz hE hW hl htab
  have hA := mA_A (M := M) hsz
  have hl : lv_has ls 4 [(0, .ref (Γ 0 0)), (1, .int (nI u)), (2, .int (nI k))] := hl
  have hinX1 : ∀ w ∈ u_ws RX1 TX1 10, w ∈ wsX4_deliveredAs := (fun _ h => List.mem_cons_of_mem _ (List.mem_append_left _ (List.mem_append_left _ (List.mem_append_left _ (List.mem_append_right _ h)))))
  have hinX3 : ∀ w ∈ u_ws RX3 TX3 3, w ∈ wsX4_deliveredAs := (fun _ h => List.mem_cons_of_mem _ (List.mem_append_left _ (List.mem_append_left _ (List.mem_append_left _ (List.mem_append_left _ (List.mem_append_right _ h))))))
  have hinX4 : ∀ w ∈ u_ws RX4 TX4 6, w ∈ wsX4_deliveredAs := (fun _ h => List.mem_cons_of_mem _ (List.mem_append_left _ (List.mem_append_left _ (List.mem_append_left _ (List.mem_append_left _ (List.mem_append_left _ (List.mem_append_right _ h)))))))
  have hinJx4a65c : ∀ w ∈ u_ws RJx4a65c TJx4a65c 3, w ∈ wsX4_deliveredAs := (fun _ h => List.mem_cons_of_mem _ (List.mem_append_left _ (List.mem_append_left _ (List.mem_append_right _ h))))
  have hI := hH.1
  obtain ⟨hV, hS, hD, hL, hZ, hRI⟩ := id hI
  have b0 : σ 0 0 ≤ 8 := hV 0 0
  have b8 : σ 8 0 ≤ 40 := hV 8 0
  have b24 : σ 24 0 ≤ 1000 := hV 24 0
  have hct := hH.cnt
  refine lv_aload_n hx hb dX4_deliveredAs_0 rfl (lv_at hl 0 rfl) ?_
  refine lv_iload_n hx hb dX4_deliveredAs_1 rfl (lv_at hl 1 rfl) ?_
  refine mx_v (vx_runV (As := [.int (nI u)]) (nL := 4) ⟨hx, hb, hml, hown, hts⟩ (xShip l hst G N Γ (cs σ ρ) u (by omega) (show σ 0 0 < 2147483648 by omega) _ _ hR) (cwV 1 hts gX4_deliveredAs_X4_needShip rfl rfl rfl (by decide +kernel) ⟨(Nat.le_of_ble_eq_true rfl), (Nat.le_of_ble_eq_true rfl)⟩) (mp_V hK hE hW hA (mW_recv hK hW.1 hR.o0 (by rfl))) rfl rfl hl.1 rfl (lv_room (Nat.le_of_ble_eq_true rfl)) dX4_deliveredAs_2 ⟨(Nat.le_of_ble_eq_true rfl), (Nat.le_of_ble_eq_true rfl)⟩) hW hsz htab hlk (fun E hE9 => by have hu1 := hE9.1; have hu1 : ¬ u < σ 0 0 := hu1; obtain ⟨h1, rfl⟩ := hE9; exact xOk.of (k := 1) (by unfold thV; first | (rw [if_pos (by omega)]; done) | (rw [if_neg (by omega)]; done) | (rw [if_neg (by omega), if_pos (by omega)]; done) | (rw [if_neg (by omega), if_neg (by omega)]; done) | (rw [if_neg (by omega), if_neg (by omega), if_neg (by omega)]; done)) (by decide) rfl) (Nat.le_of_ble_eq_true rfl) (Nat.le_of_ble_eq_true rfl) (fun M9 H locs hp_1 hW => ?_)
  obtain ⟨hu0, e92⟩ := hp_1
  rw [e92] at hW
  clear e92
  refine W.eq (g2 := F0 m 5 ls []) rfl ?_
  have hu0 : u < σ 0 0 := hu0
  refine lv_iload_n hx hb dX4_deliveredAs_5 rfl (lv_at hl 2 rfl) ?_
  refine nv_if_ge (tgt := 19) hx hb dX4_deliveredAs_6 (by decide) (by omega) (fun c_2 => ?_) (fun c_2 => ?_)
  · skip
    refine lv_aload_n hx hb dX4_deliveredAs_19 rfl (lv_at hl 0 rfl) ?_
    refine mr_get hx hb hts hinX4 hown hK hW hR.o0 (by rfl) 0 (by decide) (hts (.fieldLink RX4 10 "SeaPost" "fleet" "Ljava/util/ArrayList;") (by decide +kernel)) (fun _ h => h) rfl dX4_deliveredAs_20 ?_
    refine lv_iload_n hx hb dX4_deliveredAs_23 rfl (lv_at hl 1 rfl) ?_
    obtain ⟨z_3m, z_3a, z_3f, z_3, -, -⟩ := hR.o2 (x := 0) (Or.inl (by decide))
    refine mk_q (va_runV (As := [.int (nI u)]) (nL := 4) ⟨hx, hb, hml, hown, hts⟩ (kGetF l G N Γ (cs σ ρ) u (show u < σ 0 0 by omega) _ _ hR) (cwV 1 hts gX4_deliveredAs_Jx4a65c_get_915e3 rfl rfl rfl (by decide +kernel) ⟨(Nat.le_of_ble_eq_true rfl), (Nat.le_of_ble_eq_true rfl)⟩) (mp_V hK hE hW hA (mW_recv hK hW.1 z_3 (by rfl))) rfl rfl hl.1 rfl (lv_room (Nat.le_of_ble_eq_true rfl)) dX4_deliveredAs_24 ⟨(Nat.le_of_ble_eq_true rfl), (Nat.le_of_ble_eq_true rfl)⟩) hW hA (fun r9 M9 H locs hp_4 hW => ?_)
    obtain ⟨e91, e92⟩ := hp_4
    subst e91
    rw [e92] at hW
    clear e92
    refine W.eq (g2 := F0 m 27 ls [.ref (Γ 4 u)]) rfl ?_
    refine va_castS hx hb hown (hts (.classLink RX4 37 RX3) (by decide +kernel)) (hK.1 4 _ rfl).2 (mW_recv hK hW.1 (hR.o4 (i := u) (show u < σ 0 0 by omega)) (by rfl)) dX4_deliveredAs_27 ?_
    refine mr_get hx hb hts hinX3 hown hK hW (hR.o4 (i := u) (show u < σ 0 0 by omega)) (by rfl) 1 (by decide) (hts (.fieldLink RX4 185 "SeaPost$Ship" "received" "Ljava/util/ArrayList;") (by decide +kernel)) (fun _ h => h) rfl dX4_deliveredAs_30 ?_
    refine lv_astore_n (lv' := [(3, .ref (Γ 2 (20 + u))), (0, .ref (Γ 0 0)), (1, .int (nI u)), (2, .int (nI k))]) hx hb dX4_deliveredAs_33 rfl hl (by decide) rfl (fun ls hl => ?_)
    have hrl := rcF_le (σ := σ) (u := u) (σ 22 0)
    have hdl := dvF_lt (σ := σ) (u := u) (k := k) (fun j => by have : σ 21 j < 40 := hV 21 j; omega) (σ 22 0)
    refine lv_iload_n hx hb dX4_deliveredAs_34 rfl (lv_at hl 3 rfl) ?_
    refine lv_aload_n hx hb dX4_deliveredAs_35 rfl (lv_at hl 0 rfl) ?_
    obtain ⟨z_5m, z_5a, z_5f, z_5, -, -⟩ := hR.o2 (x := 20 + u) (isL_r (show u < σ 0 0 by omega))
    refine mk_i (va_runV (As := []) (nL := 4) ⟨hx, hb, hml, hown, hts⟩ (kSize l G N Γ (cs σ ρ) (20 + u) (isL_r (show u < σ 0 0 by omega)) _ _ hR) (cwV 0 hts gX4_deliveredAs_Jx4a65c_size_8abf5 rfl rfl rfl (by decide +kernel) ⟨(Nat.le_of_ble_eq_true rfl), (Nat.le_of_ble_eq_true rfl)⟩) (mp_V hK hE hW hA (mW_recv hK hW.1 z_5 (by rfl))) rfl rfl hl.1 rfl (lv_room (Nat.le_of_ble_eq_true rfl)) dX4_deliveredAs_36 ⟨(Nat.le_of_ble_eq_true rfl), (Nat.le_of_ble_eq_true rfl)⟩) hW hA (fun r9 M9 H locs hp_6 hW => ?_)
    obtain ⟨e91, e92⟩ := hp_6
    subst e91
    rw [e92] at hW
    clear e92
    refine W.eq (g2 := F0 m 39 ls [.int (nI (cs σ ρ 30 (20 + u))), .int (nI k)]) rfl ?_
    refine lv_tope (congrArg nI (show cs σ ρ 30 (20 + u) = rcF σ u (σ 22 0) from cs_30r)) ?_
    refine nv_icmp_ge (u := k) (v := rcF σ u (σ 22 0)) (tgt := 56) hx hb dX4_deliveredAs_39 (by decide) (by omega) (by omega) (fun c_7 => ?_) (fun c_7 => ?_)
    · skip
      refine lv_iconst (v := nI 4294967295) hx hb dX4_deliveredAs_56 (by decide) ?_
      exact vx_ret (mr_iret hx hb hr hlk (Nat.le_of_ble_eq_true rfl) (Nat.le_of_ble_eq_true rfl) hW ⟨by unfold thV; first | (rw [if_pos (by omega)]; done) | (rw [if_neg (by omega)]; done) | (rw [if_neg (by omega), if_neg (by omega)]; done), congrArg nI (Classical.not_not.mp (fun z => absurd (hdl.mp z) (by omega))).symm, Γ, ρ, rfl, hR, hH⟩ dX4_deliveredAs_57)
    · skip
      have hdn := hdl.mpr (by omega)
      have hdv : dvF σ u k (σ 22 0) < σ 8 0 := by
        rcases dvF_v (σ := σ) (u := u) (k := k) (P := fun x => x < σ 8 0) (σ 22 0) (fun j hj => (hD.mem hj).1) with h2 | h2
        · exact absurd h2 hdn
        · exact h2
      refine lv_aload_n hx hb dX4_deliveredAs_42 rfl (lv_at hl 0 rfl) ?_
      refine lv_iload_n hx hb dX4_deliveredAs_43 rfl (lv_at hl 3 rfl) ?_
      obtain ⟨z_8m, z_8a, z_8f, z_8, -, -⟩ := hR.o2 (x := 20 + u) (isL_r (show u < σ 0 0 by omega))
      refine mk_q (va_runV (As := [.int (nI k)]) (nL := 4) ⟨hx, hb, hml, hown, hts⟩ (kRecC l G N Γ σ ρ u k (by omega) (by omega) (by omega) _ _ hR) (cwV 1 hts gX4_deliveredAs_Jx4a65c_get_915e3 rfl rfl rfl (by decide +kernel) ⟨(Nat.le_of_ble_eq_true rfl), (Nat.le_of_ble_eq_true rfl)⟩) (mp_V hK hE hW hA (mW_recv hK hW.1 z_8 (by rfl))) rfl rfl hl.1 rfl (lv_room (Nat.le_of_ble_eq_true rfl)) dX4_deliveredAs_44 ⟨(Nat.le_of_ble_eq_true rfl), (Nat.le_of_ble_eq_true rfl)⟩) hW hA (fun r9 M9 H locs hp_9 hW => ?_)
      obtain ⟨e91, e92⟩ := hp_9
      subst e91
      rw [e92] at hW
      clear e92
      refine W.eq (g2 := F0 m 47 ls [.ref (Γ 9 (dvF σ u k (σ 22 0)))]) rfl ?_
      refine va_castS hx hb hown (hts (.classLink RX4 101 RX1) (by decide +kernel)) (hK.1 2 _ rfl).2 (mW_recv hK hW.1 (hR.o9 (i := dvF σ u k (σ 22 0)) (show dvF σ u k (σ 22 0) < σ 8 0 from hdv)) (by rfl)) dX4_deliveredAs_47 ?_
      refine mr_get hx hb hts hinX1 hown hK hW (hR.o9 (i := dvF σ u k (σ 22 0)) (show dvF σ u k (σ 22 0) < σ 8 0 from hdv)) (by rfl) 0 (by decide) (hts (.fieldLink RX4 122 "SeaPost$Letter" "number" "I") (by decide +kernel)) (fun _ h => h) rfl dX4_deliveredAs_50 ?_
      refine lv_goto (tgt := 57) hx hb dX4_deliveredAs_53 (by decide) ?_
      exact vx_ret (mr_iret hx hb hr hlk (Nat.le_of_ble_eq_true rfl) (Nat.le_of_ble_eq_true rfl) hW ⟨by unfold thV; first | (rw [if_pos (by omega)]; done) | (rw [if_neg (by omega)]; done) | (rw [if_neg (by omega), if_neg (by omega)]; done), rfl, Γ, ρ, rfl, hR, hH⟩ dX4_deliveredAs_57)
  · skip
    exact mx_throw (cls := "java/lang/IllegalArgumentException") (text := "the place is below 0") (ik := 180) (is := 182) (ic := 184) hx hb hst (hml.trans hl.1.symm) hown hts hlk htab hE (by decide +kernel) (by decide +kernel) (by decide +kernel) (by decide +kernel) (fun _ h => List.mem_cons_of_mem _ (List.mem_append_left _ (List.mem_append_right _ h))) tb_2 tg_2 (by decide +kernel) hW (xOk.of (k := 2) (by unfold thV; first | (rw [if_pos (by omega)]; done) | (rw [if_neg (by omega)]; done) | (rw [if_neg (by omega), if_pos (by omega)]; done)) (by decide) rfl) dX4_deliveredAs_9 dX4_deliveredAs_12 dX4_deliveredAs_13 dX4_deliveredAs_15 dX4_deliveredAs_18 (Nat.le_of_ble_eq_true rfl) (Nat.le_of_ble_eq_true rfl) (Nat.le_of_ble_eq_true rfl) (Nat.le_of_ble_eq_true rfl) (Nat.le_of_ble_eq_true rfl) (Nat.le_of_ble_eq_true rfl)

set_option maxHeartbeats 4000000 in
set_option maxRecDepth 100000 in
theorem wMarkAt (l : Launch) (hst : l.stackTraces = false) (G : mG) (N : Mem) (Γ : Adr) (σ ρ : Sg) (i : Nat) (hi : i < 4294967296) (k : Nat) (hk : k < 4294967296) (hH : HS σ ρ) : pXi l yX4_markAt wsX4_markAt 7 5 30 G N Γ σ ρ [.ref (Γ 0 0), .int (nI i), .int (nI k)] (thM σ i k) (σ 17 (200 * i + k)) (σ) ["java/lang/IndexOutOfBoundsException"] := by
  intro M sz hR
  refine m_startX cX4_markAt 4 (some .char) (by decide) rfl (Nat.le_of_ble_eq_true rfl) ?_
  intro p e s m below meth c ls hx hb hr hml hown hlk hnm hts hK hsz hE hW hl htab
  have hA := mA_A (M := M) hsz
  have hl : lv_has ls 4 [(0, .ref (Γ 0 0)), (1, .int (nI i)), (2, .int (nI k))] := hl
  have hinX0 : ∀ w ∈ u_ws RX0 TX0 2, w ∈ wsX4_markAt := (fun _ h => List.mem_cons_of_mem _ (List.mem_append_left _ (List.mem_append_left _ (List.mem_append_right _ h))))
  have hinX1 : ∀ w ∈ u_ws RX1 TX1 10, w ∈ wsX4_markAt := (fun _ h => List.mem_cons_of_mem _ (List.mem_append_left _ (List.mem_append_left _ (List.mem_append_left _ (List.mem_append_right _ h)))))
  have hinX4 : ∀ w ∈ u_ws RX4 TX4 6, w ∈ wsX4_markAt := (fun _ h => List.mem_cons_of_mem _ (List.mem_append_left _ (List.mem_append_left _ (List.mem_append_left _ (List.mem_append_left _ (List.mem_append_right _ h))))))
  have hinJx4a65c : ∀ w ∈ u_ws RJx4a65c TJx4a65c 3, w ∈ wsX4_markAt := (fun _ h => List.mem_cons_of_mem _ (List.mem_append_left _ (List.mem_append_right _ h)))
  have hI := hH.1
  obtain ⟨hV, hS, hD, hL, hZ, hRI⟩ := id hI
  have b0 : σ 0 0 ≤ 8 := hV 0 0
  have b8 : σ 8 0 ≤ 40 := hV 8 0
  have b24 : σ 24 0 ≤ 1000 := hV 24 0
  have hct := hH.cnt
  refine lv_aload_n hx hb dX4_markAt_0 rfl (lv_at hl 0 rfl) ?_
  refine lv_iload_n hx hb dX4_markAt_1 rfl (lv_at hl 1 rfl) ?_
  refine mx_v (vx_runV (As := [.int (nI i)]) (nL := 4) ⟨hx, hb, hml, hown, hts⟩ (xLetter l hst G N Γ (cs σ ρ) i (by omega) (show σ 8 0 < 2147483648 by omega) _ _ hR) (cwV 1 hts gX4_markAt_X4_needLetter rfl rfl rfl (by decide +kernel) ⟨(Nat.le_of_ble_eq_true rfl), (Nat.le_of_ble_eq_true rfl)⟩) (mp_V hK hE hW hA (mW_recv hK hW.1 hR.o0 (by rfl))) rfl rfl hl.1 rfl (lv_room (Nat.le_of_ble_eq_true rfl)) dX4_markAt_2 ⟨(Nat.le_of_ble_eq_true rfl), (Nat.le_of_ble_eq_true rfl)⟩) hW hsz htab hlk (fun E hE9 => by have hu1 := hE9.1; have hu1 : ¬ i < σ 8 0 := hu1; obtain ⟨h1, rfl⟩ := hE9; exact xOk.of (k := 1) (by unfold thM; first | (rw [if_pos (by omega)]; done) | (rw [if_neg (by omega)]; done) | (rw [if_neg (by omega), if_pos (by omega)]; done) | (rw [if_neg (by omega), if_neg (by omega)]; done) | (rw [if_neg (by omega), if_neg (by omega), if_neg (by omega)]; done)) (by decide) rfl) (Nat.le_of_ble_eq_true rfl) (Nat.le_of_ble_eq_true rfl) (fun M9 H locs hp_1 hW => ?_)
  obtain ⟨hi0, e92⟩ := hp_1
  rw [e92] at hW
  clear e92
  refine W.eq (g2 := F0 m 5 ls []) rfl ?_
  have hi0 : i < σ 8 0 := hi0
  obtain ⟨l1, l2, l3, l4, l5, l6⟩ := hL i hi0
  have l7 : σ 18 i ≤ 125 := l6.2.2.2.2
  have e12 : cs σ ρ 12 i = σ 12 i := if_neg (by omega)
  refine lv_aload_n hx hb dX4_markAt_5 rfl (lv_at hl 0 rfl) ?_
  refine mr_get hx hb hts hinX4 hown hK hW hR.o0 (by rfl) 1 (by decide) (hts (.fieldLink RX4 16 "SeaPost" "mail" "Ljava/util/ArrayList;") (by decide +kernel)) (fun _ h => h) rfl dX4_markAt_6 ?_
  refine lv_iload_n hx hb dX4_markAt_9 rfl (lv_at hl 1 rfl) ?_
  obtain ⟨z_2m, z_2a, z_2f, z_2, -, -⟩ := hR.o2 (x := 1) (Or.inl (by decide))
  refine mk_q (va_runV (As := [.int (nI i)]) (nL := 4) ⟨hx, hb, hml, hown, hts⟩ (kGetM l G N Γ (cs σ ρ) i (show i < σ 8 0 by omega) _ _ hR) (cwV 1 hts gX4_markAt_Jx4a65c_get_915e3 rfl rfl rfl (by decide +kernel) ⟨(Nat.le_of_ble_eq_true rfl), (Nat.le_of_ble_eq_true rfl)⟩) (mp_V hK hE hW hA (mW_recv hK hW.1 z_2 (by rfl))) rfl rfl hl.1 rfl (lv_room (Nat.le_of_ble_eq_true rfl)) dX4_markAt_10 ⟨(Nat.le_of_ble_eq_true rfl), (Nat.le_of_ble_eq_true rfl)⟩) hW hA (fun r9 M9 H locs hp_3 hW => ?_)
  obtain ⟨e91, e92⟩ := hp_3
  subst e91
  rw [e92] at hW
  clear e92
  refine W.eq (g2 := F0 m 13 ls [.ref (Γ 9 i)]) rfl ?_
  refine va_castS hx hb hown (hts (.classLink RX4 101 RX1) (by decide +kernel)) (hK.1 2 _ rfl).2 (mW_recv hK hW.1 (hR.o9 (i := i) (show i < σ 8 0 by omega)) (by rfl)) dX4_markAt_13 ?_
  refine mr_get hx hb hts hinX1 hown hK hW (hR.o9 (i := i) (show i < σ 8 0 by omega)) (by rfl) 4 (by decide) (hts (.fieldLink RX4 106 "SeaPost$Letter" "cover" "LSeaPost$Cover;") (by decide +kernel)) (fun _ h => h) rfl dX4_markAt_16 ?_
  refine lv_astore_n (lv' := [(3, .ref (Γ 10 i)), (0, .ref (Γ 0 0)), (1, .int (nI i)), (2, .int (nI k))]) hx hb dX4_markAt_19 rfl hl (by decide) rfl (fun ls hl => ?_)
  refine lv_iload_n hx hb dX4_markAt_20 rfl (lv_at hl 3 rfl) ?_
  refine nv_if_lt (tgt := 32) hx hb dX4_markAt_21 (by decide) (by omega) (fun c_4 => ?_) (fun c_4 => ?_)
  · skip
    exact mx_throw (cls := "java/lang/IndexOutOfBoundsException") (text := "there is no such char") (ik := 175) (is := 191) (ic := 179) hx hb hst (hml.trans hl.1.symm) hown hts hlk htab hE (by decide +kernel) (by decide +kernel) (by decide +kernel) (by decide +kernel) (fun _ h => List.mem_cons_of_mem _ (List.mem_append_right _ h)) tb_1 tg_1 (by decide +kernel) hW (xOk.of (k := 1) (by unfold thM; first | (rw [if_pos (by omega)]; done) | (rw [if_neg (by omega)]; done) | (rw [if_neg (by omega), if_pos (by omega)]; done)) (by decide) rfl) dX4_markAt_32 dX4_markAt_35 dX4_markAt_36 dX4_markAt_38 dX4_markAt_41 (Nat.le_of_ble_eq_true rfl) (Nat.le_of_ble_eq_true rfl) (Nat.le_of_ble_eq_true rfl) (Nat.le_of_ble_eq_true rfl) (Nat.le_of_ble_eq_true rfl) (Nat.le_of_ble_eq_true rfl)
  · skip
    refine lv_iload_n hx hb dX4_markAt_24 rfl (lv_at hl 3 rfl) ?_
    refine lv_aload_n hx hb dX4_markAt_25 rfl (lv_at hl 0 rfl) ?_
    refine mr_get hx hb hts hinX0 hown hK hW (hR.o10 (i := i) (show i < σ 8 0 by omega)) (by rfl) 1 (by decide) (hts (.fieldLink RX4 188 "SeaPost$Cover" "length" "I") (by decide +kernel)) (fun _ h => h) rfl dX4_markAt_26 ?_
    refine lv_tope (congrArg nI (show (cs σ ρ) 18 i = σ 18 i from rfl)) ?_
    refine nv_icmp_lt (u := k) (v := σ 18 i) (tgt := 42) hx hb dX4_markAt_29 (by decide) (by omega) (by omega) (fun c_5 => ?_) (fun c_5 => ?_)
    · skip
      have hk9 : k < σ 18 i := by omega
      have hch : σ 17 (200 * i + k) < 65536 := hV 17 _
      refine lv_aload_n hx hb dX4_markAt_42 rfl (lv_at hl 0 rfl) ?_
      refine mr_get hx hb hts hinX0 hown hK hW (hR.o10 (i := i) (show i < σ 8 0 by omega)) (by rfl) 0 (by decide) (hts (.fieldLink RX4 193 "SeaPost$Cover" "signs" "[C") (by decide +kernel)) (fun _ h => h) rfl dX4_markAt_43 ?_
      refine lv_iload_n hx hb dX4_markAt_46 rfl (lv_at hl 3 rfl) ?_
      obtain ⟨f_6, f_6a, f_6b⟩ := hR.o11 (i := i) (show i < σ 8 0 by omega)
      refine mr_cald (j := k) hx hb hK hW 1 f_6a (by rfl) rfl (by first | omega | assumption) (by omega) dX4_markAt_47 (lv_tope (f_6b _ (by first | omega | assumption)) ?_)
      refine lv_tope (congrArg nI (show (cs σ ρ) 17 (200 * i + k) = σ 17 (200 * i + k) from rfl)) ?_
      exact vx_ret (mr_zret (v := nI (σ 17 (200 * i + k))) hx hb hr hlk (by first | rfl | exact mc_nb | exact mc_char (by omega) | (exact mc_nc (by omega))) (Nat.le_of_ble_eq_true rfl) (Nat.le_of_ble_eq_true rfl) hW ⟨by unfold thM; first | (rw [if_pos (by omega)]; done) | (rw [if_neg (by omega)]; done) | (rw [if_neg (by omega), if_neg (by omega)]; done), rfl, Γ, ρ, rfl, hR, hH⟩ dX4_markAt_48)
    · skip
      exact mx_throw (cls := "java/lang/IndexOutOfBoundsException") (text := "there is no such char") (ik := 175) (is := 191) (ic := 179) hx hb hst (hml.trans hl.1.symm) hown hts hlk htab hE (by decide +kernel) (by decide +kernel) (by decide +kernel) (by decide +kernel) (fun _ h => List.mem_cons_of_mem _ (List.mem_append_right _ h)) tb_1 tg_1 (by decide +kernel) hW (xOk.of (k := 1) (by unfold thM; first | (rw [if_pos (by omega)]; done) | (rw [if_neg (by omega)]; done) | (rw [if_neg (by omega), if_pos (by omega)]; done)) (by decide) rfl) dX4_markAt_32 dX4_markAt_35 dX4_markAt_36 dX4_markAt_38 dX4_markAt_41 (Nat.le_of_ble_eq_true rfl) (Nat.le_of_ble_eq_true rfl) (Nat.le_of_ble_eq_true rfl) (Nat.le_of_ble_eq_true rfl) (Nat.le_of_ble_eq_true rfl) (Nat.le_of_ble_eq_true rfl)

def ptC (σ : Sg) (i k : Nat) : Nat := if k < 2147483648 then ptS σ i k else 4294967295
theorem ptF_or {σ : Sg} {i : Nat} : ∀ n k, (ptF σ i k n < n ∧ isPM (σ 17 (200 * i + ptF σ i k n))) ∨ ptF σ i k n = 4294967295
  | 0, _ => Or.inr rfl
  | n + 1, k => by
    unfold ptF
    by_cases c : isPM (σ 17 (200 * i + n))
    · rw [if_pos c]
      by_cases d : k = 0
      · rw [if_pos d]; exact Or.inl ⟨by omega, c⟩
      · rw [if_neg d]
        rcases ptF_or (σ := σ) (i := i) n (k - 1) with h | h
        · exact Or.inl ⟨by omega, h.2⟩
        · exact Or.inr h
    · rw [if_neg c]
      rcases ptF_or (σ := σ) (i := i) n k with h | h
      · exact Or.inl ⟨by omega, h.2⟩
      · exact Or.inr h
theorem kPtC (l : Launch) (G : mG) (N : Mem) (Γ : Adr) (σ ρ : Sg) (i k : Nat) (hH : HS σ ρ) (hi : i < σ 8 0) (hk : k < 4294967296) (M : Mem) (sz : Nat) (hR : Rp G N Γ (cs σ ρ) M) : cMi l yX0_portIndex wsX0_portIndex 0 0 0 G M sz [.ref (Γ 10 i), .int (nI k)] (fun y9 M' => y9 = nI (ptC σ i k) ∧ M' = M) := by
  obtain ⟨⟨hV, hS, hD, hL, hZ, hI⟩, -, hC⟩ := hH
  obtain ⟨l1, l2, l3, l4, l5, l6⟩ := hL i hi
  have l7 : σ 18 i ≤ 125 := l6.2.2.2.2
  unfold ptC
  by_cases c : k < 2147483648
  · rw [if_pos c]
    have h := kPort l G N Γ (cs σ ρ) i k hi (by show σ 18 i ≤ 128; omega) (fun j _ => hV 17 _) c M sz hR
    rw [cs_ptF] at h
    exact h
  · rw [if_neg c]
    exact kPortN l G N Γ (cs σ ρ) i k hi (by show σ 18 i ≤ 128; omega) (fun j _ => hV 17 _) (by omega) hk M sz hR
theorem kStC (l : Launch) (G : mG) (N : Mem) (Γ : Adr) (σ ρ : Sg) (i n : Nat) (hH : HS σ ρ) (hi : i < σ 8 0) (hn : n < σ 18 i) (M : Mem) (sz : Nat) (hR : Rp G N Γ (cs σ ρ) M) : cMi l yX0_standsBehind wsX0_standsBehind 0 0 0 G M sz [.ref (Γ 10 i), .int (nI n), .int (nI 45)] (fun y9 M' => y9 = nI (if 0 < n ∧ σ 17 (200 * i + n - 1) = 45 then 1 else 0) ∧ M' = M) := by
  obtain ⟨⟨hV, hS, hD, hL, hZ, hI⟩, -, hC⟩ := hH
  obtain ⟨l1, l2, l3, l4, l5, l6⟩ := hL i hi
  have l7 : σ 18 i ≤ 125 := l6.2.2.2.2
  have h := kStands l G N Γ (cs σ ρ) i n 45 hi (by show σ 18 i ≤ 128; omega) (by omega) (by decide) (fun j _ => hV 17 _) M sz hR
  have e : ∀ A : Prop, ∀ [Decidable A], (A ↔ (0 < n ∧ σ 17 (200 * i + n - 1) = 45)) → (if A then 1 else 0 : Nat) = if 0 < n ∧ σ 17 (200 * i + n - 1) = 45 then 1 else 0 := by
    intro A _ hA
    by_cases z : 0 < n ∧ σ 17 (200 * i + n - 1) = 45
    · rw [if_pos z, if_pos (hA.mpr z)]
    · rw [if_neg z, if_neg (fun w => z (hA.mp w))]
  rw [e _ ?_] at h
  · exact h
  · show (0 < n ∧ n ≤ σ 18 i ∧ σ 17 (200 * i + (n - 1)) = 45) ↔ _
    constructor
    · rintro ⟨a, b, c⟩
      rw [show 200 * i + (n - 1) = 200 * i + n - 1 by omega] at c
      exact ⟨a, c⟩
    · rintro ⟨a, c⟩
      rw [show 200 * i + n - 1 = 200 * i + (n - 1) by omega] at c
      exact ⟨a, by omega, c⟩

set_option maxHeartbeats 4000000 in
set_option maxRecDepth 100000 in
theorem wWritten (l : Launch) (hst : l.stackTraces = false) (G : mG) (N : Mem) (Γ : Adr) (σ ρ : Sg) (i : Nat) (hi : i < 4294967296) (k : Nat) (hk : k < 4294967296) (hH : HS σ ρ) : pXi l yX4_written wsX4_written 7 5 30 G N Γ σ ρ [.ref (Γ 0 0), .int (nI i), .int (nI k)] (thN σ i k) (wtS σ i k) (σ) ["java/lang/IndexOutOfBoundsException"] := by
  intro M sz hR
  refine m_startX cX4_written 5 (some .int) (by decide) rfl (Nat.le_of_ble_eq_true rfl) ?_
  intro p e s m below meth c ls hx hb hr hml hown hlk hnm hts hK hsz hE hW hl htab
  have hA := mA_A (M := M) hsz
  have hl : lv_has ls 5 [(0, .ref (Γ 0 0)), (1, .int (nI i)), (2, .int (nI k))] := hl
  have hinX0 : ∀ w ∈ u_ws RX0 TX0 2, w ∈ wsX4_written := (fun _ h => List.mem_cons_of_mem _ (List.mem_append_left _ (List.mem_append_left _ (List.mem_append_right _ h))))
  have hinX1 : ∀ w ∈ u_ws RX1 TX1 10, w ∈ wsX4_written := (fun _ h => List.mem_cons_of_mem _ (List.mem_append_left _ (List.mem_append_left _ (List.mem_append_left _ (List.mem_append_right _ h)))))
  have hinX4 : ∀ w ∈ u_ws RX4 TX4 6, w ∈ wsX4_written := (fun _ h => List.mem_cons_of_mem _ (List.mem_append_left _ (List.mem_append_left _ (List.mem_append_left _ (List.mem_append_left _ (List.mem_append_right _ h))))))
  have hinJx4a65c : ∀ w ∈ u_ws RJx4a65c TJx4a65c 3, w ∈ wsX4_written := (fun _ h => List.mem_cons_of_mem _ (List.mem_append_left _ (List.mem_append_right _ h)))
  have hI := hH.1
  obtain ⟨hV, hS, hD, hL, hZ, hRI⟩ := id hI
  have b0 : σ 0 0 ≤ 8 := hV 0 0
  have b8 : σ 8 0 ≤ 40 := hV 8 0
  have b24 : σ 24 0 ≤ 1000 := hV 24 0
  have hct := hH.cnt
  refine lv_aload_n hx hb dX4_written_0 rfl (lv_at hl 0 rfl) ?_
  refine lv_iload_n hx hb dX4_written_1 rfl (lv_at hl 1 rfl) ?_
  refine mx_v (vx_runV (As := [.int (nI i)]) (nL := 5) ⟨hx, hb, hml, hown, hts⟩ (xLetter l hst G N Γ (cs σ ρ) i (by omega) (show σ 8 0 < 2147483648 by omega) _ _ hR) (cwV 1 hts gX4_written_X4_needLetter rfl rfl rfl (by decide +kernel) ⟨(Nat.le_of_ble_eq_true rfl), (Nat.le_of_ble_eq_true rfl)⟩) (mp_V hK hE hW hA (mW_recv hK hW.1 hR.o0 (by rfl))) rfl rfl hl.1 rfl (lv_room (Nat.le_of_ble_eq_true rfl)) dX4_written_2 ⟨(Nat.le_of_ble_eq_true rfl), (Nat.le_of_ble_eq_true rfl)⟩) hW hsz htab hlk (fun E hE9 => by have hu1 := hE9.1; have hu1 : ¬ i < σ 8 0 := hu1; obtain ⟨h1, rfl⟩ := hE9; exact xOk.of (k := 1) (by unfold thN; first | (rw [if_pos (by omega)]; done) | (rw [if_neg (by omega)]; done) | (rw [if_neg (by omega), if_pos (by omega)]; done) | (rw [if_neg (by omega), if_neg (by omega)]; done) | (rw [if_neg (by omega), if_neg (by omega), if_neg (by omega)]; done)) (by decide) rfl) (Nat.le_of_ble_eq_true rfl) (Nat.le_of_ble_eq_true rfl) (fun M9 H locs hp_1 hW => ?_)
  obtain ⟨hi0, e92⟩ := hp_1
  rw [e92] at hW
  clear e92
  refine W.eq (g2 := F0 m 5 ls []) rfl ?_
  have hi0 : i < σ 8 0 := hi0
  obtain ⟨l1, l2, l3, l4, l5, l6⟩ := hL i hi0
  have l7 : σ 18 i ≤ 125 := l6.2.2.2.2
  have e12 : cs σ ρ 12 i = σ 12 i := if_neg (by omega)
  refine lv_aload_n hx hb dX4_written_5 rfl (lv_at hl 0 rfl) ?_
  refine mr_get hx hb hts hinX4 hown hK hW hR.o0 (by rfl) 1 (by decide) (hts (.fieldLink RX4 16 "SeaPost" "mail" "Ljava/util/ArrayList;") (by decide +kernel)) (fun _ h => h) rfl dX4_written_6 ?_
  refine lv_iload_n hx hb dX4_written_9 rfl (lv_at hl 1 rfl) ?_
  obtain ⟨z_2m, z_2a, z_2f, z_2, -, -⟩ := hR.o2 (x := 1) (Or.inl (by decide))
  refine mk_q (va_runV (As := [.int (nI i)]) (nL := 5) ⟨hx, hb, hml, hown, hts⟩ (kGetM l G N Γ (cs σ ρ) i (show i < σ 8 0 by omega) _ _ hR) (cwV 1 hts gX4_written_Jx4a65c_get_915e3 rfl rfl rfl (by decide +kernel) ⟨(Nat.le_of_ble_eq_true rfl), (Nat.le_of_ble_eq_true rfl)⟩) (mp_V hK hE hW hA (mW_recv hK hW.1 z_2 (by rfl))) rfl rfl hl.1 rfl (lv_room (Nat.le_of_ble_eq_true rfl)) dX4_written_10 ⟨(Nat.le_of_ble_eq_true rfl), (Nat.le_of_ble_eq_true rfl)⟩) hW hA (fun r9 M9 H locs hp_3 hW => ?_)
  obtain ⟨e91, e92⟩ := hp_3
  subst e91
  rw [e92] at hW
  clear e92
  refine W.eq (g2 := F0 m 13 ls [.ref (Γ 9 i)]) rfl ?_
  refine va_castS hx hb hown (hts (.classLink RX4 101 RX1) (by decide +kernel)) (hK.1 2 _ rfl).2 (mW_recv hK hW.1 (hR.o9 (i := i) (show i < σ 8 0 by omega)) (by rfl)) dX4_written_13 ?_
  refine mr_get hx hb hts hinX1 hown hK hW (hR.o9 (i := i) (show i < σ 8 0 by omega)) (by rfl) 4 (by decide) (hts (.fieldLink RX4 106 "SeaPost$Letter" "cover" "LSeaPost$Cover;") (by decide +kernel)) (fun _ h => h) rfl dX4_written_16 ?_
  refine lv_astore_n (lv' := [(3, .ref (Γ 10 i)), (0, .ref (Γ 0 0)), (1, .int (nI i)), (2, .int (nI k))]) hx hb dX4_written_19 rfl hl (by decide) rfl (fun ls hl => ?_)
  refine lv_aload_n hx hb dX4_written_20 rfl (lv_at hl 0 rfl) ?_
  refine lv_iload_n hx hb dX4_written_21 rfl (lv_at hl 3 rfl) ?_
  refine mk_i (va_runV (As := [.int (nI k)]) (nL := 5) ⟨hx, hb, hml, hown, hts⟩ (kPtC l G N Γ σ ρ i k hH (by omega) (by omega) _ _ hR) (cwV 1 hts gX4_written_X0_portIndex rfl rfl rfl (by decide +kernel) ⟨(Nat.le_of_ble_eq_true rfl), (Nat.le_of_ble_eq_true rfl)⟩) (mp_V hK hE hW hA (mW_recv hK hW.1 (hR.o10 (i := i) (show i < σ 8 0 by omega)) (by rfl))) rfl rfl hl.1 rfl (lv_room (Nat.le_of_ble_eq_true rfl)) dX4_written_22 ⟨(Nat.le_of_ble_eq_true rfl), (Nat.le_of_ble_eq_true rfl)⟩) hW hA (fun r9 M9 H locs hp_4 hW => ?_)
  obtain ⟨e91, e92⟩ := hp_4
  subst e91
  rw [e92] at hW
  clear e92
  refine W.eq (g2 := F0 m 25 ls [.int (nI (ptC σ i k))]) rfl ?_
  refine lv_istore (lv' := [(4, .int (nI (ptC σ i k))), (3, .ref (Γ 10 i)), (0, .ref (Γ 0 0)), (1, .int (nI i)), (2, .int (nI k))]) hx hb dX4_written_25 hl (by decide) rfl (fun ls hl => ?_)
  have hpo := ptF_or (σ := σ) (i := i) (σ 18 i) k
  have hpc : (k < 2147483648 ∧ ptC σ i k = ptS σ i k) ∨ (¬ k < 2147483648 ∧ ptC σ i k = 4294967295) := by
    unfold ptC
    by_cases c : k < 2147483648
    · exact Or.inl ⟨c, if_pos c⟩
    · exact Or.inr ⟨c, if_neg c⟩
  have hpb : ptC σ i k < 4294967296 := by
    have e : ptS σ i k = ptF σ i k (σ 18 i) := rfl
    rcases hpo with h | h <;> omega
  refine lv_iload hx hb dX4_written_27 (lv_at hl 0 rfl) ?_
  refine lv_iconst (v := nI 4294967295) hx hb dX4_written_29 (by decide) ?_
  refine nv_icmp_ne (u := ptC σ i k) (v := 4294967295) (tgt := 43) hx hb dX4_written_30 (by decide) (by omega) (by omega) (fun c_5 => ?_) (fun c_5 => ?_)
  · skip
    have hpe : ptC σ i k = ptS σ i k := by omega
    have hpl : ptS σ i k < σ 18 i ∧ isPM (σ 17 (200 * i + ptS σ i k)) := by
      have e : ptS σ i k = ptF σ i k (σ 18 i) := rfl
      rcases hpo with h | h
      · exact h
      · omega
    obtain ⟨hpl, hpm⟩ := hpl
    have hpm1 : 65 ≤ σ 17 (200 * i + ptC σ i k) := by rw [hpe]; exact hpm.1
    refine lv_bipush (v := nI 10) hx hb dX4_written_43 (by decide) ?_
    refine lv_aload_n hx hb dX4_written_45 rfl (lv_at hl 1 rfl) ?_
    refine mr_get hx hb hts hinX0 hown hK hW (hR.o10 (i := i) (show i < σ 8 0 by omega)) (by rfl) 0 (by decide) (hts (.fieldLink RX4 193 "SeaPost$Cover" "signs" "[C") (by decide +kernel)) (fun _ h => h) rfl dX4_written_46 ?_
    refine lv_iload hx hb dX4_written_49 (lv_at hl 0 rfl) ?_
    obtain ⟨f_6, f_6a, f_6b⟩ := hR.o11 (i := i) (show i < σ 8 0 by omega)
    refine mr_cald (j := ptC σ i k) hx hb hK hW 1 f_6a (by rfl) rfl (by first | omega | assumption) (by omega) dX4_written_51 (lv_tope (f_6b _ (by first | omega | assumption)) ?_)
    refine lv_tope (congrArg nI (show (cs σ ρ) 17 (200 * i + ptC σ i k) = σ 17 (200 * i + ptC σ i k) from rfl)) ?_
    refine lv_bipush (v := nI 65) hx hb dX4_written_52 (by decide) ?_
    refine lv_isub hx hb dX4_written_54 (lv_tope (pk_sub (a := σ 17 (200 * i + ptC σ i k)) (b := 65) (by omega)) ?_)
    refine lv_imul hx hb dX4_written_55 (lv_tope (pk_mul 10 (σ 17 (200 * i + ptC σ i k) - 65)) ?_)
    refine lv_aload_n hx hb dX4_written_56 rfl (lv_at hl 1 rfl) ?_
    refine lv_iload hx hb dX4_written_57 (lv_at hl 0 rfl) ?_
    refine lv_bipush (v := nI 45) hx hb dX4_written_59 (by decide) ?_
    refine mk_i (va_runV (As := [.int (nI (ptC σ i k)), .int (nI 45)]) (nL := 5) ⟨hx, hb, hml, hown, hts⟩ (kStC l G N Γ σ ρ i (ptC σ i k) hH (by omega) (by omega) _ _ hR) (cwV 2 hts gX4_written_X0_standsBehind rfl rfl rfl (by decide +kernel) ⟨(Nat.le_of_ble_eq_true rfl), (Nat.le_of_ble_eq_true rfl)⟩) (mp_V hK hE hW hA (mW_recv hK hW.1 (hR.o10 (i := i) (show i < σ 8 0 by omega)) (by rfl))) rfl rfl hl.1 rfl (lv_room (Nat.le_of_ble_eq_true rfl)) dX4_written_61 ⟨(Nat.le_of_ble_eq_true rfl), (Nat.le_of_ble_eq_true rfl)⟩) hW hA (fun r9 M9 H locs hp_7 hW => ?_)
    obtain ⟨e91, e92⟩ := hp_7
    subst e91
    rw [e92] at hW
    clear e92
    refine W.eq (g2 := F0 m 64 ls [.int (nI (if 0 < ptC σ i k ∧ σ 17 (200 * i + ptC σ i k - 1) = 45 then 1 else 0)), .int (nI (10 * (σ 17 (200 * i + ptC σ i k) - 65)))]) rfl ?_
    refine nb_if_eq (tgt := 71) hx hb dX4_written_64 (by decide) (fun c_8 => ?_) (fun c_8 => ?_)
    · skip
      refine lv_iconst (v := nI 0) hx hb dX4_written_71 (by decide) ?_
      refine lv_iadd hx hb dX4_written_72 (lv_tope (nI_add (10 * (σ 17 (200 * i + ptC σ i k) - 65)) 0) ?_)
      exact vx_ret (mr_iret hx hb hr hlk (Nat.le_of_ble_eq_true rfl) (Nat.le_of_ble_eq_true rfl) hW ⟨by unfold thN; first | (rw [if_pos (by omega)]; done) | (rw [if_neg (by omega)]; done) | (rw [if_neg (by omega), if_neg (by omega)]; done), congrArg nI (by unfold wtS; rw [← hpe]; first | (rw [if_pos (by assumption)]; done) | (rw [if_neg (by assumption)]; done)), Γ, ρ, rfl, hR, hH⟩ dX4_written_73)
    · skip
      refine lv_iconst (v := nI 1) hx hb dX4_written_67 (by decide) ?_
      refine lv_goto (tgt := 72) hx hb dX4_written_68 (by decide) ?_
      refine lv_iadd hx hb dX4_written_72 (lv_tope (nI_add (10 * (σ 17 (200 * i + ptC σ i k) - 65)) 1) ?_)
      exact vx_ret (mr_iret hx hb hr hlk (Nat.le_of_ble_eq_true rfl) (Nat.le_of_ble_eq_true rfl) hW ⟨by unfold thN; first | (rw [if_pos (by omega)]; done) | (rw [if_neg (by omega)]; done) | (rw [if_neg (by omega), if_neg (by omega)]; done), congrArg nI (by unfold wtS; rw [← hpe]; first | (rw [if_pos (by assumption)]; done) | (rw [if_neg (by assumption)]; done)), Γ, ρ, rfl, hR, hH⟩ dX4_written_73)
  · skip
    have hth9 : thN σ i k = 1 := by
      unfold thN
      by_cases c : k < 2147483648
      · rw [if_neg (by omega), if_pos (by omega)]
      · rw [if_pos (by omega)]
    exact mx_throw (cls := "java/lang/IndexOutOfBoundsException") (text := "not so many ports are written") (ik := 175) (is := 200) (ic := 179) hx hb hst (hml.trans hl.1.symm) hown hts hlk htab hE (by decide +kernel) (by decide +kernel) (by decide +kernel) (by decide +kernel) (fun _ h => List.mem_cons_of_mem _ (List.mem_append_right _ h)) tb_1 tg_1 (by decide +kernel) hW (xOk.of (k := 1) hth9 (by decide) rfl) dX4_written_33 dX4_written_36 dX4_written_37 dX4_written_39 dX4_written_42 (Nat.le_of_ble_eq_true rfl) (Nat.le_of_ble_eq_true rfl) (Nat.le_of_ble_eq_true rfl) (Nat.le_of_ble_eq_true rfl) (Nat.le_of_ble_eq_true rfl) (Nat.le_of_ble_eq_true rfl)

set_option maxHeartbeats 4000000 in
set_option maxRecDepth 100000 in
theorem wToday (l : Launch) (G : mG) (N : Mem) (Γ : Adr) (ς : Sg)   (M : Mem) (sz : Nat) (hR : Rp G N Γ ς M) : cMi l yX4_today wsX4_today 0 0 0 G M sz [.ref (Γ 0 0)] (fun y9 M' => y9 = nI (ς 24 0) ∧ M' = M) := by
  refine m_start cX4_today 1 (some .int) (by decide) rfl (Nat.le_of_ble_eq_true rfl) ?_
  intro p e s m below meth c ls hx hb hr hml hown hlk hnm hts hK hsz hE hW hl
  have hA := mA_A (M := M) hsz
  have hl : lv_has ls 1 [(0, .ref (Γ 0 0))] := hl
  have hinX4 : ∀ w ∈ u_ws RX4 TX4 6, w ∈ wsX4_today := (fun _ h => List.mem_cons_of_mem _ (List.mem_append_right _ h))
  refine lv_aload_n hx hb dX4_today_0 rfl (lv_at hl 0 rfl) ?_
  refine mr_get hx hb hts hinX4 hown hK hW hR.o0 (by rfl) 4 (by decide) (hts (.fieldLink RX4 84 "SeaPost" "day" "I") (by decide +kernel)) (fun _ h => h) rfl dX4_today_1 ?_
  exact mr_iret hx hb hr hlk (Nat.le_of_ble_eq_true rfl) (Nat.le_of_ble_eq_true rfl) hW ⟨rfl, rfl⟩ dX4_today_4

set_option maxHeartbeats 4000000 in
set_option maxRecDepth 100000 in
theorem wLetters (l : Launch) (G : mG) (N : Mem) (Γ : Adr) (ς : Sg)   (M : Mem) (sz : Nat) (hR : Rp G N Γ ς M) : cMi l yX4_letters wsX4_letters 1 0 0 G M sz [.ref (Γ 0 0)] (fun y9 M' => y9 = nI (ς 30 1) ∧ M' = M) := by
  refine m_start cX4_letters 1 (some .int) (by decide) rfl (Nat.le_of_ble_eq_true rfl) ?_
  intro p e s m below meth c ls hx hb hr hml hown hlk hnm hts hK hsz hE hW hl
  have hA := mA_A (M := M) hsz
  have hl : lv_has ls 1 [(0, .ref (Γ 0 0))] := hl
  have hinX4 : ∀ w ∈ u_ws RX4 TX4 6, w ∈ wsX4_letters := (fun _ h => List.mem_cons_of_mem _ (List.mem_append_left _ (List.mem_append_right _ h)))
  have hinJx4a65c : ∀ w ∈ u_ws RJx4a65c TJx4a65c 3, w ∈ wsX4_letters := (fun _ h => List.mem_cons_of_mem _ (List.mem_append_right _ h))
  refine lv_aload_n hx hb dX4_letters_0 rfl (lv_at hl 0 rfl) ?_
  refine mr_get hx hb hts hinX4 hown hK hW hR.o0 (by rfl) 1 (by decide) (hts (.fieldLink RX4 16 "SeaPost" "mail" "Ljava/util/ArrayList;") (by decide +kernel)) (fun _ h => h) rfl dX4_letters_1 ?_
  obtain ⟨z_1m, z_1a, z_1f, z_1, -, -⟩ := hR.o2 (x := 1) (Or.inl (by decide))
  refine mk_i (va_runV (As := []) (nL := 1) ⟨hx, hb, hml, hown, hts⟩ (kSize l G N Γ ς 1 (Or.inl (by decide)) _ _ hR) (cwV 0 hts gX4_letters_Jx4a65c_size_8abf5 rfl rfl rfl (by decide +kernel) ⟨(Nat.le_of_ble_eq_true rfl), (Nat.le_of_ble_eq_true rfl)⟩) (mp_V hK hE hW hA (mW_recv hK hW.1 z_1 (by rfl))) rfl rfl hl.1 rfl (lv_room (Nat.le_of_ble_eq_true rfl)) dX4_letters_4 ⟨(Nat.le_of_ble_eq_true rfl), (Nat.le_of_ble_eq_true rfl)⟩) hW hA (fun r9 M9 H locs hp_2 hW => ?_)
  obtain ⟨e91, e92⟩ := hp_2
  subst e91
  rw [e92] at hW
  clear e92
  refine W.eq (g2 := F0 m 7 ls [.int (nI (ς 30 1))]) rfl ?_
  exact mr_iret hx hb hr hlk (Nat.le_of_ble_eq_true rfl) (Nat.le_of_ble_eq_true rfl) hW ⟨rfl, rfl⟩ dX4_letters_7
