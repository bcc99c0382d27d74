/-! THE REFERENCE'S METHODS, SECOND PART (rows laid by my program gen/ref2.py) -/
theorem woF_b {σ : Sg} {p s : Nat} : ∀ n, woF σ p s n < n ∨ woF σ p s n = 4294967295
  | 0 => Or.inr rfl
  | n + 1 => by
    unfold woF
    split
    · exact Or.inl (Nat.lt_succ_self n)
    · rcases woF_b (σ := σ) (p := p) (s := s) n with h | h
      · exact Or.inl (by omega)
      · exact Or.inr h
theorem woS_b {σ : Sg} {p s : Nat} (h : σ 7 s ≤ 20) : woS σ p s < 20 ∨ woS σ p s = 4294967295 := by
  unfold woS
  rcases woF_b (σ := σ) (p := p) (s := s) (σ 7 s) with h1 | h1
  · exact Or.inl (by omega)
  · exact Or.inr h1

set_option maxHeartbeats 4000000 in
set_option maxRecDepth 100000 in
theorem c5_addShip (l : Launch) (G : mG) (ad : Nat → Nat) (σ : Sg)  (h0 : σ 0 0 ≤ 8) : cRi l yX5_addShip wsX5_addShip 0 G ad σ [] (rPost (thA σ) (σ 0 0) (nxA (st σ 25 0 0)) σ) := by
  intro M sz hR
  refine m_start cX5_addShip 1 (some .int) (by decide) rfl (Nat.le_of_ble_eq_true rfl) ?_
  intro p e s m below meth c ls hx hb hr hml hown hlk hnm hts hK hsz hE hW hl
  have hA := mA_A (M := M) hsz
  have hl : lv_has ls 1 [(0, .ref (ad 0))] := hl
  have hW := rW_start hR hW
  have hinX5 : ∀ w ∈ u_ws RX5 TX5 26, w ∈ wsX5_addShip := (fun _ h => List.mem_cons_of_mem _ (List.mem_append_right _ h))
  refine lv_aload_n hx hb dX5_addShip_0 rfl (lv_at hl 0 rfl) ?_
  refine lv_aload_n hx hb dX5_addShip_1 rfl (lv_at hl 0 rfl) ?_
  refine rr_geti hx hb hts hinX5 hown hK hW 0 (by decide) rfl rfl (hts (.fieldLink RX5 78 "SeaPostModel" "ships" "I") (by decide +kernel)) dX5_addShip_2 ?_
  refine lv_bipush (v := nI 8) hx hb dX5_addShip_5 (by decide) ?_
  refine nv_icmp_ne (u := σ 0 0) (v := 8) (tgt := 14) hx hb dX5_addShip_7 (by decide) (by omega) (by omega) (fun c_1 => ?_) (fun c_1 => ?_)
  · skip
    refine lv_iconst (v := nI 0) hx hb dX5_addShip_14 (by decide) ?_
    refine rr_puti (v := 0) hx hb hts hinX5 hown hK hW 25 (by decide) rfl rfl (hts (.fieldLink RX5 70 "SeaPostModel" "thrown" "I") (by decide +kernel)) rfl (by decide +kernel) dX5_addShip_15 (fun H locs hW => ?_)
    obtain ⟨σ_2, eσ_2⟩ : ∃ z : Sg, z = st σ 25 0 0 := ⟨_, rfl⟩
    rw [← eσ_2] at hW
    refine lv_aload_n hx hb dX5_addShip_18 rfl (lv_at hl 0 rfl) ?_
    refine rr_geti hx hb hts hinX5 hown hK hW 25 (by decide) rfl rfl (hts (.fieldLink RX5 70 "SeaPostModel" "thrown" "I") (by decide +kernel)) dX5_addShip_19 ?_
    refine lv_tope (congrArg nI (show σ_2 25 0 = 0 by rw [eσ_2, st_s])) ?_
    refine lv_if_eq (tgt := 27) hx hb dX5_addShip_22 (by decide) (fun _ => ?_) (fun z => absurd (by decide) z)
    refine lv_aload_n hx hb dX5_addShip_27 rfl (lv_at hl 0 rfl) ?_
    refine lv_dup hx hb dX5_addShip_28 rfl ?_
    refine rr_geti hx hb hts hinX5 hown hK hW 0 (by decide) rfl rfl (hts (.fieldLink RX5 78 "SeaPostModel" "ships" "I") (by decide +kernel)) dX5_addShip_29 ?_
    refine lv_tope (congrArg nI (show σ_2 0 0 = σ 0 0 by rw [eσ_2, st_f (by decide)])) ?_
    refine lv_iconst (v := nI 1) hx hb dX5_addShip_32 (by decide) ?_
    refine lv_iadd hx hb dX5_addShip_33 (lv_tope (nI_add (σ 0 0) 1) ?_)
    refine rr_puti (v := σ 0 0 + 1) hx hb hts hinX5 hown hK hW 0 (by decide) rfl rfl (hts (.fieldLink RX5 78 "SeaPostModel" "ships" "I") (by decide +kernel)) rfl (by decide +kernel) dX5_addShip_34 (fun H locs hW => ?_)
    obtain ⟨σ_3, eσ_3⟩ : ∃ z : Sg, z = st σ_2 0 0 (σ 0 0 + 1) := ⟨_, rfl⟩
    rw [← eσ_3] at hW
    refine lv_aload_n hx hb dX5_addShip_37 rfl (lv_at hl 0 rfl) ?_
    refine rr_geti hx hb hts hinX5 hown hK hW 0 (by decide) rfl rfl (hts (.fieldLink RX5 78 "SeaPostModel" "ships" "I") (by decide +kernel)) dX5_addShip_38 ?_
    refine lv_tope (congrArg nI (show σ_3 0 0 = σ 0 0 + 1 by rw [eσ_3, st_s])) ?_
    refine lv_iconst (v := nI 1) hx hb dX5_addShip_41 (by decide) ?_
    refine lv_isub hx hb dX5_addShip_42 (lv_tope (pk_sub (a := σ 0 0 + 1) (b := 1) (by omega)) ?_)
    exact rr_iret hx hb hr hlk (Nat.le_refl 0) (Nat.le_refl 0) hW (rP_0 (show thA σ = 0 from by unfold thA; (repeat' split) <;> first | rfl | omega) (rfl) (by subst eσ_2; subst eσ_3; rfl)) dX5_addShip_43
  · skip
    refine lv_iconst (v := nI 1) hx hb dX5_addShip_10 (by decide) ?_
    refine lv_goto (tgt := 15) hx hb dX5_addShip_11 (by decide) ?_
    refine rr_puti (v := 1) hx hb hts hinX5 hown hK hW 25 (by decide) rfl rfl (hts (.fieldLink RX5 70 "SeaPostModel" "thrown" "I") (by decide +kernel)) rfl (by decide +kernel) dX5_addShip_15 (fun H locs hW => ?_)
    obtain ⟨σ_4, eσ_4⟩ : ∃ z : Sg, z = st σ 25 0 1 := ⟨_, rfl⟩
    rw [← eσ_4] at hW
    refine lv_aload_n hx hb dX5_addShip_18 rfl (lv_at hl 0 rfl) ?_
    refine rr_geti hx hb hts hinX5 hown hK hW 25 (by decide) rfl rfl (hts (.fieldLink RX5 70 "SeaPostModel" "thrown" "I") (by decide +kernel)) dX5_addShip_19 ?_
    refine lv_tope (congrArg nI (show σ_4 25 0 = 1 by rw [eσ_4, st_s])) ?_
    refine lv_if_eq (tgt := 27) hx hb dX5_addShip_22 (by decide) (fun z => absurd z (by decide)) (fun _ => ?_)
    refine lv_iconst (v := nI 0) hx hb dX5_addShip_25 (by decide) ?_
    exact rr_iret hx hb hr hlk (Nat.le_refl 0) (Nat.le_refl 0) hW (rP_x (show thA σ = 1 from by unfold thA; (repeat' split) <;> first | rfl | omega) (by decide) (by subst eσ_4; first | rfl | (simp only [st]; done))) dX5_addShip_26

set_option maxHeartbeats 4000000 in
set_option maxRecDepth 100000 in
theorem c5_isShut (l : Launch) (G : mG) (ad : Nat → Nat) (σ : Sg) (q : Nat) (hq : q < 10) (ho : σ 23 q ≤ 2000) (hd : σ 24 0 ≤ 1000) : cRi l yX5_isShut wsX5_isShut 0 G ad σ [.int (nI q)] (fun r σ9 => r = nI (if shut σ q then 1 else 0) ∧ σ9 = σ) := by
  intro M sz hR
  refine m_start cX5_isShut 2 (some .boolean) (by decide) rfl (Nat.le_of_ble_eq_true rfl) ?_
  intro p e s m below meth c ls hx hb hr hml hown hlk hnm hts hK hsz hE hW hl
  have hA := mA_A (M := M) hsz
  have hl : lv_has ls 2 [(0, .ref (ad 0)), (1, .int (nI q))] := hl
  have hW := rW_start hR hW
  have hinX5 : ∀ w ∈ u_ws RX5 TX5 26, w ∈ wsX5_isShut := (fun _ h => List.mem_cons_of_mem _ (List.mem_append_right _ h))
  refine lv_aload_n hx hb dX5_isShut_0 rfl (lv_at hl 0 rfl) ?_
  refine rr_geti hx hb hts hinX5 hown hK hW 24 (by decide) rfl rfl (hts (.fieldLink RX5 92 "SeaPostModel" "today" "I") (by decide +kernel)) dX5_isShut_1 ?_
  refine lv_aload_n hx hb dX5_isShut_4 rfl (lv_at hl 0 rfl) ?_
  refine rr_geta hx hb hts hinX5 hown hK hW 23 (by decide) rfl rfl (hts (.fieldLink RX5 67 "SeaPostModel" "opens" "[I") (by decide +kernel)) dX5_isShut_5 ?_
  refine lv_iload_n hx hb dX5_isShut_8 rfl (lv_at hl 1 rfl) ?_
  refine rr_ald (j := q) hx hb hK hW 23 rfl rfl (show q < 10 by omega) dX5_isShut_9 ?_
  refine nv_icmp_ge (u := σ 24 0) (v := σ 23 q) (tgt := 17) hx hb dX5_isShut_10 (by decide) (by omega) (by omega) (fun c_1 => ?_) (fun c_1 => ?_)
  · skip
    refine lv_iconst (v := nI 0) hx hb dX5_isShut_17 (by decide) ?_
    exact rr_zret (v := nI 0) hx hb hr hlk (by first | rfl | exact mc_nb | (exact mc_nc (by omega))) (Nat.le_refl 0) (Nat.le_refl 0) hW ⟨by first | (rw [if_pos (show shut σ q by unfold shut; omega)]) | (rw [if_neg (show ¬ shut σ q by unfold shut; omega)]), rfl⟩ dX5_isShut_18
  · skip
    refine lv_iconst (v := nI 1) hx hb dX5_isShut_13 (by decide) ?_
    refine lv_goto (tgt := 18) hx hb dX5_isShut_14 (by decide) ?_
    exact rr_zret (v := nI 1) hx hb hr hlk (by first | rfl | exact mc_nb | (exact mc_nc (by omega))) (Nat.le_refl 0) (Nat.le_refl 0) hW ⟨by first | (rw [if_pos (show shut σ q by unfold shut; omega)]) | (rw [if_neg (show ¬ shut σ q by unfold shut; omega)]), rfl⟩ dX5_isShut_18

set_option maxHeartbeats 4000000 in
set_option maxRecDepth 100000 in
theorem c5_placeOf (l : Launch) (G : mG) (ad : Nat → Nat) (σ : Sg) (u : Nat) (hu : u < 8) (h7 : σ 7 u ≤ 20) (h3 : ∀ r, r < 168 → σ 3 r ≤ 6) (h45 : ∀ k, k < 1008 → σ 4 k ≤ 9 ∧ σ 5 k ≤ 1000 ∧ σ 6 k ≤ 1030) (hd : σ 24 0 ≤ 1000) : cRi l yX5_placeOf wsX5_placeOf 1 G ad σ [.int (nI u)] (fun r σ9 => r = nI (plS σ u) ∧ σ9 = σ) := by
  intro M sz hR
  refine m_start cX5_placeOf 5 (some .int) (by decide) rfl (Nat.le_of_ble_eq_true rfl) ?_
  intro p e s m below meth c ls hx hb hr hml hown hlk hnm hts hK hsz hE hW hl
  have hA := mA_A (M := M) hsz
  have hl : lv_has ls 5 [(0, .ref (ad 0)), (1, .int (nI u))] := hl
  have hW := rW_start hR hW
  have hinX5 : ∀ w ∈ u_ws RX5 TX5 26, w ∈ wsX5_placeOf := (fun _ h => List.mem_cons_of_mem _ (List.mem_append_right _ h))
  refine lv_iconst (v := nI 4294967295) hx hb dX5_placeOf_0 (by decide) ?_
  refine lv_istore_n (lv' := [(2, .int (nI 4294967295)), (0, .ref (ad 0)), (1, .int (nI u))]) hx hb dX5_placeOf_1 rfl hl (by decide) rfl (fun ls hl => ?_)
  refine lv_aload_n hx hb dX5_placeOf_2 rfl (lv_at hl 1 rfl) ?_
  refine rr_geta hx hb hts hinX5 hown hK hW 7 (by decide) rfl rfl (hts (.fieldLink RX5 28 "SeaPostModel" "routeMany" "[I") (by decide +kernel)) dX5_placeOf_3 ?_
  refine lv_iload_n hx hb dX5_placeOf_6 rfl (lv_at hl 2 rfl) ?_
  refine rr_ald (j := u) hx hb hK hW 7 rfl rfl (show u < 8 by omega) dX5_placeOf_7 ?_
  refine nv_if_le (tgt := 92) hx hb dX5_placeOf_8 (by decide) (by omega) (fun c_1 => ?_) (fun c_1 => ?_)
  · skip
    refine lv_iload_n hx hb dX5_placeOf_92 rfl (lv_at hl 0 rfl) ?_
    exact rr_iret hx hb hr hlk (Nat.le_refl 0) (Nat.le_refl 0) hW ⟨by unfold plS; rw [if_neg (by omega)], rfl⟩ dX5_placeOf_93
  · skip
    refine lv_iload_n hx hb dX5_placeOf_11 rfl (lv_at hl 2 rfl) ?_
    refine lv_aload_n hx hb dX5_placeOf_12 rfl (lv_at hl 1 rfl) ?_
    refine rr_geta hx hb hts hinX5 hown hK hW 7 (by decide) rfl rfl (hts (.fieldLink RX5 28 "SeaPostModel" "routeMany" "[I") (by decide +kernel)) dX5_placeOf_13 ?_
    refine lv_iload_n hx hb dX5_placeOf_16 rfl (lv_at hl 2 rfl) ?_
    refine rr_ald (j := u) hx hb hK hW 7 rfl rfl (show u < 8 by omega) dX5_placeOf_17 ?_
    refine lv_iconst (v := nI 1) hx hb dX5_placeOf_18 (by decide) ?_
    refine lv_isub hx hb dX5_placeOf_19 (lv_tope (pk_sub (a := σ 7 u) (b := 1) (by omega)) ?_)
    refine rk_S (As := [.int (nI u), .int (nI (σ 7 u - 1))]) (nL := 5) ⟨hx, hb, hml, hown, hts⟩ (c5_rowOf l u (σ 7 u - 1)) (va_cwS 2 hts gX5_placeOf_X5_rowOf rfl rfl rfl (by decide +kernel) ⟨(Nat.le_of_ble_eq_true rfl), (Nat.le_of_ble_eq_true rfl)⟩) hK hE hW hA rfl hl.1 rfl (Nat.le_of_ble_eq_true rfl) dX5_placeOf_20 (Nat.zero_le _) (Nat.zero_le _) (fun H locs hW => ?_)
    refine lv_istore_n (lv' := [(3, .int (nI (21 * u + (σ 7 u - 1)))), (2, .int (nI 4294967295)), (0, .ref (ad 0)), (1, .int (nI u))]) hx hb dX5_placeOf_23 rfl hl (by decide) rfl (fun ls hl => ?_)
    refine lv_bipush (v := nI 6) hx hb dX5_placeOf_24 (by decide) ?_
    refine lv_iload_n hx hb dX5_placeOf_26 rfl (lv_at hl 0 rfl) ?_
    refine lv_imul hx hb dX5_placeOf_27 (lv_tope (pk_mul 6 (21 * u + (σ 7 u - 1))) ?_)
    refine lv_istore (lv' := [(4, .int (nI (6 * (21 * u + (σ 7 u - 1))))), (3, .int (nI (21 * u + (σ 7 u - 1)))), (2, .int (nI 4294967295)), (0, .ref (ad 0)), (1, .int (nI u))]) hx hb dX5_placeOf_28 hl (by decide) rfl (fun ls hl => ?_)
    have h3r := h3 (21 * u + (σ 7 u - 1)) (by omega)
    refine m_loop (σ 3 (21 * u + (σ 7 u - 1))) (fun n H locs ls => rW G ad (mA M sz) s.heap M σ H locs ∧ lv_has ls 5 [(4, .int (nI (6 * (21 * u + (σ 7 u - 1)) + n))), (2, .int (nI (plF σ (6 * (21 * u + (σ 7 u - 1))) n))), (3, .int (nI (21 * u + (σ 7 u - 1)))), (0, .ref (ad 0)), (1, .int (nI u))]) 0 (by omega) ⟨hW, lv_sub hl [0, 2, 1, 3, 4] rfl⟩ (fun n H locs ls hn hI ih => ?_)
    obtain ⟨hW, hl⟩ := hI
    have h45n := fun h => h45 (6 * (21 * u + (σ 7 u - 1)) + n) h
    refine lv_iload hx hb dX5_placeOf_30 (lv_at hl 0 rfl) ?_
    refine lv_bipush (v := nI 6) hx hb dX5_placeOf_32 (by decide) ?_
    refine lv_iload_n hx hb dX5_placeOf_34 rfl (lv_at hl 2 rfl) ?_
    refine lv_imul hx hb dX5_placeOf_35 (lv_tope (pk_mul 6 (21 * u + (σ 7 u - 1))) ?_)
    refine lv_aload_n hx hb dX5_placeOf_36 rfl (lv_at hl 3 rfl) ?_
    refine rr_geta hx hb hts hinX5 hown hK hW 3 (by decide) rfl rfl (hts (.fieldLink RX5 16 "SeaPostModel" "callMany" "[I") (by decide +kernel)) dX5_placeOf_37 ?_
    refine lv_iload_n hx hb dX5_placeOf_40 rfl (lv_at hl 2 rfl) ?_
    refine rr_ald (j := 21 * u + (σ 7 u - 1)) hx hb hK hW 3 rfl rfl (show 21 * u + (σ 7 u - 1) < 168 by omega) dX5_placeOf_41 ?_
    refine lv_iadd hx hb dX5_placeOf_42 (lv_tope (nI_add (6 * (21 * u + (σ 7 u - 1))) (σ 3 (21 * u + (σ 7 u - 1)))) ?_)
    refine nv_icmp_ge (u := 6 * (21 * u + (σ 7 u - 1)) + n) (v := (6 * (21 * u + (σ 7 u - 1))) + (σ 3 (21 * u + (σ 7 u - 1)))) (tgt := 92) hx hb dX5_placeOf_43 (by decide) (by omega) (by omega) (fun c_2 => ?_) (fun c_2 => ?_)
    · skip
      refine lv_iload_n hx hb dX5_placeOf_92 rfl (lv_at hl 1 rfl) ?_
      exact rr_iret hx hb hr hlk (Nat.le_refl 0) (Nat.le_refl 0) hW ⟨by unfold plS; rw [if_pos (by omega), show n = σ 3 (21 * u + (σ 7 u - 1)) by omega], rfl⟩ dX5_placeOf_93
    · skip
      refine lv_aload_n hx hb dX5_placeOf_46 rfl (lv_at hl 3 rfl) ?_
      refine rr_geta hx hb hts hinX5 hown hK hW 5 (by decide) rfl rfl (hts (.fieldLink RX5 22 "SeaPostModel" "arrival" "[I") (by decide +kernel)) dX5_placeOf_47 ?_
      refine lv_iload hx hb dX5_placeOf_50 (lv_at hl 0 rfl) ?_
      refine rr_ald (j := 6 * (21 * u + (σ 7 u - 1)) + n) hx hb hK hW 5 rfl rfl (show 6 * (21 * u + (σ 7 u - 1)) + n < 1008 by omega) dX5_placeOf_52 ?_
      refine lv_aload_n hx hb dX5_placeOf_53 rfl (lv_at hl 3 rfl) ?_
      refine rr_geti hx hb hts hinX5 hown hK hW 24 (by decide) rfl rfl (hts (.fieldLink RX5 92 "SeaPostModel" "today" "I") (by decide +kernel)) dX5_placeOf_54 ?_
      refine nv_icmp_gt (u := σ 5 (6 * (21 * u + (σ 7 u - 1)) + n)) (v := σ 24 0) (tgt := 84) hx hb dX5_placeOf_57 (by decide) (by omega) (by omega) (fun c_3 => ?_) (fun c_3 => ?_)
      · skip
        refine lv_iload_n hx hb dX5_placeOf_84 rfl (lv_at hl 1 rfl) ?_
        refine lv_tope (y := nI (plF σ (6 * (21 * u + (σ 7 u - 1))) (n + 1))) (congrArg nI (show plF σ (6 * (21 * u + (σ 7 u - 1))) n = plF σ (6 * (21 * u + (σ 7 u - 1))) (n + 1) by show _ = (if _ then _ else _); first | (rw [if_pos (by omega)]) | (rw [if_neg (by omega)]))) ?_
        refine lv_istore_n (lv' := [(2, .int (nI (plF σ (6 * (21 * u + (σ 7 u - 1))) (n + 1)))), (4, .int (nI (6 * (21 * u + (σ 7 u - 1)) + n))), (3, .int (nI (21 * u + (σ 7 u - 1)))), (0, .ref (ad 0)), (1, .int (nI u))]) hx hb dX5_placeOf_85 rfl hl (by decide) rfl (fun ls hl => ?_)
        refine lv_iinc (v := nI (6 * (21 * u + (σ 7 u - 1)) + n + 1)) (lv' := [(4, .int (nI (6 * (21 * u + (σ 7 u - 1)) + n + 1))), (2, .int (nI (plF σ (6 * (21 * u + (σ 7 u - 1))) (n + 1)))), (3, .int (nI (21 * u + (σ 7 u - 1)))), (0, .ref (ad 0)), (1, .int (nI u))]) hx hb dX5_placeOf_86 hl (k := 1) rfl (by rw [show (Int32.ofInt 1) = nI 1 by decide, nI_add]) (by decide) rfl (fun ls hl => ?_)
        refine lv_goto (tgt := 30) hx hb dX5_placeOf_89 (by decide) ?_
        exact ih _ _ _ (by omega) ⟨hW, lv_sub hl [0, 1, 2, 3, 4] rfl⟩
      · skip
        refine lv_aload_n hx hb dX5_placeOf_60 rfl (lv_at hl 3 rfl) ?_
        refine rr_geti hx hb hts hinX5 hown hK hW 24 (by decide) rfl rfl (hts (.fieldLink RX5 92 "SeaPostModel" "today" "I") (by decide +kernel)) dX5_placeOf_61 ?_
        refine lv_aload_n hx hb dX5_placeOf_64 rfl (lv_at hl 3 rfl) ?_
        refine rr_geta hx hb hts hinX5 hown hK hW 6 (by decide) rfl rfl (hts (.fieldLink RX5 25 "SeaPostModel" "leaving" "[I") (by decide +kernel)) dX5_placeOf_65 ?_
        refine lv_iload hx hb dX5_placeOf_68 (lv_at hl 0 rfl) ?_
        refine rr_ald (j := 6 * (21 * u + (σ 7 u - 1)) + n) hx hb hK hW 6 rfl rfl (show 6 * (21 * u + (σ 7 u - 1)) + n < 1008 by omega) dX5_placeOf_70 ?_
        refine nv_icmp_gt (u := σ 24 0) (v := σ 6 (6 * (21 * u + (σ 7 u - 1)) + n)) (tgt := 84) hx hb dX5_placeOf_71 (by decide) (by omega) (by omega) (fun c_4 => ?_) (fun c_4 => ?_)
        · skip
          refine lv_iload_n hx hb dX5_placeOf_84 rfl (lv_at hl 1 rfl) ?_
          refine lv_tope (y := nI (plF σ (6 * (21 * u + (σ 7 u - 1))) (n + 1))) (congrArg nI (show plF σ (6 * (21 * u + (σ 7 u - 1))) n = plF σ (6 * (21 * u + (σ 7 u - 1))) (n + 1) by show _ = (if _ then _ else _); first | (rw [if_pos (by omega)]) | (rw [if_neg (by omega)]))) ?_
          refine lv_istore_n (lv' := [(2, .int (nI (plF σ (6 * (21 * u + (σ 7 u - 1))) (n + 1)))), (4, .int (nI (6 * (21 * u + (σ 7 u - 1)) + n))), (3, .int (nI (21 * u + (σ 7 u - 1)))), (0, .ref (ad 0)), (1, .int (nI u))]) hx hb dX5_placeOf_85 rfl hl (by decide) rfl (fun ls hl => ?_)
          refine lv_iinc (v := nI (6 * (21 * u + (σ 7 u - 1)) + n + 1)) (lv' := [(4, .int (nI (6 * (21 * u + (σ 7 u - 1)) + n + 1))), (2, .int (nI (plF σ (6 * (21 * u + (σ 7 u - 1))) (n + 1)))), (3, .int (nI (21 * u + (σ 7 u - 1)))), (0, .ref (ad 0)), (1, .int (nI u))]) hx hb dX5_placeOf_86 hl (k := 1) rfl (by rw [show (Int32.ofInt 1) = nI 1 by decide, nI_add]) (by decide) rfl (fun ls hl => ?_)
          refine lv_goto (tgt := 30) hx hb dX5_placeOf_89 (by decide) ?_
          exact ih _ _ _ (by omega) ⟨hW, lv_sub hl [0, 1, 2, 3, 4] rfl⟩
        · skip
          refine lv_aload_n hx hb dX5_placeOf_74 rfl (lv_at hl 3 rfl) ?_
          refine rr_geta hx hb hts hinX5 hown hK hW 4 (by decide) rfl rfl (hts (.fieldLink RX5 19 "SeaPostModel" "callPort" "[I") (by decide +kernel)) dX5_placeOf_75 ?_
          refine lv_iload hx hb dX5_placeOf_78 (lv_at hl 0 rfl) ?_
          refine rr_ald (j := 6 * (21 * u + (σ 7 u - 1)) + n) hx hb hK hW 4 rfl rfl (show 6 * (21 * u + (σ 7 u - 1)) + n < 1008 by omega) dX5_placeOf_80 ?_
          refine lv_goto (tgt := 85) hx hb dX5_placeOf_81 (by decide) ?_
          refine lv_tope (y := nI (plF σ (6 * (21 * u + (σ 7 u - 1))) (n + 1))) (congrArg nI (show σ 4 (6 * (21 * u + (σ 7 u - 1)) + n) = plF σ (6 * (21 * u + (σ 7 u - 1))) (n + 1) by show _ = (if _ then _ else _); first | (rw [if_pos (by omega)]) | (rw [if_neg (by omega)]))) ?_
          refine lv_istore_n (lv' := [(2, .int (nI (plF σ (6 * (21 * u + (σ 7 u - 1))) (n + 1)))), (4, .int (nI (6 * (21 * u + (σ 7 u - 1)) + n))), (3, .int (nI (21 * u + (σ 7 u - 1)))), (0, .ref (ad 0)), (1, .int (nI u))]) hx hb dX5_placeOf_85 rfl hl (by decide) rfl (fun ls hl => ?_)
          refine lv_iinc (v := nI (6 * (21 * u + (σ 7 u - 1)) + n + 1)) (lv' := [(4, .int (nI (6 * (21 * u + (σ 7 u - 1)) + n + 1))), (2, .int (nI (plF σ (6 * (21 * u + (σ 7 u - 1))) (n + 1)))), (3, .int (nI (21 * u + (σ 7 u - 1)))), (0, .ref (ad 0)), (1, .int (nI u))]) hx hb dX5_placeOf_86 hl (k := 1) rfl (by rw [show (Int32.ofInt 1) = nI 1 by decide, nI_add]) (by decide) rfl (fun ls hl => ?_)
          refine lv_goto (tgt := 30) hx hb dX5_placeOf_89 (by decide) ?_
          exact ih _ _ _ (by omega) ⟨hW, lv_sub hl [0, 1, 2, 3, 4] rfl⟩

set_option maxHeartbeats 4000000 in
set_option maxRecDepth 100000 in
theorem c5_shipAt (l : Launch) (G : mG) (ad : Nat → Nat) (σ : Sg) (u : Nat) (hu : u < 4294967296) (h0 : σ 0 0 ≤ 8) (h7 : ∀ s, s < 8 → σ 7 s ≤ 20) (h3 : ∀ r, r < 168 → σ 3 r ≤ 6) (h45 : ∀ k, k < 1008 → σ 4 k ≤ 9 ∧ σ 5 k ≤ 1000 ∧ σ 6 k ≤ 1030) (hd : σ 24 0 ≤ 1000) : cRi l yX5_shipAt wsX5_shipAt 2 G ad σ [.int (nI u)] (rPost (thS σ u) (plS (st σ 25 0 0) u) (st σ 25 0 0) σ) := by
  intro M sz hR
  refine m_start cX5_shipAt 2 (some .int) (by decide) rfl (Nat.le_of_ble_eq_true rfl) ?_
  intro p e s m below meth c ls hx hb hr hml hown hlk hnm hts hK hsz hE hW hl
  have hA := mA_A (M := M) hsz
  have hl : lv_has ls 2 [(0, .ref (ad 0)), (1, .int (nI u))] := hl
  have hW := rW_start hR hW
  have hinX5 : ∀ w ∈ u_ws RX5 TX5 26, w ∈ wsX5_shipAt := (fun _ h => List.mem_cons_of_mem _ (List.mem_append_right _ h))
  refine lv_aload_n hx hb dX5_shipAt_0 rfl (lv_at hl 0 rfl) ?_
  refine lv_aload_n hx hb dX5_shipAt_1 rfl (lv_at hl 0 rfl) ?_
  refine lv_iload_n hx hb dX5_shipAt_2 rfl (lv_at hl 1 rfl) ?_
  refine rk_Vi (As := [.int (nI u)]) (nL := 2) ⟨hx, hb, hml, hown, hts⟩ (c5_isShip l G ad σ u hu h0) (cwV 1 hts gX5_shipAt_X5_isShip rfl rfl rfl (by decide +kernel) ⟨(Nat.le_of_ble_eq_true rfl), (Nat.le_of_ble_eq_true rfl)⟩) hK hE hW hA rfl hl.1 rfl (Nat.le_of_ble_eq_true rfl) dX5_shipAt_3 (Nat.zero_le _) (Nat.zero_le _) (fun r9 σ9 H locs hp_1 hW => ?_)
  obtain ⟨e91, e92⟩ := hp_1
  subst e91
  rw [e92] at hW
  clear e92
  refine nb_if_eq (tgt := 13) hx hb dX5_shipAt_6 (by decide) (fun c_2 => ?_) (fun c_2 => ?_)
  · skip
    refine lv_iconst (v := nI 1) hx hb dX5_shipAt_13 (by decide) ?_
    refine rr_puti (v := 1) hx hb hts hinX5 hown hK hW 25 (by decide) rfl rfl (hts (.fieldLink RX5 70 "SeaPostModel" "thrown" "I") (by decide +kernel)) rfl (by decide +kernel) dX5_shipAt_14 (fun H locs hW => ?_)
    obtain ⟨σ_3, eσ_3⟩ : ∃ z : Sg, z = st σ 25 0 1 := ⟨_, rfl⟩
    rw [← eσ_3] at hW
    refine lv_aload_n hx hb dX5_shipAt_17 rfl (lv_at hl 0 rfl) ?_
    refine rr_geti hx hb hts hinX5 hown hK hW 25 (by decide) rfl rfl (hts (.fieldLink RX5 70 "SeaPostModel" "thrown" "I") (by decide +kernel)) dX5_shipAt_18 ?_
    refine lv_tope (congrArg nI (show σ_3 25 0 = 1 by rw [eσ_3, st_s])) ?_
    refine lv_if_ne (tgt := 32) hx hb dX5_shipAt_21 (by decide) (fun _ => ?_) (fun z => absurd z (by decide))
    refine lv_iconst (v := nI 0) hx hb dX5_shipAt_32 (by decide) ?_
    exact rr_iret hx hb hr hlk (Nat.le_refl 0) (Nat.le_refl 0) hW (rP_x (show thS σ u = 1 from by unfold thS; (repeat' split) <;> first | rfl | omega) (by decide) (by subst eσ_3; first | rfl | (simp only [st]; done))) dX5_shipAt_33
  · skip
    refine lv_iconst (v := nI 0) hx hb dX5_shipAt_9 (by decide) ?_
    refine lv_goto (tgt := 14) hx hb dX5_shipAt_10 (by decide) ?_
    refine rr_puti (v := 0) hx hb hts hinX5 hown hK hW 25 (by decide) rfl rfl (hts (.fieldLink RX5 70 "SeaPostModel" "thrown" "I") (by decide +kernel)) rfl (by decide +kernel) dX5_shipAt_14 (fun H locs hW => ?_)
    obtain ⟨σ_4, eσ_4⟩ : ∃ z : Sg, z = st σ 25 0 0 := ⟨_, rfl⟩
    rw [← eσ_4] at hW
    refine lv_aload_n hx hb dX5_shipAt_17 rfl (lv_at hl 0 rfl) ?_
    refine rr_geti hx hb hts hinX5 hown hK hW 25 (by decide) rfl rfl (hts (.fieldLink RX5 70 "SeaPostModel" "thrown" "I") (by decide +kernel)) dX5_shipAt_18 ?_
    refine lv_tope (congrArg nI (show σ_4 25 0 = 0 by rw [eσ_4, st_s])) ?_
    refine lv_if_ne (tgt := 32) hx hb dX5_shipAt_21 (by decide) (fun z => absurd (by decide) z) (fun _ => ?_)
    refine lv_aload_n hx hb dX5_shipAt_24 rfl (lv_at hl 0 rfl) ?_
    refine lv_iload_n hx hb dX5_shipAt_25 rfl (lv_at hl 1 rfl) ?_
    refine rk_Vi (As := [.int (nI u)]) (nL := 2) ⟨hx, hb, hml, hown, hts⟩ (c5_placeOf l G ad σ_4 u (by omega) (by subst eσ_4; exact h7 u (by omega)) (by subst eσ_4; exact h3) (by subst eσ_4; exact h45) (by subst eσ_4; exact hd)) (cwV 1 hts gX5_shipAt_X5_placeOf rfl rfl rfl (by decide +kernel) ⟨(Nat.le_of_ble_eq_true rfl), (Nat.le_of_ble_eq_true rfl)⟩) hK hE hW hA rfl hl.1 rfl (Nat.le_of_ble_eq_true rfl) dX5_shipAt_26 (Nat.zero_le _) (Nat.zero_le _) (fun r9 σ9 H locs hp_5 hW => ?_)
    obtain ⟨e91, e92⟩ := hp_5
    subst e91
    rw [e92] at hW
    clear e92
    refine lv_goto (tgt := 33) hx hb dX5_shipAt_29 (by decide) ?_
    exact rr_iret hx hb hr hlk (Nat.le_refl 0) (Nat.le_refl 0) hW (rP_0 (show thS σ u = 0 from by unfold thS; (repeat' split) <;> first | rfl | omega) (by subst eσ_4; rfl) (by subst eσ_4; rfl)) dX5_shipAt_33

set_option maxHeartbeats 4000000 in
set_option maxRecDepth 100000 in
theorem c5_routes (l : Launch) (G : mG) (ad : Nat → Nat) (σ : Sg) (u : Nat) (hu : u < 4294967296) (h0 : σ 0 0 ≤ 8)  : cRi l yX5_routes wsX5_routes 2 G ad σ [.int (nI u)] (rPost (thS σ u) (σ 7 u) (st σ 25 0 0) σ) := by
  intro M sz hR
  refine m_start cX5_routes 2 (some .int) (by decide) rfl (Nat.le_of_ble_eq_true rfl) ?_
  intro p e s m below meth c ls hx hb hr hml hown hlk hnm hts hK hsz hE hW hl
  have hA := mA_A (M := M) hsz
  have hl : lv_has ls 2 [(0, .ref (ad 0)), (1, .int (nI u))] := hl
  have hW := rW_start hR hW
  have hinX5 : ∀ w ∈ u_ws RX5 TX5 26, w ∈ wsX5_routes := (fun _ h => List.mem_cons_of_mem _ (List.mem_append_right _ h))
  refine lv_aload_n hx hb dX5_routes_0 rfl (lv_at hl 0 rfl) ?_
  refine lv_aload_n hx hb dX5_routes_1 rfl (lv_at hl 0 rfl) ?_
  refine lv_iload_n hx hb dX5_routes_2 rfl (lv_at hl 1 rfl) ?_
  refine rk_Vi (As := [.int (nI u)]) (nL := 2) ⟨hx, hb, hml, hown, hts⟩ (c5_isShip l G ad σ u hu h0) (cwV 1 hts gX5_routes_X5_isShip rfl rfl rfl (by decide +kernel) ⟨(Nat.le_of_ble_eq_true rfl), (Nat.le_of_ble_eq_true rfl)⟩) hK hE hW hA rfl hl.1 rfl (Nat.le_of_ble_eq_true rfl) dX5_routes_3 (Nat.zero_le _) (Nat.zero_le _) (fun r9 σ9 H locs hp_1 hW => ?_)
  obtain ⟨e91, e92⟩ := hp_1
  subst e91
  rw [e92] at hW
  clear e92
  refine nb_if_eq (tgt := 13) hx hb dX5_routes_6 (by decide) (fun c_2 => ?_) (fun c_2 => ?_)
  · skip
    refine lv_iconst (v := nI 1) hx hb dX5_routes_13 (by decide) ?_
    refine rr_puti (v := 1) hx hb hts hinX5 hown hK hW 25 (by decide) rfl rfl (hts (.fieldLink RX5 70 "SeaPostModel" "thrown" "I") (by decide +kernel)) rfl (by decide +kernel) dX5_routes_14 (fun H locs hW => ?_)
    obtain ⟨σ_3, eσ_3⟩ : ∃ z : Sg, z = st σ 25 0 1 := ⟨_, rfl⟩
    rw [← eσ_3] at hW
    refine lv_aload_n hx hb dX5_routes_17 rfl (lv_at hl 0 rfl) ?_
    refine rr_geti hx hb hts hinX5 hown hK hW 25 (by decide) rfl rfl (hts (.fieldLink RX5 70 "SeaPostModel" "thrown" "I") (by decide +kernel)) dX5_routes_18 ?_
    refine lv_tope (congrArg nI (show σ_3 25 0 = 1 by rw [eσ_3, st_s])) ?_
    refine lv_if_ne (tgt := 33) hx hb dX5_routes_21 (by decide) (fun _ => ?_) (fun z => absurd z (by decide))
    refine lv_iconst (v := nI 0) hx hb dX5_routes_33 (by decide) ?_
    exact rr_iret hx hb hr hlk (Nat.le_refl 0) (Nat.le_refl 0) hW (rP_x (show thS σ u = 1 from by unfold thS; (repeat' split) <;> first | rfl | omega) (by decide) (by subst eσ_3; first | rfl | (simp only [st]; done))) dX5_routes_34
  · skip
    refine lv_iconst (v := nI 0) hx hb dX5_routes_9 (by decide) ?_
    refine lv_goto (tgt := 14) hx hb dX5_routes_10 (by decide) ?_
    refine rr_puti (v := 0) hx hb hts hinX5 hown hK hW 25 (by decide) rfl rfl (hts (.fieldLink RX5 70 "SeaPostModel" "thrown" "I") (by decide +kernel)) rfl (by decide +kernel) dX5_routes_14 (fun H locs hW => ?_)
    obtain ⟨σ_4, eσ_4⟩ : ∃ z : Sg, z = st σ 25 0 0 := ⟨_, rfl⟩
    rw [← eσ_4] at hW
    refine lv_aload_n hx hb dX5_routes_17 rfl (lv_at hl 0 rfl) ?_
    refine rr_geti hx hb hts hinX5 hown hK hW 25 (by decide) rfl rfl (hts (.fieldLink RX5 70 "SeaPostModel" "thrown" "I") (by decide +kernel)) dX5_routes_18 ?_
    refine lv_tope (congrArg nI (show σ_4 25 0 = 0 by rw [eσ_4, st_s])) ?_
    refine lv_if_ne (tgt := 33) hx hb dX5_routes_21 (by decide) (fun z => absurd (by decide) z) (fun _ => ?_)
    refine lv_aload_n hx hb dX5_routes_24 rfl (lv_at hl 0 rfl) ?_
    refine rr_geta hx hb hts hinX5 hown hK hW 7 (by decide) rfl rfl (hts (.fieldLink RX5 28 "SeaPostModel" "routeMany" "[I") (by decide +kernel)) dX5_routes_25 ?_
    refine lv_iload_n hx hb dX5_routes_28 rfl (lv_at hl 1 rfl) ?_
    refine rr_ald (j := u) hx hb hK hW 7 rfl rfl (show u < 8 by omega) dX5_routes_29 ?_
    refine lv_tope (congrArg nI (show σ_4 7 u = σ 7 u by rw [eσ_4, st_f (by decide)])) ?_
    refine lv_goto (tgt := 34) hx hb dX5_routes_30 (by decide) ?_
    exact rr_iret hx hb hr hlk (Nat.le_refl 0) (Nat.le_refl 0) hW (rP_0 (show thS σ u = 0 from by unfold thS; (repeat' split) <;> first | rfl | omega) (rfl) (by subst eσ_4; rfl)) dX5_routes_34

set_option maxHeartbeats 4000000 in
set_option maxRecDepth 100000 in
theorem c5_wordOf (l : Launch) (G : mG) (ad : Nat → Nat) (σ : Sg) (q : Nat) (u : Nat) (hq : q < 10) (hu : u < 8) (h7 : ∀ s, s < 8 → σ 7 s ≤ 20) (h12 : ∀ r, r < 168 → σ 1 r ≤ 9 ∧ σ 2 r ≤ 1000) (hd : σ 24 0 ≤ 1000) : cRi l yX5_wordOf wsX5_wordOf 1 G ad σ [.int (nI q), .int (nI u)] (fun r σ9 => r = nI (woS σ q u) ∧ σ9 = σ) := by
  intro M sz hR
  refine m_start cX5_wordOf 7 (some .int) (by decide) rfl (Nat.le_of_ble_eq_true rfl) ?_
  intro p e s m below meth c ls hx hb hr hml hown hlk hnm hts hK hsz hE hW hl
  have hA := mA_A (M := M) hsz
  have hl : lv_has ls 7 [(0, .ref (ad 0)), (1, .int (nI q)), (2, .int (nI u))] := hl
  have hW := rW_start hR hW
  have hinX5 : ∀ w ∈ u_ws RX5 TX5 26, w ∈ wsX5_wordOf := (fun _ h => List.mem_cons_of_mem _ (List.mem_append_right _ h))
  refine lv_iconst (v := nI 4294967295) hx hb dX5_wordOf_0 (by decide) ?_
  refine lv_istore_n (lv' := [(3, .int (nI 4294967295)), (0, .ref (ad 0)), (1, .int (nI q)), (2, .int (nI u))]) hx hb dX5_wordOf_1 rfl hl (by decide) rfl (fun ls hl => ?_)
  refine lv_iconst (v := nI 0) hx hb dX5_wordOf_2 (by decide) ?_
  refine lv_istore (lv' := [(4, .int (nI 0)), (3, .int (nI 4294967295)), (0, .ref (ad 0)), (1, .int (nI q)), (2, .int (nI u))]) hx hb dX5_wordOf_3 hl (by decide) rfl (fun ls hl => ?_)
  have h7u := h7 u hu
  refine m_loop (σ 7 u) (fun n H locs ls => rW G ad (mA M sz) s.heap M σ H locs ∧ lv_has ls 7 [(4, .int (nI n)), (3, .int (nI (woF σ q u n))), (0, .ref (ad 0)), (1, .int (nI q)), (2, .int (nI u))]) 0 (by omega) ⟨hW, lv_sub hl [0, 1, 2, 3, 4] rfl⟩ (fun n H locs ls hn hI ih => ?_)
  obtain ⟨hW, hl⟩ := hI
  have h12n := fun h => h12 (21 * u + n) h
  have hds : dist (σ 1 (21 * u + n)) q ≤ σ 1 (21 * u + n) + q := by unfold dist; split <;> omega
  refine lv_iload hx hb dX5_wordOf_5 (lv_at hl 0 rfl) ?_
  refine lv_aload_n hx hb dX5_wordOf_7 rfl (lv_at hl 2 rfl) ?_
  refine rr_geta hx hb hts hinX5 hown hK hW 7 (by decide) rfl rfl (hts (.fieldLink RX5 28 "SeaPostModel" "routeMany" "[I") (by decide +kernel)) dX5_wordOf_8 ?_
  refine lv_iload_n hx hb dX5_wordOf_11 rfl (lv_at hl 4 rfl) ?_
  refine rr_ald (j := u) hx hb hK hW 7 rfl rfl (show u < 8 by omega) dX5_wordOf_12 ?_
  refine nv_icmp_ge (u := n) (v := σ 7 u) (tgt := 86) hx hb dX5_wordOf_13 (by decide) (by omega) (by omega) (fun c_1 => ?_) (fun c_1 => ?_)
  · skip
    refine lv_iload_n hx hb dX5_wordOf_86 rfl (lv_at hl 1 rfl) ?_
    exact rr_iret hx hb hr hlk (Nat.le_refl 0) (Nat.le_refl 0) hW ⟨by unfold woS; rw [show n = σ 7 u by omega], rfl⟩ dX5_wordOf_87
  · skip
    refine lv_iload_n hx hb dX5_wordOf_16 rfl (lv_at hl 4 rfl) ?_
    refine lv_iload hx hb dX5_wordOf_17 (lv_at hl 0 rfl) ?_
    refine rk_S (As := [.int (nI u), .int (nI n)]) (nL := 7) ⟨hx, hb, hml, hown, hts⟩ (c5_rowOf l u n) (va_cwS 2 hts gX5_wordOf_X5_rowOf rfl rfl rfl (by decide +kernel) ⟨(Nat.le_of_ble_eq_true rfl), (Nat.le_of_ble_eq_true rfl)⟩) hK hE hW hA rfl hl.1 rfl (Nat.le_of_ble_eq_true rfl) dX5_wordOf_19 (Nat.zero_le _) (Nat.zero_le _) (fun H locs hW => ?_)
    refine lv_istore (lv' := [(5, .int (nI (21 * u + n))), (4, .int (nI n)), (3, .int (nI (woF σ q u n))), (0, .ref (ad 0)), (1, .int (nI q)), (2, .int (nI u))]) hx hb dX5_wordOf_22 hl (by decide) rfl (fun ls hl => ?_)
    refine lv_aload_n hx hb dX5_wordOf_24 rfl (lv_at hl 3 rfl) ?_
    refine rr_geta hx hb hts hinX5 hown hK hW 1 (by decide) rfl rfl (hts (.fieldLink RX5 7 "SeaPostModel" "toldAt" "[I") (by decide +kernel)) dX5_wordOf_25 ?_
    refine lv_iload hx hb dX5_wordOf_28 (lv_at hl 0 rfl) ?_
    refine rr_ald (j := 21 * u + n) hx hb hK hW 1 rfl rfl (show 21 * u + n < 168 by omega) dX5_wordOf_30 ?_
    refine lv_iload_n hx hb dX5_wordOf_31 rfl (lv_at hl 4 rfl) ?_
    refine nv_icmp_ne (u := σ 1 (21 * u + n)) (v := q) (tgt := 39) hx hb dX5_wordOf_32 (by decide) (by omega) (by omega) (fun c_2 => ?_) (fun c_2 => ?_)
    · skip
      refine lv_aload_n hx hb dX5_wordOf_39 rfl (lv_at hl 3 rfl) ?_
      refine rr_geta hx hb hts hinX5 hown hK hW 1 (by decide) rfl rfl (hts (.fieldLink RX5 7 "SeaPostModel" "toldAt" "[I") (by decide +kernel)) dX5_wordOf_40 ?_
      refine lv_iload hx hb dX5_wordOf_43 (lv_at hl 0 rfl) ?_
      refine rr_ald (j := 21 * u + n) hx hb hK hW 1 rfl rfl (show 21 * u + n < 168 by omega) dX5_wordOf_45 ?_
      refine lv_iload_n hx hb dX5_wordOf_46 rfl (lv_at hl 4 rfl) ?_
      refine rk_S (As := [.int (nI (σ 1 (21 * u + n))), .int (nI q)]) (nL := 7) ⟨hx, hb, hml, hown, hts⟩ (c5_apart l (σ 1 (21 * u + n)) q (by omega) (by omega)) (va_cwS 2 hts gX5_wordOf_X5_apart rfl rfl rfl (by decide +kernel) ⟨(Nat.le_of_ble_eq_true rfl), (Nat.le_of_ble_eq_true rfl)⟩) hK hE hW hA rfl hl.1 rfl (Nat.le_of_ble_eq_true rfl) dX5_wordOf_47 (Nat.zero_le _) (Nat.zero_le _) (fun H locs hW => ?_)
      refine lv_iconst (v := nI 2) hx hb dX5_wordOf_50 (by decide) ?_
      refine lv_iadd hx hb dX5_wordOf_51 (lv_tope (nI_add (dist (σ 1 (21 * u + n)) q) 2) ?_)
      refine lv_iconst (v := nI 3) hx hb dX5_wordOf_52 (by decide) ?_
      refine lv_idiv hx hb dX5_wordOf_53 (nI_ne0 (by omega) (by omega)) (lv_tope (pk_div (a := dist (σ 1 (21 * u + n)) q + 2) (d := 3) (by omega) (by omega) (by omega)) ?_)
      refine lv_tope (y := nI (wdd (σ 1 (21 * u + n)) q)) (congrArg nI (show (dist (σ 1 (21 * u + n)) q + 2) / 3 = wdd (σ 1 (21 * u + n)) q by unfold wdd; first | (rw [if_pos (by omega)]) | (rw [if_neg (by omega)]))) ?_
      have hwd : wdd (σ 1 (21 * u + n)) q ≤ 100 := by unfold wdd; split <;> omega
      refine lv_istore (lv' := [(6, .int (nI (wdd (σ 1 (21 * u + n)) q))), (5, .int (nI (21 * u + n))), (4, .int (nI n)), (3, .int (nI (woF σ q u n))), (0, .ref (ad 0)), (1, .int (nI q)), (2, .int (nI u))]) hx hb dX5_wordOf_54 hl (by decide) rfl (fun ls hl => ?_)
      refine lv_aload_n hx hb dX5_wordOf_56 rfl (lv_at hl 4 rfl) ?_
      refine rr_geta hx hb hts hinX5 hown hK hW 2 (by decide) rfl rfl (hts (.fieldLink RX5 13 "SeaPostModel" "toldOn" "[I") (by decide +kernel)) dX5_wordOf_57 ?_
      refine lv_iload hx hb dX5_wordOf_60 (lv_at hl 1 rfl) ?_
      refine rr_ald (j := 21 * u + n) hx hb hK hW 2 rfl rfl (show 21 * u + n < 168 by omega) dX5_wordOf_62 ?_
      refine lv_iload hx hb dX5_wordOf_63 (lv_at hl 0 rfl) ?_
      refine lv_iadd hx hb dX5_wordOf_65 (lv_tope (nI_add (σ 2 (21 * u + n)) (wdd (σ 1 (21 * u + n)) q)) ?_)
      refine lv_aload_n hx hb dX5_wordOf_66 rfl (lv_at hl 4 rfl) ?_
      refine rr_geti hx hb hts hinX5 hown hK hW 24 (by decide) rfl rfl (hts (.fieldLink RX5 92 "SeaPostModel" "today" "I") (by decide +kernel)) dX5_wordOf_67 ?_
      refine nv_icmp_gt (u := σ 2 (21 * u + n) + (wdd (σ 1 (21 * u + n)) q)) (v := σ 24 0) (tgt := 78) hx hb dX5_wordOf_70 (by decide) (by omega) (by omega) (fun c_3 => ?_) (fun c_3 => ?_)
      · skip
        refine lv_iload_n hx hb dX5_wordOf_78 rfl (lv_at hl 3 rfl) ?_
        refine lv_tope (y := nI (woF σ q u (n + 1))) (congrArg nI (show woF σ q u n = woF σ q u (n + 1) by show _ = (if _ then _ else _); first | (rw [if_pos (by omega)]) | (rw [if_neg (by omega)]))) ?_
        refine lv_istore_n (lv' := [(3, .int (nI (woF σ q u (n + 1)))), (6, .int (nI (wdd (σ 1 (21 * u + n)) q))), (5, .int (nI (21 * u + n))), (4, .int (nI n)), (0, .ref (ad 0)), (1, .int (nI q)), (2, .int (nI u))]) hx hb dX5_wordOf_79 rfl hl (by decide) rfl (fun ls hl => ?_)
        refine lv_iinc (v := nI (n + 1)) (lv' := [(4, .int (nI (n + 1))), (3, .int (nI (woF σ q u (n + 1)))), (6, .int (nI (wdd (σ 1 (21 * u + n)) q))), (5, .int (nI (21 * u + n))), (0, .ref (ad 0)), (1, .int (nI q)), (2, .int (nI u))]) hx hb dX5_wordOf_80 hl (k := 3) rfl (by rw [show (Int32.ofInt 1) = nI 1 by decide, nI_add]) (by decide) rfl (fun ls hl => ?_)
        refine lv_goto (tgt := 5) hx hb dX5_wordOf_83 (by decide) ?_
        exact ih _ _ _ (by omega) ⟨hW, lv_sub hl [0, 1, 4, 5, 6] rfl⟩
      · skip
        refine lv_iload hx hb dX5_wordOf_73 (lv_at hl 2 rfl) ?_
        refine lv_goto (tgt := 79) hx hb dX5_wordOf_75 (by decide) ?_
        refine lv_tope (y := nI (woF σ q u (n + 1))) (congrArg nI (show n = woF σ q u (n + 1) by show _ = (if _ then _ else _); first | (rw [if_pos (by omega)]) | (rw [if_neg (by omega)]))) ?_
        refine lv_istore_n (lv' := [(3, .int (nI (woF σ q u (n + 1)))), (6, .int (nI (wdd (σ 1 (21 * u + n)) q))), (5, .int (nI (21 * u + n))), (4, .int (nI n)), (0, .ref (ad 0)), (1, .int (nI q)), (2, .int (nI u))]) hx hb dX5_wordOf_79 rfl hl (by decide) rfl (fun ls hl => ?_)
        refine lv_iinc (v := nI (n + 1)) (lv' := [(4, .int (nI (n + 1))), (3, .int (nI (woF σ q u (n + 1)))), (6, .int (nI (wdd (σ 1 (21 * u + n)) q))), (5, .int (nI (21 * u + n))), (0, .ref (ad 0)), (1, .int (nI q)), (2, .int (nI u))]) hx hb dX5_wordOf_80 hl (k := 3) rfl (by rw [show (Int32.ofInt 1) = nI 1 by decide, nI_add]) (by decide) rfl (fun ls hl => ?_)
        refine lv_goto (tgt := 5) hx hb dX5_wordOf_83 (by decide) ?_
        exact ih _ _ _ (by omega) ⟨hW, lv_sub hl [0, 1, 4, 5, 6] rfl⟩
    · skip
      refine lv_iconst (v := nI 0) hx hb dX5_wordOf_35 (by decide) ?_
      refine lv_goto (tgt := 54) hx hb dX5_wordOf_36 (by decide) ?_
      refine lv_tope (y := nI (wdd (σ 1 (21 * u + n)) q)) (congrArg nI (show 0 = wdd (σ 1 (21 * u + n)) q by unfold wdd; first | (rw [if_pos (by omega)]) | (rw [if_neg (by omega)]))) ?_
      have hwd : wdd (σ 1 (21 * u + n)) q ≤ 100 := by unfold wdd; split <;> omega
      refine lv_istore (lv' := [(6, .int (nI (wdd (σ 1 (21 * u + n)) q))), (5, .int (nI (21 * u + n))), (4, .int (nI n)), (3, .int (nI (woF σ q u n))), (0, .ref (ad 0)), (1, .int (nI q)), (2, .int (nI u))]) hx hb dX5_wordOf_54 hl (by decide) rfl (fun ls hl => ?_)
      refine lv_aload_n hx hb dX5_wordOf_56 rfl (lv_at hl 4 rfl) ?_
      refine rr_geta hx hb hts hinX5 hown hK hW 2 (by decide) rfl rfl (hts (.fieldLink RX5 13 "SeaPostModel" "toldOn" "[I") (by decide +kernel)) dX5_wordOf_57 ?_
      refine lv_iload hx hb dX5_wordOf_60 (lv_at hl 1 rfl) ?_
      refine rr_ald (j := 21 * u + n) hx hb hK hW 2 rfl rfl (show 21 * u + n < 168 by omega) dX5_wordOf_62 ?_
      refine lv_iload hx hb dX5_wordOf_63 (lv_at hl 0 rfl) ?_
      refine lv_iadd hx hb dX5_wordOf_65 (lv_tope (nI_add (σ 2 (21 * u + n)) (wdd (σ 1 (21 * u + n)) q)) ?_)
      refine lv_aload_n hx hb dX5_wordOf_66 rfl (lv_at hl 4 rfl) ?_
      refine rr_geti hx hb hts hinX5 hown hK hW 24 (by decide) rfl rfl (hts (.fieldLink RX5 92 "SeaPostModel" "today" "I") (by decide +kernel)) dX5_wordOf_67 ?_
      refine nv_icmp_gt (u := σ 2 (21 * u + n) + (wdd (σ 1 (21 * u + n)) q)) (v := σ 24 0) (tgt := 78) hx hb dX5_wordOf_70 (by decide) (by omega) (by omega) (fun c_4 => ?_) (fun c_4 => ?_)
      · skip
        refine lv_iload_n hx hb dX5_wordOf_78 rfl (lv_at hl 3 rfl) ?_
        refine lv_tope (y := nI (woF σ q u (n + 1))) (congrArg nI (show woF σ q u n = woF σ q u (n + 1) by show _ = (if _ then _ else _); first | (rw [if_pos (by omega)]) | (rw [if_neg (by omega)]))) ?_
        refine lv_istore_n (lv' := [(3, .int (nI (woF σ q u (n + 1)))), (6, .int (nI (wdd (σ 1 (21 * u + n)) q))), (5, .int (nI (21 * u + n))), (4, .int (nI n)), (0, .ref (ad 0)), (1, .int (nI q)), (2, .int (nI u))]) hx hb dX5_wordOf_79 rfl hl (by decide) rfl (fun ls hl => ?_)
        refine lv_iinc (v := nI (n + 1)) (lv' := [(4, .int (nI (n + 1))), (3, .int (nI (woF σ q u (n + 1)))), (6, .int (nI (wdd (σ 1 (21 * u + n)) q))), (5, .int (nI (21 * u + n))), (0, .ref (ad 0)), (1, .int (nI q)), (2, .int (nI u))]) hx hb dX5_wordOf_80 hl (k := 3) rfl (by rw [show (Int32.ofInt 1) = nI 1 by decide, nI_add]) (by decide) rfl (fun ls hl => ?_)
        refine lv_goto (tgt := 5) hx hb dX5_wordOf_83 (by decide) ?_
        exact ih _ _ _ (by omega) ⟨hW, lv_sub hl [0, 1, 4, 5, 6] rfl⟩
      · skip
        refine lv_iload hx hb dX5_wordOf_73 (lv_at hl 2 rfl) ?_
        refine lv_goto (tgt := 79) hx hb dX5_wordOf_75 (by decide) ?_
        refine lv_tope (y := nI (woF σ q u (n + 1))) (congrArg nI (show n = woF σ q u (n + 1) by show _ = (if _ then _ else _); first | (rw [if_pos (by omega)]) | (rw [if_neg (by omega)]))) ?_
        refine lv_istore_n (lv' := [(3, .int (nI (woF σ q u (n + 1)))), (6, .int (nI (wdd (σ 1 (21 * u + n)) q))), (5, .int (nI (21 * u + n))), (4, .int (nI n)), (0, .ref (ad 0)), (1, .int (nI q)), (2, .int (nI u))]) hx hb dX5_wordOf_79 rfl hl (by decide) rfl (fun ls hl => ?_)
        refine lv_iinc (v := nI (n + 1)) (lv' := [(4, .int (nI (n + 1))), (3, .int (nI (woF σ q u (n + 1)))), (6, .int (nI (wdd (σ 1 (21 * u + n)) q))), (5, .int (nI (21 * u + n))), (0, .ref (ad 0)), (1, .int (nI q)), (2, .int (nI u))]) hx hb dX5_wordOf_80 hl (k := 3) rfl (by rw [show (Int32.ofInt 1) = nI 1 by decide, nI_add]) (by decide) rfl (fun ls hl => ?_)
        refine lv_goto (tgt := 5) hx hb dX5_wordOf_83 (by decide) ?_
        exact ih _ _ _ (by omega) ⟨hW, lv_sub hl [0, 1, 4, 5, 6] rfl⟩

set_option maxHeartbeats 4000000 in
set_option maxRecDepth 100000 in
theorem c5_word (l : Launch) (G : mG) (ad : Nat → Nat) (σ : Sg) (q : Nat) (u : Nat) (hp9 : q < 4294967296) (hu : u < 4294967296) (h0 : σ 0 0 ≤ 8) (h7 : ∀ s, s < 8 → σ 7 s ≤ 20) (h12 : ∀ r, r < 168 → σ 1 r ≤ 9 ∧ σ 2 r ≤ 1000) (hd : σ 24 0 ≤ 1000) : cRi l yX5_word wsX5_word 2 G ad σ [.int (nI q), .int (nI u)] (rPost (thW σ q u) (woS (st σ 25 0 0) q u) (st σ 25 0 0) σ) := by
  intro M sz hR
  refine m_start cX5_word 3 (some .int) (by decide) rfl (Nat.le_of_ble_eq_true rfl) ?_
  intro p e s m below meth c ls hx hb hr hml hown hlk hnm hts hK hsz hE hW hl
  have hA := mA_A (M := M) hsz
  have hl : lv_has ls 3 [(0, .ref (ad 0)), (1, .int (nI q)), (2, .int (nI u))] := hl
  have hW := rW_start hR hW
  have hinX5 : ∀ w ∈ u_ws RX5 TX5 26, w ∈ wsX5_word := (fun _ h => List.mem_cons_of_mem _ (List.mem_append_right _ h))
  refine lv_aload_n hx hb dX5_word_0 rfl (lv_at hl 0 rfl) ?_
  refine lv_iload_n hx hb dX5_word_1 rfl (lv_at hl 1 rfl) ?_
  refine rk_S (As := [.int (nI q)]) (nL := 3) ⟨hx, hb, hml, hown, hts⟩ (c5_isPort l q hp9) (va_cwS 1 hts gX5_word_X5_isPort rfl rfl rfl (by decide +kernel) ⟨(Nat.le_of_ble_eq_true rfl), (Nat.le_of_ble_eq_true rfl)⟩) hK hE hW hA rfl hl.1 rfl (Nat.le_of_ble_eq_true rfl) dX5_word_2 (Nat.zero_le _) (Nat.zero_le _) (fun H locs hW => ?_)
  refine nb_if_eq (tgt := 20) hx hb dX5_word_5 (by decide) (fun c_1 => ?_) (fun c_1 => ?_)
  · skip
    refine lv_iconst (v := nI 1) hx hb dX5_word_20 (by decide) ?_
    refine rr_puti (v := 1) hx hb hts hinX5 hown hK hW 25 (by decide) rfl rfl (hts (.fieldLink RX5 70 "SeaPostModel" "thrown" "I") (by decide +kernel)) rfl (by decide +kernel) dX5_word_21 (fun H locs hW => ?_)
    obtain ⟨σ_2, eσ_2⟩ : ∃ z : Sg, z = st σ 25 0 1 := ⟨_, rfl⟩
    rw [← eσ_2] at hW
    refine lv_aload_n hx hb dX5_word_24 rfl (lv_at hl 0 rfl) ?_
    refine rr_geti hx hb hts hinX5 hown hK hW 25 (by decide) rfl rfl (hts (.fieldLink RX5 70 "SeaPostModel" "thrown" "I") (by decide +kernel)) dX5_word_25 ?_
    refine lv_tope (congrArg nI (show σ_2 25 0 = 1 by rw [eσ_2, st_s])) ?_
    refine lv_if_ne (tgt := 40) hx hb dX5_word_28 (by decide) (fun _ => ?_) (fun z => absurd z (by decide))
    refine lv_iconst (v := nI 0) hx hb dX5_word_40 (by decide) ?_
    exact rr_iret hx hb hr hlk (Nat.le_refl 0) (Nat.le_refl 0) hW (rP_x (show thW σ q u = 1 from by unfold thW; (repeat' split) <;> first | rfl | omega) (by decide) (by subst eσ_2; first | rfl | (simp only [st]; done))) dX5_word_41
  · skip
    refine lv_aload_n hx hb dX5_word_8 rfl (lv_at hl 0 rfl) ?_
    refine lv_iload_n hx hb dX5_word_9 rfl (lv_at hl 2 rfl) ?_
    refine rk_Vi (As := [.int (nI u)]) (nL := 3) ⟨hx, hb, hml, hown, hts⟩ (c5_isShip l G ad σ u hu h0) (cwV 1 hts gX5_word_X5_isShip rfl rfl rfl (by decide +kernel) ⟨(Nat.le_of_ble_eq_true rfl), (Nat.le_of_ble_eq_true rfl)⟩) hK hE hW hA rfl hl.1 rfl (Nat.le_of_ble_eq_true rfl) dX5_word_10 (Nat.zero_le _) (Nat.zero_le _) (fun r9 σ9 H locs hp_3 hW => ?_)
    obtain ⟨e91, e92⟩ := hp_3
    subst e91
    rw [e92] at hW
    clear e92
    refine nb_if_eq (tgt := 20) hx hb dX5_word_13 (by decide) (fun c_4 => ?_) (fun c_4 => ?_)
    · skip
      refine lv_iconst (v := nI 1) hx hb dX5_word_20 (by decide) ?_
      refine rr_puti (v := 1) hx hb hts hinX5 hown hK hW 25 (by decide) rfl rfl (hts (.fieldLink RX5 70 "SeaPostModel" "thrown" "I") (by decide +kernel)) rfl (by decide +kernel) dX5_word_21 (fun H locs hW => ?_)
      obtain ⟨σ_5, eσ_5⟩ : ∃ z : Sg, z = st σ 25 0 1 := ⟨_, rfl⟩
      rw [← eσ_5] at hW
      refine lv_aload_n hx hb dX5_word_24 rfl (lv_at hl 0 rfl) ?_
      refine rr_geti hx hb hts hinX5 hown hK hW 25 (by decide) rfl rfl (hts (.fieldLink RX5 70 "SeaPostModel" "thrown" "I") (by decide +kernel)) dX5_word_25 ?_
      refine lv_tope (congrArg nI (show σ_5 25 0 = 1 by rw [eσ_5, st_s])) ?_
      refine lv_if_ne (tgt := 40) hx hb dX5_word_28 (by decide) (fun _ => ?_) (fun z => absurd z (by decide))
      refine lv_iconst (v := nI 0) hx hb dX5_word_40 (by decide) ?_
      exact rr_iret hx hb hr hlk (Nat.le_refl 0) (Nat.le_refl 0) hW (rP_x (show thW σ q u = 1 from by unfold thW; (repeat' split) <;> first | rfl | omega) (by decide) (by subst eσ_5; first | rfl | (simp only [st]; done))) dX5_word_41
    · skip
      refine lv_iconst (v := nI 0) hx hb dX5_word_16 (by decide) ?_
      refine lv_goto (tgt := 21) hx hb dX5_word_17 (by decide) ?_
      refine rr_puti (v := 0) hx hb hts hinX5 hown hK hW 25 (by decide) rfl rfl (hts (.fieldLink RX5 70 "SeaPostModel" "thrown" "I") (by decide +kernel)) rfl (by decide +kernel) dX5_word_21 (fun H locs hW => ?_)
      obtain ⟨σ_6, eσ_6⟩ : ∃ z : Sg, z = st σ 25 0 0 := ⟨_, rfl⟩
      rw [← eσ_6] at hW
      refine lv_aload_n hx hb dX5_word_24 rfl (lv_at hl 0 rfl) ?_
      refine rr_geti hx hb hts hinX5 hown hK hW 25 (by decide) rfl rfl (hts (.fieldLink RX5 70 "SeaPostModel" "thrown" "I") (by decide +kernel)) dX5_word_25 ?_
      refine lv_tope (congrArg nI (show σ_6 25 0 = 0 by rw [eσ_6, st_s])) ?_
      refine lv_if_ne (tgt := 40) hx hb dX5_word_28 (by decide) (fun z => absurd (by decide) z) (fun _ => ?_)
      refine lv_aload_n hx hb dX5_word_31 rfl (lv_at hl 0 rfl) ?_
      refine lv_iload_n hx hb dX5_word_32 rfl (lv_at hl 1 rfl) ?_
      refine lv_iload_n hx hb dX5_word_33 rfl (lv_at hl 2 rfl) ?_
      refine rk_Vi (As := [.int (nI q), .int (nI u)]) (nL := 3) ⟨hx, hb, hml, hown, hts⟩ (c5_wordOf l G ad σ_6 q u (by omega) (by omega) (by subst eσ_6; exact h7) (by subst eσ_6; exact h12) (by subst eσ_6; exact hd)) (cwV 2 hts gX5_word_X5_wordOf rfl rfl rfl (by decide +kernel) ⟨(Nat.le_of_ble_eq_true rfl), (Nat.le_of_ble_eq_true rfl)⟩) hK hE hW hA rfl hl.1 rfl (Nat.le_of_ble_eq_true rfl) dX5_word_34 (Nat.zero_le _) (Nat.zero_le _) (fun r9 σ9 H locs hp_7 hW => ?_)
      obtain ⟨e91, e92⟩ := hp_7
      subst e91
      rw [e92] at hW
      clear e92
      refine lv_goto (tgt := 41) hx hb dX5_word_37 (by decide) ?_
      exact rr_iret hx hb hr hlk (Nat.le_refl 0) (Nat.le_refl 0) hW (rP_0 (show thW σ q u = 0 from by unfold thW; (repeat' split) <;> first | rfl | omega) (by subst eσ_6; rfl) (by subst eσ_6; rfl)) dX5_word_41

set_option maxHeartbeats 4000000 in
set_option maxRecDepth 100000 in
theorem c5_behind (l : Launch) (G : mG) (ad : Nat → Nat) (σ : Sg) (u : Nat) (hu : u < 4294967296) (h0 : σ 0 0 ≤ 8) (h7 : ∀ s, s < 8 → σ 7 s ≤ 20) (h12 : ∀ r, r < 168 → σ 1 r ≤ 9 ∧ σ 2 r ≤ 1000) (hd : σ 24 0 ≤ 1000) : cRi l yX5_behind wsX5_behind 2 G ad σ [.int (nI u)] (rPost (thS σ u) (beF (st σ 25 0 0) u 10) (st σ 25 0 0) σ) := by
  intro M sz hR
  refine m_start cX5_behind 4 (some .int) (by decide) rfl (Nat.le_of_ble_eq_true rfl) ?_
  intro p e s m below meth c ls hx hb hr hml hown hlk hnm hts hK hsz hE hW hl
  have hA := mA_A (M := M) hsz
  have hl : lv_has ls 4 [(0, .ref (ad 0)), (1, .int (nI u))] := hl
  have hW := rW_start hR hW
  have hinX5 : ∀ w ∈ u_ws RX5 TX5 26, w ∈ wsX5_behind := (fun _ h => List.mem_cons_of_mem _ (List.mem_append_right _ h))
  refine lv_aload_n hx hb dX5_behind_0 rfl (lv_at hl 0 rfl) ?_
  refine lv_aload_n hx hb dX5_behind_1 rfl (lv_at hl 0 rfl) ?_
  refine lv_iload_n hx hb dX5_behind_2 rfl (lv_at hl 1 rfl) ?_
  refine rk_Vi (As := [.int (nI u)]) (nL := 4) ⟨hx, hb, hml, hown, hts⟩ (c5_isShip l G ad σ u hu h0) (cwV 1 hts gX5_behind_X5_isShip rfl rfl rfl (by decide +kernel) ⟨(Nat.le_of_ble_eq_true rfl), (Nat.le_of_ble_eq_true rfl)⟩) hK hE hW hA rfl hl.1 rfl (Nat.le_of_ble_eq_true rfl) dX5_behind_3 (Nat.zero_le _) (Nat.zero_le _) (fun r9 σ9 H locs hp_1 hW => ?_)
  obtain ⟨e91, e92⟩ := hp_1
  subst e91
  rw [e92] at hW
  clear e92
  refine nb_if_eq (tgt := 13) hx hb dX5_behind_6 (by decide) (fun c_2 => ?_) (fun c_2 => ?_)
  · skip
    refine lv_iconst (v := nI 1) hx hb dX5_behind_13 (by decide) ?_
    refine rr_puti (v := 1) hx hb hts hinX5 hown hK hW 25 (by decide) rfl rfl (hts (.fieldLink RX5 70 "SeaPostModel" "thrown" "I") (by decide +kernel)) rfl (by decide +kernel) dX5_behind_14 (fun H locs hW => ?_)
    obtain ⟨σ_3, eσ_3⟩ : ∃ z : Sg, z = st σ 25 0 1 := ⟨_, rfl⟩
    rw [← eσ_3] at hW
    refine lv_iconst (v := nI 0) hx hb dX5_behind_17 (by decide) ?_
    refine lv_istore_n (lv' := [(2, .int (nI 0)), (0, .ref (ad 0)), (1, .int (nI u))]) hx hb dX5_behind_18 rfl hl (by decide) rfl (fun ls hl => ?_)
    refine lv_iconst (v := nI 0) hx hb dX5_behind_19 (by decide) ?_
    refine lv_istore_n (lv' := [(3, .int (nI 0)), (2, .int (nI 0)), (0, .ref (ad 0)), (1, .int (nI u))]) hx hb dX5_behind_20 rfl hl (by decide) rfl (fun ls hl => ?_)
    refine lv_iload_n hx hb dX5_behind_21 rfl (lv_at hl 0 rfl) ?_
    refine lv_bipush (v := nI 10) hx hb dX5_behind_22 (by decide) ?_
    refine nv_icmp_ge (u := 0) (v := 10) (tgt := 74) hx hb dX5_behind_24 (by decide) (by omega) (by omega) (fun c_4 => ?_) (fun c_4 => ?_)
    · skip
      refine lv_iload_n hx hb dX5_behind_74 rfl (lv_at hl 1 rfl) ?_
      exact rr_iret hx hb hr hlk (Nat.le_refl 0) (Nat.le_refl 0) hW (rP_x (show thS σ u = 1 from by unfold thS; (repeat' split) <;> first | rfl | omega) (by decide) (by subst eσ_3; first | rfl | (simp only [st]; done))) dX5_behind_75
    · skip
      refine lv_aload_n hx hb dX5_behind_27 rfl (lv_at hl 2 rfl) ?_
      refine rr_geti hx hb hts hinX5 hown hK hW 25 (by decide) rfl rfl (hts (.fieldLink RX5 70 "SeaPostModel" "thrown" "I") (by decide +kernel)) dX5_behind_28 ?_
      refine lv_tope (congrArg nI (show σ_3 25 0 = 1 by rw [eσ_3, st_s])) ?_
      refine lv_if_ne (tgt := 74) hx hb dX5_behind_31 (by decide) (fun _ => ?_) (fun z => absurd z (by decide))
      refine lv_iload_n hx hb dX5_behind_74 rfl (lv_at hl 1 rfl) ?_
      exact rr_iret hx hb hr hlk (Nat.le_refl 0) (Nat.le_refl 0) hW (rP_x (show thS σ u = 1 from by unfold thS; (repeat' split) <;> first | rfl | omega) (by decide) (by subst eσ_3; first | rfl | (simp only [st]; done))) dX5_behind_75
  · skip
    refine lv_iconst (v := nI 0) hx hb dX5_behind_9 (by decide) ?_
    refine lv_goto (tgt := 14) hx hb dX5_behind_10 (by decide) ?_
    refine rr_puti (v := 0) hx hb hts hinX5 hown hK hW 25 (by decide) rfl rfl (hts (.fieldLink RX5 70 "SeaPostModel" "thrown" "I") (by decide +kernel)) rfl (by decide +kernel) dX5_behind_14 (fun H locs hW => ?_)
    obtain ⟨σ_5, eσ_5⟩ : ∃ z : Sg, z = st σ 25 0 0 := ⟨_, rfl⟩
    rw [← eσ_5] at hW
    refine lv_iconst (v := nI 0) hx hb dX5_behind_17 (by decide) ?_
    refine lv_istore_n (lv' := [(2, .int (nI 0)), (0, .ref (ad 0)), (1, .int (nI u))]) hx hb dX5_behind_18 rfl hl (by decide) rfl (fun ls hl => ?_)
    refine lv_iconst (v := nI 0) hx hb dX5_behind_19 (by decide) ?_
    refine lv_istore_n (lv' := [(3, .int (nI 0)), (2, .int (nI 0)), (0, .ref (ad 0)), (1, .int (nI u))]) hx hb dX5_behind_20 rfl hl (by decide) rfl (fun ls hl => ?_)
    have h7u : σ 7 u ≤ 20 := h7 u (by omega)
    have h7e : σ_5 7 u = σ 7 u := by subst eσ_5; rfl
    refine m_loop 10 (fun n H locs ls => rW G ad (mA M sz) s.heap M σ_5 H locs ∧ lv_has ls 4 [(3, .int (nI n)), (2, .int (nI (beF σ_5 u n))), (0, .ref (ad 0)), (1, .int (nI u))]) 0 (by omega) ⟨hW, lv_sub hl [0, 1, 2, 3] rfl⟩ (fun n H locs ls hn hI ih => ?_)
    obtain ⟨hW, hl⟩ := hI
    refine lv_iload_n hx hb dX5_behind_21 rfl (lv_at hl 0 rfl) ?_
    refine lv_bipush (v := nI 10) hx hb dX5_behind_22 (by decide) ?_
    refine nv_icmp_ge (u := n) (v := 10) (tgt := 74) hx hb dX5_behind_24 (by decide) (by omega) (by omega) (fun c_6 => ?_) (fun c_6 => ?_)
    · skip
      refine lv_iload_n hx hb dX5_behind_74 rfl (lv_at hl 1 rfl) ?_
      exact rr_iret hx hb hr hlk (Nat.le_refl 0) (Nat.le_refl 0) hW (rP_0 (show thS σ u = 0 from by unfold thS; (repeat' split) <;> first | rfl | omega) (by subst eσ_5; rw [show n = 10 by omega]) (by subst eσ_5; rfl)) dX5_behind_75
    · skip
      refine lv_aload_n hx hb dX5_behind_27 rfl (lv_at hl 2 rfl) ?_
      refine rr_geti hx hb hts hinX5 hown hK hW 25 (by decide) rfl rfl (hts (.fieldLink RX5 70 "SeaPostModel" "thrown" "I") (by decide +kernel)) dX5_behind_28 ?_
      refine lv_tope (congrArg nI (show σ_5 25 0 = 0 by rw [eσ_5, st_s])) ?_
      refine lv_if_ne (tgt := 74) hx hb dX5_behind_31 (by decide) (fun z => absurd (by decide) z) (fun _ => ?_)
      refine lv_iload_n hx hb dX5_behind_34 rfl (lv_at hl 1 rfl) ?_
      refine lv_aload_n hx hb dX5_behind_35 rfl (lv_at hl 2 rfl) ?_
      refine rr_geta hx hb hts hinX5 hown hK hW 7 (by decide) rfl rfl (hts (.fieldLink RX5 28 "SeaPostModel" "routeMany" "[I") (by decide +kernel)) dX5_behind_36 ?_
      refine lv_iload_n hx hb dX5_behind_39 rfl (lv_at hl 3 rfl) ?_
      refine rr_ald (j := u) hx hb hK hW 7 rfl rfl (show u < 8 by omega) dX5_behind_40 ?_
      refine lv_tope (congrArg nI (show σ_5 7 u = σ 7 u by rw [eσ_5, st_f (by decide)])) ?_
      refine nv_if_le (tgt := 65) hx hb dX5_behind_41 (by decide) (by omega) (fun c_7 => ?_) (fun c_7 => ?_)
      · skip
        refine lv_iconst (v := nI 0) hx hb dX5_behind_65 (by decide) ?_
        refine lv_iadd hx hb dX5_behind_66 (lv_tope (nI_add (beF σ_5 u n) 0) ?_)
        refine lv_tope (y := nI (beF σ_5 u (n + 1))) (congrArg nI (show beF σ_5 u n + 0 = beF σ_5 u n + (if 0 < σ_5 7 u ∧ woS σ_5 n u ≠ σ_5 7 u - 1 then 1 else 0) by first | (rw [if_pos ⟨by omega, by omega⟩]) | (rw [if_neg (by omega)]))) ?_
        refine lv_istore_n (lv' := [(2, .int (nI (beF σ_5 u (n + 1)))), (3, .int (nI n)), (0, .ref (ad 0)), (1, .int (nI u))]) hx hb dX5_behind_67 rfl hl (by decide) rfl (fun ls hl => ?_)
        refine lv_iinc (v := nI (n + 1)) (lv' := [(3, .int (nI (n + 1))), (2, .int (nI (beF σ_5 u (n + 1)))), (0, .ref (ad 0)), (1, .int (nI u))]) hx hb dX5_behind_68 hl (k := 1) rfl (by rw [show (Int32.ofInt 1) = nI 1 by decide, nI_add]) (by decide) rfl (fun ls hl => ?_)
        refine lv_goto (tgt := 21) hx hb dX5_behind_71 (by decide) ?_
        exact ih _ _ _ (by omega) ⟨hW, lv_sub hl [0, 1, 2, 3] rfl⟩
      · skip
        refine lv_aload_n hx hb dX5_behind_44 rfl (lv_at hl 2 rfl) ?_
        refine lv_iload_n hx hb dX5_behind_45 rfl (lv_at hl 0 rfl) ?_
        refine lv_iload_n hx hb dX5_behind_46 rfl (lv_at hl 3 rfl) ?_
        refine rk_Vi (As := [.int (nI n), .int (nI u)]) (nL := 4) ⟨hx, hb, hml, hown, hts⟩ (c5_wordOf l G ad σ_5 n u (by omega) (by omega) (by subst eσ_5; exact h7) (by subst eσ_5; exact h12) (by subst eσ_5; exact hd)) (cwV 2 hts gX5_behind_X5_wordOf rfl rfl rfl (by decide +kernel) ⟨(Nat.le_of_ble_eq_true rfl), (Nat.le_of_ble_eq_true rfl)⟩) hK hE hW hA rfl hl.1 rfl (Nat.le_of_ble_eq_true rfl) dX5_behind_47 (Nat.zero_le _) (Nat.zero_le _) (fun r9 σ9 H locs hp_8 hW => ?_)
        obtain ⟨e91, e92⟩ := hp_8
        subst e91
        rw [e92] at hW
        clear e92
        refine lv_aload_n hx hb dX5_behind_50 rfl (lv_at hl 2 rfl) ?_
        refine rr_geta hx hb hts hinX5 hown hK hW 7 (by decide) rfl rfl (hts (.fieldLink RX5 28 "SeaPostModel" "routeMany" "[I") (by decide +kernel)) dX5_behind_51 ?_
        refine lv_iload_n hx hb dX5_behind_54 rfl (lv_at hl 3 rfl) ?_
        refine rr_ald (j := u) hx hb hK hW 7 rfl rfl (show u < 8 by omega) dX5_behind_55 ?_
        refine lv_tope (congrArg nI (show σ_5 7 u = σ 7 u by rw [eσ_5, st_f (by decide)])) ?_
        refine lv_iconst (v := nI 1) hx hb dX5_behind_56 (by decide) ?_
        refine lv_isub hx hb dX5_behind_57 (lv_tope (pk_sub (a := σ 7 u) (b := 1) (by omega)) ?_)
        have hwb := woS_b (σ := σ_5) (p := n) (s := u) (by omega)
        refine nv_icmp_eq (u := woS σ_5 n u) (v := σ 7 u - 1) (tgt := 65) hx hb dX5_behind_58 (by decide) (by omega) (by omega) (fun c_9 => ?_) (fun c_9 => ?_)
        · skip
          refine lv_iconst (v := nI 0) hx hb dX5_behind_65 (by decide) ?_
          refine lv_iadd hx hb dX5_behind_66 (lv_tope (nI_add (beF σ_5 u n) 0) ?_)
          refine lv_tope (y := nI (beF σ_5 u (n + 1))) (congrArg nI (show beF σ_5 u n + 0 = beF σ_5 u n + (if 0 < σ_5 7 u ∧ woS σ_5 n u ≠ σ_5 7 u - 1 then 1 else 0) by first | (rw [if_pos ⟨by omega, by omega⟩]) | (rw [if_neg (by omega)]))) ?_
          refine lv_istore_n (lv' := [(2, .int (nI (beF σ_5 u (n + 1)))), (3, .int (nI n)), (0, .ref (ad 0)), (1, .int (nI u))]) hx hb dX5_behind_67 rfl hl (by decide) rfl (fun ls hl => ?_)
          refine lv_iinc (v := nI (n + 1)) (lv' := [(3, .int (nI (n + 1))), (2, .int (nI (beF σ_5 u (n + 1)))), (0, .ref (ad 0)), (1, .int (nI u))]) hx hb dX5_behind_68 hl (k := 1) rfl (by rw [show (Int32.ofInt 1) = nI 1 by decide, nI_add]) (by decide) rfl (fun ls hl => ?_)
          refine lv_goto (tgt := 21) hx hb dX5_behind_71 (by decide) ?_
          exact ih _ _ _ (by omega) ⟨hW, lv_sub hl [0, 1, 2, 3] rfl⟩
        · skip
          refine lv_iconst (v := nI 1) hx hb dX5_behind_61 (by decide) ?_
          refine lv_goto (tgt := 66) hx hb dX5_behind_62 (by decide) ?_
          refine lv_iadd hx hb dX5_behind_66 (lv_tope (nI_add (beF σ_5 u n) 1) ?_)
          refine lv_tope (y := nI (beF σ_5 u (n + 1))) (congrArg nI (show beF σ_5 u n + 1 = beF σ_5 u n + (if 0 < σ_5 7 u ∧ woS σ_5 n u ≠ σ_5 7 u - 1 then 1 else 0) by first | (rw [if_pos ⟨by omega, by omega⟩]) | (rw [if_neg (by omega)]))) ?_
          refine lv_istore_n (lv' := [(2, .int (nI (beF σ_5 u (n + 1)))), (3, .int (nI n)), (0, .ref (ad 0)), (1, .int (nI u))]) hx hb dX5_behind_67 rfl hl (by decide) rfl (fun ls hl => ?_)
          refine lv_iinc (v := nI (n + 1)) (lv' := [(3, .int (nI (n + 1))), (2, .int (nI (beF σ_5 u (n + 1)))), (0, .ref (ad 0)), (1, .int (nI u))]) hx hb dX5_behind_68 hl (k := 1) rfl (by rw [show (Int32.ofInt 1) = nI 1 by decide, nI_add]) (by decide) rfl (fun ls hl => ?_)
          refine lv_goto (tgt := 21) hx hb dX5_behind_71 (by decide) ?_
          exact ih _ _ _ (by omega) ⟨hW, lv_sub hl [0, 1, 2, 3] rfl⟩
