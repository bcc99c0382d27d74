/-! THE REFERENCE'S METHODS, EIGHTH PART: the questions (rows laid by my program gen/ref8.py) -/
set_option maxHeartbeats 4000000 in
set_option maxRecDepth 100000 in
theorem c5_isLetter (l : Launch) (G : mG) (ad : Nat → Nat) (σ : Sg) (i : Nat) (hi : i < 4294967296) (h8 : σ 8 0 ≤ 40) : cRi l yX5_isLetter wsX5_isLetter 1 G ad σ [.int (nI i)] (fun r9 σ9 => r9 = nI (if i < σ 8 0 then 1 else 0) ∧ σ9 = st σ 25 0 (thL σ i)) := by
  intro M sz hR
  refine m_start cX5_isLetter 2 (some .boolean) (by decide) rfl (Nat.le_of_ble_eq_true rfl) ?_
  intro p e s m below meth c ls hx hb hr hml hown hlk hnm hts hK hsz hE hW hl
  have hA := mA_A (M := M) hsz
  have hl : lv_has ls 2 [(0, .ref (ad 0)), (1, .int (nI i))] := hl
  have hW := rW_start hR hW
  have hinX5 : ∀ w ∈ u_ws RX5 TX5 26, w ∈ wsX5_isLetter := (fun _ h => List.mem_cons_of_mem _ (List.mem_append_right _ h))
  refine lv_aload_n hx hb dX5_isLetter_0 rfl (lv_at hl 0 rfl) ?_
  refine lv_iload_n hx hb dX5_isLetter_1 rfl (lv_at hl 1 rfl) ?_
  refine lv_iconst (v := nI 0) hx hb dX5_isLetter_2 (by decide) ?_
  refine lv_aload_n hx hb dX5_isLetter_3 rfl (lv_at hl 0 rfl) ?_
  refine rr_geti hx hb hts hinX5 hown hK hW 8 (by decide) rfl rfl (hts (.fieldLink RX5 140 "SeaPostModel" "letters" "I") (by decide +kernel)) dX5_isLetter_4 ?_
  refine lv_iconst (v := nI 1) hx hb dX5_isLetter_7 (by decide) ?_
  refine lv_isub hx hb dX5_isLetter_8 ?_
  refine rk_S (As := [.int (nI i), .int (nI 0), .int (nI (σ 8 0) - nI 1)]) (nL := 2) ⟨hx, hb, hml, hown, hts⟩ (c5_in l i 0 (σ 8 0) (by omega) (by omega) (by omega)) (va_cwS 3 hts gX5_isLetter_X5_in rfl rfl rfl (by decide +kernel) ⟨(Nat.le_of_ble_eq_true rfl), (Nat.le_of_ble_eq_true rfl)⟩) hK hE hW hA rfl hl.1 rfl (Nat.le_of_ble_eq_true rfl) dX5_isLetter_9 (Nat.zero_le _) (Nat.zero_le _) (fun H locs hW => ?_)
  refine nb_if_eq (tgt := 19) hx hb dX5_isLetter_12 (by decide) (fun c_1 => ?_) (fun c_1 => ?_)
  · skip
    refine lv_iconst (v := nI 1) hx hb dX5_isLetter_19 (by decide) ?_
    refine rr_puti (v := 1) hx hb hts hinX5 hown hK hW 25 (by decide) rfl rfl (hts (.fieldLink RX5 70 "SeaPostModel" "thrown" "I") (by decide +kernel)) rfl (by decide +kernel) dX5_isLetter_20 (fun H locs hW => ?_)
    obtain ⟨σ_2, eσ_2⟩ : ∃ z : Sg, z = st σ 25 0 1 := ⟨_, rfl⟩
    rw [← eσ_2] at hW
    refine lv_aload_n hx hb dX5_isLetter_23 rfl (lv_at hl 0 rfl) ?_
    refine rr_geti hx hb hts hinX5 hown hK hW 25 (by decide) rfl rfl (hts (.fieldLink RX5 70 "SeaPostModel" "thrown" "I") (by decide +kernel)) dX5_isLetter_24 ?_
    refine lv_tope (congrArg nI (show σ_2 25 0 = 1 by rw [eσ_2, st_s])) ?_
    refine lv_if_ne (tgt := 34) hx hb dX5_isLetter_27 (by decide) (fun _ => ?_) (fun z => absurd z (by decide))
    refine lv_iconst (v := nI 0) hx hb dX5_isLetter_34 (by decide) ?_
    exact rr_zret (v := nI 0) hx hb hr hlk (by first | rfl | exact mc_nb | (exact mc_nc (by omega))) (Nat.le_refl 0) (Nat.le_refl 0) hW ⟨by first | (rw [if_pos (by omega)]) | (rw [if_neg (by omega)]), by subst eσ_2; unfold thL; first | (rw [if_pos (by omega)]; done) | (rw [if_neg (by omega)]; done)⟩ dX5_isLetter_35
  · skip
    refine lv_iconst (v := nI 0) hx hb dX5_isLetter_15 (by decide) ?_
    refine lv_goto (tgt := 20) hx hb dX5_isLetter_16 (by decide) ?_
    refine rr_puti (v := 0) hx hb hts hinX5 hown hK hW 25 (by decide) rfl rfl (hts (.fieldLink RX5 70 "SeaPostModel" "thrown" "I") (by decide +kernel)) rfl (by decide +kernel) dX5_isLetter_20 (fun H locs hW => ?_)
    obtain ⟨σ_3, eσ_3⟩ : ∃ z : Sg, z = st σ 25 0 0 := ⟨_, rfl⟩
    rw [← eσ_3] at hW
    refine lv_aload_n hx hb dX5_isLetter_23 rfl (lv_at hl 0 rfl) ?_
    refine rr_geti hx hb hts hinX5 hown hK hW 25 (by decide) rfl rfl (hts (.fieldLink RX5 70 "SeaPostModel" "thrown" "I") (by decide +kernel)) dX5_isLetter_24 ?_
    refine lv_tope (congrArg nI (show σ_3 25 0 = 0 by rw [eσ_3, st_s])) ?_
    refine lv_if_ne (tgt := 34) hx hb dX5_isLetter_27 (by decide) (fun z => absurd (by decide) z) (fun _ => ?_)
    refine lv_iconst (v := nI 1) hx hb dX5_isLetter_30 (by decide) ?_
    refine lv_goto (tgt := 35) hx hb dX5_isLetter_31 (by decide) ?_
    exact rr_zret (v := nI 1) hx hb hr hlk (by first | rfl | exact mc_nb | (exact mc_nc (by omega))) (Nat.le_refl 0) (Nat.le_refl 0) hW ⟨by first | (rw [if_pos (by omega)]) | (rw [if_neg (by omega)]), by subst eσ_3; unfold thL; first | (rw [if_pos (by omega)]; done) | (rw [if_neg (by omega)]; done)⟩ dX5_isLetter_35

set_option maxHeartbeats 4000000 in
set_option maxRecDepth 100000 in
theorem c5_state (l : Launch) (G : mG) (ad : Nat → Nat) (σ : Sg) (i : Nat) (hi : i < 4294967296) (hI : IV σ) : cRi l yX5_state wsX5_state 2 G ad σ [.int (nI i)] (rPost (thL σ i) (σ 12 i) (st σ 25 0 0) σ) := by
  intro M sz hR
  refine m_start cX5_state 2 (some .int) (by decide) rfl (Nat.le_of_ble_eq_true rfl) ?_
  intro p e s m below meth c ls hx hb hr hml hown hlk hnm hts hK hsz hE hW hl
  have hA := mA_A (M := M) hsz
  have hl : lv_has ls 2 [(0, .ref (ad 0)), (1, .int (nI i))] := hl
  have hW := rW_start hR hW
  have hinX5 : ∀ w ∈ u_ws RX5 TX5 26, w ∈ wsX5_state := (fun _ h => List.mem_cons_of_mem _ (List.mem_append_right _ h))
  have hV := hI.1
  have hB := hV.b
  obtain ⟨⟨h0, h8, hd⟩, h7, h3, h12, h45, h17, hl9, h23, h1921⟩ := id hB
  refine lv_aload_n hx hb dX5_state_0 rfl (lv_at hl 0 rfl) ?_
  refine lv_iload_n hx hb dX5_state_1 rfl (lv_at hl 1 rfl) ?_
  refine rk_Vi (As := [.int (nI i)]) (nL := 2) ⟨hx, hb, hml, hown, hts⟩ (c5_isLetter l G ad σ i hi h8) (cwV 1 hts gX5_state_X5_isLetter rfl rfl rfl (by decide +kernel) ⟨(Nat.le_of_ble_eq_true rfl), (Nat.le_of_ble_eq_true rfl)⟩) hK hE hW hA rfl hl.1 rfl (Nat.le_of_ble_eq_true rfl) dX5_state_2 (Nat.zero_le _) (Nat.zero_le _) (fun r9 σ9 H locs hp_1 hW => ?_)
  obtain ⟨e91, e92⟩ := hp_1
  subst e91
  obtain ⟨σ_2, eσ_2⟩ : ∃ z : Sg, z = σ9 := ⟨_, rfl⟩
  rw [← eσ_2] at hW
  rw [e92] at eσ_2
  clear e92
  refine nb_if_eq (tgt := 17) hx hb dX5_state_5 (by decide) (fun c_3 => ?_) (fun c_3 => ?_)
  · skip
    refine lv_iconst (v := nI 0) hx hb dX5_state_17 (by decide) ?_
    exact rr_iret hx hb hr hlk (Nat.le_refl 0) (Nat.le_refl 0) hW (by first | (exact rP_0 (if_pos (by assumption)) (by rfl) (by subst eσ_2; rw [show thL σ i = 0 from if_pos (by assumption)])) | (exact rP_x (k := 1) (if_neg (by assumption)) (by decide) (by subst eσ_2; rw [show thL σ i = 1 from if_neg (by assumption)]))) dX5_state_18
  · skip
    refine lv_aload_n hx hb dX5_state_8 rfl (lv_at hl 0 rfl) ?_
    refine rr_geta hx hb hts hinX5 hown hK hW 12 (by decide) rfl rfl (hts (.fieldLink RX5 40 "SeaPostModel" "stateOf" "[I") (by decide +kernel)) dX5_state_9 ?_
    refine lv_iload_n hx hb dX5_state_12 rfl (lv_at hl 1 rfl) ?_
    refine rr_ald (j := i) hx hb hK hW 12 rfl rfl (show i < 40 by omega) dX5_state_13 ?_
    refine lv_tope (congrArg nI (show σ_2 12 i = σ 12 i by rw [eσ_2, st_f (by decide)])) ?_
    refine lv_goto (tgt := 18) hx hb dX5_state_14 (by decide) ?_
    exact rr_iret hx hb hr hlk (Nat.le_refl 0) (Nat.le_refl 0) hW (by first | (exact rP_0 (if_pos (by assumption)) (by rfl) (by subst eσ_2; rw [show thL σ i = 0 from if_pos (by assumption)])) | (exact rP_x (k := 1) (if_neg (by assumption)) (by decide) (by subst eσ_2; rw [show thL σ i = 1 from if_neg (by assumption)]))) dX5_state_18

set_option maxHeartbeats 4000000 in
set_option maxRecDepth 100000 in
theorem c5_sentOn (l : Launch) (G : mG) (ad : Nat → Nat) (σ : Sg) (i : Nat) (hi : i < 4294967296) (hI : IV σ) : cRi l yX5_sentOn wsX5_sentOn 2 G ad σ [.int (nI i)] (rPost (thL σ i) (σ 15 i) (st σ 25 0 0) σ) := by
  intro M sz hR
  refine m_start cX5_sentOn 2 (some .int) (by decide) rfl (Nat.le_of_ble_eq_true rfl) ?_
  intro p e s m below meth c ls hx hb hr hml hown hlk hnm hts hK hsz hE hW hl
  have hA := mA_A (M := M) hsz
  have hl : lv_has ls 2 [(0, .ref (ad 0)), (1, .int (nI i))] := hl
  have hW := rW_start hR hW
  have hinX5 : ∀ w ∈ u_ws RX5 TX5 26, w ∈ wsX5_sentOn := (fun _ h => List.mem_cons_of_mem _ (List.mem_append_right _ h))
  have hV := hI.1
  have hB := hV.b
  obtain ⟨⟨h0, h8, hd⟩, h7, h3, h12, h45, h17, hl9, h23, h1921⟩ := id hB
  refine lv_aload_n hx hb dX5_sentOn_0 rfl (lv_at hl 0 rfl) ?_
  refine lv_iload_n hx hb dX5_sentOn_1 rfl (lv_at hl 1 rfl) ?_
  refine rk_Vi (As := [.int (nI i)]) (nL := 2) ⟨hx, hb, hml, hown, hts⟩ (c5_isLetter l G ad σ i hi h8) (cwV 1 hts gX5_sentOn_X5_isLetter rfl rfl rfl (by decide +kernel) ⟨(Nat.le_of_ble_eq_true rfl), (Nat.le_of_ble_eq_true rfl)⟩) hK hE hW hA rfl hl.1 rfl (Nat.le_of_ble_eq_true rfl) dX5_sentOn_2 (Nat.zero_le _) (Nat.zero_le _) (fun r9 σ9 H locs hp_1 hW => ?_)
  obtain ⟨e91, e92⟩ := hp_1
  subst e91
  obtain ⟨σ_2, eσ_2⟩ : ∃ z : Sg, z = σ9 := ⟨_, rfl⟩
  rw [← eσ_2] at hW
  rw [e92] at eσ_2
  clear e92
  refine nb_if_eq (tgt := 17) hx hb dX5_sentOn_5 (by decide) (fun c_3 => ?_) (fun c_3 => ?_)
  · skip
    refine lv_iconst (v := nI 0) hx hb dX5_sentOn_17 (by decide) ?_
    exact rr_iret hx hb hr hlk (Nat.le_refl 0) (Nat.le_refl 0) hW (by first | (exact rP_0 (if_pos (by assumption)) (by rfl) (by subst eσ_2; rw [show thL σ i = 0 from if_pos (by assumption)])) | (exact rP_x (k := 1) (if_neg (by assumption)) (by decide) (by subst eσ_2; rw [show thL σ i = 1 from if_neg (by assumption)]))) dX5_sentOn_18
  · skip
    refine lv_aload_n hx hb dX5_sentOn_8 rfl (lv_at hl 0 rfl) ?_
    refine rr_geta hx hb hts hinX5 hown hK hW 15 (by decide) rfl rfl (hts (.fieldLink RX5 49 "SeaPostModel" "sent" "[I") (by decide +kernel)) dX5_sentOn_9 ?_
    refine lv_iload_n hx hb dX5_sentOn_12 rfl (lv_at hl 1 rfl) ?_
    refine rr_ald (j := i) hx hb hK hW 15 rfl rfl (show i < 40 by omega) dX5_sentOn_13 ?_
    refine lv_tope (congrArg nI (show σ_2 15 i = σ 15 i by rw [eσ_2, st_f (by decide)])) ?_
    refine lv_goto (tgt := 18) hx hb dX5_sentOn_14 (by decide) ?_
    exact rr_iret hx hb hr hlk (Nat.le_refl 0) (Nat.le_refl 0) hW (by first | (exact rP_0 (if_pos (by assumption)) (by rfl) (by subst eσ_2; rw [show thL σ i = 0 from if_pos (by assumption)])) | (exact rP_x (k := 1) (if_neg (by assumption)) (by decide) (by subst eσ_2; rw [show thL σ i = 1 from if_neg (by assumption)]))) dX5_sentOn_18

set_option maxHeartbeats 4000000 in
set_option maxRecDepth 100000 in
theorem c5_marks (l : Launch) (G : mG) (ad : Nat → Nat) (σ : Sg) (i : Nat) (hi : i < 4294967296) (hI : IV σ) : cRi l yX5_marks wsX5_marks 2 G ad σ [.int (nI i)] (rPost (thL σ i) (σ 18 i) (st σ 25 0 0) σ) := by
  intro M sz hR
  refine m_start cX5_marks 2 (some .int) (by decide) rfl (Nat.le_of_ble_eq_true rfl) ?_
  intro p e s m below meth c ls hx hb hr hml hown hlk hnm hts hK hsz hE hW hl
  have hA := mA_A (M := M) hsz
  have hl : lv_has ls 2 [(0, .ref (ad 0)), (1, .int (nI i))] := hl
  have hW := rW_start hR hW
  have hinX5 : ∀ w ∈ u_ws RX5 TX5 26, w ∈ wsX5_marks := (fun _ h => List.mem_cons_of_mem _ (List.mem_append_right _ h))
  have hV := hI.1
  have hB := hV.b
  obtain ⟨⟨h0, h8, hd⟩, h7, h3, h12, h45, h17, hl9, h23, h1921⟩ := id hB
  refine lv_aload_n hx hb dX5_marks_0 rfl (lv_at hl 0 rfl) ?_
  refine lv_iload_n hx hb dX5_marks_1 rfl (lv_at hl 1 rfl) ?_
  refine rk_Vi (As := [.int (nI i)]) (nL := 2) ⟨hx, hb, hml, hown, hts⟩ (c5_isLetter l G ad σ i hi h8) (cwV 1 hts gX5_marks_X5_isLetter rfl rfl rfl (by decide +kernel) ⟨(Nat.le_of_ble_eq_true rfl), (Nat.le_of_ble_eq_true rfl)⟩) hK hE hW hA rfl hl.1 rfl (Nat.le_of_ble_eq_true rfl) dX5_marks_2 (Nat.zero_le _) (Nat.zero_le _) (fun r9 σ9 H locs hp_1 hW => ?_)
  obtain ⟨e91, e92⟩ := hp_1
  subst e91
  obtain ⟨σ_2, eσ_2⟩ : ∃ z : Sg, z = σ9 := ⟨_, rfl⟩
  rw [← eσ_2] at hW
  rw [e92] at eσ_2
  clear e92
  refine nb_if_eq (tgt := 17) hx hb dX5_marks_5 (by decide) (fun c_3 => ?_) (fun c_3 => ?_)
  · skip
    refine lv_iconst (v := nI 0) hx hb dX5_marks_17 (by decide) ?_
    exact rr_iret hx hb hr hlk (Nat.le_refl 0) (Nat.le_refl 0) hW (by first | (exact rP_0 (if_pos (by assumption)) (by rfl) (by subst eσ_2; rw [show thL σ i = 0 from if_pos (by assumption)])) | (exact rP_x (k := 1) (if_neg (by assumption)) (by decide) (by subst eσ_2; rw [show thL σ i = 1 from if_neg (by assumption)]))) dX5_marks_18
  · skip
    refine lv_aload_n hx hb dX5_marks_8 rfl (lv_at hl 0 rfl) ?_
    refine rr_geta hx hb hts hinX5 hown hK hW 18 (by decide) rfl rfl (hts (.fieldLink RX5 58 "SeaPostModel" "markMany" "[I") (by decide +kernel)) dX5_marks_9 ?_
    refine lv_iload_n hx hb dX5_marks_12 rfl (lv_at hl 1 rfl) ?_
    refine rr_ald (j := i) hx hb hK hW 18 rfl rfl (show i < 40 by omega) dX5_marks_13 ?_
    refine lv_tope (congrArg nI (show σ_2 18 i = σ 18 i by rw [eσ_2, st_f (by decide)])) ?_
    refine lv_goto (tgt := 18) hx hb dX5_marks_14 (by decide) ?_
    exact rr_iret hx hb hr hlk (Nat.le_refl 0) (Nat.le_refl 0) hW (by first | (exact rP_0 (if_pos (by assumption)) (by rfl) (by subst eσ_2; rw [show thL σ i = 0 from if_pos (by assumption)])) | (exact rP_x (k := 1) (if_neg (by assumption)) (by decide) (by subst eσ_2; rw [show thL σ i = 1 from if_neg (by assumption)]))) dX5_marks_18

set_option maxHeartbeats 4000000 in
set_option maxRecDepth 100000 in
theorem c5_comesTo (l : Launch) (G : mG) (ad : Nat → Nat) (σ : Sg) (i : Nat) (hi : i < 4294967296) (hI : IV σ) : cRi l yX5_comesTo wsX5_comesTo 2 G ad σ [.int (nI i)] (rPost (thL σ i) (coS σ i) (st σ 25 0 0) σ) := by
  intro M sz hR
  refine m_start cX5_comesTo 2 (some .int) (by decide) rfl (Nat.le_of_ble_eq_true rfl) ?_
  intro p e s m below meth c ls hx hb hr hml hown hlk hnm hts hK hsz hE hW hl
  have hA := mA_A (M := M) hsz
  have hl : lv_has ls 2 [(0, .ref (ad 0)), (1, .int (nI i))] := hl
  have hW := rW_start hR hW
  have hinX5 : ∀ w ∈ u_ws RX5 TX5 26, w ∈ wsX5_comesTo := (fun _ h => List.mem_cons_of_mem _ (List.mem_append_right _ h))
  have hV := hI.1
  have hB := hV.b
  obtain ⟨⟨h0, h8, hd⟩, h7, h3, h12, h45, h17, hl9, h23, h1921⟩ := id hB
  have hi9 := hl9 i
  refine lv_aload_n hx hb dX5_comesTo_0 rfl (lv_at hl 0 rfl) ?_
  refine lv_iload_n hx hb dX5_comesTo_1 rfl (lv_at hl 1 rfl) ?_
  refine rk_Vi (As := [.int (nI i)]) (nL := 2) ⟨hx, hb, hml, hown, hts⟩ (c5_isLetter l G ad σ i hi h8) (cwV 1 hts gX5_comesTo_X5_isLetter rfl rfl rfl (by decide +kernel) ⟨(Nat.le_of_ble_eq_true rfl), (Nat.le_of_ble_eq_true rfl)⟩) hK hE hW hA rfl hl.1 rfl (Nat.le_of_ble_eq_true rfl) dX5_comesTo_2 (Nat.zero_le _) (Nat.zero_le _) (fun r9 σ9 H locs hp_1 hW => ?_)
  obtain ⟨e91, e92⟩ := hp_1
  subst e91
  obtain ⟨σ_2, eσ_2⟩ : ∃ z : Sg, z = σ9 := ⟨_, rfl⟩
  rw [← eσ_2] at hW
  rw [e92] at eσ_2
  clear e92
  refine nb_if_ne (tgt := 12) hx hb dX5_comesTo_5 (by decide) (fun c_3 => ?_) (fun c_3 => ?_)
  · skip
    refine lv_aload_n hx hb dX5_comesTo_12 rfl (lv_at hl 0 rfl) ?_
    refine rr_geta hx hb hts hinX5 hown hK hW 12 (by decide) rfl rfl (hts (.fieldLink RX5 40 "SeaPostModel" "stateOf" "[I") (by decide +kernel)) dX5_comesTo_13 ?_
    refine lv_iload_n hx hb dX5_comesTo_16 rfl (lv_at hl 1 rfl) ?_
    refine rr_ald (j := i) hx hb hK hW 12 rfl rfl (show i < 40 by omega) dX5_comesTo_17 ?_
    refine lv_tope (congrArg nI (show σ_2 12 i = σ 12 i by rw [eσ_2, st_f (by decide)])) ?_
    refine lv_iconst (v := nI 3) hx hb dX5_comesTo_18 (by decide) ?_
    refine nv_icmp_ne (u := σ 12 i) (v := 3) (tgt := 41) hx hb dX5_comesTo_19 (by decide) (by omega) (by omega) (fun c_4 => ?_) (fun c_4 => ?_)
    · skip
      refine lv_iconst (v := nI 4294967295) hx hb dX5_comesTo_41 (by decide) ?_
      exact rr_iret hx hb hr hlk (Nat.le_refl 0) (Nat.le_refl 0) hW (by first | (exact rP_0 (if_pos (by assumption)) (by unfold coS; first | (rw [if_pos (by omega)]; done) | (rw [if_neg (by omega)]; done)) (by subst eσ_2; rw [show thL σ i = 0 from if_pos (by assumption)])) | (exact rP_x (k := 1) (if_neg (by assumption)) (by decide) (by subst eσ_2; rw [show thL σ i = 1 from if_neg (by assumption)]))) dX5_comesTo_42
    · skip
      refine lv_bipush (v := nI 100) hx hb dX5_comesTo_22 (by decide) ?_
      refine lv_aload_n hx hb dX5_comesTo_24 rfl (lv_at hl 0 rfl) ?_
      refine rr_geta hx hb hts hinX5 hown hK hW 14 (by decide) rfl rfl (hts (.fieldLink RX5 46 "SeaPostModel" "comesOn" "[I") (by decide +kernel)) dX5_comesTo_25 ?_
      refine lv_iload_n hx hb dX5_comesTo_28 rfl (lv_at hl 1 rfl) ?_
      refine rr_ald (j := i) hx hb hK hW 14 rfl rfl (show i < 40 by omega) dX5_comesTo_29 ?_
      refine lv_tope (congrArg nI (show σ_2 14 i = σ 14 i by rw [eσ_2, st_f (by decide)])) ?_
      refine lv_imul hx hb dX5_comesTo_30 (lv_tope (pk_mul 100 (σ 14 i)) ?_)
      refine lv_aload_n hx hb dX5_comesTo_31 rfl (lv_at hl 0 rfl) ?_
      refine rr_geta hx hb hts hinX5 hown hK hW 13 (by decide) rfl rfl (hts (.fieldLink RX5 43 "SeaPostModel" "portOf" "[I") (by decide +kernel)) dX5_comesTo_32 ?_
      refine lv_iload_n hx hb dX5_comesTo_35 rfl (lv_at hl 1 rfl) ?_
      refine rr_ald (j := i) hx hb hK hW 13 rfl rfl (show i < 40 by omega) dX5_comesTo_36 ?_
      refine lv_tope (congrArg nI (show σ_2 13 i = σ 13 i by rw [eσ_2, st_f (by decide)])) ?_
      refine lv_iadd hx hb dX5_comesTo_37 (lv_tope (nI_add (100 * (σ 14 i)) (σ 13 i)) ?_)
      refine lv_goto (tgt := 42) hx hb dX5_comesTo_38 (by decide) ?_
      exact rr_iret hx hb hr hlk (Nat.le_refl 0) (Nat.le_refl 0) hW (by first | (exact rP_0 (if_pos (by assumption)) (by unfold coS; first | (rw [if_pos (by omega)]; done) | (rw [if_neg (by omega)]; done)) (by subst eσ_2; rw [show thL σ i = 0 from if_pos (by assumption)])) | (exact rP_x (k := 1) (if_neg (by assumption)) (by decide) (by subst eσ_2; rw [show thL σ i = 1 from if_neg (by assumption)]))) dX5_comesTo_42
  · skip
    refine lv_iconst (v := nI 0) hx hb dX5_comesTo_8 (by decide) ?_
    refine lv_goto (tgt := 42) hx hb dX5_comesTo_9 (by decide) ?_
    exact rr_iret hx hb hr hlk (Nat.le_refl 0) (Nat.le_refl 0) hW (by first | (exact rP_0 (if_pos (by assumption)) (by unfold coS; first | (rw [if_pos (by omega)]; done) | (rw [if_neg (by omega)]; done)) (by subst eσ_2; rw [show thL σ i = 0 from if_pos (by assumption)])) | (exact rP_x (k := 1) (if_neg (by assumption)) (by decide) (by subst eσ_2; rw [show thL σ i = 1 from if_neg (by assumption)]))) dX5_comesTo_42

set_option maxHeartbeats 4000000 in
set_option maxRecDepth 100000 in
theorem c5_where (l : Launch) (G : mG) (ad : Nat → Nat) (σ : Sg) (i : Nat) (hi : i < 4294967296) (hI : IV σ) : cRi l yX5_where wsX5_where 2 G ad σ [.int (nI i)] (rPost (thL σ i) (whS σ i) (st σ 25 0 0) σ) := by
  intro M sz hR
  refine m_start cX5_where 2 (some .int) (by decide) rfl (Nat.le_of_ble_eq_true rfl) ?_
  intro p e s m below meth c ls hx hb hr hml hown hlk hnm hts hK hsz hE hW hl
  have hA := mA_A (M := M) hsz
  have hl : lv_has ls 2 [(0, .ref (ad 0)), (1, .int (nI i))] := hl
  have hW := rW_start hR hW
  have hinX5 : ∀ w ∈ u_ws RX5 TX5 26, w ∈ wsX5_where := (fun _ h => List.mem_cons_of_mem _ (List.mem_append_right _ h))
  have hV := hI.1
  have hB := hV.b
  obtain ⟨⟨h0, h8, hd⟩, h7, h3, h12, h45, h17, hl9, h23, h1921⟩ := id hB
  have hi9 := hl9 i
  refine lv_aload_n hx hb dX5_where_0 rfl (lv_at hl 0 rfl) ?_
  refine lv_iload_n hx hb dX5_where_1 rfl (lv_at hl 1 rfl) ?_
  refine rk_Vi (As := [.int (nI i)]) (nL := 2) ⟨hx, hb, hml, hown, hts⟩ (c5_isLetter l G ad σ i hi h8) (cwV 1 hts gX5_where_X5_isLetter rfl rfl rfl (by decide +kernel) ⟨(Nat.le_of_ble_eq_true rfl), (Nat.le_of_ble_eq_true rfl)⟩) hK hE hW hA rfl hl.1 rfl (Nat.le_of_ble_eq_true rfl) dX5_where_2 (Nat.zero_le _) (Nat.zero_le _) (fun r9 σ9 H locs hp_1 hW => ?_)
  obtain ⟨e91, e92⟩ := hp_1
  subst e91
  obtain ⟨σ_2, eσ_2⟩ : ∃ z : Sg, z = σ9 := ⟨_, rfl⟩
  rw [← eσ_2] at hW
  rw [e92] at eσ_2
  clear e92
  refine nb_if_ne (tgt := 10) hx hb dX5_where_5 (by decide) (fun c_3 => ?_) (fun c_3 => ?_)
  · skip
    refine lv_aload_n hx hb dX5_where_10 rfl (lv_at hl 0 rfl) ?_
    refine rr_geta hx hb hts hinX5 hown hK hW 12 (by decide) rfl rfl (hts (.fieldLink RX5 40 "SeaPostModel" "stateOf" "[I") (by decide +kernel)) dX5_where_11 ?_
    refine lv_iload_n hx hb dX5_where_14 rfl (lv_at hl 1 rfl) ?_
    refine rr_ald (j := i) hx hb hK hW 12 rfl rfl (show i < 40 by omega) dX5_where_15 ?_
    refine lv_tope (congrArg nI (show σ_2 12 i = σ 12 i by rw [eσ_2, st_f (by decide)])) ?_
    have hLI := hI.2.2.2.1 i (by assumption)
    have h12 : σ 12 i ≤ 7 := hLI.2.2.2.2.1
    have hsw : σ 12 i = 0 ∨ σ 12 i = 1 ∨ σ 12 i = 2 ∨ σ 12 i = 3 ∨ σ 12 i = 4 ∨ σ 12 i = 5 ∨ σ 12 i = 6 ∨ σ 12 i = 7 := by omega
    rcases hsw with hs | hs | hs | hs | hs | hs | hs | hs
    · rw [hs]
      refine lv_tableOut (tgt := 76) hx hb dX5_where_16 (by decide) (by decide) ?_
      refine lv_aload_n hx hb dX5_where_76 rfl (lv_at hl 0 rfl) ?_
      refine rr_geta hx hb hts hinX5 hown hK hW 13 (by decide) rfl rfl (hts (.fieldLink RX5 43 "SeaPostModel" "portOf" "[I") (by decide +kernel)) dX5_where_77 ?_
      refine lv_iload_n hx hb dX5_where_80 rfl (lv_at hl 1 rfl) ?_
      refine rr_ald (j := i) hx hb hK hW 13 rfl rfl (show i < 40 by omega) dX5_where_81 ?_
      refine lv_tope (congrArg nI (show σ_2 13 i = σ 13 i by rw [eσ_2, st_f (by decide)])) ?_
      exact rr_iret hx hb hr hlk (Nat.le_refl 0) (Nat.le_refl 0) hW (by first | (exact rP_x (k := 1) (if_neg (by assumption)) (by decide) (by subst eσ_2; rw [show thL σ i = 1 from if_neg (by assumption)])) | (exact rP_0 (if_pos (by assumption)) (by unfold whS; rw [hs]; rfl) (by subst eσ_2; rw [show thL σ i = 0 from if_pos (by assumption)]))) dX5_where_82
    · rw [hs]
      refine lv_tableIn (off := 47) (tgt := 63) hx hb dX5_where_16 (by decide) (by decide) (by decide) (by decide) ?_
      refine lv_bipush (v := nI 4294967293) hx hb dX5_where_63 (by decide) ?_
      exact rr_iret hx hb hr hlk (Nat.le_refl 0) (Nat.le_refl 0) hW (by first | (exact rP_x (k := 1) (if_neg (by assumption)) (by decide) (by subst eσ_2; rw [show thL σ i = 1 from if_neg (by assumption)])) | (exact rP_0 (if_pos (by assumption)) (by unfold whS; rw [hs]; rfl) (by subst eσ_2; rw [show thL σ i = 0 from if_pos (by assumption)]))) dX5_where_65
    · rw [hs]
      refine lv_tableIn (off := 60) (tgt := 76) hx hb dX5_where_16 (by decide) (by decide) (by decide) (by decide) ?_
      refine lv_aload_n hx hb dX5_where_76 rfl (lv_at hl 0 rfl) ?_
      refine rr_geta hx hb hts hinX5 hown hK hW 13 (by decide) rfl rfl (hts (.fieldLink RX5 43 "SeaPostModel" "portOf" "[I") (by decide +kernel)) dX5_where_77 ?_
      refine lv_iload_n hx hb dX5_where_80 rfl (lv_at hl 1 rfl) ?_
      refine rr_ald (j := i) hx hb hK hW 13 rfl rfl (show i < 40 by omega) dX5_where_81 ?_
      refine lv_tope (congrArg nI (show σ_2 13 i = σ 13 i by rw [eσ_2, st_f (by decide)])) ?_
      exact rr_iret hx hb hr hlk (Nat.le_refl 0) (Nat.le_refl 0) hW (by first | (exact rP_x (k := 1) (if_neg (by assumption)) (by decide) (by subst eσ_2; rw [show thL σ i = 1 from if_neg (by assumption)])) | (exact rP_0 (if_pos (by assumption)) (by unfold whS; rw [hs]; rfl) (by subst eσ_2; rw [show thL σ i = 0 from if_pos (by assumption)]))) dX5_where_82
    · rw [hs]
      refine lv_tableIn (off := 44) (tgt := 60) hx hb dX5_where_16 (by decide) (by decide) (by decide) (by decide) ?_
      refine lv_bipush (v := nI 4294967294) hx hb dX5_where_60 (by decide) ?_
      exact rr_iret hx hb hr hlk (Nat.le_refl 0) (Nat.le_refl 0) hW (by first | (exact rP_x (k := 1) (if_neg (by assumption)) (by decide) (by subst eσ_2; rw [show thL σ i = 1 from if_neg (by assumption)])) | (exact rP_0 (if_pos (by assumption)) (by unfold whS; rw [hs]; rfl) (by subst eσ_2; rw [show thL σ i = 0 from if_pos (by assumption)]))) dX5_where_62
    · rw [hs]
      refine lv_tableIn (off := 60) (tgt := 76) hx hb dX5_where_16 (by decide) (by decide) (by decide) (by decide) ?_
      refine lv_aload_n hx hb dX5_where_76 rfl (lv_at hl 0 rfl) ?_
      refine rr_geta hx hb hts hinX5 hown hK hW 13 (by decide) rfl rfl (hts (.fieldLink RX5 43 "SeaPostModel" "portOf" "[I") (by decide +kernel)) dX5_where_77 ?_
      refine lv_iload_n hx hb dX5_where_80 rfl (lv_at hl 1 rfl) ?_
      refine rr_ald (j := i) hx hb hK hW 13 rfl rfl (show i < 40 by omega) dX5_where_81 ?_
      refine lv_tope (congrArg nI (show σ_2 13 i = σ 13 i by rw [eσ_2, st_f (by decide)])) ?_
      exact rr_iret hx hb hr hlk (Nat.le_refl 0) (Nat.le_refl 0) hW (by first | (exact rP_x (k := 1) (if_neg (by assumption)) (by decide) (by subst eσ_2; rw [show thL σ i = 1 from if_neg (by assumption)])) | (exact rP_0 (if_pos (by assumption)) (by unfold whS; rw [hs]; rfl) (by subst eσ_2; rw [show thL σ i = 0 from if_pos (by assumption)]))) dX5_where_82
    · rw [hs]
      refine lv_tableIn (off := 50) (tgt := 66) hx hb dX5_where_16 (by decide) (by decide) (by decide) (by decide) ?_
      refine lv_bipush (v := nI 4294967292) hx hb dX5_where_66 (by decide) ?_
      exact rr_iret hx hb hr hlk (Nat.le_refl 0) (Nat.le_refl 0) hW (by first | (exact rP_x (k := 1) (if_neg (by assumption)) (by decide) (by subst eσ_2; rw [show thL σ i = 1 from if_neg (by assumption)])) | (exact rP_0 (if_pos (by assumption)) (by unfold whS; rw [hs]; rfl) (by subst eσ_2; rw [show thL σ i = 0 from if_pos (by assumption)]))) dX5_where_68
    · rw [hs]
      refine lv_tableIn (off := 53) (tgt := 69) hx hb dX5_where_16 (by decide) (by decide) (by decide) (by decide) ?_
      refine lv_aload_n hx hb dX5_where_69 rfl (lv_at hl 0 rfl) ?_
      refine rr_geta hx hb hts hinX5 hown hK hW 10 (by decide) rfl rfl (hts (.fieldLink RX5 34 "SeaPostModel" "homeOf" "[I") (by decide +kernel)) dX5_where_70 ?_
      refine lv_iload_n hx hb dX5_where_73 rfl (lv_at hl 1 rfl) ?_
      refine rr_ald (j := i) hx hb hK hW 10 rfl rfl (show i < 40 by omega) dX5_where_74 ?_
      refine lv_tope (congrArg nI (show σ_2 10 i = σ 10 i by rw [eσ_2, st_f (by decide)])) ?_
      exact rr_iret hx hb hr hlk (Nat.le_refl 0) (Nat.le_refl 0) hW (by first | (exact rP_x (k := 1) (if_neg (by assumption)) (by decide) (by subst eσ_2; rw [show thL σ i = 1 from if_neg (by assumption)])) | (exact rP_0 (if_pos (by assumption)) (by unfold whS; rw [hs]; rfl) (by subst eσ_2; rw [show thL σ i = 0 from if_pos (by assumption)]))) dX5_where_75
    · rw [hs]
      refine lv_tableIn (off := 50) (tgt := 66) hx hb dX5_where_16 (by decide) (by decide) (by decide) (by decide) ?_
      refine lv_bipush (v := nI 4294967292) hx hb dX5_where_66 (by decide) ?_
      exact rr_iret hx hb hr hlk (Nat.le_refl 0) (Nat.le_refl 0) hW (by first | (exact rP_x (k := 1) (if_neg (by assumption)) (by decide) (by subst eσ_2; rw [show thL σ i = 1 from if_neg (by assumption)])) | (exact rP_0 (if_pos (by assumption)) (by unfold whS; rw [hs]; rfl) (by subst eσ_2; rw [show thL σ i = 0 from if_pos (by assumption)]))) dX5_where_68
  · skip
    refine lv_iconst (v := nI 0) hx hb dX5_where_8 (by decide) ?_
    exact rr_iret hx hb hr hlk (Nat.le_refl 0) (Nat.le_refl 0) hW (by first | (exact rP_x (k := 1) (if_neg (by assumption)) (by decide) (by subst eσ_2; rw [show thL σ i = 1 from if_neg (by assumption)])) | (exact rP_0 (if_pos (by assumption)) (by unfold whS; rw [hs]; rfl) (by subst eσ_2; rw [show thL σ i = 0 from if_pos (by assumption)]))) dX5_where_9

theorem lpF_stop {σ : Sg} {i k : Nat} (hk : isPM (σ 17 (200 * i + k))) : ∀ n, k < n → (∀ j, k < j → j < n → ¬ isPM (σ 17 (200 * i + j))) → lpF σ i n = k
  | 0, h, _ => absurd h (Nat.not_lt_zero k)
  | n + 1, h, hn => by
    unfold lpF
    by_cases e : k = n
    · subst e; rw [if_pos hk]
    · rw [if_neg (hn n (by omega) (Nat.lt_succ_self n))]
      exact lpF_stop hk n (by omega) (fun j a b => hn j a (Nat.lt_succ_of_lt b))

set_option maxHeartbeats 4000000 in
set_option maxRecDepth 100000 in
theorem c5_whereByMarks (l : Launch) (G : mG) (ad : Nat → Nat) (σ : Sg) (i : Nat) (hi : i < 4294967296) (hI : IV σ) : cRi l yX5_whereByMarks wsX5_whereByMarks 2 G ad σ [.int (nI i)] (rPost (thL σ i) (wmS σ i) (st σ 25 0 0) σ) := by
  intro M sz hR
  refine m_start cX5_whereByMarks 6 (some .int) (by decide) rfl (Nat.le_of_ble_eq_true rfl) ?_
  intro p e s m below meth c ls hx hb hr hml hown hlk hnm hts hK hsz hE hW hl
  have hA := mA_A (M := M) hsz
  have hl : lv_has ls 6 [(0, .ref (ad 0)), (1, .int (nI i))] := hl
  have hW := rW_start hR hW
  have hinX5 : ∀ w ∈ u_ws RX5 TX5 26, w ∈ wsX5_whereByMarks := (fun _ h => List.mem_cons_of_mem _ (List.mem_append_right _ h))
  have hV := hI.1
  have hB := hV.b
  obtain ⟨⟨h0, h8, hd⟩, h7, h3, h12, h45, h17, hl9, h23, h1921⟩ := id hB
  refine lv_aload_n hx hb dX5_whereByMarks_0 rfl (lv_at hl 0 rfl) ?_
  refine lv_iload_n hx hb dX5_whereByMarks_1 rfl (lv_at hl 1 rfl) ?_
  refine rk_Vi (As := [.int (nI i)]) (nL := 6) ⟨hx, hb, hml, hown, hts⟩ (c5_isLetter l G ad σ i hi h8) (cwV 1 hts gX5_whereByMarks_X5_isLetter rfl rfl rfl (by decide +kernel) ⟨(Nat.le_of_ble_eq_true rfl), (Nat.le_of_ble_eq_true rfl)⟩) hK hE hW hA rfl hl.1 rfl (Nat.le_of_ble_eq_true rfl) dX5_whereByMarks_2 (Nat.zero_le _) (Nat.zero_le _) (fun r9 σ9 H locs hp_1 hW => ?_)
  obtain ⟨e91, e92⟩ := hp_1
  subst e91
  obtain ⟨σ_2, eσ_2⟩ : ∃ z : Sg, z = σ9 := ⟨_, rfl⟩
  rw [← eσ_2] at hW
  rw [e92] at eσ_2
  clear e92
  refine nb_if_ne (tgt := 10) hx hb dX5_whereByMarks_5 (by decide) (fun c_3 => ?_) (fun c_3 => ?_)
  · skip
    have hLI := hI.2.2.2.1 i (by assumption)
    have h18a : 2 ≤ σ 18 i := hLI.2.2.2.1
    have h18b : σ 18 i ≤ 125 := hLI.2.2.2.2.2.2.2.2.2
    have hp := hLI.2.2.1.lp
    refine lv_sipush (v := nI 200) hx hb dX5_whereByMarks_10 (by decide) ?_
    refine lv_iload_n hx hb dX5_whereByMarks_13 rfl (lv_at hl 1 rfl) ?_
    refine lv_imul hx hb dX5_whereByMarks_14 (lv_tope (pk_mul 200 i) ?_)
    refine lv_aload_n hx hb dX5_whereByMarks_15 rfl (lv_at hl 0 rfl) ?_
    refine rr_geta hx hb hts hinX5 hown hK hW 18 (by decide) rfl rfl (hts (.fieldLink RX5 58 "SeaPostModel" "markMany" "[I") (by decide +kernel)) dX5_whereByMarks_16 ?_
    refine lv_iload_n hx hb dX5_whereByMarks_19 rfl (lv_at hl 1 rfl) ?_
    refine rr_ald (j := i) hx hb hK hW 18 rfl rfl (show i < 40 by omega) dX5_whereByMarks_20 ?_
    refine lv_tope (congrArg nI (show σ_2 18 i = σ 18 i by rw [eσ_2, st_f (by decide)])) ?_
    refine lv_iadd hx hb dX5_whereByMarks_21 (lv_tope (nI_add (200 * i) (σ 18 i)) ?_)
    refine lv_iconst (v := nI 1) hx hb dX5_whereByMarks_22 (by decide) ?_
    refine lv_isub hx hb dX5_whereByMarks_23 (lv_tope (pk_sub (a := 200 * i + (σ 18 i)) (b := 1) (by omega)) ?_)
    refine lv_istore_n (lv' := [(2, .int (nI (200 * i + (σ 18 i) - 1))), (0, .ref (ad 0)), (1, .int (nI i))]) hx hb dX5_whereByMarks_24 rfl hl (by decide) rfl (fun ls hl => ?_)
    refine lv_aload_n hx hb dX5_whereByMarks_25 rfl (lv_at hl 1 rfl) ?_
    refine rr_geta hx hb hts hinX5 hown hK hW 17 (by decide) rfl rfl (hts (.fieldLink RX5 55 "SeaPostModel" "markOf" "[I") (by decide +kernel)) dX5_whereByMarks_26 ?_
    refine lv_iload_n hx hb dX5_whereByMarks_29 rfl (lv_at hl 0 rfl) ?_
    refine rr_ald (j := 200 * i + (σ 18 i) - 1) hx hb hK hW 17 rfl rfl (show 200 * i + (σ 18 i) - 1 < 8000 by omega) dX5_whereByMarks_30 ?_
    refine lv_tope (congrArg nI (show σ_2 17 (200 * i + (σ 18 i) - 1) = σ 17 (200 * i + (σ 18 i) - 1) by rw [eσ_2, st_f (by decide)])) ?_
    refine lv_istore_n (lv' := [(3, .int (nI (σ 17 (200 * i + (σ 18 i) - 1)))), (2, .int (nI (200 * i + (σ 18 i) - 1))), (0, .ref (ad 0)), (1, .int (nI i))]) hx hb dX5_whereByMarks_31 rfl hl (by decide) rfl (fun ls hl => ?_)
    refine lv_iload_n hx hb dX5_whereByMarks_32 rfl (lv_at hl 1 rfl) ?_
    refine lv_istore (lv' := [(4, .int (nI (200 * i + (σ 18 i) - 1))), (3, .int (nI (σ 17 (200 * i + (σ 18 i) - 1)))), (2, .int (nI (200 * i + (σ 18 i) - 1))), (0, .ref (ad 0)), (1, .int (nI i))]) hx hb dX5_whereByMarks_33 hl (by decide) rfl (fun ls hl => ?_)
    have hlast : 200 * i + σ 18 i - 1 = 200 * i + (σ 18 i - 1) := by omega
    refine m_loop (σ 18 i - 1 - lpS σ i) (fun n H locs ls => rW G ad (mA M sz) s.heap M σ_2 H locs ∧ (∀ j, σ 18 i - 1 - n < j → j < σ 18 i → ¬ isPM (σ 17 (200 * i + j))) ∧ lv_has ls 6 [(4, .int (nI (200 * i + (σ 18 i - 1 - n)))), (3, .int (nI (σ 17 (200 * i + σ 18 i - 1)))), (2, .int (nI (200 * i + σ 18 i - 1))), (0, .ref (ad 0)), (1, .int (nI i))]) 0 (Nat.zero_le _) ⟨hW, fun j a b => by omega, by rw [Nat.sub_zero, ← hlast]; exact lv_sub hl [0, 1, 2, 3, 4] rfl⟩ (fun n H locs ls hn hI2 ih => ?_)
    obtain ⟨hW, hno, hl⟩ := hI2
    have h17n := h17 (200 * i + (σ 18 i - 1 - n))
    refine lv_aload_n hx hb dX5_whereByMarks_35 rfl (lv_at hl 3 rfl) ?_
    refine rr_geta hx hb hts hinX5 hown hK hW 17 (by decide) rfl rfl (hts (.fieldLink RX5 55 "SeaPostModel" "markOf" "[I") (by decide +kernel)) dX5_whereByMarks_36 ?_
    refine lv_iload hx hb dX5_whereByMarks_39 (lv_at hl 0 rfl) ?_
    refine rr_ald (j := 200 * i + (σ 18 i - 1 - n)) hx hb hK hW 17 rfl rfl (show 200 * i + (σ 18 i - 1 - n) < 8000 by omega) dX5_whereByMarks_41 ?_
    refine lv_tope (congrArg nI (show σ_2 17 (200 * i + (σ 18 i - 1 - n)) = σ 17 (200 * i + (σ 18 i - 1 - n)) by rw [eσ_2, st_f (by decide)])) ?_
    refine rk_S (As := [.int (nI (σ 17 (200 * i + (σ 18 i - 1 - n))))]) (nL := 6) ⟨hx, hb, hml, hown, hts⟩ (c5_isPortMark l (σ 17 (200 * i + (σ 18 i - 1 - n))) (by omega)) (va_cwS 1 hts gX5_whereByMarks_X5_isPortMark rfl rfl rfl (by decide +kernel) ⟨(Nat.le_of_ble_eq_true rfl), (Nat.le_of_ble_eq_true rfl)⟩) hK hE hW hA rfl hl.1 rfl (Nat.le_of_ble_eq_true rfl) dX5_whereByMarks_42 (Nat.zero_le _) (Nat.zero_le _) (fun H locs hW => ?_)
    refine nb_if_ne (tgt := 54) hx hb dX5_whereByMarks_45 (by decide) (fun c_4 => ?_) (fun c_4 => ?_)
    · skip
      have hlp : lpS σ i = σ 18 i - 1 - n := lpF_stop (by assumption) (σ 18 i) (by omega) hno
      rw [← hlp] at hl
      have h17k := h17 (200 * i + lpS σ i - 1)
      have h17l := h17 (200 * i + σ 18 i - 1)
      have h17p := h17 (200 * i + lpS σ i)
      have hpm : isPM (σ 17 (200 * i + lpS σ i)) := by rw [hlp]; assumption
      have hpm1 : 65 ≤ σ 17 (200 * i + lpS σ i) := hpm.1
      clear ih
      refine lv_iload hx hb dX5_whereByMarks_54 (lv_at hl 0 rfl) ?_
      refine m_joinI (g' := F0 m 79 ls [.int (nI (if lpS σ i = σ 18 i - 1 ∧ σ 17 (200 * i + lpS σ i - 1) = 62 then 1 else 0))]) (fun H locs => rW G ad (mA M sz) s.heap M σ_2 H locs) (fun H locs hW => ?_) (fun J => ?_)
      · skip
        refine lv_istore (lv' := [(5, .int (nI (if lpS σ i = σ 18 i - 1 ∧ σ 17 (200 * i + lpS σ i - 1) = 62 then 1 else 0))), (4, .int (nI (200 * i + lpS σ i))), (3, .int (nI (σ 17 (200 * i + σ 18 i - 1)))), (2, .int (nI (200 * i + σ 18 i - 1))), (0, .ref (ad 0)), (1, .int (nI i))]) hx hb dX5_whereByMarks_79 hl (by decide) rfl (fun ls hl => ?_)
        refine lv_iload_n hx hb dX5_whereByMarks_81 rfl (lv_at hl 2 rfl) ?_
        refine lv_bipush (v := nI 33) hx hb dX5_whereByMarks_82 (by decide) ?_
        refine nv_icmp_ne (u := σ 17 (200 * i + σ 18 i - 1)) (v := 33) (tgt := 92) hx hb dX5_whereByMarks_84 (by decide) (by omega) (by omega) (fun c_5 => ?_) (fun c_5 => ?_)
        · skip
          refine lv_iload_n hx hb dX5_whereByMarks_92 rfl (lv_at hl 2 rfl) ?_
          refine lv_bipush (v := nI 43) hx hb dX5_whereByMarks_93 (by decide) ?_
          refine nv_icmp_eq (u := σ 17 (200 * i + σ 18 i - 1)) (v := 43) (tgt := 104) hx hb dX5_whereByMarks_95 (by decide) (by omega) (by omega) (fun c_6 => ?_) (fun c_6 => ?_)
          · skip
            refine lv_bipush (v := nI 4294967292) hx hb dX5_whereByMarks_104 (by decide) ?_
            refine lv_goto (tgt := 129) hx hb dX5_whereByMarks_106 (by decide) ?_
            exact rr_iret hx hb hr hlk (Nat.le_refl 0) (Nat.le_refl 0) hW (rP_0 (if_pos (by assumption)) (by unfold wmS; first | (rw [if_pos (by omega)]; done) | (rw [if_neg (by omega), if_pos (by omega)]; done) | (rw [if_neg (by omega), if_neg (by omega), if_pos (by assumption)]; done) | (rw [if_neg (by omega), if_neg (by omega), if_neg (by assumption)]; done)) (by subst eσ_2; rw [show thL σ i = 0 from if_pos (by assumption)])) dX5_whereByMarks_129
          · skip
            refine lv_iload_n hx hb dX5_whereByMarks_98 rfl (lv_at hl 2 rfl) ?_
            refine lv_bipush (v := nI 42) hx hb dX5_whereByMarks_99 (by decide) ?_
            refine nv_icmp_ne (u := σ 17 (200 * i + σ 18 i - 1)) (v := 42) (tgt := 109) hx hb dX5_whereByMarks_101 (by decide) (by omega) (by omega) (fun c_7 => ?_) (fun c_7 => ?_)
            · skip
              refine lv_iload hx hb dX5_whereByMarks_109 (lv_at hl 0 rfl) ?_
              refine nb_if_eq (tgt := 119) hx hb dX5_whereByMarks_111 (by decide) (fun c_8 => ?_) (fun c_8 => ?_)
              · skip
                refine lv_aload_n hx hb dX5_whereByMarks_119 rfl (lv_at hl 4 rfl) ?_
                refine rr_geta hx hb hts hinX5 hown hK hW 17 (by decide) rfl rfl (hts (.fieldLink RX5 55 "SeaPostModel" "markOf" "[I") (by decide +kernel)) dX5_whereByMarks_120 ?_
                refine lv_iload hx hb dX5_whereByMarks_123 (lv_at hl 1 rfl) ?_
                refine rr_ald (j := 200 * i + lpS σ i) hx hb hK hW 17 rfl rfl (show 200 * i + lpS σ i < 8000 by omega) dX5_whereByMarks_125 ?_
                refine lv_tope (congrArg nI (show σ_2 17 (200 * i + lpS σ i) = σ 17 (200 * i + lpS σ i) by rw [eσ_2, st_f (by decide)])) ?_
                refine lv_bipush (v := nI 65) hx hb dX5_whereByMarks_126 (by decide) ?_
                refine lv_isub hx hb dX5_whereByMarks_128 (lv_tope (pk_sub (a := σ 17 (200 * i + lpS σ i)) (b := 65) (by omega)) ?_)
                exact rr_iret hx hb hr hlk (Nat.le_refl 0) (Nat.le_refl 0) hW (rP_0 (if_pos (by assumption)) (by unfold wmS; first | (rw [if_pos (by omega)]; done) | (rw [if_neg (by omega), if_pos (by omega)]; done) | (rw [if_neg (by omega), if_neg (by omega), if_pos (by assumption)]; done) | (rw [if_neg (by omega), if_neg (by omega), if_neg (by assumption)]; done)) (by subst eσ_2; rw [show thL σ i = 0 from if_pos (by assumption)])) dX5_whereByMarks_129
              · skip
                refine lv_bipush (v := nI 4294967294) hx hb dX5_whereByMarks_114 (by decide) ?_
                refine lv_goto (tgt := 129) hx hb dX5_whereByMarks_116 (by decide) ?_
                exact rr_iret hx hb hr hlk (Nat.le_refl 0) (Nat.le_refl 0) hW (rP_0 (if_pos (by assumption)) (by unfold wmS; first | (rw [if_pos (by omega)]; done) | (rw [if_neg (by omega), if_pos (by omega)]; done) | (rw [if_neg (by omega), if_neg (by omega), if_pos (by assumption)]; done) | (rw [if_neg (by omega), if_neg (by omega), if_neg (by assumption)]; done)) (by subst eσ_2; rw [show thL σ i = 0 from if_pos (by assumption)])) dX5_whereByMarks_129
            · skip
              refine lv_bipush (v := nI 4294967292) hx hb dX5_whereByMarks_104 (by decide) ?_
              refine lv_goto (tgt := 129) hx hb dX5_whereByMarks_106 (by decide) ?_
              exact rr_iret hx hb hr hlk (Nat.le_refl 0) (Nat.le_refl 0) hW (rP_0 (if_pos (by assumption)) (by unfold wmS; first | (rw [if_pos (by omega)]; done) | (rw [if_neg (by omega), if_pos (by omega)]; done) | (rw [if_neg (by omega), if_neg (by omega), if_pos (by assumption)]; done) | (rw [if_neg (by omega), if_neg (by omega), if_neg (by assumption)]; done)) (by subst eσ_2; rw [show thL σ i = 0 from if_pos (by assumption)])) dX5_whereByMarks_129
        · skip
          refine lv_bipush (v := nI 4294967293) hx hb dX5_whereByMarks_87 (by decide) ?_
          refine lv_goto (tgt := 129) hx hb dX5_whereByMarks_89 (by decide) ?_
          exact rr_iret hx hb hr hlk (Nat.le_refl 0) (Nat.le_refl 0) hW (rP_0 (if_pos (by assumption)) (by unfold wmS; first | (rw [if_pos (by omega)]; done) | (rw [if_neg (by omega), if_pos (by omega)]; done) | (rw [if_neg (by omega), if_neg (by omega), if_pos (by assumption)]; done) | (rw [if_neg (by omega), if_neg (by omega), if_neg (by assumption)]; done)) (by subst eσ_2; rw [show thL σ i = 0 from if_pos (by assumption)])) dX5_whereByMarks_129
      · skip
        refine lv_iload_n hx hb dX5_whereByMarks_56 rfl (lv_at hl 2 rfl) ?_
        refine nv_icmp_ne (u := 200 * i + lpS σ i) (v := 200 * i + σ 18 i - 1) (tgt := 78) hx hb dX5_whereByMarks_57 (by decide) (by omega) (by omega) (fun c_9 => ?_) (fun c_9 => ?_)
        · skip
          refine lv_iconst (v := nI 0) hx hb dX5_whereByMarks_78 (by decide) ?_
          exact lv_tope (congrArg nI (show 0 = (if lpS σ i = σ 18 i - 1 ∧ σ 17 (200 * i + lpS σ i - 1) = 62 then 1 else 0) by first | (rw [if_pos ⟨by omega, by omega⟩]) | (rw [if_neg (by omega)]))) (J _ _ hW)
        · skip
          refine lv_aload_n hx hb dX5_whereByMarks_60 rfl (lv_at hl 3 rfl) ?_
          refine rr_geta hx hb hts hinX5 hown hK hW 17 (by decide) rfl rfl (hts (.fieldLink RX5 55 "SeaPostModel" "markOf" "[I") (by decide +kernel)) dX5_whereByMarks_61 ?_
          refine lv_iload hx hb dX5_whereByMarks_64 (lv_at hl 0 rfl) ?_
          refine lv_iconst (v := nI 1) hx hb dX5_whereByMarks_66 (by decide) ?_
          refine lv_isub hx hb dX5_whereByMarks_67 (lv_tope (pk_sub (a := 200 * i + lpS σ i) (b := 1) (by omega)) ?_)
          refine rr_ald (j := 200 * i + lpS σ i - 1) hx hb hK hW 17 rfl rfl (show 200 * i + lpS σ i - 1 < 8000 by omega) dX5_whereByMarks_68 ?_
          refine lv_tope (congrArg nI (show σ_2 17 (200 * i + lpS σ i - 1) = σ 17 (200 * i + lpS σ i - 1) by rw [eσ_2, st_f (by decide)])) ?_
          refine lv_bipush (v := nI 62) hx hb dX5_whereByMarks_69 (by decide) ?_
          refine nv_icmp_ne (u := σ 17 (200 * i + lpS σ i - 1)) (v := 62) (tgt := 78) hx hb dX5_whereByMarks_71 (by decide) (by omega) (by omega) (fun c_10 => ?_) (fun c_10 => ?_)
          · skip
            refine lv_iconst (v := nI 0) hx hb dX5_whereByMarks_78 (by decide) ?_
            exact lv_tope (congrArg nI (show 0 = (if lpS σ i = σ 18 i - 1 ∧ σ 17 (200 * i + lpS σ i - 1) = 62 then 1 else 0) by first | (rw [if_pos ⟨by omega, by omega⟩]) | (rw [if_neg (by omega)]))) (J _ _ hW)
          · skip
            refine lv_iconst (v := nI 1) hx hb dX5_whereByMarks_74 (by decide) ?_
            refine lv_goto (tgt := 79) hx hb dX5_whereByMarks_75 (by decide) ?_
            exact lv_tope (congrArg nI (show 1 = (if lpS σ i = σ 18 i - 1 ∧ σ 17 (200 * i + lpS σ i - 1) = 62 then 1 else 0) by first | (rw [if_pos ⟨by omega, by omega⟩]) | (rw [if_neg (by omega)]))) (J _ _ hW)
    · skip
      have hn2 : n < σ 18 i - 1 - lpS σ i := by
        rcases Nat.lt_or_ge n (σ 18 i - 1 - lpS σ i) with z | z
        · exact z
        · have hb9 := lpF_b (σ := σ) (i := i) (σ 18 i)
          have e9 : σ 18 i - 1 - n = lpF σ i (σ 18 i) := by have : lpS σ i = lpF σ i (σ 18 i) := rfl; omega
          have hlt9 : lpF σ i (σ 18 i) < σ 18 i := hp
          rcases hb9 with y | y
          · exact absurd y.2 (by rw [← e9]; assumption)
          · omega
      have hno2 : ∀ j, σ 18 i - 1 - (n + 1) < j → j < σ 18 i → ¬ isPM (σ 17 (200 * i + j)) := fun j a b => by
        by_cases e : j = σ 18 i - 1 - n
        · rw [e]; assumption
        · exact hno j (by omega) b
      clear hno
      refine lv_iinc (v := nI (200 * i + (σ 18 i - 1 - (n + 1)))) (lv' := [(4, .int (nI (200 * i + (σ 18 i - 1 - (n + 1))))), (3, .int (nI (σ 17 (200 * i + σ 18 i - 1)))), (2, .int (nI (200 * i + σ 18 i - 1))), (0, .ref (ad 0)), (1, .int (nI i))]) hx hb dX5_whereByMarks_48 hl (k := 0) rfl (by rw [show (Int32.ofInt (-1)) = -1 by decide, show 200 * i + (σ 18 i - 1 - n) = (200 * i + (σ 18 i - 1 - (n + 1))) + 1 by omega]; exact pk_m1 _) (by decide) rfl (fun ls hl => ?_)
      refine lv_goto (tgt := 35) hx hb dX5_whereByMarks_51 (by decide) ?_
      exact ih _ _ _ (by omega) ⟨hW, by assumption, lv_sub hl [0, 1, 2, 3, 4] rfl⟩
  · skip
    refine lv_iconst (v := nI 0) hx hb dX5_whereByMarks_8 (by decide) ?_
    exact rr_iret hx hb hr hlk (Nat.le_refl 0) (Nat.le_refl 0) hW (rP_x (k := 1) (if_neg (by assumption)) (by decide) (by subst eσ_2; rw [show thL σ i = 1 from if_neg (by assumption)])) dX5_whereByMarks_9
